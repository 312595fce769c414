/-! frames by kind: only rows of these kinds of tank t move -/
def zoffK (ks : List Nat) (t : Nat) (μ μ' : zM) : Prop := ∀ b : zA, (b.1 ∉ ks ∨ b.2.1 ≠ t) → μ' b = μ b
theorem zoffK.rf {ks : List Nat} {t : Nat} {μ : zM} : zoffK ks t μ μ := fun _ _ => rfl
theorem zoffK.of {S : List zA} {ks : List Nat} {t : Nat} {μ μ' : zM} (h : zoff S μ μ') (hs : ∀ a ∈ S, a.1 ∈ ks ∧ a.2.1 = t) : zoffK ks t μ μ' := fun b hb => h b (fun q => by
  obtain ⟨h1, h2⟩ := hs b q
  rcases hb with hb | hb
  · exact hb h1
  · exact hb h2)
theorem zoffK.tr {ks ks' : List Nat} {t : Nat} {μ μ' μ'' : zM} (h : zoffK ks t μ μ') (h' : zoffK ks' t μ' μ'') (hs : ∀ k ∈ ks', k ∈ ks) : zoffK ks t μ μ'' := fun b hb => (h' b (hb.imp (fun q z => q (hs _ z)) id)).trans (h b hb)
theorem zoffK.sub {ks ks' : List Nat} {t : Nat} {μ μ' : zM} (h : zoffK ks t μ μ') (hs : ∀ k ∈ ks, k ∈ ks') : zoffK ks' t μ μ' := fun b hb => h b (hb.imp (fun q z => q (hs _ z)) id)
theorem zoffK.put {ks : List Nat} {t : Nat} {μ μ' : zM} (h : zoffK ks t μ μ') (a : zA) (f : Nat → Int32) (h1 : a.1 ∈ ks := by simp) (h2 : a.2.1 = t := by rfl) : zoffK ks t μ (st μ' a f) := fun b hb => by
  have hne : b ≠ a := by
    intro e
    rw [e] at hb
    rcases hb with hb | hb
    · exact hb h1
    · exact hb h2
  rw [st_ne μ' f hne]
  exact h b hb
theorem zoffK.at {ks : List Nat} {t : Nat} {μ μ' : zM} (h : zoffK ks t μ μ') (b : zA) (hb : b.1 ∉ ks := by simp) : μ' b = μ b := h b (Or.inl hb)
/-! markers move -/
def rgo (x : Int32) : Nat := x.toNatClampNeg / 1000
/-- marker m of tank t has moved, by the velocity v and the push x of its ring -/
def MS (μ μ' : zM) (t m : Nat) : Prop := μ' (13, t, m) 0 = mvp (1000 * μ (5, t, 0) 0 - 1) (μ (13, t, m) 0) (μ (17, t, 0) (rgo (μ (13, t, m) 0))) ∧ μ' (13, t, m) 1 = fmd (μ (13, t, m) 1 + μ (16, t, 0) (rgo (μ (13, t, m) 0))) 3600 ∧ μ' (13, t, m) 2 = kp (μ (13, t, m) 2) ∧ μ' (13, t, m) 3 = (if mvp (1000 * μ (5, t, 0) 0 - 1) (μ (13, t, m) 0) (μ (17, t, 0) (rgo (μ (13, t, m) 0))) / 1000 = μ (13, t, m) 0 / 1000 then μ (13, t, m) 3 else μ (13, t, m) 3 + 1) ∧ μ' (13, t, m) 4 = nxt (μ (13, t, m) 4) ∧ μ' (14, t, m) = upd (μ (14, t, m)) (μ (13, t, m) 4).toNatClampNeg (mvp (1000 * μ (5, t, 0) 0 - 1) (μ (13, t, m) 0) (μ (17, t, 0) (rgo (μ (13, t, m) 0)))) ∧ μ' (15, t, m) = upd (μ (15, t, m)) (μ (13, t, m) 4).toNatClampNeg (fmd (μ (13, t, m) 1 + μ (16, t, 0) (rgo (μ (13, t, m) 0))) 3600)
/-- what a marker must be -/
def MK (μ : zM) (t n m : Nat) : Prop := ∃ p k : Nat, p < 1000 * n ∧ k < 50 ∧ μ (13, t, m) 0 = nI p ∧ μ (13, t, m) 4 = nI k
theorem c_moveMarkers (μ : zM) (t n mk : Nat) (ht : t < 4) (hn : μ (5, t, 0) 0 = nI n) (hn12 : n ≤ 12) (hmk : μ (5, t, 0) 2 = nI mk) (hmk6 : mk ≤ 6) (hm : ∀ m, m < mk → MK μ t n m) : zCv yX2_moveMarkers prog_4_method_30_code 4 (none : Option Jvm.ClassFile.FieldType) 3 [zR (5, t, 0)] μ (fun μ' => zoffK [13, 14, 15] t μ μ' ∧ ∀ m, m < mk → MS μ μ' t m) := by
  refine zCt.of "DyeTank$Tank" rfl (by decide +kernel) rfl (Nat.le_of_ble_eq_true rfl) (fun K hR => ?_)
  have v5 := zv_5 t ht
  have v6 := zv_6 t ht
  have v7 := zv_7 t ht
  have v8 := zv_8 t ht
  have v9 := zv_9 t ht
  have v10 := zv_10 t ht
  have v12 := zv_12 t ht
  have v16 := zv_16 t ht
  have v17 := zv_17 t ht
  have v18 := zv_18 t ht
  have loop : ∀ (f i : Nat) (x2 x3 : zV) (μ' : zM), zcat x2 = 1 → i ≤ mk → mk < i + f → zoffK [13, 14, 15] t μ μ' → (∀ m, m < i → MS μ μ' t m) → (∀ m, i ≤ m → μ' (13, t, m) = μ (13, t, m) ∧ μ' (14, t, m) = μ (14, t, m) ∧ μ' (15, t, m) = μ (15, t, m)) → Z K 3 "DyeTank$Tank" prog_4_method_30_code 4 2 [zR (5, t, 0), zI (nI i), x2, x3] [] μ' := by
    intro f
    induction f with
    | zero => intro i x2 x3 μ' h1 h2 h3 h4 h5 h6; exact absurd ‹_ < _ + 0› (by omega)
    | succ f ih =>
      intro i x2 x3 μ' hx2 h1 h2 ho hd hk
      have e5 := ho.at (5, t, 0)
      have e16 := ho.at (16, t, 0)
      have e17 := ho.at (17, t, 0)
      refine z_iload_n dX2_moveMarkers_2 rfl rfl ?_
      refine z_aload_n dX2_moveMarkers_3 rfl rfl ?_
      refine zg_X2_markerCount dX2_moveMarkers_4 tw_74 ?_
      refine z_top ((show _ = nI mk by rw [e5]; exact hmk)) ?_
      refine z_icmp_ge (tgt := 56) dX2_moveMarkers_7 (by decide) (fun hb => ?_) (fun hb => ?_)
      · have hb := nle hb
        have e : i = mk := by omega
        subst e
        refine z_vret hR dX2_moveMarkers_56 (⟨rfl, ho, hd⟩)
      · have hb := nnle hb
        obtain ⟨p, k, hp, hk50, ep, ek⟩ := hm i hb
        obtain ⟨k13, k14, k15⟩ := hk i (Nat.le_refl _)
        have ring : μ' (13, t, i) 0 / 1000 = nI (p / 1000) := by
          rw [k13, ep]
          exact pk_div (d := 1000) (by omega) (by omega) (by omega)
        have hrg : rgo (μ (13, t, i) 0) = p / 1000 := by
          unfold rgo
          rw [ep, nI_clamp (by omega)]
        have hlt : p / 1000 < n := by omega
        have v13 := zv_13 t ht i (by omega)
        refine z_aload_n dX2_moveMarkers_10 rfl rfl ?_
        refine zg_X2_markers dX2_moveMarkers_11 tw_86 ?_
        refine z_iload_n dX2_moveMarkers_14 rfl rfl ?_
        refine z_ald12 dX2_moveMarkers_15 rfl (by omega) ?_
        refine z_astS_n dX2_moveMarkers_16 rfl (by decide) rfl ?_
        refine z_aload_n dX2_moveMarkers_17 rfl rfl ?_
        refine z_cVi (c_ringNow μ' t i ht (by omega)) q_X0_ringNow tw_308 dX2_moveMarkers_18 rfl rfl rfl (by omega) (Nat.le_of_ble_eq_true rfl) ?_
        refine z_top (ring) ?_
        refine z_istS_n dX2_moveMarkers_21 rfl (by decide) rfl ?_
        refine z_aload_n dX2_moveMarkers_22 rfl rfl ?_
        refine z_iload_n dX2_moveMarkers_23 rfl rfl ?_
        refine z_cVi (c_hasRing μ' t ht _) q_X2_hasRing tw_297 dX2_moveMarkers_24 rfl rfl rfl (by omega) (Nat.le_of_ble_eq_true rfl) ?_
        refine z_beq (tgt := 50) dX2_moveMarkers_27 (by decide) (fun hr => ?_) (fun hr => ?_)
        · refine absurd ⟨nI_pos' (by omega), ?_⟩ hr
          rw [e5, hn]
          exact nI_lt hlt (by omega)
        · refine z_aload_n dX2_moveMarkers_30 rfl rfl ?_
          refine z_aload_n dX2_moveMarkers_31 rfl rfl ?_
          refine zg_X2_speeds dX2_moveMarkers_32 tw_88 ?_
          refine z_iload_n dX2_moveMarkers_35 rfl rfl ?_
          refine z_iald dX2_moveMarkers_36 (fun _ _ => rfl) rfl (by omega) ?_
          refine z_aload_n dX2_moveMarkers_37 rfl rfl ?_
          refine zg_X2_pushes dX2_moveMarkers_38 tw_89 ?_
          refine z_iload_n dX2_moveMarkers_41 rfl rfl ?_
          refine z_iald dX2_moveMarkers_42 (fun _ _ => rfl) rfl (by omega) ?_
          refine z_aload_n dX2_moveMarkers_43 rfl rfl ?_
          refine z_cVi (c_lastPlace μ' t ht) q_X2_lastPlace tw_309 dX2_moveMarkers_44 rfl rfl rfl (by omega) (Nat.le_of_ble_eq_true rfl) ?_
          refine z_cVv (c_move μ' t i k ht (by omega) hk50 (by rw [k13]; exact ek) _ _ _) q_X0_move tw_313 dX2_moveMarkers_47 rfl rfl rfl (by omega) (Nat.le_of_ble_eq_true rfl) (fun μ2 hh => ?_)
          obtain ⟨o2, q0, q1, q2, q3, q4, q14, q15⟩ := hh
          have o3 : zoffK [13, 14, 15] t μ' μ2 := zoffK.of o2 (by simp)
          refine z_incS dX2_moveMarkers_50 rfl (inc1 _) (by decide) rfl ?_
          refine z_goto (tgt := 2) dX2_moveMarkers_53 (by decide) ?_
          refine ih (i + 1) _ _ μ2 rfl (by omega) (by omega) (ho.tr o3 (by simp)) ?_ ?_
          · intro m hmi
            by_cases e : m = i
            · subst e
              rw [k13] at q0 q1 q2 q3
              rw [k13, k14] at q14
              rw [k13, k15] at q15
              unfold MS
              rw [hrg, ek, nI_clamp (by omega)]
              rw [e5, e17] at q0 q3 q14
              rw [e16] at q1 q15
              exact ⟨q0, q1, q2, q3, q4, q14, q15⟩
            · have w13 := o2 (13, t, m) (by simp [e])
              have w14 := o2 (14, t, m) (by simp [e])
              have w15 := o2 (15, t, m) (by simp [e])
              have := hd m (by omega)
              unfold MS at this ⊢
              rw [w13, w14, w15]
              exact this
          · intro m hmi
            have e : m ≠ i := by omega
            have w13 := o2 (13, t, m) (by simp [e])
            have w14 := o2 (14, t, m) (by simp [e])
            have w15 := o2 (15, t, m) (by simp [e])
            rw [w13, w14, w15]
            exact hk m (by omega)
  refine z_ls (ls' := [zR (5, t, 0), zN, zN, zN]) rfl ?_
  refine z_iconst (v := 0) dX2_moveMarkers_0 (by decide) ?_
  refine z_istS_n dX2_moveMarkers_1 rfl (by decide) rfl ?_
  exact loop (mk + 1) 0 zN zN μ rfl (by omega) (by omega) zoffK.rf (fun m h => absurd h (by omega)) (fun m _ => ⟨rfl, rfl, rfl⟩)
/-- a colour behind a tick -/
def dyN (D A S x : Nat → Int32) (n : Nat) (T : Int32) : Nat → Int32 := if 0 < T then mixF (S 6) (24 * n) (dyf D A n x) else D
theorem ang_ok {S P A : Nat → Int32} {n r : Nat} (hr : r < n) : ∃ a, a < 3600 ∧ ang S P A n r = nI a := by
  unfold ang
  rw [if_pos hr]
  exact fmd_ok _
theorem c_makeTick (μ : zM) (t n mk : Nat) (ht : t < 4) (hn : μ (5, t, 0) 0 = nI n) (hn2 : 2 ≤ n) (hn12 : n ≤ 12) (hmk : μ (5, t, 0) 2 = nI mk) (hmk6 : mk ≤ 6) (hm : ∀ m, m < mk → MK μ t n m) (hD : ∀ c, c < 3 → ∀ i, i < 576 → 0 ≤ μ (11, t, c) i) (h6 : 0 ≤ μ (6, t, 0) 6) : zCv yX2_makeTick prog_4_method_24_code 2 (none : Option Jvm.ClassFile.FieldType) 5 [zR (5, t, 0)] μ (fun μ' => zoffK [5, 7, 8, 11, 13, 14, 15, 16, 17, 18] t μ μ' ∧ μ' (5, t, 0) = upd (μ (5, t, 0)) 1 (μ (5, t, 0) 1 + 1) ∧ μ' (7, t, 0) = mom (μ (6, t, 0)) (μ (7, t, 0)) n ∧ μ' (8, t, 0) = ang (μ (6, t, 0)) (μ (7, t, 0)) (μ (8, t, 0)) n ∧ (∀ c, c < 3 → μ' (11, t, c) = dyN (μ (11, t, c)) (ang (μ (6, t, 0)) (μ (7, t, 0)) (μ (8, t, 0)) n) (μ (6, t, 0)) (psh (μ (6, t, 0)) (mom (μ (6, t, 0)) (μ (7, t, 0)) n)) n (μ (9, t, 0) c)) ∧ ∃ μ1, (∀ m, m < mk → MS μ1 μ' t m) ∧ μ1 (5, t, 0) = μ (5, t, 0) ∧ (∀ m, μ1 (13, t, m) = μ (13, t, m) ∧ μ1 (14, t, m) = μ (14, t, m) ∧ μ1 (15, t, m) = μ (15, t, m)) ∧ (∀ j, j < n → μ1 (16, t, 0) j = vel (mom (μ (6, t, 0)) (μ (7, t, 0)) n) j) ∧ (∀ j, j < n → μ1 (17, t, 0) j = psh (μ (6, t, 0)) (mom (μ (6, t, 0)) (μ (7, t, 0)) n) j)) := by
  refine zCt.of "DyeTank$Tank" rfl (by decide +kernel) rfl (Nat.le_of_ble_eq_true rfl) (fun K hR => ?_)
  have v5 := zv_5 t ht
  have v6 := zv_6 t ht
  have v7 := zv_7 t ht
  have v8 := zv_8 t ht
  have v9 := zv_9 t ht
  have v10 := zv_10 t ht
  have v12 := zv_12 t ht
  have v16 := zv_16 t ht
  have v17 := zv_17 t ht
  have v18 := zv_18 t ht
  refine z_ls (ls' := [zR (5, t, 0), zN]) rfl ?_
  refine z_aload_n dX2_makeTick_0 rfl rfl ?_
  refine z_cVv (c_turn μ t n ht hn hn2 hn12) q_X2_turn tw_277 dX2_makeTick_1 rfl rfl rfl (by omega) (Nat.le_of_ble_eq_true rfl) (fun μ0 hh => ?_)
  obtain ⟨o0, h7, h8, h16, h17⟩ := hh
  have p0 : zoffK [7, 8, 16, 17] t μ μ0 := zoffK.of o0 (by simp)
  have loop : ∀ (f i : Nat) (μ' : zM), i ≤ 3 → 3 < i + f → zoffK [11, 18] t μ0 μ' → (∀ c, c < i → μ' (11, t, c) = dyN (μ (11, t, c)) (ang (μ (6, t, 0)) (μ (7, t, 0)) (μ (8, t, 0)) n) (μ (6, t, 0)) (psh (μ (6, t, 0)) (mom (μ (6, t, 0)) (μ (7, t, 0)) n)) n (μ (9, t, 0) c)) → (∀ c, i ≤ c → μ' (11, t, c) = μ (11, t, c)) → Z K 5 "DyeTank$Tank" prog_4_method_24_code 2 6 [zR (5, t, 0), zI (nI i)] [] μ' := by
    intro f
    induction f with
    | zero => intro i μ' h1 h2 h3 h4 h5; exact absurd ‹_ < _ + 0› (by omega)
    | succ f ih =>
      intro i μ' h1 h2 ho hd hk
      have e5 : μ' (5, t, 0) = μ (5, t, 0) := (ho.at (5, t, 0)).trans (p0.at (5, t, 0))
      have e6 : μ' (6, t, 0) = μ (6, t, 0) := (ho.at (6, t, 0)).trans (p0.at (6, t, 0))
      have e9 : μ' (9, t, 0) = μ (9, t, 0) := (ho.at (9, t, 0)).trans (p0.at (9, t, 0))
      have e7 : μ' (7, t, 0) = μ0 (7, t, 0) := ho.at (7, t, 0)
      have e8 : μ' (8, t, 0) = μ0 (8, t, 0) := ho.at (8, t, 0)
      have e16 : μ' (16, t, 0) = μ0 (16, t, 0) := ho.at (16, t, 0)
      have e17 : μ' (17, t, 0) = μ0 (17, t, 0) := ho.at (17, t, 0)
      have e13 : ∀ m, μ' (13, t, m) = μ (13, t, m) ∧ μ' (14, t, m) = μ (14, t, m) ∧ μ' (15, t, m) = μ (15, t, m) := fun m => ⟨(ho.at (13, t, m)).trans (p0.at (13, t, m)), (ho.at (14, t, m)).trans (p0.at (14, t, m)), (ho.at (15, t, m)).trans (p0.at (15, t, m))⟩
      refine z_iload_n dX2_makeTick_6 rfl rfl ?_
      refine z_iconst (v := 3) dX2_makeTick_7 (by decide) ?_
      refine z_icmp_ge (tgt := 31) dX2_makeTick_8 (by decide) (fun hb => ?_) (fun hb => ?_)
      · have hb := nle (a := 3) hb
        have e : i = 3 := by omega
        subst e
        refine z_aload_n dX2_makeTick_31 rfl rfl ?_
        refine z_cVv (c_moveMarkers μ' t n mk ht (by rw [e5]; exact hn) hn12 (by rw [e5]; exact hmk) hmk6 (fun m h => by unfold MK; rw [(e13 m).1]; exact hm m h)) q_X2_moveMarkers tw_304 dX2_makeTick_32 rfl rfl rfl (by omega) (Nat.le_of_ble_eq_true rfl) (fun μ2 hh => ?_)
        obtain ⟨o2, hms⟩ := hh
        refine z_aload_n dX2_makeTick_35 rfl rfl ?_
        refine z_dup dX2_makeTick_36 rfl ?_
        refine zg_X2_time dX2_makeTick_37 tw_72 ?_
        refine z_iconst (v := 1) dX2_makeTick_40 (by decide) ?_
        refine z_iadd dX2_makeTick_41 ?_
        refine zp_X2_time dX2_makeTick_42 tw_72 ?_
        refine z_vret hR dX2_makeTick_45 (⟨rfl, ?_, ?_, ?_, ?_, ?_, μ', ?_, e5, e13, ?_, ?_⟩)
        · exact (((p0.sub (ks' := [5, 7, 8, 11, 13, 14, 15, 16, 17, 18]) (by simp)).tr ho (by simp)).tr o2 (by simp)).put (5, t, 0) _
        · rw [st_eq, o2.at (5, t, 0), e5]
        · rw [st_ne _ _ (by simp), o2.at (7, t, 0), e7, h7]
        · rw [st_ne _ _ (by simp), o2.at (8, t, 0), e8, h8]
        · intro c hc
          rw [st_ne _ _ (by simp), o2.at (11, t, c)]
          exact hd c hc
        · intro m h
          have := hms m h
          unfold MS at this ⊢
          rw [st_ne _ _ (show ((13, t, m) : zA) ≠ (5, t, 0) by simp), st_ne _ _ (show ((14, t, m) : zA) ≠ (5, t, 0) by simp), st_ne _ _ (show ((15, t, m) : zA) ≠ (5, t, 0) by simp)]
          exact this
        · rw [e16]
          exact h16
        · rw [e17]
          exact h17
      · have hb := nnle (a := 3) hb
        refine z_aload_n dX2_makeTick_11 rfl rfl ?_
        refine zg_X2_totals dX2_makeTick_12 tw_82 ?_
        refine z_iload_n dX2_makeTick_15 rfl rfl ?_
        refine z_iald dX2_makeTick_16 (fun _ _ => rfl) rfl (by omega) ?_
        refine z_top ((show _ = μ (9, t, 0) i by rw [e9])) ?_
        refine z_if_le (tgt := 25) dX2_makeTick_17 (by decide) (fun hz => ?_) (fun hz => ?_)
        · refine z_incS dX2_makeTick_25 rfl (inc1 _) (by decide) rfl ?_
          refine z_goto (tgt := 6) dX2_makeTick_28 (by decide) ?_
          refine ih (i + 1) μ' (by omega) (by omega) ho ?_ (fun c hc => hk c (by omega))
          intro c hc
          by_cases e : c = i
          · subst e
            unfold dyN
            rw [if_neg (Int32.not_lt.mpr hz)]
            exact hk c (Nat.le_refl _)
          · exact hd c (by omega)
        · refine z_aload_n dX2_makeTick_20 rfl rfl ?_
          refine z_iload_n dX2_makeTick_21 rfl rfl ?_
          refine z_cVv (c_carry μ' t i n ht (by omega) (by rw [e5]; exact hn) hn12 (psh (μ (6, t, 0)) (mom (μ (6, t, 0)) (μ (7, t, 0)) n)) (by rw [e17]; exact h17) (by rw [e8, h8]; exact fun r hr => ang_ok hr) (by rw [hk i (Nat.le_refl _)]; exact hD i hb) (by rw [e6]; exact h6)) q_X2_carry tw_289 dX2_makeTick_22 rfl rfl rfl (by omega) (Nat.le_of_ble_eq_true rfl) (fun μ2 hh => ?_)
          obtain ⟨o2, h11⟩ := hh
          have o3 : zoffK [11, 18] t μ' μ2 := zoffK.of o2 (by simp)
          refine z_incS dX2_makeTick_25 rfl (inc1 _) (by decide) rfl ?_
          refine z_goto (tgt := 6) dX2_makeTick_28 (by decide) ?_
          refine ih (i + 1) μ2 (by omega) (by omega) (ho.tr o3 (by simp)) ?_ ?_
          · intro c hc
            by_cases e : c = i
            · subst e
              unfold dyN
              rw [if_pos (Int32.not_le.mp hz), h11, e6, e8, h8, hk c (Nat.le_refl _)]
            · rw [o2 (11, t, c) (by simp [e])]
              exact hd c (by omega)
          · intro c hc
            have e : c ≠ i := by omega
            rw [o2 (11, t, c) (by simp [e])]
            exact hk c (by omega)
  refine z_iconst (v := 0) dX2_makeTick_4 (by decide) ?_
  refine z_istS_n dX2_makeTick_5 rfl (by decide) rfl ?_
  exact loop 4 0 μ0 (by omega) (by omega) zoffK.rf (fun c h => absurd h (by omega)) (fun c _ => p0.at (11, t, c))
