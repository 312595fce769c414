theorem rg2_congr2 {f g : Nat → Nat → Int32} {a : Nat → Int32} (h : ∀ c, c < 3 → ∀ i, i < 576 → f c i = g c i) : rg2 f a = rg2 g a := by
  funext k
  unfold rg2
  by_cases h2 : 658 ≤ k ∧ k < 2386
  · rw [if_pos h2, if_pos h2, h _ (by omega) _ (by omega)]
  · rw [if_neg h2, if_neg h2]
theorem rg2_rg2 (f g : Nat → Nat → Int32) (a : Nat → Int32) : rg2 g (rg2 f a) = rg2 g a := by
  funext k
  unfold rg2
  by_cases h2 : 658 ≤ k ∧ k < 2386
  · rw [if_pos h2, if_pos h2]
  · rw [if_neg h2, if_neg h2, if_neg h2]
theorem mixF_congr {m : Int32} {n : Nat} {f g : Nat → Int32} (hn : n ≤ 288) (h : ∀ i, i < 576 → f i = g i) : ∀ i, i < 576 → mixF m n f i = mixF m n g i := by
  intro i hi
  unfold mixF
  by_cases h1 : i < n
  · rw [if_pos h1, if_pos h1, h i hi, h (288 + i) (by omega)]
  · rw [if_neg h1, if_neg h1]
    by_cases h2 : 288 ≤ i ∧ i < 288 + n
    · rw [if_pos h2, if_pos h2, h i hi, h (i - 288) (by omega)]
    · rw [if_neg h2, if_neg h2, h i hi]
theorem aD_rg2 {f : Nat → Nat → Int32} {a : Nat → Int32} {c i : Nat} (hc : c < 3) (hi : i < 576) : aD (rg2 f a) c i = f c i := by
  show rg2 f a (658 + 576 * c + i) = _
  rw [Nat.add_assoc, rg2_at hc hi]
/-- the row behind steps 1 and 2, and behind 3 and 4 -/
def turnA (n : Nat) (a : Nat → Int32) : Nat → Int32 := rg 21 12 (ang (aS a) (aP a) (aA a) n) (rg 9 12 (mom (aS a) (aP a) n) a)
def dyeA (n : Nat) (a : Nat → Int32) : Nat → Int32 := rg2 (fun c => mixF (a 8) (24 * n) (dyf (aD a c) (aA a) n (psh (aS a) (aP a)))) a
def MC (a a' : Nat → Int32) (w : Nat) : Prop := a' w = plN a w ∧ a' (w + 1) = anN a w ∧ a' (w + 2) = a (w + 2) + 1 ∧ a' (w + 3) = (if plN a w / 1000 = a w / 1000 then a (w + 3) else a (w + 3) + 1) ∧ a' (w + 4 + 2 * ((a (w + 2)).toNatClampNeg % 50)) = plN a w ∧ a' (w + 5 + 2 * ((a (w + 2)).toNatClampNeg % 50)) = anN a w ∧ (∀ j, j < 50 → j ≠ (a (w + 2)).toNatClampNeg % 50 → a' (w + 4 + 2 * j) = a (w + 4 + 2 * j) ∧ a' (w + 5 + 2 * j) = a (w + 5 + 2 * j))
theorem MC_congr {a b a' b' : Nat → Int32} {w : Nat} (h : MC a a' w) (hr : rgo (a w) < 12) (ha : ∀ k, (k < 21 ∨ (w ≤ k ∧ k < w + 104)) → b k = a k) (hb : ∀ k, w ≤ k → k < w + 104 → b' k = a' k) : MC b b' w := by
  have e0 : b w = a w := ha w (by omega)
  have e1 : b (w + 1) = a (w + 1) := ha _ (by omega)
  have e2 : b (w + 2) = a (w + 2) := ha _ (by omega)
  have e3 : b (w + 3) = a (w + 3) := ha _ (by omega)
  have ep : plN b w = plN a w := by
    unfold plN psh vel aS aP
    rw [e0, ha 0 (by omega), ha _ (by omega), ha _ (by omega), ha _ (by omega)]
  have en : anN b w = anN a w := by
    unfold anN vel aP
    rw [e0, e1, ha _ (by omega)]
  have h50 : (a (w + 2)).toNatClampNeg % 50 < 50 := Nat.mod_lt _ (by omega)
  obtain ⟨h0, h1, h2, h3, h4, h5, h6⟩ := h
  unfold MC
  rw [ep, en, e0, e2, e3, hb w (by omega) (by omega), hb (w + 1) (by omega) (by omega), hb (w + 2) (by omega) (by omega), hb (w + 3) (by omega) (by omega), hb _ (by omega) (by omega), hb (w + 5 + _) (by omega) (by omega)]
  refine ⟨h0, h1, h2, h3, h4, h5, fun j hj hne => ?_⟩
  rw [hb _ (by omega) (by omega), hb (w + 5 + 2 * j) (by omega) (by omega), ha _ (by omega), ha (w + 5 + 2 * j) (by omega)]
  exact h6 j hj hne
/-- a tick of the row -/
def TKR (n mk : Nat) (a a' : Nat → Int32) : Prop := (∀ m, m < mk → MC (dyeA n (turnA n a)) a' (34 + 104 * m)) ∧ a' 1 = a 1 + 1 ∧ ∀ k, k ≠ 1 → (k < 34 ∨ 34 + 104 * mk ≤ k) → a' k = dyeA n (turnA n a) k
theorem turnA_lo {n : Nat} {a : Nat → Int32} {k : Nat} (h : k < 9 ∨ 33 ≤ k) : turnA n a k = a k := by
  unfold turnA
  rw [rg_out (by omega), rg_out (by omega)]
theorem dyeA_lo {n : Nat} {a : Nat → Int32} {k : Nat} (h : k < 658) : dyeA n a k = a k := rg2_out h
theorem aS_turn {n : Nat} {a : Nat → Int32} {j : Nat} (h : j < 7) : aS (turnA n a) j = aS a j := turnA_lo (by omega)
theorem m_makeTick (μ : zM) (n mk : Nat) (hn : μ (21, 0, 0) 0 = nI n) (hn2 : 2 ≤ n) (hn12 : n ≤ 12) (hmk : μ (21, 0, 0) 33 = nI mk) (hmk6 : mk ≤ 6) (hm : ∀ m, m < mk → ∃ p g, p < 1000 * n ∧ g < 2 ^ 29 ∧ μ (21, 0, 0) (34 + 104 * m) = nI p ∧ μ (21, 0, 0) (34 + 104 * m + 2) = nI g) : zCv yX4_makeTick prog_6_method_29_code 2 (none : Option Jvm.ClassFile.FieldType) 5 [zR (20, 0, 0)] μ (fun μ' => zoff [(21, 0, 0), (25, 0, 0), (26, 0, 0)] μ μ' ∧ TKR n mk (μ (21, 0, 0)) (μ' (21, 0, 0))) := by
  refine zCt.of "DyeTankModel" rfl (by decide +kernel) rfl (Nat.le_of_ble_eq_true rfl) (fun K hR => ?_)
  have v20 := zv_20
  have v21 := zv_21
  have v22 := zv_22
  have v23 := zv_23
  have v24 := zv_24
  have v25 := zv_25
  have v26 := zv_26
  have v27 := zv_27
  have v28 := zv_28
  generalize ha : μ (21, 0, 0) = a at hn hmk hm ⊢
  have marks : ∀ (f i : Nat) (μ' : zM), i ≤ mk → mk < i + f → zoff [(21, 0, 0), (25, 0, 0), (26, 0, 0)] μ μ' → (∀ m, m < i → MC (dyeA n (turnA n a)) (μ' (21, 0, 0)) (34 + 104 * m)) → (∀ k, (k < 34 ∨ 34 + 104 * i ≤ k) → μ' (21, 0, 0) k = dyeA n (turnA n a) k) → Z K 5 "DyeTankModel" prog_6_method_29_code 2 62 [zR (20, 0, 0), zI (nI i)] [] μ' := by
    intro f
    induction f with
    | zero => intro i μ' h1 h2 h3 h4 h5; exact absurd ‹_ < _ + 0› (by omega)
    | succ f ih =>
      intro i μ' h1 h2 ho hd hk
      have lo : ∀ k, k < 9 → μ' (21, 0, 0) k = a k := fun k h => by rw [hk k (by omega), dyeA_lo (by omega), turnA_lo (by omega)]
      refine z_iload_n dX4_makeTick_62 rfl rfl ?_
      refine z_aload_n dX4_makeTick_63 rfl rfl ?_
      refine zg_X4_at dX4_makeTick_64 tw_552 ?_
      refine z_bipush (v := 33) dX4_makeTick_67 (by decide) ?_
      refine z_iald dX4_makeTick_69 (fun _ _ => rfl) rfl (i := 33) (by decide) ?_
      refine z_top ((show _ = nI mk by rw [hk 33 (by omega), dyeA_lo (by omega), turnA_lo (by omega)]; exact hmk)) ?_
      refine z_icmp_ge (tgt := 84) dX4_makeTick_70 (by decide) (fun hb => ?_) (fun hb => ?_)
      · have hb := nle hb
        have e : i = mk := by omega
        subst e
        refine z_aload_n dX4_makeTick_84 rfl rfl ?_
        refine zg_X4_at dX4_makeTick_85 tw_552 ?_
        refine z_iconst (v := 1) dX4_makeTick_88 (by decide) ?_
        refine z_dup2 dX4_makeTick_89 rfl rfl ?_
        refine z_iald dX4_makeTick_90 (fun _ _ => rfl) rfl (i := 1) (by decide) ?_
        refine z_iconst (v := 1) dX4_makeTick_91 (by decide) ?_
        refine z_iadd dX4_makeTick_92 ?_
        refine z_iast dX4_makeTick_93 (fun _ _ => rfl) rfl (i := 1) (by decide) ?_
        refine z_vret hR dX4_makeTick_94 (⟨rfl, ho.put (by simp) _, ?_, ?_, ?_⟩)
        · intro m hmi
          rw [st_eq, ha]
          obtain ⟨c0, c1, c2, c3, c4, c5, c6⟩ := hd m hmi
          refine ⟨?_, ?_, ?_, ?_, ?_, ?_, ?_⟩
          · unfold upd; rw [if_neg (by omega)]; exact c0
          · unfold upd; rw [if_neg (by omega)]; exact c1
          · unfold upd; rw [if_neg (by omega)]; exact c2
          · unfold upd; rw [if_neg (by omega)]; exact c3
          · unfold upd; rw [if_neg (by omega)]; exact c4
          · unfold upd; rw [if_neg (by omega)]; exact c5
          · intro j hj hne
            unfold upd
            rw [if_neg (by omega), if_neg (by omega)]
            exact c6 j hj hne
        · rw [st_eq, ha]
          unfold upd
          rw [if_pos rfl, lo 1 (by omega)]
        · intro k hk1 hk2
          rw [st_eq, ha]
          unfold upd
          rw [if_neg hk1]
          exact hk k hk2
      · have hb := nnle hb
        obtain ⟨p, g, hp, hg, ep, eg⟩ := hm i hb
        have r0 : μ' (21, 0, 0) (34 + 104 * i) = nI p := by rw [hk _ (by omega), dyeA_lo (by omega), turnA_lo (by omega)]; exact ep
        have r2 : μ' (21, 0, 0) (34 + 104 * i + 2) = nI g := by rw [hk _ (by omega), dyeA_lo (by omega), turnA_lo (by omega)]; exact eg
        refine z_aload_n dX4_makeTick_73 rfl rfl ?_
        refine z_iload_n dX4_makeTick_74 rfl rfl ?_
        refine z_cVv (m_stepMarker μ' n i p g (by omega) (by rw [lo 0 (by omega)]; exact hn) hn2 hn12 hp r0 hg r2) q_X4_stepMarker tw_690 dX4_makeTick_75 rfl rfl rfl (by omega) (Nat.le_of_ble_eq_true rfl) (fun μ2 hh => ?_)
        obtain ⟨o2, hMN⟩ := hh
        obtain ⟨c0, c1, c2, c3, c4, c5, c6, c7⟩ := hMN
        have hmc : MC (μ' (21, 0, 0)) (μ2 (21, 0, 0)) (34 + 104 * i) := ⟨c0, c1, c2, c3, c4, c5, c6⟩
        refine z_incS dX4_makeTick_78 rfl (inc1 _) (by decide) rfl ?_
        refine z_goto (tgt := 62) dX4_makeTick_81 (by decide) ?_
        refine ih (i + 1) μ2 (by omega) (by omega) (zoff.tr ho o2 (by simp)) ?_ ?_
        · intro m hmi
          by_cases e : m = i
          · rw [e]
            refine MC_congr hmc ?_ ?_ (fun k _ _ => rfl)
            · rw [r0]
              unfold rgo
              rw [nI_clamp (by omega)]
              omega
            · intro k hk2
              exact (hk k (by omega)).symm
          · have := hd m (by omega)
            obtain ⟨p', g', hp', hg', ep', eg'⟩ := hm m (by omega)
            refine MC_congr this ?_ (fun k _ => rfl) ?_
            · rw [dyeA_lo (by omega), turnA_lo (by omega), ep']
              unfold rgo
              rw [nI_clamp (by omega)]
              omega
            · intro k h8 h9
              exact c7 k (by omega)
        · intro k hk2
          rw [c7 k (by omega)]
          exact hk k (by omega)
  refine z_ls (ls' := [zR (20, 0, 0), zN]) rfl ?_
  refine z_aload_n dX4_makeTick_0 rfl rfl ?_
  refine z_cVv (m_stepMomenta μ n (by rw [ha]; exact hn) hn2 hn12) q_X4_stepMomenta tw_668 dX4_makeTick_1 rfl rfl rfl (by omega) (Nat.le_of_ble_eq_true rfl) (fun μ1 hh => ?_)
  obtain ⟨o1, a1⟩ := hh
  rw [ha] at a1
  have angles : ∀ (f i : Nat) (μ' : zM), i ≤ n → n < i + f → zoff [(21, 0, 0), (25, 0, 0), (26, 0, 0)] μ μ' → μ' (21, 0, 0) = rg 21 12 (fun j => if j < i then fmd (aA a j + vel (mom (aS a) (aP a) n) j) 3600 else aA a j) (rg 9 12 (mom (aS a) (aP a) n) a) → Z K 5 "DyeTankModel" prog_6_method_29_code 2 6 [zR (20, 0, 0), zI (nI i)] [] μ' := by
    intro f
    induction f with
    | zero => intro i μ' h1 h2 h3 h4; exact absurd ‹_ < _ + 0› (by omega)
    | succ f ih =>
      intro i μ' h1 h2 ho e
      have lo : ∀ k, (k < 9 ∨ 33 ≤ k) → μ' (21, 0, 0) k = a k := fun k h => by rw [e, rg_out (by omega), rg_out (by omega)]
      refine z_iload_n dX4_makeTick_6 rfl rfl ?_
      refine z_aload_n dX4_makeTick_7 rfl rfl ?_
      refine zg_X4_at dX4_makeTick_8 tw_552 ?_
      refine z_iconst (v := 0) dX4_makeTick_11 (by decide) ?_
      refine z_iald dX4_makeTick_12 (fun _ _ => rfl) rfl (i := 0) (by decide) ?_
      refine z_top ((show _ = nI n by rw [lo 0 (by omega)]; exact hn)) ?_
      refine z_icmp_ge (tgt := 52) dX4_makeTick_13 (by decide) (fun hb => ?_) (fun hb => ?_)
      · have hb := nle hb
        have e9 : i = n := by omega
        subst e9
        have et : μ' (21, 0, 0) = turnA i a := e
        refine z_aload_n dX4_makeTick_52 rfl rfl ?_
        refine z_cVv (m_stepDyes μ' i (by rw [lo 0 (by omega)]; exact hn) hn2 hn12 (fun r hr => by rw [et]; unfold aA turnA; rw [rg_in (show r < 12 by omega)]; exact ang_ok hr)) q_X4_stepDyes tw_672 dX4_makeTick_53 rfl rfl rfl (by omega) (Nat.le_of_ble_eq_true rfl) (fun μ2 hh => ?_)
        obtain ⟨o2, a2⟩ := hh
        have lo2 : ∀ k, (k < 9 ∨ 33 ≤ k ∧ k < 658) → μ2 (21, 0, 0) k = a k := fun k h => by rw [a2, rg2_out (by omega), lo k (by omega)]
        refine z_aload_n dX4_makeTick_56 rfl rfl ?_
        refine z_cVv (m_mix μ2 i (by rw [lo2 0 (by omega)]; exact hn) hn2 hn12) q_X4_mix tw_685 dX4_makeTick_57 rfl rfl rfl (by omega) (Nat.le_of_ble_eq_true rfl) (fun μ3 hh => ?_)
        obtain ⟨o3, a3⟩ := hh
        have ed : μ3 (21, 0, 0) = dyeA i (turnA i a) := by
          rw [a3, lo2 8 (by omega), a2, rg2_rg2, et]
          unfold dyeA
          refine rg2_congr2 (fun c hc j hj => ?_)
          rw [turnA_lo (by omega)]
          exact mixF_congr (by omega) (fun q hq => aD_rg2 hc hq) j hj
        refine z_iconst (v := 0) dX4_makeTick_60 (by decide) ?_
        refine z_istS_n dX4_makeTick_61 rfl (by decide) rfl ?_
        exact marks (mk + 1) 0 μ3 (by omega) (by omega) (zoff.tr (zoff.tr ho o2 (by simp)) o3 (by simp)) (fun m h => absurd h (by omega)) (fun k _ => by rw [ed])
      · have hb := nnle hb
        refine z_aload_n dX4_makeTick_16 rfl rfl ?_
        refine zg_X4_at dX4_makeTick_17 tw_552 ?_
        refine z_bipush (v := 21) dX4_makeTick_20 (by decide) ?_
        refine z_iload_n dX4_makeTick_22 rfl rfl ?_
        refine z_iadd dX4_makeTick_23 ?_
        refine z_top ((nI_add 21 i)) ?_
        refine z_aload_n dX4_makeTick_24 rfl rfl ?_
        refine zg_X4_at dX4_makeTick_25 tw_552 ?_
        refine z_bipush (v := 21) dX4_makeTick_28 (by decide) ?_
        refine z_iload_n dX4_makeTick_30 rfl rfl ?_
        refine z_iadd dX4_makeTick_31 ?_
        refine z_iald dX4_makeTick_32 (fun _ _ => rfl) (nI_add 21 i) (show 21 + i < 2386 by omega) ?_
        refine z_aload_n dX4_makeTick_33 rfl rfl ?_
        refine z_iload_n dX4_makeTick_34 rfl rfl ?_
        refine z_cVi (m_velocity _ i (by omega)) q_X4_velocity tw_616 dX4_makeTick_35 rfl rfl rfl (by omega) (Nat.le_of_ble_eq_true rfl) ?_
        refine z_iadd dX4_makeTick_38 ?_
        have hvel : vel (aP (μ' (21, 0, 0))) i = vel (mom (aS a) (aP a) n) i := by
          unfold vel aP
          rw [e, rg_out (by omega), rg_in (show i < 12 by omega)]
          rfl
        have hang : μ' (21, 0, 0) (21 + i) = aA a i := by
          rw [e, rg_in (show i < 12 by omega)]
          exact if_neg (by omega)
        refine z_top ((show _ = aA a i + vel (mom (aS a) (aP a) n) i by rw [hvel, hang])) ?_
        refine z_sipush (v := 3600) dX4_makeTick_39 (by decide) ?_
        refine z_cSi (c_mod _ _ _ (by decide)) q_X4_mod tw_656 dX4_makeTick_42 rfl rfl (by omega) (Nat.le_of_ble_eq_true rfl) ?_
        refine z_top ((fmd_mod (by decide)).symm) ?_
        refine z_iast dX4_makeTick_45 (fun _ _ => rfl) rfl (show 21 + i < 2386 by omega) ?_
        refine z_incS dX4_makeTick_46 rfl (inc1 _) (by decide) rfl ?_
        refine z_goto (tgt := 6) dX4_makeTick_49 (by decide) ?_
        refine ih (i + 1) _ (by omega) (by omega) (ho.put (by simp) _) ?_
        rw [st_eq, e, rg_upd (show i < 12 by omega)]
        congr 1
        exact pre_upd (f := fun j => fmd (aA a j + vel (mom (aS a) (aP a) n) j) 3600) rfl
  refine z_iconst (v := 0) dX4_makeTick_4 (by decide) ?_
  refine z_istS_n dX4_makeTick_5 rfl (by decide) rfl ?_
  refine angles (n + 1) 0 μ1 (by omega) (by omega) (o1.sub (by simp)) ?_
  rw [a1]
  refine (rg_self (fun j hj => ?_)).symm
  rw [if_neg (by omega), rg_out (by omega)]
  rfl
