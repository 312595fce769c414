/-! the reference's forecasts: the first number of ticks at which something holds -/
theorem tickF_lo {a : Nat → Int32} {k : Nat} (h : k < 9 ∨ k = 33) (h1 : k ≠ 1) : tickF a k = a k := by
  unfold tickF midA
  rw [if_neg h1, if_neg (by omega), dyeA_lo (by omega), turnA_lo (by omega)]
theorem itF_lo (a : Nat → Int32) {k : Nat} (h : k < 9 ∨ k = 33) (h1 : k ≠ 1) : ∀ i, itF i a k = a k
  | 0 => rfl
  | i + 1 => (tickF_lo h h1).trans (itF_lo a h h1 i)
def FST (h : Nat → Bool) (most : Nat) (w : Int32) : Prop := (∃ k, k ≤ most ∧ h k = true ∧ (∀ j, j < k → h j = false) ∧ w = nI k) ∨ ((∀ j, j ≤ most → h j = false) ∧ w = -6)
theorem FST_eq {h : Nat → Bool} {most : Nat} {w w' : Int32} (q : FST h most w) (q' : FST h most w') : w = w' := by
  rcases q with ⟨k, hk, h1, h2, e⟩ | ⟨h1, e⟩ <;> rcases q' with ⟨k', hk', h1', h2', e'⟩ | ⟨h1', e'⟩
  · rw [e, e']
    congr 1
    rcases Nat.lt_trichotomy k k' with hlt | heq | hgt
    · rw [h2' k hlt] at h1; exact absurd h1 (by decide)
    · exact heq
    · rw [h2 k' hgt] at h1'; exact absurd h1' (by decide)
  · rw [h1' k hk] at h1; exact absurd h1 (by decide)
  · rw [h1 k' hk'] at h1'; exact absurd h1' (by decide)
  · rw [e, e']
def holdB (a : Nat → Int32) (n : Nat) (w x y z : Int32) : Bool := if w = 0 then settB a n x else if w = 1 then partB a n x.toNatClampNeg y.toNatClampNeg z else nearB a x.toNatClampNeg y.toNatClampNeg z
def hOK (n : Nat) (w x y : Int32) : Prop := w = 0 ∨ (w = 1 ∧ (∃ c, c < 3 ∧ x = nI c) ∧ ∃ r, r < n ∧ y = nI r) ∨ (w = 2 ∧ (∃ i, i < 6 ∧ x = nI i) ∧ ∃ j, j < 6 ∧ y = nI j)
theorem m_holds (μ : zM) (n : Nat) (hn : μ (21, 0, 0) 0 = nI n) (hn2 : 2 ≤ n) (hn12 : n ≤ 12) (w x y z : Int32) (h : hOK n w x y) : zCi yX4_holds prog_6_method_49_code 5 (some .boolean) 5 [zR (20, 0, 0), zI w, zI x, zI y, zI z] μ (zb (holdB (μ (21, 0, 0)) n w x y z = true)) := by
  refine zCt.of "DyeTankModel" rfl (by decide +kernel) rfl (Nat.le_of_ble_eq_true rfl) (fun K hR => ?_)
  have v20 := zv_20
  have v21 := zv_21
  have v22 := zv_22
  have v23 := zv_23
  have v24 := zv_24
  have v25 := zv_25
  have v26 := zv_26
  have v27 := zv_27
  have v28 := zv_28
  refine z_ls (ls' := [zR (20, 0, 0), zI w, zI x, zI y, zI z]) rfl ?_
  refine z_iload_n dX4_holds_0 rfl rfl ?_
  rcases h with h | ⟨h, ⟨c, hc, ec⟩, r, hr, er⟩ | ⟨h, ⟨i, hi, ei⟩, j, hj, ej⟩
  · subst h
    refine z_if_ne (tgt := 12) dX4_holds_1 (by decide) (fun h9 => absurd h9 (Decidable.not_not.mpr rfl)) (fun _ => ?_)
    refine z_aload_n dX4_holds_4 rfl rfl ?_
    refine z_iload_n dX4_holds_5 rfl rfl ?_
    refine z_cVi (m_isSettled μ n hn hn12 x) q_X4_isSettled tw_773 dX4_holds_6 rfl rfl rfl (by omega) (Nat.le_of_ble_eq_true rfl) ?_
    refine z_goto (tgt := 36) dX4_holds_9 (by decide) ?_
    refine z_bret hR dX4_holds_36 zb_ok ⟨rfl, rfl⟩
  · subst h
    refine z_if_ne (tgt := 12) dX4_holds_1 (by decide) (fun _ => ?_) (fun h9 => absurd h9 (by decide))
    refine z_iload_n dX4_holds_12 rfl rfl ?_
    refine z_iconst (v := 1) dX4_holds_13 (by decide) ?_
    refine z_icmp_ne (tgt := 28) dX4_holds_14 (by decide) (fun h9 => absurd h9 (Decidable.not_not.mpr rfl)) (fun _ => ?_)
    have e1 : x.toNatClampNeg = c := by rw [ec]; exact nI_clamp (by omega)
    have e2 : y.toNatClampNeg = r := by rw [er]; exact nI_clamp (by omega)
    have eW : holdB (μ (21, 0, 0)) n 1 x y z = partB (μ (21, 0, 0)) n x.toNatClampNeg y.toNatClampNeg z := rfl
    rw [e1, e2] at eW
    subst ec er
    refine z_aload_n dX4_holds_17 rfl rfl ?_
    refine z_iload_n dX4_holds_18 rfl rfl ?_
    refine z_iload_n dX4_holds_19 rfl rfl ?_
    refine z_iload dX4_holds_20 rfl ?_
    refine z_cVi (m_hasPart μ n hn hn2 hn12 c r hc hr z) q_X4_hasPart tw_777 dX4_holds_22 rfl rfl rfl (by omega) (Nat.le_of_ble_eq_true rfl) ?_
    refine z_goto (tgt := 36) dX4_holds_25 (by decide) ?_
    refine z_bret hR dX4_holds_36 zb_ok ⟨rfl, by rw [eW]⟩
  · subst h
    refine z_if_ne (tgt := 12) dX4_holds_1 (by decide) (fun _ => ?_) (fun h9 => absurd h9 (by decide))
    refine z_iload_n dX4_holds_12 rfl rfl ?_
    refine z_iconst (v := 1) dX4_holds_13 (by decide) ?_
    refine z_icmp_ne (tgt := 28) dX4_holds_14 (by decide) (fun _ => ?_) (fun h9 => absurd h9 (by decide))
    have e1 : x.toNatClampNeg = i := by rw [ei]; exact nI_clamp (by omega)
    have e2 : y.toNatClampNeg = j := by rw [ej]; exact nI_clamp (by omega)
    have eW : holdB (μ (21, 0, 0)) n 2 x y z = nearB (μ (21, 0, 0)) x.toNatClampNeg y.toNatClampNeg z := rfl
    rw [e1, e2] at eW
    subst ei ej
    refine z_aload_n dX4_holds_28 rfl rfl ?_
    refine z_iload_n dX4_holds_29 rfl rfl ?_
    refine z_iload_n dX4_holds_30 rfl rfl ?_
    refine z_iload dX4_holds_31 rfl ?_
    refine z_cVi (m_areNear μ i j hi hj z) q_X4_areNear tw_781 dX4_holds_33 rfl rfl rfl (by omega) (Nat.le_of_ble_eq_true rfl) ?_
    refine z_bret hR dX4_holds_36 zb_ok ⟨rfl, by rw [eW]⟩
theorem m_whenHolds (μ : zM) (n : Nat) (hn : μ (21, 0, 0) 0 = nI n) (hn2 : 2 ≤ n) (hn12 : n ≤ 12) (M : Nat) (hM : M ≤ 1000) (hW : ∀ k, k ≤ M → Wf (itF k (μ (21, 0, 0)))) (w x y z : Int32) (h : hOK n w x y) : zCs yX4_whenHolds prog_6_method_50_code 8 (some .int) 6 [zR (20, 0, 0), zI w, zI x, zI y, zI z, zI (nI M)] μ (fun μ' v => FST (fun k => holdB (itF k (μ (21, 0, 0))) n w x y z) M v ∧ zoff [(21, 0, 0), (22, 0, 0), (25, 0, 0), (26, 0, 0)] μ μ' ∧ ∀ k, k < 2386 → μ' (21, 0, 0) k = μ (21, 0, 0) k) := by
  refine zCt.of "DyeTankModel" rfl (by decide +kernel) rfl (Nat.le_of_ble_eq_true rfl) (fun K hR => ?_)
  have v20 := zv_20
  have v21 := zv_21
  have v22 := zv_22
  have v23 := zv_23
  have v24 := zv_24
  have v25 := zv_25
  have v26 := zv_26
  have v27 := zv_27
  have v28 := zv_28
  have close : ∀ (v q : Int32) (μ' : zM), FST (fun k => holdB (itF k (μ (21, 0, 0))) n w x y z) M v → zoff [(21, 0, 0), (22, 0, 0), (25, 0, 0), (26, 0, 0)] μ μ' → (∀ k, k < 2386 → μ' (22, 0, 0) k = μ (21, 0, 0) k) → Z K 6 "DyeTankModel" prog_6_method_50_code 8 70 [zR (20, 0, 0), zI w, zI x, zI y, zI z, zI (nI M), zI v, zI q] [] μ' := by
    intro v q μ' hF ho h22
    refine z_aload_n dX4_whenHolds_70 rfl rfl ?_
    refine z_cVv (m_putBack μ') q_X4_putBack tw_785 dX4_whenHolds_71 rfl rfl rfl (by omega) (Nat.le_of_ble_eq_true rfl) (fun μ2 hh => ?_)
    subst hh
    refine z_iload dX4_whenHolds_74 rfl ?_
    refine z_iret hR dX4_whenHolds_76 (⟨_, rfl, hF, ho.put (by simp) _, fun k hk => by rw [st_eq, if_pos hk]; exact h22 k hk⟩)
  have row0 : ∀ i, itF i (μ (21, 0, 0)) 0 = nI n := fun i => (itF_lo _ (by omega) (by omega) i).trans hn
  have loop : ∀ (f i : Nat) (μ' : zM), i ≤ M → M < i + f → zoff [(21, 0, 0), (22, 0, 0), (25, 0, 0), (26, 0, 0)] μ μ' → (∀ k, k < 2386 → μ' (22, 0, 0) k = μ (21, 0, 0) k) → μ' (21, 0, 0) = itF i (μ (21, 0, 0)) → (∀ j, j ≤ i → holdB (itF j (μ (21, 0, 0))) n w x y z = false) → Z K 6 "DyeTankModel" prog_6_method_50_code 8 27 [zR (20, 0, 0), zI w, zI x, zI y, zI z, zI (nI M), zI (-6), zI (nI (i + 1))] [] μ' := by
    intro f
    induction f with
    | zero => intro i μ' h1 h2 h3 h4 h5 h6; exact absurd ‹_ < _ + 0› (by omega)
    | succ f ih =>
      intro i μ' h1 h2 ho h22 ei hF
      refine z_iload dX4_whenHolds_27 rfl ?_
      refine z_iload dX4_whenHolds_29 rfl ?_
      refine z_icmp_gt (tgt := 70) dX4_whenHolds_31 (by decide) (fun hb => ?_) (fun hb => ?_)
      · have hb := nlt hb
        refine close _ _ μ' (Or.inr ⟨fun j hj => hF j (by omega), rfl⟩) ho h22
      · have hb := nnlt hb
        refine z_iload dX4_whenHolds_34 rfl ?_
        refine z_if_ge (tgt := 70) dX4_whenHolds_36 (by decide) (fun h9 => absurd h9 (by decide)) (fun _ => ?_)
        refine z_aload_n dX4_whenHolds_39 rfl rfl ?_
        refine z_cVv (m_tickW μ' (by rw [ei]; exact hW i (by omega))) q_X4_makeTick tw_664 dX4_whenHolds_40 rfl rfl rfl (by omega) (Nat.le_of_ble_eq_true rfl) (fun μ2 hh => ?_)
        obtain ⟨o2, t2⟩ := hh
        have e2 : μ2 (21, 0, 0) = itF (i + 1) (μ (21, 0, 0)) := by
          rw [TKR_eq t2, ei]
          rfl
        have o3 := zoff.tr ho o2 (by simp)
        have h23 : ∀ k, k < 2386 → μ2 (22, 0, 0) k = μ (21, 0, 0) k := fun k hk => by rw [o2.at (22, 0, 0)]; exact h22 k hk
        refine z_aload_n dX4_whenHolds_43 rfl rfl ?_
        refine z_iload_n dX4_whenHolds_44 rfl rfl ?_
        refine z_iload_n dX4_whenHolds_45 rfl rfl ?_
        refine z_iload_n dX4_whenHolds_46 rfl rfl ?_
        refine z_iload dX4_whenHolds_47 rfl ?_
        refine z_cVi (m_holds μ2 n (by rw [e2]; exact row0 (i + 1)) hn2 hn12 w x y z h) q_X4_holds tw_769 dX4_whenHolds_49 rfl rfl rfl (by omega) (Nat.le_of_ble_eq_true rfl) ?_
        rw [e2]
        refine z_beq (tgt := 60) dX4_whenHolds_52 (by decide) (fun hh => ?_) (fun hh => ?_)
        · refine z_bipush (v := -6) dX4_whenHolds_60 (by decide) ?_
          refine z_istS dX4_whenHolds_62 (by decide) rfl ?_
          refine z_incS dX4_whenHolds_64 rfl (inc1 _) (by decide) rfl ?_
          refine z_goto (tgt := 27) dX4_whenHolds_67 (by decide) ?_
          refine ih (i + 1) μ2 (by omega) (by omega) o3 h23 e2 ?_
          intro j hj
          by_cases e : j = i + 1
          · rw [e]; exact Bool.eq_false_iff.mpr hh
          · exact hF j (by omega)
        · refine z_iload dX4_whenHolds_55 rfl ?_
          refine z_goto (tgt := 62) dX4_whenHolds_57 (by decide) ?_
          refine z_istS dX4_whenHolds_62 (by decide) rfl ?_
          refine z_incS dX4_whenHolds_64 rfl (inc1 _) (by decide) rfl ?_
          refine z_goto (tgt := 27) dX4_whenHolds_67 (by decide) ?_
          refine z_iload dX4_whenHolds_27 rfl ?_
          refine z_iload dX4_whenHolds_29 rfl ?_
          have hv : FST (fun k => holdB (itF k (μ (21, 0, 0))) n w x y z) M (nI (i + 1)) := Or.inl ⟨i + 1, by omega, hh, fun j hj => hF j (by omega), rfl⟩
          refine z_icmp_gt (tgt := 70) dX4_whenHolds_31 (by decide) (fun hb2 => ?_) (fun hb2 => ?_)
          · exact close _ _ μ2 hv o3 h23
          · refine z_iload dX4_whenHolds_34 rfl ?_
            refine z_if_ge (tgt := 70) dX4_whenHolds_36 (by decide) (fun _ => ?_) (fun h9 => absurd (nI_pos' (by omega)) h9)
            exact close _ _ μ2 hv o3 h23
  refine z_ls (ls' := [zR (20, 0, 0), zI w, zI x, zI y, zI z, zI (nI M), zN, zN]) rfl ?_
  refine z_aload_n dX4_whenHolds_0 rfl rfl ?_
  refine z_cVv (m_putAside μ) q_X4_putAside tw_765 dX4_whenHolds_1 rfl rfl rfl (by omega) (Nat.le_of_ble_eq_true rfl) (fun μ1 hh => ?_)
  have o1 : zoff [(21, 0, 0), (22, 0, 0), (25, 0, 0), (26, 0, 0)] μ μ1 := by rw [hh]; exact zoff.rf.put (by simp) _
  have e1 : μ1 (21, 0, 0) = μ (21, 0, 0) := by rw [hh]; exact st_ne _ _ (by simp)
  have h21 : ∀ k, k < 2386 → μ1 (22, 0, 0) k = μ (21, 0, 0) k := fun k hk => by rw [hh, st_eq]; exact if_pos hk
  refine z_aload_n dX4_whenHolds_4 rfl rfl ?_
  refine z_iload_n dX4_whenHolds_5 rfl rfl ?_
  refine z_iload_n dX4_whenHolds_6 rfl rfl ?_
  refine z_iload_n dX4_whenHolds_7 rfl rfl ?_
  refine z_iload dX4_whenHolds_8 rfl ?_
  refine z_cVi (m_holds μ1 n (by rw [e1]; exact hn) hn2 hn12 w x y z h) q_X4_holds tw_769 dX4_whenHolds_10 rfl rfl rfl (by omega) (Nat.le_of_ble_eq_true rfl) ?_
  rw [e1]
  refine z_beq (tgt := 20) dX4_whenHolds_13 (by decide) (fun hz => ?_) (fun hz => ?_)
  · refine z_bipush (v := -6) dX4_whenHolds_20 (by decide) ?_
    refine z_istS dX4_whenHolds_22 (by decide) rfl ?_
    refine z_iconst (v := 1) dX4_whenHolds_24 (by decide) ?_
    refine z_istS dX4_whenHolds_25 (by decide) rfl ?_
    refine z_ls ?_ (loop (M + 1) 0 μ1 (by omega) (by omega) o1 h21 e1 ?_)
    · rfl
    · intro j hj
      have : j = 0 := by omega
      subst this
      exact Bool.eq_false_iff.mpr hz
  · refine z_iconst (v := 0) dX4_whenHolds_16 (by decide) ?_
    refine z_goto (tgt := 22) dX4_whenHolds_17 (by decide) ?_
    refine z_istS dX4_whenHolds_22 (by decide) rfl ?_
    refine z_iconst (v := 1) dX4_whenHolds_24 (by decide) ?_
    refine z_istS dX4_whenHolds_25 (by decide) rfl ?_
    refine z_iload dX4_whenHolds_27 rfl ?_
    refine z_iload dX4_whenHolds_29 rfl ?_
    have hv : FST (fun k => holdB (itF k (μ (21, 0, 0))) n w x y z) M 0 := Or.inl ⟨0, by omega, hz, fun j hj => absurd hj (by omega), rfl⟩
    refine z_icmp_gt (tgt := 70) dX4_whenHolds_31 (by decide) (fun hb2 => ?_) (fun hb2 => ?_)
    · exact close _ _ μ1 hv o1 h21
    · refine z_iload dX4_whenHolds_34 rfl ?_
      refine z_if_ge (tgt := 70) dX4_whenHolds_36 (by decide) (fun _ => ?_) (fun h9 => absurd (by decide) h9)
      exact close _ _ μ1 hv o1 h21
