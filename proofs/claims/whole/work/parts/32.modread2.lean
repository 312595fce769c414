/-! texts: a velocity, a dye, a step, as the reference reads them -/
theorem chr_ne {p : Nat → Int32} {l s : Nat} {c : Int32} (h : chr p l s = c) (hc : c ≠ 0) : s < l := by
  by_cases q : s < l
  · exact q
  · unfold chr at h
    rw [if_neg q] at h
    exact absurd h.symm hc
theorem mNeed_le {p : Nat → Int32} {l s : Nat} {w : Bool} {c : Int32} (hc : c ≠ 0) (hs : s ≤ l) : (mNeed (chr p l) c s w).1 ≤ l := by
  unfold mNeed
  by_cases h : w = true ∨ ¬ chr p l s = c
  · rw [if_pos h]; exact hs
  · rw [if_neg h]
    have : s < l := chr_ne (Decidable.not_not.mp (fun q => h (Or.inr q))) hc
    exact this
theorem mOne_le {p : Nat → Int32} {l s : Nat} {w : Bool} {lo hi : Int32} (hc : 48 ≤ lo) (hs : s ≤ l) : (mOne (chr p l) lo hi s w).1 ≤ l := by
  unfold mOne
  by_cases h : w = true ∨ ¬ (lo ≤ chr p l s ∧ chr p l s ≤ hi)
  · rw [if_pos h]; exact hs
  · rw [if_neg h]
    have h2 : lo ≤ chr p l s ∧ chr p l s ≤ hi := Decidable.not_not.mp (fun q => h (Or.inr q))
    have : s < l := chr_lt (Int32.le_trans hc h2.1)
    exact this
theorem numL_le {p : Nat → Int32} {l : Nat} {m : Int32} : ∀ (f : Nat) (v : Int32) (s : Nat), s ≤ l → s ≤ (numL (chr p l) m f v s).2 ∧ (numL (chr p l) m f v s).2 ≤ l
  | 0, v, s, h => ⟨Nat.le_refl s, h⟩
  | f + 1, v, s, h => by
    by_cases q : 0 < v ∧ (48 ≤ chr p l s ∧ chr p l s ≤ 57) ∧ 10 * v + chr p l s - 48 ≤ m
    · rw [show numL (chr p l) m (f + 1) v s = numL (chr p l) m f (10 * v + chr p l s - 48) (s + 1) from if_pos q]
      have := numL_le (p := p) (l := l) (m := m) f (10 * v + chr p l s - 48) (s + 1) (chr_lt q.2.1.1)
      exact ⟨by omega, this.2⟩
    · rw [show numL (chr p l) m (f + 1) v s = (v, s) from if_neg q]
      exact ⟨Nat.le_refl s, h⟩
theorem dlo_le {lo : Int32} {x : Int32} (h : 48 + (if 0 < lo then (1 : Int32) else 0) ≤ x) : 48 ≤ x := Int32.le_trans (by split <;> decide) h
theorem mNum_le {p : Nat → Int32} {l s : Nat} {w : Bool} {lo hi : Int32} (hs : s ≤ l) : (mNum (chr p l) lo hi s w).2.1 ≤ l := by
  unfold mNum
  by_cases h : w = true ∨ ¬ (48 + (if 0 < lo then 1 else 0) ≤ chr p l s ∧ chr p l s ≤ 57)
  · rw [if_pos h]; exact hs
  · rw [if_neg h]
    have h2 : 48 + (if 0 < lo then 1 else 0) ≤ chr p l s ∧ chr p l s ≤ 57 := Decidable.not_not.mp (fun q => h (Or.inr q))
    exact (numL_le _ _ _ (chr_lt (dlo_le h2.1))).2
def negV (ch : Nat → Int32) (d : Nat × Bool) : Bool := decide (¬ d.2 = true ∧ ch d.1 = 45)
def velP (ch : Nat → Int32) (s : Nat) (w : Bool) : Nat × Bool × Int32 × Int32 :=
  let n1 := mNum ch 0 11 s w
  let d := mNeed ch 58 n1.2.1 n1.2.2
  let n2 := mNum ch 0 1500 (if negV ch d = true then d.1 + 1 else d.1) d.2
  (n2.2.1, n2.2.2, n1.1, if negV ch d = true then -n2.1 else n2.1)
def dyeP (ch : Nat → Int32) (s : Nat) (w : Bool) : Nat × Bool × Int32 × Int32 × Int32 × Int32 × Int32 :=
  let o1 := mOne ch 97 99 s w
  let o2 := mOne ch 94 95 o1.1 o1.2
  let n3 := mNum ch 0 11 o2.1 o2.2
  let d4 := mNeed ch 58 n3.2.1 n3.2.2
  let n5 := mNum ch 0 23 d4.1 d4.2
  let d6 := mNeed ch 61 n5.2.1 n5.2.2
  let n7 := mNum ch 1 999999 d6.1 d6.2
  (n7.2.1, n7.2.2, ch s - 97, ch o1.1 - 94, n3.1, n5.1, n7.1)
theorem velP_le {p : Nat → Int32} {l s : Nat} {w : Bool} (hs : s ≤ l) : (velP (chr p l) s w).1 ≤ l := by
  unfold velP
  refine mNum_le ?_
  have h1 : (mNeed (chr p l) 58 (mNum (chr p l) 0 11 s w).2.1 (mNum (chr p l) 0 11 s w).2.2).1 ≤ l := mNeed_le (by decide) (mNum_le hs)
  split
  · rename_i h
    unfold negV at h
    rw [decide_eq_true_iff] at h
    exact chr_ne h.2 (by decide)
  · exact h1
theorem dyeP_le {p : Nat → Int32} {l s : Nat} {w : Bool} (hs : s ≤ l) : (dyeP (chr p l) s w).1 ≤ l :=
  mNum_le (mNeed_le (by decide) (mNum_le (mNeed_le (by decide) (mNum_le (mOne_le (by decide) (mOne_le (by decide) hs))))))
theorem m_takeVelocity (μ : zM) {l s k : Nat} {w : Bool} (h : PSt μ l s w k) (hl : l ≤ 60) (hs : s ≤ l) (b : Nat) (hb : b + 2 < 192) : zCv yX4_takeVelocity prog_6_method_61_code 4 (none : Option Jvm.ClassFile.FieldType) 3 [zR (20, 0, 0), zI (nI b)] μ (fun μ' => zoff [(20, 0, 0), (28, 0, 0)] μ μ' ∧ PSt μ' l (velP (chr (μ (27, 0, 0)) l) s w).1 (velP (chr (μ (27, 0, 0)) l) s w).2.1 k ∧ μ' (28, 0, 0) = upd (upd (μ (28, 0, 0)) (b + 1) (velP (chr (μ (27, 0, 0)) l) s w).2.2.1) (b + 2) (velP (chr (μ (27, 0, 0)) l) s w).2.2.2) := by
  refine zCt.of "DyeTankModel" rfl (by decide +kernel) rfl (Nat.le_of_ble_eq_true rfl) (fun K hR => ?_)
  have v20 := zv_20
  have v21 := zv_21
  have v22 := zv_22
  have v23 := zv_23
  have v24 := zv_24
  have v25 := zv_25
  have v26 := zv_26
  have v27 := zv_27
  have v28 := zv_28
  refine z_ls (ls' := [zR (20, 0, 0), zI (nI b), zN, zN]) rfl ?_
  refine z_aload_n dX4_takeVelocity_0 rfl rfl ?_
  refine zg_X4_steps dX4_takeVelocity_1 tw_562 ?_
  refine z_iload_n dX4_takeVelocity_4 rfl rfl ?_
  refine z_iconst (v := 1) dX4_takeVelocity_5 (by decide) ?_
  refine z_iadd dX4_takeVelocity_6 ?_
  refine z_aload_n dX4_takeVelocity_7 rfl rfl ?_
  refine z_iconst (v := 0) dX4_takeVelocity_8 (by decide) ?_
  refine z_bipush (v := 11) dX4_takeVelocity_9 (by decide) ?_
  refine z_cVs (m_takeNumber μ h hl (by omega) 0 11) q_X4_takeNumber tw_821 dX4_takeVelocity_11 rfl rfl rfl (by omega) (Nat.le_of_ble_eq_true rfl) (fun μ1 x1 hh => ?_)
  obtain ⟨e1, o1, p1⟩ := hh
  have q1 : (mNum (chr (μ (27, 0, 0)) l) 0 11 s w).2.1 ≤ l := mNum_le hs
  refine z_iast dX4_takeVelocity_14 (fun _ _ => rfl) (nI_add b 1) (show b + 1 < 192 by omega) ?_
  have o2 : zoff [(20, 0, 0), (28, 0, 0)] μ (st μ1 (28, 0, 0) (upd (μ1 (28, 0, 0)) (b + 1) x1)) := (o1.sub (by simp)).put (by simp) _
  have p2 : PSt (st μ1 (28, 0, 0) (upd (μ1 (28, 0, 0)) (b + 1) x1)) l (mNum (chr (μ (27, 0, 0)) l) 0 11 s w).2.1 (mNum (chr (μ (27, 0, 0)) l) 0 11 s w).2.2 k := by
    rw [PSt, st_ne _ _ (by simp)]
    exact p1
  have r2 : (st μ1 (28, 0, 0) (upd (μ1 (28, 0, 0)) (b + 1) x1)) (28, 0, 0) = upd (μ (28, 0, 0)) (b + 1) (mNum (chr (μ (27, 0, 0)) l) 0 11 s w).1 := by
    rw [st_eq, o1.at (28, 0, 0), e1]
  generalize hμ2 : st μ1 (28, 0, 0) (upd (μ1 (28, 0, 0)) (b + 1) x1) = μ2 at o2 p2 r2 ⊢
  have d27 := o2.at (27, 0, 0)
  refine z_aload_n dX4_takeVelocity_15 rfl rfl ?_
  refine z_bipush (v := 58) dX4_takeVelocity_16 (by decide) ?_
  refine z_cVv (m_need μ2 p2 hl (by omega) 58) q_X4_need tw_829 dX4_takeVelocity_18 rfl rfl rfl (by omega) (Nat.le_of_ble_eq_true rfl) (fun μ3 hh => ?_)
  obtain ⟨o3, p3⟩ := hh
  rw [d27] at p3
  have q3 : (mNeed (chr (μ (27, 0, 0)) l) 58 (mNum (chr (μ (27, 0, 0)) l) 0 11 s w).2.1 (mNum (chr (μ (27, 0, 0)) l) 0 11 s w).2.2).1 ≤ l := mNeed_le (by decide) q1
  have e3 : μ3 (27, 0, 0) = μ (27, 0, 0) := (o3.at (27, 0, 0)).trans d27
  have r3 : μ3 (28, 0, 0) = upd (μ (28, 0, 0)) (b + 1) (mNum (chr (μ (27, 0, 0)) l) 0 11 s w).1 := (o3.at (28, 0, 0)).trans r2
  have o4 : zoff [(20, 0, 0), (28, 0, 0)] μ μ3 := zoff.tr o2 o3 (by simp)
  generalize hch : chr (μ (27, 0, 0)) l = ch at hR p1 p2 p3 q1 q3 r2 r3 ⊢
  generalize hd : mNeed ch 58 (mNum ch 0 11 s w).2.1 (mNum ch 0 11 s w).2.2 = d at p3 q3
  have p3' := p3
  obtain ⟨g7, g8, g9, g11⟩ := p3
  have tail : ∀ (c : Prop) [Decidable c], (c ↔ negV ch d = true) → Z K 3 "DyeTankModel" prog_6_method_61_code 4 42 [zR (20, 0, 0), zI (nI b), zN, zN] [zI (zb c)] μ3 := by
    intro c _ hc
    have eP : velP ch s w = ((mNum ch 0 1500 (if negV ch d = true then d.1 + 1 else d.1) d.2).2.1, (mNum ch 0 1500 (if negV ch d = true then d.1 + 1 else d.1) d.2).2.2, (mNum ch 0 11 s w).1, if negV ch d = true then -(mNum ch 0 1500 (if negV ch d = true then d.1 + 1 else d.1) d.2).1 else (mNum ch 0 1500 (if negV ch d = true then d.1 + 1 else d.1) d.2).1) := by
      rw [← hd]
      rfl
    rw [eP] at hR
    have fin : ∀ (s3 : Nat) (μ4 : zM), s3 = (if negV ch d = true then d.1 + 1 else d.1) → s3 ≤ l → zoff [(20, 0, 0), (28, 0, 0)] μ μ4 → PSt μ4 l s3 d.2 k → μ4 (28, 0, 0) = upd (μ (28, 0, 0)) (b + 1) (mNum ch 0 11 s w).1 → Z K 3 "DyeTankModel" prog_6_method_61_code 4 61 [zR (20, 0, 0), zI (nI b), zI (zb c), zN] [] μ4 := by
      intro s3 μ4 es hs3 o5 p5 r5
      rw [← es] at hR
      have e27 : chr (μ4 (27, 0, 0)) l = ch := by rw [o5.at (27, 0, 0), hch]
      refine z_aload_n dX4_takeVelocity_61 rfl rfl ?_
      refine z_iconst (v := 0) dX4_takeVelocity_62 (by decide) ?_
      refine z_sipush (v := 1500) dX4_takeVelocity_63 (by decide) ?_
      refine z_cVs (m_takeNumber μ4 p5 hl (by omega) 0 1500) q_X4_takeNumber tw_821 dX4_takeVelocity_66 rfl rfl rfl (by omega) (Nat.le_of_ble_eq_true rfl) (fun μ5 x5 hh => ?_)
      rw [e27] at hh
      obtain ⟨e5, o6, p6⟩ := hh
      have o7 : zoff [(20, 0, 0), (28, 0, 0)] μ μ5 := zoff.tr o5 o6 (by simp)
      have r6 : μ5 (28, 0, 0) = upd (μ (28, 0, 0)) (b + 1) (mNum ch 0 11 s w).1 := (o6.at (28, 0, 0)).trans r5
      have put : ∀ (v : Int32), v = (if negV ch d = true then -(mNum ch 0 1500 s3 d.2).1 else (mNum ch 0 1500 s3 d.2).1) → Z K 3 "DyeTankModel" prog_6_method_61_code 4 87 [zR (20, 0, 0), zI (nI b), zI (zb c), zI x5] [zI v, zI (nI (b + 2)), zR (28, 0, 0)] μ5 := by
        intro v ev
        refine z_iast dX4_takeVelocity_87 (fun _ _ => rfl) rfl (show b + 2 < 192 by omega) ?_
        refine z_vret hR dX4_takeVelocity_88 (⟨rfl, o7.put (by simp) _, ?_, ?_⟩)
        · rw [PSt, st_ne _ _ (by simp)]
          exact p6
        · rw [st_eq, r6, ev]
      refine z_istS_n dX4_takeVelocity_69 rfl (by decide) rfl ?_
      refine z_aload_n dX4_takeVelocity_70 rfl rfl ?_
      refine zg_X4_steps dX4_takeVelocity_71 tw_562 ?_
      refine z_iload_n dX4_takeVelocity_74 rfl rfl ?_
      refine z_iconst (v := 2) dX4_takeVelocity_75 (by decide) ?_
      refine z_iadd dX4_takeVelocity_76 ?_
      refine z_top ((nI_add b 2)) ?_
      refine z_iload_n dX4_takeVelocity_77 rfl rfl ?_
      refine z_beq (tgt := 86) dX4_takeVelocity_78 (by decide) (fun hn => ?_) (fun hn => ?_)
      · refine z_iload_n dX4_takeVelocity_86 rfl rfl ?_
        exact put _ (by rw [if_neg (fun q => hn (hc.mpr q)), e5])
      · refine z_iload_n dX4_takeVelocity_81 rfl rfl ?_
        refine z_ineg dX4_takeVelocity_82 ?_
        refine z_goto (tgt := 87) dX4_takeVelocity_83 (by decide) ?_
        exact put _ (by rw [if_pos (hc.mp hn), e5])
    refine z_istS_n dX4_takeVelocity_42 rfl (by decide) rfl ?_
    refine z_aload_n dX4_takeVelocity_43 rfl rfl ?_
    refine z_dup dX4_takeVelocity_44 rfl ?_
    refine zg_X4_spot dX4_takeVelocity_45 tw_560 ?_
    refine z_top ((show _ = nI d.1 from g8)) ?_
    refine z_iload_n dX4_takeVelocity_48 rfl rfl ?_
    refine z_beq (tgt := 56) dX4_takeVelocity_49 (by decide) (fun hn => ?_) (fun hn => ?_)
    · refine z_iconst (v := 0) dX4_takeVelocity_56 (by decide) ?_
      refine z_iadd dX4_takeVelocity_57 ?_
      refine zp_X4_spot dX4_takeVelocity_58 tw_560 ?_
      refine fin d.1 _ (if_neg (fun q => hn (hc.mpr q))).symm q3 (o4.put (by simp) _) ?_ ?_
      · rw [PSt, st_eq]
        exact ⟨g7, Int32.add_zero _, g9, g11⟩
      · rw [st_ne _ _ (by simp)]
        exact r3
    · refine z_iconst (v := 1) dX4_takeVelocity_52 (by decide) ?_
      refine z_goto (tgt := 57) dX4_takeVelocity_53 (by decide) ?_
      refine z_iadd dX4_takeVelocity_57 ?_
      refine zp_X4_spot dX4_takeVelocity_58 tw_560 ?_
      have hn2 := hc.mp hn
      have hneg : ¬ d.2 = true ∧ ch d.1 = 45 := of_decide_eq_true hn2
      have h45 : chr (μ (27, 0, 0)) l d.1 = 45 := by rw [hch]; exact hneg.2
      refine fin (d.1 + 1) _ (if_pos hn2).symm (chr_ne h45 (by decide)) (o4.put (by simp) _) ?_ ?_
      · rw [PSt, st_eq]
        exact ⟨g7, nI_1 d.1, g9, g11⟩
      · rw [st_ne _ _ (by simp)]
        exact r3
  refine z_aload_n dX4_takeVelocity_21 rfl rfl ?_
  refine zg_X4_isWrong dX4_takeVelocity_22 tw_561 ?_
  refine z_top ((show _ = zb (d.2 = true) from g9)) ?_
  have hch3 : chr (μ3 (27, 0, 0)) l = ch := by rw [e3, hch]
  refine z_bne (tgt := 41) dX4_takeVelocity_25 (by decide) (fun hw => ?_) (fun hw => ?_)
  · refine z_iconst (v := 0) dX4_takeVelocity_41 (by decide) ?_
    have hf : ¬ negV ch d = true := fun q => (of_decide_eq_true q : ¬ d.2 = true ∧ ch d.1 = 45).1 hw
    rw [show (0 : Int32) = zb (negV ch d = true) from (zb_f hf).symm]
    exact tail _ Iff.rfl
  · refine z_aload_n dX4_takeVelocity_28 rfl rfl ?_
    refine z_cVi (m_next μ3 p3' hl (by omega)) q_X4_next tw_817 dX4_takeVelocity_29 rfl rfl rfl (by omega) (Nat.le_of_ble_eq_true rfl) ?_
    refine z_bipush (v := 45) dX4_takeVelocity_32 (by decide) ?_
    rw [hch3]
    refine z_icmp_ne (tgt := 41) dX4_takeVelocity_34 (by decide) (fun h45 => ?_) (fun h45 => ?_)
    · refine z_iconst (v := 0) dX4_takeVelocity_41 (by decide) ?_
      have hf : ¬ negV ch d = true := fun q => h45 (of_decide_eq_true q : ¬ d.2 = true ∧ ch d.1 = 45).2
      rw [show (0 : Int32) = zb (negV ch d = true) from (zb_f hf).symm]
      exact tail _ Iff.rfl
    · refine z_iconst (v := 1) dX4_takeVelocity_37 (by decide) ?_
      refine z_goto (tgt := 42) dX4_takeVelocity_38 (by decide) ?_
      have hf : negV ch d = true := decide_eq_true ⟨hw, h45⟩
      rw [show (1 : Int32) = zb (negV ch d = true) from (zb_t hf).symm]
      exact tail _ Iff.rfl
theorem PSt.off28 {μ : zM} {l s k : Nat} {w : Bool} (h : PSt μ l s w k) (f : Nat → Int32) : PSt (st μ (28, 0, 0) f) l s w k := by
  rw [PSt, st_ne _ _ (by simp)]
  exact h
theorem m_takeDye (μ : zM) {l s k : Nat} {w : Bool} (h : PSt μ l s w k) (hl : l ≤ 60) (hs : s ≤ l) (b : Nat) (hb : b + 5 < 192) : zCv yX4_takeDye prog_6_method_62_code 2 (none : Option Jvm.ClassFile.FieldType) 3 [zR (20, 0, 0), zI (nI b)] μ (fun μ' => zoff [(20, 0, 0), (28, 0, 0)] μ μ' ∧ PSt μ' l (dyeP (chr (μ (27, 0, 0)) l) s w).1 (dyeP (chr (μ (27, 0, 0)) l) s w).2.1 k ∧ μ' (28, 0, 0) = upd (upd (upd (upd (upd (μ (28, 0, 0)) (b + 1) (dyeP (chr (μ (27, 0, 0)) l) s w).2.2.1) (b + 2) (dyeP (chr (μ (27, 0, 0)) l) s w).2.2.2.1) (b + 3) (dyeP (chr (μ (27, 0, 0)) l) s w).2.2.2.2.1) (b + 4) (dyeP (chr (μ (27, 0, 0)) l) s w).2.2.2.2.2.1) (b + 5) (dyeP (chr (μ (27, 0, 0)) l) s w).2.2.2.2.2.2) := by
  refine zCt.of "DyeTankModel" rfl (by decide +kernel) rfl (Nat.le_of_ble_eq_true rfl) (fun K hR => ?_)
  have v20 := zv_20
  have v21 := zv_21
  have v22 := zv_22
  have v23 := zv_23
  have v24 := zv_24
  have v25 := zv_25
  have v26 := zv_26
  have v27 := zv_27
  have v28 := zv_28
  generalize hch : chr (μ (27, 0, 0)) l = ch at hR ⊢
  have c27 : ∀ {μ' : zM}, zoff [(20, 0, 0), (28, 0, 0)] μ μ' → chr (μ' (27, 0, 0)) l = ch := fun o => by rw [o.at (27, 0, 0), hch]
  refine z_ls (ls' := [zR (20, 0, 0), zI (nI b)]) rfl ?_
  refine z_aload_n dX4_takeDye_0 rfl rfl ?_
  refine zg_X4_steps dX4_takeDye_1 tw_562 ?_
  refine z_iload_n dX4_takeDye_4 rfl rfl ?_
  refine z_iconst (v := 1) dX4_takeDye_5 (by decide) ?_
  refine z_iadd dX4_takeDye_6 ?_
  refine z_aload_n dX4_takeDye_7 rfl rfl ?_
  refine z_bipush (v := 97) dX4_takeDye_8 (by decide) ?_
  refine z_bipush (v := 99) dX4_takeDye_10 (by decide) ?_
  refine z_cVs (m_takeOne μ h hl (by omega) 97 99) q_X4_takeOne tw_837 dX4_takeDye_12 rfl rfl rfl (by omega) (Nat.le_of_ble_eq_true rfl) (fun μ1 x1 hh => ?_)
  rw [hch] at hh
  obtain ⟨e1, o1, p1⟩ := hh
  have q1 : (mOne ch 97 99 s w).1 ≤ l := by rw [← hch]; exact mOne_le (by decide) hs
  refine z_bipush (v := 97) dX4_takeDye_15 (by decide) ?_
  refine z_isub dX4_takeDye_17 ?_
  refine z_iast dX4_takeDye_18 (fun _ _ => rfl) (nI_add b 1) (show b + 1 < 192 by omega) ?_
  have t1 : zoff [(20, 0, 0), (28, 0, 0)] μ (st μ1 (28, 0, 0) (upd (μ1 (28, 0, 0)) (b + 1) (x1 - 97))) := (o1.sub (by simp)).put (by simp) _
  have u1 : (st μ1 (28, 0, 0) (upd (μ1 (28, 0, 0)) (b + 1) (x1 - 97))) (28, 0, 0) = upd (μ (28, 0, 0)) (b + 1) (ch s - 97) := by
    rw [st_eq, o1.at (28, 0, 0), e1]
  have w1 := p1.off28 (upd (μ1 (28, 0, 0)) (b + 1) (x1 - 97))
  generalize st μ1 (28, 0, 0) (upd (μ1 (28, 0, 0)) (b + 1) (x1 - 97)) = ν1 at t1 u1 w1 ⊢
  refine z_aload_n dX4_takeDye_19 rfl rfl ?_
  refine zg_X4_steps dX4_takeDye_20 tw_562 ?_
  refine z_iload_n dX4_takeDye_23 rfl rfl ?_
  refine z_iconst (v := 2) dX4_takeDye_24 (by decide) ?_
  refine z_iadd dX4_takeDye_25 ?_
  refine z_aload_n dX4_takeDye_26 rfl rfl ?_
  refine z_bipush (v := 94) dX4_takeDye_27 (by decide) ?_
  refine z_bipush (v := 95) dX4_takeDye_29 (by decide) ?_
  refine z_cVs (m_takeOne ν1 w1 hl (by omega) 94 95) q_X4_takeOne tw_837 dX4_takeDye_31 rfl rfl rfl (by omega) (Nat.le_of_ble_eq_true rfl) (fun μ2 x2 hh => ?_)
  rw [c27 t1] at hh
  obtain ⟨e2, o2, p2⟩ := hh
  have q2 : (mOne ch 94 95 (mOne ch 97 99 s w).1 (mOne ch 97 99 s w).2).1 ≤ l := by rw [← hch]; exact mOne_le (by decide) (by rw [hch]; exact q1)
  refine z_bipush (v := 94) dX4_takeDye_34 (by decide) ?_
  refine z_isub dX4_takeDye_36 ?_
  refine z_iast dX4_takeDye_37 (fun _ _ => rfl) (nI_add b 2) (show b + 2 < 192 by omega) ?_
  have t2 : zoff [(20, 0, 0), (28, 0, 0)] μ (st μ2 (28, 0, 0) (upd (μ2 (28, 0, 0)) (b + 2) (x2 - 94))) := (zoff.tr t1 o2 (by simp)).put (by simp) _
  have u2 : (st μ2 (28, 0, 0) (upd (μ2 (28, 0, 0)) (b + 2) (x2 - 94))) (28, 0, 0) = upd (upd (μ (28, 0, 0)) (b + 1) (ch s - 97)) (b + 2) (ch (mOne ch 97 99 s w).1 - 94) := by
    rw [st_eq, o2.at (28, 0, 0), u1, e2]
  have w2 := p2.off28 (upd (μ2 (28, 0, 0)) (b + 2) (x2 - 94))
  generalize st μ2 (28, 0, 0) (upd (μ2 (28, 0, 0)) (b + 2) (x2 - 94)) = ν2 at t2 u2 w2 ⊢
  refine z_aload_n dX4_takeDye_38 rfl rfl ?_
  refine zg_X4_steps dX4_takeDye_39 tw_562 ?_
  refine z_iload_n dX4_takeDye_42 rfl rfl ?_
  refine z_iconst (v := 3) dX4_takeDye_43 (by decide) ?_
  refine z_iadd dX4_takeDye_44 ?_
  refine z_aload_n dX4_takeDye_45 rfl rfl ?_
  refine z_iconst (v := 0) dX4_takeDye_46 (by decide) ?_
  refine z_bipush (v := 11) dX4_takeDye_47 (by decide) ?_
  refine z_cVs (m_takeNumber ν2 w2 hl (by omega) 0 11) q_X4_takeNumber tw_821 dX4_takeDye_49 rfl rfl rfl (by omega) (Nat.le_of_ble_eq_true rfl) (fun μ3 x3 hh => ?_)
  rw [c27 t2] at hh
  obtain ⟨e3, o3, p3⟩ := hh
  refine z_iast dX4_takeDye_52 (fun _ _ => rfl) (nI_add b 3) (show b + 3 < 192 by omega) ?_
  have t3 : zoff [(20, 0, 0), (28, 0, 0)] μ (st μ3 (28, 0, 0) (upd (μ3 (28, 0, 0)) (b + 3) x3)) := (zoff.tr t2 o3 (by simp)).put (by simp) _
  have u3 := (o3.at (28, 0, 0)).trans u2
  have u3 : (st μ3 (28, 0, 0) (upd (μ3 (28, 0, 0)) (b + 3) x3)) (28, 0, 0) = upd (upd (upd (μ (28, 0, 0)) (b + 1) (ch s - 97)) (b + 2) (ch (mOne ch 97 99 s w).1 - 94)) (b + 3) x3 := by
    rw [st_eq, u3]
  have w3 := p3.off28 (upd (μ3 (28, 0, 0)) (b + 3) x3)
  generalize st μ3 (28, 0, 0) (upd (μ3 (28, 0, 0)) (b + 3) x3) = ν3 at t3 u3 w3 ⊢
  generalize ho2 : mOne ch 94 95 (mOne ch 97 99 s w).1 (mOne ch 97 99 s w).2 = y2 at e3 w3 q2
  have q3 : (mNum ch 0 11 y2.1 y2.2).2.1 ≤ l := by rw [← hch]; exact mNum_le q2
  generalize hn3 : mNum ch 0 11 y2.1 y2.2 = y3 at e3 w3 q3
  refine z_aload_n dX4_takeDye_53 rfl rfl ?_
  refine z_bipush (v := 58) dX4_takeDye_54 (by decide) ?_
  refine z_cVv (m_need ν3 w3 hl (by omega) 58) q_X4_need tw_829 dX4_takeDye_56 rfl rfl rfl (by omega) (Nat.le_of_ble_eq_true rfl) (fun μ4 hh => ?_)
  rw [c27 t3] at hh
  obtain ⟨o4, p4⟩ := hh
  have q4 : (mNeed ch 58 y3.2.1 y3.2.2).1 ≤ l := by rw [← hch]; exact mNeed_le (by decide) q3
  have t4 : zoff [(20, 0, 0), (28, 0, 0)] μ μ4 := zoff.tr t3 o4 (by simp)
  have u4 := (o4.at (28, 0, 0)).trans u3
  generalize hd4 : mNeed ch 58 y3.2.1 y3.2.2 = y4 at p4 q4
  refine z_aload_n dX4_takeDye_59 rfl rfl ?_
  refine zg_X4_steps dX4_takeDye_60 tw_562 ?_
  refine z_iload_n dX4_takeDye_63 rfl rfl ?_
  refine z_iconst (v := 4) dX4_takeDye_64 (by decide) ?_
  refine z_iadd dX4_takeDye_65 ?_
  refine z_aload_n dX4_takeDye_66 rfl rfl ?_
  refine z_iconst (v := 0) dX4_takeDye_67 (by decide) ?_
  refine z_bipush (v := 23) dX4_takeDye_68 (by decide) ?_
  refine z_cVs (m_takeNumber μ4 p4 hl (by omega) 0 23) q_X4_takeNumber tw_821 dX4_takeDye_70 rfl rfl rfl (by omega) (Nat.le_of_ble_eq_true rfl) (fun μ5 x5 hh => ?_)
  rw [c27 t4] at hh
  obtain ⟨e5, o5, p5⟩ := hh
  refine z_iast dX4_takeDye_73 (fun _ _ => rfl) (nI_add b 4) (show b + 4 < 192 by omega) ?_
  have t5 : zoff [(20, 0, 0), (28, 0, 0)] μ (st μ5 (28, 0, 0) (upd (μ5 (28, 0, 0)) (b + 4) x5)) := (zoff.tr t4 o5 (by simp)).put (by simp) _
  have u5 := (o5.at (28, 0, 0)).trans u4
  have u5 : (st μ5 (28, 0, 0) (upd (μ5 (28, 0, 0)) (b + 4) x5)) (28, 0, 0) = _ := (st_eq _ _ _).trans (congrArg (fun z => upd z (b + 4) x5) u5)
  have w5 := p5.off28 (upd (μ5 (28, 0, 0)) (b + 4) x5)
  generalize st μ5 (28, 0, 0) (upd (μ5 (28, 0, 0)) (b + 4) x5) = ν5 at t5 u5 w5 ⊢
  have q5 : (mNum ch 0 23 y4.1 y4.2).2.1 ≤ l := by rw [← hch]; exact mNum_le q4
  generalize hn5 : mNum ch 0 23 y4.1 y4.2 = y5 at e5 w5 q5
  refine z_aload_n dX4_takeDye_74 rfl rfl ?_
  refine z_bipush (v := 61) dX4_takeDye_75 (by decide) ?_
  refine z_cVv (m_need ν5 w5 hl (by omega) 61) q_X4_need tw_829 dX4_takeDye_77 rfl rfl rfl (by omega) (Nat.le_of_ble_eq_true rfl) (fun μ6 hh => ?_)
  rw [c27 t5] at hh
  obtain ⟨o6, p6⟩ := hh
  have q6 : (mNeed ch 61 y5.2.1 y5.2.2).1 ≤ l := by rw [← hch]; exact mNeed_le (by decide) q5
  have t6 : zoff [(20, 0, 0), (28, 0, 0)] μ μ6 := zoff.tr t5 o6 (by simp)
  have u6 := (o6.at (28, 0, 0)).trans u5
  generalize hd6 : mNeed ch 61 y5.2.1 y5.2.2 = y6 at p6 q6
  refine z_aload_n dX4_takeDye_80 rfl rfl ?_
  refine zg_X4_steps dX4_takeDye_81 tw_562 ?_
  refine z_iload_n dX4_takeDye_84 rfl rfl ?_
  refine z_iconst (v := 5) dX4_takeDye_85 (by decide) ?_
  refine z_iadd dX4_takeDye_86 ?_
  refine z_aload_n dX4_takeDye_87 rfl rfl ?_
  refine z_iconst (v := 1) dX4_takeDye_88 (by decide) ?_
  refine z_ldc (v := 999999) dX4_takeDye_89 tw_841 ?_
  refine z_cVs (m_takeNumber μ6 p6 hl (by omega) 1 999999) q_X4_takeNumber tw_821 dX4_takeDye_91 rfl rfl rfl (by omega) (Nat.le_of_ble_eq_true rfl) (fun μ7 x7 hh => ?_)
  rw [c27 t6] at hh
  obtain ⟨e7, o7, p7⟩ := hh
  refine z_iast dX4_takeDye_94 (fun _ _ => rfl) (nI_add b 5) (show b + 5 < 192 by omega) ?_
  have eP : dyeP ch s w = ((mNum ch 1 999999 y6.1 y6.2).2.1, (mNum ch 1 999999 y6.1 y6.2).2.2, ch s - 97, ch (mOne ch 97 99 s w).1 - 94, y3.1, y5.1, (mNum ch 1 999999 y6.1 y6.2).1) := by
    rw [← hd6, ← hn5, ← hd4, ← hn3, ← ho2]
    rfl
  rw [eP] at hR
  refine z_vret hR dX4_takeDye_95 (⟨rfl, (zoff.tr t6 o7 (by simp)).put (by simp) _, p7.off28 _, ?_⟩)
  rw [st_eq, o7.at (28, 0, 0), u6, e3, e5, e7]
