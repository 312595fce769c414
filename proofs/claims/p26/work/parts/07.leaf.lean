/-! numbers: rounding down, as the two sides write it -/
def fdv (x y : Int32) : Int32 := if x ^^^ y < 0 ∧ ¬ (x / y * y = x) then x / y - 1 else x / y
def fmd (x y : Int32) : Int32 := if x ^^^ y < 0 ∧ ¬ (x - x / y * y = 0) then x - x / y * y + y else x - x / y * y
theorem c_floorDiv (μ : zM) (x y : Int32) (hy : ¬ y = 0) : zCi yJ9_floorDiv_7cf53 prog_7_method_47_code 3 (some .int) 1 [zI x, zI y] μ (fdv x y) := by
  refine zCt.of "java/lang/Math" rfl (by decide +kernel) rfl (Nat.le_of_ble_eq_true rfl) (fun K hR => ?_)
  refine z_ls (ls' := [zI x, zI y, zN]) rfl ?_
  refine z_iload_n dJ9_floorDiv_7cf53_0 rfl rfl ?_
  refine z_iload_n dJ9_floorDiv_7cf53_1 rfl rfl ?_
  refine z_idiv dJ9_floorDiv_7cf53_2 hy ?_
  refine z_istS_n dJ9_floorDiv_7cf53_3 rfl (by decide) rfl ?_
  refine z_iload_n dJ9_floorDiv_7cf53_4 rfl rfl ?_
  refine z_iload_n dJ9_floorDiv_7cf53_5 rfl rfl ?_
  refine z_ixor dJ9_floorDiv_7cf53_6 ?_
  refine z_if_ge (tgt := 21) dJ9_floorDiv_7cf53_7 (by decide) (fun h => ?_) (fun h => ?_)
  · refine z_iload_n dJ9_floorDiv_7cf53_21 rfl rfl ?_
    refine z_iret hR dJ9_floorDiv_7cf53_22 (⟨rfl, by rw [fdv, if_neg (fun q => absurd q.1 (Int32.not_lt.mpr h))]⟩)
  · refine z_iload_n dJ9_floorDiv_7cf53_10 rfl rfl ?_
    refine z_iload_n dJ9_floorDiv_7cf53_11 rfl rfl ?_
    refine z_imul dJ9_floorDiv_7cf53_12 ?_
    refine z_iload_n dJ9_floorDiv_7cf53_13 rfl rfl ?_
    refine z_icmp_eq (tgt := 21) dJ9_floorDiv_7cf53_14 (by decide) (fun h2 => ?_) (fun h2 => ?_)
    · refine z_iload_n dJ9_floorDiv_7cf53_21 rfl rfl ?_
      refine z_iret hR dJ9_floorDiv_7cf53_22 (⟨rfl, by rw [fdv, if_neg (fun q => q.2 h2)]⟩)
    · refine z_iload_n dJ9_floorDiv_7cf53_17 rfl rfl ?_
      refine z_iconst (v := 1) dJ9_floorDiv_7cf53_18 (by decide) ?_
      refine z_isub dJ9_floorDiv_7cf53_19 ?_
      refine z_iret hR dJ9_floorDiv_7cf53_20 (⟨rfl, by rw [fdv, if_pos ⟨Int32.not_le.mp h, h2⟩]⟩)
theorem c_floorMod (μ : zM) (x y : Int32) (hy : ¬ y = 0) : zCi yJ9_floorMod_7cf53 prog_7_method_50_code 3 (some .int) 1 [zI x, zI y] μ (fmd x y) := by
  refine zCt.of "java/lang/Math" rfl (by decide +kernel) rfl (Nat.le_of_ble_eq_true rfl) (fun K hR => ?_)
  refine z_ls (ls' := [zI x, zI y, zN]) rfl ?_
  refine z_iload_n dJ9_floorMod_7cf53_0 rfl rfl ?_
  refine z_iload_n dJ9_floorMod_7cf53_1 rfl rfl ?_
  refine z_irem dJ9_floorMod_7cf53_2 hy ?_
  refine z_istS_n dJ9_floorMod_7cf53_3 rfl (by decide) rfl ?_
  refine z_iload_n dJ9_floorMod_7cf53_4 rfl rfl ?_
  refine z_iload_n dJ9_floorMod_7cf53_5 rfl rfl ?_
  refine z_ixor dJ9_floorMod_7cf53_6 ?_
  refine z_if_ge (tgt := 18) dJ9_floorMod_7cf53_7 (by decide) (fun h => ?_) (fun h => ?_)
  · refine z_iload_n dJ9_floorMod_7cf53_18 rfl rfl ?_
    refine z_iret hR dJ9_floorMod_7cf53_19 (⟨rfl, by rw [fmd, if_neg (fun q => absurd q.1 (Int32.not_lt.mpr h))]⟩)
  · refine z_iload_n dJ9_floorMod_7cf53_10 rfl rfl ?_
    refine z_if_eq (tgt := 18) dJ9_floorMod_7cf53_11 (by decide) (fun h2 => ?_) (fun h2 => ?_)
    · refine z_iload_n dJ9_floorMod_7cf53_18 rfl rfl ?_
      refine z_iret hR dJ9_floorMod_7cf53_19 (⟨rfl, by rw [fmd, if_neg (fun q => q.2 h2)]⟩)
    · refine z_iload_n dJ9_floorMod_7cf53_14 rfl rfl ?_
      refine z_iload_n dJ9_floorMod_7cf53_15 rfl rfl ?_
      refine z_iadd dJ9_floorMod_7cf53_16 ?_
      refine z_iret hR dJ9_floorMod_7cf53_17 (⟨rfl, by rw [fmd, if_pos ⟨Int32.not_le.mp h, h2⟩]⟩)
theorem c_within (μ : zM) (v l h : Int32) : zCi yX3_within prog_1_method_30_code 3 (some .boolean) 1 [zI v, zI l, zI h] μ (zb (l ≤ v ∧ v ≤ h)) := by
  refine zCt.of "DyeTank" rfl (by decide +kernel) rfl (Nat.le_of_ble_eq_true rfl) (fun K hR => ?_)
  refine z_ls (ls' := [zI v, zI l, zI h]) rfl ?_
  refine z_iload_n dX3_within_0 rfl rfl ?_
  refine z_iload_n dX3_within_1 rfl rfl ?_
  refine z_icmp_lt (tgt := 14) dX3_within_2 (by decide) (fun h1 => ?_) (fun h1 => ?_)
  · refine z_iconst (v := 0) dX3_within_14 (by decide) ?_
    refine z_bret hR dX3_within_15 (Or.inl rfl) ⟨rfl, by rw [zb_f (fun q => absurd q.1 (Int32.not_le.mpr h1))]⟩
  · refine z_iload_n dX3_within_5 rfl rfl ?_
    refine z_iload_n dX3_within_6 rfl rfl ?_
    refine z_icmp_gt (tgt := 14) dX3_within_7 (by decide) (fun h2 => ?_) (fun h2 => ?_)
    · refine z_iconst (v := 0) dX3_within_14 (by decide) ?_
      refine z_bret hR dX3_within_15 (Or.inl rfl) ⟨rfl, by rw [zb_f (fun q => absurd q.2 (Int32.not_le.mpr h2))]⟩
    · refine z_iconst (v := 1) dX3_within_10 (by decide) ?_
      refine z_goto (tgt := 15) dX3_within_11 (by decide) ?_
      refine z_bret hR dX3_within_15 (Or.inr rfl) ⟨rfl, by rw [zb_t ⟨Int32.not_lt.mp h1, Int32.not_lt.mp h2⟩]⟩
