/-! the component's tank against the reference's row -/
def RepM (μ : zM) (t m : Nat) (a : Nat → Int32) : Prop := μ (13, t, m) 0 = a (34 + 104 * m) ∧ μ (13, t, m) 1 = a (34 + 104 * m + 1) ∧ μ (13, t, m) 2 = nI (kepN (a (36 + 104 * m)).toNatClampNeg) ∧ μ (13, t, m) 3 = a (34 + 104 * m + 3) ∧ μ (13, t, m) 4 = nI ((a (36 + 104 * m)).toNatClampNeg % 50) ∧ ∀ k, k < kepN (a (36 + 104 * m)).toNatClampNeg → μ (14, t, m) k = a (38 + 104 * m + 2 * k) ∧ μ (15, t, m) k = a (39 + 104 * m + 2 * k)
def Rep (μ : zM) (t : Nat) (a : Nat → Int32) : Prop :=
  (μ (5, t, 0) 0 = a 0 ∧ μ (5, t, 0) 1 = a 1 ∧ μ (5, t, 0) 2 = a 33) ∧ (∀ j, j < 7 → μ (6, t, 0) j = aS a j) ∧ (∀ r, r < 12 → μ (7, t, 0) r = aP a r) ∧ (∀ r, r < 12 → μ (8, t, 0) r = aA a r) ∧ (∀ c, c < 3 → μ (9, t, 0) c = allA (aD a c) (rN a)) ∧ (∀ c, c < 3 → ∀ i, i < 576 → μ (11, t, c) i = aD a c i) ∧ ∀ m, m < rK a → RepM μ t m a
theorem sml_congr {f g : Nat → Int64} : ∀ (n : Nat), (∀ i, i < n → f i = g i) → sml f n = sml g n
  | 0, _ => rfl
  | n + 1, h => by
    show sml f n + f n = sml g n + g n
    rw [sml_congr n (fun i hi => h i (by omega)), h n (by omega)]
theorem mxf_congr {f g : Nat → Int32} : ∀ (n : Nat), (∀ i, i < n → f i = g i) → mxf f n = mxf g n
  | 0, _ => rfl
  | n + 1, h => by
    show (if mxf f n < f n then f n else mxf f n) = (if mxf g n < g n then g n else mxf g n)
    rw [mxf_congr n (fun i hi => h i (by omega)), h n (by omega)]
theorem cnf_congr {f g : Nat → Int32} : ∀ (n : Nat), (∀ i, i < n → f i = g i) → cnf f n = cnf g n
  | 0, _ => rfl
  | n + 1, h => by
    show (if 0 < f n then cnf f n + 1 else cnf f n) = (if 0 < g n then cnf g n + 1 else cnf g n)
    rw [cnf_congr n (fun i hi => h i (by omega)), h n (by omega)]
theorem rowS_congr {f g : Nat → Int32} (h : ∀ i, i < 576 → f i = g i) {L r : Nat} (hL : L < 2) (hr : r < 12) : rowS f L r = rowS g L r :=
  sm_congr 24 (fun j hj => h _ (by unfold rwi; omega))
theorem ringS_congr {f g : Nat → Int32} (h : ∀ i, i < 576 → f i = g i) {r : Nat} (hr : r < 12) : ringS f r = ringS g r := by
  unfold ringS
  rw [rowS_congr h (by omega) hr, rowS_congr h (by omega) hr]
theorem allA_congr {f g : Nat → Int32} (h : ∀ i, i < 576 → f i = g i) {n : Nat} (hn : n ≤ 12) : allA f n = allA g n := by
  unfold allA
  rw [sm_congr n (fun r hr => rowS_congr h (L := 0) (by omega) (show r < 12 by omega)), sm_congr n (fun r hr => rowS_congr h (L := 1) (by omega) (show r < 12 by omega))]
theorem meanP_congr {f g : Nat → Int32} (h : ∀ i, i < 576 → f i = g i) {n : Nat} (hn : n ≤ 12) (x : Int32) : meanP f n x = meanP g n x := by
  unfold meanP
  rw [sml_congr n (fun r hr => by rw [ringS_congr h (show r < 12 by omega)])]
theorem unevS_congr {f g : Nat → Int32} (h : ∀ i, i < 576 → f i = g i) {n : Nat} (hn : n ≤ 12) (x : Int64) {L : Nat} (hL : L < 2) : unevS f n x L = unevS g n x L := by
  unfold unevS
  refine sml_congr _ (fun k hk => ?_)
  rw [h _ (by unfold rwi; omega)]
theorem unev_congr {f g : Nat → Int32} (h : ∀ i, i < 576 → f i = g i) {n : Nat} (hn : n ≤ 12) (x : Int64) : unev f n x = unev g n x := by
  unfold unev
  rw [unevS_congr h hn x (by omega), unevS_congr h hn x (by omega)]
theorem vel_congr {f g : Nat → Int32} {r : Nat} (h : f r = g r) : vel f r = vel g r := by
  unfold vel
  rw [h]
theorem psh_congr {S S' f g : Nat → Int32} {r : Nat} (h5 : S 5 = S' 5) (h4 : S 4 = S' 4) (h : f r = g r) : psh S f r = psh S' g r := by
  unfold psh
  rw [vel_congr h, h5, h4]
theorem c_isColour (μ : zM) (x : Int32) : zCi yX3_isColour prog_1_method_28_code 1 (some .boolean) 2 [zI x] μ (zb (0 ≤ x ∧ x ≤ 2)) := by
  refine zCt.of "DyeTank" rfl (by decide +kernel) rfl (Nat.le_of_ble_eq_true rfl) (fun K hR => ?_)
  refine z_ls (ls' := [zI x]) rfl ?_
  refine z_iload_n dX3_isColour_0 rfl rfl ?_
  refine z_iconst (v := 0) dX3_isColour_1 (by decide) ?_
  refine z_iconst (v := 2) dX3_isColour_2 (by decide) ?_
  refine z_cSi (c_within μ _ _ _) q_X3_within tw_181 dX3_isColour_3 rfl rfl (by omega) (Nat.le_of_ble_eq_true rfl) ?_
  refine z_bret hR dX3_isColour_6 zb_ok ⟨rfl, rfl⟩
theorem c_isSpeed (μ : zM) (x : Int32) : zCi yX3_isSpeed prog_1_method_29_code 1 (some .boolean) 2 [zI x] μ (zb (-1500 ≤ x ∧ x ≤ 1500)) := by
  refine zCt.of "DyeTank" rfl (by decide +kernel) rfl (Nat.le_of_ble_eq_true rfl) (fun K hR => ?_)
  refine z_ls (ls' := [zI x]) rfl ?_
  refine z_iload_n dX3_isSpeed_0 rfl rfl ?_
  refine z_sipush (v := -1500) dX3_isSpeed_1 (by decide) ?_
  refine z_sipush (v := 1500) dX3_isSpeed_4 (by decide) ?_
  refine z_cSi (c_within μ _ _ _) q_X3_within tw_181 dX3_isSpeed_7 rfl rfl (by omega) (Nat.le_of_ble_eq_true rfl) ?_
  refine z_bret hR dX3_isSpeed_10 zb_ok ⟨rfl, rfl⟩
theorem ringP_iff {x : Int32} {n : Nat} (h1 : 1 ≤ n) (hn : n < 2 ^ 31) : (0 ≤ x ∧ x < nI n) ↔ (0 ≤ x ∧ x ≤ nI n - 1) := (rngS hn).trans (rngP h1 hn).symm
theorem c_isPlaceOfDye (μ : zM) (n : Nat) (hn : μ (5, 0, 0) 0 = nI n) (hn2 : 2 ≤ n) (hn12 : n ≤ 12) (c L r s : Int32) : zCi yX3_isPlaceOfDye prog_1_method_27_code 5 (some .boolean) 3 [zR (0, 0, 0), zI c, zI L, zI r, zI s] μ (zb (isPl n c L r s)) := by
  have ht : (0 : Nat) < 4 := by omega
  refine zCt.of "DyeTank" rfl (by decide +kernel) rfl (Nat.le_of_ble_eq_true rfl) (fun K hR => ?_)
  have v0 := zv_0
  have v1 := zv_1
  have v2 := zv_2
  have v3 := zv_3
  have v4 := zv_4
  have v5 := zv_5 0 ht
  refine z_ls (ls' := [zR (0, 0, 0), zI c, zI L, zI r, zI s]) rfl ?_
  refine z_iload_n dX3_isPlaceOfDye_0 rfl rfl ?_
  refine z_cSi (c_isColour μ _) q_X3_isColour tw_346 dX3_isPlaceOfDye_1 rfl rfl (by omega) (Nat.le_of_ble_eq_true rfl) ?_
  refine z_beq (tgt := 42) dX3_isPlaceOfDye_4 (by decide) (fun h1 => ?_) (fun h1 => ?_)
  · refine z_iconst (v := 0) dX3_isPlaceOfDye_42 (by decide) ?_
    refine z_bret hR dX3_isPlaceOfDye_43 (Or.inl rfl) ⟨rfl, congrArg zI (zb_f (fun q => h1 q.1)).symm⟩
  · refine z_iload_n dX3_isPlaceOfDye_7 rfl rfl ?_
    refine z_iconst (v := 0) dX3_isPlaceOfDye_8 (by decide) ?_
    refine z_iconst (v := 1) dX3_isPlaceOfDye_9 (by decide) ?_
    refine z_cSi (c_within μ _ _ _) q_X3_within tw_181 dX3_isPlaceOfDye_10 rfl rfl (by omega) (Nat.le_of_ble_eq_true rfl) ?_
    refine z_beq (tgt := 42) dX3_isPlaceOfDye_13 (by decide) (fun h2 => ?_) (fun h2 => ?_)
    · refine z_iconst (v := 0) dX3_isPlaceOfDye_42 (by decide) ?_
      refine z_bret hR dX3_isPlaceOfDye_43 (Or.inl rfl) ⟨rfl, congrArg zI (zb_f (fun q => h2 q.2.1)).symm⟩
    · refine z_aload_n dX3_isPlaceOfDye_16 rfl rfl ?_
      refine zg_X3_tank dX3_isPlaceOfDye_17 tw_161 ?_
      refine z_iload_n dX3_isPlaceOfDye_20 rfl rfl ?_
      refine z_cVi (c_hasRing μ 0 ht _) q_X2_hasRing tw_232 dX3_isPlaceOfDye_21 rfl rfl rfl (by omega) (Nat.le_of_ble_eq_true rfl) ?_
      rw [hn]
      refine z_beq (tgt := 42) dX3_isPlaceOfDye_24 (by decide) (fun h3 => ?_) (fun h3 => ?_)
      · rw [ringP_iff (by omega) (by omega)] at h3
        refine z_iconst (v := 0) dX3_isPlaceOfDye_42 (by decide) ?_
        refine z_bret hR dX3_isPlaceOfDye_43 (Or.inl rfl) ⟨rfl, congrArg zI (zb_f (fun q => h3 q.2.2.1)).symm⟩
      · rw [ringP_iff (by omega) (by omega)] at h3
        refine z_iload dX3_isPlaceOfDye_27 rfl ?_
        refine z_iconst (v := 0) dX3_isPlaceOfDye_29 (by decide) ?_
        refine z_bipush (v := 23) dX3_isPlaceOfDye_30 (by decide) ?_
        refine z_cSi (c_within μ _ _ _) q_X3_within tw_181 dX3_isPlaceOfDye_32 rfl rfl (by omega) (Nat.le_of_ble_eq_true rfl) ?_
        refine z_beq (tgt := 42) dX3_isPlaceOfDye_35 (by decide) (fun h4 => ?_) (fun h4 => ?_)
        · refine z_iconst (v := 0) dX3_isPlaceOfDye_42 (by decide) ?_
          refine z_bret hR dX3_isPlaceOfDye_43 (Or.inl rfl) ⟨rfl, congrArg zI (zb_f (fun q => h4 q.2.2.2)).symm⟩
        · refine z_iconst (v := 1) dX3_isPlaceOfDye_38 (by decide) ?_
          refine z_goto (tgt := 43) dX3_isPlaceOfDye_39 (by decide) ?_
          refine z_bret hR dX3_isPlaceOfDye_43 (Or.inr rfl) ⟨rfl, congrArg zI (zb_t ⟨h1, h2, h3, h4⟩).symm⟩
