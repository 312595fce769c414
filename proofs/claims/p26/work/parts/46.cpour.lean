/-! sums of a row with one cell changed; pour of the component -/
def ind (i : Nat) (m : Int32) (k : Nat) : Int32 := if k = i then m else 0
theorem i32_4 (a b c d : Int32) : a + b + (c + d) = a + c + (b + d) := by
  rw [Int32.add_assoc, Int32.add_assoc, ← Int32.add_assoc b c d, Int32.add_comm b c, Int32.add_assoc c b d]
theorem sm_pl (f g : Nat → Int32) : ∀ n, sm (fun k => f k + g k) n = sm f n + sm g n
  | 0 => (Int32.add_zero 0).symm
  | n + 1 => by
    show sm (fun k => f k + g k) n + (f n + g n) = sm f n + f n + (sm g n + g n)
    rw [sm_pl f g n, i32_4]
theorem sm_zero {f : Nat → Int32} : ∀ (n : Nat), (∀ k, k < n → f k = 0) → sm f n = 0
  | 0, _ => rfl
  | n + 1, h => by
    show sm f n + f n = 0
    rw [sm_zero n (fun k hk => h k (by omega)), h n (by omega)]
    rfl
theorem sm_ind (i : Nat) (m : Int32) : ∀ n, sm (ind i m) n = if i < n then m else 0
  | 0 => rfl
  | n + 1 => by
    show sm (ind i m) n + ind i m n = _
    rw [sm_ind i m n]
    unfold ind
    by_cases h : n = i
    · rw [if_neg (by omega), if_pos h, if_pos (by omega), Int32.zero_add]
    · rw [if_neg h, Int32.add_zero]
      by_cases h2 : i < n
      · rw [if_pos h2, if_pos (by omega)]
      · rw [if_neg h2, if_neg (by omega)]
theorem rowS_pl (f g : Nat → Int32) (L r : Nat) : rowS (fun k => f k + g k) L r = rowS f L r + rowS g L r := sm_pl (fun j => f (rwi L r + j)) (fun j => g (rwi L r + j)) 24
theorem allA_pl (f g : Nat → Int32) (n : Nat) : allA (fun k => f k + g k) n = allA f n + allA g n := by
  unfold allA
  rw [show rowS (fun k => f k + g k) 0 = fun r => rowS f 0 r + rowS g 0 r from funext (rowS_pl f g 0), show rowS (fun k => f k + g k) 1 = fun r => rowS f 1 r + rowS g 1 r from funext (rowS_pl f g 1), sm_pl, sm_pl, i32_4]
theorem rowS_ind {L r j : Nat} (hj : j < 24) (hr : r < 12) (m : Int32) (L' r' : Nat) (hr' : r' < 12) : rowS (ind (rwi L r + j) m) L' r' = if L' = L then ind r m r' else 0 := by
  unfold rowS
  by_cases e : L' = L ∧ r' = r
  · obtain ⟨e1, e2⟩ := e
    subst e1 e2
    rw [if_pos rfl]
    have : (fun k => ind (rwi L' r' + j) m (rwi L' r' + k)) = ind j m := by
      funext k
      unfold ind
      by_cases q : k = j
      · rw [q, if_pos rfl, if_pos rfl]
      · rw [if_neg (by omega), if_neg q]
    rw [this, sm_ind, if_pos hj]
    exact (if_pos rfl).symm
  · rw [sm_zero (f := fun k => ind (rwi L r + j) m (rwi L' r' + k)) 24 (fun k hk => if_neg (by unfold rwi; omega))]
    by_cases e1 : L' = L
    · rw [if_pos e1]
      exact (if_neg (fun q => e ⟨e1, q⟩)).symm
    · rw [if_neg e1]
theorem allA_ind {L r j n : Nat} (hL : L < 2) (hr : r < n) (hn : n ≤ 12) (hj : j < 24) (m : Int32) : allA (ind (rwi L r + j) m) n = m := by
  unfold allA
  rw [sm_congr n (fun q hq => rowS_ind hj (by omega) m 0 q (by omega)), sm_congr n (fun q hq => rowS_ind hj (by omega) m 1 q (by omega))]
  rcases (show L = 0 ∨ L = 1 by omega) with e | e <;> subst e
  · rw [show (fun q => if 0 = 0 then ind r m q else 0) = ind r m from rfl, sm_ind, if_pos hr, sm_zero n (fun q _ => if_neg (by omega)), Int32.add_zero]
  · rw [show (fun q => if 1 = 1 then ind r m q else 0) = ind r m from rfl, sm_ind, if_pos hr, sm_zero n (fun q _ => if_neg (by omega)), Int32.zero_add]
theorem upd_ind (f : Nat → Int32) (i : Nat) (m : Int32) : upd f i (f i + m) = fun k => f k + ind i m k := by
  funext k
  unfold upd ind
  by_cases h : k = i
  · rw [if_pos h, if_pos h, h]
  · rw [if_neg h, if_neg h, Int32.add_zero]
theorem aD_updD {a : Nat → Int32} {c L r j : Nat} (v : Int32) (hi : rwi L r + j < 576) (c' : Nat) (hc' : c' < 3) (i : Nat) (hi' : i < 576) : aD (upd a (dix c L r j) v) c' i = if c' = c ∧ i = rwi L r + j then v else aD a c' i := by
  unfold aD upd dix
  by_cases h : c' = c ∧ i = rwi L r + j
  · rw [if_pos h, if_pos (by omega)]
  · rw [if_neg h, if_neg (by omega)]
theorem aD_pour {a : Nat → Int32} {c L r j : Nat} (hi : rwi L r + j < 576) (m : Int32) : ∀ i, i < 576 → aD (upd a (dix c L r j) (a (dix c L r j) + m)) c i = aD a c i + ind (rwi L r + j) m i := by
  intro i h
  by_cases hc : c < 3
  · rw [aD_updD _ hi c hc i h]
    unfold ind
    by_cases e : i = rwi L r + j
    · rw [if_pos ⟨rfl, e⟩, if_pos e, e]
      unfold aD dix
      rw [Nat.add_assoc]
    · rw [if_neg (fun q => e q.2), if_neg e, Int32.add_zero]
  · unfold aD upd dix ind
    by_cases e : i = rwi L r + j
    · rw [if_pos (by omega), if_pos e, e, Nat.add_assoc]
    · rw [if_neg (by omega), if_neg e, Int32.add_zero]
theorem allA_pour {a : Nat → Int32} {c L r j n : Nat} (hL : L < 2) (hr : r < n) (hn : n ≤ 12) (hj : j < 24) (m : Int32) : allA (aD (upd a (dix c L r j) (a (dix c L r j) + m)) c) n = allA (aD a c) n + m := by
  rw [allA_congr (aD_pour (a := a) (c := c) (L := L) (r := r) (j := j) (by unfold rwi; omega) m) hn, allA_pl, allA_ind hL hr hn hj]
theorem allA_other {a : Nat → Int32} {c L r j n : Nat} (hL : L < 2) (hr : r < 12) (hn : n ≤ 12) (hj : j < 24) (v : Int32) (c' : Nat) (hc' : c' < 3) (hne : c' ≠ c) : allA (aD (upd a (dix c L r j) v) c') n = allA (aD a c') n :=
  allA_congr (fun i hi => (aD_updD v (by unfold rwi; omega) c' hc' i hi).trans (if_neg (fun q => hne q.1))) hn
theorem amt_iff {t m : Int32} (h1 : 0 ≤ t.toInt) (h2 : t.toInt ≤ 10000000) (hm : 1 ≤ m ∧ m ≤ 1000000) : (m ≤ 10000000 - t) ↔ (t + m ≤ 10000000) := by
  have b1 := Int32.le_iff_toInt_le.mp hm.1
  have b2 := Int32.le_iff_toInt_le.mp hm.2
  rw [show (1 : Int32).toInt = 1 by decide] at b1
  rw [show (1000000 : Int32).toInt = 1000000 by decide] at b2
  rw [Int32.le_iff_toInt_le, Int32.le_iff_toInt_le, Int32.toInt_add, Int32.toInt_sub, show (10000000 : Int32).toInt = 10000000 by decide, Int.bmod_eq_of_le (by omega) (by omega), Int.bmod_eq_of_le (by omega) (by omega)]
  omega
theorem Rep_dyes {μ μ' : zM} {t : Nat} {a b : Nat → Int32} (h : Rep μ t a) (hk6 : rK a ≤ 6) (up : ∀ k, k < 658 → b k = a k) (hf : ∀ k i : Nat, 5 ≤ k → k ≤ 18 → k ≠ 9 → k ≠ 11 → μ' (k, t, i) = μ (k, t, i)) (hT : ∀ c, c < 3 → μ' (9, t, 0) c = allA (aD b c) (rN b)) (hD : ∀ c, c < 3 → ∀ i, i < 576 → μ' (11, t, c) i = aD b c i) : Rep μ' t b := by
  obtain ⟨⟨g0, g1, g2⟩, gS, gP, gA, gT, gD, gM⟩ := h
  have ek : rK b = rK a := by unfold rK; rw [up 33 (by omega)]
  unfold Rep
  rw [ek, hf 5 0 (by omega) (by omega) (by omega) (by omega), hf 6 0 (by omega) (by omega) (by omega) (by omega), hf 7 0 (by omega) (by omega) (by omega) (by omega), hf 8 0 (by omega) (by omega) (by omega) (by omega), up 0 (by omega), up 1 (by omega), up 33 (by omega)]
  refine ⟨⟨g0, g1, g2⟩, ?_, ?_, ?_, hT, hD, ?_⟩
  · intro i hi
    exact (gS i hi).trans (up _ (by omega)).symm
  · intro r hr
    exact (gP r hr).trans (up _ (by omega)).symm
  · intro r hr
    exact (gA r hr).trans (up _ (by omega)).symm
  · intro m hm
    have := gM m hm
    unfold RepM at this ⊢
    rw [hf 13 m (by omega) (by omega) (by omega) (by omega), hf 14 m (by omega) (by omega) (by omega) (by omega), hf 15 m (by omega) (by omega) (by omega) (by omega), up _ (by omega), up _ (by omega), up _ (by omega), up _ (by omega)]
    obtain ⟨q0, q1, q2, q3, q4, q5⟩ := this
    refine ⟨q0, q1, q2, q3, q4, fun k hk2 => ?_⟩
    have h50 : kepN (a (36 + 104 * m)).toNatClampNeg ≤ 50 := by unfold kepN; split <;> omega
    rw [up _ (by omega), up _ (by omega)]
    exact q5 k hk2
theorem x_pour (μ : zM) (a : Nat → Int32) (h : Rep μ 0 a) (h0 : R0 a) (hk6 : rK a ≤ 6) (hT : ∀ c, c < 3 → 0 ≤ (allA (aD a c) (rN a)).toInt ∧ (allA (aD a c) (rN a)).toInt ≤ 10000000) (c L r s m : Int32) : zCs yX3_pour prog_1_method_6_code 6 (some .int) 4 [zR (0, 0, 0), zI c, zI L, zI r, zI s, zI m] μ (fun μ' w => (¬ isPl (rN a) c L r s ∧ w = -1 ∧ μ' = μ) ∨ (isPl (rN a) c L r s ∧ ¬ (1 ≤ m ∧ m ≤ 1000000) ∧ w = -2 ∧ μ' = μ) ∨ (isPl (rN a) c L r s ∧ (1 ≤ m ∧ m ≤ 1000000) ∧ ∃ c' L' r' : Nat, c' < 3 ∧ L' < 2 ∧ r' < rN a ∧ c = nI c' ∧ L = nI L' ∧ r = nI r' ∧ ((¬ allA (aD a c') (rN a) + m ≤ 10000000 ∧ w = -4 ∧ μ' = μ) ∨ (allA (aD a c') (rN a) + m ≤ 10000000 ∧ w = allA (aD a c') (rN a) + m ∧ zoT 0 μ μ' ∧ Rep μ' 0 (upd a (dix c' L' r' (cel a r' s)) (a (dix c' L' r' (cel a r' s)) + m)))))) := by
  have hR0 := h
  obtain ⟨⟨g0, g1, g2⟩, gS, gP, gA, gT, gD, gM⟩ := h
  obtain ⟨hn, hn2, hn12⟩ := h0
  generalize hnn : rN a = n at hn hn2 hn12 hT gT ⊢
  have ht : (0 : Nat) < 4 := by omega
  refine zCt.of "DyeTank" rfl (by decide +kernel) rfl (Nat.le_of_ble_eq_true rfl) (fun K hR => ?_)
  have v0 := zv_0
  have v1 := zv_1
  have v2 := zv_2
  have v3 := zv_3
  have v4 := zv_4
  have v5 := zv_5 0 ht
  have v9 := zv_9 0 ht
  have v10 := zv_10 0 ht
  refine z_ls (ls' := [zR (0, 0, 0), zI c, zI L, zI r, zI s, zI m]) rfl ?_
  refine z_aload_n dX3_pour_0 rfl rfl ?_
  refine z_iload_n dX3_pour_1 rfl rfl ?_
  refine z_iload_n dX3_pour_2 rfl rfl ?_
  refine z_iload_n dX3_pour_3 rfl rfl ?_
  refine z_iload dX3_pour_4 rfl ?_
  refine z_cVi (c_isPlaceOfDye μ n (g0.trans hn) hn2 hn12 _ _ _ _) q_X3_isPlaceOfDye tw_342 dX3_pour_6 rfl rfl rfl (by omega) (Nat.le_of_ble_eq_true rfl) ?_
  refine z_bne (tgt := 14) dX3_pour_9 (by decide) (fun h1 => ?_) (fun h1 => ?_)
  · refine z_iload dX3_pour_14 rfl ?_
    refine z_iconst (v := 1) dX3_pour_16 (by decide) ?_
    refine z_ldc (v := 1000000) dX3_pour_17 tw_357 ?_
    refine z_cSi (c_within μ _ _ _) q_X3_within tw_181 dX3_pour_19 rfl rfl (by omega) (Nat.le_of_ble_eq_true rfl) ?_
    refine z_bne (tgt := 28) dX3_pour_22 (by decide) (fun h2 => ?_) (fun h2 => ?_)
    · obtain ⟨c', L', r', h3, h4, h5, e1, e2, e3⟩ := isPl_ix (by omega) hn12 h1
      subst e1 e2 e3
      have v11 := zv_11 0 ht c' h3
      obtain ⟨hj, ej⟩ := cel_eq a r' s
      have hi : rwi L' r' + cel a r' s < 576 := by unfold rwi; omega
      refine z_iload dX3_pour_28 rfl ?_
      refine z_ldc (v := 10000000) dX3_pour_30 tw_358 ?_
      refine z_aload_n dX3_pour_32 rfl rfl ?_
      refine zg_X3_tank dX3_pour_33 tw_161 ?_
      refine zg_X2_totals dX3_pour_36 tw_83 ?_
      refine z_iload_n dX3_pour_39 rfl rfl ?_
      refine z_iald dX3_pour_40 (fun _ _ => rfl) rfl h3 ?_
      refine z_isub dX3_pour_41 ?_
      rw [gT c' h3]
      refine z_icmp_le (tgt := 48) dX3_pour_42 (by decide) (fun hb => ?_) (fun hb => ?_)
      · rw [amt_iff (hT c' h3).1 (hT c' h3).2 h2] at hb
        refine z_aload_n dX3_pour_48 rfl rfl ?_
        refine zg_X3_tank dX3_pour_49 tw_161 ?_
        refine zg_X2_dyes dX3_pour_52 tw_85 ?_
        refine z_iload_n dX3_pour_55 rfl rfl ?_
        refine z_ald10 dX3_pour_56 rfl h3 ?_
        refine z_aload_n dX3_pour_57 rfl rfl ?_
        refine zg_X3_tank dX3_pour_58 tw_161 ?_
        refine z_iload_n dX3_pour_61 rfl rfl ?_
        refine z_iload_n dX3_pour_62 rfl rfl ?_
        refine z_iload dX3_pour_63 rfl ?_
        refine z_cVi (c_cellIn μ 0 ht L' r' (by omega) s) q_X2_cellIn tw_349 dX3_pour_65 rfl rfl rfl (by omega) (Nat.le_of_ble_eq_true rfl) ?_
        refine z_top ((cell_eq gA (by omega) L' s)) ?_
        refine z_dup2 dX3_pour_68 rfl rfl ?_
        refine z_iald dX3_pour_69 (fun _ _ => rfl) rfl hi ?_
        refine z_iload dX3_pour_70 rfl ?_
        refine z_iadd dX3_pour_72 ?_
        refine z_iast dX3_pour_73 (fun _ _ => rfl) rfl hi ?_
        refine z_aload_n dX3_pour_74 rfl rfl ?_
        refine zg_X3_tank dX3_pour_75 tw_161 ?_
        refine zg_X2_totals dX3_pour_78 tw_83 ?_
        refine z_iload_n dX3_pour_81 rfl rfl ?_
        refine z_dup2 dX3_pour_82 rfl rfl ?_
        refine z_iald dX3_pour_83 (fun _ _ => rfl) rfl h3 ?_
        refine z_iload dX3_pour_84 rfl ?_
        refine z_iadd dX3_pour_86 ?_
        refine z_iast dX3_pour_87 (fun _ _ => rfl) rfl h3 ?_
        refine z_aload_n dX3_pour_88 rfl rfl ?_
        refine zg_X3_tank dX3_pour_89 tw_161 ?_
        refine zg_X2_totals dX3_pour_92 tw_83 ?_
        refine z_iload_n dX3_pour_95 rfl rfl ?_
        refine z_iald dX3_pour_96 (fun _ _ => rfl) rfl h3 ?_
        have ed : aD a c' (rwi L' r' + cel a r' s) = a (dix c' L' r' (cel a r' s)) := by unfold aD dix; rw [Nat.add_assoc]
        have hr12 : r' < 12 := by omega
        refine z_iret hR dX3_pour_97 (⟨_, rfl, Or.inr (Or.inr ⟨h1, h2, c', L', r', h3, h4, h5, rfl, rfl, rfl, Or.inr ⟨hb, ?_, (zoT.rf.put 11 c' _).put 9 0 _, ?_⟩⟩)⟩)
        · rw [st_eq, st_ne _ _ (by simp)]
          exact (if_pos rfl).trans (by rw [gT c' h3])
        · have up : ∀ k, k < 658 → (upd a (dix c' L' r' (cel a r' s)) (a (dix c' L' r' (cel a r' s)) + m)) k = a k := fun k hk => if_neg (by unfold dix; omega)
          have en : rN (upd a (dix c' L' r' (cel a r' s)) (a (dix c' L' r' (cel a r' s)) + m)) = n := by unfold rN; rw [up 0 (by omega)]; exact hnn
          refine Rep_dyes hR0 hk6 up (fun k i h5 h18 h9 h11 => ?_) (fun c hc => ?_) (fun c hc i hi2 => ?_)
          · rw [st_ne _ _ (by simp [h9]), st_ne _ _ (by simp [h11])]
          · rw [en, st_eq, st_ne _ _ (by simp)]
            by_cases e : c = c'
            · subst e
              rw [allA_pour h4 h5 hn12 hj]
              exact (if_pos rfl).trans (by rw [gT c hc])
            · rw [allA_other h4 hr12 hn12 hj _ c hc e]
              exact (if_neg e).trans (gT c hc)
          · rw [st_ne _ _ (by simp), aD_updD _ hi c hc i hi2]
            by_cases e : c = c'
            · subst e
              rw [st_eq]
              unfold upd
              by_cases e2 : i = rwi L' r' + cel a r' s
              · rw [if_pos e2, if_pos ⟨rfl, e2⟩, gD c hc _ hi, ed]
              · rw [if_neg e2, if_neg (fun q => e2 q.2)]
                exact gD c hc i hi2
            · rw [st_ne _ _ (by simp [e]), if_neg (fun q => e q.1)]
              exact gD c hc i hi2
      · rw [amt_iff (hT c' h3).1 (hT c' h3).2 h2] at hb
        refine z_bipush (v := -4) dX3_pour_45 (by decide) ?_
        refine z_iret hR dX3_pour_47 (⟨_, rfl, Or.inr (Or.inr ⟨h1, h2, c', L', r', h3, h4, h5, rfl, rfl, rfl, Or.inl ⟨hb, rfl, rfl⟩⟩)⟩)
    · refine z_bipush (v := -2) dX3_pour_25 (by decide) ?_
      refine z_iret hR dX3_pour_27 (⟨_, rfl, Or.inr (Or.inl ⟨h1, h2, rfl, rfl⟩)⟩)
  · refine z_iconst (v := -1) dX3_pour_12 (by decide) ?_
    refine z_iret hR dX3_pour_13 (⟨_, rfl, Or.inl ⟨h1, rfl, rfl⟩⟩)
