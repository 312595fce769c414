/-! a tick loses no dye -/
theorem tgo_lt {w : Bool} {r n tg : Nat} (hr : r < n) (h : tgo w r n = some tg) : tg < n := by
  unfold tgo at h
  split at h
  · split at h
    · exact absurd h (by simp)
    · have : r - 1 = tg := by simpa using h
      omega
  · split at h
    · have : r + 1 = tg := by simpa using h
      omega
    · exact absurd h (by simp)
def rmvI (D A : Nat → Int32) (n L r : Nat) (x : Int32) (i : Nat) : Int := if x = 0 then 0 else match tgo (inw L x) r n with
  | none => 0
  | some tg => gvI D A L r tg (absI x) i
theorem rmv_oI (D A : Nat → Int32) (n L r : Nat) (x : Int32) (i : Nat) : rmv D A n L r x i = Int32.ofInt (rmvI D A n L r x i) := by
  unfold rmv rmvI
  by_cases h : x = 0
  · rw [if_pos h, if_pos h]
    rfl
  · rw [if_neg h, if_neg h]
    cases q : tgo (inw L x) r n with
    | none => rfl
    | some tg => exact gv_oI _ _ _ _ _ _ _
theorem rmvI_sum {n : Nat} (hn : n ≤ 12) (D A : Nat → Int32) {L r : Nat} (hL : L < 2) (hr : r < n) (x : Int32) : inS n (rmvI D A n L r x) = 0 := by
  have z : ∀ F : Nat → Int, (∀ i, F i = 0) → inS n F = 0 := fun F h => by
    unfold inS
    rw [smZ_zero _ (fun k _ => h k), smZ_zero _ (fun k _ => h _)]
    rfl
  by_cases h : x = 0
  · exact z _ (fun i => if_pos h)
  · cases q : tgo (inw L x) r n with
    | none => exact z _ (fun i => by unfold rmvI; rw [if_neg h, q])
    | some tg =>
      have e : rmvI D A n L r x = gvI D A L r tg (absI x) := by
        funext i
        unfold rmvI
        rw [if_neg h, q]
      rw [e]
      exact gvI_sum hn D A hL hr (tgo_lt hr q) _
theorem rmvI_out {n : Nat} (D A : Nat → Int32) {L r : Nat} (hL : L < 2) (hr : r < n) (x : Int32) {i : Nat} (hi : ¬ inR n i) : rmvI D A n L r x i = 0 := by
  unfold rmvI
  by_cases h : x = 0
  · exact if_pos h
  · rw [if_neg h]
    split
    · rfl
    · rename_i tg q
      exact gvI_out D A hL hr (tgo_lt hr q) _ hi
theorem absI_b {x : Int32} (h : -500 ≤ x.toInt ∧ x.toInt ≤ 500) : 0 ≤ (absI x).toInt ∧ (absI x).toInt ≤ 500 := by
  unfold absI
  by_cases q : 0 ≤ x
  · rw [if_pos q]
    rw [Int32.le_iff_toInt_le, Int32.toInt_zero] at q
    omega
  · rw [if_neg q]
    rw [Int32.le_iff_toInt_le, Int32.toInt_zero] at q
    rw [Int32.toInt_sub, Int32.toInt_zero, Int.bmod_eq_of_le (by omega) (by omega)]
    omega
theorem rmvI_ge {n : Nat} (hn : n ≤ 12) {D : Nat → Int32} (A : Nat → Int32) (hD : DI n D) {L r : Nat} (hL : L < 2) (hr : r < n) {x : Int32} (hx : -500 ≤ x.toInt ∧ x.toInt ≤ 500) {i : Nat} (hi : i < 576) : -(if i / 24 = L * 12 + r then (D i).toInt else 0) ≤ rmvI D A n L r x i := by
  have h0 : -(if i / 24 = L * 12 + r then (D i).toInt else 0) ≤ 0 := by
    have := hD.1 i hi
    split <;> omega
  unfold rmvI
  by_cases h : x = 0
  · rw [if_pos h]; exact h0
  · rw [if_neg h]
    cases q : tgo (inw L x) r n with
    | none => exact h0
    | some tg => exact gvI_ge hn A hD hL hr (absI_b hx).1 (absI_b hx).2 hi
def DZ (n : Nat) (F : Nat → Int) : Prop := (∀ i, i < 576 → 0 ≤ F i) ∧ (∀ i, i < 576 → ¬ inR n i → F i = 0) ∧ inS n F ≤ 10000000
theorem DZ_le {n : Nat} (hn : n ≤ 12) {f : Nat → Int} (h : DZ n f) {i : Nat} (hi : i < 576) : f i ≤ 10000000 := by
  obtain ⟨h1, h2, h3⟩ := h
  change smZ (fun i => f i) (24 * n) + smZ (fun k => f (288 + k)) (24 * n) ≤ 10000000 at h3
  have a1 := smZ_nn (f := fun i => f i) (24 * n) (fun k hk => h1 k (by omega))
  have a2 := smZ_nn (f := fun k => f (288 + k)) (24 * n) (fun k hk => h1 (288 + k) (by omega))
  by_cases q : i < 24 * n
  · have : f i ≤ smZ (fun i => f i) (24 * n) := smZ_term (f := fun i => f i) (24 * n) (fun k hk => h1 k (by omega)) i q
    omega
  · by_cases q2 : 288 ≤ i ∧ i < 288 + 24 * n
    · have e : 288 + (i - 288) = i := by omega
      have : f (288 + (i - 288)) ≤ smZ (fun k => f (288 + k)) (24 * n) := smZ_term (f := fun k => f (288 + k)) (24 * n) (fun k hk => h1 (288 + k) (by omega)) (i - 288) (by omega)
      rw [e] at this
      omega
    · rw [h2 i hi (fun w => w.elim q q2)]
      decide
theorem DZ_DI {n : Nat} (hn : n ≤ 12) {F : Nat → Int} {f : Nat → Int32} (h : DZ n F) (hf : ∀ i, i < 576 → f i = Int32.ofInt (F i)) : DI n f ∧ inS n (fun i => (f i).toInt) = inS n F := by
  have e : ∀ i, i < 576 → (f i).toInt = F i := fun i hi => by
    have := h.1 i hi
    have := DZ_le hn h hi
    rw [hf i hi, Int32.toInt_ofInt_of_le (by omega) (by omega)]
  have eS : inS n (fun i => (f i).toInt) = inS n F := inS_congr hn e
  refine ⟨⟨fun i hi => ?_, fun i hi hr => ?_, ?_⟩, eS⟩
  · rw [e i hi]; exact h.1 i hi
  · rw [hf i hi, h.2.1 i hi hr]; rfl
  · rw [eS]; exact h.2.2
def dyfI (D A : Nat → Int32) (n : Nat) (x : Nat → Int32) (i : Nat) : Int := (D i).toInt + smZ (fun r => rmvI D A n 1 r (x r) i + rmvI D A n 0 r (x r) i) n
theorem dyf_oI (D A : Nat → Int32) (n : Nat) (x : Nat → Int32) (i : Nat) : dyf D A n x i = Int32.ofInt (dyfI D A n x i) := by
  unfold dyf dyfI
  rw [Int32.ofInt_add, Int32.ofInt_toInt]
  congr 1
  refine oI_smZ n (fun r _ => ?_)
  rw [Int32.ofInt_add, rmv_oI, rmv_oI]
theorem dyf_DI {n : Nat} (hn : n ≤ 12) {D : Nat → Int32} (A : Nat → Int32) (hD : DI n D) {x : Nat → Int32} (hx : ∀ r, r < n → -500 ≤ (x r).toInt ∧ (x r).toInt ≤ 500) : DI n (dyf D A n x) ∧ inS n (fun i => (dyf D A n x i).toInt) = inS n (fun i => (D i).toInt) := by
  have eS : inS n (dyfI D A n x) = inS n (fun i => (D i).toInt) := by
    have e : dyfI D A n x = fun i => (D i).toInt + smZ (fun r => rmvI D A n 1 r (x r) i + rmvI D A n 0 r (x r) i) n := rfl
    rw [e, inS_add n (fun i => (D i).toInt), inS_sum]
    rw [smZ_zero n (fun r hr => by rw [inS_add, rmvI_sum hn D A (by omega) hr, rmvI_sum hn D A (by omega) hr]; rfl)]
    omega
  have hZ : DZ n (dyfI D A n x) := by
    refine ⟨fun i hi => ?_, fun i hi ho => ?_, by rw [eS]; exact hD.2.2⟩
    · have h1 : smZ (fun r => if r = i / 24 % 12 then -(D i).toInt else 0) n ≤ smZ (fun r => rmvI D A n 1 r (x r) i + rmvI D A n 0 r (x r) i) n := by
        refine smZ_le n (fun r hr => ?_)
        have g1 := rmvI_ge hn A hD (L := 1) (by omega) hr (hx r hr) hi
        have g0 := rmvI_ge hn A hD (L := 0) (by omega) hr (hx r hr) hi
        have := hD.1 i hi
        by_cases e : r = i / 24 % 12
        · rw [if_pos e]
          split at g1 <;> split at g0 <;> omega
        · rw [if_neg e]
          rw [if_neg (by omega)] at g1 g0
          omega
      rw [smZ_ind (i / 24 % 12) (fun _ => -(D i).toInt)] at h1
      have := hD.1 i hi
      unfold dyfI
      split at h1 <;> omega
    · unfold dyfI
      rw [hD.2.1 i hi ho, smZ_zero n (fun r hr => by rw [rmvI_out D A (by omega) hr _ ho, rmvI_out D A (by omega) hr _ ho]; rfl)]
      rfl
  have := DZ_DI hn hZ (fun i _ => dyf_oI D A n x i)
  exact ⟨this.1, this.2.trans eS⟩
theorem mxb_b {m a b : Int32} (ha : 0 ≤ a.toInt ∧ a.toInt ≤ 10000000) (hb : 0 ≤ b.toInt ∧ b.toInt ≤ 10000000) (hm : 0 ≤ m.toInt ∧ m.toInt ≤ 500) : (b.toInt ≤ a.toInt → 0 ≤ (mxb m a b).toInt ∧ (mxb m a b).toInt ≤ a.toInt - b.toInt) ∧ (a.toInt ≤ b.toInt → a.toInt - b.toInt ≤ (mxb m a b).toInt ∧ (mxb m a b).toInt ≤ 0) := by
  have e0 : (a - b).toInt = a.toInt - b.toInt := by rw [Int32.toInt_sub, Int.bmod_eq_of_le (by omega) (by omega)]
  generalize hd : a.toInt - b.toInt = d at e0
  have hd2 : -10000000 ≤ d ∧ d ≤ 10000000 := by omega
  have bnd : (0 ≤ d → 0 ≤ d * m.toInt ∧ d * m.toInt ≤ d * 500) ∧ (d ≤ 0 → d * 500 ≤ d * m.toInt ∧ d * m.toInt ≤ 0) := by
    constructor
    · intro h
      exact ⟨Int.mul_nonneg h hm.1, Int.mul_le_mul_of_nonneg_left hm.2 h⟩
    · intro h
      have h1 := Int.mul_nonneg (show 0 ≤ -d by omega) hm.1
      have h2 := Int.mul_le_mul_of_nonneg_left hm.2 (show 0 ≤ -d by omega)
      rw [Int.neg_mul] at h1 h2
      rw [Int.neg_mul] at h2
      omega
  generalize hp : d * m.toInt = p at bnd
  have hp2 : -5000000000 ≤ p ∧ p ≤ 5000000000 := by
    rcases Int.le_total 0 d with h | h
    · have := bnd.1 h; omega
    · have := bnd.2 h; omega
  have e1 : ((a - b).toInt64 * m.toInt64).toInt = p := by
    rw [Int64.toInt_mul, Int32.toInt_toInt64, Int32.toInt_toInt64, e0, hp, Int.bmod_eq_of_le (by omega) (by omega)]
  have hq : (0 ≤ p → p.tdiv 2000 = p / 2000) ∧ (p ≤ 0 → p.tdiv 2000 = -((-p) / 2000)) := by
    constructor
    · intro h
      exact Int.tdiv_eq_ediv_of_nonneg h
    · intro h
      have := Int.neg_tdiv (-p) 2000
      rw [Int.neg_neg] at this
      rw [this, Int.tdiv_eq_ediv_of_nonneg (by omega)]
  have hq2 : -10000000 ≤ p.tdiv 2000 ∧ p.tdiv 2000 ≤ 10000000 := by
    rcases Int.le_total 0 p with h | h
    · rw [hq.1 h]; omega
    · rw [hq.2 h]; omega
  have e3 : (mxb m a b).toInt = p.tdiv 2000 := by
    unfold mxb
    rw [Int64.toInt_toInt32, Int64.toInt_div, e1, show (2000 : Int64).toInt = 2000 by decide, Int.bmod_eq_of_le (n := p.tdiv 2000) (by omega) (by omega), Int.bmod_eq_of_le (by omega) (by omega)]
  rw [e3]
  constructor
  · intro h
    have := bnd.1 (by omega)
    rw [hq.1 (by omega)]
    omega
  · intro h
    have := bnd.2 (by omega)
    rw [hq.2 (by omega)]
    omega
def mixI (m : Int32) (n : Nat) (f : Nat → Int32) (i : Nat) : Int := if i < n then (f i).toInt - (mxb m (f i) (f (288 + i))).toInt else if 288 ≤ i ∧ i < 288 + n then (f i).toInt + (mxb m (f (i - 288)) (f i)).toInt else (f i).toInt
theorem mixF_oI (m : Int32) (n : Nat) (f : Nat → Int32) (i : Nat) : mixF m n f i = Int32.ofInt (mixI m n f i) := by
  unfold mixF mixI
  by_cases h : i < n
  · rw [if_pos h, if_pos h, Int32.ofInt_sub, Int32.ofInt_toInt, Int32.ofInt_toInt]
  · rw [if_neg h, if_neg h]
    by_cases h2 : 288 ≤ i ∧ i < 288 + n
    · rw [if_pos h2, if_pos h2, Int32.ofInt_add, Int32.ofInt_toInt, Int32.ofInt_toInt]
    · rw [if_neg h2, if_neg h2, Int32.ofInt_toInt]
theorem mix_DI {n : Nat} (hn : n ≤ 12) {D : Nat → Int32} (hD : DI n D) {m : Int32} (hm : 0 ≤ m.toInt ∧ m.toInt ≤ 500) : DI n (mixF m (24 * n) D) ∧ inS n (fun i => (mixF m (24 * n) D i).toInt) = inS n (fun i => (D i).toInt) := by
  have hc : ∀ i, i < 576 → 0 ≤ (D i).toInt ∧ (D i).toInt ≤ 10000000 := fun i hi => ⟨hD.1 i hi, DI_le hn hD hi⟩
  have eS : inS n (mixI m (24 * n) D) = inS n (fun i => (D i).toInt) := by
    show smZ (mixI m (24 * n) D) (24 * n) + smZ (fun k => mixI m (24 * n) D (288 + k)) (24 * n) = smZ (fun i => (D i).toInt) (24 * n) + smZ (fun k => (D (288 + k)).toInt) (24 * n)
    rw [smZ_congr (g := fun k => (D k).toInt + -(mxb m (D k) (D (288 + k))).toInt) (24 * n) (fun k hk => by unfold mixI; rw [if_pos hk]; omega), smZ_congr (f := fun k => mixI m (24 * n) D (288 + k)) (g := fun k => (D (288 + k)).toInt + (mxb m (D k) (D (288 + k))).toInt) (24 * n) (fun k hk => by
      show mixI m (24 * n) D (288 + k) = _
      unfold mixI
      rw [if_neg (by omega), if_pos (by omega), show 288 + k - 288 = k by omega]), smZ_add (fun k => (D k).toInt), smZ_add (fun k => (D (288 + k)).toInt)]
    have : smZ (fun k => -(mxb m (D k) (D (288 + k))).toInt) (24 * n) + smZ (fun k => (mxb m (D k) (D (288 + k))).toInt) (24 * n) = 0 := by
      rw [← smZ_add]
      exact smZ_zero _ (fun k _ => by omega)
    omega
  have hZ : DZ n (mixI m (24 * n) D) := by
    refine ⟨fun i hi => ?_, fun i hi ho => ?_, by rw [eS]; exact hD.2.2⟩
    · unfold mixI
      by_cases h : i < 24 * n
      · rw [if_pos h]
        have h1 := hc i hi
        have h2 := hc (288 + i) (by omega)
        have := mxb_b h1 h2 hm
        rcases Int.le_total (D (288 + i)).toInt (D i).toInt with q | q
        · have := this.1 q; omega
        · have := this.2 q; omega
      · rw [if_neg h]
        by_cases h2 : 288 ≤ i ∧ i < 288 + 24 * n
        · rw [if_pos h2]
          have h1 := hc i hi
          have h2 := hc (i - 288) (by omega)
          have := mxb_b h2 h1 hm
          rcases Int.le_total (D i).toInt (D (i - 288)).toInt with q | q
          · have := this.1 q; omega
          · have := this.2 q; omega
        · rw [if_neg h2]
          exact (hc i hi).1
    · unfold mixI
      rw [if_neg (fun q => ho (Or.inl q)), if_neg (fun q => ho (Or.inr q)), hD.2.1 i hi ho]
      rfl
  have := DZ_DI hn hZ (fun i _ => mixF_oI m (24 * n) D i)
  exact ⟨this.1, this.2.trans eS⟩
theorem sm_split (g : Nat → Int32) (a : Nat) : ∀ b, sm g (a + b) = sm g a + sm (fun j => g (a + j)) b
  | 0 => (Int32.add_zero _).symm
  | b + 1 => by
    show sm g (a + b) + g (a + b) = sm g a + (sm (fun j => g (a + j)) b + g (a + b))
    rw [sm_split g a b, Int32.add_assoc]
theorem sm_blocks (g : Nat → Int32) : ∀ n, sm (fun r => sm (fun j => g (24 * r + j)) 24) n = sm g (24 * n)
  | 0 => rfl
  | n + 1 => by
    show sm (fun r => sm (fun j => g (24 * r + j)) 24) n + sm (fun j => g (24 * n + j)) 24 = sm g (24 * n + 24)
    rw [sm_blocks g n, sm_split]
theorem rw0 (f : Nat → Int32) (r j : Nat) : f (rwi 0 r + j) = f (24 * r + j) := congrArg f (by unfold rwi; omega)
theorem rw1 (f : Nat → Int32) (r j : Nat) : f (rwi 1 r + j) = f (288 + (24 * r + j)) := congrArg f (by unfold rwi; omega)
theorem allA_flat (f : Nat → Int32) (n : Nat) : allA f n = sm f (24 * n) + sm (fun k => f (288 + k)) (24 * n) := by
  have h0 : sm (rowS f 0) n = sm f (24 * n) := (sm_congr n (fun r _ => sm_congr 24 (fun j _ => rw0 f r j))).trans (sm_blocks f n)
  have h1 : sm (rowS f 1) n = sm (fun k => f (288 + k)) (24 * n) := (sm_congr n (fun r _ => sm_congr 24 (fun j _ => rw1 f r j))).trans (sm_blocks (fun k => f (288 + k)) n)
  unfold allA
  rw [h0, h1]
theorem allA_inS (f : Nat → Int32) (n : Nat) : allA f n = Int32.ofInt (inS n (fun i => (f i).toInt)) := by
  have h0 : sm f (24 * n) = Int32.ofInt (smZ (fun i => (f i).toInt) (24 * n)) := oI_smZ _ (fun k _ => (Int32.ofInt_toInt _).symm)
  have h1 : sm (fun k => f (288 + k)) (24 * n) = Int32.ofInt (smZ (fun k => (f (288 + k)).toInt) (24 * n)) := oI_smZ _ (fun k _ => (Int32.ofInt_toInt _).symm)
  rw [allA_flat, h0, h1, ← Int32.ofInt_add]
  rfl
theorem inS_nn {n : Nat} (hn : n ≤ 12) {F : Nat → Int} (h : ∀ i, i < 576 → 0 ≤ F i) : 0 ≤ inS n F := by
  have h1 := smZ_nn (f := F) (24 * n) (fun k hk => h k (by omega))
  have h2 := smZ_nn (f := fun k => F (288 + k)) (24 * n) (fun k hk => h (288 + k) (by omega))
  unfold inS
  omega
theorem DI_all {n : Nat} (hn : n ≤ 12) {f : Nat → Int32} (h : DI n f) : 0 ≤ (allA f n).toInt ∧ (allA f n).toInt ≤ 10000000 ∧ (allA f n).toInt = inS n (fun i => (f i).toInt) := by
  have h1 := inS_nn hn h.1
  have h2 := h.2.2
  rw [allA_inS, Int32.toInt_ofInt_of_le (by omega) (by omega)]
  exact ⟨h1, h2, rfl⟩
/-- one colour's cells behind a tick -/
theorem tick_DI {n : Nat} (hn : n ≤ 12) {D : Nat → Int32} (A : Nat → Int32) (hD : DI n D) {x : Nat → Int32} (hx : ∀ r, r < n → -500 ≤ (x r).toInt ∧ (x r).toInt ≤ 500) {m : Int32} (hm : 0 ≤ m.toInt ∧ m.toInt ≤ 500) : DI n (mixF m (24 * n) (dyf D A n x)) ∧ allA (mixF m (24 * n) (dyf D A n x)) n = allA D n := by
  have h1 := dyf_DI hn A hD hx
  have h2 := mix_DI hn h1.1 hm
  refine ⟨h2.1, ?_⟩
  rw [allA_inS, allA_inS, h2.2, h1.2]
theorem clP_b (x : Int32) : -500 ≤ (clP x).toInt ∧ (clP x).toInt ≤ 500 := by
  unfold clP
  by_cases h1 : x < -500
  · rw [if_pos h1]; decide
  · rw [if_neg h1]
    by_cases h2 : 500 < x
    · rw [if_pos h2]; decide
    · rw [if_neg h2]
      rw [Int32.lt_iff_toInt_lt, show (-500 : Int32).toInt = -500 by decide] at h1
      rw [Int32.lt_iff_toInt_lt, show (500 : Int32).toInt = 500 by decide] at h2
      omega
theorem psh_b (S P : Nat → Int32) (r : Nat) : -500 ≤ (psh S P r).toInt ∧ (psh S P r).toInt ≤ 500 := clP_b _
