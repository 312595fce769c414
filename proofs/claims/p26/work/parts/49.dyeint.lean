/-! dyes as whole numbers: none is lost -/
def smZ (f : Nat → Int) : Nat → Int
  | 0 => 0
  | n + 1 => smZ f n + f n
theorem smZ_add (f g : Nat → Int) : ∀ n, smZ (fun k => f k + g k) n = smZ f n + smZ g n
  | 0 => rfl
  | n + 1 => by
    show smZ (fun k => f k + g k) n + (f n + g n) = smZ f n + f n + (smZ g n + g n)
    rw [smZ_add f g n]
    omega
theorem smZ_congr {f g : Nat → Int} : ∀ (n : Nat), (∀ k, k < n → f k = g k) → smZ f n = smZ g n
  | 0, _ => rfl
  | n + 1, h => by
    show smZ f n + f n = smZ g n + g n
    rw [smZ_congr n (fun k hk => h k (by omega)), h n (by omega)]
theorem smZ_zero {f : Nat → Int} : ∀ (n : Nat), (∀ k, k < n → f k = 0) → smZ f n = 0
  | 0, _ => rfl
  | n + 1, h => by
    show smZ f n + f n = 0
    rw [smZ_zero n (fun k hk => h k (by omega)), h n (by omega)]
    rfl
theorem smZ_le {f g : Nat → Int} : ∀ (n : Nat), (∀ k, k < n → f k ≤ g k) → smZ f n ≤ smZ g n
  | 0, _ => Int.le_refl 0
  | n + 1, h => by
    show smZ f n + f n ≤ smZ g n + g n
    have := smZ_le n (fun k hk => h k (by omega))
    have := h n (by omega)
    omega
theorem smZ_nn {f : Nat → Int} : ∀ (n : Nat), (∀ k, k < n → 0 ≤ f k) → 0 ≤ smZ f n
  | 0, _ => Int.le_refl 0
  | n + 1, h => by
    show 0 ≤ smZ f n + f n
    have := smZ_nn n (fun k hk => h k (by omega))
    have := h n (by omega)
    omega
theorem smZ_term {f : Nat → Int} : ∀ (n : Nat), (∀ k, k < n → 0 ≤ f k) → ∀ k, k < n → f k ≤ smZ f n
  | 0, _, k, hk => absurd hk (by omega)
  | n + 1, h, k, hk => by
    show f k ≤ smZ f n + f n
    have h1 := smZ_nn n (fun k hk => h k (by omega))
    have h2 := h n (by omega)
    by_cases e : k = n
    · rw [e]; omega
    · have := smZ_term n (fun k hk => h k (by omega)) k (by omega)
      omega
theorem smZ_ind (i : Nat) (b : Nat → Int) : ∀ n, smZ (fun k => if k = i then b k else 0) n = if i < n then b i else 0
  | 0 => rfl
  | n + 1 => by
    show smZ (fun k => if k = i then b k else 0) n + (if n = i then b n else 0) = _
    rw [smZ_ind i b n]
    by_cases h : n = i
    · rw [if_neg (by omega), if_pos h, if_pos (by omega), h]
      omega
    · rw [if_neg h]
      by_cases h2 : i < n
      · rw [if_pos h2, if_pos (by omega)]
        omega
      · rw [if_neg h2, if_neg (by omega)]
        rfl
theorem smZ_swap (F : Nat → Nat → Int) (m : Nat) : ∀ n, smZ (fun i => smZ (F i) m) n = smZ (fun j => smZ (fun i => F i j) n) m
  | 0 => (smZ_zero m (fun _ _ => rfl)).symm
  | n + 1 => by
    show smZ (fun i => smZ (F i) m) n + smZ (F n) m = smZ (fun j => smZ (fun i => F i j) n + F n j) m
    rw [smZ_swap F m n, smZ_add]
/-- the cells of the rings that there are -/
def inS (n : Nat) (F : Nat → Int) : Int := smZ F (24 * n) + smZ (fun k => F (288 + k)) (24 * n)
theorem inS_add (n : Nat) (f g : Nat → Int) : inS n (fun k => f k + g k) = inS n f + inS n g := by
  unfold inS
  rw [smZ_add, smZ_add (fun k => f (288 + k))]
  omega
theorem inS_congr {n : Nat} (hn : n ≤ 12) {f g : Nat → Int} (h : ∀ k, k < 576 → f k = g k) : inS n f = inS n g := by
  unfold inS
  rw [smZ_congr _ (fun k hk => h k (by omega)), smZ_congr (f := fun k => f (288 + k)) _ (fun k hk => h (288 + k) (by omega))]
theorem inS_sum (n : Nat) (F : Nat → Nat → Int) (m : Nat) : inS n (fun i => smZ (F i) m) = smZ (fun j => inS n (fun i => F i j)) m := by
  unfold inS
  rw [smZ_swap, smZ_swap (fun k => F (288 + k)), smZ_add]
def inR (n i : Nat) : Prop := i < 24 * n ∨ (288 ≤ i ∧ i < 288 + 24 * n)
theorem inS_ind {n p : Nat} (hn : n ≤ 12) (b : Int) (hp : inR n p) : inS n (fun i => if i = p then b else 0) = b := by
  unfold inS
  rw [smZ_ind p (fun _ => b)]
  by_cases h : p < 24 * n
  · rw [if_pos h, smZ_zero _ (fun k hk => if_neg (by omega))]
    omega
  · have h2 : 288 ≤ p ∧ p < 288 + 24 * n := by
      rcases hp with q | q
      · exact absurd q h
      · exact q
    rw [if_neg h, smZ_congr (g := fun k => if k = p - 288 then b else 0) _ (fun k hk => by
      by_cases q : k = p - 288
      · exact (if_pos (show 288 + k = p by omega)).trans (if_pos q).symm
      · exact (if_neg (show ¬ 288 + k = p by omega)).trans (if_neg q).symm), smZ_ind (p - 288) (fun _ => b), if_pos (by omega)]
    omega
def conI (src dst : Nat) (b : Int) (i : Nat) : Int := (if i = dst then b else 0) - (if i = src then b else 0)
theorem inS_con {n src dst : Nat} (hn : n ≤ 12) (b : Int) (h1 : inR n src) (h2 : inR n dst) : inS n (conI src dst b) = 0 := by
  have e : conI src dst b = fun i => (if i = dst then b else 0) + (if i = src then -b else 0) := by
    funext i
    unfold conI
    by_cases q : i = src
    · rw [if_pos q, if_pos q]; omega
    · rw [if_neg q, if_neg q]; omega
  rw [e, inS_add, inS_ind hn b h2, inS_ind hn (-b) h1]
  omega
theorem oI_smZ {f : Nat → Int32} {g : Nat → Int} : ∀ (n : Nat), (∀ k, k < n → f k = Int32.ofInt (g k)) → sm f n = Int32.ofInt (smZ g n)
  | 0, _ => rfl
  | n + 1, h => by
    show sm f n + f n = Int32.ofInt (smZ g n + g n)
    rw [Int32.ofInt_add, oI_smZ n (fun k hk => h k (by omega)), h n (by omega)]
theorem con_oI (src dst : Nat) (b : Int) (i : Nat) : con src dst (Int32.ofInt b) i = Int32.ofInt (conI src dst b i) := by
  unfold con conI
  rw [Int32.ofInt_sub]
  congr 1
  · split <;> rfl
  · split <;> rfl
theorem mva_b {x s : Int32} (h1 : 0 ≤ x.toInt) (h2 : x.toInt ≤ 10000000) (h3 : 0 ≤ s.toInt) (h4 : s.toInt ≤ 500) : 0 ≤ (mva x s).toInt ∧ (mva x s).toInt ≤ x.toInt := by
  have p1 : 0 ≤ x.toInt * s.toInt := Int.mul_nonneg h1 h3
  have p2 : x.toInt * s.toInt ≤ x.toInt * 500 := Int.mul_le_mul_of_nonneg_left h4 h1
  have e1 : (x.toInt64 * s.toInt64).toInt = x.toInt * s.toInt := by
    rw [Int64.toInt_mul, Int32.toInt_toInt64, Int32.toInt_toInt64, Int.bmod_eq_of_le (by omega) (by omega)]
  have e2 : (x.toInt64 * s.toInt64 / 1000).toInt = x.toInt * s.toInt / 1000 := by
    rw [Int64.toInt_div, e1, show (1000 : Int64).toInt = 1000 by decide, Int.tdiv_eq_ediv_of_nonneg p1, Int.bmod_eq_of_le (by omega) (by omega)]
  have e3 : (mva x s).toInt = x.toInt * s.toInt / 1000 := by
    unfold mva
    rw [Int64.toInt_toInt32, e2, Int.bmod_eq_of_le (by omega) (by omega)]
  rw [e3]
  omega
/-- one colour's cells: none below 0, none outside the rings, the sum at most the greatest amount -/
def DI (n : Nat) (f : Nat → Int32) : Prop := (∀ i, i < 576 → 0 ≤ (f i).toInt) ∧ (∀ i, i < 576 → ¬ inR n i → f i = 0) ∧ inS n (fun i => (f i).toInt) ≤ 10000000
theorem DI_le {n : Nat} (hn : n ≤ 12) {f : Nat → Int32} (h : DI n f) {i : Nat} (hi : i < 576) : (f i).toInt ≤ 10000000 := by
  obtain ⟨h1, h2, h3⟩ := h
  change smZ (fun i => (f i).toInt) (24 * n) + smZ (fun k => (f (288 + k)).toInt) (24 * n) ≤ 10000000 at h3
  have a1 := smZ_nn (f := fun i => (f i).toInt) (24 * n) (fun k hk => h1 k (by omega))
  have a2 := smZ_nn (f := fun k => (f (288 + k)).toInt) (24 * n) (fun k hk => h1 (288 + k) (by omega))
  by_cases q : i < 24 * n
  · have := smZ_term (f := fun i => (f i).toInt) (24 * n) (fun k hk => h1 k (by omega)) i q
    show (f i).toInt ≤ _
    have : (f i).toInt ≤ smZ (fun i => (f i).toInt) (24 * n) := this
    omega
  · by_cases q2 : 288 ≤ i ∧ i < 288 + 24 * n
    · have := smZ_term (f := fun k => (f (288 + k)).toInt) (24 * n) (fun k hk => h1 (288 + k) (by omega)) (i - 288) (by omega)
      have e : 288 + (i - 288) = i := by omega
      have : (f (288 + (i - 288))).toInt ≤ smZ (fun k => (f (288 + k)).toInt) (24 * n) := this
      rw [e] at this
      omega
    · rw [h2 i hi (fun w => w.elim q q2)]
      decide
theorem rwi_in {n L r j : Nat} (hL : L < 2) (hr : r < n) (hj : j < 24) : inR n (rwi L r + j) := by
  unfold inR rwi
  omega
/-- what a ring's row gives, as whole numbers -/
def gvI (D A : Nat → Int32) (L r tg : Nat) (s : Int32) (i : Nat) : Int := smZ (fun j => conI (rwi L r + j) (rwi L tg + jj A r tg j) (mva (D (rwi L r + j)) s).toInt i) 24
theorem gv_oI (D A : Nat → Int32) (L r tg : Nat) (s : Int32) (i : Nat) : gv D A L r tg s 24 i = Int32.ofInt (gvI D A L r tg s i) := by
  refine oI_smZ 24 (fun j hj => ?_)
  rw [← con_oI, Int32.ofInt_toInt]
theorem gvI_sum {n : Nat} (hn : n ≤ 12) (D A : Nat → Int32) {L r tg : Nat} (hL : L < 2) (hr : r < n) (htg : tg < n) (s : Int32) : inS n (gvI D A L r tg s) = 0 := by
  show inS n (fun i => smZ (fun j => conI (rwi L r + j) (rwi L tg + jj A r tg j) (mva (D (rwi L r + j)) s).toInt i) 24) = 0
  rw [inS_sum]
  exact smZ_zero 24 (fun j hj => inS_con hn _ (rwi_in hL hr hj) (rwi_in hL htg (Nat.mod_lt _ (by omega))))
theorem gvI_out {n : Nat} (D A : Nat → Int32) {L r tg : Nat} (hL : L < 2) (hr : r < n) (htg : tg < n) (s : Int32) {i : Nat} (hi : ¬ inR n i) : gvI D A L r tg s i = 0 := by
  refine smZ_zero 24 (fun j hj => ?_)
  unfold conI
  rw [if_neg (fun e => hi (by rw [e]; exact rwi_in hL htg (Nat.mod_lt _ (by omega)))), if_neg (fun e => hi (by rw [e]; exact rwi_in hL hr hj))]
  rfl
/-- a cell gives at most what it has, and only as a cell of its own row -/
theorem gvI_ge {n : Nat} (hn : n ≤ 12) {D : Nat → Int32} (A : Nat → Int32) (hD : DI n D) {L r tg : Nat} (hL : L < 2) (hr : r < n) {s : Int32} (h3 : 0 ≤ s.toInt) (h4 : s.toInt ≤ 500) {i : Nat} (hi : i < 576) : -(if i / 24 = L * 12 + r then (D i).toInt else 0) ≤ gvI D A L r tg s i := by
  have hb : ∀ j, j < 24 → 0 ≤ (mva (D (rwi L r + j)) s).toInt ∧ (mva (D (rwi L r + j)) s).toInt ≤ (D (rwi L r + j)).toInt := fun j hj => mva_b (hD.1 _ (by unfold rwi; omega)) (DI_le hn hD (by unfold rwi; omega)) h3 h4
  have h1 : smZ (fun j => if j = i - rwi L r then -(if i / 24 = L * 12 + r then (D i).toInt else 0) else 0) 24 ≤ gvI D A L r tg s i := by
    refine smZ_le 24 (fun j hj => ?_)
    have := hb j hj
    unfold conI
    by_cases e : i = rwi L r + j
    · have e2 : i / 24 = L * 12 + r := by unfold rwi at e; omega
      rw [if_pos (by omega), if_pos e2, if_pos e]
      have e3 : D i = D (rwi L r + j) := by rw [e]
      rw [e3]
      split <;> omega
    · rw [if_neg e]
      have : (if j = i - rwi L r then -(if i / 24 = L * 12 + r then (D i).toInt else 0) else 0) ≤ 0 := by
        split
        · have := hD.1 i hi
          split <;> omega
        · omega
      split <;> omega
  rw [smZ_ind (i - rwi L r) (fun _ => -(if i / 24 = L * 12 + r then (D i).toInt else 0))] at h1
  by_cases e2 : i / 24 = L * 12 + r
  · rw [if_pos (show i - rwi L r < 24 by unfold rwi; omega)] at h1
    exact h1
  · rw [if_neg e2] at h1 ⊢
    split at h1 <;> omega
