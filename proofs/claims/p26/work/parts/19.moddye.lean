/-! the stretch of dyes, by colour and place -/
def rg2 (f : Nat → Nat → Int32) (a : Nat → Int32) (k : Nat) : Int32 := if 658 ≤ k ∧ k < 2386 then f ((k - 658) / 576) ((k - 658) % 576) else a k
theorem rg2_at {f : Nat → Nat → Int32} {a : Nat → Int32} {c i : Nat} (hc : c < 3) (hi : i < 576) : rg2 f a (658 + (576 * c + i)) = f c i := by
  unfold rg2
  rw [if_pos (by omega), show (658 + (576 * c + i) - 658) / 576 = c by omega, show (658 + (576 * c + i) - 658) % 576 = i by omega]
theorem rg2_out {f : Nat → Nat → Int32} {a : Nat → Int32} {k : Nat} (h : k < 658) : rg2 f a k = a k := if_neg (by omega)
def upc (f : Nat → Nat → Int32) (c : Nat) (g : Nat → Int32) (c' : Nat) : Nat → Int32 := if c' = c then g else f c'
theorem upc_eq (f : Nat → Nat → Int32) (c : Nat) (g : Nat → Int32) : upc f c g c = g := if_pos rfl
theorem upc_upc (f : Nat → Nat → Int32) (c : Nat) (g h : Nat → Int32) : upc (upc f c g) c h = upc f c h := by
  funext c'
  unfold upc
  by_cases e : c' = c
  · rw [if_pos e, if_pos e]
  · rw [if_neg e, if_neg e, if_neg e]
theorem rg2_upd {f : Nat → Nat → Int32} {a : Nat → Int32} {c i : Nat} {x : Int32} (hc : c < 3) (hi : i < 576) : upd (rg2 f a) (658 + (576 * c + i)) x = rg2 (upc f c (upd (f c) i x)) a := by
  funext k
  unfold upd rg2 upc
  by_cases e : k = 658 + (576 * c + i)
  · rw [if_pos e, if_pos (by omega), if_pos (by omega), if_pos (by omega)]
  · rw [if_neg e]
    by_cases h : 658 ≤ k ∧ k < 2386
    · rw [if_pos h, if_pos h]
      by_cases h2 : (k - 658) / 576 = c
      · rw [if_pos h2, if_neg (by omega), h2]
      · rw [if_neg h2]
    · rw [if_neg h, if_neg h]
theorem rg2_self (a : Nat → Int32) : rg2 (aD a) a = a := by
  funext k
  unfold rg2 aD
  by_cases h : 658 ≤ k ∧ k < 2386
  · rw [if_pos h]
    exact congrArg a (by omega)
  · rw [if_neg h]
theorem rg2_congr {f g : Nat → Nat → Int32} {a : Nat → Int32} (h : ∀ c, c < 3 → f c = g c) : rg2 f a = rg2 g a := by
  funext k
  unfold rg2
  by_cases h2 : 658 ≤ k ∧ k < 2386
  · rw [if_pos h2, if_pos h2, h _ (by omega)]
  · rw [if_neg h2, if_neg h2]
/-- the colours before c have had their share of place j too -/
def gvc (D : Nat → Nat → Int32) (B : Nat → Nat → Int32) (A : Nat → Int32) (L r tg : Nat) (s : Int32) (j c c' i : Nat) : Int32 := D c' i + gv (B c') A L r tg s (if c' < c then j + 1 else j) i
theorem gvc_s {D B : Nat → Nat → Int32} {A : Nat → Int32} {L r tg : Nat} {s : Int32} {j c : Nat} (hne : rwi L r + j ≠ rwi L tg + jj A r tg j) :
    upc (gvc D B A L r tg s j c) c (upd (upd (gvc D B A L r tg s j c c) (rwi L r + j) (gvc D B A L r tg s j c c (rwi L r + j) - mva (B c (rwi L r + j)) s)) (rwi L tg + jj A r tg j) (upd (gvc D B A L r tg s j c c) (rwi L r + j) (gvc D B A L r tg s j c c (rwi L r + j) - mva (B c (rwi L r + j)) s) (rwi L tg + jj A r tg j) + mva (B c (rwi L r + j)) s)) = gvc D B A L r tg s j (c + 1) := by
  rw [con_upd _ hne]
  funext c'
  unfold upc
  by_cases e : c' = c
  · rw [if_pos e, e]
    funext i
    unfold gvc
    rw [if_neg (by omega), if_pos (by omega)]
    show _ + sm _ j + _ = _ + (sm _ j + _)
    rw [Int32.add_assoc]
  · rw [if_neg e]
    funext i
    unfold gvc
    by_cases h : c' < c
    · rw [if_pos h, if_pos (by omega)]
    · rw [if_neg h, if_neg (by omega)]
theorem gvc_3 {D B : Nat → Nat → Int32} {A : Nat → Int32} {L r tg : Nat} {s : Int32} {j : Nat} {a : Nat → Int32} : rg2 (gvc D B A L r tg s j 3) a = rg2 (gvc D B A L r tg s (j + 1) 0) a := by
  refine rg2_congr (fun c hc => ?_)
  funext i
  unfold gvc
  rw [if_pos hc, if_neg (by omega)]
theorem absI_neg (x : Int32) (h : ¬ 0 ≤ x) : -x = absI x := (absI_lt h).symm
