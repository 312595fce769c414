/-! slots and pad -/
section OWN2
variable {μ μ' : zM} {a a' : rw} {S : Nat → Option rw} {l : Nat}
def putS (S : Nat → Option rw) (i : Nat) (a : rw) : Nat → Option rw := fun j => if j = i then some a else S j
theorem putS_eq (S : Nat → Option rw) (i : Nat) (a : rw) : putS S i a i = some a := if_pos rfl
theorem putS_ne (S : Nat → Option rw) {i j : Nat} (a : rw) (h : j ≠ i) : putS S i a j = S j := if_neg h
theorem o_save (h : OK μ a S l) (x : Int32) : zCs yX3_save prog_1_method_25_code 2 (some .int) 3 [zR (0, 0, 0), zI x] μ (fun μ' w => (¬ (0 ≤ x ∧ x ≤ 1) ∧ w = -2 ∧ μ' = μ) ∨ ((0 ≤ x ∧ x ≤ 1) ∧ ∃ i : Nat, i < 2 ∧ x = nI i ∧ w = a 1 ∧ OK μ' a (putS S i a) l)) :=
  zCt.imp (x_save μ a h.1 (Full_K h.2.1).1 (Full_K h.2.1).2 x) (fun μ' r0 ⟨w, e, h2⟩ => ⟨w, e, h2.imp id (fun ⟨p, i, hi, ex, ew, ν, z, em, R⟩ => ⟨p, i, hi, ex, ew, by
    subst em
    obtain ⟨h1, hF, hS, hl, s, hP⟩ := h
    have n2 : ∀ k t j : Nat, k ≠ 2 → st ν (2, 0, 0) (upd (μ (2, 0, 0)) i 1) (k, t, j) = ν (k, t, j) := fun k t j hk => st_ne _ _ (by intro e; cases e; exact hk rfl)
    refine ⟨Rep_frame h1 (fun k j h5 _ => ?_), hF, fun j hj => ?_, hl, s, hP.fr ?_ ?_⟩
    · rw [n2 k 0 j (by omega)]
      exact z (k, 0, j) (Or.inl (show (0 : Nat) ≠ 2 + i by omega))
    · rw [st_eq]
      by_cases hji : j = i
      · subst hji
        refine ⟨fun q => absurd ((putS_eq S j a).symm.trans q) (by simp), fun b hb => ?_⟩
        have hb2 := Option.some.inj ((putS_eq S j a).symm.trans hb)
        subst hb2
        refine ⟨?_, Rep_frame R (fun k j h5 _ => n2 k _ j (by omega)), hF⟩
        show ¬ upd _ j 1 j = 0
        rw [upd, if_pos rfl]
        decide
      · rw [putS_ne _ _ hji]
        have e : upd (μ (2, 0, 0)) i 1 j = μ (2, 0, 0) j := if_neg hji
        rw [e]
        obtain ⟨g1, g2⟩ := hS j hj
        exact ⟨g1, fun b hb => ⟨(g2 b hb).1, Rep_frame (g2 b hb).2.1 (fun k q h5 _ => by rw [n2 k _ q (by omega)]; exact z (k, 2 + j, q) (Or.inl (show 2 + j ≠ 2 + i by omega))), (g2 b hb).2.2⟩⟩
    · rw [n2 3 0 0 (by decide)]
      exact z (3, 0, 0) (Or.inr (Or.inl (by decide)))
    · rw [n2 4 0 0 (by decide)]
      exact z (4, 0, 0) (Or.inr (Or.inl (by decide)))⟩)⟩)
theorem o_restore (h : OK μ a S l) (x : Int32) : zCs yX3_restore prog_1_method_26_code 2 (some .int) 3 [zR (0, 0, 0), zI x] μ (fun μ' w => (¬ (0 ≤ x ∧ x ≤ 1) ∧ w = -2 ∧ μ' = μ) ∨ ((0 ≤ x ∧ x ≤ 1) ∧ ∃ i : Nat, i < 2 ∧ x = nI i ∧ ((S i = none ∧ w = -5 ∧ μ' = μ) ∨ ∃ b, S i = some b ∧ w = b 1 ∧ OK μ' b S l))) := by
  have hS := h.2.2.1
  refine zCt.imp (x_restore μ (fun i => (S i).getD a) (fun i hi hn => ?_) x) (fun μ' r0 ⟨w, e, h2⟩ => ⟨w, e, h2.imp id (fun ⟨p, i, hi, ex, h3⟩ => ⟨p, i, hi, ex, ?_⟩)⟩)
  · cases hb : S i with
    | none => exact absurd ((hS i hi).1 hb) hn
    | some b =>
      have := (hS i hi).2 b hb
      exact ⟨this.2.1, Full_K this.2.2⟩
  · cases hb : S i with
    | none =>
      have h0 := (hS i hi).1 hb
      rcases h3 with h3 | h3
      · exact Or.inl ⟨rfl, h3.2⟩
      · exact absurd h0 h3.1
    | some b =>
      have h0 := (hS i hi).2 b hb
      rcases h3 with h3 | h3
      · exact absurd h3.1 h0.1
      · have h4 := h3.2
        simp only [hb, Option.getD_some] at h4
        exact Or.inr ⟨b, rfl, h4.1, h.to h4.2.1.o01 h4.2.2 h0.2.2⟩
/-- the pad's characters -/
def TX (μ : zM) (f : Nat → Int32) (l : Nat) : Prop := ∀ i, i < l → μ (4, 0, 0) i = f i
theorem o_say (h : OK μ a S l) (hl : l < 60) {f : Nat → Int32} (hT : TX μ f l) {x : Int32} (hx : 33 ≤ x ∧ x ≤ 126) (hf : f l = x) : zCs yX3_say prog_1_method_20_code 2 (some .int) 3 [zR (0, 0, 0), zI x] μ (fun μ' w => w = nI (l + 1) ∧ OK μ' a S (l + 1) ∧ TX μ' f (l + 1)) := by
  obtain ⟨h1, hF, hS, _, s, hP⟩ := h
  refine zCt.imp (x_say μ hP (by omega) x) (fun μ' r0 ⟨w, e, h2⟩ => ⟨w, e, ?_⟩)
  rcases h2 with h2 | h2 | h2
  · exact absurd hx h2.1
  · exact absurd h2.2.1 (by omega)
  · obtain ⟨_, _, ew, rfl⟩ := h2
    have n3 : ∀ k t j : Nat, k ≠ 3 → k ≠ 4 → st (st μ (4, 0, 0) (upd (μ (4, 0, 0)) l x)) (3, 0, 0) (upd (μ (3, 0, 0)) 0 (nI (l + 1))) (k, t, j) = μ (k, t, j) := fun k t j h3 h4 => by
      rw [st_ne _ _ (by intro e; cases e; exact h3 rfl), st_ne _ _ (by intro e; cases e; exact h4 rfl)]
    have e4 : st (st μ (4, 0, 0) (upd (μ (4, 0, 0)) l x)) (3, 0, 0) (upd (μ (3, 0, 0)) 0 (nI (l + 1))) (4, 0, 0) = upd (μ (4, 0, 0)) l x := by
      rw [st_ne _ _ (by decide), st_eq]
    have hq : ∃ q, q < 65536 ∧ x = nI q := by
      have e1 := Int32.le_iff_toInt_le.mp hx.1
      have e2 := Int32.le_iff_toInt_le.mp hx.2
      have e3 : (33 : Int32).toInt = 33 := by decide
      have e4 : (126 : Int32).toInt = 126 := by decide
      exact ⟨x.toInt.toNat, by omega, sw_of (by omega) (by omega)⟩
    refine ⟨ew, ⟨Rep_frame h1 (fun k j h5 _ => n3 k 0 j (by omega) (by omega)), hF, hS.fr (n3 2 0 0 (by decide) (by decide)) (fun k t j ht => ?_), by omega, s, ?_⟩, fun i hi => ?_⟩
    · rw [st_ne _ _ (by intro e; cases e; omega), st_ne _ _ (by intro e; cases e; omega)]
    · unfold PD at hP ⊢
      rw [e4, st_eq]
      refine ⟨if_pos rfl, ?_, fun i hi => ?_⟩
      · rw [upd, if_neg (by decide)]
        exact hP.2.1
      · unfold upd
        split
        · exact hq
        · exact hP.2.2 i hi
    · rw [e4]
      unfold upd
      split
      · next e => rw [e]; exact hf.symm
      · next e => exact hT i (by omega)
theorem o_wipe (h : OK μ a S l) : zCs yX3_wipe prog_1_method_21_code 2 (some .int) 1 [zR (0, 0, 0)] μ (fun μ' w => w = nI l ∧ OK μ' a S 0) := by
  obtain ⟨h1, hF, hS, hl, s, hP⟩ := h
  refine zCt.imp (x_wipe μ) (fun μ' r0 ⟨w, e, ew, em⟩ => ⟨w, e, ?_⟩)
  subst em
  have n3 : ∀ k t j : Nat, k ≠ 3 → st μ (3, 0, 0) (upd (μ (3, 0, 0)) 0 0) (k, t, j) = μ (k, t, j) := fun k t j h3 => st_ne _ _ (by intro e; cases e; exact h3 rfl)
  refine ⟨by rw [ew, hP.1], Rep_frame h1 (fun k j h5 _ => n3 k 0 j (by omega)), hF, hS.fr (n3 2 0 0 (by decide)) (fun k t j ht => ?_), Nat.zero_le _, s, ?_⟩
  · exact st_ne _ _ (by intro e; cases e; omega)
  · unfold PD at hP ⊢
    rw [n3 4 0 0 (by decide), st_eq]
    exact ⟨if_pos rfl, by rw [upd, if_neg (by decide)]; exact hP.2.1, hP.2.2⟩
theorem OK.pad {l' : Nat} (h : OK μ a S l) (hz : zo3 μ μ') (hR : Rep μ' 0 a') (hF : Full a') (hl : l' ≤ 60) (hP : ∃ s, PD μ' l' s) : OK μ' a' S l' :=
  ⟨hR, hF, h.2.2.1.fr (hz (2, 0, 0) (by decide) (Or.inr (Or.inl (by decide)))) (fun k t i ht => hz (k, t, i) (by intro e; cases e; omega) (Or.inl (show t ≠ 0 by omega))), hl, hP⟩
theorem o_fault (h : OK μ a S l) : zCs yX3_fault prog_1_method_22_code 1 (some .int) 7 [zR (0, 0, 0)] μ (fun μ' r => r = fauP (chr (μ (4, 0, 0)) l) l ∧ OK μ' a S l ∧ μ' (4, 0, 0) = μ (4, 0, 0)) := by
  obtain ⟨s, hP⟩ := h.2.2.2.2
  refine zCt.imp (x_fault μ hP h.2.2.2.1) (fun μ' r0 ⟨w, e, ew, z, hs⟩ => ⟨w, e, ew, h.pad z.zo3 (Rep_off3 h.1 z) h.2.1 h.2.2.2.1 hs, z (4, 0, 0) (by decide)⟩)
theorem o_carryOut (h : OK μ a S l) (hRF : fauP (chr (μ (4, 0, 0)) l) l = -6 → Full (runA (txtP (chr (μ (4, 0, 0)) l) 21 0).2.2 a).2) : zCs yX3_carryOut prog_1_method_23_code 3 (some .int) 8 [zR (0, 0, 0)] μ (fun μ' r => r = (if fauP (chr (μ (4, 0, 0)) l) l = -6 then nI (runA (txtP (chr (μ (4, 0, 0)) l) 21 0).2.2 a).1 else -3) ∧ OK μ' (if fauP (chr (μ (4, 0, 0)) l) l = -6 then (runA (txtP (chr (μ (4, 0, 0)) l) 21 0).2.2 a).2 else a) S (if fauP (chr (μ (4, 0, 0)) l) l = -6 then 0 else l)) := by
  obtain ⟨s, hP⟩ := h.2.2.2.2
  refine zCt.imp (x_carryOut μ a h.1 Full (fun _ => Full_Gd) (fun _ _ => Full_doA) h.2.1 hP h.2.2.2.1) (fun μ' r0 ⟨w, e, z, hs, er, hR⟩ => ⟨w, e, er, h.pad z hR ?_ ?_ hs⟩)
  · split
    · next e => exact hRF e
    · exact h.2.1
  · split
    · omega
    · exact h.2.2.2.1
end OWN2
