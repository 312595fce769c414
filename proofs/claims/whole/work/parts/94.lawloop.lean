/-! the law's loop -/
set_option maxHeartbeats 4000000 in
theorem g_switch {K : zK} {L : Nat} {xs : Nat → Int32} (hS : zScr K L xs) (hL : L ≤ 3072) (i : Nat) (hi : i + 6 ≤ L) (μ : zM) (hJ : J μ) (k : ∀ μ', J μ' → Z K 9 "DyeTankLaw" code 4 890 (lwL i) [] μ') (x : Int32) : Z K 9 "DyeTankLaw" code 4 33 (lwL i) [zI x] μ := by
  by_cases h : 0 ≤ x ∧ x ≤ 22
  · obtain ⟨c, hc, e⟩ : ∃ c : Nat, c < 23 ∧ x = nI c := (rngS (by omega)).mp ⟨h.1, Int32.lt_of_le_of_lt h.2 (by decide)⟩
    rw [e]
    rcases (show c = 0 ∨ c = 1 ∨ c = 2 ∨ c = 3 ∨ c = 4 ∨ c = 5 ∨ c = 6 ∨ c = 7 ∨ c = 8 ∨ c = 9 ∨ c = 10 ∨ c = 11 ∨ c = 12 ∨ c = 13 ∨ c = 14 ∨ c = 15 ∨ c = 16 ∨ c = 17 ∨ c = 18 ∨ c = 19 ∨ c = 20 ∨ c = 21 ∨ c = 22 by omega) with rfl | rfl | rfl | rfl | rfl | rfl | rfl | rfl | rfl | rfl | rfl | rfl | rfl | rfl | rfl | rfl | rfl | rfl | rfl | rfl | rfl | rfl | rfl

    · exact z_tabIn (tgt := 140) (off := 107) dL_law_33 (by decide) (by decide) rfl (by decide) (g_case0 hS hL i hi μ hJ k)
    · exact z_tabIn (tgt := 163) (off := 130) dL_law_33 (by decide) (by decide) rfl (by decide) (g_case1 hS hL i hi μ hJ k)
    · exact z_tabIn (tgt := 196) (off := 163) dL_law_33 (by decide) (by decide) rfl (by decide) (g_case2 hS hL i hi μ hJ k)
    · exact z_tabIn (tgt := 229) (off := 196) dL_law_33 (by decide) (by decide) rfl (by decide) (g_case3 hS hL i hi μ hJ k)
    · exact z_tabIn (tgt := 262) (off := 229) dL_law_33 (by decide) (by decide) rfl (by decide) (g_case4 hS hL i hi μ hJ k)
    · exact z_tabIn (tgt := 325) (off := 292) dL_law_33 (by decide) (by decide) rfl (by decide) (g_case5 hS hL i hi μ hJ k)
    · exact z_tabIn (tgt := 348) (off := 315) dL_law_33 (by decide) (by decide) rfl (by decide) (g_case6 hS hL i hi μ hJ k)
    · exact z_tabIn (tgt := 381) (off := 348) dL_law_33 (by decide) (by decide) rfl (by decide) (g_case7 hS hL i hi μ hJ k)
    · exact z_tabIn (tgt := 434) (off := 401) dL_law_33 (by decide) (by decide) rfl (by decide) (g_case8 hS hL i hi μ hJ k)
    · exact z_tabIn (tgt := 468) (off := 435) dL_law_33 (by decide) (by decide) rfl (by decide) (g_case9 hS hL i hi μ hJ k)
    · exact z_tabIn (tgt := 491) (off := 458) dL_law_33 (by decide) (by decide) rfl (by decide) (g_case10 hS hL i hi μ hJ k)
    · exact z_tabIn (tgt := 524) (off := 491) dL_law_33 (by decide) (by decide) rfl (by decide) (g_case11 hS hL i hi μ hJ k)
    · exact z_tabIn (tgt := 557) (off := 524) dL_law_33 (by decide) (by decide) rfl (by decide) (g_case12 hS hL i hi μ hJ k)
    · exact z_tabIn (tgt := 600) (off := 567) dL_law_33 (by decide) (by decide) rfl (by decide) (g_case13 hS hL i hi μ hJ k)
    · exact z_tabIn (tgt := 633) (off := 600) dL_law_33 (by decide) (by decide) rfl (by decide) (g_case14 hS hL i hi μ hJ k)
    · exact z_tabIn (tgt := 686) (off := 653) dL_law_33 (by decide) (by decide) rfl (by decide) (g_case15 hS hL i hi μ hJ k)
    · exact z_tabIn (tgt := 739) (off := 706) dL_law_33 (by decide) (by decide) rfl (by decide) (g_case16 hS hL i hi μ hJ k)
    · exact z_tabIn (tgt := 782) (off := 749) dL_law_33 (by decide) (by decide) rfl (by decide) (g_case17 hS hL i hi μ hJ k)
    · exact z_tabIn (tgt := 805) (off := 772) dL_law_33 (by decide) (by decide) rfl (by decide) (g_case18 hS hL i hi μ hJ k)
    · exact z_tabIn (tgt := 818) (off := 785) dL_law_33 (by decide) (by decide) rfl (by decide) (g_case19 hS hL i hi μ hJ k)
    · exact z_tabIn (tgt := 831) (off := 798) dL_law_33 (by decide) (by decide) rfl (by decide) (g_case20 hS hL i hi μ hJ k)
    · exact z_tabIn (tgt := 844) (off := 811) dL_law_33 (by decide) (by decide) rfl (by decide) (g_case21 hS hL i hi μ hJ k)
    · exact z_tabIn (tgt := 867) (off := 834) dL_law_33 (by decide) (by decide) rfl (by decide) (g_case22 hS hL i hi μ hJ k)
  · refine z_tabOut (tgt := 890) dL_law_33 ?_ (by decide) (k μ hJ)
    by_cases h0 : x.toInt < 0
    · exact Or.inl h0
    · refine Or.inr (Int.not_le.mp (fun h1 => h ⟨Int32.le_iff_toInt_le.mpr ?_, Int32.le_iff_toInt_le.mpr ?_⟩))
      · rw [show (0 : Int32).toInt = 0 by decide]
        omega
      · rw [show (22 : Int32).toInt = 22 by decide]
        exact h1
theorem g_end_iff {L i : Nat} (hL : L ≤ 3072) (hi : i ≤ L) : nI L - 6 < nI i ↔ L < i + 6 := by
  rw [Int32.lt_iff_toInt_lt, Int32.toInt_sub, nI_toInt (show L < 2 ^ 31 by omega), nI_toInt (show i < 2 ^ 31 by omega), show (6 : Int32).toInt = 6 by decide, Int.bmod_eq_of_le (by omega) (by omega)]
  omega
theorem g_loop {K : zK} {L : Nat} {xs : Nat → Int32} (hS : zScr K L xs) (hL : L ≤ 3072) (hend : ∀ (i : Nat) (μ : zM), Z K 9 "DyeTankLaw" code 4 896 (lwL i) [] μ) : ∀ (f i : Nat) (μ : zM), i ≤ L → L < i + f → J μ → Z K 9 "DyeTankLaw" code 4 18 (lwL i) [] μ := by
  intro f
  induction f with
  | zero => intro i μ h1 h2; exact absurd h2 (by omega)
  | succ f ih =>
    intro i μ h1 h2 hJ
    refine z_iload_n dL_law_18 rfl rfl ?_
    refine z_aload_n dL_law_19 rfl rfl ?_
    refine z_slen hS dL_law_20 ?_
    refine z_bipush (v := 6) dL_law_21 (by decide) ?_
    refine z_isub dL_law_23 ?_
    refine z_icmp_gt (tgt := 896) dL_law_24 (by decide) (fun _ => hend i μ) (fun hb => ?_)
    rw [g_end_iff hL h1] at hb
    refine z_aload_n dL_law_27 rfl rfl ?_
    refine z_iload_n dL_law_28 rfl rfl ?_
    refine z_sld (j := i) hS rfl (by omega) hL dL_law_29 ?_
    refine z_bipush (v := 31) dL_law_30 (by decide) ?_
    refine z_iand dL_law_32 ?_
    refine g_switch hS hL i (by omega) μ hJ (fun μ' hJ' => ?_) _
    refine z_incS (v := nI (i + 6)) dL_law_890 rfl (by rw [show Int32.ofInt 6 = nI 6 by decide]; exact nI_add i 6) (by decide) rfl ?_
    refine z_goto (tgt := 18) dL_law_893 (by decide) ?_
    exact ih (i + 6) μ' (by omega) (by omega) hJ'
