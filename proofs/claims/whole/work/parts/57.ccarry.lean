/-! texts carried out: the component -/
theorem x_carriedOut (μ : zM) (a : Nat → Int32) (h : Rep μ 0 a) (t : Nat) (hI : Inv a t) (h1 : a 1 = nI t) (ht1 : t ≤ 100000) (hG : Gd a) (L : List Int32) (hS : SL L) (hF : FLD (μ (3, 0, 0)) L) : zCs yX3_carriedOut prog_1_method_24_code 1 (some .boolean) 7 [zR (0, 0, 0)] μ (fun μ' r => r = zb ((doA a L).1 = true) ∧ zoT 0 μ μ' ∧ Rep μ' 0 (doA a L).2) := by
  obtain ⟨hT, hV, hA⟩ := hG
  obtain ⟨hB, hS0, hD, hM⟩ := hI
  have hI : Inv a t := ⟨hB, hS0, hD, hM⟩
  have hn2 := hB.2.1
  have hn12 := hB.2.2.1
  have hR : R0 a := ⟨hB.1, hn2, hn12⟩
  have h0 := hR
  clear hR
  obtain ⟨f2, ft, fv, fd⟩ := hF
  refine zCt.of "DyeTank" rfl (by decide +kernel) rfl (Nat.le_of_ble_eq_true rfl) (fun K hR => ?_)
  have v0 := zv_0
  have v1 := zv_1
  have v2 := zv_2
  have v3 := zv_3
  have v4 := zv_4
  refine z_ls (ls' := [zR (0, 0, 0)]) rfl ?_
  refine z_aload_n dX3_carriedOut_0 rfl rfl ?_
  refine zg_X3_pad dX3_carriedOut_1 tw_166 ?_
  refine zg_X1_kind dX3_carriedOut_4 tw_129 ?_
  refine z_top ((show _ = L.getD 0 0 from f2)) ?_
  refine z_bipush (v := 116) dX3_carriedOut_7 (by decide) ?_
  rcases hS with ⟨hk, hlen⟩ | ⟨hk, hlen⟩ | ⟨hk, hlen⟩
  · refine z_icmp_ne (tgt := 32) dX3_carriedOut_9 (by decide) (fun h9 => absurd h9 (Decidable.not_not.mpr hk)) (fun _ => ?_)
    refine z_aload_n dX3_carriedOut_12 rfl rfl ?_
    refine z_aload_n dX3_carriedOut_13 rfl rfl ?_
    refine zg_X3_pad dX3_carriedOut_14 tw_166 ?_
    refine zg_X1_number dX3_carriedOut_17 tw_139 ?_
    refine z_top ((show _ = L.getD 1 0 from ft hk)) ?_
    refine z_cVs (x_tick μ a h t t (by omega) hI h1 ht1 _) q_X3_tick tw_529 dX3_carriedOut_20 rfl rfl rfl (by omega) (Nat.le_of_ble_eq_true rfl) (fun μ2 x2 hh => ?_)
    have eD : doA a L = (if (1 ≤ L.getD 1 0 ∧ L.getD 1 0 ≤ 1000) ∧ a 1 + L.getD 1 0 ≤ 100000 then (true, itF (L.getD 1 0).toNatClampNeg a) else (false, a)) := if_pos hk
    rcases hh with ⟨c1, rfl, rfl⟩ | ⟨c1, c2, rfl, rfl⟩ | ⟨c1, c2, M, hM2, eM, e2, o2, r2⟩
    · rw [if_neg (fun q => c1 q.1)] at eD
      rw [eD] at hR
      refine z_if_lt (tgt := 30) dX3_carriedOut_23 (by decide) (fun _ => ?_) (fun h9 => absurd (by decide) h9)
      refine z_iconst (v := 0) dX3_carriedOut_30 (by decide) ?_
      refine z_bret hR dX3_carriedOut_31 (Or.inl rfl) ⟨_, rfl, rfl, zoT.rf, h⟩
    · rw [if_neg (fun q => c2 q.2)] at eD
      rw [eD] at hR
      refine z_if_lt (tgt := 30) dX3_carriedOut_23 (by decide) (fun _ => ?_) (fun h9 => absurd (by decide) h9)
      refine z_iconst (v := 0) dX3_carriedOut_30 (by decide) ?_
      refine z_bret hR dX3_carriedOut_31 (Or.inl rfl) ⟨_, rfl, rfl, zoT.rf, h⟩
    · rw [if_pos ⟨c1, c2⟩] at eD
      rw [eD] at hR
      have hx2 : 0 ≤ x2 := by rw [e2]; exact (hT M hM2).2
      refine z_if_lt (tgt := 30) dX3_carriedOut_23 (by decide) (fun h9 => absurd h9 (Int32.not_lt.mpr hx2)) (fun _ => ?_)
      refine z_iconst (v := 1) dX3_carriedOut_26 (by decide) ?_
      refine z_goto (tgt := 31) dX3_carriedOut_27 (by decide) ?_
      refine z_bret hR dX3_carriedOut_31 (Or.inr rfl) ⟨_, rfl, rfl, o2, ?_⟩
      rw [eM, nI_clamp (by omega)]
      exact r2
  · refine z_icmp_ne (tgt := 32) dX3_carriedOut_9 (by decide) (fun _ => ?_) (fun h9 => absurd h9 ((by rw [hk]; decide)))
    refine z_aload_n dX3_carriedOut_32 rfl rfl ?_
    refine zg_X3_pad dX3_carriedOut_33 tw_166 ?_
    refine zg_X1_kind dX3_carriedOut_36 tw_129 ?_
    refine z_top ((show _ = L.getD 0 0 from f2)) ?_
    refine z_bipush (v := 118) dX3_carriedOut_39 (by decide) ?_
    refine z_icmp_ne (tgt := 73) dX3_carriedOut_41 (by decide) (fun h9 => absurd h9 (Decidable.not_not.mpr hk)) (fun _ => ?_)
    refine z_aload_n dX3_carriedOut_44 rfl rfl ?_
    refine z_aload_n dX3_carriedOut_45 rfl rfl ?_
    refine zg_X3_pad dX3_carriedOut_46 tw_166 ?_
    refine zg_X1_ring dX3_carriedOut_49 tw_135 ?_
    refine z_top ((show _ = L.getD 1 0 from (fv hk).1)) ?_
    refine z_aload_n dX3_carriedOut_52 rfl rfl ?_
    refine zg_X3_pad dX3_carriedOut_53 tw_166 ?_
    refine zg_X1_number dX3_carriedOut_56 tw_139 ?_
    refine z_top ((show _ = L.getD 2 0 from (fv hk).2)) ?_
    refine z_cVs (x_spin μ a h h0 _ _) q_X3_spin tw_530 dX3_carriedOut_59 rfl rfl rfl (by omega) (Nat.le_of_ble_eq_true rfl) (fun μ2 x2 hh => ?_)
    have eD : doA a L = (if (0 ≤ L.getD 1 0 ∧ L.getD 1 0 ≤ nI (rN a) - 1) ∧ (-1500 ≤ L.getD 2 0 ∧ L.getD 2 0 ≤ 1500) then (true, upd a (9 + (L.getD 1 0).toNatClampNeg) (L.getD 2 0 * nI (2 * (L.getD 1 0).toNatClampNeg + 1))) else (false, a)) := (if_neg (by rw [hk]; decide)).trans (if_pos hk)
    have hIff := rngP (x := L.getD 1 0) (n := rN a) (by omega) (by omega)
    refine z_ldc (v := -1000000000) dX3_carriedOut_62 tw_531 ?_
    rcases hh with ⟨r, hr, er, c2, e2, o2, r2⟩ | ⟨⟨c1, e2⟩ | ⟨c1, c2, e2⟩, r2⟩
    · rw [if_pos ⟨hIff.mpr ⟨r, hr, er⟩, c2⟩] at eD
      rw [eD] at hR
      have hlt : -1000000000 < x2 := by rw [e2]; exact hV r hr
      refine z_icmp_le (tgt := 71) dX3_carriedOut_64 (by decide) (fun h9 => absurd h9 (Int32.not_le.mpr hlt)) (fun _ => ?_)
      refine z_iconst (v := 1) dX3_carriedOut_67 (by decide) ?_
      refine z_goto (tgt := 72) dX3_carriedOut_68 (by decide) ?_
      refine z_bret hR dX3_carriedOut_72 (Or.inr rfl) ⟨_, rfl, rfl, o2, ?_⟩
      rw [er, nI_clamp (by omega)]
      exact r2
    · rw [if_neg (fun q => c1 (hIff.mp q.1))] at eD
      rw [eD] at hR
      subst r2 e2
      refine z_icmp_le (tgt := 71) dX3_carriedOut_64 (by decide) (fun _ => ?_) (fun h9 => absurd (by decide) h9)
      refine z_iconst (v := 0) dX3_carriedOut_71 (by decide) ?_
      refine z_bret hR dX3_carriedOut_72 (Or.inl rfl) ⟨_, rfl, rfl, zoT.rf, h⟩
    · rw [if_neg (fun q => c2 q.2)] at eD
      rw [eD] at hR
      subst r2 e2
      refine z_icmp_le (tgt := 71) dX3_carriedOut_64 (by decide) (fun _ => ?_) (fun h9 => absurd (by decide) h9)
      refine z_iconst (v := 0) dX3_carriedOut_71 (by decide) ?_
      refine z_bret hR dX3_carriedOut_72 (Or.inl rfl) ⟨_, rfl, rfl, zoT.rf, h⟩
  · obtain ⟨d3, d4, d5, d6, d7⟩ := fd hk
    refine z_icmp_ne (tgt := 32) dX3_carriedOut_9 (by decide) (fun _ => ?_) (fun h9 => absurd h9 ((by rw [hk]; decide)))
    refine z_aload_n dX3_carriedOut_32 rfl rfl ?_
    refine zg_X3_pad dX3_carriedOut_33 tw_166 ?_
    refine zg_X1_kind dX3_carriedOut_36 tw_129 ?_
    refine z_top ((show _ = L.getD 0 0 from f2)) ?_
    refine z_bipush (v := 118) dX3_carriedOut_39 (by decide) ?_
    refine z_icmp_ne (tgt := 73) dX3_carriedOut_41 (by decide) (fun _ => ?_) (fun h9 => absurd h9 ((by rw [hk]; decide)))
    refine z_aload_n dX3_carriedOut_73 rfl rfl ?_
    refine z_aload_n dX3_carriedOut_74 rfl rfl ?_
    refine zg_X3_pad dX3_carriedOut_75 tw_166 ?_
    refine zg_X1_colour dX3_carriedOut_78 tw_131 ?_
    refine z_top ((show _ = L.getD 1 0 from d3)) ?_
    refine z_aload_n dX3_carriedOut_81 rfl rfl ?_
    refine zg_X3_pad dX3_carriedOut_82 tw_166 ?_
    refine zg_X1_layer dX3_carriedOut_85 tw_133 ?_
    refine z_top ((show _ = L.getD 2 0 from d4)) ?_
    refine z_aload_n dX3_carriedOut_88 rfl rfl ?_
    refine zg_X3_pad dX3_carriedOut_89 tw_166 ?_
    refine zg_X1_ring dX3_carriedOut_92 tw_135 ?_
    refine z_top ((show _ = L.getD 3 0 from d5)) ?_
    refine z_aload_n dX3_carriedOut_95 rfl rfl ?_
    refine zg_X3_pad dX3_carriedOut_96 tw_166 ?_
    refine zg_X1_sector dX3_carriedOut_99 tw_137 ?_
    refine z_top ((show _ = L.getD 4 0 from d6)) ?_
    refine z_aload_n dX3_carriedOut_102 rfl rfl ?_
    refine zg_X3_pad dX3_carriedOut_103 tw_166 ?_
    refine zg_X1_number dX3_carriedOut_106 tw_139 ?_
    refine z_top ((show _ = L.getD 5 0 from d7)) ?_
    refine z_cVs (x_pour μ a h h0 hB.2.2.2.2 hA _ _ _ _ _) q_X3_pour tw_532 dX3_carriedOut_109 rfl rfl rfl (by omega) (Nat.le_of_ble_eq_true rfl) (fun μ2 x2 hh => ?_)
    have eD : doA a L = _ := (if_neg (by rw [hk]; decide)).trans (if_neg (by rw [hk]; decide))
    rcases hh with ⟨c1, e2, r2⟩ | ⟨c1, c2, e2, r2⟩ | ⟨c1, c2, c', L', r', h3, h4, h5, ec, eL, er, ⟨c3, e2, r2⟩ | ⟨c3, e2, o2, r2⟩⟩
    · rw [if_neg (fun q => c1 q.1)] at eD
      rw [eD] at hR
      subst r2 e2
      refine z_if_lt (tgt := 119) dX3_carriedOut_112 (by decide) (fun _ => ?_) (fun h9 => absurd (by decide) h9)
      refine z_iconst (v := 0) dX3_carriedOut_119 (by decide) ?_
      refine z_bret hR dX3_carriedOut_120 (Or.inl rfl) ⟨_, rfl, rfl, zoT.rf, h⟩
    · rw [if_neg (fun q => c2 q.2.1)] at eD
      rw [eD] at hR
      subst r2 e2
      refine z_if_lt (tgt := 119) dX3_carriedOut_112 (by decide) (fun _ => ?_) (fun h9 => absurd (by decide) h9)
      refine z_iconst (v := 0) dX3_carriedOut_119 (by decide) ?_
      refine z_bret hR dX3_carriedOut_120 (Or.inl rfl) ⟨_, rfl, rfl, zoT.rf, h⟩
    · have ec' : (L.getD 1 0).toNatClampNeg = c' := by rw [ec]; exact nI_clamp (by omega)
      rw [ec'] at eD
      rw [if_neg (fun q => c3 q.2.2)] at eD
      rw [eD] at hR
      subst r2 e2
      refine z_if_lt (tgt := 119) dX3_carriedOut_112 (by decide) (fun _ => ?_) (fun h9 => absurd (by decide) h9)
      refine z_iconst (v := 0) dX3_carriedOut_119 (by decide) ?_
      refine z_bret hR dX3_carriedOut_120 (Or.inl rfl) ⟨_, rfl, rfl, zoT.rf, h⟩
    · have ec' : (L.getD 1 0).toNatClampNeg = c' := by rw [ec]; exact nI_clamp (by omega)
      have eL' : (L.getD 2 0).toNatClampNeg = L' := by rw [eL]; exact nI_clamp (by omega)
      have er' : (L.getD 3 0).toNatClampNeg = r' := by rw [er]; exact nI_clamp (by omega)
      rw [ec', eL', er', if_pos ⟨c1, c2, c3⟩] at eD
      rw [eD] at hR
      have hp : 0 ≤ x2 := by
        obtain ⟨a1, a2⟩ := hA c' h3
        have b1 := Int32.le_iff_toInt_le.mp c2.1
        have b2 := Int32.le_iff_toInt_le.mp c2.2
        rw [show (1 : Int32).toInt = 1 by decide] at b1
        rw [show (1000000 : Int32).toInt = 1000000 by decide] at b2
        rw [e2, Int32.le_iff_toInt_le, Int32.toInt_zero, Int32.toInt_add, Int.bmod_eq_of_le (by omega) (by omega)]
        omega
      refine z_if_lt (tgt := 119) dX3_carriedOut_112 (by decide) (fun h9 => absurd h9 (Int32.not_lt.mpr hp)) (fun _ => ?_)
      refine z_iconst (v := 1) dX3_carriedOut_115 (by decide) ?_
      refine z_goto (tgt := 120) dX3_carriedOut_116 (by decide) ?_
      refine z_bret hR dX3_carriedOut_120 (Or.inr rfl) ⟨_, rfl, rfl, o2, r2⟩
