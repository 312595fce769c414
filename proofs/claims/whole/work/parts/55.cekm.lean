/-! leastEkman of the component -/
section ZK2
variable {K : zK} {d nL pc : Nat} {own : String} {cc : ByteArray} {ls sk : List zV} {μ : zM} {y : MethodName} {cc' : ByteArray} {nL' n idx ci d' : Nat} {ret : Option FieldType} {a : zA} {av stk : List zV}
theorem z_cVk {x : Int64} {P : zM → Prop} (hC : zCt y cc' nL' ret d' (zR a :: av) μ (fun μ' r => r = zL x ∧ P μ')) (hm : zMv ci y cc' nL' ret n) (hl0 : Cond.methodLink own idx y ∈ zT) (dg : decode cc pc = .ok (.invokevirtual idx, 3)) (hn : av.length = n) (ho : zobj a.1 = some ci) (hstk : stk = av.reverse ++ zR a :: sk) (hd : d' < d) (hsk : zsum sk ≤ 8) (k : ∀ (μ' : zM), P μ' → Z K d own cc nL (pc + 3) ls (zL x :: sk) μ') (hv : a ∈ zcells := by assumption) : Z K d own cc nL pc ls stk μ :=
  z_callV hm hl0 dg hn ho hstk hd hsk hC (fun μ' r h => by obtain ⟨rfl, h⟩ := h; exact k μ' h) hv
end ZK2
theorem Inv_set5 {a : Nat → Int32} {t : Nat} (h : Inv a t) (v : Int32) : Inv (upd a 7 v) t ∧ rN (upd a 7 v) = rN a ∧ rK (upd a 7 v) = rK a := by
  have up : ∀ k, k ≠ 7 → upd a 7 v k = a k := fun k hk => if_neg hk
  have en : rN (upd a 7 v) = rN a := by unfold rN; rw [up 0 (by omega)]
  have ek : rK (upd a 7 v) = rK a := by unfold rK; rw [up 33 (by omega)]
  obtain ⟨hB, hS, hD, hM⟩ := h
  refine ⟨⟨?_, ?_, ?_, ?_⟩, en, ek⟩
  · unfold IB at hB ⊢
    rw [en, ek, up 0 (by omega), up 33 (by omega)]
    exact hB
  · unfold IS at hS ⊢
    rw [aS_upd (by omega), aS_upd (by omega), aS_upd (by omega), aS_upd (by omega), aS_upd (by omega), aS_upd (by omega)]
    exact hS
  · intro c hc
    rw [en]
    exact DI_congr hB.2.2.1 (fun i hi => up _ (by omega)) (hD c hc)
  · intro m hm
    rw [ek] at hm
    rw [en, up _ (by omega), up _ (by omega)]
    exact hM m hm
theorem x_placeWith (μ : zM) (a : Nat → Int32) (h : Rep μ 0 a) (T0 : Nat) (hT : T0 ≤ 2 ^ 28) (hI : Inv a T0) (e c T : Nat) (hc : c < 3) (hT50 : T ≤ 50) : zCt yX3_placeWith prog_1_method_19_code 5 (some .long) 5 [zR (0, 0, 0), zI (nI e), zI (nI c), zI (nI T)] μ (fun μ' r => r = zL (meanP (aD (itF T (upd a 7 (nI e))) c) (rN a) (allA (aD (itF T (upd a 7 (nI e))) c) (rN a))) ∧ zoT 1 μ μ') := by
  have hR0 := h
  obtain ⟨⟨g0, g1, g2⟩, gS, gP, gA, gT, gD, gM⟩ := h
  obtain ⟨hI2, en, ek⟩ := Inv_set5 hI (nI e)
  obtain ⟨hB, hS, hD, hM0⟩ := hI
  have hn := hB.1
  have hn2 := hB.2.1
  have hn12 := hB.2.2.1
  have ht : (0 : Nat) < 4 := by omega
  have ht1 : (1 : Nat) < 4 := by omega
  have up : ∀ k, k ≠ 7 → upd a 7 (nI e) k = a k := fun k hk => if_neg hk
  have eall : allA (aD (itF T (upd a 7 (nI e))) c) (rN a) = allA (aD a c) (rN a) := by
    have := it_allA hI2 hc T (by omega)
    rw [en] at this
    rw [this]
    exact allA_congr (fun i hi => up _ (by omega)) hn12
  refine zCt.of "DyeTank" rfl (by decide +kernel) rfl (Nat.le_of_ble_eq_true rfl) (fun K hR => ?_)
  have v0 := zv_0
  have v1 := zv_1
  have v2 := zv_2
  have v3 := zv_3
  have v4 := zv_4
  have v5 := zv_5 0 ht
  have v51 := zv_5 1 ht1
  have v6 := zv_6 1 ht1
  rw [eall] at hR
  generalize hb : upd a 7 (nI e) = b at hR hI2 en ek up eall
  refine z_ls (ls' := [zR (0, 0, 0), zI (nI e), zI (nI c), zI (nI T), zN]) rfl ?_
  refine z_aload_n dX3_placeWith_0 rfl rfl ?_
  refine zg_X3_copy dX3_placeWith_1 tw_163 ?_
  refine z_aload_n dX3_placeWith_4 rfl rfl ?_
  refine zg_X3_tank dX3_placeWith_5 tw_162 ?_
  refine z_cVv (c_tankLike μ 1 0 (rK a) ht1 ht (by omega) (g2.trans hB.2.2.2.1) hB.2.2.2.2) q_X2_becomeLike tw_417 dX3_placeWith_8 rfl rfl rfl (by omega) (Nat.le_of_ble_eq_true rfl) (fun μ1 hh => ?_)
  obtain ⟨o1, b5, b6, b7, b8, b9, b11, bM⟩ := hh
  have r1 := Like_Rep hR0 b5 b6 b7 b8 b9 b11 bM
  refine z_aload_n dX3_placeWith_11 rfl rfl ?_
  refine zg_X3_copy dX3_placeWith_12 tw_163 ?_
  refine zg_X2_settings dX3_placeWith_15 tw_78 ?_
  refine z_iconst (v := 5) dX3_placeWith_18 (by decide) ?_
  refine z_iload_n dX3_placeWith_19 rfl rfl ?_
  refine z_iast dX3_placeWith_20 (fun _ _ => rfl) rfl (show 5 < 7 by omega) ?_
  refine z_iconst (v := 0) dX3_placeWith_21 (by decide) ?_
  refine z_istS dX3_placeWith_22 (by decide) rfl ?_
  have ra0 : RA (st μ1 (6, 1, 0) (upd (μ1 (6, 1, 0)) 5 (nI e))) 1 b := by
    refine ⟨?_, fun j hj => ?_, fun r hr => ?_, fun r hr => ?_⟩
    · rw [st_ne _ _ (by simp), r1.1.1]
      exact (up 0 (by omega)).symm
    · rw [st_eq, ← hb]
      by_cases q : j = 5
      · rw [q]
        exact (if_pos rfl).trans (show nI e = upd a 7 (nI e) 7 from (if_pos rfl).symm)
      · exact (if_neg q).trans ((r1.2.1 j hj).trans (show a (2 + j) = upd a 7 (nI e) (2 + j) from (if_neg (by omega)).symm))
    · rw [st_ne _ _ (by simp), r1.2.2.1 r hr]
      exact (up _ (by omega)).symm
    · rw [st_ne _ _ (by simp), r1.2.2.2.1 r hr]
      exact (up _ (by omega)).symm
  have rd0 : RD (st μ1 (6, 1, 0) (upd (μ1 (6, 1, 0)) 5 (nI e))) 1 c b := fun i hi => by
    rw [st_ne _ _ (by simp), r1.2.2.2.2.2.1 c hc i hi]
    exact (up _ (by omega)).symm
  have rt0 : (st μ1 (6, 1, 0) (upd (μ1 (6, 1, 0)) 5 (nI e))) (9, 1, 0) c = allA (aD a c) (rN a) := by
    rw [st_ne _ _ (by simp)]
    exact r1.2.2.2.2.1 c hc
  have z0 : zoT 1 μ (st μ1 (6, 1, 0) (upd (μ1 (6, 1, 0)) 5 (nI e))) := (o1.zoT (by simp)).put 6 0 _
  have loop : ∀ (f i : Nat) (μ' : zM), i ≤ T → T < i + f → zoT 1 μ μ' → RA μ' 1 (itF i b) → RD μ' 1 c (itF i b) → μ' (9, 1, 0) c = allA (aD a c) (rN a) → Z K 5 "DyeTank" prog_1_method_19_code 5 24 [zR (0, 0, 0), zI (nI e), zI (nI c), zI (nI T), zI (nI i)] [] μ' := by
    intro f
    induction f with
    | zero => intro i μ' h6 h7 h8 h9 h10 h11; exact absurd ‹_ < _ + 0› (by omega)
    | succ f ih =>
      intro i μ' h6 h7 ho hra hrd hrt
      obtain ⟨iB, iS, iD, iM⟩ := Inv_it hI2 i (by omega)
      have eN : rN (itF i b) = rN a := (it_N b i).trans en
      have e0 : μ' (5, 1, 0) 0 = nI (rN a) := by rw [hra.1, iB.1, eN]
      refine z_iload dX3_placeWith_24 rfl ?_
      refine z_iload_n dX3_placeWith_26 rfl rfl ?_
      refine z_icmp_ge (tgt := 51) dX3_placeWith_27 (by decide) (fun hb2 => ?_) (fun hb2 => ?_)
      · have hb2 := nle hb2
        have e9 : i = T := by omega
        subst e9
        refine z_aload_n dX3_placeWith_51 rfl rfl ?_
        refine zg_X3_copy dX3_placeWith_52 tw_163 ?_
        refine z_iload_n dX3_placeWith_55 rfl rfl ?_
        refine z_cVl (c_meanPlace μ' 1 (rN a) ht1 e0 hn12 c hc) q_X2_meanPlace tw_361 dX3_placeWith_56 rfl rfl rfl (by omega) (Nat.le_of_ble_eq_true rfl) ?_
        rw [hrt, meanP_congr hrd hn12]
        refine z_lret hR dX3_placeWith_59 (⟨rfl, ho⟩)
      · have hb2 := nnle hb2
        refine z_aload_n dX3_placeWith_30 rfl rfl ?_
        refine zg_X3_copy dX3_placeWith_31 tw_163 ?_
        refine z_cVv (c_turn μ' 1 (rN a) ht1 e0 hn2 hn12) q_X2_turn tw_430 dX3_placeWith_34 rfl rfl rfl (by omega) (Nat.le_of_ble_eq_true rfl) (fun μ2 hh => ?_)
        obtain ⟨o2, q7, q8, q16, q17⟩ := hh
        have hT2 := RA_turn iB hra o2 (by rw [eN]; exact q7) (by rw [eN]; exact q8) (by rw [eN]; exact q17)
        rw [eN] at hT2
        obtain ⟨ra2, p17, p8⟩ := hT2
        have hrd2 : RD μ2 1 c (itF i b) := fun j hj => by rw [o2.at (11, 1, c) (by simp)]; exact hrd j hj
        have e62 : μ2 (6, 1, 0) 6 = aS (itF i b) 6 := by rw [o2.at (6, 1, 0) (by simp)]; exact hra.2.1 6 (by omega)
        refine z_aload_n dX3_placeWith_37 rfl rfl ?_
        refine zg_X3_copy dX3_placeWith_38 tw_163 ?_
        refine z_iload_n dX3_placeWith_41 rfl rfl ?_
        refine z_cVv (c_carry μ2 1 c (rN a) ht1 hc (by rw [o2.at (5, 1, 0) (by simp)]; exact e0) hn12 (psh (aS (itF i b)) (mom (aS (itF i b)) (aP (itF i b)) (rN a))) p17 (fun q hq => by rw [p8 q (by omega)]; exact ang_nat hq) (fun j hj => by rw [hrd2 j hj, i_nn]; exact (iD c hc).1 j hj) (by rw [e62, i_nn]; exact iS.2.2.2.2.2.1)) q_X2_carry tw_436 dX3_placeWith_42 rfl rfl rfl (by omega) (Nat.le_of_ble_eq_true rfl) (fun μ3 hh => ?_)
        obtain ⟨o3, q11⟩ := hh
        have hrd3 : RD μ3 1 c (tickF (itF i b)) := RD_carry hc iB hrd2 e62 (by rw [eN]; exact p8) (by rw [eN]; exact q11)
        have ra3 : RA μ3 1 (tickF (itF i b)) := by
          unfold RA at ra2 ⊢
          rw [o3.at (5, 1, 0) (by simp), o3.at (6, 1, 0) (by simp), o3.at (7, 1, 0) (by simp), o3.at (8, 1, 0) (by simp)]
          exact ra2
        refine z_incS dX3_placeWith_45 rfl (inc1 _) (by decide) rfl ?_
        refine z_goto (tgt := 24) dX3_placeWith_48 (by decide) ?_
        exact ih (i + 1) μ3 (by omega) (by omega) ((ho.tr (o2.zoT (by simp))).tr (o3.zoT (by simp))) ra3 hrd3 (by rw [o3.at (9, 1, 0) (by simp), o2.at (9, 1, 0) (by simp)]; exact hrt)
  exact loop (T + 1) 0 _ (by omega) (by omega) z0 ra0 rd0 rt0
theorem x_leastEkman (μ : zM) (a : Nat → Int32) (h : Rep μ 0 a) (T0 : Nat) (hT : T0 ≤ 2 ^ 28) (hI : Inv a T0) (c p t : Int32) : zCs yX3_leastEkman prog_1_method_18_code 5 (some .int) 6 [zR (0, 0, 0), zI c, zI p, zI t] μ (fun μ' w => (¬ (0 ≤ c ∧ c ≤ 2) ∧ w = -1 ∧ μ' = μ) ∨ ((0 ≤ c ∧ c ≤ 2) ∧ ¬ ((0 ≤ p ∧ p ≤ 11000) ∧ (1 ≤ t ∧ t ≤ 50)) ∧ w = -2 ∧ μ' = μ) ∨ ((0 ≤ c ∧ c ≤ 2) ∧ ((0 ≤ p ∧ p ≤ 11000) ∧ (1 ≤ t ∧ t ≤ 50)) ∧ ∃ c' T : Nat, c' < 3 ∧ T ≤ 50 ∧ c = nI c' ∧ t = nI T ∧ ((allA (aD a c') (rN a) = 0 ∧ w = -5 ∧ μ' = μ) ∨ (¬ allA (aD a c') (rN a) = 0 ∧ FST (ekmB a (rN a) c' T p) 200 w ∧ zoT 1 μ μ')))) := by
  have ht : (0 : Nat) < 4 := by omega
  refine zCt.of "DyeTank" rfl (by decide +kernel) rfl (Nat.le_of_ble_eq_true rfl) (fun K hR => ?_)
  have v0 := zv_0
  have v1 := zv_1
  have v2 := zv_2
  have v3 := zv_3
  have v4 := zv_4
  have v5 := zv_5 0 ht
  have v9 := zv_9 0 ht
  refine z_ls (ls' := [zR (0, 0, 0), zI c, zI p, zI t, zN]) rfl ?_
  refine z_iload_n dX3_leastEkman_0 rfl rfl ?_
  refine z_cSi (c_isColour μ _) q_X3_isColour tw_245 dX3_leastEkman_1 rfl rfl (by omega) (Nat.le_of_ble_eq_true rfl) ?_
  refine z_bne (tgt := 9) dX3_leastEkman_4 (by decide) (fun h1 => ?_) (fun h1 => ?_)
  · refine z_iload_n dX3_leastEkman_9 rfl rfl ?_
    refine z_iconst (v := 0) dX3_leastEkman_10 (by decide) ?_
    refine z_sipush (v := 11000) dX3_leastEkman_11 (by decide) ?_
    refine z_cSi (c_within μ _ _ _) q_X3_within tw_182 dX3_leastEkman_14 rfl rfl (by omega) (Nat.le_of_ble_eq_true rfl) ?_
    refine z_beq (tgt := 30) dX3_leastEkman_17 (by decide) (fun h2 => ?_) (fun h2 => ?_)
    · refine z_bipush (v := -2) dX3_leastEkman_30 (by decide) ?_
      refine z_iret hR dX3_leastEkman_32 (⟨_, rfl, Or.inr (Or.inl ⟨h1, fun q => h2 q.1, rfl, rfl⟩)⟩)
    · refine z_iload_n dX3_leastEkman_20 rfl rfl ?_
      refine z_iconst (v := 1) dX3_leastEkman_21 (by decide) ?_
      refine z_bipush (v := 50) dX3_leastEkman_22 (by decide) ?_
      refine z_cSi (c_within μ _ _ _) q_X3_within tw_182 dX3_leastEkman_24 rfl rfl (by omega) (Nat.le_of_ble_eq_true rfl) ?_
      refine z_bne (tgt := 33) dX3_leastEkman_27 (by decide) (fun h3 => ?_) (fun h3 => ?_)
      · obtain ⟨T, hT5, eT⟩ : ∃ T : Nat, T < 51 ∧ t = nI T := (rngS (by omega)).mp ⟨Int32.le_trans (by decide) h3.1, Int32.lt_of_le_of_lt h3.2 (by decide)⟩
        obtain ⟨c', hc, ec⟩ : ∃ c' : Nat, c' < 3 ∧ c = nI c' := (rngP (n := 3) (by omega) (by omega)).mp h1
        subst eT ec
        refine z_aload_n dX3_leastEkman_33 rfl rfl ?_
        refine zg_X3_tank dX3_leastEkman_34 tw_162 ?_
        refine zg_X2_totals dX3_leastEkman_37 tw_84 ?_
        refine z_iload_n dX3_leastEkman_40 rfl rfl ?_
        refine z_iald dX3_leastEkman_41 (fun _ _ => rfl) rfl hc ?_
        rw [h.2.2.2.2.1 c' hc]
        refine z_if_ne (tgt := 48) dX3_leastEkman_42 (by decide) (fun h5 => ?_) (fun h5 => ?_)
        · have loop : ∀ (f e : Nat) (μ' : zM), e ≤ 201 → 201 < e + f → zoT 1 μ μ' → (∀ j, j < e → ekmB a (rN a) c' T p j = false) → Z K 6 "DyeTank" prog_1_method_18_code 5 51 [zR (0, 0, 0), zI (nI c'), zI p, zI (nI T), zI (nI e)] [] μ' := by
            intro f
            induction f with
            | zero => intro e μ' h6 h7 h8 h9; exact absurd ‹_ < _ + 0› (by omega)
            | succ f ih =>
              intro e μ' h6 h7 ho hF
              have hr : Rep μ' 0 a := Rep_frame h (fun k i _ _ => ho (k, 0, i) (Or.inl (by show 0 ≠ 1; omega)))
              refine z_iload dX3_leastEkman_51 rfl ?_
              refine z_gets (i := 42) (by decide) dX3_leastEkman_53 tw_192 ?_
              refine z_iconst (v := 5) dX3_leastEkman_56 (by decide) ?_
              refine z_sald (by decide) dX3_leastEkman_57 rfl (show 5 < 7 by omega) ?_
              refine z_icmp_gt (tgt := 84) dX3_leastEkman_58 (by decide) (fun hb => ?_) (fun hb => ?_)
              · have hb := nlt (a := 200) hb
                refine z_bipush (v := -6) dX3_leastEkman_84 (by decide) ?_
                refine z_iret hR dX3_leastEkman_86 (⟨_, rfl, Or.inr (Or.inr ⟨h1, ⟨h2, h3⟩, c', T, hc, by omega, rfl, rfl, Or.inr ⟨h5, Or.inr ⟨fun j hj => hF j (by omega), rfl⟩, ho⟩⟩)⟩)
              · have hb := nnlt (a := 200) hb
                refine z_aload_n dX3_leastEkman_61 rfl rfl ?_
                refine z_iload dX3_leastEkman_62 rfl ?_
                refine z_iload_n dX3_leastEkman_64 rfl rfl ?_
                refine z_iload_n dX3_leastEkman_65 rfl rfl ?_
                refine z_cVk (x_placeWith μ' a hr T0 hT hI e c' T hc (by omega)) q_X3_placeWith tw_451 dX3_leastEkman_66 rfl rfl rfl (by omega) (Nat.le_of_ble_eq_true rfl) (fun μ2 o2 => ?_)
                refine z_iload_n dX3_leastEkman_69 rfl rfl ?_
                refine z_i2l dX3_leastEkman_70 ?_
                refine z_lcmp dX3_leastEkman_71 ?_
                refine z_if_gt (tgt := 78) dX3_leastEkman_72 (by decide) (fun hz => ?_) (fun hz => ?_)
                · rw [lcmp_gt2] at hz
                  refine z_incS dX3_leastEkman_78 rfl (inc1 _) (by decide) rfl ?_
                  refine z_goto (tgt := 51) dX3_leastEkman_81 (by decide) ?_
                  refine ih (e + 1) μ2 (by omega) (by omega) (ho.tr o2) ?_
                  intro j hj
                  by_cases q : j = e
                  · rw [q]; exact decide_eq_false hz
                  · exact hF j (by omega)
                · rw [lcmp_gt2] at hz
                  refine z_iload dX3_leastEkman_75 rfl ?_
                  refine z_iret hR dX3_leastEkman_77 (⟨_, rfl, Or.inr (Or.inr ⟨h1, ⟨h2, h3⟩, c', T, hc, by omega, rfl, rfl, Or.inr ⟨h5, Or.inl ⟨e, hb, decide_eq_true (Decidable.not_not.mp hz), hF, rfl⟩, ho.tr o2⟩⟩)⟩)
          refine z_iconst (v := 0) dX3_leastEkman_48 (by decide) ?_
          refine z_istS dX3_leastEkman_49 (by decide) rfl ?_
          exact loop 202 0 μ (by omega) (by omega) zoT.rf (fun j hj => absurd hj (by omega))
        · refine z_bipush (v := -5) dX3_leastEkman_45 (by decide) ?_
          refine z_iret hR dX3_leastEkman_47 (⟨_, rfl, Or.inr (Or.inr ⟨h1, ⟨h2, h3⟩, c', T, hc, by omega, rfl, rfl, Or.inl ⟨h5, rfl, rfl⟩⟩)⟩)
      · refine z_bipush (v := -2) dX3_leastEkman_30 (by decide) ?_
        refine z_iret hR dX3_leastEkman_32 (⟨_, rfl, Or.inr (Or.inl ⟨h1, fun q => h3 q.2, rfl, rfl⟩)⟩)
  · refine z_iconst (v := -1) dX3_leastEkman_7 (by decide) ?_
    refine z_iret hR dX3_leastEkman_8 (⟨_, rfl, Or.inl ⟨h1, rfl, rfl⟩⟩)
