/-! the law's body behind its tank -/
theorem LST_0 {a : rw} (h : rK a = 0) : LST a := fun m hm => by omega
theorem beg_K (x : Int32) : rK (beg x) = 0 := by
  show (beg x 33).toNatClampNeg = 0
  rw [beg_0 x (by omega)]
  rfl
theorem Lw_beg (x : Int32) : Lw (beg x) 0 := ⟨beg_0 x (Or.inr rfl), LST_0 (beg_K x)⟩
theorem PI_beg (x : Int32) : PI (fun _ => 0) (beg x) := fun c hc => (allA_0 (f := aD (beg x) c) (fun i => beg_0 x (Or.inl (by omega))) _).symm
set_option maxRecDepth 100000 in
theorem k_law {K : xK} {b L : Nat} {xs : Nat → Int32} (hX : xScr K b L xs) (hL : L ≤ 260) (hend : ∀ (ls : List zV) (μ : zM) (E : xE) (ce sl : Nat), ce ≤ 600000 → sl ≤ 7302250 → Xj K 10 600000 7302250 "DyeTankLaw" code 7 240 ls [] μ E ce sl) {μ : zM} (hO : OK μ (beg 6) (fun _ => none) 0) (ce sl : Nat) (hce : ce ≤ 200) (hsl : sl ≤ 20000) : Xj K 10 600000 7302250 "DyeTankLaw" code 7 8 [xR b, zR (0, 0, 0), zN, zN, zN, zN, zN] [] μ [] ce sl := by
  refine j_iconst (v := 0) dL_law_8 (by decide) ?_
  refine j_top ((show (0 : Int32) = nI 0 from rfl)) ?_
  refine j_istore_n dL_law_9 rfl (by decide) rfl ?_
  refine j_aload_n dL_law_10 rfl rfl ?_
  refine j_aload_n dL_law_11 rfl rfl ?_
  refine j_iload_n dL_law_12 rfl rfl ?_
  refine j_iinc dL_law_13 rfl (inc1 _) (by decide) rfl ?_
  refine j_cell hX hL rfl (by omega) tw_185 dL_law_16 (by omega) (Nat.le_of_ble_eq_true rfl) (by omega) (by omega) ?_
  refine j_cSs (k_refused hO (beg_0 6 (Or.inr rfl)) _ []) q_L_refused tw_585 dL_law_19 rfl rfl (by omega) (Nat.le_of_ble_eq_true rfl) (by omega) (by omega) (fun μ1 E1 ⟨e1, h1⟩ => ?_)
  subst e1
  refine j_if_ne (tgt := 27) dL_law_22 (by decide) (fun _ => ?_) (fun h9 => absurd h9 ((show ¬ (1 : Int32) = 0 by decide)))
  refine j_aload_n dL_law_27 rfl rfl ?_
  refine j_iload_n dL_law_28 rfl rfl ?_
  refine j_iinc dL_law_29 rfl (inc1 _) (by decide) rfl ?_
  refine j_cell hX hL rfl (by omega) tw_185 dL_law_32 (by omega) (Nat.le_of_ble_eq_true rfl) (by omega) (by omega) ?_
  refine j_istore_n dL_law_35 rfl (by decide) rfl ?_
  refine j_iconst (v := 2) dL_law_36 (by decide) ?_
  refine j_iload_n dL_law_37 rfl rfl ?_
  refine j_bipush (v := 11) dL_law_38 (by decide) ?_
  refine j_cSi (c_up _ 11 (by decide)) q_L_up tw_189 dL_law_40 rfl rfl (by omega) (Nat.le_of_ble_eq_true rfl) (by omega) (by omega) ?_
  obtain ⟨u, hu, eu⟩ := up_ex (celV L xs (0 + 1)) (m := 11) (by omega) (by omega)
  refine j_top (eu) ?_
  refine j_iadd dL_law_43 ?_
  refine j_top ((nI_add 2 u)) ?_
  refine j_istore dL_law_44 (by decide) rfl ?_
  refine j_aload_n dL_law_46 rfl rfl ?_
  refine j_iload dL_law_47 rfl ?_
  refine j_cVs (g_setUp h1 (n := 2 + u) (by omega)) q_X3_setUp tw_177 dL_law_49 rfl rfl rfl (by omega) (Nat.le_of_ble_eq_true rfl) (by omega) (by omega) (fun μ2 w2 ⟨ew, h2⟩ => ?_) zv_0
  refine j_top (ew) ?_
  refine j_bipush (v := 6) dL_law_52 (by decide) ?_
  refine j_icmp_eq (tgt := 59) dL_law_54 (by decide) (fun _ => ?_) (fun h9 => absurd (rfl) h9)
  refine j_iconst (v := 3) dL_law_59 (by decide) ?_
  refine j_newI (N := 3) dL_law_60 rfl (by decide) (by omega) (by omega) (fun q0 => ?_)
  refine j_astore dL_law_62 (by decide) rfl ?_
  refine j_iconst (v := 0) dL_law_64 (by decide) ?_
  refine j_istore dL_law_65 (by decide) rfl ?_
  have loop : ∀ (f k : Nat) (μ : zM) (a : rw) (t : Nat) (fp : Nat → Int32) (ce sl : Nat), k ≤ 20 → 20 < k + f → OK μ a (fun _ => none) 0 → Lw a t → t ≤ 9 * k → PI fp a → (∀ c, c < 3 → (fp c).toInt ≤ 50000 * (k : Int)) → ce ≤ 300 + 4 * k → sl ≤ 30000 + 36 * k → Xj K 10 600000 7302250 "DyeTankLaw" code 7 67 [xR b, zR (0, 0, 0), zI (nI (2 + 3 * k)), zN, zN, xR q0, zI (nI k)] [] μ [(q0, 3, fp)] ce sl := by
    intro f
    induction f with
    | zero => intro k μ a t fp ce sl h1 h2 h3 h4 h5 h6 h7 h8 h9; exact absurd ‹_ < _ + 0› (by omega)
    | succ f ih =>
      intro k μ a t fp ce sl hk1 hk2 h hw ht hf hfB hce hsl
      refine j_iload dL_law_67 rfl ?_
      refine j_bipush (v := 20) dL_law_69 (by decide) ?_
      refine j_icmp_ge (tgt := 134) dL_law_71 (by decide) (fun hd => ?_) (fun hd => ?_)
      · have hd := nle (a := 20) hd
        refine j_aload_n dL_law_134 rfl rfl ?_
        refine j_iload_n dL_law_135 rfl rfl ?_
        refine j_iinc dL_law_136 rfl (inc1 _) (by decide) rfl ?_
        refine j_cell hX hL rfl (by omega) tw_185 dL_law_139 (by omega) (Nat.le_of_ble_eq_true rfl) (by omega) (by omega) ?_
        refine j_istore_n dL_law_142 rfl (by decide) rfl ?_
        refine j_aload_n dL_law_143 rfl rfl ?_
        refine j_iload_n dL_law_144 rfl rfl ?_
        refine j_cSs (k_alone h hw (by omega) _ _) q_L_alone tw_434 dL_law_145 rfl rfl (by omega) (Nat.le_of_ble_eq_true rfl) (by omega) (by omega) (fun μ1 E1 ⟨e1, S1, h1⟩ => ?_)
        subst e1
        refine j_if_eq (tgt := 244) dL_law_148 (by decide) (fun h9 => absurd h9 ((show ¬ (1 : Int32) = 0 by decide))) (fun _ => ?_)
        refine j_aload_n dL_law_151 rfl rfl ?_
        refine j_iload_n dL_law_152 rfl rfl ?_
        refine j_cSs (k_settled h1 hw (by omega) _ _) q_L_settled tw_454 dL_law_153 rfl rfl (by omega) (Nat.le_of_ble_eq_true rfl) (by omega) (by omega) (fun μ2 E2 ⟨e2, S2, h2⟩ => ?_)
        subst e2
        refine j_if_eq (tgt := 244) dL_law_156 (by decide) (fun h9 => absurd h9 ((show ¬ (1 : Int32) = 0 by decide))) (fun _ => ?_)
        refine j_aload_n dL_law_159 rfl rfl ?_
        refine j_aload dL_law_160 rfl ?_
        refine j_aload_n dL_law_162 rfl rfl ?_
        refine j_iload_n dL_law_163 rfl rfl ?_
        refine j_iinc dL_law_164 rfl (inc1 _) (by decide) rfl ?_
        refine j_cell hX hL rfl (by omega) tw_185 dL_law_167 (by omega) (Nat.le_of_ble_eq_true rfl) (by omega) (by omega) ?_
        refine j_cSs (k_arrived h2 hw (by omega) hf _) q_L_arrived tw_466 dL_law_170 rfl rfl (by omega) (Nat.le_of_ble_eq_true rfl) (by omega) (by omega) (fun μ3 E3 ⟨e3, S3, h3⟩ => ?_)
        subst e3
        refine j_if_eq (tgt := 244) dL_law_173 (by decide) (fun h9 => absurd h9 ((show ¬ (1 : Int32) = 0 by decide))) (fun _ => ?_)
        refine j_aload_n dL_law_176 rfl rfl ?_
        refine j_aload_n dL_law_177 rfl rfl ?_
        refine j_iload_n dL_law_178 rfl rfl ?_
        refine j_iinc dL_law_179 rfl (inc1 _) (by decide) rfl ?_
        refine j_cell hX hL rfl (by omega) tw_185 dL_law_182 (by omega) (Nat.le_of_ble_eq_true rfl) (by omega) (by omega) ?_
        refine j_cSs (k_met h3 hw (by omega) _ _) q_L_met tw_475 dL_law_185 rfl rfl (by omega) (Nat.le_of_ble_eq_true rfl) (by omega) (by omega) (fun μ4 E4 ⟨e4, S4, h4⟩ => ?_)
        subst e4
        refine j_if_eq (tgt := 244) dL_law_188 (by decide) (fun h9 => absurd h9 ((show ¬ (1 : Int32) = 0 by decide))) (fun _ => ?_)
        refine j_aload_n dL_law_191 rfl rfl ?_
        refine j_aload dL_law_192 rfl ?_
        refine j_aload_n dL_law_194 rfl rfl ?_
        refine j_iload_n dL_law_195 rfl rfl ?_
        refine j_iinc dL_law_196 rfl (inc1 _) (by decide) rfl ?_
        refine j_cell hX hL rfl (by omega) tw_185 dL_law_199 (by omega) (Nat.le_of_ble_eq_true rfl) (by omega) (by omega) ?_
        refine j_cSs (k_pumped h4 hw (by omega) hf _) q_L_pumped tw_488 dL_law_202 rfl rfl (by omega) (Nat.le_of_ble_eq_true rfl) (by omega) (by omega) (fun μ5 E5 ⟨e5, S5, h5⟩ => ?_)
        subst e5
        refine j_if_eq (tgt := 244) dL_law_205 (by decide) (fun h9 => absurd h9 ((show ¬ (1 : Int32) = 0 by decide))) (fun _ => ?_)
        refine j_aload_n dL_law_208 rfl rfl ?_
        refine j_aload_n dL_law_209 rfl rfl ?_
        refine j_iload_n dL_law_210 rfl rfl ?_
        refine j_iinc dL_law_211 rfl (inc1 _) (by decide) rfl ?_
        refine j_cell hX hL rfl (by omega) tw_185 dL_law_214 (by omega) (Nat.le_of_ble_eq_true rfl) (by omega) (by omega) ?_
        refine j_cSs (k_told h5 hw (by omega) hf (by have := hfB 2 (by omega); omega) _ _) q_L_told tw_499 dL_law_217 rfl rfl (by omega) (Nat.le_of_ble_eq_true rfl) (by omega) (by omega) (fun μ6 E6 ⟨e6, S6, h6⟩ => ?_)
        subst e6
        refine j_if_eq (tgt := 244) dL_law_220 (by decide) (fun h9 => absurd h9 ((show ¬ (1 : Int32) = 0 by decide))) (fun _ => ?_)
        refine j_aload_n dL_law_223 rfl rfl ?_
        refine j_aload dL_law_224 rfl ?_
        refine j_aload_n dL_law_226 rfl rfl ?_
        refine j_iload_n dL_law_227 rfl rfl ?_
        refine j_iinc dL_law_228 rfl (inc1 _) (by decide) rfl ?_
        refine j_cell hX hL rfl (by omega) tw_185 dL_law_231 (by omega) (Nat.le_of_ble_eq_true rfl) (by omega) (by omega) ?_
        refine j_cSs (k_kept h6 hw (by omega) hf _) q_L_kept tw_582 dL_law_234 rfl rfl (by omega) (Nat.le_of_ble_eq_true rfl) (by omega) (by omega) (fun μ7 E7 _ => ?_)
        refine j_if_eq (tgt := 244) dL_law_237 (by decide) (fun h9 => absurd h9 ((show ¬ (1 : Int32) = 0 by decide))) (fun _ => ?_)
        exact hend _ _ _ _ _ (by omega) (by omega)
      · have hd := nnle (a := 20) hd
        refine j_aload_n dL_law_74 rfl rfl ?_
        refine j_iload_n dL_law_75 rfl rfl ?_
        refine j_iinc dL_law_76 rfl (inc1 _) (by decide) rfl ?_
        refine j_cell hX hL rfl (by omega) tw_185 dL_law_79 (by omega) (Nat.le_of_ble_eq_true rfl) (by omega) (by omega) ?_
        refine j_istore_n dL_law_82 rfl (by decide) rfl ?_
        refine j_aload_n dL_law_83 rfl rfl ?_
        refine j_aload dL_law_84 rfl ?_
        refine j_iload_n dL_law_86 rfl rfl ?_
        refine j_aload_n dL_law_87 rfl rfl ?_
        refine j_iload_n dL_law_88 rfl rfl ?_
        refine j_iinc dL_law_89 rfl (inc1 _) (by decide) rfl ?_
        refine j_cell hX hL rfl (by omega) tw_185 dL_law_92 (by omega) (Nat.le_of_ble_eq_true rfl) (by omega) (by omega) ?_
        refine j_aload_n dL_law_95 rfl rfl ?_
        refine j_iload_n dL_law_96 rfl rfl ?_
        refine j_iinc dL_law_97 rfl (inc1 _) (by decide) rfl ?_
        refine j_cell hX hL rfl (by omega) tw_185 dL_law_100 (by omega) (Nat.le_of_ble_eq_true rfl) (by omega) (by omega) ?_
        refine j_cSs (k_act (B := 50000 * (k : Int)) h hw (by omega) hf (by omega) hfB _ _ _) q_L_act tw_193 dL_law_103 rfl rfl (by omega) (Nat.le_of_ble_eq_true rfl) (by omega) (by omega) (fun μ1 E1 ⟨a1, f1, t1, e1, h1, hw1, ht1, ht2, hf1, hfB1⟩ => ?_)
        subst e1
        refine j_if_eq (tgt := 126) dL_law_106 (by decide) (fun h9 => absurd h9 ((show ¬ (1 : Int32) = 0 by decide))) (fun _ => ?_)
        have back : ∀ (μ' : zM) (ce' sl' : Nat), OK μ' a1 (fun _ => none) 0 → ce' ≤ ce + 4 → sl' ≤ sl + 36 → Xj K 10 600000 7302250 "DyeTankLaw" code 7 128 [xR b, zR (0, 0, 0), zI (nI (2 + 3 * (k + 1))), zN, zN, xR q0, zI (nI k)] [] μ' [(q0, 3, f1)] ce' sl' := by
          intro μ' ce' sl' h' hc' hs'
          refine j_iinc dL_law_128 rfl (inc1 _) (by decide) rfl ?_
          refine j_goto (tgt := 67) dL_law_131 (by decide) ?_
          exact ih (k + 1) μ' a1 t1 f1 ce' sl' (by omega) (by omega) h' hw1 (by omega) hf1 (fun c hc => by have := hfB1 c hc; omega) (by omega) (by omega)
        refine j_less (ls' := [xR b, zR (0, 0, 0), zI (nI (2 + 3 * (k + 1))), zN, zN, xR q0, zI (nI k)]) (by repeat' constructor) ?_
        refine j_iload dL_law_109 rfl ?_
        refine j_iconst (v := 4) dL_law_111 (by decide) ?_
        refine j_irem dL_law_112 (by decide) ?_
        refine j_iconst (v := 3) dL_law_113 (by decide) ?_
        refine j_icmp_ne (tgt := 128) dL_law_114 (by decide) (fun hm => ?_) (fun hm => ?_)
        · exact back μ1 _ _ h1 (by omega) (by omega)
        · refine j_aload_n dL_law_117 rfl rfl ?_
          refine j_aload dL_law_118 rfl ?_
          refine j_cSs (k_whole h1 hf1) q_L_whole tw_397 dL_law_120 rfl rfl (by omega) (Nat.le_of_ble_eq_true rfl) (by omega) (by omega) (fun μ3 E3 ⟨e3, m3⟩ => ?_)
          subst e3 m3
          refine j_if_ne (tgt := 128) dL_law_123 (by decide) (fun _ => ?_) (fun h9 => absurd h9 ((show ¬ (1 : Int32) = 0 by decide)))
          exact back _ _ _ h1 (by omega) (by omega)
  refine j_less (ls' := [xR b, zR (0, 0, 0), zI (nI (2 + 3 * 0)), zN, zN, xR q0, zI (nI 0)]) (by repeat' constructor) ?_
  exact loop 21 0 μ2 (beg (nI (2 + u))) 0 _ _ _ (by omega) (by omega) h2 (Lw_beg _) (by omega) (PI_beg _) (fun c hc => by show (0 : Int32).toInt ≤ _; rw [Int32.toInt_zero]; omega) (by omega) (by omega)
