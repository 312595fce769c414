/-! the stretch of dyes, by colour and place -/
def rg2 (f : Nat → Nat → Int32) (a : Nat → Int32) (k : Nat) : Int32 := if 658 ≤ k ∧ k < 2386 then f ((k - 658) / 576) ((k - 658) % 576) else a k
theorem rg2_at {f : Nat → Nat → Int32} {a : Nat → Int32} {c i : Nat} (hc : c < 3) (hi : i < 576) : rg2 f a (658 + (576 * c + i)) = f c i := by
  unfold rg2
  rw [if_pos (by omega), show (658 + (576 * c + i) - 658) / 576 = c by omega, show (658 + (576 * c + i) - 658) % 576 = i by omega]
theorem rg2_out {f : Nat → Nat → Int32} {a : Nat → Int32} {k : Nat} (h : k < 658) : rg2 f a k = a k := if_neg (by omega)
def upc (f : Nat → Nat → Int32) (c : Nat) (g : Nat → Int32) (c' : Nat) : Nat → Int32 := if c' = c then g else f c'
theorem upc_eq (f : Nat → Nat → Int32) (c : Nat) (g : Nat → Int32) : upc f c g c = g := if_pos rfl
theorem upc_upc (f : Nat → Nat → Int32) (c : Nat) (g h : Nat → Int32) : upc (upc f c g) c h = upc f c h := by
  funext c'
  unfold upc
  by_cases e : c' = c
  · rw [if_pos e, if_pos e]
  · rw [if_neg e, if_neg e, if_neg e]
theorem rg2_upd {f : Nat → Nat → Int32} {a : Nat → Int32} {c i : Nat} {x : Int32} (hc : c < 3) (hi : i < 576) : upd (rg2 f a) (658 + (576 * c + i)) x = rg2 (upc f c (upd (f c) i x)) a := by
  funext k
  unfold upd rg2 upc
  by_cases e : k = 658 + (576 * c + i)
  · rw [if_pos e, if_pos (by omega), if_pos (by omega), if_pos (by omega)]
  · rw [if_neg e]
    by_cases h : 658 ≤ k ∧ k < 2386
    · rw [if_pos h, if_pos h]
      by_cases h2 : (k - 658) / 576 = c
      · rw [if_pos h2, if_neg (by omega), h2]
      · rw [if_neg h2]
    · rw [if_neg h, if_neg h]
theorem rg2_self (a : Nat → Int32) : rg2 (aD a) a = a := by
  funext k
  unfold rg2 aD
  by_cases h : 658 ≤ k ∧ k < 2386
  · rw [if_pos h]
    exact congrArg a (by omega)
  · rw [if_neg h]
theorem rg2_congr {f g : Nat → Nat → Int32} {a : Nat → Int32} (h : ∀ c, c < 3 → f c = g c) : rg2 f a = rg2 g a := by
  funext k
  unfold rg2
  by_cases h2 : 658 ≤ k ∧ k < 2386
  · rw [if_pos h2, if_pos h2, h _ (by omega)]
  · rw [if_neg h2, if_neg h2]
/-- the colours before c have had their share of place j too -/
def gvc (D : Nat → Nat → Int32) (B : Nat → Nat → Int32) (A : Nat → Int32) (L r tg : Nat) (s : Int32) (j c c' i : Nat) : Int32 := D c' i + gv (B c') A L r tg s (if c' < c then j + 1 else j) i
theorem gvc_s {D B : Nat → Nat → Int32} {A : Nat → Int32} {L r tg : Nat} {s : Int32} {j c : Nat} (hne : rwi L r + j ≠ rwi L tg + jj A r tg j) :
    upc (gvc D B A L r tg s j c) c (upd (upd (gvc D B A L r tg s j c c) (rwi L r + j) (gvc D B A L r tg s j c c (rwi L r + j) - mva (B c (rwi L r + j)) s)) (rwi L tg + jj A r tg j) (upd (gvc D B A L r tg s j c c) (rwi L r + j) (gvc D B A L r tg s j c c (rwi L r + j) - mva (B c (rwi L r + j)) s) (rwi L tg + jj A r tg j) + mva (B c (rwi L r + j)) s)) = gvc D B A L r tg s j (c + 1) := by
  rw [con_upd _ hne]
  funext c'
  unfold upc
  by_cases e : c' = c
  · rw [if_pos e, e]
    funext i
    unfold gvc
    rw [if_neg (by omega), if_pos (by omega)]
    show _ + sm _ j + _ = _ + (sm _ j + _)
    rw [Int32.add_assoc]
  · rw [if_neg e]
    funext i
    unfold gvc
    by_cases h : c' < c
    · rw [if_pos h, if_pos (by omega)]
    · rw [if_neg h, if_neg (by omega)]
theorem gvc_3 {D B : Nat → Nat → Int32} {A : Nat → Int32} {L r tg : Nat} {s : Int32} {j : Nat} {a : Nat → Int32} : rg2 (gvc D B A L r tg s j 3) a = rg2 (gvc D B A L r tg s (j + 1) 0) a := by
  refine rg2_congr (fun c hc => ?_)
  funext i
  unfold gvc
  rw [if_pos hc, if_neg (by omega)]
theorem m_stepRing_head {K : zK} (μ : zM) (r L : Nat) (x T : Int32) (hT : T = if inw L x then nI r - 1 else nI r + 1) (hL : L < 2) (k : ∀ (w T' : Int32), T' = T → Z K 3 "DyeTankModel" prog_6_method_25_code 12 45 [zR (20, 0, 0), zI (nI r), zI (nI L), zI x, zI w, zI T', zN, zN, zN, zN, zN, zN] [] μ) : Z K 3 "DyeTankModel" prog_6_method_25_code 12 0 [zR (20, 0, 0), zI (nI r), zI (nI L), zI x, zN, zN, zN, zN, zN, zN, zN, zN] [] μ := by
  have k : ∀ (w : Int32) {T' : Int32}, T' = T → Z K 3 "DyeTankModel" prog_6_method_25_code 12 45 [zR (20, 0, 0), zI (nI r), zI (nI L), zI x, zI w, zI T', zN, zN, zN, zN, zN, zN] [] μ := fun w T' h => k w T' h
  have hL2 : L = 0 ∨ L = 1 := by omega
  rcases hL2 with rfl | rfl
  · by_cases hx : 0 < x
    · have hw : ¬ inw 0 x = true := by unfold inw; rw [decide_eq_true hx]; decide
      refine z_iload_n dX4_stepRing_0 rfl rfl ?_
      refine z_if_le (tgt := 8) dX4_stepRing_1 (by decide) (fun h9 => absurd h9 ((Int32.not_le.mpr hx))) (fun _ => ?_)
      refine z_iconst (v := 1) dX4_stepRing_4 (by decide) ?_
      refine z_goto (tgt := 9) dX4_stepRing_5 (by decide) ?_
      refine z_iload_n dX4_stepRing_9 rfl rfl ?_
      refine z_iconst (v := 1) dX4_stepRing_10 (by decide) ?_
      refine z_icmp_ne (tgt := 18) dX4_stepRing_11 (by decide) (fun _ => ?_) (fun h9 => absurd h9 ((show ¬ nI 0 = 1 by decide)))
      refine z_iconst (v := 0) dX4_stepRing_18 (by decide) ?_
      refine z_icmp_ne (tgt := 26) dX4_stepRing_19 (by decide) (fun _ => ?_) (fun h9 => absurd h9 ((show ¬ (1 : Int32) = 0 by decide)))
      refine z_iconst (v := 0) dX4_stepRing_26 (by decide) ?_
      refine z_istS dX4_stepRing_27 (by decide) rfl ?_
      refine z_iload dX4_stepRing_29 rfl ?_
      refine z_if_eq (tgt := 40) dX4_stepRing_31 (by decide) (fun _ => ?_) (fun h9 => absurd ((show (0 : Int32) = 0 by decide)) h9)
      refine z_iload_n dX4_stepRing_40 rfl rfl ?_
      refine z_iconst (v := 1) dX4_stepRing_41 (by decide) ?_
      refine z_iadd dX4_stepRing_42 ?_
      refine z_istS dX4_stepRing_43 (by decide) rfl ?_
      exact k _ (by rw [hT, if_neg hw])
    · have hw : inw 0 x = true := by unfold inw; rw [decide_eq_false hx]; decide
      refine z_iload_n dX4_stepRing_0 rfl rfl ?_
      refine z_if_le (tgt := 8) dX4_stepRing_1 (by decide) (fun _ => ?_) (fun h9 => absurd ((Int32.not_lt.mp hx)) h9)
      refine z_iconst (v := 0) dX4_stepRing_8 (by decide) ?_
      refine z_iload_n dX4_stepRing_9 rfl rfl ?_
      refine z_iconst (v := 1) dX4_stepRing_10 (by decide) ?_
      refine z_icmp_ne (tgt := 18) dX4_stepRing_11 (by decide) (fun _ => ?_) (fun h9 => absurd h9 ((show ¬ nI 0 = 1 by decide)))
      refine z_iconst (v := 0) dX4_stepRing_18 (by decide) ?_
      refine z_icmp_ne (tgt := 26) dX4_stepRing_19 (by decide) (fun h9 => absurd h9 ((show ¬ ¬ (0 : Int32) = 0 by decide))) (fun _ => ?_)
      refine z_iconst (v := 1) dX4_stepRing_22 (by decide) ?_
      refine z_goto (tgt := 27) dX4_stepRing_23 (by decide) ?_
      refine z_istS dX4_stepRing_27 (by decide) rfl ?_
      refine z_iload dX4_stepRing_29 rfl ?_
      refine z_if_eq (tgt := 40) dX4_stepRing_31 (by decide) (fun h9 => absurd h9 ((show ¬ (1 : Int32) = 0 by decide))) (fun _ => ?_)
      refine z_iload_n dX4_stepRing_34 rfl rfl ?_
      refine z_iconst (v := 1) dX4_stepRing_35 (by decide) ?_
      refine z_isub dX4_stepRing_36 ?_
      refine z_goto (tgt := 43) dX4_stepRing_37 (by decide) ?_
      refine z_istS dX4_stepRing_43 (by decide) rfl ?_
      exact k _ (by rw [hT, if_pos hw])
  · by_cases hx : 0 < x
    · have hw : inw 1 x = true := by unfold inw; rw [decide_eq_true hx]; decide
      refine z_iload_n dX4_stepRing_0 rfl rfl ?_
      refine z_if_le (tgt := 8) dX4_stepRing_1 (by decide) (fun h9 => absurd h9 ((Int32.not_le.mpr hx))) (fun _ => ?_)
      refine z_iconst (v := 1) dX4_stepRing_4 (by decide) ?_
      refine z_goto (tgt := 9) dX4_stepRing_5 (by decide) ?_
      refine z_iload_n dX4_stepRing_9 rfl rfl ?_
      refine z_iconst (v := 1) dX4_stepRing_10 (by decide) ?_
      refine z_icmp_ne (tgt := 18) dX4_stepRing_11 (by decide) (fun h9 => absurd h9 ((show ¬ ¬ nI 1 = 1 by decide))) (fun _ => ?_)
      refine z_iconst (v := 1) dX4_stepRing_14 (by decide) ?_
      refine z_goto (tgt := 19) dX4_stepRing_15 (by decide) ?_
      refine z_icmp_ne (tgt := 26) dX4_stepRing_19 (by decide) (fun h9 => absurd h9 ((show ¬ ¬ (1 : Int32) = 1 by decide))) (fun _ => ?_)
      refine z_iconst (v := 1) dX4_stepRing_22 (by decide) ?_
      refine z_goto (tgt := 27) dX4_stepRing_23 (by decide) ?_
      refine z_istS dX4_stepRing_27 (by decide) rfl ?_
      refine z_iload dX4_stepRing_29 rfl ?_
      refine z_if_eq (tgt := 40) dX4_stepRing_31 (by decide) (fun h9 => absurd h9 ((show ¬ (1 : Int32) = 0 by decide))) (fun _ => ?_)
      refine z_iload_n dX4_stepRing_34 rfl rfl ?_
      refine z_iconst (v := 1) dX4_stepRing_35 (by decide) ?_
      refine z_isub dX4_stepRing_36 ?_
      refine z_goto (tgt := 43) dX4_stepRing_37 (by decide) ?_
      refine z_istS dX4_stepRing_43 (by decide) rfl ?_
      exact k _ (by rw [hT, if_pos hw])
    · have hw : ¬ inw 1 x = true := by unfold inw; rw [decide_eq_false hx]; decide
      refine z_iload_n dX4_stepRing_0 rfl rfl ?_
      refine z_if_le (tgt := 8) dX4_stepRing_1 (by decide) (fun _ => ?_) (fun h9 => absurd ((Int32.not_lt.mp hx)) h9)
      refine z_iconst (v := 0) dX4_stepRing_8 (by decide) ?_
      refine z_iload_n dX4_stepRing_9 rfl rfl ?_
      refine z_iconst (v := 1) dX4_stepRing_10 (by decide) ?_
      refine z_icmp_ne (tgt := 18) dX4_stepRing_11 (by decide) (fun h9 => absurd h9 ((show ¬ ¬ nI 1 = 1 by decide))) (fun _ => ?_)
      refine z_iconst (v := 1) dX4_stepRing_14 (by decide) ?_
      refine z_goto (tgt := 19) dX4_stepRing_15 (by decide) ?_
      refine z_icmp_ne (tgt := 26) dX4_stepRing_19 (by decide) (fun _ => ?_) (fun h9 => absurd h9 ((show ¬ (0 : Int32) = 1 by decide)))
      refine z_iconst (v := 0) dX4_stepRing_26 (by decide) ?_
      refine z_istS dX4_stepRing_27 (by decide) rfl ?_
      refine z_iload dX4_stepRing_29 rfl ?_
      refine z_if_eq (tgt := 40) dX4_stepRing_31 (by decide) (fun _ => ?_) (fun h9 => absurd ((show (0 : Int32) = 0 by decide)) h9)
      refine z_iload_n dX4_stepRing_40 rfl rfl ?_
      refine z_iconst (v := 1) dX4_stepRing_41 (by decide) ?_
      refine z_iadd dX4_stepRing_42 ?_
      refine z_istS dX4_stepRing_43 (by decide) rfl ?_
      exact k _ (by rw [hT, if_neg hw])
theorem m_stepRing0 (μ : zM) (r L : Nat) (x T : Int32) (hT : T = if inw L x then nI r - 1 else nI r + 1) (hL : L < 2) (h : x = 0 ∨ ¬ (0 ≤ T ∧ T ≤ μ (21, 0, 0) 0 - 1)) : zCv yX4_stepRing prog_6_method_25_code 12 (none : Option Jvm.ClassFile.FieldType) 3 [zR (20, 0, 0), zI (nI r), zI (nI L), zI x] μ (fun μ' => μ' = μ) := by
  refine zCt.of "DyeTankModel" rfl (by decide +kernel) rfl (Nat.le_of_ble_eq_true rfl) (fun K hR => ?_)
  have v20 := zv_20
  have v21 := zv_21
  have v22 := zv_22
  have v23 := zv_23
  have v24 := zv_24
  have v25 := zv_25
  have v26 := zv_26
  have v27 := zv_27
  have v28 := zv_28
  refine m_stepRing_head μ r L x T hT hL (fun w T' hT' => ?_)
  subst hT'
  refine z_iload_n dX4_stepRing_45 rfl rfl ?_
  refine z_if_eq (tgt := 58) dX4_stepRing_46 (by decide) (fun h1 => ?_) (fun h1 => ?_)
  · refine z_vret hR dX4_stepRing_58 (⟨rfl, rfl⟩)
  · refine z_aload_n dX4_stepRing_49 rfl rfl ?_
    refine z_iload dX4_stepRing_50 rfl ?_
    refine z_cVi (m_isRing μ _) q_X4_isRing tw_608 dX4_stepRing_52 rfl rfl rfl (by omega) (Nat.le_of_ble_eq_true rfl) ?_
    refine z_bne (tgt := 59) dX4_stepRing_55 (by decide) (fun h2 => ?_) (fun h2 => ?_)
    · exact absurd h2 (h.resolve_left h1)
    · refine z_vret hR dX4_stepRing_58 (⟨rfl, rfl⟩)
theorem absI_neg (x : Int32) (h : ¬ 0 ≤ x) : -x = absI x := (absI_lt h).symm
theorem m_stepRing (μ : zM) (n : Nat) (hn : μ (21, 0, 0) 0 = nI n) (hn2 : 2 ≤ n) (hn12 : n ≤ 12) (r L tg : Nat) (x : Int32) (hT : nI tg = if inw L x then nI r - 1 else nI r + 1) (hL : L < 2) (hr : r < n) (htg : tg < n) (hne : tg ≠ r) (hx : ¬ x = 0) (hA : ∀ r, r < n → ∃ a, a < 3600 ∧ aA (μ (21, 0, 0)) r = nI a) (D : Nat → Nat → Int32) (a0 : Nat → Int32) (ha0 : μ (21, 0, 0) = rg2 D a0) : zCv yX4_stepRing prog_6_method_25_code 12 (none : Option Jvm.ClassFile.FieldType) 3 [zR (20, 0, 0), zI (nI r), zI (nI L), zI x] μ (fun μ' => zoff [(21, 0, 0)] μ μ' ∧ μ' (21, 0, 0) = rg2 (fun c i => D c i + gv (fun i => μ (25, 0, 0) (576 * c + i)) (aA (μ (21, 0, 0))) L r tg (absI x) 24 i) a0) := by
  refine zCt.of "DyeTankModel" rfl (by decide +kernel) rfl (Nat.le_of_ble_eq_true rfl) (fun K hR => ?_)
  have v20 := zv_20
  have v21 := zv_21
  have v22 := zv_22
  have v23 := zv_23
  have v24 := zv_24
  have v25 := zv_25
  have v26 := zv_26
  have v27 := zv_27
  have v28 := zv_28
  generalize hAA : aA (μ (21, 0, 0)) = A at hA ⊢
  obtain ⟨av, hav, eav⟩ := hA r hr
  obtain ⟨bv, hbv, ebv⟩ := hA tg htg
  obtain ⟨e1, l1⟩ := sec_eq av hav eav
  obtain ⟨e2, l2⟩ := sec_eq bv hbv ebv
  have hrw : rwi L r + 24 ≤ 576 := by unfold rwi; omega
  have hrw2 : rwi L tg + 24 ≤ 576 := by unfold rwi; omega
  have hapart : ∀ j k, j < 24 → k < 24 → rwi L r + j ≠ rwi L tg + k := by
    intro j k hj hk
    unfold rwi
    omega
  generalize hB : (fun (c i : Nat) => μ (25, 0, 0) (576 * c + i)) = B
  have hBc : ∀ c i, μ (25, 0, 0) (576 * c + i) = B c i := fun c i => by rw [← hB]
  have outer : ∀ (f j : Nat) (w : Int32) (x8 x9 x10 x11 : zV) (μ' : zM), zcat x8 = 1 → zcat x9 = 1 → zcat x10 = 1 → j ≤ 24 → 24 < j + f → zoff [(21, 0, 0)] μ μ' → μ' (21, 0, 0) = rg2 (gvc D B A L r tg (absI x) j 0) a0 → Z K 3 "DyeTankModel" prog_6_method_25_code 12 74 [zR (20, 0, 0), zI (nI r), zI (nI L), zI x, zI w, zI (nI tg), zI (absI x), zI (nI j), x8, x9, x10, x11] [] μ' := by
    intro f
    induction f with
    | zero => intro j w x8 x9 x10 x11 μ' q1 q2 q3 h1 h2 h3 h4; exact absurd ‹_ < _ + 0› (by omega)
    | succ f ih =>
      intro j w x8 x9 x10 x11 μ' q8 q9 q10 h1 h2 ho ha
      refine z_iload dX4_stepRing_74 rfl ?_
      refine z_bipush (v := 24) dX4_stepRing_76 (by decide) ?_
      refine z_icmp_ge (tgt := 199) dX4_stepRing_78 (by decide) (fun hb => ?_) (fun hb => ?_)
      · have hb := nle (a := 24) hb
        have e : j = 24 := by omega
        subst e
        refine z_vret hR dX4_stepRing_199 (⟨rfl, ho, ?_⟩)
        rw [ha]
        refine rg2_congr (fun c hc => ?_)
        funext i
        unfold gvc
        rw [if_neg (by omega), ← hB, hAA]
      · have hb := nnle (a := 24) hb
        have inner : ∀ (f2 c : Nat) (x10 x11 : zV) (μ' : zM), zcat x10 = 1 → c ≤ 3 → 3 < c + f2 → zoff [(21, 0, 0)] μ μ' → μ' (21, 0, 0) = rg2 (gvc D B A L r tg (absI x) j c) a0 → Z K 3 "DyeTankModel" prog_6_method_25_code 12 111 [zR (20, 0, 0), zI (nI r), zI (nI L), zI x, zI w, zI (nI tg), zI (absI x), zI (nI j), zI (nI (jj A r tg j)), zI (nI c), x10, x11] [] μ' := by
          intro f2
          induction f2 with
          | zero => intro c x10 x11 μ' _ h5 h6; exact absurd h6 (by omega)
          | succ f2 ih2 =>
            intro c x10 x11 μ' q10 h5 h6 ho ha
            refine z_iload dX4_stepRing_111 rfl ?_
            refine z_iconst (v := 3) dX4_stepRing_113 (by decide) ?_
            refine z_icmp_ge (tgt := 193) dX4_stepRing_114 (by decide) (fun hq => ?_) (fun hq => ?_)
            · have hq := nle (a := 3) hq
              have e : c = 3 := by omega
              subst e
              refine z_incS dX4_stepRing_193 rfl (inc1 _) (by decide) rfl ?_
              refine z_goto (tgt := 74) dX4_stepRing_196 (by decide) ?_
              exact ih (j + 1) w _ _ _ _ μ' rfl rfl q10 (by omega) (by omega) ho (by rw [ha]; exact gvc_3)
            · have hq := nnle (a := 3) hq
              have e25 := ho.at (25, 0, 0)
              have hjj : jj A r tg j < 24 := Nat.mod_lt _ (by omega)
              have i1 : rwi L r + j < 576 := by omega
              have i2 : rwi L tg + jj A r tg j < 576 := by omega
              refine z_iload dX4_stepRing_117 rfl ?_
              refine z_iload_n dX4_stepRing_119 rfl rfl ?_
              refine z_iload_n dX4_stepRing_120 rfl rfl ?_
              refine z_iload dX4_stepRing_121 rfl ?_
              refine z_cSi (m_dyeAt _ c L r j) q_X4_dyeAt tw_648 dX4_stepRing_123 rfl rfl (by omega) (Nat.le_of_ble_eq_true rfl) ?_
              refine z_istS dX4_stepRing_126 (by decide) rfl ?_
              refine z_aload_n dX4_stepRing_128 rfl rfl ?_
              refine zg_X4_before dX4_stepRing_129 tw_556 ?_
              refine z_iload dX4_stepRing_132 rfl ?_
              refine z_iald dX4_stepRing_134 (fun _ _ => rfl) rfl (show 576 * c + (rwi L r + j) < 1728 by omega) ?_
              refine z_i2l dX4_stepRing_135 ?_
              refine z_iload dX4_stepRing_136 rfl ?_
              refine z_i2l dX4_stepRing_138 ?_
              refine z_lmul dX4_stepRing_139 ?_
              refine z_ldc2 (v := 1000) dX4_stepRing_140 tw_684 ?_
              refine z_ldiv dX4_stepRing_143 (by decide) ?_
              refine z_l2i dX4_stepRing_144 ?_
              refine z_top ((show _ = mva (B c (rwi L r + j)) (absI x) by rw [e25, hBc]; rfl)) ?_
              refine z_istS dX4_stepRing_145 (by decide) rfl ?_
              refine z_aload_n dX4_stepRing_147 rfl rfl ?_
              refine zg_X4_at dX4_stepRing_148 tw_552 ?_
              refine z_sipush (v := 658) dX4_stepRing_151 (by decide) ?_
              refine z_iload dX4_stepRing_154 rfl ?_
              refine z_iadd dX4_stepRing_156 ?_
              refine z_top ((nI_add 658 _)) ?_
              refine z_dup2 dX4_stepRing_157 rfl rfl ?_
              refine z_iald dX4_stepRing_158 (fun _ _ => rfl) rfl (show 658 + (576 * c + (rwi L r + j)) < 2386 by omega) ?_
              refine z_iload dX4_stepRing_159 rfl ?_
              refine z_isub dX4_stepRing_161 ?_
              refine z_iast dX4_stepRing_162 (fun _ _ => rfl) rfl (show 658 + (576 * c + (rwi L r + j)) < 2386 by omega) ?_
              refine z_aload_n dX4_stepRing_163 rfl rfl ?_
              refine zg_X4_at dX4_stepRing_164 tw_552 ?_
              refine z_sipush (v := 658) dX4_stepRing_167 (by decide) ?_
              refine z_iload dX4_stepRing_170 rfl ?_
              refine z_iload_n dX4_stepRing_172 rfl rfl ?_
              refine z_iload dX4_stepRing_173 rfl ?_
              refine z_iload dX4_stepRing_175 rfl ?_
              refine z_cSi (m_dyeAt _ c L tg (jj A r tg j)) q_X4_dyeAt tw_648 dX4_stepRing_177 rfl rfl (by omega) (Nat.le_of_ble_eq_true rfl) ?_
              refine z_iadd dX4_stepRing_180 ?_
              refine z_top ((nI_add 658 _)) ?_
              refine z_dup2 dX4_stepRing_181 rfl rfl ?_
              refine z_iald dX4_stepRing_182 (fun _ _ => rfl) rfl (show 658 + (576 * c + (rwi L tg + jj A r tg j)) < 2386 by omega) ?_
              refine z_iload dX4_stepRing_183 rfl ?_
              refine z_iadd dX4_stepRing_185 ?_
              refine z_iast dX4_stepRing_186 (fun _ _ => rfl) rfl (show 658 + (576 * c + (rwi L tg + jj A r tg j)) < 2386 by omega) ?_
              refine z_incS dX4_stepRing_187 rfl (inc1 _) (by decide) rfl ?_
              refine z_goto (tgt := 111) dX4_stepRing_190 (by decide) ?_
              refine ih2 (c + 1) _ _ _ rfl (by omega) (by omega) ((ho.put (by simp) _).put (by simp) _) ?_
              rw [st_eq, st_eq, ha, rg2_at hq i1, rg2_upd hq i1, rg2_at hq i2, rg2_upd hq i2, upc_eq, upc_upc, gvc_s (hapart _ _ hb hjj)]
        have hsec : μ' (21, 0, 0) (21 + r) / 150 = nI (sec A r) := by
          have : μ' (21, 0, 0) (21 + r) = A r := by
            rw [ha, rg2_out (by omega), ← hAA]
            show _ = μ (21, 0, 0) (21 + r)
            rw [ha0, rg2_out (by omega)]
          rw [this]
          exact e1
        have htgA : aA (μ' (21, 0, 0)) tg / 150 = nI (sec A tg) := by
          have : aA (μ' (21, 0, 0)) tg = A tg := by
            rw [← hAA]
            show μ' (21, 0, 0) (21 + tg) = μ (21, 0, 0) (21 + tg)
            rw [ha, rg2_out (by omega), ha0, rg2_out (by omega)]
          rw [this]
          exact e2
        have hthere : fmd (nI ((j + sec A r) % 24) - aA (μ' (21, 0, 0)) tg / 150) 24 = nI (jj A r tg j) := by
          have h9 : sec A tg < 24 := l2
          rw [htgA, fmd24 _ (Nat.mod_lt _ (by omega)) _ h9]
          unfold jj
          congr 1
          omega
        have hlr : sec A r < 24 := l1
        refine z_aload_n dX4_stepRing_81 rfl rfl ?_
        refine z_iload dX4_stepRing_82 rfl ?_
        refine z_iload dX4_stepRing_84 rfl ?_
        refine z_aload_n dX4_stepRing_86 rfl rfl ?_
        refine zg_X4_at dX4_stepRing_87 tw_552 ?_
        refine z_bipush (v := 21) dX4_stepRing_90 (by decide) ?_
        refine z_iload_n dX4_stepRing_92 rfl rfl ?_
        refine z_iadd dX4_stepRing_93 ?_
        refine z_top ((nI_add 21 r)) ?_
        refine z_iald dX4_stepRing_94 (fun _ _ => rfl) rfl (show 21 + r < 2386 by omega) ?_
        refine z_sipush (v := 150) dX4_stepRing_95 (by decide) ?_
        refine z_idiv dX4_stepRing_98 (by decide) ?_
        refine z_top (hsec) ?_
        refine z_iadd dX4_stepRing_99 ?_
        refine z_top ((nI_add j _)) ?_
        refine z_bipush (v := 24) dX4_stepRing_100 (by decide) ?_
        refine z_irem dX4_stepRing_102 (by decide) ?_
        refine z_top ((show nI (j + sec A r) - nI (j + sec A r) / nI 24 * nI 24 = nI ((j + sec A r) % 24) from pk_rem (by omega) (by omega) (by omega))) ?_
        refine z_cVi (m_cellIn _ tg (by omega) _) q_X4_cellIn tw_652 dX4_stepRing_103 rfl rfl rfl (by omega) (Nat.le_of_ble_eq_true rfl) ?_
        refine z_top (hthere) ?_
        refine z_istS dX4_stepRing_106 (by decide) rfl ?_
        refine z_iconst (v := 0) dX4_stepRing_108 (by decide) ?_
        refine z_istS dX4_stepRing_109 (by decide) rfl ?_
        exact inner 4 0 x10 x11 μ' q10 (by omega) (by omega) ho ha
  refine m_stepRing_head μ r L x (nI tg) hT hL (fun w T' hT' => ?_)
  subst hT'
  refine z_iload_n dX4_stepRing_45 rfl rfl ?_
  refine z_if_eq (tgt := 58) dX4_stepRing_46 (by decide) (fun h9 => absurd h9 (hx)) (fun _ => ?_)
  refine z_aload_n dX4_stepRing_49 rfl rfl ?_
  refine z_iload dX4_stepRing_50 rfl ?_
  refine z_cVi (m_isRing μ _) q_X4_isRing tw_608 dX4_stepRing_52 rfl rfl rfl (by omega) (Nat.le_of_ble_eq_true rfl) ?_
  refine z_bne (tgt := 59) dX4_stepRing_55 (by decide) (fun h2 => ?_) (fun h2 => ?_)
  · have start : ∀ v, v = absI x → Z K 3 "DyeTankModel" prog_6_method_25_code 12 69 [zR (20, 0, 0), zI (nI r), zI (nI L), zI x, zI w, zI (nI tg), zN, zN, zN, zN, zN, zN] [zI v] μ := by
      intro v hv
      subst hv
      refine z_istS dX4_stepRing_69 (by decide) rfl ?_
      refine z_iconst (v := 0) dX4_stepRing_71 (by decide) ?_
      refine z_istS dX4_stepRing_72 (by decide) rfl ?_
      refine outer 25 0 w zN zN zN zN μ rfl rfl rfl (by omega) (by omega) zoff.rf ?_
      rw [ha0]
      refine rg2_congr (fun c hc => ?_)
      funext i
      unfold gvc gv
      rw [if_neg (by omega)]
      show _ = _ + sm _ 0
      rw [sm, Int32.add_zero]
    refine z_iload_n dX4_stepRing_59 rfl rfl ?_
    refine z_if_ge (tgt := 68) dX4_stepRing_60 (by decide) (fun hs => ?_) (fun hs => ?_)
    · refine z_iload_n dX4_stepRing_68 rfl rfl ?_
      exact start _ (absI_ge hs).symm
    · refine z_iload_n dX4_stepRing_63 rfl rfl ?_
      refine z_ineg dX4_stepRing_64 ?_
      refine z_goto (tgt := 69) dX4_stepRing_65 (by decide) ?_
      exact start _ (absI_neg x hs)
  · refine absurd ⟨nI_pos' (by omega), ?_⟩ h2
    rw [hn]
    show nI tg ≤ nI n - nI 1
    rw [pk_sub (by omega)]
    exact nI_le (by omega) (by omega)
