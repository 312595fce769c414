/-! the component's calls that set, over the row -/
def zoT (t : Nat) (μ μ' : zM) : Prop := ∀ b : zA, (b.2.1 ≠ t ∨ b.1 < 5 ∨ 18 < b.1) → μ' b = μ b
theorem zoT.rf {t : Nat} {μ : zM} : zoT t μ μ := fun _ _ => rfl
theorem zoT.tr {t : Nat} {μ μ' μ'' : zM} (h : zoT t μ μ') (h' : zoT t μ' μ'') : zoT t μ μ'' := fun b hb => (h' b hb).trans (h b hb)
theorem zoT.put {t : Nat} {μ μ' : zM} (h : zoT t μ μ') (k i : Nat) (f : Nat → Int32) (hk : 5 ≤ k ∧ k ≤ 18 := by decide) : zoT t μ (st μ' (k, t, i) f) := fun b hb => by
  rw [st_ne _ _ (fun e => by rw [e] at hb; simp at hb; omega)]
  exact h b hb
theorem zoffK.zoT {t : Nat} {ks : List Nat} {μ μ' : zM} (h : zoffK ks t μ μ') (hk : ∀ k ∈ ks, 5 ≤ k ∧ k ≤ 18) : zoT t μ μ' := fun b hb => h b (by
  by_cases q : b.1 ∈ ks
  · have := hk _ q
    right
    omega
  · exact Or.inl q)
theorem zoff.zoT {t : Nat} {S : List zA} {μ μ' : zM} (h : zoff S μ μ') (hk : ∀ a ∈ S, a.2.1 = t ∧ 5 ≤ a.1 ∧ a.1 ≤ 18) : zoT t μ μ' := fun b hb => h b (fun q => by
  have := hk _ q
  omega)
theorem Rep_frame {μ μ' : zM} {t : Nat} {a : Nat → Int32} (h : Rep μ t a) (hf : ∀ k i : Nat, 5 ≤ k → k ≤ 18 → μ' (k, t, i) = μ (k, t, i)) : Rep μ' t a := by
  obtain ⟨g0, gS, gP, gA, gT, gD, gM⟩ := h
  unfold Rep
  rw [hf 5 0 (by omega) (by omega), hf 6 0 (by omega) (by omega), hf 7 0 (by omega) (by omega), hf 8 0 (by omega) (by omega), hf 9 0 (by omega) (by omega)]
  refine ⟨g0, gS, gP, gA, gT, fun c hc => by rw [hf 11 c (by omega) (by omega)]; exact gD c hc, fun m hm => ?_⟩
  have := gM m hm
  unfold RepM at this ⊢
  rw [hf 13 m (by omega) (by omega), hf 14 m (by omega) (by omega), hf 15 m (by omega) (by omega)]
  exact this
theorem Rep_row {μ : zM} {t : Nat} {a b : Nat → Int32} (h : Rep μ t a) (hn : rN a ≤ 12) (hk : rK a ≤ 6) (he : ∀ k, k < 2386 → b k = a k) : Rep μ t b := by
  obtain ⟨⟨g0, g1, g2⟩, gS, gP, gA, gT, gD, gM⟩ := h
  have en : rN b = rN a := by unfold rN; rw [he 0 (by omega)]
  have ek : rK b = rK a := by unfold rK; rw [he 33 (by omega)]
  refine ⟨⟨g0.trans (he 0 (by omega)).symm, g1.trans (he 1 (by omega)).symm, g2.trans (he 33 (by omega)).symm⟩, fun j hj => (gS j hj).trans (he _ (by omega)).symm, fun r hr => (gP r hr).trans (he _ (by omega)).symm, fun r hr => (gA r hr).trans (he _ (by omega)).symm, fun c hc => ?_, fun c hc i hi => (gD c hc i hi).trans (he _ (by omega)).symm, fun m hm => ?_⟩
  · rw [gT c hc, en]
    exact allA_congr (fun i hi => (he _ (by omega)).symm) hn
  · rw [ek] at hm
    have := gM m hm
    unfold RepM at this ⊢
    rw [he (34 + 104 * m) (by omega), he (34 + 104 * m + 1) (by omega), he (34 + 104 * m + 3) (by omega), he (36 + 104 * m) (by omega)]
    obtain ⟨q0, q1, q2, q3, q4, q5⟩ := this
    refine ⟨q0, q1, q2, q3, q4, fun k hk2 => ?_⟩
    have h50 : kepN (a (36 + 104 * m)).toNatClampNeg ≤ 50 := by unfold kepN; split <;> omega
    rw [he _ (by omega), he _ (by omega)]
    exact q5 k hk2
theorem takes_tab {j : Nat} (hj : j < 7) (v : Int32) : ((ztab 41).getD j 0 ≤ v ∧ v ≤ (ztab 42).getD j 0) ↔ takesP (nI j) v := by
  rcases (show j = 0 ∨ j = 1 ∨ j = 2 ∨ j = 3 ∨ j = 4 ∨ j = 5 ∨ j = 6 by omega) with e | e | e | e | e | e | e <;> subst e
  · show (0 ≤ v ∧ v ≤ 100) ↔ takesP 0 v
    unfold takesP; constructor <;> (intro h; simpa using h)
  · show (0 ≤ v ∧ v ≤ 100) ↔ takesP 1 v
    unfold takesP; constructor <;> (intro h; simpa using h)
  · show (-1500 ≤ v ∧ v ≤ 1500) ↔ takesP 2 v
    unfold takesP; constructor <;> (intro h; simpa using h)
  · show (0 ≤ v ∧ v ≤ 100) ↔ takesP 3 v
    unfold takesP; constructor <;> (intro h; simpa using h)
  · show (-1500 ≤ v ∧ v ≤ 1500) ↔ takesP 4 v
    unfold takesP; constructor <;> (intro h; simpa using h)
  · show (0 ≤ v ∧ v ≤ 200) ↔ takesP 5 v
    unfold takesP; constructor <;> (intro h; simpa using h)
  · show (0 ≤ v ∧ v ≤ 500) ↔ takesP 6 v
    unfold takesP; constructor <;> (intro h; simpa using h)
theorem aS_upd {a : Nat → Int32} {k : Nat} {v : Int32} {j : Nat} (h : 2 + j ≠ k) : aS (upd a k v) j = aS a j := if_neg h
theorem Rep_set {μ : zM} {a : Nat → Int32} (h : Rep μ 0 a) {j : Nat} (hj : j < 7) (v : Int32) : Rep (st μ (6, 0, 0) (upd (μ (6, 0, 0)) j v)) 0 (upd a (2 + j) v) := by
  obtain ⟨⟨g0, g1, g2⟩, gS, gP, gA, gT, gD, gM⟩ := h
  have up : ∀ k, k ≠ 2 + j → upd a (2 + j) v k = a k := fun k hk => if_neg hk
  have en : rN (upd a (2 + j) v) = rN a := by unfold rN; rw [up 0 (by omega)]
  have ek : rK (upd a (2 + j) v) = rK a := by unfold rK; rw [up 33 (by omega)]
  unfold Rep
  rw [en, ek]
  refine ⟨⟨?_, ?_, ?_⟩, ?_, ?_, ?_, ?_, ?_, ?_⟩
  · rw [st_ne _ _ (by simp), up 0 (by omega)]; exact g0
  · rw [st_ne _ _ (by simp), up 1 (by omega)]; exact g1
  · rw [st_ne _ _ (by simp), up 33 (by omega)]; exact g2
  · intro i hi
    rw [st_eq]
    by_cases e : i = j
    · rw [e]
      exact (if_pos rfl).trans (if_pos rfl).symm
    · exact (if_neg e).trans ((gS i hi).trans (up _ (by omega)).symm)
  · intro r hr
    rw [st_ne _ _ (by simp)]
    exact (gP r hr).trans (up _ (by omega)).symm
  · intro r hr
    rw [st_ne _ _ (by simp)]
    exact (gA r hr).trans (up _ (by omega)).symm
  · intro c hc
    rw [st_ne _ _ (by simp), gT c hc]
    refine congrFun (congrArg allA ?_) _
    funext i
    exact (up _ (by omega)).symm
  · intro c hc i hi
    rw [st_ne _ _ (by simp)]
    exact (gD c hc i hi).trans (up _ (by omega)).symm
  · intro m hm
    have := gM m hm
    unfold RepM at this ⊢
    rw [st_ne _ _ (by simp), st_ne _ _ (by simp), st_ne _ _ (by simp), up _ (by omega), up _ (by omega), up _ (by omega), up _ (by omega)]
    obtain ⟨q0, q1, q2, q3, q4, q5⟩ := this
    refine ⟨q0, q1, q2, q3, q4, fun k hk2 => ?_⟩
    rw [up _ (by omega), up _ (by omega)]
    exact q5 k hk2
theorem x_set (μ : zM) (a : Nat → Int32) (h : Rep μ 0 a) (s v : Int32) : zCs yX3_set prog_1_method_3_code 4 (some .int) 2 [zR (0, 0, 0), zI s, zI v] μ (fun μ' r => (∃ j : Nat, j < 7 ∧ s = nI j ∧ takesP s v ∧ r = a (2 + j) ∧ zoT 0 μ μ' ∧ Rep μ' 0 (upd a (2 + j) v)) ∨ ¬ takesP s v ∧ r = -1000000002 ∧ μ' = μ) := by
  have ht : (0 : Nat) < 4 := by omega
  refine zCt.of "DyeTank" rfl (by decide +kernel) rfl (Nat.le_of_ble_eq_true rfl) (fun K hR => ?_)
  have v0 := zv_0
  have v1 := zv_1
  have v2 := zv_2
  have v3 := zv_3
  have v4 := zv_4
  have v5 := zv_5 0 ht
  have v6 := zv_6 0 ht
  have bad : ¬ takesP s v → Z K 2 "DyeTank" prog_1_method_3_code 4 27 [zR (0, 0, 0), zI s, zI v, zN] [] μ := by
    intro hn
    refine z_ldc (v := -1000000002) dX3_set_27 tw_224 ?_
    refine z_iret hR dX3_set_29 (⟨_, rfl, Or.inr ⟨hn, rfl, rfl⟩⟩)
  refine z_ls (ls' := [zR (0, 0, 0), zI s, zI v, zN]) rfl ?_
  refine z_iload_n dX3_set_0 rfl rfl ?_
  refine z_iconst (v := 0) dX3_set_1 (by decide) ?_
  refine z_bipush (v := 6) dX3_set_2 (by decide) ?_
  refine z_cSi (c_within μ _ _ _) q_X3_within tw_181 dX3_set_4 rfl rfl (by omega) (Nat.le_of_ble_eq_true rfl) ?_
  refine z_beq (tgt := 27) dX3_set_7 (by decide) (fun h1 => ?_) (fun h1 => ?_)
  · refine bad (fun q => h1 ?_)
    obtain ⟨j, hj, e⟩ := takes_ix q
    rw [e]
    exact ⟨nI_pos' (by omega), (nI_leI (b := 6) (by omega) (by omega)).mpr (by omega)⟩
  · obtain ⟨j, hj, e⟩ : ∃ j : Nat, j < 7 ∧ s = nI j := (rngP (n := 7) (by omega) (by omega)).mp h1
    subst e
    refine z_iload_n dX3_set_10 rfl rfl ?_
    refine z_gets (i := 41) (by decide) dX3_set_11 tw_384 ?_
    refine z_iload_n dX3_set_14 rfl rfl ?_
    refine z_sald (by decide) dX3_set_15 rfl hj ?_
    refine z_gets (i := 42) (by decide) dX3_set_16 tw_386 ?_
    refine z_iload_n dX3_set_19 rfl rfl ?_
    refine z_sald (by decide) dX3_set_20 rfl hj ?_
    refine z_cSi (c_within μ _ _ _) q_X3_within tw_181 dX3_set_21 rfl rfl (by omega) (Nat.le_of_ble_eq_true rfl) ?_
    refine z_bne (tgt := 30) dX3_set_24 (by decide) (fun h2 => ?_) (fun h2 => ?_)
    · rw [takes_tab hj] at h2
      refine z_aload_n dX3_set_30 rfl rfl ?_
      refine zg_X3_tank dX3_set_31 tw_161 ?_
      refine zg_X2_settings dX3_set_34 tw_77 ?_
      refine z_iload_n dX3_set_37 rfl rfl ?_
      refine z_iald dX3_set_38 (fun _ _ => rfl) rfl hj ?_
      refine z_istS_n dX3_set_39 rfl (by decide) rfl ?_
      refine z_aload_n dX3_set_40 rfl rfl ?_
      refine zg_X3_tank dX3_set_41 tw_161 ?_
      refine zg_X2_settings dX3_set_44 tw_77 ?_
      refine z_iload_n dX3_set_47 rfl rfl ?_
      refine z_iload_n dX3_set_48 rfl rfl ?_
      refine z_iast dX3_set_49 (fun _ _ => rfl) rfl hj ?_
      refine z_iload_n dX3_set_50 rfl rfl ?_
      refine z_iret hR dX3_set_51 (⟨_, rfl, Or.inl ⟨j, hj, rfl, h2, (h.2.1 j hj), zoT.rf.put 6 0 _, Rep_set h hj v⟩⟩)
    · rw [takes_tab hj] at h2
      exact bad h2
