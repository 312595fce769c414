/-! stores put together -/
theorem st_st (μ : zM) (a : zA) (f g : Nat → Int32) : st (st μ a f) a g = st μ a g := by
  funext b
  unfold st
  by_cases h : b = a
  · rw [if_pos h, if_pos h]
  · rw [if_neg h, if_neg h, if_neg h]
theorem st_upd (μ : zM) (a : zA) (f : Nat → Int32) (k : Nat) (x : Int32) : st (st μ a f) a (upd ((st μ a f) a) k x) = st μ a (upd f k x) := by rw [st_eq, st_st]
theorem st_self (μ : zM) (a : zA) : st μ a (μ a) = μ := by
  funext b
  unfold st
  by_cases h : b = a
  · rw [if_pos h, h]
  · rw [if_neg h]
def zoff (S : List zA) (μ μ' : zM) : Prop := ∀ b, b ∉ S → μ' b = μ b
theorem zoff.rf {S : List zA} {μ : zM} : zoff S μ μ := fun _ _ => rfl
theorem zoff.put {S : List zA} {μ μ' : zM} (h : zoff S μ μ') {a : zA} (ha : a ∈ S) (f : Nat → Int32) : zoff S μ (st μ' a f) := fun b hb => by
  have hne : b ≠ a := by
    intro e
    rw [e] at hb
    exact hb ha
  rw [st_ne μ' f hne]
  exact h b hb
theorem zoff.at {S : List zA} {μ μ' : zM} (h : zoff S μ μ') (b : zA) (hb : b ∉ S := by simp) : μ' b = μ b := h b hb
theorem z_gen {K : zK} {d nL pc : Nat} {own : String} {cc : ByteArray} {ls sk : List zV} {μ : zM} (P : zM → Prop) (h : P μ) (k : ∀ μ', P μ' → Z K d own cc nL pc ls sk μ') : Z K d own cc nL pc ls sk μ := k μ h
theorem zoff.tr {S S' : List zA} {μ μ' μ'' : zM} (h : zoff S μ μ') (h' : zoff S' μ' μ'') (hs : ∀ a ∈ S', a ∈ S) : zoff S μ μ'' := fun b hb => (h' b (fun q => hb (hs b q))).trans (h b hb)
theorem zoff.sub {S S' : List zA} {μ μ' : zM} (h : zoff S μ μ') (hs : ∀ a ∈ S, a ∈ S') : zoff S' μ μ' := fun b hb => h b (fun q => hb (hs b q))
theorem pre_upd {f g : Nat → Int32} {i : Nat} {v : Int32} (hv : v = f i) : upd (fun j => if j < i then f j else g j) i v = fun j => if j < i + 1 then f j else g j := by
  funext j
  unfold upd
  by_cases h : j = i
  · subst h
    rw [if_pos rfl, if_pos (by omega), hv]
  · rw [if_neg h]
    show (if j < i then f j else g j) = _
    by_cases h8 : j < i
    · rw [if_pos h8, if_pos (by omega)]
    · rw [if_neg h8, if_neg (by omega)]
theorem pre_0 {f g : Nat → Int32} : (fun j => if j < 0 then f j else g j) = g := by
  funext j
  exact if_neg (by omega)
theorem pre_at {f g : Nat → Int32} {i : Nat} : (fun j => if j < i then f j else g j) i = g i := if_neg (by omega)
theorem pre_up {f : Nat → Int32} {A : Nat → Int32} {i : Nat} {v : Int32} (hv : v = f i) (h : ∀ j, j < i → A j = f j) : ∀ j, j < i + 1 → upd A i v j = f j := by
  intro j hj
  unfold upd
  by_cases e : j = i
  · rw [if_pos e, e, hv]
  · rw [if_neg e]
    exact h j (by omega)
theorem c_fill (μ : zM) (a : zA) (n : Nat) (hv : a ∈ zcells) (he : ∀ G f, zent G a f = zarI G n f) (hn : n < 5000) (v : Int32) : zCv yJ7_fill_53178 prog_9_method_103_code 4 (none : Option Jvm.ClassFile.FieldType) 1 [zR a, zI v] μ (fun μ' => μ' = st μ a (fun k => if k < n then v else μ a k)) := by
  refine zCt.of "java/util/Arrays" rfl (by decide +kernel) rfl (Nat.le_of_ble_eq_true rfl) (fun K hR => ?_)
  have loop : ∀ (f i : Nat), i ≤ n → n < i + f → Z K 1 "java/util/Arrays" prog_9_method_103_code 4 5 [zR a, zI v, zI (nI i), zI (nI n)] [] (st μ a (fun k => if k < i then v else μ a k)) := by
    intro f
    induction f with
    | zero => intro i h1 h2; exact absurd ‹_ < _ + 0› (by omega)
    | succ f ih =>
      intro i h1 h2
      refine z_iload_n dJ7_fill_53178_5 rfl rfl ?_
      refine z_iload_n dJ7_fill_53178_6 rfl rfl ?_
      refine z_icmp_ge (tgt := 20) dJ7_fill_53178_7 (by decide) (fun hb => ?_) (fun hb => ?_)
      · have hb := nle hb
        have e : i = n := by omega
        subst e
        refine z_vret hR dJ7_fill_53178_20 (⟨rfl, rfl⟩)
      · have hb := nnle hb
        refine z_aload_n dJ7_fill_53178_10 rfl rfl ?_
        refine z_iload_n dJ7_fill_53178_11 rfl rfl ?_
        refine z_iload_n dJ7_fill_53178_12 rfl rfl ?_
        refine z_iast dJ7_fill_53178_13 he rfl hb ?_ hv hn
        refine z_incS dJ7_fill_53178_14 rfl (inc1 _) (by decide) rfl ?_
        refine z_goto (tgt := 5) dJ7_fill_53178_17 (by decide) ?_
        refine z_mu ?_ (ih (i + 1) (by omega) (by omega))
        rw [st_upd]
        congr 1
        funext k
        unfold upd
        by_cases h : k = i
        · subst h
          rw [if_pos rfl, if_pos (by omega)]
        · rw [if_neg h]
          show (if k < i then v else μ a k) = _
          by_cases h3 : k < i
          · rw [if_pos h3, if_pos (by omega)]
          · rw [if_neg h3, if_neg (by omega)]
  refine z_ls (ls' := [zR a, zI v, zN, zN]) rfl ?_
  refine z_iconst (v := 0) dJ7_fill_53178_0 (by decide) ?_
  refine z_istS_n dJ7_fill_53178_1 rfl (by decide) rfl ?_
  refine z_aload_n dJ7_fill_53178_2 rfl rfl ?_
  refine z_alen dJ7_fill_53178_3 he ?_ hv
  refine z_istS_n dJ7_fill_53178_4 rfl (by decide) rfl ?_
  refine z_mu ?_ (loop (n + 1) 0 (by omega) (by omega))
  have e : (fun k => if k < 0 then v else μ a k) = μ a := by funext k; exact if_neg (by omega)
  rw [e, st_self]
/-! markers -/
theorem c_ringNow (μ : zM) (t i : Nat) (ht : t < 4) (hi : i < 6) : zCi yX0_ringNow prog_2_method_4_code 1 (some .int) 1 [zR (13, t, i)] μ (μ (13, t, i) 0 / 1000) := by
  refine zCt.of "DyeTank$Marker" rfl (by decide +kernel) rfl (Nat.le_of_ble_eq_true rfl) (fun K hR => ?_)
  have v13 := zv_13 t ht i hi
  refine z_ls (ls' := [zR (13, t, i)]) rfl ?_
  refine z_aload_n dX0_ringNow_0 rfl rfl ?_
  refine zg_X0_place dX0_ringNow_1 tw_32 ?_
  refine z_sipush (v := 1000) dX0_ringNow_4 (by decide) ?_
  refine z_idiv dX0_ringNow_7 (by decide) ?_
  refine z_iret hR dX0_ringNow_8 (⟨rfl, rfl⟩)
theorem c_putIn (μ : zM) (t i : Nat) (ht : t < 4) (hi : i < 6) (p a : Int32) : zCv yX0_putIn prog_2_method_2_code 3 (none : Option Jvm.ClassFile.FieldType) 1 [zR (13, t, i), zI p, zI a] μ (fun μ' => ∃ f, μ' = st μ (13, t, i) f ∧ f 0 = p ∧ f 1 = a ∧ f 2 = 0 ∧ f 3 = 0 ∧ f 4 = 0) := by
  refine zCt.of "DyeTank$Marker" rfl (by decide +kernel) rfl (Nat.le_of_ble_eq_true rfl) (fun K hR => ?_)
  have v13 := zv_13 t ht i hi
  refine z_ls (ls' := [zR (13, t, i), zI p, zI a]) rfl ?_
  refine z_aload_n dX0_putIn_0 rfl rfl ?_
  refine z_iload_n dX0_putIn_1 rfl rfl ?_
  refine zp_X0_place dX0_putIn_2 tw_32 ?_
  refine z_aload_n dX0_putIn_5 rfl rfl ?_
  refine z_iload_n dX0_putIn_6 rfl rfl ?_
  refine zp_X0_angle dX0_putIn_7 tw_34 ?_
  refine z_mu (st_upd _ _ _ _ _) ?_
  refine z_aload_n dX0_putIn_10 rfl rfl ?_
  refine z_iconst (v := 0) dX0_putIn_11 (by decide) ?_
  refine zp_X0_kept dX0_putIn_12 tw_36 ?_
  refine z_mu (st_upd _ _ _ _ _) ?_
  refine z_aload_n dX0_putIn_15 rfl rfl ?_
  refine z_iconst (v := 0) dX0_putIn_16 (by decide) ?_
  refine zp_X0_crossings dX0_putIn_17 tw_38 ?_
  refine z_mu (st_upd _ _ _ _ _) ?_
  refine z_aload_n dX0_putIn_20 rfl rfl ?_
  refine z_iconst (v := 0) dX0_putIn_21 (by decide) ?_
  refine zp_X0_next dX0_putIn_22 tw_40 ?_
  refine z_mu (st_upd _ _ _ _ _) ?_
  refine z_vret hR dX0_putIn_25 (⟨rfl, _, rfl, rfl, rfl, rfl, rfl, rfl⟩)
def nxt (x : Int32) : Int32 := if x < 49 then x + 1 else 0
def kp (x : Int32) : Int32 := if x + 1 < 50 then x + 1 else 50
theorem c_keepPosition (μ : zM) (t i k : Nat) (ht : t < 4) (hi : i < 6) (hk : k < 50) (hx : μ (13, t, i) 4 = nI k) : zCv yX0_keepPosition prog_2_method_6_code 1 (none : Option Jvm.ClassFile.FieldType) 1 [zR (13, t, i)] μ (fun μ' => zoff [(13, t, i), (14, t, i), (15, t, i)] μ μ' ∧ μ' (13, t, i) = upd (upd (μ (13, t, i)) 4 (nxt (nI k))) 2 (kp (μ (13, t, i) 2)) ∧ μ' (14, t, i) = upd (μ (14, t, i)) k (μ (13, t, i) 0) ∧ μ' (15, t, i) = upd (μ (15, t, i)) k (μ (13, t, i) 1)) := by
  refine zCt.of "DyeTank$Marker" rfl (by decide +kernel) rfl (Nat.le_of_ble_eq_true rfl) (fun K hR => ?_)
  have v13 := zv_13 t ht i hi
  have v14 := zv_14 t ht i hi
  have v15 := zv_15 t ht i hi
  refine z_ls (ls' := [zR (13, t, i)]) rfl ?_
  refine z_aload_n dX0_keepPosition_0 rfl rfl ?_
  refine zg_X0_places dX0_keepPosition_1 tw_41 ?_
  refine z_aload_n dX0_keepPosition_4 rfl rfl ?_
  refine zg_X0_next dX0_keepPosition_5 tw_40 ?_
  refine z_top (hx) ?_
  refine z_aload_n dX0_keepPosition_8 rfl rfl ?_
  refine zg_X0_place dX0_keepPosition_9 tw_32 ?_
  refine z_iast dX0_keepPosition_12 (fun _ _ => rfl) rfl hk ?_
  refine z_aload_n dX0_keepPosition_13 rfl rfl ?_
  refine zg_X0_angles dX0_keepPosition_14 tw_42 ?_
  refine z_aload_n dX0_keepPosition_17 rfl rfl ?_
  refine zg_X0_next dX0_keepPosition_18 tw_40 ?_
  refine z_top ((show _ = nI k by simp [st, hx])) ?_
  refine z_aload_n dX0_keepPosition_21 rfl rfl ?_
  refine zg_X0_angle dX0_keepPosition_22 tw_34 ?_
  refine z_iast dX0_keepPosition_25 (fun _ _ => rfl) rfl hk ?_
  refine z_gen (fun μ' => zoff [(14, t, i), (15, t, i)] μ μ' ∧ μ' (14, t, i) = upd (μ (14, t, i)) k (μ (13, t, i) 0) ∧ μ' (15, t, i) = upd (μ (15, t, i)) k (μ (13, t, i) 1)) ⟨(zoff.rf.put (by simp) _).put (by simp) _, by simp [st], by simp [st]⟩ (fun μ2 hh => ?_)
  obtain ⟨ho, h14, h15⟩ := hh
  have h13 := ho.at (13, t, i)
  have fin : ∀ v, v = nxt (nI k) → Z K 1 "DyeTank$Marker" prog_2_method_6_code 1 46 [zR (13, t, i)] [zI v, zR (13, t, i)] μ2 := by
    intro v hv
    refine zp_X0_next dX0_keepPosition_46 tw_40 ?_
    refine z_aload_n dX0_keepPosition_49 rfl rfl ?_
    refine z_bipush (v := 50) dX0_keepPosition_50 (by decide) ?_
    refine z_aload_n dX0_keepPosition_52 rfl rfl ?_
    refine zg_X0_kept dX0_keepPosition_53 tw_36 ?_
    refine z_top ((show _ = μ (13, t, i) 2 by simp [st, upd, h13])) ?_
    refine z_iconst (v := 1) dX0_keepPosition_56 (by decide) ?_
    refine z_iadd dX0_keepPosition_57 ?_
    refine z_mmin dX0_keepPosition_58 tw_321 ⟨by omega, Nat.le_of_ble_eq_true rfl⟩ ?_
    refine zp_X0_kept dX0_keepPosition_61 tw_36 ?_
    refine z_vret hR dX0_keepPosition_64 (⟨rfl, ((ho.sub (by simp)).put (by simp) _).put (by simp) _, by rw [hv, ← h13]; simp [st, kp], by simp [st, h14], by simp [st, h15]⟩)
  have h134 : μ2 (13, t, i) 4 = nI k := by rw [h13]; exact hx
  refine z_aload_n dX0_keepPosition_26 rfl rfl ?_
  refine z_aload_n dX0_keepPosition_27 rfl rfl ?_
  refine zg_X0_next dX0_keepPosition_28 tw_40 ?_
  refine z_top (h134) ?_
  refine z_bipush (v := 49) dX0_keepPosition_31 (by decide) ?_
  refine z_icmp_ge (tgt := 45) dX0_keepPosition_33 (by decide) (fun hb => ?_) (fun hb => ?_)
  · refine z_iconst (v := 0) dX0_keepPosition_45 (by decide) ?_
    exact fin 0 (by unfold nxt; rw [if_neg (by rw [Int32.not_lt]; exact hb)])
  · refine z_aload_n dX0_keepPosition_36 rfl rfl ?_
    refine zg_X0_next dX0_keepPosition_37 tw_40 ?_
    refine z_top (h134) ?_
    refine z_iconst (v := 1) dX0_keepPosition_40 (by decide) ?_
    refine z_iadd dX0_keepPosition_41 ?_
    refine z_goto (tgt := 46) dX0_keepPosition_42 (by decide) ?_
    exact fin _ (by unfold nxt; rw [if_pos (Int32.not_le.mp hb)])
/-- a step of a marker: its ring's velocity and push -/
def mvp (last p x : Int32) : Int32 := if 0 < (if p + x < last then p + x else last) then (if p + x < last then p + x else last) else 0
theorem c_move (μ : zM) (t i k : Nat) (ht : t < 4) (hi : i < 6) (hk : k < 50) (hx : μ (13, t, i) 4 = nI k) (v x last : Int32) : zCv yX0_move prog_2_method_5_code 5 (none : Option Jvm.ClassFile.FieldType) 2 [zR (13, t, i), zI v, zI x, zI last] μ (fun μ' => zoff [(13, t, i), (14, t, i), (15, t, i)] μ μ' ∧ μ' (13, t, i) 0 = mvp last (μ (13, t, i) 0) x ∧ μ' (13, t, i) 1 = fmd (μ (13, t, i) 1 + v) 3600 ∧ μ' (13, t, i) 2 = kp (μ (13, t, i) 2) ∧ μ' (13, t, i) 3 = (if mvp last (μ (13, t, i) 0) x / 1000 = μ (13, t, i) 0 / 1000 then μ (13, t, i) 3 else μ (13, t, i) 3 + 1) ∧ μ' (13, t, i) 4 = nxt (nI k) ∧ μ' (14, t, i) = upd (μ (14, t, i)) k (mvp last (μ (13, t, i) 0) x) ∧ μ' (15, t, i) = upd (μ (15, t, i)) k (fmd (μ (13, t, i) 1 + v) 3600)) := by
  refine zCt.of "DyeTank$Marker" rfl (by decide +kernel) rfl (Nat.le_of_ble_eq_true rfl) (fun K hR => ?_)
  have v13 := zv_13 t ht i hi
  have v14 := zv_14 t ht i hi
  have v15 := zv_15 t ht i hi
  refine z_ls (ls' := [zR (13, t, i), zI v, zI x, zI last, zN]) rfl ?_
  refine z_aload_n dX0_move_0 rfl rfl ?_
  refine z_cVi (c_ringNow μ t i ht hi) q_X0_ringNow tw_319 dX0_move_1 rfl rfl rfl (by omega) (Nat.le_of_ble_eq_true rfl) ?_
  refine z_istS dX0_move_4 (by decide) rfl ?_
  refine z_aload_n dX0_move_6 rfl rfl ?_
  refine z_aload_n dX0_move_7 rfl rfl ?_
  refine zg_X0_angle dX0_move_8 tw_34 ?_
  refine z_iload_n dX0_move_11 rfl rfl ?_
  refine z_iadd dX0_move_12 ?_
  refine z_sipush (v := 3600) dX0_move_13 (by decide) ?_
  refine z_cSi (c_floorMod μ _ _ (by decide)) q_J9_floorMod_7cf53 tw_320 dX0_move_16 rfl rfl (by omega) (Nat.le_of_ble_eq_true rfl) ?_
  refine zp_X0_angle dX0_move_19 tw_34 ?_
  refine z_aload_n dX0_move_22 rfl rfl ?_
  refine z_iconst (v := 0) dX0_move_23 (by decide) ?_
  refine z_iload_n dX0_move_24 rfl rfl ?_
  refine z_aload_n dX0_move_25 rfl rfl ?_
  refine zg_X0_place dX0_move_26 tw_32 ?_
  refine z_top ((show _ = μ (13, t, i) 0 by simp [st, upd])) ?_
  refine z_iload_n dX0_move_29 rfl rfl ?_
  refine z_iadd dX0_move_30 ?_
  refine z_mmin dX0_move_31 tw_321 ⟨by omega, Nat.le_of_ble_eq_true rfl⟩ ?_
  refine z_mmax dX0_move_34 tw_322 ⟨by omega, Nat.le_of_ble_eq_true rfl⟩ ?_
  refine zp_X0_place dX0_move_37 tw_32 ?_
  refine z_gen (fun μ' => ∃ g, μ' = st μ (13, t, i) g ∧ g 0 = mvp last (μ (13, t, i) 0) x ∧ g 1 = fmd (μ (13, t, i) 1 + v) 3600 ∧ g 2 = μ (13, t, i) 2 ∧ g 3 = μ (13, t, i) 3 ∧ g 4 = nI k) ⟨_, st_upd _ _ _ _ _, rfl, rfl, rfl, rfl, hx⟩ (fun μ1 hh => ?_)
  obtain ⟨g, rfl, g0, g1, g2, g3, g4⟩ := hh
  have fin : ∀ g', g' 0 = g 0 → g' 1 = g 1 → g' 2 = g 2 → g' 4 = g 4 → g' 3 = (if mvp last (μ (13, t, i) 0) x / 1000 = μ (13, t, i) 0 / 1000 then μ (13, t, i) 3 else μ (13, t, i) 3 + 1) → Z K 2 "DyeTank$Marker" prog_2_method_5_code 5 59 [zR (13, t, i), zI v, zI x, zI last, zI (μ (13, t, i) 0 / 1000)] [] (st μ (13, t, i) g') := by
    intro g' e0 e1 e2 e4 e3
    refine z_aload_n dX0_move_59 rfl rfl ?_
    refine z_cVv (c_keepPosition (st μ (13, t, i) g') t i k ht hi hk (by rw [st_eq, e4, g4])) q_X0_keepPosition tw_323 dX0_move_60 rfl rfl rfl (by omega) (Nat.le_of_ble_eq_true rfl) (fun μ2 hh => ?_)
    obtain ⟨ho, h13, h14, h15⟩ := hh
    have e14 : st μ (13, t, i) g' (14, t, i) = μ (14, t, i) := st_ne _ _ (by simp)
    have e15 : st μ (13, t, i) g' (15, t, i) = μ (15, t, i) := st_ne _ _ (by simp)
    rw [st_eq] at h13 h14 h15
    rw [e14] at h14
    rw [e15] at h15
    refine z_vret hR dX0_move_63 (⟨rfl, zoff.tr (zoff.rf.put (by simp) _) ho (by simp), by rw [h13]; simp [upd, e0, g0], by rw [h13]; simp [upd, e1, g1], by rw [h13]; simp [upd, e2, g2], by rw [h13]; simp [upd, e3], by rw [h13]; simp [upd], by rw [h14, e0, g0], by rw [h15, e1, g1]⟩)
  refine z_aload_n dX0_move_40 rfl rfl ?_
  refine z_cVi (c_ringNow _ t i ht hi) q_X0_ringNow tw_319 dX0_move_41 rfl rfl rfl (by omega) (Nat.le_of_ble_eq_true rfl) ?_
  refine z_top ((show _ = mvp last (μ (13, t, i) 0) x / 1000 by rw [st_eq, g0])) ?_
  refine z_iload dX0_move_44 rfl ?_
  refine z_icmp_eq (tgt := 59) dX0_move_46 (by decide) (fun hb => ?_) (fun hb => ?_)
  · exact fin g rfl rfl rfl rfl (by rw [g3, if_pos hb])
  · refine z_aload_n dX0_move_49 rfl rfl ?_
    refine z_dup dX0_move_50 rfl ?_
    refine zg_X0_crossings dX0_move_51 tw_38 ?_
    refine z_iconst (v := 1) dX0_move_54 (by decide) ?_
    refine z_iadd dX0_move_55 ?_
    refine zp_X0_crossings dX0_move_56 tw_38 ?_
    refine z_mu (st_upd _ _ _ _ _) ?_
    exact fin _ rfl rfl rfl rfl (by rw [if_neg hb]; show st μ (13, t, i) g (13, t, i) 3 + 1 = _; rw [st_eq, g3])
theorem c_isNear (μ : zM) (t i j : Nat) (ht : t < 4) (hi : i < 6) (hj : j < 6) (near : Int32) : zCi yX0_isNear prog_2_method_9_code 4 (some .boolean) 2 [zR (13, t, i), zR (13, t, j), zI near] μ (zb (μ (13, t, i) 0 / 1000 = μ (13, t, j) 0 / 1000 ∧ (if 3600 - absI (μ (13, t, i) 1 - μ (13, t, j) 1) < absI (μ (13, t, i) 1 - μ (13, t, j) 1) then 3600 - absI (μ (13, t, i) 1 - μ (13, t, j) 1) else absI (μ (13, t, i) 1 - μ (13, t, j) 1)) ≤ near)) := by
  refine zCt.of "DyeTank$Marker" rfl (by decide +kernel) rfl (Nat.le_of_ble_eq_true rfl) (fun K hR => ?_)
  have v13 := zv_13 t ht i hi
  have v13b := zv_13 t ht j hj
  refine z_ls (ls' := [zR (13, t, i), zR (13, t, j), zI near, zN]) rfl ?_
  refine z_aload_n dX0_isNear_0 rfl rfl ?_
  refine zg_X0_angle dX0_isNear_1 tw_34 ?_
  refine z_aload_n dX0_isNear_4 rfl rfl ?_
  refine zg_X0_angle dX0_isNear_5 tw_34 ?_
  refine z_isub dX0_isNear_8 ?_
  refine z_mabs dX0_isNear_9 tw_445 ⟨by omega, Nat.le_of_ble_eq_true rfl⟩ ?_
  refine z_istS_n dX0_isNear_12 rfl (by decide) rfl ?_
  refine z_aload_n dX0_isNear_13 rfl rfl ?_
  refine z_cVi (c_ringNow _ t i ht hi) q_X0_ringNow tw_319 dX0_isNear_14 rfl rfl rfl (by omega) (Nat.le_of_ble_eq_true rfl) ?_
  refine z_aload_n dX0_isNear_17 rfl rfl ?_
  refine z_cVi (c_ringNow _ t j ht hj) q_X0_ringNow tw_319 dX0_isNear_18 rfl rfl rfl (by omega) (Nat.le_of_ble_eq_true rfl) ?_
  refine z_icmp_ne (tgt := 41) dX0_isNear_21 (by decide) (fun h1 => ?_) (fun h1 => ?_)
  · refine z_iconst (v := 0) dX0_isNear_41 (by decide) ?_
    refine z_bret hR dX0_isNear_42 (Or.inl rfl) ⟨rfl, by rw [zb_f (fun q => h1 q.1)]⟩
  · refine z_iload_n dX0_isNear_24 rfl rfl ?_
    refine z_sipush (v := 3600) dX0_isNear_25 (by decide) ?_
    refine z_iload_n dX0_isNear_28 rfl rfl ?_
    refine z_isub dX0_isNear_29 ?_
    refine z_mmin dX0_isNear_30 tw_321 ⟨by omega, Nat.le_of_ble_eq_true rfl⟩ ?_
    refine z_iload_n dX0_isNear_33 rfl rfl ?_
    refine z_icmp_gt (tgt := 41) dX0_isNear_34 (by decide) (fun h2 => ?_) (fun h2 => ?_)
    · refine z_iconst (v := 0) dX0_isNear_41 (by decide) ?_
      refine z_bret hR dX0_isNear_42 (Or.inl rfl) ⟨rfl, by rw [zb_f (fun q => absurd q.2 (Int32.not_le.mpr h2))]⟩
    · refine z_iconst (v := 1) dX0_isNear_37 (by decide) ?_
      refine z_goto (tgt := 42) dX0_isNear_38 (by decide) ?_
      refine z_bret hR dX0_isNear_42 (Or.inr rfl) ⟨rfl, by rw [zb_t ⟨h1, Int32.not_lt.mp h2⟩]⟩
