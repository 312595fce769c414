/-! DyeTankModel() -/
def mdL : List zA := [(20, 0, 0), (21, 0, 0), (22, 0, 0), (23, 0, 0), (24, 0, 0), (25, 0, 0), (26, 0, 0), (27, 0, 0), (28, 0, 0)]
def mdG (gs : zA → Nat) (L : List Nat) (a : zA) : Nat := if a.1 < 40 then L.getD (a.1 - 20) 0 else gs a
def mdNew : va_E := .inr (4, [.null, .null, .null, .null, .null, .null, .null, .int 0, .int 0, .int 0, .null, .int 0])
def M0 (μ : zM) : Prop := (∀ k, k < 2386 → μ (21, 0, 0) k = beg 6 k) ∧ (∀ k, μ (20, 0, 0) k = 0) ∧ ∀ k, μ (24, 0, 0) k = 0
set_option maxHeartbeats 4000000 in
set_option maxRecDepth 100000 in
theorem k_Model (a : Nat) : nCt yX4_init prog_6_method_1_code 1 2 8 11538 mdNew a (fun G ws => ∃ (g : zA → Nat) (μ : zM), g (20, 0, 0) = a ∧ M0 μ ∧ ws = yws mdL (g, G.2) μ) := by
  refine nCt.of "DyeTankModel" rfl rfl (by decide +kernel) (by omega) (fun K hN hR => ?_)
  refine n_aload dX4_init_0 rfl 0 rfl ?_
  refine n_obj tw_547 dX4_init_1 (by omega) ?_
  refine n_aload dX4_init_4 rfl 0 rfl ?_
  refine n_sipush (v := 2386) dX4_init_5 (by decide) ?_
  refine n_newI (N := 2386) dX4_init_8 rfl (by omega) (by omega) (by omega) (fun q21 => ?_)
  refine n_putF (i := 0) (q0 := 0) (ty := .array .int) zin4 tyX4 tyX4_ok nmX4 rfl hN rfl (by decide) rfl rfl rfl rfl rfl (Nat.le_of_ble_eq_true rfl) tw_552 dX4_init_10 ?_
  refine n_ws (ws' := [(a, .inr (4, [.ref q21, .null, .null, .null, .null, .null, .null, .int 0, .int 0, .int 0, .null, .int 0])), (q21, zarI K.1 2386 (fun _ => 0))]) rfl ?_
  refine n_aload dX4_init_13 rfl 0 rfl ?_
  refine n_sipush (v := 2386) dX4_init_14 (by decide) ?_
  refine n_newI (N := 2386) dX4_init_17 rfl (by omega) (by omega) (by omega) (fun q22 => ?_)
  refine n_putF (i := 1) (q0 := 0) (ty := .array .int) zin4 tyX4 tyX4_ok nmX4 rfl hN rfl (by decide) rfl rfl rfl rfl rfl (Nat.le_of_ble_eq_true rfl) tw_553 dX4_init_19 ?_
  refine n_ws (ws' := [(a, .inr (4, [.ref q21, .ref q22, .null, .null, .null, .null, .null, .int 0, .int 0, .int 0, .null, .int 0])), (q21, zarI K.1 2386 (fun _ => 0)), (q22, zarI K.1 2386 (fun _ => 0))]) rfl ?_
  refine n_aload dX4_init_22 rfl 0 rfl ?_
  refine n_sipush (v := 4772) dX4_init_23 (by decide) ?_
  refine n_newI (N := 4772) dX4_init_26 rfl (by omega) (by omega) (by omega) (fun q23 => ?_)
  refine n_putF (i := 2) (q0 := 0) (ty := .array .int) zin4 tyX4 tyX4_ok nmX4 rfl hN rfl (by decide) rfl rfl rfl rfl rfl (Nat.le_of_ble_eq_true rfl) tw_554 dX4_init_28 ?_
  refine n_ws (ws' := [(a, .inr (4, [.ref q21, .ref q22, .ref q23, .null, .null, .null, .null, .int 0, .int 0, .int 0, .null, .int 0])), (q21, zarI K.1 2386 (fun _ => 0)), (q22, zarI K.1 2386 (fun _ => 0)), (q23, zarI K.1 4772 (fun _ => 0))]) rfl ?_
  refine n_aload dX4_init_31 rfl 0 rfl ?_
  refine n_iconst (v := 2) dX4_init_32 (by decide) ?_
  refine n_newZ (N := 2) dX4_init_33 rfl (by omega) (by omega) (by omega) (fun q24 => ?_)
  refine n_putF (i := 3) (q0 := 0) (ty := .array .boolean) zin4 tyX4 tyX4_ok nmX4 rfl hN rfl (by decide) rfl rfl rfl rfl rfl (Nat.le_of_ble_eq_true rfl) tw_555 dX4_init_35 ?_
  refine n_ws (ws' := [(a, .inr (4, [.ref q21, .ref q22, .ref q23, .ref q24, .null, .null, .null, .int 0, .int 0, .int 0, .null, .int 0])), (q21, zarI K.1 2386 (fun _ => 0)), (q22, zarI K.1 2386 (fun _ => 0)), (q23, zarI K.1 4772 (fun _ => 0)), (q24, .inl (K.1.2.2 1, 2, .inl (fun _ => 0)))]) rfl ?_
  refine n_aload dX4_init_38 rfl 0 rfl ?_
  refine n_sipush (v := 1728) dX4_init_39 (by decide) ?_
  refine n_newI (N := 1728) dX4_init_42 rfl (by omega) (by omega) (by omega) (fun q25 => ?_)
  refine n_putF (i := 4) (q0 := 0) (ty := .array .int) zin4 tyX4 tyX4_ok nmX4 rfl hN rfl (by decide) rfl rfl rfl rfl rfl (Nat.le_of_ble_eq_true rfl) tw_556 dX4_init_44 ?_
  refine n_ws (ws' := [(a, .inr (4, [.ref q21, .ref q22, .ref q23, .ref q24, .ref q25, .null, .null, .int 0, .int 0, .int 0, .null, .int 0])), (q21, zarI K.1 2386 (fun _ => 0)), (q22, zarI K.1 2386 (fun _ => 0)), (q23, zarI K.1 4772 (fun _ => 0)), (q24, .inl (K.1.2.2 1, 2, .inl (fun _ => 0))), (q25, zarI K.1 1728 (fun _ => 0))]) rfl ?_
  refine n_aload dX4_init_47 rfl 0 rfl ?_
  refine n_bipush (v := 12) dX4_init_48 (by decide) ?_
  refine n_newI (N := 12) dX4_init_50 rfl (by omega) (by omega) (by omega) (fun q26 => ?_)
  refine n_putF (i := 5) (q0 := 0) (ty := .array .int) zin4 tyX4 tyX4_ok nmX4 rfl hN rfl (by decide) rfl rfl rfl rfl rfl (Nat.le_of_ble_eq_true rfl) tw_557 dX4_init_52 ?_
  refine n_ws (ws' := [(a, .inr (4, [.ref q21, .ref q22, .ref q23, .ref q24, .ref q25, .ref q26, .null, .int 0, .int 0, .int 0, .null, .int 0])), (q21, zarI K.1 2386 (fun _ => 0)), (q22, zarI K.1 2386 (fun _ => 0)), (q23, zarI K.1 4772 (fun _ => 0)), (q24, .inl (K.1.2.2 1, 2, .inl (fun _ => 0))), (q25, zarI K.1 1728 (fun _ => 0)), (q26, zarI K.1 12 (fun _ => 0))]) rfl ?_
  refine n_aload dX4_init_55 rfl 0 rfl ?_
  refine n_bipush (v := 60) dX4_init_56 (by decide) ?_
  refine n_newI (N := 60) dX4_init_58 rfl (by omega) (by omega) (by omega) (fun q27 => ?_)
  refine n_putF (i := 6) (q0 := 0) (ty := .array .int) zin4 tyX4 tyX4_ok nmX4 rfl hN rfl (by decide) rfl rfl rfl rfl rfl (Nat.le_of_ble_eq_true rfl) tw_558 dX4_init_60 ?_
  refine n_ws (ws' := [(a, .inr (4, [.ref q21, .ref q22, .ref q23, .ref q24, .ref q25, .ref q26, .ref q27, .int 0, .int 0, .int 0, .null, .int 0])), (q21, zarI K.1 2386 (fun _ => 0)), (q22, zarI K.1 2386 (fun _ => 0)), (q23, zarI K.1 4772 (fun _ => 0)), (q24, .inl (K.1.2.2 1, 2, .inl (fun _ => 0))), (q25, zarI K.1 1728 (fun _ => 0)), (q26, zarI K.1 12 (fun _ => 0)), (q27, zarI K.1 60 (fun _ => 0))]) rfl ?_
  refine n_aload dX4_init_63 rfl 0 rfl ?_
  refine n_sipush (v := 192) dX4_init_64 (by decide) ?_
  refine n_newI (N := 192) dX4_init_67 rfl (by omega) (by omega) (by omega) (fun q28 => ?_)
  refine n_putF (i := 10) (q0 := 0) (ty := .array .int) zin4 tyX4 tyX4_ok nmX4 rfl hN rfl (by decide) rfl rfl rfl rfl rfl (Nat.le_of_ble_eq_true rfl) tw_562 dX4_init_69 ?_
  refine n_ws (ws' := [(a, .inr (4, [.ref q21, .ref q22, .ref q23, .ref q24, .ref q25, .ref q26, .ref q27, .int 0, .int 0, .int 0, .ref q28, .int 0])), (q21, zarI K.1 2386 (fun _ => 0)), (q22, zarI K.1 2386 (fun _ => 0)), (q23, zarI K.1 4772 (fun _ => 0)), (q24, .inl (K.1.2.2 1, 2, .inl (fun _ => 0))), (q25, zarI K.1 1728 (fun _ => 0)), (q26, zarI K.1 12 (fun _ => 0)), (q27, zarI K.1 60 (fun _ => 0)), (q28, zarI K.1 192 (fun _ => 0))]) rfl ?_
  refine n_aload dX4_init_72 rfl 0 rfl ?_
  refine n_bipush (v := 6) dX4_init_73 (by decide) ?_
  obtain ⟨L, hL⟩ : ∃ L : List Nat, L = [a, q21, q22, q23, q24, q25, q26, q27, q28] := ⟨_, rfl⟩
  refine n_ws (ws' := [] ++ yws mdL (mdG K.1.1 L, K.1.2) (fun _ _ => 0)) (by subst hL; rfl) ?_
  refine n_callY (a := (20, 0, 0)) (av := [zI 6]) q_X4_begin tw_548 dX4_init_75 rfl rfl (by subst hL; rfl) (by omega) (Nat.le_of_ble_eq_true rfl) (by decide +kernel) (by decide) (fun k hk => by rcases hk with rfl | rfl | rfl <;> rfl) (y_begin _ (by decide) (by decide) 6) (fun μ' hh => ?_) (by omega) (by omega)
  obtain ⟨f, rfl, hf⟩ := hh
  refine n_vret hR dX4_init_78 rfl rfl ⟨mdG K.1.1 L, _, by subst hL; rfl, ⟨fun k hk => ?_, fun k => ?_, fun k => ?_⟩, rfl⟩
  · rw [st_eq]
    exact hf k hk
  · rw [st_ne _ _ (by decide)]
  · rw [st_ne _ _ (by decide)]
