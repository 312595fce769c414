/-! DyeTank() -/
section NSWAP
variable {K : nK} {d mc ms nL pc : Nat} {own : String} {cc : ByteArray} {ls : List (Nat × Value)} {sk : List Value} {ce sl : Nat}
theorem n_swap {wa wb wc : va_W} (k : Nn K d mc ms own cc nL pc ls sk ((wa ++ wc) ++ wb) ce sl) : Nn K d mc ms own cc nL pc ls sk ((wa ++ wb) ++ wc) ce sl := by
  obtain ⟨G, p, l, e, R, s, m, args, below, meth, c, A, Q⟩ := K
  intro F H locs la hP hD hS hl
  exact k F H locs la hP.swap hD.swap hS hl
end NSWAP
def tkL : List zA := tkR ++ tkW
def dtNew : va_E := .inr (3, [.null, .null, .null, .null, .null])
def dtEnt (G : zG) (a qs qb qp qt : Nat) (g1 g2 g3 g4 : zA → Nat) (μ1 μ2 μ3 μ4 : zM) : va_W := ((([(a, .inr (3, [.ref (g1 (5, 0, 0)), .ref (g2 (5, 0, 0)), .ref qs, .ref qb, .ref qp])), (qs, .inl (G.2.2 3, 2, .inr (.inr (.inr (.inr (va_up (va_up (fun _ => none) 0 (some (g3 (5, 0, 0)))) 1 (some (g4 (5, 0, 0)))))))))] ++ yws tkL (g4, G.2) μ4) ++ (yws tkL (g3, G.2) μ3 ++ (yws tkL (g1, G.2) μ1 ++ yws tkL (g2, G.2) μ2))) ++ [(qb, .inl (G.2.2 1, 2, .inl (fun _ => 0)))]) ++ pdEnt G qp qt
set_option maxHeartbeats 4000000 in
set_option maxRecDepth 100000 in
theorem k_DyeTank (a : Nat) : nCt yX3_init prog_1_method_1_code 2 4 128 12173 dtNew a (fun G ws => ∃ (qs qb qp qt : Nat) (g1 g2 g3 g4 : zA → Nat) (μ1 μ2 μ3 μ4 : zM), T0 μ1 0 ∧ T0 μ2 0 ∧ T0 μ3 0 ∧ T0 μ4 0 ∧ ws = dtEnt G a qs qb qp qt g1 g2 g3 g4 μ1 μ2 μ3 μ4) := by
  refine nCt.of "DyeTank" rfl rfl (by decide +kernel) (by omega) (fun K hN hR => ?_)
  refine n_aload dX3_init_0 rfl 0 rfl ?_
  refine n_obj tw_13 dX3_init_1 (by omega) ?_
  refine n_aload dX3_init_4 rfl 0 rfl ?_
  refine n_new (fs := [.int 0, .int 0, .int 0, .null, .null, .null, .null, .null, .null, .null, .null, .null]) zin2 tyX2 tyX2_ok (ci := 2) rfl tw_16 tw_17 tw_2 (fun j hj => by rcases (show j = 0 ∨ j = 1 ∨ j = 2 ∨ j = 3 ∨ j = 4 ∨ j = 5 ∨ j = 6 ∨ j = 7 ∨ j = 8 ∨ j = 9 ∨ j = 10 ∨ j = 11 by omega) with rfl | rfl | rfl | rfl | rfl | rfl | rfl | rfl | rfl | rfl | rfl | rfl <;> rfl) (by omega) (by omega) dX3_init_5 (fun q1 => ?_)
  refine n_dup dX3_init_8 ?_
  refine n_init (ob := tkNew) (wr := [(a, .inr (3, [.null, .null, .null, .null, .null]))]) ⟨q_X2_init, rfl, tw_19⟩ tw_18 dX3_init_9 (k_Tank q1) (by omega) (by omega) (by omega) (Nat.le_of_ble_eq_true rfl) (fun ws1 hw => ?_)
  obtain ⟨g1, μ1, rfl, hT1, rfl⟩ := hw
  refine n_putF (i := 0) (q0 := 0) (ty := .object "DyeTank$Tank") zin3 tyX3 tyX3_ok nmX3 rfl hN rfl (by decide) rfl rfl rfl rfl rfl (Nat.le_of_ble_eq_true rfl) tw_161 dX3_init_12 ?_
  refine n_ws (ws' := ([(a, .inr (3, [.ref (g1 (5, 0, 0)), .null, .null, .null, .null]))] : va_W) ++ yws tkL (g1, K.1.2) μ1) rfl ?_
  refine n_aload dX3_init_15 rfl 0 rfl ?_
  refine n_new (fs := [.int 0, .int 0, .int 0, .null, .null, .null, .null, .null, .null, .null, .null, .null]) zin2 tyX2 tyX2_ok (ci := 2) rfl tw_16 tw_17 tw_2 (fun j hj => by rcases (show j = 0 ∨ j = 1 ∨ j = 2 ∨ j = 3 ∨ j = 4 ∨ j = 5 ∨ j = 6 ∨ j = 7 ∨ j = 8 ∨ j = 9 ∨ j = 10 ∨ j = 11 by omega) with rfl | rfl | rfl | rfl | rfl | rfl | rfl | rfl | rfl | rfl | rfl | rfl <;> rfl) (by omega) (by omega) dX3_init_16 (fun q2 => ?_)
  refine n_dup dX3_init_19 ?_
  refine n_init (ob := tkNew) (wr := ([(a, .inr (3, [.ref (g1 (5, 0, 0)), .null, .null, .null, .null]))] : va_W) ++ yws tkL (g1, K.1.2) μ1) ⟨q_X2_init, rfl, tw_19⟩ tw_18 dX3_init_20 (k_Tank q2) (by omega) (by omega) (by omega) (Nat.le_of_ble_eq_true rfl) (fun ws1 hw => ?_)
  obtain ⟨g2, μ2, rfl, hT2, rfl⟩ := hw
  refine n_putF (i := 1) (q0 := 0) (ty := .object "DyeTank$Tank") zin3 tyX3 tyX3_ok nmX3 rfl hN rfl (by decide) rfl rfl rfl rfl rfl (Nat.le_of_ble_eq_true rfl) tw_162 dX3_init_23 ?_
  refine n_ws (ws' := (([(a, .inr (3, [.ref (g1 (5, 0, 0)), .ref (g2 (5, 0, 0)), .null, .null, .null]))] : va_W) ++ yws tkL (g1, K.1.2) μ1) ++ yws tkL (g2, K.1.2) μ2) rfl ?_
  refine n_aload dX3_init_26 rfl 0 rfl ?_
  refine n_iconst (v := 2) dX3_init_27 (by decide) ?_
  refine n_newT (N := 2) tw_16 dX3_init_28 rfl (by omega) (by omega) (by omega) (fun qs => ?_)
  refine n_putF (i := 2) (q0 := 0) (ty := .array (.object "DyeTank$Tank")) zin3 tyX3 tyX3_ok nmX3 rfl hN rfl (by decide) rfl rfl rfl rfl rfl (Nat.le_of_ble_eq_true rfl) tw_163 dX3_init_31 ?_
  refine n_ws (ws' := ((([(a, .inr (3, [.ref (g1 (5, 0, 0)), .ref (g2 (5, 0, 0)), .ref qs, .null, .null]))] : va_W) ++ yws tkL (g1, K.1.2) μ1) ++ yws tkL (g2, K.1.2) μ2) ++ [(qs, .inl (K.1.2.2 3, 2, .inr (.inr (.inr (.inr (fun _ => none))))))]) rfl ?_
  refine n_ws (ws' := (([(a, .inr (3, [.ref (g1 (5, 0, 0)), .ref (g2 (5, 0, 0)), .ref qs, .null, .null]))] : va_W) ++ (yws tkL (g1, K.1.2) μ1 ++ yws tkL (g2, K.1.2) μ2)) ++ [(qs, .inl (K.1.2.2 3, 2, .inr (.inr (.inr (.inr (fun _ => none))))))]) (by rw [List.append_assoc [_]]) ?_
  refine n_swap ?_
  refine n_ws (ws' := ([(a, .inr (3, [.ref (g1 (5, 0, 0)), .ref (g2 (5, 0, 0)), .ref qs, .null, .null])), (qs, .inl (K.1.2.2 3, 2, .inr (.inr (.inr (.inr (fun _ => none))))))] : va_W) ++ (yws tkL (g1, K.1.2) μ1 ++ yws tkL (g2, K.1.2) μ2)) rfl ?_
  refine n_iconst (v := 0) dX3_init_34 (by decide) ?_
  refine n_istore1 dX3_init_35 (by decide) (Or.inl rfl) ?_
  refine n_iload dX3_init_36 rfl 0 rfl ?_
  refine n_iconst (v := 2) dX3_init_37 (by decide) ?_
  refine n_geF (off := 22) (tgt := 60) dX3_init_38 (by decide) (by decide) ?_
  refine n_aload dX3_init_41 rfl 1 rfl ?_
  refine n_getA (i := 2) (q0 := 0) zin3 rfl rfl (by decide) rfl tw_163 dX3_init_42 ?_
  refine n_iload dX3_init_45 rfl 0 rfl ?_
  refine n_new (fs := [.int 0, .int 0, .int 0, .null, .null, .null, .null, .null, .null, .null, .null, .null]) zin2 tyX2 tyX2_ok (ci := 2) rfl tw_16 tw_17 tw_2 (fun j hj => by rcases (show j = 0 ∨ j = 1 ∨ j = 2 ∨ j = 3 ∨ j = 4 ∨ j = 5 ∨ j = 6 ∨ j = 7 ∨ j = 8 ∨ j = 9 ∨ j = 10 ∨ j = 11 by omega) with rfl | rfl | rfl | rfl | rfl | rfl | rfl | rfl | rfl | rfl | rfl | rfl <;> rfl) (by omega) (by omega) dX3_init_46 (fun q3 => ?_)
  refine n_dup dX3_init_49 ?_
  refine n_init (ob := tkNew) (wr := ([(a, .inr (3, [.ref (g1 (5, 0, 0)), .ref (g2 (5, 0, 0)), .ref qs, .null, .null])), (qs, .inl (K.1.2.2 3, 2, .inr (.inr (.inr (.inr (fun _ => none))))))] : va_W) ++ (yws tkL (g1, K.1.2) μ1 ++ yws tkL (g2, K.1.2) μ2)) ⟨q_X2_init, rfl, tw_19⟩ tw_18 dX3_init_50 (k_Tank q3) (by omega) (by omega) (by omega) (Nat.le_of_ble_eq_true rfl) (fun ws1 hw => ?_)
  obtain ⟨g3, μ3, rfl, hT3, rfl⟩ := hw
  refine n_swap ?_
  refine n_ast (q0 := 1) (qk := 24) (t0 := 3) (ci := 2) (r := (RX2, TX2, 12)) (j := 0) rfl rfl rfl rfl (by decide) (by decide) (by decide) dX3_init_53 ?_
  refine n_ws (ws' := (([(a, .inr (3, [.ref (g1 (5, 0, 0)), .ref (g2 (5, 0, 0)), .ref qs, .null, .null])), (qs, .inl (K.1.2.2 3, 2, .inr (.inr (.inr (.inr (va_up (fun _ => none) 0 (some (g3 (5, 0, 0)))))))))] : va_W) ++ yws tkL (g3, K.1.2) μ3) ++ (yws tkL (g1, K.1.2) μ1 ++ yws tkL (g2, K.1.2) μ2)) rfl ?_
  refine n_iinc1 (v := 1) dX3_init_54 (by decide) (by decide) ?_
  refine n_goto (tgt := 36) dX3_init_57 (by decide) ?_
  refine n_iload dX3_init_36 rfl 0 rfl ?_
  refine n_iconst (v := 2) dX3_init_37 (by decide) ?_
  refine n_geF (off := 22) (tgt := 60) dX3_init_38 (by decide) (by decide) ?_
  refine n_aload dX3_init_41 rfl 1 rfl ?_
  refine n_getA (i := 2) (q0 := 0) zin3 rfl rfl (by decide) rfl tw_163 dX3_init_42 ?_
  refine n_iload dX3_init_45 rfl 0 rfl ?_
  refine n_new (fs := [.int 0, .int 0, .int 0, .null, .null, .null, .null, .null, .null, .null, .null, .null]) zin2 tyX2 tyX2_ok (ci := 2) rfl tw_16 tw_17 tw_2 (fun j hj => by rcases (show j = 0 ∨ j = 1 ∨ j = 2 ∨ j = 3 ∨ j = 4 ∨ j = 5 ∨ j = 6 ∨ j = 7 ∨ j = 8 ∨ j = 9 ∨ j = 10 ∨ j = 11 by omega) with rfl | rfl | rfl | rfl | rfl | rfl | rfl | rfl | rfl | rfl | rfl | rfl <;> rfl) (by omega) (by omega) dX3_init_46 (fun q4 => ?_)
  refine n_dup dX3_init_49 ?_
  refine n_init (ob := tkNew) (wr := (([(a, .inr (3, [.ref (g1 (5, 0, 0)), .ref (g2 (5, 0, 0)), .ref qs, .null, .null])), (qs, .inl (K.1.2.2 3, 2, .inr (.inr (.inr (.inr (va_up (fun _ => none) 0 (some (g3 (5, 0, 0)))))))))] : va_W) ++ yws tkL (g3, K.1.2) μ3) ++ (yws tkL (g1, K.1.2) μ1 ++ yws tkL (g2, K.1.2) μ2)) ⟨q_X2_init, rfl, tw_19⟩ tw_18 dX3_init_50 (k_Tank q4) (by omega) (by omega) (by omega) (Nat.le_of_ble_eq_true rfl) (fun ws1 hw => ?_)
  obtain ⟨g4, μ4, rfl, hT4, rfl⟩ := hw
  refine n_ws (ws' := (([(a, .inr (3, [.ref (g1 (5, 0, 0)), .ref (g2 (5, 0, 0)), .ref qs, .null, .null])), (qs, .inl (K.1.2.2 3, 2, .inr (.inr (.inr (.inr (va_up (fun _ => none) 0 (some (g3 (5, 0, 0)))))))))] : va_W) ++ (yws tkL (g3, K.1.2) μ3 ++ (yws tkL (g1, K.1.2) μ1 ++ yws tkL (g2, K.1.2) μ2))) ++ yws tkL (g4, K.1.2) μ4) (by rw [List.append_assoc [_, _]]; rfl) ?_
  refine n_swap ?_
  refine n_ast (q0 := 1) (qk := 24) (t0 := 3) (ci := 2) (r := (RX2, TX2, 12)) (j := 1) rfl rfl rfl rfl (by decide) (by decide) (by decide) dX3_init_53 ?_
  refine n_ws (ws' := (([(a, .inr (3, [.ref (g1 (5, 0, 0)), .ref (g2 (5, 0, 0)), .ref qs, .null, .null])), (qs, .inl (K.1.2.2 3, 2, .inr (.inr (.inr (.inr (va_up (va_up (fun _ => none) 0 (some (g3 (5, 0, 0)))) 1 (some (g4 (5, 0, 0)))))))))] : va_W) ++ yws tkL (g4, K.1.2) μ4) ++ (yws tkL (g3, K.1.2) μ3 ++ (yws tkL (g1, K.1.2) μ1 ++ yws tkL (g2, K.1.2) μ2))) rfl ?_
  refine n_iinc1 (v := 2) dX3_init_54 (by decide) (by decide) ?_
  refine n_goto (tgt := 36) dX3_init_57 (by decide) ?_
  refine n_iload dX3_init_36 rfl 0 rfl ?_
  refine n_iconst (v := 2) dX3_init_37 (by decide) ?_
  refine n_geT (off := 22) (tgt := 60) dX3_init_38 (by decide) (by decide) ?_
  refine n_aload dX3_init_60 rfl 1 rfl ?_
  refine n_iconst (v := 2) dX3_init_61 (by decide) ?_
  refine n_newZ (N := 2) dX3_init_62 rfl (by omega) (by omega) (by omega) (fun qb => ?_)
  refine n_putF (i := 3) (q0 := 0) (ty := .array .boolean) zin3 tyX3 tyX3_ok nmX3 rfl hN rfl (by decide) rfl rfl rfl rfl rfl (Nat.le_of_ble_eq_true rfl) tw_164 dX3_init_64 ?_
  refine n_ws (ws' := ((([(a, .inr (3, [.ref (g1 (5, 0, 0)), .ref (g2 (5, 0, 0)), .ref qs, .ref qb, .null])), (qs, .inl (K.1.2.2 3, 2, .inr (.inr (.inr (.inr (va_up (va_up (fun _ => none) 0 (some (g3 (5, 0, 0)))) 1 (some (g4 (5, 0, 0)))))))))] : va_W) ++ yws tkL (g4, K.1.2) μ4) ++ (yws tkL (g3, K.1.2) μ3 ++ (yws tkL (g1, K.1.2) μ1 ++ yws tkL (g2, K.1.2) μ2))) ++ ([(qb, .inl (K.1.2.2 1, 2, .inl (fun _ => 0)))] : va_W)) rfl ?_
  refine n_aload dX3_init_67 rfl 1 rfl ?_
  refine n_new (fs := [.int 0, .int 0, .int 0, .int 0, .int 0, .int 0, .int 0, .int 0, .null]) zin1 tyX1 tyX1_ok (ci := 1) rfl tw_117 tw_118 tw_6 (fun j hj => by rcases (show j = 0 ∨ j = 1 ∨ j = 2 ∨ j = 3 ∨ j = 4 ∨ j = 5 ∨ j = 6 ∨ j = 7 ∨ j = 8 by omega) with rfl | rfl | rfl | rfl | rfl | rfl | rfl | rfl | rfl <;> rfl) (by omega) (by omega) dX3_init_68 (fun qp => ?_)
  refine n_dup dX3_init_71 ?_
  refine n_init (ob := pdNew) (wr := ((([(a, .inr (3, [.ref (g1 (5, 0, 0)), .ref (g2 (5, 0, 0)), .ref qs, .ref qb, .null])), (qs, .inl (K.1.2.2 3, 2, .inr (.inr (.inr (.inr (va_up (va_up (fun _ => none) 0 (some (g3 (5, 0, 0)))) 1 (some (g4 (5, 0, 0)))))))))] : va_W) ++ yws tkL (g4, K.1.2) μ4) ++ (yws tkL (g3, K.1.2) μ3 ++ (yws tkL (g1, K.1.2) μ1 ++ yws tkL (g2, K.1.2) μ2))) ++ ([(qb, .inl (K.1.2.2 1, 2, .inl (fun _ => 0)))] : va_W)) ⟨q_X1_init, rfl, tw_120⟩ tw_119 dX3_init_72 (k_Pad qp) (by omega) (by omega) (by omega) (Nat.le_of_ble_eq_true rfl) (fun ws1 hw => ?_)
  obtain ⟨qt, rfl⟩ := hw
  refine n_putF (i := 4) (q0 := 0) (ty := .object "DyeTank$Pad") zin3 tyX3 tyX3_ok nmX3 rfl hN rfl (by decide) rfl rfl rfl rfl rfl (Nat.le_of_ble_eq_true rfl) tw_165 dX3_init_75 ?_
  refine n_ws (ws' := (((([(a, .inr (3, [.ref (g1 (5, 0, 0)), .ref (g2 (5, 0, 0)), .ref qs, .ref qb, .ref qp])), (qs, .inl (K.1.2.2 3, 2, .inr (.inr (.inr (.inr (va_up (va_up (fun _ => none) 0 (some (g3 (5, 0, 0)))) 1 (some (g4 (5, 0, 0)))))))))] : va_W) ++ yws tkL (g4, K.1.2) μ4) ++ (yws tkL (g3, K.1.2) μ3 ++ (yws tkL (g1, K.1.2) μ1 ++ yws tkL (g2, K.1.2) μ2))) ++ ([(qb, .inl (K.1.2.2 1, 2, .inl (fun _ => 0)))] : va_W)) ++ pdEnt K.1 qp qt) rfl ?_
  exact n_vret hR dX3_init_78 rfl rfl ⟨qs, qb, qp, qt, g1, g2, g3, g4, μ1, μ2, μ3, μ4, hT1, hT2, hT3, hT4, rfl⟩
