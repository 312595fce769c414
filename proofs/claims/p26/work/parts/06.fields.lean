section ZFIELDS
variable {K : zK} {d nL pc idx t i : Nat} {own : String} {cc : ByteArray} {ls sk : List zV} {μ : zM}
theorem zg_X0_place (dg : decode cc pc = .ok (.getfield idx, 3)) (hl0 : Cond.fieldLink own idx "DyeTank$Marker" "place" "I" ∈ zT) (k : Z K d own cc nL (pc + 3) ls (zI (μ (13, t, i) 0) :: sk) μ) (hv : (13, t, i) ∈ zcells := by assumption) : Z K d own cc nL pc ls (zR (13, t, i) :: sk) μ :=
  z_get (i := 0) _ zin0 rfl (by decide) hv (fun _ => rfl) (fun _ => rfl) dg hl0 k
theorem zp_X0_place {x : Int32} (dg : decode cc pc = .ok (.putfield idx, 3)) (hl0 : Cond.fieldLink own idx "DyeTank$Marker" "place" "I" ∈ zT) (k : Z K d own cc nL (pc + 3) ls sk (st μ (13, t, i) (upd (μ (13, t, i)) 0 x))) (hv : (13, t, i) ∈ zcells := by assumption) : Z K d own cc nL pc ls (zI x :: zR (13, t, i) :: sk) μ :=
  z_put (i := 0) (ty := .int) tyX0 _ zin0 tyX0_ok nmX0 rfl (by decide) hv (fun _ _ => rfl) (fun _ _ => rfl) rfl rfl rfl rfl (fun _ _ => Nat.le_of_ble_eq_true rfl) dg hl0 k
theorem zg_X0_angle (dg : decode cc pc = .ok (.getfield idx, 3)) (hl0 : Cond.fieldLink own idx "DyeTank$Marker" "angle" "I" ∈ zT) (k : Z K d own cc nL (pc + 3) ls (zI (μ (13, t, i) 1) :: sk) μ) (hv : (13, t, i) ∈ zcells := by assumption) : Z K d own cc nL pc ls (zR (13, t, i) :: sk) μ :=
  z_get (i := 1) _ zin0 rfl (by decide) hv (fun _ => rfl) (fun _ => rfl) dg hl0 k
theorem zp_X0_angle {x : Int32} (dg : decode cc pc = .ok (.putfield idx, 3)) (hl0 : Cond.fieldLink own idx "DyeTank$Marker" "angle" "I" ∈ zT) (k : Z K d own cc nL (pc + 3) ls sk (st μ (13, t, i) (upd (μ (13, t, i)) 1 x))) (hv : (13, t, i) ∈ zcells := by assumption) : Z K d own cc nL pc ls (zI x :: zR (13, t, i) :: sk) μ :=
  z_put (i := 1) (ty := .int) tyX0 _ zin0 tyX0_ok nmX0 rfl (by decide) hv (fun _ _ => rfl) (fun _ _ => rfl) rfl rfl rfl rfl (fun _ _ => Nat.le_of_ble_eq_true rfl) dg hl0 k
theorem zg_X0_kept (dg : decode cc pc = .ok (.getfield idx, 3)) (hl0 : Cond.fieldLink own idx "DyeTank$Marker" "kept" "I" ∈ zT) (k : Z K d own cc nL (pc + 3) ls (zI (μ (13, t, i) 2) :: sk) μ) (hv : (13, t, i) ∈ zcells := by assumption) : Z K d own cc nL pc ls (zR (13, t, i) :: sk) μ :=
  z_get (i := 2) _ zin0 rfl (by decide) hv (fun _ => rfl) (fun _ => rfl) dg hl0 k
theorem zp_X0_kept {x : Int32} (dg : decode cc pc = .ok (.putfield idx, 3)) (hl0 : Cond.fieldLink own idx "DyeTank$Marker" "kept" "I" ∈ zT) (k : Z K d own cc nL (pc + 3) ls sk (st μ (13, t, i) (upd (μ (13, t, i)) 2 x))) (hv : (13, t, i) ∈ zcells := by assumption) : Z K d own cc nL pc ls (zI x :: zR (13, t, i) :: sk) μ :=
  z_put (i := 2) (ty := .int) tyX0 _ zin0 tyX0_ok nmX0 rfl (by decide) hv (fun _ _ => rfl) (fun _ _ => rfl) rfl rfl rfl rfl (fun _ _ => Nat.le_of_ble_eq_true rfl) dg hl0 k
theorem zg_X0_crossings (dg : decode cc pc = .ok (.getfield idx, 3)) (hl0 : Cond.fieldLink own idx "DyeTank$Marker" "crossings" "I" ∈ zT) (k : Z K d own cc nL (pc + 3) ls (zI (μ (13, t, i) 3) :: sk) μ) (hv : (13, t, i) ∈ zcells := by assumption) : Z K d own cc nL pc ls (zR (13, t, i) :: sk) μ :=
  z_get (i := 3) _ zin0 rfl (by decide) hv (fun _ => rfl) (fun _ => rfl) dg hl0 k
theorem zp_X0_crossings {x : Int32} (dg : decode cc pc = .ok (.putfield idx, 3)) (hl0 : Cond.fieldLink own idx "DyeTank$Marker" "crossings" "I" ∈ zT) (k : Z K d own cc nL (pc + 3) ls sk (st μ (13, t, i) (upd (μ (13, t, i)) 3 x))) (hv : (13, t, i) ∈ zcells := by assumption) : Z K d own cc nL pc ls (zI x :: zR (13, t, i) :: sk) μ :=
  z_put (i := 3) (ty := .int) tyX0 _ zin0 tyX0_ok nmX0 rfl (by decide) hv (fun _ _ => rfl) (fun _ _ => rfl) rfl rfl rfl rfl (fun _ _ => Nat.le_of_ble_eq_true rfl) dg hl0 k
theorem zg_X0_next (dg : decode cc pc = .ok (.getfield idx, 3)) (hl0 : Cond.fieldLink own idx "DyeTank$Marker" "next" "I" ∈ zT) (k : Z K d own cc nL (pc + 3) ls (zI (μ (13, t, i) 4) :: sk) μ) (hv : (13, t, i) ∈ zcells := by assumption) : Z K d own cc nL pc ls (zR (13, t, i) :: sk) μ :=
  z_get (i := 4) _ zin0 rfl (by decide) hv (fun _ => rfl) (fun _ => rfl) dg hl0 k
theorem zp_X0_next {x : Int32} (dg : decode cc pc = .ok (.putfield idx, 3)) (hl0 : Cond.fieldLink own idx "DyeTank$Marker" "next" "I" ∈ zT) (k : Z K d own cc nL (pc + 3) ls sk (st μ (13, t, i) (upd (μ (13, t, i)) 4 x))) (hv : (13, t, i) ∈ zcells := by assumption) : Z K d own cc nL pc ls (zI x :: zR (13, t, i) :: sk) μ :=
  z_put (i := 4) (ty := .int) tyX0 _ zin0 tyX0_ok nmX0 rfl (by decide) hv (fun _ _ => rfl) (fun _ _ => rfl) rfl rfl rfl rfl (fun _ _ => Nat.le_of_ble_eq_true rfl) dg hl0 k
theorem zg_X0_places (dg : decode cc pc = .ok (.getfield idx, 3)) (hl0 : Cond.fieldLink own idx "DyeTank$Marker" "places" "[I" ∈ zT) (k : Z K d own cc nL (pc + 3) ls (zR (14, t, i) :: sk) μ) (hv : (13, t, i) ∈ zcells := by assumption) : Z K d own cc nL pc ls (zR (13, t, i) :: sk) μ :=
  z_get (i := 5) _ zin0 rfl (by decide) hv (fun _ => rfl) (fun _ => rfl) dg hl0 k
theorem zg_X0_angles (dg : decode cc pc = .ok (.getfield idx, 3)) (hl0 : Cond.fieldLink own idx "DyeTank$Marker" "angles" "[I" ∈ zT) (k : Z K d own cc nL (pc + 3) ls (zR (15, t, i) :: sk) μ) (hv : (13, t, i) ∈ zcells := by assumption) : Z K d own cc nL pc ls (zR (13, t, i) :: sk) μ :=
  z_get (i := 6) _ zin0 rfl (by decide) hv (fun _ => rfl) (fun _ => rfl) dg hl0 k
theorem zg_X1_length (dg : decode cc pc = .ok (.getfield idx, 3)) (hl0 : Cond.fieldLink own idx "DyeTank$Pad" "length" "I" ∈ zT) (k : Z K d own cc nL (pc + 3) ls (zI (μ (3, 0, 0) 0) :: sk) μ) (hv : (3, 0, 0) ∈ zcells := by assumption) : Z K d own cc nL pc ls (zR (3, 0, 0) :: sk) μ :=
  z_get (i := 0) _ zin1 rfl (by decide) hv (fun _ => rfl) (fun _ => rfl) dg hl0 k
theorem zp_X1_length {x : Int32} (dg : decode cc pc = .ok (.putfield idx, 3)) (hl0 : Cond.fieldLink own idx "DyeTank$Pad" "length" "I" ∈ zT) (k : Z K d own cc nL (pc + 3) ls sk (st μ (3, 0, 0) (upd (μ (3, 0, 0)) 0 x))) (hv : (3, 0, 0) ∈ zcells := by assumption) : Z K d own cc nL pc ls (zI x :: zR (3, 0, 0) :: sk) μ :=
  z_put (i := 0) (ty := .int) tyX1 _ zin1 tyX1_ok nmX1 rfl (by decide) hv (fun _ _ => rfl) (fun _ _ => rfl) rfl rfl rfl rfl (fun _ _ => Nat.le_of_ble_eq_true rfl) dg hl0 k
theorem zg_X1_at (dg : decode cc pc = .ok (.getfield idx, 3)) (hl0 : Cond.fieldLink own idx "DyeTank$Pad" "at" "I" ∈ zT) (k : Z K d own cc nL (pc + 3) ls (zI (μ (3, 0, 0) 1) :: sk) μ) (hv : (3, 0, 0) ∈ zcells := by assumption) : Z K d own cc nL pc ls (zR (3, 0, 0) :: sk) μ :=
  z_get (i := 1) _ zin1 rfl (by decide) hv (fun _ => rfl) (fun _ => rfl) dg hl0 k
theorem zp_X1_at {x : Int32} (dg : decode cc pc = .ok (.putfield idx, 3)) (hl0 : Cond.fieldLink own idx "DyeTank$Pad" "at" "I" ∈ zT) (k : Z K d own cc nL (pc + 3) ls sk (st μ (3, 0, 0) (upd (μ (3, 0, 0)) 1 x))) (hv : (3, 0, 0) ∈ zcells := by assumption) : Z K d own cc nL pc ls (zI x :: zR (3, 0, 0) :: sk) μ :=
  z_put (i := 1) (ty := .int) tyX1 _ zin1 tyX1_ok nmX1 rfl (by decide) hv (fun _ _ => rfl) (fun _ _ => rfl) rfl rfl rfl rfl (fun _ _ => Nat.le_of_ble_eq_true rfl) dg hl0 k
theorem zg_X1_kind (dg : decode cc pc = .ok (.getfield idx, 3)) (hl0 : Cond.fieldLink own idx "DyeTank$Pad" "kind" "C" ∈ zT) (k : Z K d own cc nL (pc + 3) ls (zI (μ (3, 0, 0) 2) :: sk) μ) (hv : (3, 0, 0) ∈ zcells := by assumption) : Z K d own cc nL pc ls (zR (3, 0, 0) :: sk) μ :=
  z_get (i := 2) _ zin1 rfl (by decide) hv (fun _ => rfl) (fun _ => rfl) dg hl0 k
theorem zp_X1_kind {x : Int32} (dg : decode cc pc = .ok (.putfield idx, 3)) (hl0 : Cond.fieldLink own idx "DyeTank$Pad" "kind" "C" ∈ zT) (hn : narrow .char (.int x) = .int x) (hf : fits .char (.int x) = true) (k : Z K d own cc nL (pc + 3) ls sk (st μ (3, 0, 0) (upd (μ (3, 0, 0)) 2 x))) (hv : (3, 0, 0) ∈ zcells := by assumption) : Z K d own cc nL pc ls (zI x :: zR (3, 0, 0) :: sk) μ :=
  z_put (i := 2) (ty := .char) tyX1 _ zin1 tyX1_ok nmX1 rfl (by decide) hv (fun _ _ => rfl) (fun _ _ => rfl) rfl rfl hn hf (fun _ _ => Nat.le_of_ble_eq_true rfl) dg hl0 k
theorem zg_X1_colour (dg : decode cc pc = .ok (.getfield idx, 3)) (hl0 : Cond.fieldLink own idx "DyeTank$Pad" "colour" "I" ∈ zT) (k : Z K d own cc nL (pc + 3) ls (zI (μ (3, 0, 0) 3) :: sk) μ) (hv : (3, 0, 0) ∈ zcells := by assumption) : Z K d own cc nL pc ls (zR (3, 0, 0) :: sk) μ :=
  z_get (i := 3) _ zin1 rfl (by decide) hv (fun _ => rfl) (fun _ => rfl) dg hl0 k
theorem zp_X1_colour {x : Int32} (dg : decode cc pc = .ok (.putfield idx, 3)) (hl0 : Cond.fieldLink own idx "DyeTank$Pad" "colour" "I" ∈ zT) (k : Z K d own cc nL (pc + 3) ls sk (st μ (3, 0, 0) (upd (μ (3, 0, 0)) 3 x))) (hv : (3, 0, 0) ∈ zcells := by assumption) : Z K d own cc nL pc ls (zI x :: zR (3, 0, 0) :: sk) μ :=
  z_put (i := 3) (ty := .int) tyX1 _ zin1 tyX1_ok nmX1 rfl (by decide) hv (fun _ _ => rfl) (fun _ _ => rfl) rfl rfl rfl rfl (fun _ _ => Nat.le_of_ble_eq_true rfl) dg hl0 k
theorem zg_X1_layer (dg : decode cc pc = .ok (.getfield idx, 3)) (hl0 : Cond.fieldLink own idx "DyeTank$Pad" "layer" "I" ∈ zT) (k : Z K d own cc nL (pc + 3) ls (zI (μ (3, 0, 0) 4) :: sk) μ) (hv : (3, 0, 0) ∈ zcells := by assumption) : Z K d own cc nL pc ls (zR (3, 0, 0) :: sk) μ :=
  z_get (i := 4) _ zin1 rfl (by decide) hv (fun _ => rfl) (fun _ => rfl) dg hl0 k
theorem zp_X1_layer {x : Int32} (dg : decode cc pc = .ok (.putfield idx, 3)) (hl0 : Cond.fieldLink own idx "DyeTank$Pad" "layer" "I" ∈ zT) (k : Z K d own cc nL (pc + 3) ls sk (st μ (3, 0, 0) (upd (μ (3, 0, 0)) 4 x))) (hv : (3, 0, 0) ∈ zcells := by assumption) : Z K d own cc nL pc ls (zI x :: zR (3, 0, 0) :: sk) μ :=
  z_put (i := 4) (ty := .int) tyX1 _ zin1 tyX1_ok nmX1 rfl (by decide) hv (fun _ _ => rfl) (fun _ _ => rfl) rfl rfl rfl rfl (fun _ _ => Nat.le_of_ble_eq_true rfl) dg hl0 k
theorem zg_X1_ring (dg : decode cc pc = .ok (.getfield idx, 3)) (hl0 : Cond.fieldLink own idx "DyeTank$Pad" "ring" "I" ∈ zT) (k : Z K d own cc nL (pc + 3) ls (zI (μ (3, 0, 0) 5) :: sk) μ) (hv : (3, 0, 0) ∈ zcells := by assumption) : Z K d own cc nL pc ls (zR (3, 0, 0) :: sk) μ :=
  z_get (i := 5) _ zin1 rfl (by decide) hv (fun _ => rfl) (fun _ => rfl) dg hl0 k
theorem zp_X1_ring {x : Int32} (dg : decode cc pc = .ok (.putfield idx, 3)) (hl0 : Cond.fieldLink own idx "DyeTank$Pad" "ring" "I" ∈ zT) (k : Z K d own cc nL (pc + 3) ls sk (st μ (3, 0, 0) (upd (μ (3, 0, 0)) 5 x))) (hv : (3, 0, 0) ∈ zcells := by assumption) : Z K d own cc nL pc ls (zI x :: zR (3, 0, 0) :: sk) μ :=
  z_put (i := 5) (ty := .int) tyX1 _ zin1 tyX1_ok nmX1 rfl (by decide) hv (fun _ _ => rfl) (fun _ _ => rfl) rfl rfl rfl rfl (fun _ _ => Nat.le_of_ble_eq_true rfl) dg hl0 k
theorem zg_X1_sector (dg : decode cc pc = .ok (.getfield idx, 3)) (hl0 : Cond.fieldLink own idx "DyeTank$Pad" "sector" "I" ∈ zT) (k : Z K d own cc nL (pc + 3) ls (zI (μ (3, 0, 0) 6) :: sk) μ) (hv : (3, 0, 0) ∈ zcells := by assumption) : Z K d own cc nL pc ls (zR (3, 0, 0) :: sk) μ :=
  z_get (i := 6) _ zin1 rfl (by decide) hv (fun _ => rfl) (fun _ => rfl) dg hl0 k
theorem zp_X1_sector {x : Int32} (dg : decode cc pc = .ok (.putfield idx, 3)) (hl0 : Cond.fieldLink own idx "DyeTank$Pad" "sector" "I" ∈ zT) (k : Z K d own cc nL (pc + 3) ls sk (st μ (3, 0, 0) (upd (μ (3, 0, 0)) 6 x))) (hv : (3, 0, 0) ∈ zcells := by assumption) : Z K d own cc nL pc ls (zI x :: zR (3, 0, 0) :: sk) μ :=
  z_put (i := 6) (ty := .int) tyX1 _ zin1 tyX1_ok nmX1 rfl (by decide) hv (fun _ _ => rfl) (fun _ _ => rfl) rfl rfl rfl rfl (fun _ _ => Nat.le_of_ble_eq_true rfl) dg hl0 k
theorem zg_X1_number (dg : decode cc pc = .ok (.getfield idx, 3)) (hl0 : Cond.fieldLink own idx "DyeTank$Pad" "number" "I" ∈ zT) (k : Z K d own cc nL (pc + 3) ls (zI (μ (3, 0, 0) 7) :: sk) μ) (hv : (3, 0, 0) ∈ zcells := by assumption) : Z K d own cc nL pc ls (zR (3, 0, 0) :: sk) μ :=
  z_get (i := 7) _ zin1 rfl (by decide) hv (fun _ => rfl) (fun _ => rfl) dg hl0 k
theorem zp_X1_number {x : Int32} (dg : decode cc pc = .ok (.putfield idx, 3)) (hl0 : Cond.fieldLink own idx "DyeTank$Pad" "number" "I" ∈ zT) (k : Z K d own cc nL (pc + 3) ls sk (st μ (3, 0, 0) (upd (μ (3, 0, 0)) 7 x))) (hv : (3, 0, 0) ∈ zcells := by assumption) : Z K d own cc nL pc ls (zI x :: zR (3, 0, 0) :: sk) μ :=
  z_put (i := 7) (ty := .int) tyX1 _ zin1 tyX1_ok nmX1 rfl (by decide) hv (fun _ _ => rfl) (fun _ _ => rfl) rfl rfl rfl rfl (fun _ _ => Nat.le_of_ble_eq_true rfl) dg hl0 k
theorem zg_X1_text (dg : decode cc pc = .ok (.getfield idx, 3)) (hl0 : Cond.fieldLink own idx "DyeTank$Pad" "text" "[C" ∈ zT) (k : Z K d own cc nL (pc + 3) ls (zR (4, 0, 0) :: sk) μ) (hv : (3, 0, 0) ∈ zcells := by assumption) : Z K d own cc nL pc ls (zR (3, 0, 0) :: sk) μ :=
  z_get (i := 8) _ zin1 rfl (by decide) hv (fun _ => rfl) (fun _ => rfl) dg hl0 k
theorem zg_X2_rings (dg : decode cc pc = .ok (.getfield idx, 3)) (hl0 : Cond.fieldLink own idx "DyeTank$Tank" "rings" "I" ∈ zT) (k : Z K d own cc nL (pc + 3) ls (zI (μ (5, t, 0) 0) :: sk) μ) (hv : (5, t, 0) ∈ zcells := by assumption) : Z K d own cc nL pc ls (zR (5, t, 0) :: sk) μ :=
  z_get (i := 0) _ zin2 rfl (by decide) hv (fun _ => rfl) (fun _ => rfl) dg hl0 k
theorem zp_X2_rings {x : Int32} (dg : decode cc pc = .ok (.putfield idx, 3)) (hl0 : Cond.fieldLink own idx "DyeTank$Tank" "rings" "I" ∈ zT) (k : Z K d own cc nL (pc + 3) ls sk (st μ (5, t, 0) (upd (μ (5, t, 0)) 0 x))) (hv : (5, t, 0) ∈ zcells := by assumption) : Z K d own cc nL pc ls (zI x :: zR (5, t, 0) :: sk) μ :=
  z_put (i := 0) (ty := .int) tyX2 _ zin2 tyX2_ok nmX2 rfl (by decide) hv (fun _ _ => rfl) (fun _ _ => rfl) rfl rfl rfl rfl (fun _ _ => Nat.le_of_ble_eq_true rfl) dg hl0 k
theorem zg_X2_time (dg : decode cc pc = .ok (.getfield idx, 3)) (hl0 : Cond.fieldLink own idx "DyeTank$Tank" "time" "I" ∈ zT) (k : Z K d own cc nL (pc + 3) ls (zI (μ (5, t, 0) 1) :: sk) μ) (hv : (5, t, 0) ∈ zcells := by assumption) : Z K d own cc nL pc ls (zR (5, t, 0) :: sk) μ :=
  z_get (i := 1) _ zin2 rfl (by decide) hv (fun _ => rfl) (fun _ => rfl) dg hl0 k
theorem zp_X2_time {x : Int32} (dg : decode cc pc = .ok (.putfield idx, 3)) (hl0 : Cond.fieldLink own idx "DyeTank$Tank" "time" "I" ∈ zT) (k : Z K d own cc nL (pc + 3) ls sk (st μ (5, t, 0) (upd (μ (5, t, 0)) 1 x))) (hv : (5, t, 0) ∈ zcells := by assumption) : Z K d own cc nL pc ls (zI x :: zR (5, t, 0) :: sk) μ :=
  z_put (i := 1) (ty := .int) tyX2 _ zin2 tyX2_ok nmX2 rfl (by decide) hv (fun _ _ => rfl) (fun _ _ => rfl) rfl rfl rfl rfl (fun _ _ => Nat.le_of_ble_eq_true rfl) dg hl0 k
theorem zg_X2_markerCount (dg : decode cc pc = .ok (.getfield idx, 3)) (hl0 : Cond.fieldLink own idx "DyeTank$Tank" "markerCount" "I" ∈ zT) (k : Z K d own cc nL (pc + 3) ls (zI (μ (5, t, 0) 2) :: sk) μ) (hv : (5, t, 0) ∈ zcells := by assumption) : Z K d own cc nL pc ls (zR (5, t, 0) :: sk) μ :=
  z_get (i := 2) _ zin2 rfl (by decide) hv (fun _ => rfl) (fun _ => rfl) dg hl0 k
theorem zp_X2_markerCount {x : Int32} (dg : decode cc pc = .ok (.putfield idx, 3)) (hl0 : Cond.fieldLink own idx "DyeTank$Tank" "markerCount" "I" ∈ zT) (k : Z K d own cc nL (pc + 3) ls sk (st μ (5, t, 0) (upd (μ (5, t, 0)) 2 x))) (hv : (5, t, 0) ∈ zcells := by assumption) : Z K d own cc nL pc ls (zI x :: zR (5, t, 0) :: sk) μ :=
  z_put (i := 2) (ty := .int) tyX2 _ zin2 tyX2_ok nmX2 rfl (by decide) hv (fun _ _ => rfl) (fun _ _ => rfl) rfl rfl rfl rfl (fun _ _ => Nat.le_of_ble_eq_true rfl) dg hl0 k
theorem zg_X2_settings (dg : decode cc pc = .ok (.getfield idx, 3)) (hl0 : Cond.fieldLink own idx "DyeTank$Tank" "settings" "[I" ∈ zT) (k : Z K d own cc nL (pc + 3) ls (zR (6, t, 0) :: sk) μ) (hv : (5, t, 0) ∈ zcells := by assumption) : Z K d own cc nL pc ls (zR (5, t, 0) :: sk) μ :=
  z_get (i := 3) _ zin2 rfl (by decide) hv (fun _ => rfl) (fun _ => rfl) dg hl0 k
theorem zg_X2_momenta (dg : decode cc pc = .ok (.getfield idx, 3)) (hl0 : Cond.fieldLink own idx "DyeTank$Tank" "momenta" "[I" ∈ zT) (k : Z K d own cc nL (pc + 3) ls (zR (7, t, 0) :: sk) μ) (hv : (5, t, 0) ∈ zcells := by assumption) : Z K d own cc nL pc ls (zR (5, t, 0) :: sk) μ :=
  z_get (i := 4) _ zin2 rfl (by decide) hv (fun _ => rfl) (fun _ => rfl) dg hl0 k
theorem zg_X2_angles (dg : decode cc pc = .ok (.getfield idx, 3)) (hl0 : Cond.fieldLink own idx "DyeTank$Tank" "angles" "[I" ∈ zT) (k : Z K d own cc nL (pc + 3) ls (zR (8, t, 0) :: sk) μ) (hv : (5, t, 0) ∈ zcells := by assumption) : Z K d own cc nL pc ls (zR (5, t, 0) :: sk) μ :=
  z_get (i := 5) _ zin2 rfl (by decide) hv (fun _ => rfl) (fun _ => rfl) dg hl0 k
theorem zg_X2_totals (dg : decode cc pc = .ok (.getfield idx, 3)) (hl0 : Cond.fieldLink own idx "DyeTank$Tank" "totals" "[I" ∈ zT) (k : Z K d own cc nL (pc + 3) ls (zR (9, t, 0) :: sk) μ) (hv : (5, t, 0) ∈ zcells := by assumption) : Z K d own cc nL pc ls (zR (5, t, 0) :: sk) μ :=
  z_get (i := 6) _ zin2 rfl (by decide) hv (fun _ => rfl) (fun _ => rfl) dg hl0 k
theorem zg_X2_dyes (dg : decode cc pc = .ok (.getfield idx, 3)) (hl0 : Cond.fieldLink own idx "DyeTank$Tank" "dyes" "[[I" ∈ zT) (k : Z K d own cc nL (pc + 3) ls (zR (10, t, 0) :: sk) μ) (hv : (5, t, 0) ∈ zcells := by assumption) : Z K d own cc nL pc ls (zR (5, t, 0) :: sk) μ :=
  z_get (i := 7) _ zin2 rfl (by decide) hv (fun _ => rfl) (fun _ => rfl) dg hl0 k
theorem zg_X2_markers (dg : decode cc pc = .ok (.getfield idx, 3)) (hl0 : Cond.fieldLink own idx "DyeTank$Tank" "markers" "[LDyeTank$Marker;" ∈ zT) (k : Z K d own cc nL (pc + 3) ls (zR (12, t, 0) :: sk) μ) (hv : (5, t, 0) ∈ zcells := by assumption) : Z K d own cc nL pc ls (zR (5, t, 0) :: sk) μ :=
  z_get (i := 8) _ zin2 rfl (by decide) hv (fun _ => rfl) (fun _ => rfl) dg hl0 k
theorem zg_X2_speeds (dg : decode cc pc = .ok (.getfield idx, 3)) (hl0 : Cond.fieldLink own idx "DyeTank$Tank" "speeds" "[I" ∈ zT) (k : Z K d own cc nL (pc + 3) ls (zR (16, t, 0) :: sk) μ) (hv : (5, t, 0) ∈ zcells := by assumption) : Z K d own cc nL pc ls (zR (5, t, 0) :: sk) μ :=
  z_get (i := 9) _ zin2 rfl (by decide) hv (fun _ => rfl) (fun _ => rfl) dg hl0 k
theorem zg_X2_pushes (dg : decode cc pc = .ok (.getfield idx, 3)) (hl0 : Cond.fieldLink own idx "DyeTank$Tank" "pushes" "[I" ∈ zT) (k : Z K d own cc nL (pc + 3) ls (zR (17, t, 0) :: sk) μ) (hv : (5, t, 0) ∈ zcells := by assumption) : Z K d own cc nL pc ls (zR (5, t, 0) :: sk) μ :=
  z_get (i := 10) _ zin2 rfl (by decide) hv (fun _ => rfl) (fun _ => rfl) dg hl0 k
theorem zg_X2_old (dg : decode cc pc = .ok (.getfield idx, 3)) (hl0 : Cond.fieldLink own idx "DyeTank$Tank" "old" "[I" ∈ zT) (k : Z K d own cc nL (pc + 3) ls (zR (18, t, 0) :: sk) μ) (hv : (5, t, 0) ∈ zcells := by assumption) : Z K d own cc nL pc ls (zR (5, t, 0) :: sk) μ :=
  z_get (i := 11) _ zin2 rfl (by decide) hv (fun _ => rfl) (fun _ => rfl) dg hl0 k
theorem zg_X3_tank (dg : decode cc pc = .ok (.getfield idx, 3)) (hl0 : Cond.fieldLink own idx "DyeTank" "tank" "LDyeTank$Tank;" ∈ zT) (k : Z K d own cc nL (pc + 3) ls (zR (5, 0, 0) :: sk) μ) (hv : (0, 0, 0) ∈ zcells := by assumption) : Z K d own cc nL pc ls (zR (0, 0, 0) :: sk) μ :=
  z_get (i := 0) _ zin3 rfl (by decide) hv (fun _ => rfl) (fun _ => rfl) dg hl0 k
theorem zg_X3_copy (dg : decode cc pc = .ok (.getfield idx, 3)) (hl0 : Cond.fieldLink own idx "DyeTank" "copy" "LDyeTank$Tank;" ∈ zT) (k : Z K d own cc nL (pc + 3) ls (zR (5, 1, 0) :: sk) μ) (hv : (0, 0, 0) ∈ zcells := by assumption) : Z K d own cc nL pc ls (zR (0, 0, 0) :: sk) μ :=
  z_get (i := 1) _ zin3 rfl (by decide) hv (fun _ => rfl) (fun _ => rfl) dg hl0 k
theorem zg_X3_slots (dg : decode cc pc = .ok (.getfield idx, 3)) (hl0 : Cond.fieldLink own idx "DyeTank" "slots" "[LDyeTank$Tank;" ∈ zT) (k : Z K d own cc nL (pc + 3) ls (zR (1, 0, 0) :: sk) μ) (hv : (0, 0, 0) ∈ zcells := by assumption) : Z K d own cc nL pc ls (zR (0, 0, 0) :: sk) μ :=
  z_get (i := 2) _ zin3 rfl (by decide) hv (fun _ => rfl) (fun _ => rfl) dg hl0 k
theorem zg_X3_saved (dg : decode cc pc = .ok (.getfield idx, 3)) (hl0 : Cond.fieldLink own idx "DyeTank" "saved" "[Z" ∈ zT) (k : Z K d own cc nL (pc + 3) ls (zR (2, 0, 0) :: sk) μ) (hv : (0, 0, 0) ∈ zcells := by assumption) : Z K d own cc nL pc ls (zR (0, 0, 0) :: sk) μ :=
  z_get (i := 3) _ zin3 rfl (by decide) hv (fun _ => rfl) (fun _ => rfl) dg hl0 k
theorem zg_X3_pad (dg : decode cc pc = .ok (.getfield idx, 3)) (hl0 : Cond.fieldLink own idx "DyeTank" "pad" "LDyeTank$Pad;" ∈ zT) (k : Z K d own cc nL (pc + 3) ls (zR (3, 0, 0) :: sk) μ) (hv : (0, 0, 0) ∈ zcells := by assumption) : Z K d own cc nL pc ls (zR (0, 0, 0) :: sk) μ :=
  z_get (i := 4) _ zin3 rfl (by decide) hv (fun _ => rfl) (fun _ => rfl) dg hl0 k
end ZFIELDS
theorem q_X0_putIn : zMv 0 yX0_putIn prog_2_method_2_code 3 (none : Option Jvm.ClassFile.FieldType) 2 := ⟨⟨⟨by decide +kernel, by decide +kernel⟩, by decide +kernel, tw_396, tw_3, by decide⟩, by decide +kernel, tw_394, tw_395⟩
theorem q_X0_becomeLike : zMv 0 yX0_becomeLike prog_2_method_3_code 2 (none : Option Jvm.ClassFile.FieldType) 1 := ⟨⟨⟨by decide +kernel, by decide +kernel⟩, by decide +kernel, tw_448, tw_3, by decide⟩, by decide +kernel, tw_446, tw_447⟩
theorem q_X0_ringNow : zMv 0 yX0_ringNow prog_2_method_4_code 1 (some .int) 0 := ⟨⟨⟨by decide +kernel, by decide +kernel⟩, by decide +kernel, tw_267, tw_3, by decide⟩, by decide +kernel, tw_265, tw_266⟩
theorem q_X0_move : zMv 0 yX0_move prog_2_method_5_code 5 (none : Option Jvm.ClassFile.FieldType) 3 := ⟨⟨⟨by decide +kernel, by decide +kernel⟩, by decide +kernel, tw_316, tw_3, by decide⟩, by decide +kernel, tw_314, tw_315⟩
theorem q_X0_keepPosition : zMv 0 yX0_keepPosition prog_2_method_6_code 1 (none : Option Jvm.ClassFile.FieldType) 0 := ⟨⟨⟨by decide +kernel, by decide +kernel⟩, by decide +kernel, tw_324, tw_3, by decide⟩, by decide +kernel, tw_323, tp_4⟩
theorem q_X0_placeBack : zMv 0 yX0_placeBack prog_2_method_7_code 2 (some .int) 1 := ⟨⟨⟨by decide +kernel, by decide +kernel⟩, by decide +kernel, tw_332, tw_3, by decide⟩, by decide +kernel, tw_330, tw_331⟩
theorem q_X0_angleBack : zMv 0 yX0_angleBack prog_2_method_8_code 2 (some .int) 1 := ⟨⟨⟨by decide +kernel, by decide +kernel⟩, by decide +kernel, tw_336, tw_3, by decide⟩, by decide +kernel, tw_334, tw_335⟩
theorem q_X0_isNear : zMv 0 yX0_isNear prog_2_method_9_code 4 (some .boolean) 2 := ⟨⟨⟨by decide +kernel, by decide +kernel⟩, by decide +kernel, tw_485, tw_3, by decide⟩, by decide +kernel, tw_483, tw_484⟩
theorem q_X1_append : zMv 1 yX1_append prog_3_method_2_code 2 (none : Option Jvm.ClassFile.FieldType) 1 := ⟨⟨⟨by decide +kernel, by decide +kernel⟩, by decide +kernel, tw_514, tw_6, by decide⟩, by decide +kernel, tw_512, tw_513⟩
theorem q_X1_firstFault : zMv 1 yX1_firstFault prog_3_method_3_code 2 (some .int) 0 := ⟨⟨⟨by decide +kernel, by decide +kernel⟩, by decide +kernel, tw_522, tw_6, by decide⟩, by decide +kernel, tw_520, tw_521⟩
theorem q_X1_readStep : zMv 1 yX1_readStep prog_3_method_4_code 1 (some .boolean) 0 := ⟨⟨⟨by decide +kernel, by decide +kernel⟩, by decide +kernel, tw_526, tw_6, by decide⟩, by decide +kernel, tw_524, tw_525⟩
theorem q_X1_readRing : zMv 1 yX1_readRing prog_3_method_5_code 1 (some .boolean) 0 := ⟨⟨⟨by decide +kernel, by decide +kernel⟩, by decide +kernel, tw_546, tw_6, by decide⟩, by decide +kernel, tw_545, tp_10⟩
theorem q_X1_readVelocity : zMv 1 yX1_readVelocity prog_3_method_6_code 3 (some .boolean) 0 := ⟨⟨⟨by decide +kernel, by decide +kernel⟩, by decide +kernel, tw_550, tw_6, by decide⟩, by decide +kernel, tw_549, tp_11⟩
theorem q_X1_readColour : zMv 1 yX1_readColour prog_3_method_7_code 1 (some .boolean) 0 := ⟨⟨⟨by decide +kernel, by decide +kernel⟩, by decide +kernel, tw_554, tw_6, by decide⟩, by decide +kernel, tw_553, tp_12⟩
theorem q_X1_readLayer : zMv 1 yX1_readLayer prog_3_method_8_code 1 (some .boolean) 0 := ⟨⟨⟨by decide +kernel, by decide +kernel⟩, by decide +kernel, tw_558, tw_6, by decide⟩, by decide +kernel, tw_557, tp_13⟩
theorem q_X1_readSector : zMv 1 yX1_readSector prog_3_method_9_code 1 (some .boolean) 0 := ⟨⟨⟨by decide +kernel, by decide +kernel⟩, by decide +kernel, tw_562, tw_6, by decide⟩, by decide +kernel, tw_561, tp_14⟩
theorem q_X1_readAmount : zMv 1 yX1_readAmount prog_3_method_10_code 1 (some .boolean) 0 := ⟨⟨⟨by decide +kernel, by decide +kernel⟩, by decide +kernel, tw_566, tw_6, by decide⟩, by decide +kernel, tw_565, tp_15⟩
theorem q_X1_readNumber : zMv 1 yX1_readNumber prog_3_method_11_code 5 (some .int) 2 := ⟨⟨⟨by decide +kernel, by decide +kernel⟩, by decide +kernel, tw_538, tw_6, by decide⟩, by decide +kernel, tw_537, tp_8⟩
theorem q_X1_digit : zMv 1 yX1_digit prog_3_method_12_code 2 (some .int) 0 := ⟨⟨⟨by decide +kernel, by decide +kernel⟩, by decide +kernel, tw_542, tw_6, by decide⟩, by decide +kernel, tw_541, tp_9⟩
theorem q_X1_take : zMv 1 yX1_take prog_3_method_13_code 2 (some .boolean) 1 := ⟨⟨⟨by decide +kernel, by decide +kernel⟩, by decide +kernel, tw_534, tw_6, by decide⟩, by decide +kernel, tw_532, tw_533⟩
theorem q_X1_character : zMv 1 yX1_character prog_3_method_14_code 1 (some .char) 0 := ⟨⟨⟨by decide +kernel, by decide +kernel⟩, by decide +kernel, tw_530, tw_6, by decide⟩, by decide +kernel, tw_529, tp_7⟩
theorem q_X2_startAgain : zMv 2 yX2_startAgain prog_4_method_2_code 3 (none : Option Jvm.ClassFile.FieldType) 1 := ⟨⟨⟨by decide +kernel, by decide +kernel⟩, by decide +kernel, tw_61, tw_2, by decide⟩, by decide +kernel, tw_59, tw_60⟩
theorem q_X2_becomeLike : zMv 2 yX2_becomeLike prog_4_method_3_code 3 (none : Option Jvm.ClassFile.FieldType) 1 := ⟨⟨⟨by decide +kernel, by decide +kernel⟩, by decide +kernel, tw_444, tw_2, by decide⟩, by decide +kernel, tw_442, tw_443⟩
theorem q_X2_hasRing : zMv 2 yX2_hasRing prog_4_method_4_code 2 (some .boolean) 1 := ⟨⟨⟨by decide +kernel, by decide +kernel⟩, by decide +kernel, tw_235, tw_2, by decide⟩, by decide +kernel, tw_233, tw_234⟩
theorem q_X2_hasMarker : zMv 2 yX2_hasMarker prog_4_method_5_code 2 (some .boolean) 1 := ⟨⟨⟨by decide +kernel, by decide +kernel⟩, by decide +kernel, tw_263, tw_2, by decide⟩, by decide +kernel, tw_261, tw_262⟩
theorem q_X2_lastPlace : zMv 2 yX2_lastPlace prog_4_method_6_code 1 (some .int) 0 := ⟨⟨⟨by decide +kernel, by decide +kernel⟩, by decide +kernel, tw_312, tw_2, by decide⟩, by decide +kernel, tw_310, tw_311⟩
theorem q_X2_weightOf : zMs yX2_weightOf prog_4_method_7_code 1 (some .int) 1 := ⟨⟨⟨by decide +kernel, by decide +kernel⟩, by decide +kernel, tw_214, tw_2, by decide⟩, tw_213⟩
theorem q_X2_velocityOf : zMv 2 yX2_velocityOf prog_4_method_8_code 2 (some .int) 1 := ⟨⟨⟨by decide +kernel, by decide +kernel⟩, by decide +kernel, tw_211, tw_2, by decide⟩, by decide +kernel, tw_209, tw_210⟩
theorem q_X2_giveVelocity : zMv 2 yX2_giveVelocity prog_4_method_9_code 3 (none : Option Jvm.ClassFile.FieldType) 2 := ⟨⟨⟨by decide +kernel, by decide +kernel⟩, by decide +kernel, tw_369, tw_2, by decide⟩, by decide +kernel, tw_367, tw_368⟩
theorem q_X2_giveVelocities : zMv 2 yX2_giveVelocities prog_4_method_10_code 5 (none : Option Jvm.ClassFile.FieldType) 2 := ⟨⟨⟨by decide +kernel, by decide +kernel⟩, by decide +kernel, tw_378, tw_2, by decide⟩, by decide +kernel, tw_376, tw_377⟩
theorem q_X2_pushOf : zMv 2 yX2_pushOf prog_4_method_11_code 3 (some .int) 1 := ⟨⟨⟨by decide +kernel, by decide +kernel⟩, by decide +kernel, tw_241, tw_2, by decide⟩, by decide +kernel, tw_239, tw_240⟩
theorem q_X2_allMomenta : zMv 2 yX2_allMomenta prog_4_method_12_code 3 (some .int) 0 := ⟨⟨⟨by decide +kernel, by decide +kernel⟩, by decide +kernel, tw_203, tw_2, by decide⟩, by decide +kernel, tw_201, tw_202⟩
theorem q_X2_greatestShear : zMv 2 yX2_greatestShear prog_4_method_13_code 3 (some .int) 0 := ⟨⟨⟨by decide +kernel, by decide +kernel⟩, by decide +kernel, tw_207, tw_2, by decide⟩, by decide +kernel, tw_205, tw_206⟩
theorem q_X2_turnsWithFloor : zMv 2 yX2_turnsWithFloor prog_4_method_14_code 3 (some .boolean) 1 := ⟨⟨⟨by decide +kernel, by decide +kernel⟩, by decide +kernel, tw_464, tw_2, by decide⟩, by decide +kernel, tw_462, tw_463⟩
theorem q_X2_rowOf : zMs yX2_rowOf prog_4_method_15_code 2 (some .int) 2 := ⟨⟨⟨by decide +kernel, by decide +kernel⟩, by decide +kernel, tw_255, tw_2, by decide⟩, tw_254⟩
theorem q_X2_cellIn : zMv 2 yX2_cellIn prog_4_method_16_code 4 (some .int) 3 := ⟨⟨⟨by decide +kernel, by decide +kernel⟩, by decide +kernel, tw_352, tw_2, by decide⟩, by decide +kernel, tw_350, tw_351⟩
theorem q_X2_amountInRing : zMv 2 yX2_amountInRing prog_4_method_17_code 3 (some .int) 2 := ⟨⟨⟨by decide +kernel, by decide +kernel⟩, by decide +kernel, tw_248, tw_2, by decide⟩, by decide +kernel, tw_246, tw_247⟩
theorem q_X2_amountInTop : zMv 2 yX2_amountInTop prog_4_method_18_code 4 (some .int) 1 := ⟨⟨⟨by decide +kernel, by decide +kernel⟩, by decide +kernel, tw_408, tw_2, by decide⟩, by decide +kernel, tw_406, tw_407⟩
theorem q_X2_amountInRow : zMv 2 yX2_amountInRow prog_4_method_19_code 8 (some .int) 3 := ⟨⟨⟨by decide +kernel, by decide +kernel⟩, by decide +kernel, tw_252, tw_2, by decide⟩, by decide +kernel, tw_251, tp_0⟩
theorem q_X2_cellsWith : zMv 2 yX2_cellsWith prog_4_method_20_code 5 (some .int) 1 := ⟨⟨⟨by decide +kernel, by decide +kernel⟩, by decide +kernel, tw_412, tw_2, by decide⟩, by decide +kernel, tw_410, tw_411⟩
theorem q_X2_greatestAmount : zMv 2 yX2_greatestAmount prog_4_method_21_code 5 (some .int) 1 := ⟨⟨⟨by decide +kernel, by decide +kernel⟩, by decide +kernel, tw_416, tw_2, by decide⟩, by decide +kernel, tw_414, tw_415⟩
theorem q_X2_meanPlace : zMv 2 yX2_meanPlace prog_4_method_22_code 5 (some .long) 1 := ⟨⟨⟨by decide +kernel, by decide +kernel⟩, by decide +kernel, tw_420, tw_2, by decide⟩, by decide +kernel, tw_418, tw_419⟩
theorem q_X2_unevenness : zMv 2 yX2_unevenness prog_4_method_23_code 11 (some .long) 1 := ⟨⟨⟨by decide +kernel, by decide +kernel⟩, by decide +kernel, tw_426, tw_2, by decide⟩, by decide +kernel, tw_424, tw_425⟩
theorem q_X2_makeTick : zMv 2 yX2_makeTick prog_4_method_24_code 2 (none : Option Jvm.ClassFile.FieldType) 0 := ⟨⟨⟨by decide +kernel, by decide +kernel⟩, by decide +kernel, tw_276, tw_2, by decide⟩, by decide +kernel, tw_274, tw_275⟩
theorem q_X2_turn : zMv 2 yX2_turn prog_4_method_25_code 2 (none : Option Jvm.ClassFile.FieldType) 0 := ⟨⟨⟨by decide +kernel, by decide +kernel⟩, by decide +kernel, tw_280, tw_2, by decide⟩, by decide +kernel, tw_278, tw_279⟩
theorem q_X2_changeMomenta : zMv 2 yX2_changeMomenta prog_4_method_26_code 4 (none : Option Jvm.ClassFile.FieldType) 0 := ⟨⟨⟨by decide +kernel, by decide +kernel⟩, by decide +kernel, tw_284, tw_2, by decide⟩, by decide +kernel, tw_283, tp_1⟩
theorem q_X2_carry : zMv 2 yX2_carry prog_4_method_27_code 6 (none : Option Jvm.ClassFile.FieldType) 1 := ⟨⟨⟨by decide +kernel, by decide +kernel⟩, by decide +kernel, tw_292, tw_2, by decide⟩, by decide +kernel, tw_290, tw_291⟩
theorem q_X2_moveRow : zMv 2 yX2_moveRow prog_4_method_28_code 12 (none : Option Jvm.ClassFile.FieldType) 5 := ⟨⟨⟨by decide +kernel, by decide +kernel⟩, by decide +kernel, tw_296, tw_2, by decide⟩, by decide +kernel, tw_295, tp_2⟩
theorem q_X2_mixLayers : zMv 2 yX2_mixLayers prog_4_method_29_code 7 (none : Option Jvm.ClassFile.FieldType) 1 := ⟨⟨⟨by decide +kernel, by decide +kernel⟩, by decide +kernel, tw_302, tw_2, by decide⟩, by decide +kernel, tw_301, tp_3⟩
theorem q_X2_moveMarkers : zMv 2 yX2_moveMarkers prog_4_method_30_code 4 (none : Option Jvm.ClassFile.FieldType) 0 := ⟨⟨⟨by decide +kernel, by decide +kernel⟩, by decide +kernel, tw_307, tw_2, by decide⟩, by decide +kernel, tw_305, tw_306⟩
theorem q_X3_setUp : zMv 3 yX3_setUp prog_1_method_2_code 3 (some .int) 1 := ⟨⟨⟨by decide +kernel, by decide +kernel⟩, by decide +kernel, tw_180, tw_1, by decide⟩, by decide +kernel, tw_178, tw_179⟩
theorem q_X3_set : zMv 3 yX3_set prog_1_method_3_code 4 (some .int) 2 := ⟨⟨⟨by decide +kernel, by decide +kernel⟩, by decide +kernel, tw_383, tw_1, by decide⟩, by decide +kernel, tw_381, tw_382⟩
theorem q_X3_spin : zMv 3 yX3_spin prog_1_method_4_code 4 (some .int) 2 := ⟨⟨⟨by decide +kernel, by decide +kernel⟩, by decide +kernel, tw_362, tw_1, by decide⟩, by decide +kernel, tw_360, tw_361⟩
theorem q_X3_spinAll : zMv 3 yX3_spinAll prog_1_method_5_code 3 (some .int) 2 := ⟨⟨⟨by decide +kernel, by decide +kernel⟩, by decide +kernel, tw_374, tw_1, by decide⟩, by decide +kernel, tw_372, tw_373⟩
theorem q_X3_pour : zMv 3 yX3_pour prog_1_method_6_code 6 (some .int) 5 := ⟨⟨⟨by decide +kernel, by decide +kernel⟩, by decide +kernel, tw_356, tw_1, by decide⟩, by decide +kernel, tw_354, tw_355⟩
theorem q_X3_tick : zMv 3 yX3_tick prog_1_method_7_code 3 (some .int) 1 := ⟨⟨⟨by decide +kernel, by decide +kernel⟩, by decide +kernel, tw_271, tw_1, by decide⟩, by decide +kernel, tw_269, tw_270⟩
theorem q_X3_ring : zMv 3 yX3_ring prog_1_method_8_code 3 (some .int) 2 := ⟨⟨⟨by decide +kernel, by decide +kernel⟩, by decide +kernel, tw_231, tw_1, by decide⟩, by decide +kernel, tw_229, tw_230⟩
theorem q_X3_dye : zMv 3 yX3_dye prog_1_method_9_code 5 (some .int) 4 := ⟨⟨⟨by decide +kernel, by decide +kernel⟩, by decide +kernel, tw_341, tw_1, by decide⟩, by decide +kernel, tw_339, tw_340⟩
theorem q_X3_colour : zMv 3 yX3_colour prog_1_method_10_code 3 (some .long) 2 := ⟨⟨⟨by decide +kernel, by decide +kernel⟩, by decide +kernel, tw_403, tw_1, by decide⟩, by decide +kernel, tw_401, tw_402⟩
theorem q_X3_state : zMv 3 yX3_state prog_1_method_11_code 2 (some .int) 1 := ⟨⟨⟨by decide +kernel, by decide +kernel⟩, by decide +kernel, tw_199, tw_1, by decide⟩, by decide +kernel, tw_197, tw_198⟩
theorem q_X3_marker : zMv 3 yX3_marker prog_1_method_12_code 4 (some .int) 2 := ⟨⟨⟨by decide +kernel, by decide +kernel⟩, by decide +kernel, tw_391, tw_1, by decide⟩, by decide +kernel, tw_389, tw_390⟩
theorem q_X3_where : zMv 3 yX3_where prog_1_method_13_code 4 (some .int) 2 := ⟨⟨⟨by decide +kernel, by decide +kernel⟩, by decide +kernel, tw_259, tw_1, by decide⟩, by decide +kernel, tw_257, tw_258⟩
theorem q_X3_path : zMv 3 yX3_path prog_1_method_14_code 5 (some .int) 3 := ⟨⟨⟨by decide +kernel, by decide +kernel⟩, by decide +kernel, tw_328, tw_1, by decide⟩, by decide +kernel, tw_326, tw_327⟩
theorem q_X3_settles : zMv 3 yX3_settles prog_1_method_15_code 4 (some .int) 2 := ⟨⟨⟨by decide +kernel, by decide +kernel⟩, by decide +kernel, tw_460, tw_1, by decide⟩, by decide +kernel, tw_458, tw_459⟩
theorem q_X3_arrives : zMv 3 yX3_arrives prog_1_method_16_code 8 (some .int) 4 := ⟨⟨⟨by decide +kernel, by decide +kernel⟩, by decide +kernel, tw_472, tw_1, by decide⟩, by decide +kernel, tw_470, tw_471⟩
theorem q_X3_meet : zMv 3 yX3_meet prog_1_method_17_code 6 (some .int) 4 := ⟨⟨⟨by decide +kernel, by decide +kernel⟩, by decide +kernel, tw_481, tw_1, by decide⟩, by decide +kernel, tw_479, tw_480⟩
theorem q_X3_leastEkman : zMv 3 yX3_leastEkman prog_1_method_18_code 5 (some .int) 3 := ⟨⟨⟨by decide +kernel, by decide +kernel⟩, by decide +kernel, tw_494, tw_1, by decide⟩, by decide +kernel, tw_492, tw_493⟩
theorem q_X3_placeWith : zMv 3 yX3_placeWith prog_1_method_19_code 5 (some .long) 3 := ⟨⟨⟨by decide +kernel, by decide +kernel⟩, by decide +kernel, tw_498, tw_1, by decide⟩, by decide +kernel, tw_497, tp_6⟩
theorem q_X3_say : zMv 3 yX3_say prog_1_method_20_code 2 (some .int) 1 := ⟨⟨⟨by decide +kernel, by decide +kernel⟩, by decide +kernel, tw_510, tw_1, by decide⟩, by decide +kernel, tw_508, tw_509⟩
theorem q_X3_wipe : zMv 3 yX3_wipe prog_1_method_21_code 2 (some .int) 0 := ⟨⟨⟨by decide +kernel, by decide +kernel⟩, by decide +kernel, tw_506, tw_1, by decide⟩, by decide +kernel, tw_504, tw_505⟩
theorem q_X3_fault : zMv 3 yX3_fault prog_1_method_22_code 1 (some .int) 0 := ⟨⟨⟨by decide +kernel, by decide +kernel⟩, by decide +kernel, tw_518, tw_1, by decide⟩, by decide +kernel, tw_516, tw_517⟩
theorem q_X3_carryOut : zMv 3 yX3_carryOut prog_1_method_23_code 3 (some .int) 0 := ⟨⟨⟨by decide +kernel, by decide +kernel⟩, by decide +kernel, tw_571, tw_1, by decide⟩, by decide +kernel, tw_569, tw_570⟩
theorem q_X3_carriedOut : zMv 3 yX3_carriedOut prog_1_method_24_code 1 (some .boolean) 0 := ⟨⟨⟨by decide +kernel, by decide +kernel⟩, by decide +kernel, tw_576, tw_1, by decide⟩, by decide +kernel, tw_575, tp_16⟩
theorem q_X3_save : zMv 3 yX3_save prog_1_method_25_code 2 (some .int) 1 := ⟨⟨⟨by decide +kernel, by decide +kernel⟩, by decide +kernel, tw_440, tw_1, by decide⟩, by decide +kernel, tw_438, tw_439⟩
theorem q_X3_restore : zMv 3 yX3_restore prog_1_method_26_code 2 (some .int) 1 := ⟨⟨⟨by decide +kernel, by decide +kernel⟩, by decide +kernel, tw_453, tw_1, by decide⟩, by decide +kernel, tw_451, tw_452⟩
theorem q_X3_isPlaceOfDye : zMv 3 yX3_isPlaceOfDye prog_1_method_27_code 5 (some .boolean) 4 := ⟨⟨⟨by decide +kernel, by decide +kernel⟩, by decide +kernel, tw_345, tw_1, by decide⟩, by decide +kernel, tw_344, tp_5⟩
theorem q_X3_isColour : zMs yX3_isColour prog_1_method_28_code 1 (some .boolean) 1 := ⟨⟨⟨by decide +kernel, by decide +kernel⟩, by decide +kernel, tw_348, tw_1, by decide⟩, tw_347⟩
theorem q_X3_isSpeed : zMs yX3_isSpeed prog_1_method_29_code 1 (some .boolean) 1 := ⟨⟨⟨by decide +kernel, by decide +kernel⟩, by decide +kernel, tw_365, tw_1, by decide⟩, tw_364⟩
theorem q_X3_within : zMs yX3_within prog_1_method_30_code 3 (some .boolean) 3 := ⟨⟨⟨by decide +kernel, by decide +kernel⟩, by decide +kernel, tw_183, tw_1, by decide⟩, tw_182⟩
theorem q_J9_floorDiv_7cf53 : zMs yJ9_floorDiv_7cf53 prog_7_method_47_code 3 (some .int) 2 := ⟨⟨⟨by decide +kernel, by decide +kernel⟩, by decide +kernel, tw_217, tw_7, by decide⟩, tw_216⟩
theorem q_J9_floorMod_7cf53 : zMs yJ9_floorMod_7cf53 prog_7_method_50_code 3 (some .int) 2 := ⟨⟨⟨by decide +kernel, by decide +kernel⟩, by decide +kernel, tw_288, tw_7, by decide⟩, tw_287⟩
theorem q_J9_abs_0f7a4 : zMs yJ9_abs_0f7a4 prog_7_method_59_code 1 (some .int) 1 := ⟨⟨⟨by decide +kernel, by decide +kernel⟩, by decide +kernel, tw_220, tw_7, by decide⟩, tw_219⟩
theorem q_J9_abs_067f4 : zMs yJ9_abs_067f4 prog_7_method_61_code 2 (some .long) 1 := ⟨⟨⟨by decide +kernel, by decide +kernel⟩, by decide +kernel, tw_429, tw_7, by decide⟩, tw_428⟩
theorem q_J9_max_7cf53 : zMs yJ9_max_7cf53 prog_7_method_65_code 2 (some .int) 2 := ⟨⟨⟨by decide +kernel, by decide +kernel⟩, by decide +kernel, tw_223, tw_7, by decide⟩, tw_222⟩
theorem q_J9_min_7cf53 : zMs yJ9_min_7cf53 prog_7_method_69_code 2 (some .int) 2 := ⟨⟨⟨by decide +kernel, by decide +kernel⟩, by decide +kernel, tw_244, tw_7, by decide⟩, tw_243⟩
theorem q_J7_fill_53178 : zMs yJ7_fill_53178 prog_9_method_103_code 4 (none : Option Jvm.ClassFile.FieldType) 2 := ⟨⟨⟨by decide +kernel, by decide +kernel⟩, by decide +kernel, tw_69, tw_5, by decide⟩, tw_68⟩
section ZCALLS
variable {K : zK} {d nL pc : Nat} {own : String} {cc : ByteArray} {ls sk : List zV} {μ : zM} {y : MethodName} {cc' : ByteArray} {nL' n idx ci d' : Nat} {ret : Option FieldType} {a : zA} {av stk : List zV}
/-- contracts: a pure answer; an answer and a new store; a new store alone -/
def zCi (y : MethodName) (cc : ByteArray) (nL : Nat) (ret : Option FieldType) (d : Nat) (av : List zV) (μ : zM) (x : Int32) : Prop := zCt y cc nL ret d av μ (fun μ' r => μ' = μ ∧ r = zI x)
def zCl (y : MethodName) (cc : ByteArray) (nL : Nat) (ret : Option FieldType) (d : Nat) (av : List zV) (μ : zM) (x : Int64) : Prop := zCt y cc nL ret d av μ (fun μ' r => μ' = μ ∧ r = zL x)
def zCs (y : MethodName) (cc : ByteArray) (nL : Nat) (ret : Option FieldType) (d : Nat) (av : List zV) (μ : zM) (P : zM → Int32 → Prop) : Prop := zCt y cc nL ret d av μ (fun μ' r => ∃ x, r = zI x ∧ P μ' x)
def zCv (y : MethodName) (cc : ByteArray) (nL : Nat) (ret : Option FieldType) (d : Nat) (av : List zV) (μ : zM) (P : zM → Prop) : Prop := zCt y cc nL ret d av μ (fun μ' r => r = zN ∧ P μ')
theorem z_cVi {x : Int32} (hC : zCi y cc' nL' ret d' (zR a :: av) μ x) (hm : zMv ci y cc' nL' ret n) (hl0 : Cond.methodLink own idx y ∈ zT) (dg : decode cc pc = .ok (.invokevirtual idx, 3)) (hn : av.length = n) (ho : zobj a.1 = some ci) (hstk : stk = av.reverse ++ zR a :: sk) (hd : d' < d) (hsk : zsum sk ≤ 8) (k : Z K d own cc nL (pc + 3) ls (zI x :: sk) μ) (hv : a ∈ zcells := by assumption) : Z K d own cc nL pc ls stk μ :=
  z_callV hm hl0 dg hn ho hstk hd hsk hC (fun μ' r h => by obtain ⟨rfl, rfl⟩ := h; exact k) hv
theorem z_cVl {x : Int64} (hC : zCl y cc' nL' ret d' (zR a :: av) μ x) (hm : zMv ci y cc' nL' ret n) (hl0 : Cond.methodLink own idx y ∈ zT) (dg : decode cc pc = .ok (.invokevirtual idx, 3)) (hn : av.length = n) (ho : zobj a.1 = some ci) (hstk : stk = av.reverse ++ zR a :: sk) (hd : d' < d) (hsk : zsum sk ≤ 8) (k : Z K d own cc nL (pc + 3) ls (zL x :: sk) μ) (hv : a ∈ zcells := by assumption) : Z K d own cc nL pc ls stk μ :=
  z_callV hm hl0 dg hn ho hstk hd hsk hC (fun μ' r h => by obtain ⟨rfl, rfl⟩ := h; exact k) hv
theorem z_cVs {P : zM → Int32 → Prop} (hC : zCs y cc' nL' ret d' (zR a :: av) μ P) (hm : zMv ci y cc' nL' ret n) (hl0 : Cond.methodLink own idx y ∈ zT) (dg : decode cc pc = .ok (.invokevirtual idx, 3)) (hn : av.length = n) (ho : zobj a.1 = some ci) (hstk : stk = av.reverse ++ zR a :: sk) (hd : d' < d) (hsk : zsum sk ≤ 8) (k : ∀ (μ' : zM) (x : Int32), P μ' x → Z K d own cc nL (pc + 3) ls (zI x :: sk) μ') (hv : a ∈ zcells := by assumption) : Z K d own cc nL pc ls stk μ :=
  z_callV hm hl0 dg hn ho hstk hd hsk hC (fun μ' r h => by obtain ⟨x, rfl, h⟩ := h; exact k μ' x h) hv
theorem z_cVv {P : zM → Prop} (hC : zCv y cc' nL' ret d' (zR a :: av) μ P) (hm : zMv ci y cc' nL' ret n) (hl0 : Cond.methodLink own idx y ∈ zT) (dg : decode cc pc = .ok (.invokevirtual idx, 3)) (hn : av.length = n) (ho : zobj a.1 = some ci) (hstk : stk = av.reverse ++ zR a :: sk) (hd : d' < d) (hsk : zsum sk ≤ 8) (k : ∀ (μ' : zM), P μ' → Z K d own cc nL (pc + 3) ls sk μ') (hv : a ∈ zcells := by assumption) : Z K d own cc nL pc ls stk μ :=
  z_callV hm hl0 dg hn ho hstk hd hsk hC (fun μ' r h => by obtain ⟨rfl, h⟩ := h; exact k μ' h) hv
theorem z_cSi {x : Int32} (hC : zCi y cc' nL' ret d' av μ x) (hm : zMs y cc' nL' ret n) (hl0 : Cond.methodLink own idx y ∈ zT) (dg : decode cc pc = .ok (.invokestatic idx, 3)) (hn : av.length = n) (hstk : stk = av.reverse ++ sk) (hd : d' < d) (hsk : zsum sk ≤ 8) (k : Z K d own cc nL (pc + 3) ls (zI x :: sk) μ) : Z K d own cc nL pc ls stk μ :=
  z_callS hm hl0 dg hn hstk hd hsk hC (fun μ' r h => by obtain ⟨rfl, rfl⟩ := h; exact k)
theorem z_cSv {P : zM → Prop} (hC : zCv y cc' nL' ret d' av μ P) (hm : zMs y cc' nL' ret n) (hl0 : Cond.methodLink own idx y ∈ zT) (dg : decode cc pc = .ok (.invokestatic idx, 3)) (hn : av.length = n) (hstk : stk = av.reverse ++ sk) (hd : d' < d) (hsk : zsum sk ≤ 8) (k : ∀ (μ' : zM), P μ' → Z K d own cc nL (pc + 3) ls sk μ') : Z K d own cc nL pc ls stk μ :=
  z_callS hm hl0 dg hn hstk hd hsk hC (fun μ' r h => by obtain ⟨rfl, h⟩ := h; exact k μ' h)
/-- booleans -/
def zb (c : Prop) [Decidable c] : Int32 := if c then 1 else 0
theorem zb_t {c : Prop} [Decidable c] (h : c) : zb c = 1 := if_pos h
theorem zb_f {c : Prop} [Decidable c] (h : ¬ c) : zb c = 0 := if_neg h
theorem zb_0 {c : Prop} [Decidable c] : zb c = 0 ↔ ¬ c := by
  by_cases h : c
  · rw [zb_t h]
    exact ⟨fun e => absurd e (by decide), fun e => absurd h e⟩
  · rw [zb_f h]
    exact ⟨fun _ => h, fun _ => rfl⟩
theorem zb_nar {c : Prop} [Decidable c] : narrow .boolean (.int (zb c)) = .int (zb c) := by
  by_cases h : c
  · rw [zb_t h]; rfl
  · rw [zb_f h]; rfl
theorem zb_iff {c c' : Prop} [Decidable c] [Decidable c'] (h : c ↔ c') : zb c = zb c' := by
  by_cases hc : c
  · rw [zb_t hc, zb_t (h.mp hc)]
  · rw [zb_f hc, zb_f (fun q => hc (h.mpr q))]
theorem z_bne {c : Prop} [Decidable c] {off : Int} {tgt : Nat} (dg : decode cc pc = .ok (.ifCond .ne off, 3)) (ht : (pc : Int) + off = (tgt : Int)) (kt : c → Z K d own cc nL tgt ls sk μ) (kf : ¬ c → Z K d own cc nL (pc + 3) ls sk μ) : Z K d own cc nL pc ls (zI (zb c) :: sk) μ :=
  z_if_ne dg ht (fun h => kt (Classical.byContradiction fun q => h (zb_0.mpr q))) (fun h => kf (zb_0.mp h))
theorem z_beq {c : Prop} [Decidable c] {off : Int} {tgt : Nat} (dg : decode cc pc = .ok (.ifCond .eq off, 3)) (ht : (pc : Int) + off = (tgt : Int)) (kt : ¬ c → Z K d own cc nL tgt ls sk μ) (kf : c → Z K d own cc nL (pc + 3) ls sk μ) : Z K d own cc nL pc ls (zI (zb c) :: sk) μ :=
  z_if_eq dg ht (fun h => kt (zb_0.mp h)) (fun h => kf (Classical.byContradiction fun q => h (zb_0.mpr q)))
/-- a boolean's end: 0 or 1, by what is known -/
theorem z_bret {Po : zM → zV → Prop} {v : Int32} (hR : zRet K Po (some .boolean)) (dg : decode cc pc = .ok (.ireturn, 1)) (h0 : v = 0 ∨ v = 1) (h : Po μ (zI v)) : Z K d own cc nL pc ls [zI v] μ :=
  z_zret hR dg (by rcases h0 with rfl | rfl <;> rfl) h
end ZCALLS

theorem zv_5 : ∀ t, t < 4 → (5, t, 0) ∈ zcells := by decide +kernel
theorem zv_6 : ∀ t, t < 4 → (6, t, 0) ∈ zcells := by decide +kernel
theorem zv_7 : ∀ t, t < 4 → (7, t, 0) ∈ zcells := by decide +kernel
theorem zv_8 : ∀ t, t < 4 → (8, t, 0) ∈ zcells := by decide +kernel
theorem zv_9 : ∀ t, t < 4 → (9, t, 0) ∈ zcells := by decide +kernel
theorem zv_10 : ∀ t, t < 4 → (10, t, 0) ∈ zcells := by decide +kernel
theorem zv_12 : ∀ t, t < 4 → (12, t, 0) ∈ zcells := by decide +kernel
theorem zv_16 : ∀ t, t < 4 → (16, t, 0) ∈ zcells := by decide +kernel
theorem zv_17 : ∀ t, t < 4 → (17, t, 0) ∈ zcells := by decide +kernel
theorem zv_18 : ∀ t, t < 4 → (18, t, 0) ∈ zcells := by decide +kernel
theorem zv_11 : ∀ t, t < 4 → ∀ i, i < 3 → (11, t, i) ∈ zcells := by decide +kernel
theorem zv_13 : ∀ t, t < 4 → ∀ i, i < 6 → (13, t, i) ∈ zcells := by decide +kernel
theorem zv_14 : ∀ t, t < 4 → ∀ i, i < 6 → (14, t, i) ∈ zcells := by decide +kernel
theorem zv_15 : ∀ t, t < 4 → ∀ i, i < 6 → (15, t, i) ∈ zcells := by decide +kernel
theorem zv_0 : (0, 0, 0) ∈ zcells := by decide +kernel
theorem zv_1 : (1, 0, 0) ∈ zcells := by decide +kernel
theorem zv_2 : (2, 0, 0) ∈ zcells := by decide +kernel
theorem zv_3 : (3, 0, 0) ∈ zcells := by decide +kernel
theorem zv_4 : (4, 0, 0) ∈ zcells := by decide +kernel
/-! stores where no long stands before -/
def zokb : List zV → Nat → Bool
  | _, 0 => true
  | ls, i + 1 => zcat (ls.getD i zN) == 1
theorem zset_eq {v : zV} {ls : List zV} {i : Nat} (h : zokb ls i = true) : zset ls i v = ls.set i v := by
  apply List.ext_getElem?
  intro j
  rw [zset_get, List.getElem?_set]
  by_cases hj : j = i
  · subst hj
    simp
  · rw [if_neg hj, if_neg (show ¬ i = j from fun e => hj e.symm)]
    by_cases h1 : j + 1 = i
    · subst h1
      rw [if_pos rfl]
      have h2 : zcat (ls.getD j zN) = 1 := by simpa [zokb] using h
      cases hw : ls[j]? with
      | none => rfl
      | some w =>
        rw [List.getD_eq_getElem?_getD, hw] at h2
        rcases w with _ | ((y | y) | y)
        · rfl
        · rfl
        · cases h2
        · rfl
    · rw [if_neg h1]
section ZSTORES
variable {K : zK} {d nL pc i : Nat} {own : String} {cc : ByteArray} {ls ls' sk : List zV} {μ : zM}
theorem z_ls (h : ls = ls') (k : Z K d own cc nL pc ls' sk μ) : Z K d own cc nL pc ls sk μ := h ▸ k
theorem z_mu {μ' : zM} (h : μ = μ') (k : Z K d own cc nL pc ls sk μ') : Z K d own cc nL pc ls sk μ := h ▸ k
theorem z_top {x y : Int32} (h : x = y) (k : Z K d own cc nL pc ls (zI y :: sk) μ) : Z K d own cc nL pc ls (zI x :: sk) μ := h ▸ k
theorem z_topl {x y : Int64} (h : x = y) (k : Z K d own cc nL pc ls (zL y :: sk) μ) : Z K d own cc nL pc ls (zL x :: sk) μ := h ▸ k
theorem z_istS_n {k : Fin 4} {x : Int32} (dg : decode cc pc = .ok (.istore_n k, 1)) (hi : (k : Nat) = i) (hn : i < nL) (hz : zokb ls i = true) (k1 : Z K d own cc nL (pc + 1) (ls.set i (zI x)) sk μ) : Z K d own cc nL pc ls (zI x :: sk) μ := z_istore_n dg hi hn (by rw [zset_eq hz]; exact k1)
theorem z_istS {x : Int32} (dg : decode cc pc = .ok (.istore i, 2)) (hn : i < nL) (hz : zokb ls i = true) (k1 : Z K d own cc nL (pc + 2) (ls.set i (zI x)) sk μ) : Z K d own cc nL pc ls (zI x :: sk) μ := z_istore dg hn (by rw [zset_eq hz]; exact k1)
theorem z_astS_n {k : Fin 4} {x : zA} (dg : decode cc pc = .ok (.astore_n k, 1)) (hi : (k : Nat) = i) (hn : i < nL) (hz : zokb ls i = true) (k1 : Z K d own cc nL (pc + 1) (ls.set i (zR x)) sk μ) : Z K d own cc nL pc ls (zR x :: sk) μ := z_astore_n dg hi hn (by rw [zset_eq hz]; exact k1)
theorem z_astS {x : zA} (dg : decode cc pc = .ok (.astore i, 2)) (hn : i < nL) (hz : zokb ls i = true) (k1 : Z K d own cc nL (pc + 2) (ls.set i (zR x)) sk μ) : Z K d own cc nL pc ls (zR x :: sk) μ := z_astore dg hn (by rw [zset_eq hz]; exact k1)
theorem z_lstS_n {k : Fin 4} {x : Int64} (dg : decode cc pc = .ok (.lstore_n k, 1)) (hi : (k : Nat) = i) (hn : i + 1 < nL) (hz : zokb ls i = true) (k1 : Z K d own cc nL (pc + 1) ((ls.set i (zL x)).set (i + 1) zN) sk μ) : Z K d own cc nL pc ls (zL x :: sk) μ := z_lstore_n dg hi hn (by rw [zset_eq hz]; exact k1)
theorem z_lstS {x : Int64} (dg : decode cc pc = .ok (.lstore i, 2)) (hn : i + 1 < nL) (hz : zokb ls i = true) (k1 : Z K d own cc nL (pc + 2) ((ls.set i (zL x)).set (i + 1) zN) sk μ) : Z K d own cc nL pc ls (zL x :: sk) μ := z_lstore dg hn (by rw [zset_eq hz]; exact k1)
theorem z_incS {n : Int} {x v : Int32} (dg : decode cc pc = .ok (.iinc i n, 3)) (hx : ls[i]? = some (zI x)) (hv : x + Int32.ofInt n = v) (hn : i < nL) (hz : zokb ls i = true) (k1 : Z K d own cc nL (pc + 3) (ls.set i (zI v)) sk μ) : Z K d own cc nL pc ls sk μ := z_iinc dg hx hv hn (by rw [zset_eq hz]; exact k1)
end ZSTORES
