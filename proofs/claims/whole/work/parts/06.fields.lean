section ZFIELDS
variable {K : zK} {d nL pc idx t i : Nat} {own : String} {cc : ByteArray} {ls sk : List zV} {μ : zM}
theorem zg_X0_place (dg : decode cc pc = .ok (.getfield idx, 3)) (hl0 : Cond.fieldLink own idx "DyeTank$Marker" "place" "I" ∈ zT) (k : Z K d own cc nL (pc + 3) ls (zI (μ (13, t, i) 0) :: sk) μ) (hv : (13, t, i) ∈ zcells := by assumption) : Z K d own cc nL pc ls (zR (13, t, i) :: sk) μ :=
  z_get (i := 0) _ zin0 rfl (by decide) hv (fun _ => rfl) (fun _ => rfl) dg hl0 k
theorem zp_X0_place {x : Int32} (dg : decode cc pc = .ok (.putfield idx, 3)) (hl0 : Cond.fieldLink own idx "DyeTank$Marker" "place" "I" ∈ zT) (k : Z K d own cc nL (pc + 3) ls sk (st μ (13, t, i) (upd (μ (13, t, i)) 0 x))) (hv : (13, t, i) ∈ zcells := by assumption) : Z K d own cc nL pc ls (zI x :: zR (13, t, i) :: sk) μ :=
  z_put (i := 0) (ty := .int) tyX0 _ zin0 tyX0_ok nmX0 rfl (by decide) hv (fun _ _ => rfl) (fun _ _ => rfl) rfl rfl rfl rfl (fun _ _ => Nat.le_of_ble_eq_true rfl) dg hl0 k
theorem zg_X0_angle (dg : decode cc pc = .ok (.getfield idx, 3)) (hl0 : Cond.fieldLink own idx "DyeTank$Marker" "angle" "I" ∈ zT) (k : Z K d own cc nL (pc + 3) ls (zI (μ (13, t, i) 1) :: sk) μ) (hv : (13, t, i) ∈ zcells := by assumption) : Z K d own cc nL pc ls (zR (13, t, i) :: sk) μ :=
  z_get (i := 1) _ zin0 rfl (by decide) hv (fun _ => rfl) (fun _ => rfl) dg hl0 k
theorem zp_X0_angle {x : Int32} (dg : decode cc pc = .ok (.putfield idx, 3)) (hl0 : Cond.fieldLink own idx "DyeTank$Marker" "angle" "I" ∈ zT) (k : Z K d own cc nL (pc + 3) ls sk (st μ (13, t, i) (upd (μ (13, t, i)) 1 x))) (hv : (13, t, i) ∈ zcells := by assumption) : Z K d own cc nL pc ls (zI x :: zR (13, t, i) :: sk) μ :=
  z_put (i := 1) (ty := .int) tyX0 _ zin0 tyX0_ok nmX0 rfl (by decide) hv (fun _ _ => rfl) (fun _ _ => rfl) rfl rfl rfl rfl (fun _ _ => Nat.le_of_ble_eq_true rfl) dg hl0 k
theorem zg_X0_kept (dg : decode cc pc = .ok (.getfield idx, 3)) (hl0 : Cond.fieldLink own idx "DyeTank$Marker" "kept" "I" ∈ zT) (k : Z K d own cc nL (pc + 3) ls (zI (μ (13, t, i) 2) :: sk) μ) (hv : (13, t, i) ∈ zcells := by assumption) : Z K d own cc nL pc ls (zR (13, t, i) :: sk) μ :=
  z_get (i := 2) _ zin0 rfl (by decide) hv (fun _ => rfl) (fun _ => rfl) dg hl0 k
theorem zp_X0_kept {x : Int32} (dg : decode cc pc = .ok (.putfield idx, 3)) (hl0 : Cond.fieldLink own idx "DyeTank$Marker" "kept" "I" ∈ zT) (k : Z K d own cc nL (pc + 3) ls sk (st μ (13, t, i) (upd (μ (13, t, i)) 2 x))) (hv : (13, t, i) ∈ zcells := by assumption) : Z K d own cc nL pc ls (zI x :: zR (13, t, i) :: sk) μ :=
  z_put (i := 2) (ty := .int) tyX0 _ zin0 tyX0_ok nmX0 rfl (by decide) hv (fun _ _ => rfl) (fun _ _ => rfl) rfl rfl rfl rfl (fun _ _ => Nat.le_of_ble_eq_true rfl) dg hl0 k
theorem zg_X0_crossings (dg : decode cc pc = .ok (.getfield idx, 3)) (hl0 : Cond.fieldLink own idx "DyeTank$Marker" "crossings" "I" ∈ zT) (k : Z K d own cc nL (pc + 3) ls (zI (μ (13, t, i) 3) :: sk) μ) (hv : (13, t, i) ∈ zcells := by assumption) : Z K d own cc nL pc ls (zR (13, t, i) :: sk) μ :=
  z_get (i := 3) _ zin0 rfl (by decide) hv (fun _ => rfl) (fun _ => rfl) dg hl0 k
theorem zp_X0_crossings {x : Int32} (dg : decode cc pc = .ok (.putfield idx, 3)) (hl0 : Cond.fieldLink own idx "DyeTank$Marker" "crossings" "I" ∈ zT) (k : Z K d own cc nL (pc + 3) ls sk (st μ (13, t, i) (upd (μ (13, t, i)) 3 x))) (hv : (13, t, i) ∈ zcells := by assumption) : Z K d own cc nL pc ls (zI x :: zR (13, t, i) :: sk) μ :=
  z_put (i := 3) (ty := .int) tyX0 _ zin0 tyX0_ok nmX0 rfl (by decide) hv (fun _ _ => rfl) (fun _ _ => rfl) rfl rfl rfl rfl (fun _ _ => Nat.le_of_ble_eq_true rfl) dg hl0 k
theorem zg_X0_next (dg : decode cc pc = .ok (.getfield idx, 3)) (hl0 : Cond.fieldLink own idx "DyeTank$Marker" "next" "I" ∈ zT) (k : Z K d own cc nL (pc + 3) ls (zI (μ (13, t, i) 4) :: sk) μ) (hv : (13, t, i) ∈ zcells := by assumption) : Z K d own cc nL pc ls (zR (13, t, i) :: sk) μ :=
  z_get (i := 4) _ zin0 rfl (by decide) hv (fun _ => rfl) (fun _ => rfl) dg hl0 k
theorem zp_X0_next {x : Int32} (dg : decode cc pc = .ok (.putfield idx, 3)) (hl0 : Cond.fieldLink own idx "DyeTank$Marker" "next" "I" ∈ zT) (k : Z K d own cc nL (pc + 3) ls sk (st μ (13, t, i) (upd (μ (13, t, i)) 4 x))) (hv : (13, t, i) ∈ zcells := by assumption) : Z K d own cc nL pc ls (zI x :: zR (13, t, i) :: sk) μ :=
  z_put (i := 4) (ty := .int) tyX0 _ zin0 tyX0_ok nmX0 rfl (by decide) hv (fun _ _ => rfl) (fun _ _ => rfl) rfl rfl rfl rfl (fun _ _ => Nat.le_of_ble_eq_true rfl) dg hl0 k
theorem zg_X0_places (dg : decode cc pc = .ok (.getfield idx, 3)) (hl0 : Cond.fieldLink own idx "DyeTank$Marker" "places" "[I" ∈ zT) (k : Z K d own cc nL (pc + 3) ls (zR (14, t, i) :: sk) μ) (hv : (13, t, i) ∈ zcells := by assumption) : Z K d own cc nL pc ls (zR (13, t, i) :: sk) μ :=
  z_get (i := 5) _ zin0 rfl (by decide) hv (fun _ => rfl) (fun _ => rfl) dg hl0 k
theorem zg_X0_angles (dg : decode cc pc = .ok (.getfield idx, 3)) (hl0 : Cond.fieldLink own idx "DyeTank$Marker" "angles" "[I" ∈ zT) (k : Z K d own cc nL (pc + 3) ls (zR (15, t, i) :: sk) μ) (hv : (13, t, i) ∈ zcells := by assumption) : Z K d own cc nL pc ls (zR (13, t, i) :: sk) μ :=
  z_get (i := 6) _ zin0 rfl (by decide) hv (fun _ => rfl) (fun _ => rfl) dg hl0 k
theorem zg_X1_length (dg : decode cc pc = .ok (.getfield idx, 3)) (hl0 : Cond.fieldLink own idx "DyeTank$Pad" "length" "I" ∈ zT) (k : Z K d own cc nL (pc + 3) ls (zI (μ (3, 0, 0) 0) :: sk) μ) (hv : (3, 0, 0) ∈ zcells := by assumption) : Z K d own cc nL pc ls (zR (3, 0, 0) :: sk) μ :=
  z_get (i := 0) _ zin1 rfl (by decide) hv (fun _ => rfl) (fun _ => rfl) dg hl0 k
theorem zp_X1_length {x : Int32} (dg : decode cc pc = .ok (.putfield idx, 3)) (hl0 : Cond.fieldLink own idx "DyeTank$Pad" "length" "I" ∈ zT) (k : Z K d own cc nL (pc + 3) ls sk (st μ (3, 0, 0) (upd (μ (3, 0, 0)) 0 x))) (hv : (3, 0, 0) ∈ zcells := by assumption) : Z K d own cc nL pc ls (zI x :: zR (3, 0, 0) :: sk) μ :=
  z_put (i := 0) (ty := .int) tyX1 _ zin1 tyX1_ok nmX1 rfl (by decide) hv (fun _ _ => rfl) (fun _ _ => rfl) rfl rfl rfl rfl (fun _ _ => Nat.le_of_ble_eq_true rfl) dg hl0 k
theorem zg_X1_at (dg : decode cc pc = .ok (.getfield idx, 3)) (hl0 : Cond.fieldLink own idx "DyeTank$Pad" "at" "I" ∈ zT) (k : Z K d own cc nL (pc + 3) ls (zI (μ (3, 0, 0) 1) :: sk) μ) (hv : (3, 0, 0) ∈ zcells := by assumption) : Z K d own cc nL pc ls (zR (3, 0, 0) :: sk) μ :=
  z_get (i := 1) _ zin1 rfl (by decide) hv (fun _ => rfl) (fun _ => rfl) dg hl0 k
theorem zp_X1_at {x : Int32} (dg : decode cc pc = .ok (.putfield idx, 3)) (hl0 : Cond.fieldLink own idx "DyeTank$Pad" "at" "I" ∈ zT) (k : Z K d own cc nL (pc + 3) ls sk (st μ (3, 0, 0) (upd (μ (3, 0, 0)) 1 x))) (hv : (3, 0, 0) ∈ zcells := by assumption) : Z K d own cc nL pc ls (zI x :: zR (3, 0, 0) :: sk) μ :=
  z_put (i := 1) (ty := .int) tyX1 _ zin1 tyX1_ok nmX1 rfl (by decide) hv (fun _ _ => rfl) (fun _ _ => rfl) rfl rfl rfl rfl (fun _ _ => Nat.le_of_ble_eq_true rfl) dg hl0 k
theorem zg_X1_kind (dg : decode cc pc = .ok (.getfield idx, 3)) (hl0 : Cond.fieldLink own idx "DyeTank$Pad" "kind" "C" ∈ zT) (k : Z K d own cc nL (pc + 3) ls (zI (μ (3, 0, 0) 2) :: sk) μ) (hv : (3, 0, 0) ∈ zcells := by assumption) : Z K d own cc nL pc ls (zR (3, 0, 0) :: sk) μ :=
  z_get (i := 2) _ zin1 rfl (by decide) hv (fun _ => rfl) (fun _ => rfl) dg hl0 k
theorem zp_X1_kind {x : Int32} (dg : decode cc pc = .ok (.putfield idx, 3)) (hl0 : Cond.fieldLink own idx "DyeTank$Pad" "kind" "C" ∈ zT) (hn : narrow .char (.int x) = .int x) (hf : fits .char (.int x) = true) (k : Z K d own cc nL (pc + 3) ls sk (st μ (3, 0, 0) (upd (μ (3, 0, 0)) 2 x))) (hv : (3, 0, 0) ∈ zcells := by assumption) : Z K d own cc nL pc ls (zI x :: zR (3, 0, 0) :: sk) μ :=
  z_put (i := 2) (ty := .char) tyX1 _ zin1 tyX1_ok nmX1 rfl (by decide) hv (fun _ _ => rfl) (fun _ _ => rfl) rfl rfl hn hf (fun _ _ => Nat.le_of_ble_eq_true rfl) dg hl0 k
theorem zg_X1_colour (dg : decode cc pc = .ok (.getfield idx, 3)) (hl0 : Cond.fieldLink own idx "DyeTank$Pad" "colour" "I" ∈ zT) (k : Z K d own cc nL (pc + 3) ls (zI (μ (3, 0, 0) 3) :: sk) μ) (hv : (3, 0, 0) ∈ zcells := by assumption) : Z K d own cc nL pc ls (zR (3, 0, 0) :: sk) μ :=
  z_get (i := 3) _ zin1 rfl (by decide) hv (fun _ => rfl) (fun _ => rfl) dg hl0 k
theorem zp_X1_colour {x : Int32} (dg : decode cc pc = .ok (.putfield idx, 3)) (hl0 : Cond.fieldLink own idx "DyeTank$Pad" "colour" "I" ∈ zT) (k : Z K d own cc nL (pc + 3) ls sk (st μ (3, 0, 0) (upd (μ (3, 0, 0)) 3 x))) (hv : (3, 0, 0) ∈ zcells := by assumption) : Z K d own cc nL pc ls (zI x :: zR (3, 0, 0) :: sk) μ :=
  z_put (i := 3) (ty := .int) tyX1 _ zin1 tyX1_ok nmX1 rfl (by decide) hv (fun _ _ => rfl) (fun _ _ => rfl) rfl rfl rfl rfl (fun _ _ => Nat.le_of_ble_eq_true rfl) dg hl0 k
theorem zg_X1_layer (dg : decode cc pc = .ok (.getfield idx, 3)) (hl0 : Cond.fieldLink own idx "DyeTank$Pad" "layer" "I" ∈ zT) (k : Z K d own cc nL (pc + 3) ls (zI (μ (3, 0, 0) 4) :: sk) μ) (hv : (3, 0, 0) ∈ zcells := by assumption) : Z K d own cc nL pc ls (zR (3, 0, 0) :: sk) μ :=
  z_get (i := 4) _ zin1 rfl (by decide) hv (fun _ => rfl) (fun _ => rfl) dg hl0 k
theorem zp_X1_layer {x : Int32} (dg : decode cc pc = .ok (.putfield idx, 3)) (hl0 : Cond.fieldLink own idx "DyeTank$Pad" "layer" "I" ∈ zT) (k : Z K d own cc nL (pc + 3) ls sk (st μ (3, 0, 0) (upd (μ (3, 0, 0)) 4 x))) (hv : (3, 0, 0) ∈ zcells := by assumption) : Z K d own cc nL pc ls (zI x :: zR (3, 0, 0) :: sk) μ :=
  z_put (i := 4) (ty := .int) tyX1 _ zin1 tyX1_ok nmX1 rfl (by decide) hv (fun _ _ => rfl) (fun _ _ => rfl) rfl rfl rfl rfl (fun _ _ => Nat.le_of_ble_eq_true rfl) dg hl0 k
theorem zg_X1_ring (dg : decode cc pc = .ok (.getfield idx, 3)) (hl0 : Cond.fieldLink own idx "DyeTank$Pad" "ring" "I" ∈ zT) (k : Z K d own cc nL (pc + 3) ls (zI (μ (3, 0, 0) 5) :: sk) μ) (hv : (3, 0, 0) ∈ zcells := by assumption) : Z K d own cc nL pc ls (zR (3, 0, 0) :: sk) μ :=
  z_get (i := 5) _ zin1 rfl (by decide) hv (fun _ => rfl) (fun _ => rfl) dg hl0 k
theorem zp_X1_ring {x : Int32} (dg : decode cc pc = .ok (.putfield idx, 3)) (hl0 : Cond.fieldLink own idx "DyeTank$Pad" "ring" "I" ∈ zT) (k : Z K d own cc nL (pc + 3) ls sk (st μ (3, 0, 0) (upd (μ (3, 0, 0)) 5 x))) (hv : (3, 0, 0) ∈ zcells := by assumption) : Z K d own cc nL pc ls (zI x :: zR (3, 0, 0) :: sk) μ :=
  z_put (i := 5) (ty := .int) tyX1 _ zin1 tyX1_ok nmX1 rfl (by decide) hv (fun _ _ => rfl) (fun _ _ => rfl) rfl rfl rfl rfl (fun _ _ => Nat.le_of_ble_eq_true rfl) dg hl0 k
theorem zg_X1_sector (dg : decode cc pc = .ok (.getfield idx, 3)) (hl0 : Cond.fieldLink own idx "DyeTank$Pad" "sector" "I" ∈ zT) (k : Z K d own cc nL (pc + 3) ls (zI (μ (3, 0, 0) 6) :: sk) μ) (hv : (3, 0, 0) ∈ zcells := by assumption) : Z K d own cc nL pc ls (zR (3, 0, 0) :: sk) μ :=
  z_get (i := 6) _ zin1 rfl (by decide) hv (fun _ => rfl) (fun _ => rfl) dg hl0 k
theorem zp_X1_sector {x : Int32} (dg : decode cc pc = .ok (.putfield idx, 3)) (hl0 : Cond.fieldLink own idx "DyeTank$Pad" "sector" "I" ∈ zT) (k : Z K d own cc nL (pc + 3) ls sk (st μ (3, 0, 0) (upd (μ (3, 0, 0)) 6 x))) (hv : (3, 0, 0) ∈ zcells := by assumption) : Z K d own cc nL pc ls (zI x :: zR (3, 0, 0) :: sk) μ :=
  z_put (i := 6) (ty := .int) tyX1 _ zin1 tyX1_ok nmX1 rfl (by decide) hv (fun _ _ => rfl) (fun _ _ => rfl) rfl rfl rfl rfl (fun _ _ => Nat.le_of_ble_eq_true rfl) dg hl0 k
theorem zg_X1_number (dg : decode cc pc = .ok (.getfield idx, 3)) (hl0 : Cond.fieldLink own idx "DyeTank$Pad" "number" "I" ∈ zT) (k : Z K d own cc nL (pc + 3) ls (zI (μ (3, 0, 0) 7) :: sk) μ) (hv : (3, 0, 0) ∈ zcells := by assumption) : Z K d own cc nL pc ls (zR (3, 0, 0) :: sk) μ :=
  z_get (i := 7) _ zin1 rfl (by decide) hv (fun _ => rfl) (fun _ => rfl) dg hl0 k
theorem zp_X1_number {x : Int32} (dg : decode cc pc = .ok (.putfield idx, 3)) (hl0 : Cond.fieldLink own idx "DyeTank$Pad" "number" "I" ∈ zT) (k : Z K d own cc nL (pc + 3) ls sk (st μ (3, 0, 0) (upd (μ (3, 0, 0)) 7 x))) (hv : (3, 0, 0) ∈ zcells := by assumption) : Z K d own cc nL pc ls (zI x :: zR (3, 0, 0) :: sk) μ :=
  z_put (i := 7) (ty := .int) tyX1 _ zin1 tyX1_ok nmX1 rfl (by decide) hv (fun _ _ => rfl) (fun _ _ => rfl) rfl rfl rfl rfl (fun _ _ => Nat.le_of_ble_eq_true rfl) dg hl0 k
theorem zg_X1_text (dg : decode cc pc = .ok (.getfield idx, 3)) (hl0 : Cond.fieldLink own idx "DyeTank$Pad" "text" "[C" ∈ zT) (k : Z K d own cc nL (pc + 3) ls (zR (4, 0, 0) :: sk) μ) (hv : (3, 0, 0) ∈ zcells := by assumption) : Z K d own cc nL pc ls (zR (3, 0, 0) :: sk) μ :=
  z_get (i := 8) _ zin1 rfl (by decide) hv (fun _ => rfl) (fun _ => rfl) dg hl0 k
theorem zg_X2_rings (dg : decode cc pc = .ok (.getfield idx, 3)) (hl0 : Cond.fieldLink own idx "DyeTank$Tank" "rings" "I" ∈ zT) (k : Z K d own cc nL (pc + 3) ls (zI (μ (5, t, 0) 0) :: sk) μ) (hv : (5, t, 0) ∈ zcells := by assumption) : Z K d own cc nL pc ls (zR (5, t, 0) :: sk) μ :=
  z_get (i := 0) _ zin2 rfl (by decide) hv (fun _ => rfl) (fun _ => rfl) dg hl0 k
theorem zp_X2_rings {x : Int32} (dg : decode cc pc = .ok (.putfield idx, 3)) (hl0 : Cond.fieldLink own idx "DyeTank$Tank" "rings" "I" ∈ zT) (k : Z K d own cc nL (pc + 3) ls sk (st μ (5, t, 0) (upd (μ (5, t, 0)) 0 x))) (hv : (5, t, 0) ∈ zcells := by assumption) : Z K d own cc nL pc ls (zI x :: zR (5, t, 0) :: sk) μ :=
  z_put (i := 0) (ty := .int) tyX2 _ zin2 tyX2_ok nmX2 rfl (by decide) hv (fun _ _ => rfl) (fun _ _ => rfl) rfl rfl rfl rfl (fun _ _ => Nat.le_of_ble_eq_true rfl) dg hl0 k
theorem zg_X2_time (dg : decode cc pc = .ok (.getfield idx, 3)) (hl0 : Cond.fieldLink own idx "DyeTank$Tank" "time" "I" ∈ zT) (k : Z K d own cc nL (pc + 3) ls (zI (μ (5, t, 0) 1) :: sk) μ) (hv : (5, t, 0) ∈ zcells := by assumption) : Z K d own cc nL pc ls (zR (5, t, 0) :: sk) μ :=
  z_get (i := 1) _ zin2 rfl (by decide) hv (fun _ => rfl) (fun _ => rfl) dg hl0 k
theorem zp_X2_time {x : Int32} (dg : decode cc pc = .ok (.putfield idx, 3)) (hl0 : Cond.fieldLink own idx "DyeTank$Tank" "time" "I" ∈ zT) (k : Z K d own cc nL (pc + 3) ls sk (st μ (5, t, 0) (upd (μ (5, t, 0)) 1 x))) (hv : (5, t, 0) ∈ zcells := by assumption) : Z K d own cc nL pc ls (zI x :: zR (5, t, 0) :: sk) μ :=
  z_put (i := 1) (ty := .int) tyX2 _ zin2 tyX2_ok nmX2 rfl (by decide) hv (fun _ _ => rfl) (fun _ _ => rfl) rfl rfl rfl rfl (fun _ _ => Nat.le_of_ble_eq_true rfl) dg hl0 k
theorem zg_X2_markerCount (dg : decode cc pc = .ok (.getfield idx, 3)) (hl0 : Cond.fieldLink own idx "DyeTank$Tank" "markerCount" "I" ∈ zT) (k : Z K d own cc nL (pc + 3) ls (zI (μ (5, t, 0) 2) :: sk) μ) (hv : (5, t, 0) ∈ zcells := by assumption) : Z K d own cc nL pc ls (zR (5, t, 0) :: sk) μ :=
  z_get (i := 2) _ zin2 rfl (by decide) hv (fun _ => rfl) (fun _ => rfl) dg hl0 k
theorem zp_X2_markerCount {x : Int32} (dg : decode cc pc = .ok (.putfield idx, 3)) (hl0 : Cond.fieldLink own idx "DyeTank$Tank" "markerCount" "I" ∈ zT) (k : Z K d own cc nL (pc + 3) ls sk (st μ (5, t, 0) (upd (μ (5, t, 0)) 2 x))) (hv : (5, t, 0) ∈ zcells := by assumption) : Z K d own cc nL pc ls (zI x :: zR (5, t, 0) :: sk) μ :=
  z_put (i := 2) (ty := .int) tyX2 _ zin2 tyX2_ok nmX2 rfl (by decide) hv (fun _ _ => rfl) (fun _ _ => rfl) rfl rfl rfl rfl (fun _ _ => Nat.le_of_ble_eq_true rfl) dg hl0 k
theorem zg_X2_settings (dg : decode cc pc = .ok (.getfield idx, 3)) (hl0 : Cond.fieldLink own idx "DyeTank$Tank" "settings" "[I" ∈ zT) (k : Z K d own cc nL (pc + 3) ls (zR (6, t, 0) :: sk) μ) (hv : (5, t, 0) ∈ zcells := by assumption) : Z K d own cc nL pc ls (zR (5, t, 0) :: sk) μ :=
  z_get (i := 3) _ zin2 rfl (by decide) hv (fun _ => rfl) (fun _ => rfl) dg hl0 k
theorem zg_X2_momenta (dg : decode cc pc = .ok (.getfield idx, 3)) (hl0 : Cond.fieldLink own idx "DyeTank$Tank" "momenta" "[I" ∈ zT) (k : Z K d own cc nL (pc + 3) ls (zR (7, t, 0) :: sk) μ) (hv : (5, t, 0) ∈ zcells := by assumption) : Z K d own cc nL pc ls (zR (5, t, 0) :: sk) μ :=
  z_get (i := 4) _ zin2 rfl (by decide) hv (fun _ => rfl) (fun _ => rfl) dg hl0 k
theorem zg_X2_angles (dg : decode cc pc = .ok (.getfield idx, 3)) (hl0 : Cond.fieldLink own idx "DyeTank$Tank" "angles" "[I" ∈ zT) (k : Z K d own cc nL (pc + 3) ls (zR (8, t, 0) :: sk) μ) (hv : (5, t, 0) ∈ zcells := by assumption) : Z K d own cc nL pc ls (zR (5, t, 0) :: sk) μ :=
  z_get (i := 5) _ zin2 rfl (by decide) hv (fun _ => rfl) (fun _ => rfl) dg hl0 k
theorem zg_X2_totals (dg : decode cc pc = .ok (.getfield idx, 3)) (hl0 : Cond.fieldLink own idx "DyeTank$Tank" "totals" "[I" ∈ zT) (k : Z K d own cc nL (pc + 3) ls (zR (9, t, 0) :: sk) μ) (hv : (5, t, 0) ∈ zcells := by assumption) : Z K d own cc nL pc ls (zR (5, t, 0) :: sk) μ :=
  z_get (i := 6) _ zin2 rfl (by decide) hv (fun _ => rfl) (fun _ => rfl) dg hl0 k
theorem zg_X2_dyes (dg : decode cc pc = .ok (.getfield idx, 3)) (hl0 : Cond.fieldLink own idx "DyeTank$Tank" "dyes" "[[I" ∈ zT) (k : Z K d own cc nL (pc + 3) ls (zR (10, t, 0) :: sk) μ) (hv : (5, t, 0) ∈ zcells := by assumption) : Z K d own cc nL pc ls (zR (5, t, 0) :: sk) μ :=
  z_get (i := 7) _ zin2 rfl (by decide) hv (fun _ => rfl) (fun _ => rfl) dg hl0 k
theorem zg_X2_markers (dg : decode cc pc = .ok (.getfield idx, 3)) (hl0 : Cond.fieldLink own idx "DyeTank$Tank" "markers" "[LDyeTank$Marker;" ∈ zT) (k : Z K d own cc nL (pc + 3) ls (zR (12, t, 0) :: sk) μ) (hv : (5, t, 0) ∈ zcells := by assumption) : Z K d own cc nL pc ls (zR (5, t, 0) :: sk) μ :=
  z_get (i := 8) _ zin2 rfl (by decide) hv (fun _ => rfl) (fun _ => rfl) dg hl0 k
theorem zg_X2_speeds (dg : decode cc pc = .ok (.getfield idx, 3)) (hl0 : Cond.fieldLink own idx "DyeTank$Tank" "speeds" "[I" ∈ zT) (k : Z K d own cc nL (pc + 3) ls (zR (16, t, 0) :: sk) μ) (hv : (5, t, 0) ∈ zcells := by assumption) : Z K d own cc nL pc ls (zR (5, t, 0) :: sk) μ :=
  z_get (i := 9) _ zin2 rfl (by decide) hv (fun _ => rfl) (fun _ => rfl) dg hl0 k
theorem zg_X2_pushes (dg : decode cc pc = .ok (.getfield idx, 3)) (hl0 : Cond.fieldLink own idx "DyeTank$Tank" "pushes" "[I" ∈ zT) (k : Z K d own cc nL (pc + 3) ls (zR (17, t, 0) :: sk) μ) (hv : (5, t, 0) ∈ zcells := by assumption) : Z K d own cc nL pc ls (zR (5, t, 0) :: sk) μ :=
  z_get (i := 10) _ zin2 rfl (by decide) hv (fun _ => rfl) (fun _ => rfl) dg hl0 k
theorem zg_X2_old (dg : decode cc pc = .ok (.getfield idx, 3)) (hl0 : Cond.fieldLink own idx "DyeTank$Tank" "old" "[I" ∈ zT) (k : Z K d own cc nL (pc + 3) ls (zR (18, t, 0) :: sk) μ) (hv : (5, t, 0) ∈ zcells := by assumption) : Z K d own cc nL pc ls (zR (5, t, 0) :: sk) μ :=
  z_get (i := 11) _ zin2 rfl (by decide) hv (fun _ => rfl) (fun _ => rfl) dg hl0 k
theorem zg_X3_tank (dg : decode cc pc = .ok (.getfield idx, 3)) (hl0 : Cond.fieldLink own idx "DyeTank" "tank" "LDyeTank$Tank;" ∈ zT) (k : Z K d own cc nL (pc + 3) ls (zR (5, 0, 0) :: sk) μ) (hv : (0, 0, 0) ∈ zcells := by assumption) : Z K d own cc nL pc ls (zR (0, 0, 0) :: sk) μ :=
  z_get (i := 0) _ zin3 rfl (by decide) hv (fun _ => rfl) (fun _ => rfl) dg hl0 k
theorem zg_X3_copy (dg : decode cc pc = .ok (.getfield idx, 3)) (hl0 : Cond.fieldLink own idx "DyeTank" "copy" "LDyeTank$Tank;" ∈ zT) (k : Z K d own cc nL (pc + 3) ls (zR (5, 1, 0) :: sk) μ) (hv : (0, 0, 0) ∈ zcells := by assumption) : Z K d own cc nL pc ls (zR (0, 0, 0) :: sk) μ :=
  z_get (i := 1) _ zin3 rfl (by decide) hv (fun _ => rfl) (fun _ => rfl) dg hl0 k
theorem zg_X3_slots (dg : decode cc pc = .ok (.getfield idx, 3)) (hl0 : Cond.fieldLink own idx "DyeTank" "slots" "[LDyeTank$Tank;" ∈ zT) (k : Z K d own cc nL (pc + 3) ls (zR (1, 0, 0) :: sk) μ) (hv : (0, 0, 0) ∈ zcells := by assumption) : Z K d own cc nL pc ls (zR (0, 0, 0) :: sk) μ :=
  z_get (i := 2) _ zin3 rfl (by decide) hv (fun _ => rfl) (fun _ => rfl) dg hl0 k
theorem zg_X3_saved (dg : decode cc pc = .ok (.getfield idx, 3)) (hl0 : Cond.fieldLink own idx "DyeTank" "saved" "[Z" ∈ zT) (k : Z K d own cc nL (pc + 3) ls (zR (2, 0, 0) :: sk) μ) (hv : (0, 0, 0) ∈ zcells := by assumption) : Z K d own cc nL pc ls (zR (0, 0, 0) :: sk) μ :=
  z_get (i := 3) _ zin3 rfl (by decide) hv (fun _ => rfl) (fun _ => rfl) dg hl0 k
theorem zg_X3_pad (dg : decode cc pc = .ok (.getfield idx, 3)) (hl0 : Cond.fieldLink own idx "DyeTank" "pad" "LDyeTank$Pad;" ∈ zT) (k : Z K d own cc nL (pc + 3) ls (zR (3, 0, 0) :: sk) μ) (hv : (0, 0, 0) ∈ zcells := by assumption) : Z K d own cc nL pc ls (zR (0, 0, 0) :: sk) μ :=
  z_get (i := 4) _ zin3 rfl (by decide) hv (fun _ => rfl) (fun _ => rfl) dg hl0 k
theorem zg_X4_at (dg : decode cc pc = .ok (.getfield idx, 3)) (hl0 : Cond.fieldLink own idx "DyeTankModel" "at" "[I" ∈ zT) (k : Z K d own cc nL (pc + 3) ls (zR (21, 0, 0) :: sk) μ) (hv : (20, 0, 0) ∈ zcells := by assumption) : Z K d own cc nL pc ls (zR (20, 0, 0) :: sk) μ :=
  z_get (i := 0) _ zin4 rfl (by decide) hv (fun _ => rfl) (fun _ => rfl) dg hl0 k
theorem zg_X4_aside (dg : decode cc pc = .ok (.getfield idx, 3)) (hl0 : Cond.fieldLink own idx "DyeTankModel" "aside" "[I" ∈ zT) (k : Z K d own cc nL (pc + 3) ls (zR (22, 0, 0) :: sk) μ) (hv : (20, 0, 0) ∈ zcells := by assumption) : Z K d own cc nL pc ls (zR (20, 0, 0) :: sk) μ :=
  z_get (i := 1) _ zin4 rfl (by decide) hv (fun _ => rfl) (fun _ => rfl) dg hl0 k
theorem zg_X4_slots (dg : decode cc pc = .ok (.getfield idx, 3)) (hl0 : Cond.fieldLink own idx "DyeTankModel" "slots" "[I" ∈ zT) (k : Z K d own cc nL (pc + 3) ls (zR (23, 0, 0) :: sk) μ) (hv : (20, 0, 0) ∈ zcells := by assumption) : Z K d own cc nL pc ls (zR (20, 0, 0) :: sk) μ :=
  z_get (i := 2) _ zin4 rfl (by decide) hv (fun _ => rfl) (fun _ => rfl) dg hl0 k
theorem zg_X4_isSaved (dg : decode cc pc = .ok (.getfield idx, 3)) (hl0 : Cond.fieldLink own idx "DyeTankModel" "isSaved" "[Z" ∈ zT) (k : Z K d own cc nL (pc + 3) ls (zR (24, 0, 0) :: sk) μ) (hv : (20, 0, 0) ∈ zcells := by assumption) : Z K d own cc nL pc ls (zR (20, 0, 0) :: sk) μ :=
  z_get (i := 3) _ zin4 rfl (by decide) hv (fun _ => rfl) (fun _ => rfl) dg hl0 k
theorem zg_X4_before (dg : decode cc pc = .ok (.getfield idx, 3)) (hl0 : Cond.fieldLink own idx "DyeTankModel" "before" "[I" ∈ zT) (k : Z K d own cc nL (pc + 3) ls (zR (25, 0, 0) :: sk) μ) (hv : (20, 0, 0) ∈ zcells := by assumption) : Z K d own cc nL pc ls (zR (20, 0, 0) :: sk) μ :=
  z_get (i := 4) _ zin4 rfl (by decide) hv (fun _ => rfl) (fun _ => rfl) dg hl0 k
theorem zg_X4_speed (dg : decode cc pc = .ok (.getfield idx, 3)) (hl0 : Cond.fieldLink own idx "DyeTankModel" "speed" "[I" ∈ zT) (k : Z K d own cc nL (pc + 3) ls (zR (26, 0, 0) :: sk) μ) (hv : (20, 0, 0) ∈ zcells := by assumption) : Z K d own cc nL pc ls (zR (20, 0, 0) :: sk) μ :=
  z_get (i := 5) _ zin4 rfl (by decide) hv (fun _ => rfl) (fun _ => rfl) dg hl0 k
theorem zg_X4_pad (dg : decode cc pc = .ok (.getfield idx, 3)) (hl0 : Cond.fieldLink own idx "DyeTankModel" "pad" "[I" ∈ zT) (k : Z K d own cc nL (pc + 3) ls (zR (27, 0, 0) :: sk) μ) (hv : (20, 0, 0) ∈ zcells := by assumption) : Z K d own cc nL pc ls (zR (20, 0, 0) :: sk) μ :=
  z_get (i := 6) _ zin4 rfl (by decide) hv (fun _ => rfl) (fun _ => rfl) dg hl0 k
theorem zg_X4_padMany (dg : decode cc pc = .ok (.getfield idx, 3)) (hl0 : Cond.fieldLink own idx "DyeTankModel" "padMany" "I" ∈ zT) (k : Z K d own cc nL (pc + 3) ls (zI (μ (20, 0, 0) 7) :: sk) μ) (hv : (20, 0, 0) ∈ zcells := by assumption) : Z K d own cc nL pc ls (zR (20, 0, 0) :: sk) μ :=
  z_get (i := 7) _ zin4 rfl (by decide) hv (fun _ => rfl) (fun _ => rfl) dg hl0 k
theorem zp_X4_padMany {x : Int32} (dg : decode cc pc = .ok (.putfield idx, 3)) (hl0 : Cond.fieldLink own idx "DyeTankModel" "padMany" "I" ∈ zT) (k : Z K d own cc nL (pc + 3) ls sk (st μ (20, 0, 0) (upd (μ (20, 0, 0)) 7 x))) (hv : (20, 0, 0) ∈ zcells := by assumption) : Z K d own cc nL pc ls (zI x :: zR (20, 0, 0) :: sk) μ :=
  z_put (i := 7) (ty := .int) tyX4 _ zin4 tyX4_ok nmX4 rfl (by decide) hv (fun _ _ => rfl) (fun _ _ => rfl) rfl rfl rfl rfl (fun _ _ => Nat.le_of_ble_eq_true rfl) dg hl0 k
theorem zg_X4_spot (dg : decode cc pc = .ok (.getfield idx, 3)) (hl0 : Cond.fieldLink own idx "DyeTankModel" "spot" "I" ∈ zT) (k : Z K d own cc nL (pc + 3) ls (zI (μ (20, 0, 0) 8) :: sk) μ) (hv : (20, 0, 0) ∈ zcells := by assumption) : Z K d own cc nL pc ls (zR (20, 0, 0) :: sk) μ :=
  z_get (i := 8) _ zin4 rfl (by decide) hv (fun _ => rfl) (fun _ => rfl) dg hl0 k
theorem zp_X4_spot {x : Int32} (dg : decode cc pc = .ok (.putfield idx, 3)) (hl0 : Cond.fieldLink own idx "DyeTankModel" "spot" "I" ∈ zT) (k : Z K d own cc nL (pc + 3) ls sk (st μ (20, 0, 0) (upd (μ (20, 0, 0)) 8 x))) (hv : (20, 0, 0) ∈ zcells := by assumption) : Z K d own cc nL pc ls (zI x :: zR (20, 0, 0) :: sk) μ :=
  z_put (i := 8) (ty := .int) tyX4 _ zin4 tyX4_ok nmX4 rfl (by decide) hv (fun _ _ => rfl) (fun _ _ => rfl) rfl rfl rfl rfl (fun _ _ => Nat.le_of_ble_eq_true rfl) dg hl0 k
theorem zg_X4_isWrong (dg : decode cc pc = .ok (.getfield idx, 3)) (hl0 : Cond.fieldLink own idx "DyeTankModel" "isWrong" "Z" ∈ zT) (k : Z K d own cc nL (pc + 3) ls (zI (μ (20, 0, 0) 9) :: sk) μ) (hv : (20, 0, 0) ∈ zcells := by assumption) : Z K d own cc nL pc ls (zR (20, 0, 0) :: sk) μ :=
  z_get (i := 9) _ zin4 rfl (by decide) hv (fun _ => rfl) (fun _ => rfl) dg hl0 k
theorem zp_X4_isWrong {x : Int32} (dg : decode cc pc = .ok (.putfield idx, 3)) (hl0 : Cond.fieldLink own idx "DyeTankModel" "isWrong" "Z" ∈ zT) (hn : narrow .boolean (.int x) = .int x) (hf : fits .boolean (.int x) = true) (k : Z K d own cc nL (pc + 3) ls sk (st μ (20, 0, 0) (upd (μ (20, 0, 0)) 9 x))) (hv : (20, 0, 0) ∈ zcells := by assumption) : Z K d own cc nL pc ls (zI x :: zR (20, 0, 0) :: sk) μ :=
  z_put (i := 9) (ty := .boolean) tyX4 _ zin4 tyX4_ok nmX4 rfl (by decide) hv (fun _ _ => rfl) (fun _ _ => rfl) rfl rfl hn hf (fun _ _ => Nat.le_of_ble_eq_true rfl) dg hl0 k
theorem zg_X4_steps (dg : decode cc pc = .ok (.getfield idx, 3)) (hl0 : Cond.fieldLink own idx "DyeTankModel" "steps" "[I" ∈ zT) (k : Z K d own cc nL (pc + 3) ls (zR (28, 0, 0) :: sk) μ) (hv : (20, 0, 0) ∈ zcells := by assumption) : Z K d own cc nL pc ls (zR (20, 0, 0) :: sk) μ :=
  z_get (i := 10) _ zin4 rfl (by decide) hv (fun _ => rfl) (fun _ => rfl) dg hl0 k
theorem zg_X4_stepMany (dg : decode cc pc = .ok (.getfield idx, 3)) (hl0 : Cond.fieldLink own idx "DyeTankModel" "stepMany" "I" ∈ zT) (k : Z K d own cc nL (pc + 3) ls (zI (μ (20, 0, 0) 11) :: sk) μ) (hv : (20, 0, 0) ∈ zcells := by assumption) : Z K d own cc nL pc ls (zR (20, 0, 0) :: sk) μ :=
  z_get (i := 11) _ zin4 rfl (by decide) hv (fun _ => rfl) (fun _ => rfl) dg hl0 k
theorem zp_X4_stepMany {x : Int32} (dg : decode cc pc = .ok (.putfield idx, 3)) (hl0 : Cond.fieldLink own idx "DyeTankModel" "stepMany" "I" ∈ zT) (k : Z K d own cc nL (pc + 3) ls sk (st μ (20, 0, 0) (upd (μ (20, 0, 0)) 11 x))) (hv : (20, 0, 0) ∈ zcells := by assumption) : Z K d own cc nL pc ls (zI x :: zR (20, 0, 0) :: sk) μ :=
  z_put (i := 11) (ty := .int) tyX4 _ zin4 tyX4_ok nmX4 rfl (by decide) hv (fun _ _ => rfl) (fun _ _ => rfl) rfl rfl rfl rfl (fun _ _ => Nat.le_of_ble_eq_true rfl) dg hl0 k
end ZFIELDS
theorem q_X0_putIn : zMv 0 yX0_putIn prog_2_method_2_code 3 (none : Option Jvm.ClassFile.FieldType) 2 := ⟨⟨⟨by decide +kernel, by decide +kernel⟩, by decide +kernel, tw_391, tw_3, by decide⟩, by decide +kernel, tw_389, tw_390⟩
theorem q_X0_becomeLike : zMv 0 yX0_becomeLike prog_2_method_3_code 2 (none : Option Jvm.ClassFile.FieldType) 1 := ⟨⟨⟨by decide +kernel, by decide +kernel⟩, by decide +kernel, tw_424, tw_3, by decide⟩, by decide +kernel, tw_422, tw_423⟩
theorem q_X0_ringNow : zMv 0 yX0_ringNow prog_2_method_4_code 1 (some .int) 0 := ⟨⟨⟨by decide +kernel, by decide +kernel⟩, by decide +kernel, tw_310, tw_3, by decide⟩, by decide +kernel, tw_308, tw_309⟩
theorem q_X0_move : zMv 0 yX0_move prog_2_method_5_code 5 (none : Option Jvm.ClassFile.FieldType) 3 := ⟨⟨⟨by decide +kernel, by decide +kernel⟩, by decide +kernel, tw_318, tw_3, by decide⟩, by decide +kernel, tw_316, tw_317⟩
theorem q_X0_keepPosition : zMv 0 yX0_keepPosition prog_2_method_6_code 1 (none : Option Jvm.ClassFile.FieldType) 0 := ⟨⟨⟨by decide +kernel, by decide +kernel⟩, by decide +kernel, tw_326, tw_3, by decide⟩, by decide +kernel, tw_325, tp_4⟩
theorem q_X0_placeBack : zMv 0 yX0_placeBack prog_2_method_7_code 2 (some .int) 1 := ⟨⟨⟨by decide +kernel, by decide +kernel⟩, by decide +kernel, tw_408, tw_3, by decide⟩, by decide +kernel, tw_406, tw_407⟩
theorem q_X0_angleBack : zMv 0 yX0_angleBack prog_2_method_8_code 2 (some .int) 1 := ⟨⟨⟨by decide +kernel, by decide +kernel⟩, by decide +kernel, tw_412, tw_3, by decide⟩, by decide +kernel, tw_410, tw_411⟩
theorem q_X0_isNear : zMv 0 yX0_isNear prog_2_method_9_code 4 (some .boolean) 2 := ⟨⟨⟨by decide +kernel, by decide +kernel⟩, by decide +kernel, tw_444, tw_3, by decide⟩, by decide +kernel, tw_442, tw_443⟩
theorem q_X1_append : zMv 1 yX1_append prog_3_method_2_code 2 (none : Option Jvm.ClassFile.FieldType) 1 := ⟨⟨⟨by decide +kernel, by decide +kernel⟩, by decide +kernel, tw_462, tw_6, by decide⟩, by decide +kernel, tw_460, tw_461⟩
theorem q_X1_firstFault : zMv 1 yX1_firstFault prog_3_method_3_code 2 (some .int) 0 := ⟨⟨⟨by decide +kernel, by decide +kernel⟩, by decide +kernel, tw_474, tw_6, by decide⟩, by decide +kernel, tw_472, tw_473⟩
theorem q_X1_readStep : zMv 1 yX1_readStep prog_3_method_4_code 1 (some .boolean) 0 := ⟨⟨⟨by decide +kernel, by decide +kernel⟩, by decide +kernel, tw_478, tw_6, by decide⟩, by decide +kernel, tw_476, tw_477⟩
theorem q_X1_readRing : zMv 1 yX1_readRing prog_3_method_5_code 1 (some .boolean) 0 := ⟨⟨⟨by decide +kernel, by decide +kernel⟩, by decide +kernel, tw_498, tw_6, by decide⟩, by decide +kernel, tw_497, tp_10⟩
theorem q_X1_readVelocity : zMv 1 yX1_readVelocity prog_3_method_6_code 3 (some .boolean) 0 := ⟨⟨⟨by decide +kernel, by decide +kernel⟩, by decide +kernel, tw_502, tw_6, by decide⟩, by decide +kernel, tw_501, tp_11⟩
theorem q_X1_readColour : zMv 1 yX1_readColour prog_3_method_7_code 1 (some .boolean) 0 := ⟨⟨⟨by decide +kernel, by decide +kernel⟩, by decide +kernel, tw_506, tw_6, by decide⟩, by decide +kernel, tw_505, tp_12⟩
theorem q_X1_readLayer : zMv 1 yX1_readLayer prog_3_method_8_code 1 (some .boolean) 0 := ⟨⟨⟨by decide +kernel, by decide +kernel⟩, by decide +kernel, tw_510, tw_6, by decide⟩, by decide +kernel, tw_509, tp_13⟩
theorem q_X1_readSector : zMv 1 yX1_readSector prog_3_method_9_code 1 (some .boolean) 0 := ⟨⟨⟨by decide +kernel, by decide +kernel⟩, by decide +kernel, tw_514, tw_6, by decide⟩, by decide +kernel, tw_513, tp_14⟩
theorem q_X1_readAmount : zMv 1 yX1_readAmount prog_3_method_10_code 1 (some .boolean) 0 := ⟨⟨⟨by decide +kernel, by decide +kernel⟩, by decide +kernel, tw_518, tw_6, by decide⟩, by decide +kernel, tw_517, tp_15⟩
theorem q_X1_readNumber : zMv 1 yX1_readNumber prog_3_method_11_code 5 (some .int) 2 := ⟨⟨⟨by decide +kernel, by decide +kernel⟩, by decide +kernel, tw_490, tw_6, by decide⟩, by decide +kernel, tw_489, tp_8⟩
theorem q_X1_digit : zMv 1 yX1_digit prog_3_method_12_code 2 (some .int) 0 := ⟨⟨⟨by decide +kernel, by decide +kernel⟩, by decide +kernel, tw_494, tw_6, by decide⟩, by decide +kernel, tw_493, tp_9⟩
theorem q_X1_take : zMv 1 yX1_take prog_3_method_13_code 2 (some .boolean) 1 := ⟨⟨⟨by decide +kernel, by decide +kernel⟩, by decide +kernel, tw_486, tw_6, by decide⟩, by decide +kernel, tw_484, tw_485⟩
theorem q_X1_character : zMv 1 yX1_character prog_3_method_14_code 1 (some .char) 0 := ⟨⟨⟨by decide +kernel, by decide +kernel⟩, by decide +kernel, tw_482, tw_6, by decide⟩, by decide +kernel, tw_481, tp_7⟩
theorem q_X2_startAgain : zMv 2 yX2_startAgain prog_4_method_2_code 3 (none : Option Jvm.ClassFile.FieldType) 1 := ⟨⟨⟨by decide +kernel, by decide +kernel⟩, by decide +kernel, tw_62, tw_2, by decide⟩, by decide +kernel, tw_60, tw_61⟩
theorem q_X2_becomeLike : zMv 2 yX2_becomeLike prog_4_method_3_code 3 (none : Option Jvm.ClassFile.FieldType) 1 := ⟨⟨⟨by decide +kernel, by decide +kernel⟩, by decide +kernel, tw_420, tw_2, by decide⟩, by decide +kernel, tw_418, tw_419⟩
theorem q_X2_hasRing : zMv 2 yX2_hasRing prog_4_method_4_code 2 (some .boolean) 1 := ⟨⟨⟨by decide +kernel, by decide +kernel⟩, by decide +kernel, tw_202, tw_2, by decide⟩, by decide +kernel, tw_200, tw_201⟩
theorem q_X2_hasMarker : zMv 2 yX2_hasMarker prog_4_method_5_code 2 (some .boolean) 1 := ⟨⟨⟨by decide +kernel, by decide +kernel⟩, by decide +kernel, tw_399, tw_2, by decide⟩, by decide +kernel, tw_397, tw_398⟩
theorem q_X2_lastPlace : zMv 2 yX2_lastPlace prog_4_method_6_code 1 (some .int) 0 := ⟨⟨⟨by decide +kernel, by decide +kernel⟩, by decide +kernel, tw_314, tw_2, by decide⟩, by decide +kernel, tw_312, tw_313⟩
theorem q_X2_weightOf : zMs yX2_weightOf prog_4_method_7_code 1 (some .int) 1 := ⟨⟨⟨by decide +kernel, by decide +kernel⟩, by decide +kernel, tw_213, tw_2, by decide⟩, tw_212⟩
theorem q_X2_velocityOf : zMv 2 yX2_velocityOf prog_4_method_8_code 2 (some .int) 1 := ⟨⟨⟨by decide +kernel, by decide +kernel⟩, by decide +kernel, tw_210, tw_2, by decide⟩, by decide +kernel, tw_208, tw_209⟩
theorem q_X2_giveVelocity : zMv 2 yX2_giveVelocity prog_4_method_9_code 3 (none : Option Jvm.ClassFile.FieldType) 2 := ⟨⟨⟨by decide +kernel, by decide +kernel⟩, by decide +kernel, tw_220, tw_2, by decide⟩, by decide +kernel, tw_218, tw_219⟩
theorem q_X2_giveVelocities : zMv 2 yX2_giveVelocities prog_4_method_10_code 5 (none : Option Jvm.ClassFile.FieldType) 2 := ⟨⟨⟨by decide +kernel, by decide +kernel⟩, by decide +kernel, tw_228, tw_2, by decide⟩, by decide +kernel, tw_226, tw_227⟩
theorem q_X2_pushOf : zMv 2 yX2_pushOf prog_4_method_11_code 3 (some .int) 1 := ⟨⟨⟨by decide +kernel, by decide +kernel⟩, by decide +kernel, tw_281, tw_2, by decide⟩, by decide +kernel, tw_279, tw_280⟩
theorem q_X2_allMomenta : zMv 2 yX2_allMomenta prog_4_method_12_code 3 (some .int) 0 := ⟨⟨⟨by decide +kernel, by decide +kernel⟩, by decide +kernel, tw_236, tw_2, by decide⟩, by decide +kernel, tw_234, tw_235⟩
theorem q_X2_greatestShear : zMv 2 yX2_greatestShear prog_4_method_13_code 3 (some .int) 0 := ⟨⟨⟨by decide +kernel, by decide +kernel⟩, by decide +kernel, tw_382, tw_2, by decide⟩, by decide +kernel, tw_380, tw_381⟩
theorem q_X2_turnsWithFloor : zMv 2 yX2_turnsWithFloor prog_4_method_14_code 3 (some .boolean) 1 := ⟨⟨⟨by decide +kernel, by decide +kernel⟩, by decide +kernel, tw_429, tw_2, by decide⟩, by decide +kernel, tw_427, tw_428⟩
theorem q_X2_rowOf : zMs yX2_rowOf prog_4_method_15_code 2 (some .int) 2 := ⟨⟨⟨by decide +kernel, by decide +kernel⟩, by decide +kernel, tw_256, tw_2, by decide⟩, tw_255⟩
theorem q_X2_cellIn : zMv 2 yX2_cellIn prog_4_method_16_code 4 (some .int) 3 := ⟨⟨⟨by decide +kernel, by decide +kernel⟩, by decide +kernel, tw_253, tw_2, by decide⟩, by decide +kernel, tw_251, tw_252⟩
theorem q_X2_amountInRing : zMv 2 yX2_amountInRing prog_4_method_17_code 3 (some .int) 2 := ⟨⟨⟨by decide +kernel, by decide +kernel⟩, by decide +kernel, tw_335, tw_2, by decide⟩, by decide +kernel, tw_333, tw_334⟩
theorem q_X2_amountInTop : zMv 2 yX2_amountInTop prog_4_method_18_code 4 (some .int) 1 := ⟨⟨⟨by decide +kernel, by decide +kernel⟩, by decide +kernel, tw_352, tw_2, by decide⟩, by decide +kernel, tw_350, tw_351⟩
theorem q_X2_amountInRow : zMv 2 yX2_amountInRow prog_4_method_19_code 8 (some .int) 3 := ⟨⟨⟨by decide +kernel, by decide +kernel⟩, by decide +kernel, tw_339, tw_2, by decide⟩, by decide +kernel, tw_338, tp_5⟩
theorem q_X2_cellsWith : zMv 2 yX2_cellsWith prog_4_method_20_code 5 (some .int) 1 := ⟨⟨⟨by decide +kernel, by decide +kernel⟩, by decide +kernel, tw_356, tw_2, by decide⟩, by decide +kernel, tw_354, tw_355⟩
theorem q_X2_greatestAmount : zMv 2 yX2_greatestAmount prog_4_method_21_code 5 (some .int) 1 := ⟨⟨⟨by decide +kernel, by decide +kernel⟩, by decide +kernel, tw_360, tw_2, by decide⟩, by decide +kernel, tw_358, tw_359⟩
theorem q_X2_meanPlace : zMv 2 yX2_meanPlace prog_4_method_22_code 5 (some .long) 1 := ⟨⟨⟨by decide +kernel, by decide +kernel⟩, by decide +kernel, tw_364, tw_2, by decide⟩, by decide +kernel, tw_362, tw_363⟩
theorem q_X2_unevenness : zMv 2 yX2_unevenness prog_4_method_23_code 11 (some .long) 1 := ⟨⟨⟨by decide +kernel, by decide +kernel⟩, by decide +kernel, tw_370, tw_2, by decide⟩, by decide +kernel, tw_368, tw_369⟩
theorem q_X2_makeTick : zMv 2 yX2_makeTick prog_4_method_24_code 2 (none : Option Jvm.ClassFile.FieldType) 0 := ⟨⟨⟨by decide +kernel, by decide +kernel⟩, by decide +kernel, tw_268, tw_2, by decide⟩, by decide +kernel, tw_266, tw_267⟩
theorem q_X2_turn : zMv 2 yX2_turn prog_4_method_25_code 2 (none : Option Jvm.ClassFile.FieldType) 0 := ⟨⟨⟨by decide +kernel, by decide +kernel⟩, by decide +kernel, tw_272, tw_2, by decide⟩, by decide +kernel, tw_270, tw_271⟩
theorem q_X2_changeMomenta : zMv 2 yX2_changeMomenta prog_4_method_26_code 4 (none : Option Jvm.ClassFile.FieldType) 0 := ⟨⟨⟨by decide +kernel, by decide +kernel⟩, by decide +kernel, tw_276, tw_2, by decide⟩, by decide +kernel, tw_275, tp_1⟩
theorem q_X2_carry : zMv 2 yX2_carry prog_4_method_27_code 6 (none : Option Jvm.ClassFile.FieldType) 1 := ⟨⟨⟨by decide +kernel, by decide +kernel⟩, by decide +kernel, tw_288, tw_2, by decide⟩, by decide +kernel, tw_286, tw_287⟩
theorem q_X2_moveRow : zMv 2 yX2_moveRow prog_4_method_28_code 12 (none : Option Jvm.ClassFile.FieldType) 5 := ⟨⟨⟨by decide +kernel, by decide +kernel⟩, by decide +kernel, tw_295, tw_2, by decide⟩, by decide +kernel, tw_294, tp_2⟩
theorem q_X2_mixLayers : zMv 2 yX2_mixLayers prog_4_method_29_code 7 (none : Option Jvm.ClassFile.FieldType) 1 := ⟨⟨⟨by decide +kernel, by decide +kernel⟩, by decide +kernel, tw_301, tw_2, by decide⟩, by decide +kernel, tw_300, tp_3⟩
theorem q_X2_moveMarkers : zMv 2 yX2_moveMarkers prog_4_method_30_code 4 (none : Option Jvm.ClassFile.FieldType) 0 := ⟨⟨⟨by decide +kernel, by decide +kernel⟩, by decide +kernel, tw_306, tw_2, by decide⟩, by decide +kernel, tw_304, tw_305⟩
theorem q_X3_setUp : zMv 3 yX3_setUp prog_1_method_2_code 3 (some .int) 1 := ⟨⟨⟨by decide +kernel, by decide +kernel⟩, by decide +kernel, tw_181, tw_1, by decide⟩, by decide +kernel, tw_179, tw_180⟩
theorem q_X3_set : zMv 3 yX3_set prog_1_method_3_code 4 (some .int) 2 := ⟨⟨⟨by decide +kernel, by decide +kernel⟩, by decide +kernel, tw_189, tw_1, by decide⟩, by decide +kernel, tw_187, tw_188⟩
theorem q_X3_spin : zMv 3 yX3_spin prog_1_method_4_code 4 (some .int) 2 := ⟨⟨⟨by decide +kernel, by decide +kernel⟩, by decide +kernel, tw_198, tw_1, by decide⟩, by decide +kernel, tw_196, tw_197⟩
theorem q_X3_spinAll : zMv 3 yX3_spinAll prog_1_method_5_code 3 (some .int) 2 := ⟨⟨⟨by decide +kernel, by decide +kernel⟩, by decide +kernel, tw_224, tw_1, by decide⟩, by decide +kernel, tw_222, tw_223⟩
theorem q_X3_pour : zMv 3 yX3_pour prog_1_method_6_code 6 (some .int) 5 := ⟨⟨⟨by decide +kernel, by decide +kernel⟩, by decide +kernel, tw_240, tw_1, by decide⟩, by decide +kernel, tw_238, tw_239⟩
theorem q_X3_tick : zMv 3 yX3_tick prog_1_method_7_code 3 (some .int) 1 := ⟨⟨⟨by decide +kernel, by decide +kernel⟩, by decide +kernel, tw_263, tw_1, by decide⟩, by decide +kernel, tw_261, tw_262⟩
theorem q_X3_ring : zMv 3 yX3_ring prog_1_method_8_code 3 (some .int) 2 := ⟨⟨⟨by decide +kernel, by decide +kernel⟩, by decide +kernel, tw_330, tw_1, by decide⟩, by decide +kernel, tw_328, tw_329⟩
theorem q_X3_dye : zMv 3 yX3_dye prog_1_method_9_code 5 (some .int) 4 := ⟨⟨⟨by decide +kernel, by decide +kernel⟩, by decide +kernel, tw_343, tw_1, by decide⟩, by decide +kernel, tw_341, tw_342⟩
theorem q_X3_colour : zMv 3 yX3_colour prog_1_method_10_code 3 (some .long) 2 := ⟨⟨⟨by decide +kernel, by decide +kernel⟩, by decide +kernel, tw_347, tw_1, by decide⟩, by decide +kernel, tw_345, tw_346⟩
theorem q_X3_state : zMv 3 yX3_state prog_1_method_11_code 2 (some .int) 1 := ⟨⟨⟨by decide +kernel, by decide +kernel⟩, by decide +kernel, tw_378, tw_1, by decide⟩, by decide +kernel, tw_376, tw_377⟩
theorem q_X3_marker : zMv 3 yX3_marker prog_1_method_12_code 4 (some .int) 2 := ⟨⟨⟨by decide +kernel, by decide +kernel⟩, by decide +kernel, tw_386, tw_1, by decide⟩, by decide +kernel, tw_384, tw_385⟩
theorem q_X3_where : zMv 3 yX3_where prog_1_method_13_code 4 (some .int) 2 := ⟨⟨⟨by decide +kernel, by decide +kernel⟩, by decide +kernel, tw_395, tw_1, by decide⟩, by decide +kernel, tw_393, tw_394⟩
theorem q_X3_path : zMv 3 yX3_path prog_1_method_14_code 5 (some .int) 3 := ⟨⟨⟨by decide +kernel, by decide +kernel⟩, by decide +kernel, tw_404, tw_1, by decide⟩, by decide +kernel, tw_402, tw_403⟩
theorem q_X3_settles : zMv 3 yX3_settles prog_1_method_15_code 4 (some .int) 2 := ⟨⟨⟨by decide +kernel, by decide +kernel⟩, by decide +kernel, tw_416, tw_1, by decide⟩, by decide +kernel, tw_414, tw_415⟩
theorem q_X3_arrives : zMv 3 yX3_arrives prog_1_method_16_code 8 (some .int) 4 := ⟨⟨⟨by decide +kernel, by decide +kernel⟩, by decide +kernel, tw_434, tw_1, by decide⟩, by decide +kernel, tw_432, tw_433⟩
theorem q_X3_meet : zMv 3 yX3_meet prog_1_method_17_code 6 (some .int) 4 := ⟨⟨⟨by decide +kernel, by decide +kernel⟩, by decide +kernel, tw_440, tw_1, by decide⟩, by decide +kernel, tw_438, tw_439⟩
theorem q_X3_leastEkman : zMv 3 yX3_leastEkman prog_1_method_18_code 5 (some .int) 3 := ⟨⟨⟨by decide +kernel, by decide +kernel⟩, by decide +kernel, tw_450, tw_1, by decide⟩, by decide +kernel, tw_448, tw_449⟩
theorem q_X3_placeWith : zMv 3 yX3_placeWith prog_1_method_19_code 5 (some .long) 3 := ⟨⟨⟨by decide +kernel, by decide +kernel⟩, by decide +kernel, tw_454, tw_1, by decide⟩, by decide +kernel, tw_453, tp_6⟩
theorem q_X3_say : zMv 3 yX3_say prog_1_method_20_code 2 (some .int) 1 := ⟨⟨⟨by decide +kernel, by decide +kernel⟩, by decide +kernel, tw_458, tw_1, by decide⟩, by decide +kernel, tw_456, tw_457⟩
theorem q_X3_wipe : zMv 3 yX3_wipe prog_1_method_21_code 2 (some .int) 0 := ⟨⟨⟨by decide +kernel, by decide +kernel⟩, by decide +kernel, tw_466, tw_1, by decide⟩, by decide +kernel, tw_464, tw_465⟩
theorem q_X3_fault : zMv 3 yX3_fault prog_1_method_22_code 1 (some .int) 0 := ⟨⟨⟨by decide +kernel, by decide +kernel⟩, by decide +kernel, tw_470, tw_1, by decide⟩, by decide +kernel, tw_468, tw_469⟩
theorem q_X3_carryOut : zMv 3 yX3_carryOut prog_1_method_23_code 3 (some .int) 0 := ⟨⟨⟨by decide +kernel, by decide +kernel⟩, by decide +kernel, tw_523, tw_1, by decide⟩, by decide +kernel, tw_521, tw_522⟩
theorem q_X3_carriedOut : zMv 3 yX3_carriedOut prog_1_method_24_code 1 (some .boolean) 0 := ⟨⟨⟨by decide +kernel, by decide +kernel⟩, by decide +kernel, tw_528, tw_1, by decide⟩, by decide +kernel, tw_527, tp_16⟩
theorem q_X3_save : zMv 3 yX3_save prog_1_method_25_code 2 (some .int) 1 := ⟨⟨⟨by decide +kernel, by decide +kernel⟩, by decide +kernel, tw_537, tw_1, by decide⟩, by decide +kernel, tw_535, tw_536⟩
theorem q_X3_restore : zMv 3 yX3_restore prog_1_method_26_code 2 (some .int) 1 := ⟨⟨⟨by decide +kernel, by decide +kernel⟩, by decide +kernel, tw_541, tw_1, by decide⟩, by decide +kernel, tw_539, tw_540⟩
theorem q_X3_isPlaceOfDye : zMv 3 yX3_isPlaceOfDye prog_1_method_27_code 5 (some .boolean) 4 := ⟨⟨⟨by decide +kernel, by decide +kernel⟩, by decide +kernel, tw_244, tw_1, by decide⟩, by decide +kernel, tw_243, tp_0⟩
theorem q_X3_isColour : zMs yX3_isColour prog_1_method_28_code 1 (some .boolean) 1 := ⟨⟨⟨by decide +kernel, by decide +kernel⟩, by decide +kernel, tw_247, tw_1, by decide⟩, tw_246⟩
theorem q_X3_isSpeed : zMs yX3_isSpeed prog_1_method_29_code 1 (some .boolean) 1 := ⟨⟨⟨by decide +kernel, by decide +kernel⟩, by decide +kernel, tw_206, tw_1, by decide⟩, tw_205⟩
theorem q_X3_within : zMs yX3_within prog_1_method_30_code 3 (some .boolean) 3 := ⟨⟨⟨by decide +kernel, by decide +kernel⟩, by decide +kernel, tw_184, tw_1, by decide⟩, tw_183⟩
theorem q_X4_in : zMs yX4_in prog_6_method_2_code 3 (some .boolean) 3 := ⟨⟨⟨by decide +kernel, by decide +kernel⟩, by decide +kernel, tw_595, tw_7, by decide⟩, tw_594⟩
theorem q_X4_down : zMs yX4_down prog_6_method_3_code 2 (some .int) 2 := ⟨⟨⟨by decide +kernel, by decide +kernel⟩, by decide +kernel, tw_622, tw_7, by decide⟩, tw_621⟩
theorem q_X4_mod : zMs yX4_mod prog_6_method_4_code 3 (some .int) 2 := ⟨⟨⟨by decide +kernel, by decide +kernel⟩, by decide +kernel, tw_658, tw_7, by decide⟩, tw_657⟩
theorem q_X4_begin : zMv 4 yX4_begin prog_6_method_5_code 3 (none : Option Jvm.ClassFile.FieldType) 1 := ⟨⟨⟨by decide +kernel, by decide +kernel⟩, by decide +kernel, tw_551, tw_7, by decide⟩, by decide +kernel, tw_550, tp_17⟩
theorem q_X4_putAside : zMv 4 yX4_putAside prog_6_method_6_code 2 (none : Option Jvm.ClassFile.FieldType) 0 := ⟨⟨⟨by decide +kernel, by decide +kernel⟩, by decide +kernel, tw_768, tw_7, by decide⟩, by decide +kernel, tw_767, tp_40⟩
theorem q_X4_putBack : zMv 4 yX4_putBack prog_6_method_7_code 2 (none : Option Jvm.ClassFile.FieldType) 0 := ⟨⟨⟨by decide +kernel, by decide +kernel⟩, by decide +kernel, tw_788, tw_7, by decide⟩, by decide +kernel, tw_787, tp_45⟩
theorem q_X4_isRing : zMv 4 yX4_isRing prog_6_method_8_code 2 (some .boolean) 1 := ⟨⟨⟨by decide +kernel, by decide +kernel⟩, by decide +kernel, tw_611, tw_7, by decide⟩, by decide +kernel, tw_610, tp_18⟩
theorem q_X4_velocity : zMv 4 yX4_velocity prog_6_method_9_code 2 (some .int) 1 := ⟨⟨⟨by decide +kernel, by decide +kernel⟩, by decide +kernel, tw_619, tw_7, by decide⟩, by decide +kernel, tw_618, tp_19⟩
theorem q_X4_setUp : zMv 4 yX4_setUp prog_6_method_10_code 3 (some .int) 1 := ⟨⟨⟨by decide +kernel, by decide +kernel⟩, by decide +kernel, tw_592, tw_7, by decide⟩, by decide +kernel, tw_590, tw_591⟩
theorem q_X4_takes : zMs yX4_takes prog_6_method_11_code 2 (some .boolean) 2 := ⟨⟨⟨by decide +kernel, by decide +kernel⟩, by decide +kernel, tw_602, tw_7, by decide⟩, tw_601⟩
theorem q_X4_set : zMv 4 yX4_set prog_6_method_12_code 4 (some .int) 2 := ⟨⟨⟨by decide +kernel, by decide +kernel⟩, by decide +kernel, tw_599, tw_7, by decide⟩, by decide +kernel, tw_597, tw_598⟩
theorem q_X4_isVelocity : zMs yX4_isVelocity prog_6_method_13_code 1 (some .boolean) 1 := ⟨⟨⟨by decide +kernel, by decide +kernel⟩, by decide +kernel, tw_615, tw_7, by decide⟩, tw_614⟩
theorem q_X4_spin : zMv 4 yX4_spin prog_6_method_14_code 4 (some .int) 2 := ⟨⟨⟨by decide +kernel, by decide +kernel⟩, by decide +kernel, tw_607, tw_7, by decide⟩, by decide +kernel, tw_605, tw_606⟩
theorem q_X4_momenta : zMv 4 yX4_momenta prog_6_method_15_code 3 (some .int) 0 := ⟨⟨⟨by decide +kernel, by decide +kernel⟩, by decide +kernel, tw_630, tw_7, by decide⟩, by decide +kernel, tw_629, tp_20⟩
theorem q_X4_spinAll : zMv 4 yX4_spinAll prog_6_method_16_code 4 (some .int) 2 := ⟨⟨⟨by decide +kernel, by decide +kernel⟩, by decide +kernel, tw_626, tw_7, by decide⟩, by decide +kernel, tw_624, tw_625⟩
theorem q_X4_dyeAt : zMs yX4_dyeAt prog_6_method_17_code 4 (some .int) 4 := ⟨⟨⟨by decide +kernel, by decide +kernel⟩, by decide +kernel, tw_650, tw_7, by decide⟩, tw_649⟩
theorem q_X4_cellIn : zMv 4 yX4_cellIn prog_6_method_18_code 3 (some .int) 2 := ⟨⟨⟨by decide +kernel, by decide +kernel⟩, by decide +kernel, tw_655, tw_7, by decide⟩, by decide +kernel, tw_654, tp_24⟩
theorem q_X4_isPlace : zMv 4 yX4_isPlace prog_6_method_19_code 5 (some .boolean) 4 := ⟨⟨⟨by decide +kernel, by decide +kernel⟩, by decide +kernel, tw_638, tw_7, by decide⟩, by decide +kernel, tw_637, tp_21⟩
theorem q_X4_amountOf : zMv 4 yX4_amountOf prog_6_method_20_code 8 (some .int) 4 := ⟨⟨⟨by decide +kernel, by decide +kernel⟩, by decide +kernel, tw_647, tw_7, by decide⟩, by decide +kernel, tw_646, tp_23⟩
theorem q_X4_allOf : zMv 4 yX4_allOf prog_6_method_21_code 2 (some .int) 1 := ⟨⟨⟨by decide +kernel, by decide +kernel⟩, by decide +kernel, tw_643, tw_7, by decide⟩, by decide +kernel, tw_642, tp_22⟩
theorem q_X4_pour : zMv 4 yX4_pour prog_6_method_22_code 7 (some .int) 5 := ⟨⟨⟨by decide +kernel, by decide +kernel⟩, by decide +kernel, tw_634, tw_7, by decide⟩, by decide +kernel, tw_632, tw_633⟩
theorem q_X4_stepMomenta : zMv 4 yX4_stepMomenta prog_6_method_23_code 4 (none : Option Jvm.ClassFile.FieldType) 0 := ⟨⟨⟨by decide +kernel, by decide +kernel⟩, by decide +kernel, tw_671, tw_7, by decide⟩, by decide +kernel, tw_670, tp_26⟩
theorem q_X4_push : zMv 4 yX4_push prog_6_method_24_code 3 (some .int) 1 := ⟨⟨⟨by decide +kernel, by decide +kernel⟩, by decide +kernel, tw_679, tw_7, by decide⟩, by decide +kernel, tw_678, tp_28⟩
theorem q_X4_stepRing : zMv 4 yX4_stepRing prog_6_method_25_code 12 (none : Option Jvm.ClassFile.FieldType) 3 := ⟨⟨⟨by decide +kernel, by decide +kernel⟩, by decide +kernel, tw_683, tw_7, by decide⟩, by decide +kernel, tw_682, tp_29⟩
theorem q_X4_stepDyes : zMv 4 yX4_stepDyes prog_6_method_26_code 2 (none : Option Jvm.ClassFile.FieldType) 0 := ⟨⟨⟨by decide +kernel, by decide +kernel⟩, by decide +kernel, tw_675, tw_7, by decide⟩, by decide +kernel, tw_674, tp_27⟩
theorem q_X4_mix : zMv 4 yX4_mix prog_6_method_27_code 6 (none : Option Jvm.ClassFile.FieldType) 0 := ⟨⟨⟨by decide +kernel, by decide +kernel⟩, by decide +kernel, tw_688, tw_7, by decide⟩, by decide +kernel, tw_687, tp_30⟩
theorem q_X4_stepMarker : zMv 4 yX4_stepMarker prog_6_method_28_code 6 (none : Option Jvm.ClassFile.FieldType) 1 := ⟨⟨⟨by decide +kernel, by decide +kernel⟩, by decide +kernel, tw_693, tw_7, by decide⟩, by decide +kernel, tw_692, tp_31⟩
theorem q_X4_makeTick : zMv 4 yX4_makeTick prog_6_method_29_code 2 (none : Option Jvm.ClassFile.FieldType) 0 := ⟨⟨⟨by decide +kernel, by decide +kernel⟩, by decide +kernel, tw_667, tw_7, by decide⟩, by decide +kernel, tw_666, tp_25⟩
theorem q_X4_tick : zMv 4 yX4_tick prog_6_method_30_code 3 (some .int) 1 := ⟨⟨⟨by decide +kernel, by decide +kernel⟩, by decide +kernel, tw_662, tw_7, by decide⟩, by decide +kernel, tw_660, tw_661⟩
theorem q_X4_ring : zMv 4 yX4_ring prog_6_method_31_code 3 (some .int) 2 := ⟨⟨⟨by decide +kernel, by decide +kernel⟩, by decide +kernel, tw_697, tw_7, by decide⟩, by decide +kernel, tw_695, tw_696⟩
theorem q_X4_dye : zMv 4 yX4_dye prog_6_method_32_code 5 (some .int) 4 := ⟨⟨⟨by decide +kernel, by decide +kernel⟩, by decide +kernel, tw_701, tw_7, by decide⟩, by decide +kernel, tw_699, tw_700⟩
theorem q_X4_cellsWith : zMv 4 yX4_cellsWith prog_6_method_33_code 4 (some .int) 1 := ⟨⟨⟨by decide +kernel, by decide +kernel⟩, by decide +kernel, tw_713, tw_7, by decide⟩, by decide +kernel, tw_712, tp_32⟩
theorem q_X4_greatest : zMv 4 yX4_greatest prog_6_method_34_code 5 (some .int) 1 := ⟨⟨⟨by decide +kernel, by decide +kernel⟩, by decide +kernel, tw_717, tw_7, by decide⟩, by decide +kernel, tw_716, tp_33⟩
theorem q_X4_meanPlace : zMv 4 yX4_meanPlace prog_6_method_35_code 5 (some .long) 1 := ⟨⟨⟨by decide +kernel, by decide +kernel⟩, by decide +kernel, tw_721, tw_7, by decide⟩, by decide +kernel, tw_720, tp_34⟩
theorem q_X4_unevenness : zMv 4 yX4_unevenness prog_6_method_36_code 12 (some .long) 1 := ⟨⟨⟨by decide +kernel, by decide +kernel⟩, by decide +kernel, tw_726, tw_7, by decide⟩, by decide +kernel, tw_725, tp_35⟩
theorem q_X4_isColour : zMs yX4_isColour prog_6_method_37_code 1 (some .boolean) 1 := ⟨⟨⟨by decide +kernel, by decide +kernel⟩, by decide +kernel, tw_708, tw_7, by decide⟩, tw_707⟩
theorem q_X4_colour : zMv 4 yX4_colour prog_6_method_38_code 3 (some .long) 2 := ⟨⟨⟨by decide +kernel, by decide +kernel⟩, by decide +kernel, tw_705, tw_7, by decide⟩, by decide +kernel, tw_703, tw_704⟩
theorem q_X4_greatestShear : zMv 4 yX4_greatestShear prog_6_method_39_code 4 (some .int) 0 := ⟨⟨⟨by decide +kernel, by decide +kernel⟩, by decide +kernel, tw_736, tw_7, by decide⟩, by decide +kernel, tw_735, tp_36⟩
theorem q_X4_state : zMv 4 yX4_state prog_6_method_40_code 2 (some .int) 1 := ⟨⟨⟨by decide +kernel, by decide +kernel⟩, by decide +kernel, tw_732, tw_7, by decide⟩, by decide +kernel, tw_730, tw_731⟩
theorem q_X4_marker : zMv 4 yX4_marker prog_6_method_41_code 4 (some .int) 2 := ⟨⟨⟨by decide +kernel, by decide +kernel⟩, by decide +kernel, tw_740, tw_7, by decide⟩, by decide +kernel, tw_738, tw_739⟩
theorem q_X4_isMarker : zMv 4 yX4_isMarker prog_6_method_42_code 2 (some .boolean) 1 := ⟨⟨⟨by decide +kernel, by decide +kernel⟩, by decide +kernel, tw_748, tw_7, by decide⟩, by decide +kernel, tw_747, tp_37⟩
theorem q_X4_keptOf : zMv 4 yX4_keptOf prog_6_method_43_code 3 (some .int) 1 := ⟨⟨⟨by decide +kernel, by decide +kernel⟩, by decide +kernel, tw_752, tw_7, by decide⟩, by decide +kernel, tw_751, tp_38⟩
theorem q_X4_where : zMv 4 yX4_where prog_6_method_44_code 4 (some .int) 2 := ⟨⟨⟨by decide +kernel, by decide +kernel⟩, by decide +kernel, tw_744, tw_7, by decide⟩, by decide +kernel, tw_742, tw_743⟩
theorem q_X4_path : zMv 4 yX4_path prog_6_method_45_code 5 (some .int) 3 := ⟨⟨⟨by decide +kernel, by decide +kernel⟩, by decide +kernel, tw_756, tw_7, by decide⟩, by decide +kernel, tw_754, tw_755⟩
theorem q_X4_isSettled : zMv 4 yX4_isSettled prog_6_method_46_code 4 (some .boolean) 1 := ⟨⟨⟨by decide +kernel, by decide +kernel⟩, by decide +kernel, tw_776, tw_7, by decide⟩, by decide +kernel, tw_775, tp_42⟩
theorem q_X4_hasPart : zMv 4 yX4_hasPart prog_6_method_47_code 6 (some .boolean) 3 := ⟨⟨⟨by decide +kernel, by decide +kernel⟩, by decide +kernel, tw_780, tw_7, by decide⟩, by decide +kernel, tw_779, tp_43⟩
theorem q_X4_areNear : zMv 4 yX4_areNear prog_6_method_48_code 7 (some .boolean) 3 := ⟨⟨⟨by decide +kernel, by decide +kernel⟩, by decide +kernel, tw_784, tw_7, by decide⟩, by decide +kernel, tw_783, tp_44⟩
theorem q_X4_holds : zMv 4 yX4_holds prog_6_method_49_code 5 (some .boolean) 4 := ⟨⟨⟨by decide +kernel, by decide +kernel⟩, by decide +kernel, tw_772, tw_7, by decide⟩, by decide +kernel, tw_771, tp_41⟩
theorem q_X4_whenHolds : zMv 4 yX4_whenHolds prog_6_method_50_code 8 (some .int) 5 := ⟨⟨⟨by decide +kernel, by decide +kernel⟩, by decide +kernel, tw_764, tw_7, by decide⟩, by decide +kernel, tw_763, tp_39⟩
theorem q_X4_settles : zMv 4 yX4_settles prog_6_method_51_code 3 (some .int) 2 := ⟨⟨⟨by decide +kernel, by decide +kernel⟩, by decide +kernel, tw_760, tw_7, by decide⟩, by decide +kernel, tw_758, tw_759⟩
theorem q_X4_arrives : zMv 4 yX4_arrives prog_6_method_52_code 5 (some .int) 4 := ⟨⟨⟨by decide +kernel, by decide +kernel⟩, by decide +kernel, tw_792, tw_7, by decide⟩, by decide +kernel, tw_790, tw_791⟩
theorem q_X4_meet : zMv 4 yX4_meet prog_6_method_53_code 5 (some .int) 4 := ⟨⟨⟨by decide +kernel, by decide +kernel⟩, by decide +kernel, tw_796, tw_7, by decide⟩, by decide +kernel, tw_794, tw_795⟩
theorem q_X4_leastEkman : zMv 4 yX4_leastEkman prog_6_method_54_code 7 (some .int) 3 := ⟨⟨⟨by decide +kernel, by decide +kernel⟩, by decide +kernel, tw_800, tw_7, by decide⟩, by decide +kernel, tw_798, tw_799⟩
theorem q_X4_say : zMv 4 yX4_say prog_6_method_55_code 2 (some .int) 1 := ⟨⟨⟨by decide +kernel, by decide +kernel⟩, by decide +kernel, tw_804, tw_7, by decide⟩, by decide +kernel, tw_802, tw_803⟩
theorem q_X4_wipe : zMv 4 yX4_wipe prog_6_method_56_code 2 (some .int) 0 := ⟨⟨⟨by decide +kernel, by decide +kernel⟩, by decide +kernel, tw_808, tw_7, by decide⟩, by decide +kernel, tw_806, tw_807⟩
theorem q_X4_next : zMv 4 yX4_next prog_6_method_57_code 1 (some .int) 0 := ⟨⟨⟨by decide +kernel, by decide +kernel⟩, by decide +kernel, tw_820, tw_7, by decide⟩, by decide +kernel, tw_819, tp_47⟩
theorem q_X4_takeNumber : zMv 4 yX4_takeNumber prog_6_method_58_code 6 (some .int) 2 := ⟨⟨⟨by decide +kernel, by decide +kernel⟩, by decide +kernel, tw_824, tw_7, by decide⟩, by decide +kernel, tw_823, tp_48⟩
theorem q_X4_need : zMv 4 yX4_need prog_6_method_59_code 2 (none : Option Jvm.ClassFile.FieldType) 1 := ⟨⟨⟨by decide +kernel, by decide +kernel⟩, by decide +kernel, tw_832, tw_7, by decide⟩, by decide +kernel, tw_831, tp_50⟩
theorem q_X4_takeOne : zMv 4 yX4_takeOne prog_6_method_60_code 4 (some .int) 2 := ⟨⟨⟨by decide +kernel, by decide +kernel⟩, by decide +kernel, tw_840, tw_7, by decide⟩, by decide +kernel, tw_839, tp_52⟩
theorem q_X4_takeVelocity : zMv 4 yX4_takeVelocity prog_6_method_61_code 4 (none : Option Jvm.ClassFile.FieldType) 1 := ⟨⟨⟨by decide +kernel, by decide +kernel⟩, by decide +kernel, tw_828, tw_7, by decide⟩, by decide +kernel, tw_827, tp_49⟩
theorem q_X4_takeDye : zMv 4 yX4_takeDye prog_6_method_62_code 2 (none : Option Jvm.ClassFile.FieldType) 1 := ⟨⟨⟨by decide +kernel, by decide +kernel⟩, by decide +kernel, tw_836, tw_7, by decide⟩, by decide +kernel, tw_835, tp_51⟩
theorem q_X4_takeStep : zMv 4 yX4_takeStep prog_6_method_63_code 3 (none : Option Jvm.ClassFile.FieldType) 0 := ⟨⟨⟨by decide +kernel, by decide +kernel⟩, by decide +kernel, tw_816, tw_7, by decide⟩, by decide +kernel, tw_815, tp_46⟩
theorem q_X4_fault : zMv 4 yX4_fault prog_6_method_64_code 1 (some .int) 0 := ⟨⟨⟨by decide +kernel, by decide +kernel⟩, by decide +kernel, tw_812, tw_7, by decide⟩, by decide +kernel, tw_810, tw_811⟩
theorem q_X4_carries : zMv 4 yX4_carries prog_6_method_65_code 4 (some .boolean) 1 := ⟨⟨⟨by decide +kernel, by decide +kernel⟩, by decide +kernel, tw_850, tw_7, by decide⟩, by decide +kernel, tw_849, tp_53⟩
theorem q_X4_carryOut : zMv 4 yX4_carryOut prog_6_method_66_code 2 (some .int) 0 := ⟨⟨⟨by decide +kernel, by decide +kernel⟩, by decide +kernel, tw_845, tw_7, by decide⟩, by decide +kernel, tw_843, tw_844⟩
theorem q_X4_save : zMv 4 yX4_save prog_6_method_67_code 3 (some .int) 1 := ⟨⟨⟨by decide +kernel, by decide +kernel⟩, by decide +kernel, tw_858, tw_7, by decide⟩, by decide +kernel, tw_856, tw_857⟩
theorem q_X4_restore : zMv 4 yX4_restore prog_6_method_68_code 3 (some .int) 1 := ⟨⟨⟨by decide +kernel, by decide +kernel⟩, by decide +kernel, tw_862, tw_7, by decide⟩, by decide +kernel, tw_860, tw_861⟩
theorem q_J9_floorDiv_7cf53 : zMs yJ9_floorDiv_7cf53 prog_7_method_47_code 3 (some .int) 2 := ⟨⟨⟨by decide +kernel, by decide +kernel⟩, by decide +kernel, tw_216, tw_8, by decide⟩, tw_215⟩
theorem q_J9_floorMod_7cf53 : zMs yJ9_floorMod_7cf53 prog_7_method_50_code 3 (some .int) 2 := ⟨⟨⟨by decide +kernel, by decide +kernel⟩, by decide +kernel, tw_259, tw_8, by decide⟩, tw_258⟩
theorem q_J9_abs_0f7a4 : zMs yJ9_abs_0f7a4 prog_7_method_59_code 1 (some .int) 1 := ⟨⟨⟨by decide +kernel, by decide +kernel⟩, by decide +kernel, tw_291, tw_8, by decide⟩, tw_290⟩
theorem q_J9_abs_067f4 : zMs yJ9_abs_067f4 prog_7_method_61_code 2 (some .long) 1 := ⟨⟨⟨by decide +kernel, by decide +kernel⟩, by decide +kernel, tw_373, tw_8, by decide⟩, tw_372⟩
theorem q_J9_max_7cf53 : zMs yJ9_max_7cf53 prog_7_method_65_code 2 (some .int) 2 := ⟨⟨⟨by decide +kernel, by decide +kernel⟩, by decide +kernel, tw_231, tw_8, by decide⟩, tw_230⟩
theorem q_J9_min_7cf53 : zMs yJ9_min_7cf53 prog_7_method_69_code 2 (some .int) 2 := ⟨⟨⟨by decide +kernel, by decide +kernel⟩, by decide +kernel, tw_284, tw_8, by decide⟩, tw_283⟩
theorem q_J7_fill_53178 : zMs yJ7_fill_53178 prog_9_method_103_code 4 (none : Option Jvm.ClassFile.FieldType) 2 := ⟨⟨⟨by decide +kernel, by decide +kernel⟩, by decide +kernel, tw_70, tw_5, by decide⟩, tw_69⟩
section ZCALLS
variable {K : zK} {d nL pc : Nat} {own : String} {cc : ByteArray} {ls sk : List zV} {μ : zM} {y : MethodName} {cc' : ByteArray} {nL' n idx ci d' : Nat} {ret : Option FieldType} {a : zA} {av stk : List zV}
/-- contracts: a pure answer; an answer and a new store; a new store alone -/
def zCi (y : MethodName) (cc : ByteArray) (nL : Nat) (ret : Option FieldType) (d : Nat) (av : List zV) (μ : zM) (x : Int32) : Prop := zCt y cc nL ret d av μ (fun μ' r => μ' = μ ∧ r = zI x)
def zCl (y : MethodName) (cc : ByteArray) (nL : Nat) (ret : Option FieldType) (d : Nat) (av : List zV) (μ : zM) (x : Int64) : Prop := zCt y cc nL ret d av μ (fun μ' r => μ' = μ ∧ r = zL x)
def zCs (y : MethodName) (cc : ByteArray) (nL : Nat) (ret : Option FieldType) (d : Nat) (av : List zV) (μ : zM) (P : zM → Int32 → Prop) : Prop := zCt y cc nL ret d av μ (fun μ' r => ∃ x, r = zI x ∧ P μ' x)
def zCv (y : MethodName) (cc : ByteArray) (nL : Nat) (ret : Option FieldType) (d : Nat) (av : List zV) (μ : zM) (P : zM → Prop) : Prop := zCt y cc nL ret d av μ (fun μ' r => r = zN ∧ P μ')
theorem z_cVi {x : Int32} (hC : zCi y cc' nL' ret d' (zR a :: av) μ x) (hm : zMv ci y cc' nL' ret n) (hl0 : Cond.methodLink own idx y ∈ zT) (dg : decode cc pc = .ok (.invokevirtual idx, 3)) (hn : av.length = n) (ho : zobj a.1 = some ci) (hstk : stk = av.reverse ++ zR a :: sk) (hd : d' < d) (hsk : zsum sk ≤ 8) (k : Z K d own cc nL (pc + 3) ls (zI x :: sk) μ) (hv : a ∈ zcells := by assumption) : Z K d own cc nL pc ls stk μ :=
  z_callV hm hl0 dg hn ho hstk hd hsk hC (fun μ' r h => by obtain ⟨rfl, rfl⟩ := h; exact k) hv
theorem z_cVl {x : Int64} (hC : zCl y cc' nL' ret d' (zR a :: av) μ x) (hm : zMv ci y cc' nL' ret n) (hl0 : Cond.methodLink own idx y ∈ zT) (dg : decode cc pc = .ok (.invokevirtual idx, 3)) (hn : av.length = n) (ho : zobj a.1 = some ci) (hstk : stk = av.reverse ++ zR a :: sk) (hd : d' < d) (hsk : zsum sk ≤ 8) (k : Z K d own cc nL (pc + 3) ls (zL x :: sk) μ) (hv : a ∈ zcells := by assumption) : Z K d own cc nL pc ls stk μ :=
  z_callV hm hl0 dg hn ho hstk hd hsk hC (fun μ' r h => by obtain ⟨rfl, rfl⟩ := h; exact k) hv
theorem z_cVs {P : zM → Int32 → Prop} (hC : zCs y cc' nL' ret d' (zR a :: av) μ P) (hm : zMv ci y cc' nL' ret n) (hl0 : Cond.methodLink own idx y ∈ zT) (dg : decode cc pc = .ok (.invokevirtual idx, 3)) (hn : av.length = n) (ho : zobj a.1 = some ci) (hstk : stk = av.reverse ++ zR a :: sk) (hd : d' < d) (hsk : zsum sk ≤ 8) (k : ∀ (μ' : zM) (x : Int32), P μ' x → Z K d own cc nL (pc + 3) ls (zI x :: sk) μ') (hv : a ∈ zcells := by assumption) : Z K d own cc nL pc ls stk μ :=
  z_callV hm hl0 dg hn ho hstk hd hsk hC (fun μ' r h => by obtain ⟨x, rfl, h⟩ := h; exact k μ' x h) hv
theorem z_cVv {P : zM → Prop} (hC : zCv y cc' nL' ret d' (zR a :: av) μ P) (hm : zMv ci y cc' nL' ret n) (hl0 : Cond.methodLink own idx y ∈ zT) (dg : decode cc pc = .ok (.invokevirtual idx, 3)) (hn : av.length = n) (ho : zobj a.1 = some ci) (hstk : stk = av.reverse ++ zR a :: sk) (hd : d' < d) (hsk : zsum sk ≤ 8) (k : ∀ (μ' : zM), P μ' → Z K d own cc nL (pc + 3) ls sk μ') (hv : a ∈ zcells := by assumption) : Z K d own cc nL pc ls stk μ :=
  z_callV hm hl0 dg hn ho hstk hd hsk hC (fun μ' r h => by obtain ⟨rfl, h⟩ := h; exact k μ' h) hv
theorem z_cSi {x : Int32} (hC : zCi y cc' nL' ret d' av μ x) (hm : zMs y cc' nL' ret n) (hl0 : Cond.methodLink own idx y ∈ zT) (dg : decode cc pc = .ok (.invokestatic idx, 3)) (hn : av.length = n) (hstk : stk = av.reverse ++ sk) (hd : d' < d) (hsk : zsum sk ≤ 8) (k : Z K d own cc nL (pc + 3) ls (zI x :: sk) μ) : Z K d own cc nL pc ls stk μ :=
  z_callS hm hl0 dg hn hstk hd hsk hC (fun μ' r h => by obtain ⟨rfl, rfl⟩ := h; exact k)
theorem z_cSv {P : zM → Prop} (hC : zCv y cc' nL' ret d' av μ P) (hm : zMs y cc' nL' ret n) (hl0 : Cond.methodLink own idx y ∈ zT) (dg : decode cc pc = .ok (.invokestatic idx, 3)) (hn : av.length = n) (hstk : stk = av.reverse ++ sk) (hd : d' < d) (hsk : zsum sk ≤ 8) (k : ∀ (μ' : zM), P μ' → Z K d own cc nL (pc + 3) ls sk μ') : Z K d own cc nL pc ls stk μ :=
  z_callS hm hl0 dg hn hstk hd hsk hC (fun μ' r h => by obtain ⟨rfl, h⟩ := h; exact k μ' h)
/-- booleans -/
def zb (c : Prop) [Decidable c] : Int32 := if c then 1 else 0
theorem zb_t {c : Prop} [Decidable c] (h : c) : zb c = 1 := if_pos h
theorem zb_f {c : Prop} [Decidable c] (h : ¬ c) : zb c = 0 := if_neg h
theorem zb_0 {c : Prop} [Decidable c] : zb c = 0 ↔ ¬ c := by
  by_cases h : c
  · rw [zb_t h]
    exact ⟨fun e => absurd e (by decide), fun e => absurd h e⟩
  · rw [zb_f h]
    exact ⟨fun _ => h, fun _ => rfl⟩
theorem zb_nar {c : Prop} [Decidable c] : narrow .boolean (.int (zb c)) = .int (zb c) := by
  by_cases h : c
  · rw [zb_t h]; rfl
  · rw [zb_f h]; rfl
theorem zb_iff {c c' : Prop} [Decidable c] [Decidable c'] (h : c ↔ c') : zb c = zb c' := by
  by_cases hc : c
  · rw [zb_t hc, zb_t (h.mp hc)]
  · rw [zb_f hc, zb_f (fun q => hc (h.mpr q))]
theorem z_bne {c : Prop} [Decidable c] {off : Int} {tgt : Nat} (dg : decode cc pc = .ok (.ifCond .ne off, 3)) (ht : (pc : Int) + off = (tgt : Int)) (kt : c → Z K d own cc nL tgt ls sk μ) (kf : ¬ c → Z K d own cc nL (pc + 3) ls sk μ) : Z K d own cc nL pc ls (zI (zb c) :: sk) μ :=
  z_if_ne dg ht (fun h => kt (Classical.byContradiction fun q => h (zb_0.mpr q))) (fun h => kf (zb_0.mp h))
theorem z_beq {c : Prop} [Decidable c] {off : Int} {tgt : Nat} (dg : decode cc pc = .ok (.ifCond .eq off, 3)) (ht : (pc : Int) + off = (tgt : Int)) (kt : ¬ c → Z K d own cc nL tgt ls sk μ) (kf : c → Z K d own cc nL (pc + 3) ls sk μ) : Z K d own cc nL pc ls (zI (zb c) :: sk) μ :=
  z_if_eq dg ht (fun h => kt (zb_0.mp h)) (fun h => kf (Classical.byContradiction fun q => h (zb_0.mpr q)))
/-- a boolean's end: 0 or 1, by what is known -/
theorem z_bret {Po : zM → zV → Prop} {v : Int32} (hR : zRet K Po (some .boolean)) (dg : decode cc pc = .ok (.ireturn, 1)) (h0 : v = 0 ∨ v = 1) (h : Po μ (zI v)) : Z K d own cc nL pc ls [zI v] μ :=
  z_zret hR dg (by rcases h0 with rfl | rfl <;> rfl) h
end ZCALLS

theorem zv_5 : ∀ t, t < 4 → (5, t, 0) ∈ zcells := by decide +kernel
theorem zv_6 : ∀ t, t < 4 → (6, t, 0) ∈ zcells := by decide +kernel
theorem zv_7 : ∀ t, t < 4 → (7, t, 0) ∈ zcells := by decide +kernel
theorem zv_8 : ∀ t, t < 4 → (8, t, 0) ∈ zcells := by decide +kernel
theorem zv_9 : ∀ t, t < 4 → (9, t, 0) ∈ zcells := by decide +kernel
theorem zv_10 : ∀ t, t < 4 → (10, t, 0) ∈ zcells := by decide +kernel
theorem zv_12 : ∀ t, t < 4 → (12, t, 0) ∈ zcells := by decide +kernel
theorem zv_16 : ∀ t, t < 4 → (16, t, 0) ∈ zcells := by decide +kernel
theorem zv_17 : ∀ t, t < 4 → (17, t, 0) ∈ zcells := by decide +kernel
theorem zv_18 : ∀ t, t < 4 → (18, t, 0) ∈ zcells := by decide +kernel
theorem zv_11 : ∀ t, t < 4 → ∀ i, i < 3 → (11, t, i) ∈ zcells := by decide +kernel
theorem zv_13 : ∀ t, t < 4 → ∀ i, i < 6 → (13, t, i) ∈ zcells := by decide +kernel
theorem zv_14 : ∀ t, t < 4 → ∀ i, i < 6 → (14, t, i) ∈ zcells := by decide +kernel
theorem zv_15 : ∀ t, t < 4 → ∀ i, i < 6 → (15, t, i) ∈ zcells := by decide +kernel
theorem zv_0 : (0, 0, 0) ∈ zcells := by decide +kernel
theorem zv_1 : (1, 0, 0) ∈ zcells := by decide +kernel
theorem zv_2 : (2, 0, 0) ∈ zcells := by decide +kernel
theorem zv_3 : (3, 0, 0) ∈ zcells := by decide +kernel
theorem zv_4 : (4, 0, 0) ∈ zcells := by decide +kernel
theorem zv_20 : (20, 0, 0) ∈ zcells := by decide +kernel
theorem zv_21 : (21, 0, 0) ∈ zcells := by decide +kernel
theorem zv_22 : (22, 0, 0) ∈ zcells := by decide +kernel
theorem zv_23 : (23, 0, 0) ∈ zcells := by decide +kernel
theorem zv_24 : (24, 0, 0) ∈ zcells := by decide +kernel
theorem zv_25 : (25, 0, 0) ∈ zcells := by decide +kernel
theorem zv_26 : (26, 0, 0) ∈ zcells := by decide +kernel
theorem zv_27 : (27, 0, 0) ∈ zcells := by decide +kernel
theorem zv_28 : (28, 0, 0) ∈ zcells := by decide +kernel
/-! stores where no long stands before -/
def zokb : List zV → Nat → Bool
  | _, 0 => true
  | ls, i + 1 => zcat (ls.getD i zN) == 1
theorem zset_eq {v : zV} {ls : List zV} {i : Nat} (h : zokb ls i = true) : zset ls i v = ls.set i v := by
  apply List.ext_getElem?
  intro j
  rw [zset_get, List.getElem?_set]
  by_cases hj : j = i
  · subst hj
    simp
  · rw [if_neg hj, if_neg (show ¬ i = j from fun e => hj e.symm)]
    by_cases h1 : j + 1 = i
    · subst h1
      rw [if_pos rfl]
      have h2 : zcat (ls.getD j zN) = 1 := by simpa [zokb] using h
      cases hw : ls[j]? with
      | none => rfl
      | some w =>
        rw [List.getD_eq_getElem?_getD, hw] at h2
        rcases w with _ | ((y | y) | y)
        · rfl
        · rfl
        · cases h2
        · rfl
    · rw [if_neg h1]
section ZSTORES
variable {K : zK} {d nL pc i : Nat} {own : String} {cc : ByteArray} {ls ls' sk : List zV} {μ : zM}
theorem z_ls (h : ls = ls') (k : Z K d own cc nL pc ls' sk μ) : Z K d own cc nL pc ls sk μ := h ▸ k
theorem z_mu {μ' : zM} (h : μ = μ') (k : Z K d own cc nL pc ls sk μ') : Z K d own cc nL pc ls sk μ := h ▸ k
theorem z_top {x y : Int32} (h : x = y) (k : Z K d own cc nL pc ls (zI y :: sk) μ) : Z K d own cc nL pc ls (zI x :: sk) μ := h ▸ k
theorem z_topl {x y : Int64} (h : x = y) (k : Z K d own cc nL pc ls (zL y :: sk) μ) : Z K d own cc nL pc ls (zL x :: sk) μ := h ▸ k
theorem z_istS_n {k : Fin 4} {x : Int32} (dg : decode cc pc = .ok (.istore_n k, 1)) (hi : (k : Nat) = i) (hn : i < nL) (hz : zokb ls i = true) (k1 : Z K d own cc nL (pc + 1) (ls.set i (zI x)) sk μ) : Z K d own cc nL pc ls (zI x :: sk) μ := z_istore_n dg hi hn (by rw [zset_eq hz]; exact k1)
theorem z_istS {x : Int32} (dg : decode cc pc = .ok (.istore i, 2)) (hn : i < nL) (hz : zokb ls i = true) (k1 : Z K d own cc nL (pc + 2) (ls.set i (zI x)) sk μ) : Z K d own cc nL pc ls (zI x :: sk) μ := z_istore dg hn (by rw [zset_eq hz]; exact k1)
theorem z_astS_n {k : Fin 4} {x : zA} (dg : decode cc pc = .ok (.astore_n k, 1)) (hi : (k : Nat) = i) (hn : i < nL) (hz : zokb ls i = true) (k1 : Z K d own cc nL (pc + 1) (ls.set i (zR x)) sk μ) : Z K d own cc nL pc ls (zR x :: sk) μ := z_astore_n dg hi hn (by rw [zset_eq hz]; exact k1)
theorem z_astS {x : zA} (dg : decode cc pc = .ok (.astore i, 2)) (hn : i < nL) (hz : zokb ls i = true) (k1 : Z K d own cc nL (pc + 2) (ls.set i (zR x)) sk μ) : Z K d own cc nL pc ls (zR x :: sk) μ := z_astore dg hn (by rw [zset_eq hz]; exact k1)
theorem z_lstS_n {k : Fin 4} {x : Int64} (dg : decode cc pc = .ok (.lstore_n k, 1)) (hi : (k : Nat) = i) (hn : i + 1 < nL) (hz : zokb ls i = true) (k1 : Z K d own cc nL (pc + 1) ((ls.set i (zL x)).set (i + 1) zN) sk μ) : Z K d own cc nL pc ls (zL x :: sk) μ := z_lstore_n dg hi hn (by rw [zset_eq hz]; exact k1)
theorem z_lstS {x : Int64} (dg : decode cc pc = .ok (.lstore i, 2)) (hn : i + 1 < nL) (hz : zokb ls i = true) (k1 : Z K d own cc nL (pc + 2) ((ls.set i (zL x)).set (i + 1) zN) sk μ) : Z K d own cc nL pc ls (zL x :: sk) μ := z_lstore dg hn (by rw [zset_eq hz]; exact k1)
theorem z_incS {n : Int} {x v : Int32} (dg : decode cc pc = .ok (.iinc i n, 3)) (hx : ls[i]? = some (zI x)) (hv : x + Int32.ofInt n = v) (hn : i < nL) (hz : zokb ls i = true) (k1 : Z K d own cc nL (pc + 3) (ls.set i (zI v)) sk μ) : Z K d own cc nL pc ls sk μ := z_iinc dg hx hv hn (by rw [zset_eq hz]; exact k1)
end ZSTORES
