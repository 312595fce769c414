theorem zin0 : ∀ w ∈ u_ws RX0 TX0 7, w ∈ zT := by decide +kernel
theorem zin1 : ∀ w ∈ u_ws RX1 TX1 9, w ∈ zT := by decide +kernel
theorem zin2 : ∀ w ∈ u_ws RX2 TX2 12, w ∈ zT := by decide +kernel
theorem zin3 : ∀ w ∈ u_ws RX3 TX3 5, w ∈ zT := by decide +kernel
section ZHEAP
variable {K : zK} {d nL pc : Nat} {own : String} {cc : ByteArray} {ls sk : List zV} {μ : zM}
theorem z_get {C : String} {T : u_T} {N ci i idx : Nat} {a : zA} {v : zV} (fs : zG → List Value) (hin : ∀ w ∈ u_ws C T N, w ∈ zT) (hc : vwCl[ci]? = some (C, T, N)) (hi : i < N) (hv : a ∈ zcells) (he : ∀ G, zent G a (μ a) = .inr (ci, fs G)) (hx : ∀ G, (fs G)[i]? = some (zc G.1 v))
    (dg : decode cc pc = .ok (.getfield idx, 3)) (hl0 : Cond.fieldLink own idx (T i).1 (T i).2.1 (T i).2.2.1 ∈ zT) (k : Z K d own cc nL (pc + 3) ls (v :: sk) μ) : Z K d own cc nL pc ls (zR a :: sk) μ := by
  obtain ⟨G, p, l, e, R, s, m, args, below, meth, c, A, Q, ce, sl⟩ := K
  intro F H locs la hP hS hl
  obtain ⟨q0, hq, hw⟩ := z_at (G := G) μ hv
  rw [he G] at hw
  exact va_get (D := G.2.1) (cl := vwCl) F.1 F.2.1 F.2.2.2.2.1 hin F.2.2.2.1 F.2.2.2.2.2.1 hP q0 hw hc i hi (F.2.2.2.2.1 _ hl0) (fun _ h => h) (hx G) dg (k F H locs la hP hS hl)
theorem z_put {C : String} {T : u_T} {N ci i idx : Nat} {a : zA} {x : Int32} (ty0 : Nat → FieldType) (fs : zG → (Nat → Int32) → List Value) (hin : ∀ w ∈ u_ws C T N, w ∈ zT) (hty : ∀ k, k < N → parseFieldDescriptor (T k).2.2.1 = some (ty0 k)) (hnm : ∀ a, a < N → ∀ b, b < N → a ≠ b → (T a).2.1 ≠ (T b).2.1) (hc : vwCl[ci]? = some (C, T, N)) (hi : i < N) (hv : a ∈ zcells) (he : ∀ G f, zent G a f = .inr (ci, fs G f)) (hx : ∀ G f, (fs G f).set i (.int x) = fs G (upd f i x))
    (hfin : (T i).2.2.2 = false) {ty : FieldType} (hd : parseFieldDescriptor (T i).2.2.1 = some ty) (hn : narrow ty (.int x) = .int x) (hfit : fits ty (.int x) = true) (hlen : ∀ G f, i < (fs G f).length)
    (dg : decode cc pc = .ok (.putfield idx, 3)) (hl0 : Cond.fieldLink own idx (T i).1 (T i).2.1 (T i).2.2.1 ∈ zT) (k : Z K d own cc nL (pc + 3) ls sk (st μ a (upd (μ a) i x))) : Z K d own cc nL pc ls (zI x :: zR a :: sk) μ := by
  obtain ⟨G, p, l, e, R, s, m, args, below, meth, c, A, Q, ce, sl⟩ := K
  intro F H locs la hP hS hl
  obtain ⟨q0, hq, hw⟩ := z_at (G := G) μ hv
  rw [he G] at hw
  refine va_put (D := G.2.1) (cl := vwCl) F.1 F.2.1 F.2.2.2.2.1 hin ty0 hty hnm F.2.2.2.1 F.2.2.2.2.2.1 hP (z_D F.2.2.2.2.2.2.1 F.2.2.2.2.2.2.2.1) hS q0 hw hc i hi (F.2.2.2.2.1 _ hl0) (fun _ h => h) hfin hd hn hfit (hlen G _) dg fun H1 locs1 hP1 _ hS1 => ?_
  change va_P G.2.1 vwCl ((zws G μ).set q0 (G.1 a, .inr (ci, (fs G (μ a)).set i (.int x)))) H1 at hP1
  rw [hx G, ← he G, z_set hq] at hP1
  exact k F H1 locs1 la hP1 hS1 hl
theorem z_iald {a : zA} {n i : Nat} {j : Int32} (dg : decode cc pc = .ok (.iaload, 1)) (he : ∀ G f, zent G a f = zarI G n f) (hj : j = nI i) (hi : i < n) (k : Z K d own cc nL (pc + 1) ls (zI (μ a i) :: sk) μ) (hv : a ∈ zcells := by assumption) (hn : n < 5000 := by decide) : Z K d own cc nL pc ls (zI j :: zR a :: sk) μ := by
  obtain ⟨G, p, l, e, R, s, m, args, below, meth, c, A, Q, ce, sl⟩ := K
  intro F H locs la hP hS hl
  obtain ⟨q0, hq, hw⟩ := z_at (G := G) μ hv
  rw [he G] at hw
  have hi31 : i < 2 ^ 31 := by omega
  subst hj
  refine va_iald (D := G.2.1) (cl := vwCl) F.1 F.2.1 F.2.2.2.2.2.1 hP q0 0 hw rfl (vp_in_nI hi (by omega)) dg ?_
  rw [nI_clamp hi31]
  exact k F H locs la hP hS hl
theorem z_iast {a : zA} {n i : Nat} {j x : Int32} (dg : decode cc pc = .ok (.iastore, 1)) (he : ∀ G f, zent G a f = zarI G n f) (hj : j = nI i) (hi : i < n) (k : Z K d own cc nL (pc + 1) ls sk (st μ a (upd (μ a) i x))) (hv : a ∈ zcells := by assumption) (hn : n < 5000 := by decide) : Z K d own cc nL pc ls (zI x :: zI j :: zR a :: sk) μ := by
  obtain ⟨G, p, l, e, R, s, m, args, below, meth, c, A, Q, ce, sl⟩ := K
  intro F H locs la hP hS hl
  obtain ⟨q0, hq, hw⟩ := z_at (G := G) μ hv
  rw [he G] at hw
  have hi31 : i < 2 ^ 31 := by omega
  refine va_iast (D := G.2.1) (cl := vwCl) F.1 F.2.1 F.2.2.2.2.2.1 hP (z_D F.2.2.2.2.2.2.1 F.2.2.2.2.2.2.2.1) hS q0 0 hw (i := j) rfl (by rw [hj]; exact vp_in_nI hi (by omega)) dg fun H1 locs1 hP1 _ hS1 => ?_
  rw [hj, nI_clamp hi31] at hP1
  have e : ((zws G μ).set q0 (G.1 a, zarI G n (upd (μ a) i x))) = zws G (st μ a (upd (μ a) i x)) := by rw [← he G]; exact z_set hq
  have hP2 : va_P G.2.1 vwCl ((zws G μ).set q0 (G.1 a, zarI G n (upd (μ a) i x))) H1 := hP1
  rw [e] at hP2
  exact k F H1 locs1 la hP2 hS1 hl
theorem z_zald {a : zA} {n i : Nat} {j : Int32} (dg : decode cc pc = .ok (.baload, 1)) (he : ∀ G f, zent G a f = (.inl (G.2.2 1, n, .inl f))) (hj : j = nI i) (hi : i < n) (k : Z K d own cc nL (pc + 1) ls (zI (μ a i) :: sk) μ) (hv : a ∈ zcells := by assumption) (hn : n < 5000 := by decide) : Z K d own cc nL pc ls (zI j :: zR a :: sk) μ := by
  obtain ⟨G, p, l, e, R, s, m, args, below, meth, c, A, Q, ce, sl⟩ := K
  intro F H locs la hP hS hl
  obtain ⟨q0, hq, hw⟩ := z_at (G := G) μ hv
  rw [he G] at hw
  have hi31 : i < 2 ^ 31 := by omega
  subst hj
  refine va_zald (D := G.2.1) (cl := vwCl) F.1 F.2.1 F.2.2.2.2.2.1 hP q0 1 hw rfl (vp_in_nI hi (by omega)) dg ?_
  rw [nI_clamp hi31]
  exact k F H locs la hP hS hl
theorem z_zast {a : zA} {n i : Nat} {j x : Int32} (dg : decode cc pc = .ok (.bastore, 1)) (he : ∀ G f, zent G a f = (.inl (G.2.2 1, n, .inl f))) (hj : j = nI i) (hi : i < n) (hx : vp_nar .boolean x = x) (k : Z K d own cc nL (pc + 1) ls sk (st μ a (upd (μ a) i x))) (hv : a ∈ zcells := by assumption) (hn : n < 5000 := by decide) : Z K d own cc nL pc ls (zI x :: zI j :: zR a :: sk) μ := by
  obtain ⟨G, p, l, e, R, s, m, args, below, meth, c, A, Q, ce, sl⟩ := K
  intro F H locs la hP hS hl
  obtain ⟨q0, hq, hw⟩ := z_at (G := G) μ hv
  rw [he G] at hw
  have hi31 : i < 2 ^ 31 := by omega
  refine va_zast (D := G.2.1) (cl := vwCl) F.1 F.2.1 F.2.2.2.2.2.1 hP (z_D F.2.2.2.2.2.2.1 F.2.2.2.2.2.2.2.1) hS q0 1 hw (i := j) rfl (by rw [hj]; exact vp_in_nI hi (by omega)) dg fun H1 locs1 hP1 _ hS1 => ?_
  rw [hj, nI_clamp hi31, hx] at hP1
  have e : ((zws G μ).set q0 (G.1 a, (.inl (G.2.2 1, n, .inl (upd (μ a) i x))))) = zws G (st μ a (upd (μ a) i x)) := by rw [← he G]; exact z_set hq
  have hP2 : va_P G.2.1 vwCl ((zws G μ).set q0 (G.1 a, (.inl (G.2.2 1, n, .inl (upd (μ a) i x))))) H1 := hP1
  rw [e] at hP2
  exact k F H1 locs1 la hP2 hS1 hl
theorem z_cald {a : zA} {n i : Nat} {j : Int32} (dg : decode cc pc = .ok (.caload, 1)) (he : ∀ G f, zent G a f = (.inl (G.2.2 2, n, .inl f))) (hj : j = nI i) (hi : i < n) (k : Z K d own cc nL (pc + 1) ls (zI (μ a i) :: sk) μ) (hv : a ∈ zcells := by assumption) (hn : n < 5000 := by decide) : Z K d own cc nL pc ls (zI j :: zR a :: sk) μ := by
  obtain ⟨G, p, l, e, R, s, m, args, below, meth, c, A, Q, ce, sl⟩ := K
  intro F H locs la hP hS hl
  obtain ⟨q0, hq, hw⟩ := z_at (G := G) μ hv
  rw [he G] at hw
  have hi31 : i < 2 ^ 31 := by omega
  subst hj
  refine va_cald (D := G.2.1) (cl := vwCl) F.1 F.2.1 F.2.2.2.2.2.1 hP q0 2 hw rfl (vp_in_nI hi (by omega)) dg ?_
  rw [nI_clamp hi31]
  exact k F H locs la hP hS hl
theorem z_cast {a : zA} {n i : Nat} {j x : Int32} (dg : decode cc pc = .ok (.castore, 1)) (he : ∀ G f, zent G a f = (.inl (G.2.2 2, n, .inl f))) (hj : j = nI i) (hi : i < n) (hx : vp_nar .char x = x) (k : Z K d own cc nL (pc + 1) ls sk (st μ a (upd (μ a) i x))) (hv : a ∈ zcells := by assumption) (hn : n < 5000 := by decide) : Z K d own cc nL pc ls (zI x :: zI j :: zR a :: sk) μ := by
  obtain ⟨G, p, l, e, R, s, m, args, below, meth, c, A, Q, ce, sl⟩ := K
  intro F H locs la hP hS hl
  obtain ⟨q0, hq, hw⟩ := z_at (G := G) μ hv
  rw [he G] at hw
  have hi31 : i < 2 ^ 31 := by omega
  refine va_cast (D := G.2.1) (cl := vwCl) F.1 F.2.1 F.2.2.2.2.2.1 hP (z_D F.2.2.2.2.2.2.1 F.2.2.2.2.2.2.2.1) hS q0 2 hw (i := j) rfl (by rw [hj]; exact vp_in_nI hi (by omega)) dg fun H1 locs1 hP1 _ hS1 => ?_
  rw [hj, nI_clamp hi31, hx] at hP1
  have e : ((zws G μ).set q0 (G.1 a, (.inl (G.2.2 2, n, .inl (upd (μ a) i x))))) = zws G (st μ a (upd (μ a) i x)) := by rw [← he G]; exact z_set hq
  have hP2 : va_P G.2.1 vwCl ((zws G μ).set q0 (G.1 a, (.inl (G.2.2 2, n, .inl (upd (μ a) i x))))) H1 := hP1
  rw [e] at hP2
  exact k F H1 locs1 la hP2 hS1 hl
theorem z_alen {a : zA} {n : Nat} (dg : decode cc pc = .ok (.arraylength, 1)) (he : ∀ G f, zent G a f = zarI G n f) (k : Z K d own cc nL (pc + 1) ls (zI (nI n) :: sk) μ) (hv : a ∈ zcells := by assumption) : Z K d own cc nL pc ls (zR a :: sk) μ := by
  obtain ⟨G, p, l, e, R, s, m, args, below, meth, c, A, Q, ce, sl⟩ := K
  intro F H locs la hP hS hl
  obtain ⟨q0, hq, hw⟩ := z_at (G := G) μ hv
  rw [he G] at hw
  exact va_alen (D := G.2.1) (cl := vwCl) F.1 F.2.1 F.2.2.2.2.2.1 hP q0 0 hw (ty := .int) rfl rfl dg (k F H locs la hP hS hl)
theorem z_aald {a b : zA} {n i ct : Nat} {ty : FieldType} {j : Int32} (g : Nat → zA) (dg : decode cc pc = .ok (.aaload, 1)) (he : ∀ G f, zent G a f = zarR ct n G g) (hct : ∀ G, (zty G)[ct]? = some (G.2.2 ct, ty)) (hr : ty.isReference = true) (hj : j = nI i) (hi : i < n) (hb : g i = b) (k : Z K d own cc nL (pc + 1) ls (zR b :: sk) μ) (hv : a ∈ zcells) (hn : n < 5000) : Z K d own cc nL pc ls (zI j :: zR a :: sk) μ := by
  obtain ⟨G, p, l, e, R, s, m, args, below, meth, c, A, Q, ce, sl⟩ := K
  intro F H locs la hP hS hl
  obtain ⟨q0, hq, hw⟩ := z_at (G := G) μ hv
  rw [he G] at hw
  have hi31 : i < 2 ^ 31 := by omega
  have hin : vp_in j n := by rw [hj]; exact vp_in_nI hi (by omega)
  have hcl : j.toNatClampNeg = i := by rw [hj]; exact nI_clamp hi31
  have hK := F.2.2.2.2.2.1
  refine W.aald (v := .ref (G.1 b)) (ty := ty) F.1 F.2.1 (hP q0 _ hw) ((hK.2 ct _ (hct G)).1 n (fun j => va_rf (some (G.1 (g j))))) hr (fun q => by cases q) (by show ¬ (j < 0 ∨ (arrV _ _ _).slots.size ≤ _); rw [arrV_size]; exact hin) ?_ rfl rfl dg (k F H locs la hP hS hl)
  show (arrV _ _ _).slots[_]? = _
  rw [hcl, arrV_read _ _ hi]
  show some (Value.ref (G.1 (g i))) = _
  rw [hb]
theorem z_ald1 {i : Nat} {j : Int32} (dg : decode cc pc = .ok (.aaload, 1)) (hj : j = nI i) (hi : i < 2) (k : Z K d own cc nL (pc + 1) ls (zR (5, 2 + i, 0) :: sk) μ) : Z K d own cc nL pc ls (zI j :: zR (1, 0, 0) :: sk) μ :=
  z_aald (ty := .object "DyeTank$Tank") (fun j => (5, 2 + j, 0)) dg (fun _ _ => rfl) (fun _ => rfl) rfl hj hi rfl k (by decide +kernel) (by decide)
theorem z_ald10 {i t : Nat} {j : Int32} (dg : decode cc pc = .ok (.aaload, 1)) (hj : j = nI i) (hi : i < 3) (k : Z K d own cc nL (pc + 1) ls (zR (11, t, i) :: sk) μ) (hv : (10, t, 0) ∈ zcells := by assumption) : Z K d own cc nL pc ls (zI j :: zR (10, t, 0) :: sk) μ :=
  z_aald (ty := .array .int) (fun j => (11, t, j)) dg (fun _ _ => rfl) (fun _ => rfl) rfl hj hi rfl k hv (by decide)
theorem z_ald12 {i t : Nat} {j : Int32} (dg : decode cc pc = .ok (.aaload, 1)) (hj : j = nI i) (hi : i < 6) (k : Z K d own cc nL (pc + 1) ls (zR (13, t, i) :: sk) μ) (hv : (12, t, 0) ∈ zcells := by assumption) : Z K d own cc nL pc ls (zI j :: zR (12, t, 0) :: sk) μ :=
  z_aald (ty := .object "DyeTank$Marker") (fun j => (13, t, j)) dg (fun _ _ => rfl) (fun _ => rfl) rfl hj hi rfl k hv (by decide)
theorem z_copy {a0 a1 : zA} {n0 n1 sp dp n idx : Nat} {jn js jd : Int32} (dg : decode cc pc = .ok (.invokestatic idx, 3)) (hl0 : Cond.methodLink own idx arraycopyName ∈ zT) (h0 : ∀ G f, zent G a0 f = zarI G n0 f) (h1 : ∀ G f, zent G a1 f = zarI G n1 f) (hjs : js = nI sp) (hjd : jd = nI dp) (hjn : jn = nI n) (hs : sp + n ≤ n0) (hd : dp + n ≤ n1) (hr : 1 ≤ d ∧ zsum sk ≤ 8)
    (k : Z K d own cc nL (pc + 3) ls sk (st μ a1 (va_cpy (μ a0) (μ a1) sp dp n))) (hv0 : a0 ∈ zcells := by assumption) (hv1 : a1 ∈ zcells := by assumption) (hn0 : n0 < 5000 := by decide) (hn1 : n1 < 5000 := by decide) : Z K d own cc nL pc ls (zI jn :: zI jd :: zR a1 :: zI js :: zR a0 :: sk) μ := by
  obtain ⟨G, p, l, e, R, s, m, args, below, meth, c, A, Q, ce, sl⟩ := K
  intro F H locs la hP hS hl
  obtain ⟨q0, hq0, hw0⟩ := z_at (G := G) μ hv0
  obtain ⟨q1, hq1, hw1⟩ := z_at (G := G) μ hv1
  rw [h0 G] at hw0
  rw [h1 G] at hw1
  have e1 : js.toNatClampNeg = sp := by rw [hjs]; exact nI_clamp (by omega)
  have e2 : jd.toNatClampNeg = dp := by rw [hjd]; exact nI_clamp (by omega)
  have e3 : jn.toNatClampNeg = n := by rw [hjn]; exact nI_clamp (by omega)
  have hts := F.2.2.2.2.1
  refine va_copyi (D := G.2.1) (cl := vwCl) F.1 F.2.1 (F.2.2.1.trans hl.1.symm) F.2.2.2.1 (hts _ hl0) (hts _ tw_66) (hts _ tw_65) (hts _ tw_4) F.2.2.2.2.2.1 hP (z_D F.2.2.2.2.2.2.1 F.2.2.2.2.2.2.2.1) hS q0 q1 0 0 hw0 hw1 rfl rfl rfl (by rw [hjs]; exact nI_pos (by omega)) (by rw [hjd]; exact nI_pos (by omega)) (by rw [hjn]; exact nI_pos (by omega)) (by rw [e1, e3]; exact hs) (by rw [e2, e3]; exact hd) (fun _ _ => rfl) (by have := F.2.2.2.2.2.2.2.2.2.2.2.1; omega) ?_ dg fun H1 locs1 hP1 _ hS1 => ?_
  · have h9 := F.2.2.2.2.2.2.2.2.2.2.2.2
    rw [zsum_eq]
    have h8 : nativeFrameWords "java/lang/System" "arraycopy" 5 + 11 ≤ 32 := by decide +kernel
    have := hr.2
    have := hr.1
    omega
  · rw [e1, e2, e3] at hP1
    have e : ((zws G μ).set q1 (G.1 a1, zarI G n1 (va_cpy (μ a0) (μ a1) sp dp n))) = zws G (st μ a1 (va_cpy (μ a0) (μ a1) sp dp n)) := by rw [← h1 G]; exact z_set hq1
    have hP2 : va_P G.2.1 vwCl ((zws G μ).set q1 (G.1 a1, zarI G n1 (va_cpy (μ a0) (μ a1) sp dp n))) H1 := hP1
    rw [e] at hP2
    exact k F H1 locs1 la hP2 hS1 hl
theorem z_gets {i idx : Nat} (hi : i = 40 ∨ i = 41 ∨ i = 42) (dg : decode cc pc = .ok (.getstatic idx, 3)) (hl0 : Cond.fieldLink own idx "DyeTank" (znm i) "[I" ∈ zT) (k : Z K d own cc nL (pc + 3) ls (zR (i, 0, 0) :: sk) μ) (hA : ∀ q, K.2.2.2.2.2.2.2.2.2.2.2.1 q → True := fun _ _ => trivial) : Z K d own cc nL pc ls sk μ := by
  obtain ⟨G, p, l, e, R, s, m, args, below, meth, c, A, Q, ce, sl⟩ := K
  intro F H locs la hP hS hl
  exact va_gets F.1 F.2.1 (F.2.2.2.2.2.2.2.2.1 i hi).1 hS F.2.2.2.1 (F.2.2.2.2.1 _ hl0) (fun _ h => h) dg (k F H locs la hP hS hl)
theorem z_sald {i j0 : Nat} {j : Int32} (hi : i = 40 ∨ i = 41 ∨ i = 42) (dg : decode cc pc = .ok (.iaload, 1)) (hj : j = nI j0) (hj0 : j0 < 7) (k : Z K d own cc nL (pc + 1) ls (zI ((ztab i).getD j0 0) :: sk) μ) : Z K d own cc nL pc ls (zI j :: zR (i, 0, 0) :: sk) μ := by
  obtain ⟨G, p, l, e, R, s, m, args, below, meth, c, A, Q, ce, sl⟩ := K
  intro F H locs la hP hS hl
  exact va_ti F.1 F.2.1 (F.2.2.2.2.2.2.2.2.1 i hi).2 hS (by rw [hj]; exact vp_in_nI hj0 (by omega)) (by rw [hj, nI_clamp (by omega)]; rfl) dg (k F H locs la hP hS hl)
theorem z_getsN (dg : decode cc pc = .ok (.getstatic 59, 3)) (k : Z K d "DyeTank$Tank" cc nL (pc + 3) ls (zR (40, 0, 0) :: sk) μ) : Z K d "DyeTank$Tank" cc nL pc ls sk μ := by
  obtain ⟨G, p, l, e, R, s, m, args, below, meth, c, A, Q, ce, sl⟩ := K
  intro F H locs la hP hS hl
  exact va_getsN F.1 F.2.1 (F.2.2.2.2.2.2.2.2.1 40 (Or.inl rfl)).1 hS F.2.2.2.1 (va_Nw.use rfl F.2.2.2.2.2.2.2.2.2.1) (fun _ h => h) dg (k F H locs la hP hS hl)
theorem z_mmax {x y : Int32} {idx : Nat} (dg : decode cc pc = .ok (.invokestatic idx, 3)) (hl0 : Cond.methodLink own idx Lib.Math.max.name ∈ zT) (hr : 1 ≤ d ∧ zsum sk ≤ 8) (k : Z K d own cc nL (pc + 3) ls (zI (if x < y then y else x) :: sk) μ) : Z K d own cc nL pc ls (zI y :: zI x :: sk) μ := by
  obtain ⟨G, p, l, e, R, s, m, args, below, meth, c, A, Q, ce, sl⟩ := K
  intro F H locs la hP hS hl
  have hts := F.2.2.2.2.1
  exact va_mmax F.1 F.2.1 (F.2.2.1.trans hl.1.symm) F.2.2.2.1 (hts _ hl0) (hts _ tw_222) (hts _ tw_7) (hts _ tw_223) (by have := F.2.2.2.2.2.2.2.2.2.2.2.1; omega) (by have h9 := F.2.2.2.2.2.2.2.2.2.2.2.2; rw [zsum_eq]; omega) F.2.2.2.2.2.2.2.2.2.2.1.1 F.2.2.2.2.2.2.2.2.2.2.1.2 dg (k F H locs la hP hS hl)
theorem z_mmin {x y : Int32} {idx : Nat} (dg : decode cc pc = .ok (.invokestatic idx, 3)) (hl0 : Cond.methodLink own idx Lib.Math.min.name ∈ zT) (hr : 1 ≤ d ∧ zsum sk ≤ 8) (k : Z K d own cc nL (pc + 3) ls (zI (if y < x then y else x) :: sk) μ) : Z K d own cc nL pc ls (zI y :: zI x :: sk) μ := by
  obtain ⟨G, p, l, e, R, s, m, args, below, meth, c, A, Q, ce, sl⟩ := K
  intro F H locs la hP hS hl
  have hts := F.2.2.2.2.1
  exact va_mmin F.1 F.2.1 (F.2.2.1.trans hl.1.symm) F.2.2.2.1 (hts _ hl0) (hts _ tw_243) (hts _ tw_7) (hts _ tw_244) (by have := F.2.2.2.2.2.2.2.2.2.2.2.1; omega) (by have h9 := F.2.2.2.2.2.2.2.2.2.2.2.2; rw [zsum_eq]; omega) F.2.2.2.2.2.2.2.2.2.2.1.1 F.2.2.2.2.2.2.2.2.2.2.1.2 dg (k F H locs la hP hS hl)
theorem z_mabs {x : Int32} {idx : Nat} (dg : decode cc pc = .ok (.invokestatic idx, 3)) (hl0 : Cond.methodLink own idx Lib.Math.abs.name ∈ zT) (hr : 1 ≤ d ∧ zsum sk ≤ 8) (k : Z K d own cc nL (pc + 3) ls (zI (if 0 ≤ x then x else 0 - x) :: sk) μ) : Z K d own cc nL pc ls (zI x :: sk) μ := by
  obtain ⟨G, p, l, e, R, s, m, args, below, meth, c, A, Q, ce, sl⟩ := K
  intro F H locs la hP hS hl
  have hts := F.2.2.2.2.1
  exact va_mabs F.1 F.2.1 (F.2.2.1.trans hl.1.symm) F.2.2.2.1 (hts _ hl0) (hts _ tw_219) (hts _ tw_7) (hts _ tw_220) (by have := F.2.2.2.2.2.2.2.2.2.2.2.1; omega) (by have h9 := F.2.2.2.2.2.2.2.2.2.2.2.2; rw [zsum_eq]; omega) F.2.2.2.2.2.2.2.2.2.2.1.1 F.2.2.2.2.2.2.2.2.2.2.1.2 dg (k F H locs la hP hS hl)
theorem z_mabsl {x : Int64} {idx : Nat} (dg : decode cc pc = .ok (.invokestatic idx, 3)) (hl0 : Cond.methodLink own idx Lib.MathLoose.abs_long.x ∈ zT) (hr : 1 ≤ d ∧ zsum sk ≤ 8) (k : Z K d own cc nL (pc + 3) ls (zL (if 0 < x then x else -x) :: sk) μ) : Z K d own cc nL pc ls (zL x :: sk) μ := by
  obtain ⟨G, p, l, e, R, s, m, args, below, meth, c, A, Q, ce, sl⟩ := K
  intro F H locs la hP hS hl
  have hts := F.2.2.2.2.1
  exact va_mabs_long F.1 F.2.1 (F.2.2.1.trans hl.1.symm) F.2.2.2.1 (hts _ hl0) (hts _ tw_428) (hts _ tw_7) (hts _ tw_429) (by have := F.2.2.2.2.2.2.2.2.2.2.2.1; omega) (by have h9 := F.2.2.2.2.2.2.2.2.2.2.2.2; rw [zsum_eq]; omega) F.2.2.2.2.2.2.2.2.2.2.1.1 F.2.2.2.2.2.2.2.2.2.2.1.2 dg (k F H locs la hP hS hl)
theorem z_iret {Po : zM → zV → Prop} {v : Int32} (hR : zRet K Po (some .int)) (dg : decode cc pc = .ok (.ireturn, 1)) (h : Po μ (zI v)) : Z K d own cc nL pc ls [zI v] μ := by
  obtain ⟨G, p, l, e, R, s, m, args, below, meth, c, A, Q, ce, sl⟩ := K
  intro F H locs la hP hS hl
  obtain ⟨rfl, rfl, hr, hlk⟩ := hR
  exact W.iret F.1 F.2.1 hr (fun t ht hW => ⟨μ, zI v, rfl, h, by rw [ht]; exact hP, hS.F ht⟩) hS.2.2 dg hlk
theorem z_lret {Po : zM → zV → Prop} {v : Int64} (hR : zRet K Po (some .long)) (dg : decode cc pc = .ok (.lreturn, 1)) (h : Po μ (zL v)) : Z K d own cc nL pc ls [zL v] μ := by
  obtain ⟨G, p, l, e, R, s, m, args, below, meth, c, A, Q, ce, sl⟩ := K
  intro F H locs la hP hS hl
  obtain ⟨rfl, rfl, hr, hlk⟩ := hR
  exact W.lret F.1 F.2.1 hr (fun t ht hW => ⟨μ, zL v, rfl, h, by rw [ht]; exact hP, hS.F ht⟩) hS.2.2 dg hlk
theorem z_zret {Po : zM → zV → Prop} {v : Int32} {ty : FieldType} (hR : zRet K Po (some ty)) (dg : decode cc pc = .ok (.ireturn, 1)) (hn : narrow ty (.int v) = .int v) (h : Po μ (zI v)) : Z K d own cc nL pc ls [zI v] μ := by
  obtain ⟨G, p, l, e, R, s, m, args, below, meth, c, A, Q, ce, sl⟩ := K
  intro F H locs la hP hS hl
  obtain ⟨rfl, rfl, hr, hlk⟩ := hR
  exact W.zret F.1 F.2.1 hr hn (fun t ht hW => ⟨μ, zI v, rfl, h, by rw [ht]; exact hP, hS.F ht⟩) hS.2.2 dg hlk
theorem z_vret {Po : zM → zV → Prop} (hR : zRet K Po none) (dg : decode cc pc = .ok (.return_, 1)) (h : Po μ zN) : Z K d own cc nL pc ls [] μ := by
  obtain ⟨G, p, l, e, R, s, m, args, below, meth, c, A, Q, ce, sl⟩ := K
  intro F H locs la hP hS hl
  obtain ⟨rfl, rfl, hr, hlk⟩ := hR
  exact W.vret F.1 F.2.1 hr (fun t ht hW => ⟨μ, zN, rfl, h, by rw [ht]; exact hP, hS.F ht⟩) hS.2.2 dg hlk
def zobj : Nat → Option Nat
  | 0 => some 3
  | 3 => some 1
  | 5 => some 2
  | 13 => some 0
  | _ => none
theorem zobj_ent {a : zA} {ci : Nat} (h : zobj a.1 = some ci) (G : zG) (f : Nat → Int32) : ∃ fs, zent G a f = .inr (ci, fs) := by
  obtain ⟨o, t, i⟩ := a
  have h1 : o = 0 ∨ o = 3 ∨ o = 5 ∨ o = 13 := by
    unfold zobj at h
    split at h <;> simp_all
  rcases h1 with rfl | rfl | rfl | rfl <;> (cases h; exact ⟨_, rfl⟩)
/-- what the tables say of a method -/
def zMt (y : MethodName) (cc' : ByteArray) (nL' : Nat) (ret : Option FieldType) (n : Nat) : Prop := (y.cls ≠ "java/lang/invoke/MethodHandle" ∧ y.cls ≠ "java/lang/invoke/VarHandle") ∧ (parseMethodDescriptor y.desc).map (fun d => d.parameters.length) = some n ∧ Cond.code y cc' nL' ret ∈ zT ∧ Cond.initialized y.cls ∈ zT ∧ nL' ≤ 21
def zMv (ci : Nat) (y : MethodName) (cc' : ByteArray) (nL' : Nat) (ret : Option FieldType) (n : Nat) : Prop := zMt y cc' nL' ret n ∧ (vwCl[ci]?).map (fun q => q.1) = some y.cls ∧ Cond.instanceMethod y ∈ zT ∧ Cond.selects y.cls y y ∈ zT
def zMs (y : MethodName) (cc' : ByteArray) (nL' : Nat) (ret : Option FieldType) (n : Nat) : Prop := zMt y cc' nL' ret n ∧ Cond.static y ∈ zT
theorem zPre_blind (G : zG) (μ : zM) (av : List Value) : FrameBlind (va_Pc av (zPre G μ)) := fun a U g mk h => ⟨h.1, va_K.moved (u := U) (U := U.calling g mk a) (Vm.Alike.refl U.vm) h.2.1, h.2.2.1, h.2.2.2.1, zSt.moved (u := U) (U := U.calling g mk a) (Vm.Alike.refl U.vm) h.2.2.2.2.1, va_Nw.same (u := U) (U := U.calling g mk a) rfl rfl h.2.2.2.2.2⟩
theorem z_goodin {y : MethodName} {cc' : ByteArray} {nL' : Nat} {ret : Option FieldType} (h : Cond.code y cc' nL' ret ∈ zT) : GoodIn zT (Cond.code y cc' nL' ret :: zT) := fun w hw => by
  rcases List.mem_cons.mp hw with rfl | hw
  · exact zT_good _ h
  · exact zT_good _ hw
theorem z_run {p : Program} {l : Launch} {e : Env} {R : Room} {s : State} {m : MethodId} {args : Array Value} {below : List Frame} {meth : Method} {c : Code} {H : Heap} {locs : List Loc} {ce sl : Nat} {rest : List zV} {G : zG} {Po : zM → zV → Prop} {A : Nat → Prop} {Q : State → Prop} {la : Array Slot} {st0 : List Value} {aa : Array Value}
    (hr : va_Run p l e R s m args below meth c H locs ce sl 0 0 (F0 m pc la st0) (rest.map (zc G.1)) (zQ G Po aa) (zfree G)) (hS : va_S A s.heap H locs) (hA : ∀ a ∈ zcells, A (G.1 a))
    (kk : ∀ (μ' : zM) (r : zV) (H1 : Heap) (locs1 : List Loc), Po μ' r → zP G μ' H1 → va_S A s.heap H1 locs1 → W p l e R s m args below meth c H1 locs1 ce sl Q (F0 m (pc + 3) la ((zret G r).toList ++ rest.map (zc G.1)))) : W p l e R s m args below meth c H locs ce sl Q (F0 m pc la st0) := by
  intro T hT X
  obtain ⟨v, u0, t, T', L, h0, X', hL, e1, e2, ⟨μ', r, hv, hp, hb, hz, hk⟩, stp⟩ := hr T hT X
  cases hv
  rw [h0] at hz hk
  have hfA : ∀ q, zfree G q → A q := fun q ⟨a, ha, e⟩ => by rw [e]; exact hA a ha
  obtain ⟨t2, a1, b1⟩ := kk μ' r T'.heap (locs ++ L) hp (by rw [e1]; exact hb)
    ⟨Nat.le_trans hS.1 (by rw [e1]; exact hz), fun q h1 h2 => by rw [e1, hk q (Nat.lt_of_lt_of_le h1 hS.1) (fun z => h2 (hfA q z))]; exact hS.2.1 q h1 h2, fun q hq => by
      rcases List.mem_append.mp hq with h | h
      · exact hS.2.2 q h
      · exact hfA _ (hL q h)⟩ T' rfl X'
  exact ⟨t2, stp t2 a1, b1⟩
theorem zret_list (G : zG) (r : zV) (rest : List zV) : (zret G r).toList ++ rest.map (zc G.1) = ((match r with | none => [] | some x => [some x]) ++ rest).map (zc G.1) := by
  cases r <;> rfl
def zpush : zV → List zV → List zV
  | none, sk => sk
  | some x, sk => some x :: sk
theorem zret_push (G : zG) (r : zV) (rest : List zV) : (zret G r).toList ++ rest.map (zc G.1) = (zpush r rest).map (zc G.1) := by
  cases r <;> rfl
theorem z_callV {y : MethodName} {cc' : ByteArray} {nL' n idx ci d' : Nat} {ret : Option FieldType} {a : zA} {av stk : List zV} {Po : zM → zV → Prop} (hm : zMv ci y cc' nL' ret n) (hl0 : Cond.methodLink own idx y ∈ zT) (dg : decode cc pc = .ok (.invokevirtual idx, 3)) (hn : av.length = n) (ho : zobj a.1 = some ci) (hstk : stk = av.reverse ++ zR a :: sk) (hd : d' < d) (hsk : zsum sk ≤ 8) (hC : zCt y cc' nL' ret d' (zR a :: av) μ Po)
    (k : ∀ (μ' : zM) (r : zV), Po μ' r → Z K d own cc nL (pc + 3) ls (zpush r sk) μ') (hv : a ∈ zcells := by assumption) : Z K d own cc nL pc ls stk μ := by
  obtain ⟨G, p, l, e, R, s, m, args, below, meth, c, A, Q, ce, sl⟩ := K
  intro F H locs la hP hS hl
  obtain ⟨⟨hy, hpar, hcode, hini, hnL⟩, hcl, hinst, hsel⟩ := hm
  subst hstk
  have hts := F.2.2.2.2.1
  have hK := F.2.2.2.2.2.1
  obtain ⟨q0, hq, hw⟩ := z_at (G := G) μ hv
  obtain ⟨fs, hfs⟩ := zobj_ent ho G (μ a)
  rw [hfs] at hw
  cases hvc : vwCl[ci]? with
  | none => rw [hvc] at hcl; cases hcl
  | some q =>
  rw [hvc] at hcl
  have hqc : q.1 = y.cls := Option.some.inj hcl
  have hR := F.2.2.2.2.2.2.2.2.2.2.2
  refine z_run (rest := sk) (va_runV (C := y.cls) (As := av.map (zc G.1)) ⟨F.1, F.2.1, F.2.2.1, F.2.2.2.1, hts⟩ (hC l G) ⟨callB_of (own := own) n hts (z_goodin hcode) rfl rfl rfl (hts _ hini) (hts _ hl0) ⟨hy.1, hy.2, hpar⟩ ⟨by show d' + 1 ≤ _; omega, by show _ + 40 * d' ≤ _; omega⟩, hts _ hinst, hts _ hsel⟩ ⟨zPre_blind G μ _, by rw [← hqc]; exact va_recv hK hP hvc hw, fun U hU hW => ⟨rfl, va_K.moved hW.alike hK, F.2.2.2.2.2.2.1, by rw [hU]; exact hP, ?_, va_Nw.warmF hW F.2.2.2.2.2.2.2.2.2.1⟩⟩ rfl (by rw [List.length_map]; exact hn) hl.1 (by show (List.map (zc G.1) _) = _; rw [List.map_append, List.map_reverse]; rfl) (lv_room (by rw [zsum_eq]; exact hsk)) dg ⟨F.2.2.2.2.2.2.2.2.2.2.1.1, F.2.2.2.2.2.2.2.2.2.2.1.2⟩) hS F.2.2.2.2.2.2.2.1 fun μ' r H1 locs1 hp hP1 hS1 => ?_
  · rw [hU]
    have h1 := zSt.kept (F.2.2.2.2.2.2.2.2.1) (H1 := H) hS.2.1
    exact zSt.moved hW.alike (zSt.narrow h1 fun q ⟨a, ha, e⟩ => by rw [e]; exact F.2.2.2.2.2.2.2.1 a ha)
  · rw [zret_push]
    exact k μ' r hp F H1 locs1 la hP1 hS1 hl
theorem z_callS {y : MethodName} {cc' : ByteArray} {nL' n idx d' : Nat} {ret : Option FieldType} {av stk : List zV} {Po : zM → zV → Prop} (hm : zMs y cc' nL' ret n) (hl0 : Cond.methodLink own idx y ∈ zT) (dg : decode cc pc = .ok (.invokestatic idx, 3)) (hn : av.length = n) (hstk : stk = av.reverse ++ sk) (hd : d' < d) (hsk : zsum sk ≤ 8) (hC : zCt y cc' nL' ret d' av μ Po)
    (k : ∀ (μ' : zM) (r : zV), Po μ' r → Z K d own cc nL (pc + 3) ls (zpush r sk) μ') : Z K d own cc nL pc ls stk μ := by
  obtain ⟨G, p, l, e, R, s, m, args, below, meth, c, A, Q, ce, sl⟩ := K
  intro F H locs la hP hS hl
  obtain ⟨⟨hy, hpar, hcode, hini, hnL⟩, hstat⟩ := hm
  subst hstk
  have hts := F.2.2.2.2.1
  have hK := F.2.2.2.2.2.1
  have hR := F.2.2.2.2.2.2.2.2.2.2.2
  refine z_run (rest := sk) (va_runS (As := av.map (zc G.1)) ⟨F.1, F.2.1, F.2.2.1, F.2.2.2.1, hts⟩ (hC l G) ⟨callB_of (own := own) n hts (z_goodin hcode) rfl rfl rfl (hts _ hini) (hts _ hl0) ⟨hy.1, hy.2, hpar⟩ ⟨by show d' + 1 ≤ _; omega, by show _ + 40 * d' ≤ _; omega⟩, hts _ hstat⟩ ⟨zPre_blind G μ _, fun U hU hW => ⟨rfl, va_K.moved hW.alike hK, F.2.2.2.2.2.2.1, by rw [hU]; exact hP, ?_, va_Nw.warmF hW F.2.2.2.2.2.2.2.2.2.1⟩⟩ rfl (by rw [List.length_map]; exact hn) hl.1 (by show (List.map (zc G.1) _) = _; rw [List.map_append, List.map_reverse]) (lv_room (by rw [zsum_eq]; exact hsk)) dg ⟨F.2.2.2.2.2.2.2.2.2.2.1.1, F.2.2.2.2.2.2.2.2.2.2.1.2⟩) hS F.2.2.2.2.2.2.2.1 fun μ' r H1 locs1 hp hP1 hS1 => ?_
  · rw [hU]
    have h1 := zSt.kept (F.2.2.2.2.2.2.2.2.1) (H1 := H) hS.2.1
    exact zSt.moved hW.alike (zSt.narrow h1 fun q ⟨a, ha, e⟩ => by rw [e]; exact F.2.2.2.2.2.2.2.1 a ha)
  · rw [zret_push]
    exact k μ' r hp F H1 locs1 la hP1 hS1 hl
end ZHEAP
/-! a method's start -/
def zone : List zV → Bool
  | [] => true
  | a :: t => (zcat a == 1) && zone t
theorem zl_entry {G : zG} : ∀ (av : List zV) (r k : Nat), zone av = true → ∀ q ∈ zl G k (av ++ List.replicate r zN), q ∈ lv_args k (av.map (zc G.1))
  | [], 0, k, _, q, h => by simp [zl] at h
  | [], r + 1, k, h0, q, h => by
    rw [List.nil_append, List.replicate_succ] at h
    exact zl_entry [] r (k + 1) h0 q h |> fun h => by simp [lv_args] at h
  | none :: t, r, k, h0, q, h => by
    have h1 : zone t = true := by
      simp only [zone, Bool.and_eq_true] at h0
      exact h0.2
    have := zl_entry t r (k + 1) h1 q h
    exact List.mem_cons_of_mem _ this
  | some x :: t, r, k, h0, q, h => by
    simp only [zone, Bool.and_eq_true, beq_iff_eq] at h0
    rw [List.cons_append] at h
    rcases List.mem_cons.mp h with h | h
    · exact List.mem_cons.mpr (Or.inl h)
    · have := zl_entry t r (k + 1) h0.2 q h
      rw [List.map_cons]
      refine List.mem_cons_of_mem _ ?_
      rw [zcat_eq, h0.1]
      exact this
theorem lg_sl_one (ad : zA → Nat) : ∀ av : List zV, zone av = true → (lg_sl (av.map (zc ad))).length = av.length
  | [], _ => rfl
  | a :: t, h => by
    simp only [zone, Bool.and_eq_true, beq_iff_eq] at h
    have e : (zc ad a).category = 1 := by rw [zcat_eq]; exact h.1
    show ((((a :: t).map (zc ad)).flatMap _)).length = _
    rw [List.map_cons, List.flatMap_cons, List.length_append, List.length_cons]
    have := lg_sl_one ad t h.2
    unfold lg_sl at this
    rw [this, e]
    simp
    omega
theorem Met.ofWF {l : Launch} {y : MethodName} {ws ws' : List Cond} {rm : Room} {Pc : Array Value → State → Prop} {Qc : Array Value → State → Outcome → State → Prop} {mc ms : Nat} {free : Addr → Prop} {cc : ByteArray} {maxL : Nat} {ret : Option FieldType}
    (hy : plainFor y = true) (hw : ws = Cond.code y cc maxL ret :: ws')
    (body : ∀ p e s m args below meth c s₁, BodyLoose p l y (headSpec ws rm) cc maxL ret e s m args below meth c s₁ → c.maxLocals = maxL → Pc args s →
      W p l e (headSpec ws rm).room s m args below meth c s.heap [] 0 0 (MQ below Qc args s mc ms free) (entryFrame m args maxL)) : Met l y ws rm Pc Qc mc ms free := by
  refine MetFree.of_bodySF (code := cc) (maxLocals := maxL) (ret := ret) hy ?_ ?_
  · intro args s m h hn
    obtain ⟨meth, c, h1, h2, h3, h4, h5, h6, -, -⟩ := Cond.code_spec hn (atoms_spec (ws := ws) h _ (by rw [hw]; exact List.mem_cons_self))
    exact ⟨meth, c, h1, h2, h3, h4, h5, h6⟩
  · intro p e s m args below meth c s₁ B hml hP _
    have hh0 : s₁.heap = s.heap := by rw [B.state]; rfl
    obtain ⟨t, a1, o, b1, b2, b3⟩ := body p e s m args below meth c s₁ B hml hP s₁ hh0 (Stand.of_body B)
    exact ⟨t, o, a1, b1, b2, ⟨b3.1, b3.2⟩⟩
theorem zCt.of {y : MethodName} {cc : ByteArray} {nL d : Nat} {ret : Option FieldType} {av : List zV} {μ : zM} {Po : zM → zV → Prop} (own : String) (hown : y.cls = own) (hy : plainFor y = true) (h1 : zone av = true) (h2 : av.length ≤ nL) (h : ∀ K : zK, zRet K Po ret → Z K d own cc nL 0 (av ++ List.replicate (nL - av.length) zN) [] μ) : zCt y cc nL ret d av μ Po := by
  intro l G
  refine Met.ofWF (cc := cc) (maxL := nL) (ret := ret) hy rfl ?_
  intro p e s m args below meth c s₁ B hml hv
  obtain ⟨rfl, hK, hI, hP, hSt, hNs⟩ := hv
  have hts0 := atoms_spec (ws := .code y cc nL ret :: zT) B.pre
  have hts : ∀ w ∈ zT, w.before (av.map (zc G.1)).toArray s = true := fun w hw => hts0 w (List.mem_cons_of_mem _ hw)
  have ho : s.vm.findClass own = some m.cls := by rw [← hown]; exact findClass_of_methodNamed B.named
  have hz := h (G, p, l, e, zrm d, s, m, (av.map (zc G.1)).toArray, below, meth, c, zfree G, MQ below (zQ G Po) (av.map (zc G.1)).toArray s 0 0 (zfree G), 0, 0) ⟨rfl, rfl, B.returns, B.notSynchronized⟩
  rw [lg_entry_eq]
  exact hz ⟨B.exec, B.bytes, hml, ho, hts, hK, hI, fun a ha => ⟨a, ha, rfl⟩, hSt, hNs, ⟨Nat.zero_le _, Nat.zero_le _⟩, ⟨Nat.le_refl _, Nat.le_refl _⟩⟩ s.heap [] _ hP va_S.rf (lv_less (lv_entry (av.map (zc G.1)) (n := nL) (by rw [lg_sl_one G.1 av h1]; exact h2)) (zl_entry av _ 0 h1))
