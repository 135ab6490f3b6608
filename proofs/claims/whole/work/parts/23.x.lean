set_option maxHeartbeats 4000000 in
set_option maxRecDepth 100000 in
theorem c_X1_rear {l : Launch} {D : va_G} {cI cL cR : ClassId} {ad : Nat → Nat} {f : St} {C : List Nat} {n b q : Nat} {r : Nat} (hx : xw n b q f C) (hr : r < b) : ctI l D vwCl (tyW cI cL cR) yX1_rear wsX1_rear { frames := 0, cells := 0, slots := 0, locals := 0 } [.ref (ad (29 + r))] (wX cI cL cR ad C f) (fun r u => r = (f 11 r - 9) ∧ u = (wX cI cL cR ad C f)) 0 0 := by
  refine ctI_of (cc := cX1_rear) (maxL := 1) (ret := (some .int)) (by decide) rfl rfl (Nat.le_of_ble_eq_true rfl) (by simp [Value.category]) [(0, .ref (ad (29 + r)))] rfl ?_
  intro p e s m args below meth c sz h hrt hlk hnm
  have hin1 : ∀ x ∈ wsX10, x ∈ wsX1_rear := by decide +kernel
  have hn24 := hx.1
  have hb8 := hx.2.1
  have hq8 := hx.2.2.1
  refine j_aload_nR h dX1_rear_0 rfl ?_
  refine x1_get5 h hin1 (by decide +kernel) dX1_rear_1 (by omega) (by first | exact hx.c (by omega) | exact hx.l (by omega) | exact hx.r (by omega) | exact hx.s (by omega)) ?_
  refine j_bipush (v := 9) h dX1_rear_4 (by decide) ?_
  refine j_isub h dX1_rear_6 ?_
  exact j_iret h hrt hlk dX1_rear_7 (by decide) (by decide) (⟨rfl, rfl⟩)
