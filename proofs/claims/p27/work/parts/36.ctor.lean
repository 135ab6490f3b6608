set_option maxHeartbeats 4000000 in
set_option maxRecDepth 100000 in
theorem c_X0_init {l : Launch} {D : va_G} {cI cL cR : ClassId} {h0 : Nat} {a b g : Int32} : ctV l D vwCl (tyW cI cL cR) yX0_init wsX0_init { frames := 1, cells := 0, slots := 0, locals := 20 } [.ref h0, .int a, .int b, .int g] [(h0, .inr (0, [.int 0, .int 0, .int 0, .int 0, .int 0, .null, .int 0]))] (fun u => u = [(h0, .inr (0, [.int a, .int b, .int g, .int 0, .int (20 * g), .null, .int (-1)]))]) 0 0 := by
  refine ctV_of (cc := cX0_init) (maxL := 4) (ret := none) (by decide) rfl rfl (Nat.le_of_ble_eq_true rfl) (by simp [Value.category]) [(0, .ref h0), (1, .int a), (2, .int b), (3, .int g)] rfl ?_
  intro p e s m args below meth c sz h hrt hlk hnm
  have hin : ∀ x ∈ wsX00, x ∈ wsX0_init := by decide +kernel
  obtain ⟨B9, -, -, hxe9⟩ := id h.2.2.2.2.2.2.2
  refine j_aload_nR h dX0_init_0 rfl ?_
  refine j_objInit h (by decide +kernel) (by decide +kernel) (by decide +kernel) dX0_init_1 (Nat.le_of_ble_eq_true rfl) (Nat.le_of_ble_eq_true rfl) ?_
  refine j_aload_nR h dX0_init_4 rfl ?_
  refine j_iconst (v := 0) h dX0_init_5 (by decide) ?_
  refine j_put (ref := RX0) (ty := .int) h 0 3 tyX0 tyX0_ok nmX0 dX0_init_6 hin rfl (by decide) (by decide +kernel) (fun _ h9 => h9) rfl rfl rfl rfl rfl (Nat.le_of_ble_eq_true rfl) ?_
  refine jj_ws (ws1 := [(h0, .inr (0, [.int 0, .int 0, .int 0, .int (0), .int 0, .null, .int 0]))]) rfl ?_
  refine j_aload_nR h dX0_init_9 rfl ?_
  refine j_null h dX0_init_10 ?_
  refine j_put (ref := RX0) (ty := (.object "Festoon$Raft")) h 0 5 tyX0 tyX0_ok nmX0 dX0_init_11 hin rfl (by decide) (by decide +kernel) (fun _ h9 => h9) rfl rfl rfl rfl rfl (Nat.le_of_ble_eq_true rfl) ?_
  refine jj_ws (ws1 := [(h0, .inr (0, [.int 0, .int 0, .int 0, .int (0), .int 0, .null, .int 0]))]) rfl ?_
  refine j_aload_nR h dX0_init_14 rfl ?_
  refine j_iconst (v := (-1)) h dX0_init_15 (by decide) ?_
  refine j_put (ref := RX0) (ty := .int) h 0 6 tyX0 tyX0_ok nmX0 dX0_init_16 hin rfl (by decide) (by decide +kernel) (fun _ h9 => h9) rfl rfl rfl rfl rfl (Nat.le_of_ble_eq_true rfl) ?_
  refine jj_ws (ws1 := [(h0, .inr (0, [.int 0, .int 0, .int 0, .int (0), .int 0, .null, .int (-1)]))]) rfl ?_
  refine j_aload_nR h dX0_init_19 rfl ?_
  refine j_iload_n h dX0_init_20 rfl ?_
  refine j_putF (ref := RX0) (ty := .int) h 0 0 tyX0 tyX0_ok nmX0 dX0_init_21 hin rfl (by decide) (by decide +kernel) (fun _ h9 => h9) rfl hnm rfl rfl rfl rfl rfl (Nat.le_of_ble_eq_true rfl) ?_
  refine jj_ws (ws1 := [(h0, .inr (0, [.int (a), .int 0, .int 0, .int (0), .int 0, .null, .int (-1)]))]) rfl ?_
  refine j_aload_nR h dX0_init_24 rfl ?_
  refine j_iload_n h dX0_init_25 rfl ?_
  refine j_putF (ref := RX0) (ty := .int) h 0 1 tyX0 tyX0_ok nmX0 dX0_init_26 hin rfl (by decide) (by decide +kernel) (fun _ h9 => h9) rfl hnm rfl rfl rfl rfl rfl (Nat.le_of_ble_eq_true rfl) ?_
  refine jj_ws (ws1 := [(h0, .inr (0, [.int (a), .int (b), .int 0, .int (0), .int 0, .null, .int (-1)]))]) rfl ?_
  refine j_aload_nR h dX0_init_29 rfl ?_
  refine j_iload_n h dX0_init_30 rfl ?_
  refine j_putF (ref := RX0) (ty := .int) h 0 2 tyX0 tyX0_ok nmX0 dX0_init_31 hin rfl (by decide) (by decide +kernel) (fun _ h9 => h9) rfl hnm rfl rfl rfl rfl rfl (Nat.le_of_ble_eq_true rfl) ?_
  refine jj_ws (ws1 := [(h0, .inr (0, [.int (a), .int (b), .int (g), .int (0), .int 0, .null, .int (-1)]))]) rfl ?_
  refine j_aload_nR h dX0_init_34 rfl ?_
  refine j_bipush (v := 20) h dX0_init_35 (by decide) ?_
  refine j_iload_n h dX0_init_37 rfl ?_
  refine j_imul h dX0_init_38 ?_
  refine j_put (ref := RX0) (ty := .int) h 0 4 tyX0 tyX0_ok nmX0 dX0_init_39 hin rfl (by decide) (by decide +kernel) (fun _ h9 => h9) rfl rfl rfl rfl rfl (Nat.le_of_ble_eq_true rfl) ?_
  refine jj_ws (ws1 := [(h0, .inr (0, [.int (a), .int (b), .int (g), .int (0), .int ((20 * g)), .null, .int (-1)]))]) rfl ?_
  exact j_vret h hrt hlk dX0_init_42 (by decide) (by decide) rfl
set_option maxHeartbeats 4000000 in
set_option maxRecDepth 100000 in
theorem c_X1_init {l : Launch} {D : va_G} {cI cL cR : ClassId} {h0 : Nat} {a b g : Int32} : ctV l D vwCl (tyW cI cL cR) yX1_init wsX1_init { frames := 1, cells := 1, slots := 10, locals := 20 } [.ref h0, .int a, .int b, .int g] [(h0, .inr (1, [.int 0, .int 0, .int 0, .null, .int 0, .int 0, .int 0]))] (fun u => ∃ q1 : Nat, u = [(h0, .inr (1, [.int a, .int b, .int g, .ref q1, .int 0, .int (-1), .int (-1)])), (q1, .inl (cL, 10, .inr (.inr (.inr (.inr (fun _ => none))))))]) 1 10 := by
  refine ctV_of (cc := cX1_init) (maxL := 4) (ret := none) (by decide) rfl rfl (Nat.le_of_ble_eq_true rfl) (by simp [Value.category]) [(0, .ref h0), (1, .int a), (2, .int b), (3, .int g)] rfl ?_
  intro p e s m args below meth c sz h hrt hlk hnm
  have hin : ∀ x ∈ wsX10, x ∈ wsX1_init := by decide +kernel
  obtain ⟨B9, -, -, hxe9⟩ := id h.2.2.2.2.2.2.2
  refine j_aload_nR h dX1_init_0 rfl ?_
  refine j_objInit h (by decide +kernel) (by decide +kernel) (by decide +kernel) dX1_init_1 (Nat.le_of_ble_eq_true rfl) (Nat.le_of_ble_eq_true rfl) ?_
  refine j_aload_nR h dX1_init_4 rfl ?_
  refine j_bipush (v := 10) h dX1_init_5 (by decide) ?_
  refine j_newq h (by decide +kernel) hxe9.2.2.2.2.2.2.1 1 rfl (N' := 10) (by decide) (by decide) (Nat.le_of_ble_eq_true rfl) (Nat.le_of_ble_eq_true rfl) (Nat.le_of_ble_eq_true rfl) dX1_init_7 (fun q1 => ?_)
  refine jj_ws (ws1 := [(h0, .inr (1, [.int 0, .int 0, .int 0, .null, .int 0, .int 0, .int 0])), (q1, .inl (cL, 10, .inr (.inr (.inr (.inr (fun _ => none))))))]) rfl ?_
  refine j_putF (ref := RX1) (ty := (.array (.object "Festoon$Lantern"))) h 0 3 tyX1 tyX1_ok nmX1 dX1_init_10 hin rfl (by decide) (by decide +kernel) (fun _ h9 => h9) rfl hnm rfl rfl rfl rfl rfl (Nat.le_of_ble_eq_true rfl) ?_
  refine jj_ws (ws1 := [(h0, .inr (1, [.int 0, .int 0, .int 0, .ref q1, .int 0, .int 0, .int 0])), (q1, .inl (cL, 10, .inr (.inr (.inr (.inr (fun _ => none))))))]) rfl ?_
  refine j_aload_nR h dX1_init_13 rfl ?_
  refine j_iconst (v := 0) h dX1_init_14 (by decide) ?_
  refine j_put (ref := RX1) (ty := .int) h 0 4 tyX1 tyX1_ok nmX1 dX1_init_15 hin rfl (by decide) (by decide +kernel) (fun _ h9 => h9) rfl rfl rfl rfl rfl (Nat.le_of_ble_eq_true rfl) ?_
  refine jj_ws (ws1 := [(h0, .inr (1, [.int 0, .int 0, .int 0, .ref q1, .int (0), .int 0, .int 0])), (q1, .inl (cL, 10, .inr (.inr (.inr (.inr (fun _ => none))))))]) rfl ?_
  refine j_aload_nR h dX1_init_18 rfl ?_
  refine j_iconst (v := (-1)) h dX1_init_19 (by decide) ?_
  refine j_put (ref := RX1) (ty := .int) h 0 5 tyX1 tyX1_ok nmX1 dX1_init_20 hin rfl (by decide) (by decide +kernel) (fun _ h9 => h9) rfl rfl rfl rfl rfl (Nat.le_of_ble_eq_true rfl) ?_
  refine jj_ws (ws1 := [(h0, .inr (1, [.int 0, .int 0, .int 0, .ref q1, .int (0), .int (-1), .int 0])), (q1, .inl (cL, 10, .inr (.inr (.inr (.inr (fun _ => none))))))]) rfl ?_
  refine j_aload_nR h dX1_init_23 rfl ?_
  refine j_iconst (v := (-1)) h dX1_init_24 (by decide) ?_
  refine j_put (ref := RX1) (ty := .int) h 0 6 tyX1 tyX1_ok nmX1 dX1_init_25 hin rfl (by decide) (by decide +kernel) (fun _ h9 => h9) rfl rfl rfl rfl rfl (Nat.le_of_ble_eq_true rfl) ?_
  refine jj_ws (ws1 := [(h0, .inr (1, [.int 0, .int 0, .int 0, .ref q1, .int (0), .int (-1), .int (-1)])), (q1, .inl (cL, 10, .inr (.inr (.inr (.inr (fun _ => none))))))]) rfl ?_
  refine j_aload_nR h dX1_init_28 rfl ?_
  refine j_iload_n h dX1_init_29 rfl ?_
  refine j_putF (ref := RX1) (ty := .int) h 0 0 tyX1 tyX1_ok nmX1 dX1_init_30 hin rfl (by decide) (by decide +kernel) (fun _ h9 => h9) rfl hnm rfl rfl rfl rfl rfl (Nat.le_of_ble_eq_true rfl) ?_
  refine jj_ws (ws1 := [(h0, .inr (1, [.int (a), .int 0, .int 0, .ref q1, .int (0), .int (-1), .int (-1)])), (q1, .inl (cL, 10, .inr (.inr (.inr (.inr (fun _ => none))))))]) rfl ?_
  refine j_aload_nR h dX1_init_33 rfl ?_
  refine j_iload_n h dX1_init_34 rfl ?_
  refine j_putF (ref := RX1) (ty := .int) h 0 1 tyX1 tyX1_ok nmX1 dX1_init_35 hin rfl (by decide) (by decide +kernel) (fun _ h9 => h9) rfl hnm rfl rfl rfl rfl rfl (Nat.le_of_ble_eq_true rfl) ?_
  refine jj_ws (ws1 := [(h0, .inr (1, [.int (a), .int (b), .int 0, .ref q1, .int (0), .int (-1), .int (-1)])), (q1, .inl (cL, 10, .inr (.inr (.inr (.inr (fun _ => none))))))]) rfl ?_
  refine j_aload_nR h dX1_init_38 rfl ?_
  refine j_iload_n h dX1_init_39 rfl ?_
  refine j_putF (ref := RX1) (ty := .int) h 0 2 tyX1 tyX1_ok nmX1 dX1_init_40 hin rfl (by decide) (by decide +kernel) (fun _ h9 => h9) rfl hnm rfl rfl rfl rfl rfl (Nat.le_of_ble_eq_true rfl) ?_
  refine jj_ws (ws1 := [(h0, .inr (1, [.int (a), .int (b), .int (g), .ref q1, .int (0), .int (-1), .int (-1)])), (q1, .inl (cL, 10, .inr (.inr (.inr (.inr (fun _ => none))))))]) rfl ?_
  exact j_vret h hrt hlk dX1_init_43 (by decide) (by decide) ⟨q1, rfl⟩
def f0X : St := fun j k => if j = 15 ∧ k = 0 then 2 else if j = 22 ∨ j = 23 ∨ j = 12 then -1 else 0
set_option maxHeartbeats 4000000 in
set_option maxRecDepth 100000 in
theorem c_X2_init {l : Launch} {D : va_G} {cI cL cR : ClassId} {h0 : Nat}  : ctV l D vwCl (tyW cI cL cR) yX2_init wsX2_init { frames := 1, cells := 4, slots := 441, locals := 20 } [.ref h0] [(h0, .inr (2, [.null, .null, .null, .null, .int 0, .int 0, .int 0, .int 0, .int 0, .int 0, .int 0, .int 0]))] (fun u => ∃ ad : Nat → Nat, ad 0 = h0 ∧ u = wX cI cL cR ad [0, 1, 2, 3, 4] f0X) 4 441 := by
  refine ctV_of (cc := cX2_init) (maxL := 1) (ret := none) (by decide) rfl rfl (Nat.le_of_ble_eq_true rfl) (by simp [Value.category]) [(0, .ref h0)] rfl ?_
  intro p e s m args below meth c sz h hrt hlk hnm
  have hin : ∀ x ∈ wsX20, x ∈ wsX2_init := by decide +kernel
  obtain ⟨B9, -, -, hxe9⟩ := id h.2.2.2.2.2.2.2
  refine j_aload_nR h dX2_init_0 rfl ?_
  refine j_objInit h (by decide +kernel) (by decide +kernel) (by decide +kernel) dX2_init_1 (Nat.le_of_ble_eq_true rfl) (Nat.le_of_ble_eq_true rfl) ?_
  refine j_aload_nR h dX2_init_4 rfl ?_
  refine j_bipush (v := 24) h dX2_init_5 (by decide) ?_
  refine j_newq h (by decide +kernel) hxe9.2.2.2.2.2.2.1 1 rfl (N' := 24) (by decide) (by decide) (Nat.le_of_ble_eq_true rfl) (Nat.le_of_ble_eq_true rfl) (Nat.le_of_ble_eq_true rfl) dX2_init_7 (fun q1 => ?_)
  refine jj_ws (ws1 := [(h0, .inr (2, [.null, .null, .null, .null, .int 0, .int 0, .int 0, .int 0, .int 0, .int 0, .int 0, .int 0])), (q1, .inl (cL, 24, .inr (.inr (.inr (.inr (fun _ => none))))))]) rfl ?_
  refine j_putF (ref := RX2) (ty := (.array (.object "Festoon$Lantern"))) h 0 0 tyX2 tyX2_ok nmX2 dX2_init_10 hin rfl (by decide) (by decide +kernel) (fun _ h9 => h9) rfl hnm rfl rfl rfl rfl rfl (Nat.le_of_ble_eq_true rfl) ?_
  refine jj_ws (ws1 := [(h0, .inr (2, [.ref q1, .null, .null, .null, .int 0, .int 0, .int 0, .int 0, .int 0, .int 0, .int 0, .int 0])), (q1, .inl (cL, 24, .inr (.inr (.inr (.inr (fun _ => none))))))]) rfl ?_
  refine j_aload_nR h dX2_init_13 rfl ?_
  refine j_bipush (v := 8) h dX2_init_14 (by decide) ?_
  refine j_newq h (by decide +kernel) hxe9.2.2.2.2.2.2.2.1 2 rfl (N' := 8) (by decide) (by decide) (Nat.le_of_ble_eq_true rfl) (Nat.le_of_ble_eq_true rfl) (Nat.le_of_ble_eq_true rfl) dX2_init_16 (fun q2 => ?_)
  refine jj_ws (ws1 := [(h0, .inr (2, [.ref q1, .null, .null, .null, .int 0, .int 0, .int 0, .int 0, .int 0, .int 0, .int 0, .int 0])), (q1, .inl (cL, 24, .inr (.inr (.inr (.inr (fun _ => none)))))), (q2, .inl (cR, 8, .inr (.inr (.inr (.inr (fun _ => none))))))]) rfl ?_
  refine j_putF (ref := RX2) (ty := (.array (.object "Festoon$Raft"))) h 0 1 tyX2 tyX2_ok nmX2 dX2_init_19 hin rfl (by decide) (by decide +kernel) (fun _ h9 => h9) rfl hnm rfl rfl rfl rfl rfl (Nat.le_of_ble_eq_true rfl) ?_
  refine jj_ws (ws1 := [(h0, .inr (2, [.ref q1, .ref q2, .null, .null, .int 0, .int 0, .int 0, .int 0, .int 0, .int 0, .int 0, .int 0])), (q1, .inl (cL, 24, .inr (.inr (.inr (.inr (fun _ => none)))))), (q2, .inl (cR, 8, .inr (.inr (.inr (.inr (fun _ => none))))))]) rfl ?_
  refine j_aload_nR h dX2_init_22 rfl ?_
  refine j_bipush (v := 8) h dX2_init_23 (by decide) ?_
  refine j_newq h (by decide +kernel) hxe9.2.2.2.2.2.2.2.1 2 rfl (N' := 8) (by decide) (by decide) (Nat.le_of_ble_eq_true rfl) (Nat.le_of_ble_eq_true rfl) (Nat.le_of_ble_eq_true rfl) dX2_init_25 (fun q3 => ?_)
  refine jj_ws (ws1 := [(h0, .inr (2, [.ref q1, .ref q2, .null, .null, .int 0, .int 0, .int 0, .int 0, .int 0, .int 0, .int 0, .int 0])), (q1, .inl (cL, 24, .inr (.inr (.inr (.inr (fun _ => none)))))), (q2, .inl (cR, 8, .inr (.inr (.inr (.inr (fun _ => none)))))), (q3, .inl (cR, 8, .inr (.inr (.inr (.inr (fun _ => none))))))]) rfl ?_
  refine j_putF (ref := RX2) (ty := (.array (.object "Festoon$Raft"))) h 0 2 tyX2 tyX2_ok nmX2 dX2_init_28 hin rfl (by decide) (by decide +kernel) (fun _ h9 => h9) rfl hnm rfl rfl rfl rfl rfl (Nat.le_of_ble_eq_true rfl) ?_
  refine jj_ws (ws1 := [(h0, .inr (2, [.ref q1, .ref q2, .ref q3, .null, .int 0, .int 0, .int 0, .int 0, .int 0, .int 0, .int 0, .int 0])), (q1, .inl (cL, 24, .inr (.inr (.inr (.inr (fun _ => none)))))), (q2, .inl (cR, 8, .inr (.inr (.inr (.inr (fun _ => none)))))), (q3, .inl (cR, 8, .inr (.inr (.inr (.inr (fun _ => none))))))]) rfl ?_
  refine j_aload_nR h dX2_init_31 rfl ?_
  refine j_sipush (v := 401) h dX2_init_32 (by decide) ?_
  refine j_newa (atype := .int) h rfl (by decide +kernel) 0 rfl (N' := 401) (a0 := (401, .inl (fun _ => 0))) (fun cA => rfl) (by decide) (by decide) (Nat.le_of_ble_eq_true rfl) (Nat.le_of_ble_eq_true rfl) (Nat.le_of_ble_eq_true rfl) dX2_init_35 (fun q4 => ?_)
  refine jj_ws (ws1 := [(h0, .inr (2, [.ref q1, .ref q2, .ref q3, .null, .int 0, .int 0, .int 0, .int 0, .int 0, .int 0, .int 0, .int 0])), (q1, .inl (cL, 24, .inr (.inr (.inr (.inr (fun _ => none)))))), (q2, .inl (cR, 8, .inr (.inr (.inr (.inr (fun _ => none)))))), (q3, .inl (cR, 8, .inr (.inr (.inr (.inr (fun _ => none)))))), (q4, .inl (cI, 401, .inl (fun _ => 0)))]) rfl ?_
  refine j_putF (ref := RX2) (ty := (.array .int)) h 0 3 tyX2 tyX2_ok nmX2 dX2_init_37 hin rfl (by decide) (by decide +kernel) (fun _ h9 => h9) rfl hnm rfl rfl rfl rfl rfl (Nat.le_of_ble_eq_true rfl) ?_
  refine jj_ws (ws1 := [(h0, .inr (2, [.ref q1, .ref q2, .ref q3, .ref q4, .int 0, .int 0, .int 0, .int 0, .int 0, .int 0, .int 0, .int 0])), (q1, .inl (cL, 24, .inr (.inr (.inr (.inr (fun _ => none)))))), (q2, .inl (cR, 8, .inr (.inr (.inr (.inr (fun _ => none)))))), (q3, .inl (cR, 8, .inr (.inr (.inr (.inr (fun _ => none)))))), (q4, .inl (cI, 401, .inl (fun _ => 0)))]) rfl ?_
  refine j_aload_nR h dX2_init_40 rfl ?_
  refine j_iconst (v := 0) h dX2_init_41 (by decide) ?_
  refine j_put (ref := RX2) (ty := .int) h 0 4 tyX2 tyX2_ok nmX2 dX2_init_42 hin rfl (by decide) (by decide +kernel) (fun _ h9 => h9) rfl rfl rfl rfl rfl (Nat.le_of_ble_eq_true rfl) ?_
  refine jj_ws (ws1 := [(h0, .inr (2, [.ref q1, .ref q2, .ref q3, .ref q4, .int (0), .int 0, .int 0, .int 0, .int 0, .int 0, .int 0, .int 0])), (q1, .inl (cL, 24, .inr (.inr (.inr (.inr (fun _ => none)))))), (q2, .inl (cR, 8, .inr (.inr (.inr (.inr (fun _ => none)))))), (q3, .inl (cR, 8, .inr (.inr (.inr (.inr (fun _ => none)))))), (q4, .inl (cI, 401, .inl (fun _ => 0)))]) rfl ?_
  refine j_aload_nR h dX2_init_45 rfl ?_
  refine j_iconst (v := 0) h dX2_init_46 (by decide) ?_
  refine j_put (ref := RX2) (ty := .int) h 0 5 tyX2 tyX2_ok nmX2 dX2_init_47 hin rfl (by decide) (by decide +kernel) (fun _ h9 => h9) rfl rfl rfl rfl rfl (Nat.le_of_ble_eq_true rfl) ?_
  refine jj_ws (ws1 := [(h0, .inr (2, [.ref q1, .ref q2, .ref q3, .ref q4, .int (0), .int (0), .int 0, .int 0, .int 0, .int 0, .int 0, .int 0])), (q1, .inl (cL, 24, .inr (.inr (.inr (.inr (fun _ => none)))))), (q2, .inl (cR, 8, .inr (.inr (.inr (.inr (fun _ => none)))))), (q3, .inl (cR, 8, .inr (.inr (.inr (.inr (fun _ => none)))))), (q4, .inl (cI, 401, .inl (fun _ => 0)))]) rfl ?_
  refine j_aload_nR h dX2_init_50 rfl ?_
  refine j_iconst (v := 0) h dX2_init_51 (by decide) ?_
  refine j_put (ref := RX2) (ty := .int) h 0 6 tyX2 tyX2_ok nmX2 dX2_init_52 hin rfl (by decide) (by decide +kernel) (fun _ h9 => h9) rfl rfl rfl rfl rfl (Nat.le_of_ble_eq_true rfl) ?_
  refine jj_ws (ws1 := [(h0, .inr (2, [.ref q1, .ref q2, .ref q3, .ref q4, .int (0), .int (0), .int (0), .int 0, .int 0, .int 0, .int 0, .int 0])), (q1, .inl (cL, 24, .inr (.inr (.inr (.inr (fun _ => none)))))), (q2, .inl (cR, 8, .inr (.inr (.inr (.inr (fun _ => none)))))), (q3, .inl (cR, 8, .inr (.inr (.inr (.inr (fun _ => none)))))), (q4, .inl (cI, 401, .inl (fun _ => 0)))]) rfl ?_
  refine j_aload_nR h dX2_init_55 rfl ?_
  refine j_iconst (v := 0) h dX2_init_56 (by decide) ?_
  refine j_put (ref := RX2) (ty := .int) h 0 7 tyX2 tyX2_ok nmX2 dX2_init_57 hin rfl (by decide) (by decide +kernel) (fun _ h9 => h9) rfl rfl rfl rfl rfl (Nat.le_of_ble_eq_true rfl) ?_
  refine jj_ws (ws1 := [(h0, .inr (2, [.ref q1, .ref q2, .ref q3, .ref q4, .int (0), .int (0), .int (0), .int (0), .int 0, .int 0, .int 0, .int 0])), (q1, .inl (cL, 24, .inr (.inr (.inr (.inr (fun _ => none)))))), (q2, .inl (cR, 8, .inr (.inr (.inr (.inr (fun _ => none)))))), (q3, .inl (cR, 8, .inr (.inr (.inr (.inr (fun _ => none)))))), (q4, .inl (cI, 401, .inl (fun _ => 0)))]) rfl ?_
  refine j_aload_nR h dX2_init_60 rfl ?_
  refine j_iconst (v := 2) h dX2_init_61 (by decide) ?_
  refine j_put (ref := RX2) (ty := .int) h 0 8 tyX2 tyX2_ok nmX2 dX2_init_62 hin rfl (by decide) (by decide +kernel) (fun _ h9 => h9) rfl rfl rfl rfl rfl (Nat.le_of_ble_eq_true rfl) ?_
  refine jj_ws (ws1 := [(h0, .inr (2, [.ref q1, .ref q2, .ref q3, .ref q4, .int (0), .int (0), .int (0), .int (0), .int (2), .int 0, .int 0, .int 0])), (q1, .inl (cL, 24, .inr (.inr (.inr (.inr (fun _ => none)))))), (q2, .inl (cR, 8, .inr (.inr (.inr (.inr (fun _ => none)))))), (q3, .inl (cR, 8, .inr (.inr (.inr (.inr (fun _ => none)))))), (q4, .inl (cI, 401, .inl (fun _ => 0)))]) rfl ?_
  refine j_aload_nR h dX2_init_65 rfl ?_
  refine j_iconst (v := 0) h dX2_init_66 (by decide) ?_
  refine j_put (ref := RX2) (ty := .int) h 0 9 tyX2 tyX2_ok nmX2 dX2_init_67 hin rfl (by decide) (by decide +kernel) (fun _ h9 => h9) rfl rfl rfl rfl rfl (Nat.le_of_ble_eq_true rfl) ?_
  refine jj_ws (ws1 := [(h0, .inr (2, [.ref q1, .ref q2, .ref q3, .ref q4, .int (0), .int (0), .int (0), .int (0), .int (2), .int (0), .int 0, .int 0])), (q1, .inl (cL, 24, .inr (.inr (.inr (.inr (fun _ => none)))))), (q2, .inl (cR, 8, .inr (.inr (.inr (.inr (fun _ => none)))))), (q3, .inl (cR, 8, .inr (.inr (.inr (.inr (fun _ => none)))))), (q4, .inl (cI, 401, .inl (fun _ => 0)))]) rfl ?_
  refine j_aload_nR h dX2_init_70 rfl ?_
  refine j_iconst (v := 0) h dX2_init_71 (by decide) ?_
  refine j_put (ref := RX2) (ty := .int) h 0 10 tyX2 tyX2_ok nmX2 dX2_init_72 hin rfl (by decide) (by decide +kernel) (fun _ h9 => h9) rfl rfl rfl rfl rfl (Nat.le_of_ble_eq_true rfl) ?_
  refine jj_ws (ws1 := [(h0, .inr (2, [.ref q1, .ref q2, .ref q3, .ref q4, .int (0), .int (0), .int (0), .int (0), .int (2), .int (0), .int (0), .int 0])), (q1, .inl (cL, 24, .inr (.inr (.inr (.inr (fun _ => none)))))), (q2, .inl (cR, 8, .inr (.inr (.inr (.inr (fun _ => none)))))), (q3, .inl (cR, 8, .inr (.inr (.inr (.inr (fun _ => none)))))), (q4, .inl (cI, 401, .inl (fun _ => 0)))]) rfl ?_
  refine j_aload_nR h dX2_init_75 rfl ?_
  refine j_iconst (v := 0) h dX2_init_76 (by decide) ?_
  refine j_put (ref := RX2) (ty := .int) h 0 11 tyX2 tyX2_ok nmX2 dX2_init_77 hin rfl (by decide) (by decide +kernel) (fun _ h9 => h9) rfl rfl rfl rfl rfl (Nat.le_of_ble_eq_true rfl) ?_
  refine jj_ws (ws1 := [(h0, .inr (2, [.ref q1, .ref q2, .ref q3, .ref q4, .int (0), .int (0), .int (0), .int (0), .int (2), .int (0), .int (0), .int (0)])), (q1, .inl (cL, 24, .inr (.inr (.inr (.inr (fun _ => none)))))), (q2, .inl (cR, 8, .inr (.inr (.inr (.inr (fun _ => none)))))), (q3, .inl (cR, 8, .inr (.inr (.inr (.inr (fun _ => none)))))), (q4, .inl (cI, 401, .inl (fun _ => 0)))]) rfl ?_
  exact j_vret h hrt hlk dX2_init_80 (by decide) (by decide) ⟨fun i => [h0, q1, q2, q3, q4].getD i 0, rfl, rfl⟩
