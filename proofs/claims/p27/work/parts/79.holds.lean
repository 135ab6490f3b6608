set_option maxRecDepth 40000 in
theorem inH2 : ∀ x ∈ wsX20, x ∈ wsL_holds := by decide +kernel
def aJF (q3 q4 q5 q6 q7 : Nat) : Nat → Nat := fun i => if i = 0 then q3 else if i = 1 then q4 else if i = 2 then q5 else if i = 3 then q6 else q7
theorem f0J_eq : up2 (fun _ _ => (0 : Int32)) 15 0 2 = f0J := by
  funext j k
  unfold up2 f0J
  by_cases h1 : j = 15
  · by_cases h2 : k = 0
    · rw [if_pos h1, if_pos h2, if_pos ⟨h1, h2⟩]
    · rw [if_pos h1, if_neg h2, if_neg (fun z => h2 z.2)]
  · rw [if_neg h1, if_neg (fun z => h1 z.1)]
set_option maxHeartbeats 8000000 in
set_option maxRecDepth 100000 in
theorem c_L_holds {l : Launch} {D : va_G} {cI cL cR : ClassId} (hl : l.stackTraces = false) {sb L : Nat} {xs : Nat → Int32} (hL : L ≤ 260) : ctS l D vwCl (tyW cI cL cR) yL_holds wsL_holds { frames := 11, cells := 9000, slots := 55000, locals := 214 } [.ref sb] [] sb L xs (fun r u => r = 1) 9000 55000 := by
  refine ctS_of (cc := cL_holds) (maxL := 10) (ret := (some .boolean)) (by decide) rfl rfl (Nat.le_of_ble_eq_true rfl) (by simp [Value.category]) [(0, .ref sb)] rfl ?_
  intro p e9 s m args below meth c sz h hrt hlk hnc hX hbl hbA
  refine j_new (C := RX2) (T := TX2) (N := 12) (ci := 2) h inH2 tyX2 tyX2_ok (by decide +kernel) (by decide +kernel) (by decide +kernel) rfl (fs := [.null, .null, .null, .null, .int 0, .int 0, .int 0, .int 0, .int 0, .int 0, .int 0, .int 0]) (fun j hj => by rcases j with _ | _ | _ | _ | _ | _ | _ | _ | _ | _ | _ | _ | j <;> first | rfl | omega) (Nat.le_of_ble_eq_true rfl) (Nat.le_of_ble_eq_true rfl) dL_holds_0 (fun q2 => ?_)
  refine j_dup h dL_holds_3 rfl ?_
  refine j_callIF (wr := []) (wc := [(q2, .inr (2, [.null, .null, .null, .null, .int 0, .int 0, .int 0, .int 0, .int 0, .int 0, .int 0, .int 0]))]) (As := []) h dL_holds_4 c_X2_init ⟨callB_of 0 h.2.2.2.2.1 gL_holds_X2_init rfl rfl rfl (h.2.2.2.2.1 _ (by decide +kernel)) (h.2.2.2.2.1 _ (by decide +kernel)) (by decide +kernel) ⟨(Nat.le_of_ble_eq_true rfl), (Nat.le_of_ble_eq_true rfl)⟩, rfl, h.2.2.2.2.1 _ (by decide +kernel)⟩ rfl rfl (Nat.le_of_ble_eq_true rfl) ⟨(Nat.le_of_ble_eq_true rfl), (Nat.le_of_ble_eq_true rfl)⟩ (fun u hu => ?_)
  obtain ⟨ad, rfl, rfl⟩ := hu
  refine j_astore_nR (i := 1) h dL_holds_7 rfl (by decide) ?_
  refine jj_ws (ws1 := wX cI cL cR ad [0, 1, 2, 3, 4] f0X) rfl ?_
  refine j_bipush (v := 64) h dL_holds_8 (by decide) ?_
  refine j_newa (atype := .int) h rfl (by decide +kernel) 0 rfl (N' := 64) (a0 := (64, .inl (fun _ => 0))) (fun cA => rfl) (by decide) (by decide) (Nat.le_of_ble_eq_true rfl) (Nat.le_of_ble_eq_true rfl) (Nat.le_of_ble_eq_true rfl) dL_holds_10 (fun q3 => ?_)
  refine j_astore_nR (i := 2) h dL_holds_12 rfl (by decide) ?_
  refine j_bipush (v := 20) h dL_holds_13 (by decide) ?_
  refine j_newa (atype := .int) h rfl (by decide +kernel) 0 rfl (N' := 20) (a0 := (20, .inl (fun _ => 0))) (fun cA => rfl) (by decide) (by decide) (Nat.le_of_ble_eq_true rfl) (Nat.le_of_ble_eq_true rfl) (Nat.le_of_ble_eq_true rfl) dL_holds_15 (fun q4 => ?_)
  refine j_astore_nR (i := 3) h dL_holds_17 rfl (by decide) ?_
  refine j_iconst (v := 5) h dL_holds_18 (by decide) ?_
  refine j_newa (atype := .int) h rfl (by decide +kernel) 0 rfl (N' := 5) (a0 := (5, .inl (fun _ => 0))) (fun cA => rfl) (by decide) (by decide) (Nat.le_of_ble_eq_true rfl) (Nat.le_of_ble_eq_true rfl) (Nat.le_of_ble_eq_true rfl) dL_holds_19 (fun q5 => ?_)
  refine j_astoreR h dL_holds_21 (by decide) ?_
  refine j_bipush (v := 64) h dL_holds_23 (by decide) ?_
  refine j_newa (atype := .int) h rfl (by decide +kernel) 0 rfl (N' := 64) (a0 := (64, .inl (fun _ => 0))) (fun cA => rfl) (by decide) (by decide) (Nat.le_of_ble_eq_true rfl) (Nat.le_of_ble_eq_true rfl) (Nat.le_of_ble_eq_true rfl) dL_holds_25 (fun q6 => ?_)
  refine j_astoreR h dL_holds_27 (by decide) ?_
  refine j_bipush (v := 8) h dL_holds_29 (by decide) ?_
  refine j_newa (atype := .int) h rfl (by decide +kernel) 0 rfl (N' := 8) (a0 := (8, .inl (fun _ => 0))) (fun cA => rfl) (by decide) (by decide) (Nat.le_of_ble_eq_true rfl) (Nat.le_of_ble_eq_true rfl) (Nat.le_of_ble_eq_true rfl) dL_holds_31 (fun q7 => ?_)
  refine j_astoreR h dL_holds_33 (by decide) ?_
  refine jj_ws (ws1 := wX cI cL cR ad [0, 1, 2, 3, 4] f0X ++ wJ cI (aJF q3 q4 q5 q6 q7) (fun _ _ => 0)) (by rw [List.append_assoc, List.append_assoc, List.append_assoc, List.append_assoc]; rfl) ?_
  refine jj_swap ?_
  refine j_aloadR h dL_holds_35 rfl ?_
  refine j_iconst (v := 3) h dL_holds_37 (by decide) ?_
  refine j_iconst (v := 2) h dL_holds_38 (by decide) ?_
  refine jm_ast3 (aJ := aJF q3 q4 q5 q6 q7) h dL_holds_39 ?_
  rw [f0J_eq]
  refine j_iconst (v := 1) h dL_holds_40 (by decide) ?_
  refine j_istore h dL_holds_41 (by decide) ?_
  refine j_iconst (v := 0) h dL_holds_43 (by decide) ?_
  refine j_istore h dL_holds_44 (by decide) ?_
  refine jj_to (l1 := [(0, .ref sb), (1, .ref (ad 0)), (2, .ref (aJF q3 q4 q5 q6 q7 0)), (3, .ref (aJF q3 q4 q5 q6 q7 1)), (4, .ref (aJF q3 q4 q5 q6 q7 2)), (5, .ref (aJF q3 q4 q5 q6 q7 3)), (6, .ref (aJF q3 q4 q5 q6 q7 4)), (7, .int 1), (8, .int (nI 0))]) ?_ ⟨rfl, rfl, rfl, rfl, rfl, rfl, rfl, rfl, rfl, trivial⟩
  refine holds_loop h hl hnc hX hbl hbA hL (fun k w ws lv hk hw hlv => ?_) 130 0 _ _ 0 0 0 0 0 f0X f0J [0, 1, 2, 3, 4] ad rfl (by omega) (Nat.le_of_ble_eq_true rfl) (Nat.le_of_ble_eq_true rfl) (by omega) rfl IV0 Jr0 (fun _ => rfl) (fun y => by omega) (fun _ => rfl) (fun y => by omega)
  refine j_iload h dL_holds_167 hlv.1 ?_
  exact j_zret h hrt hlk dL_holds_169 (Or.inr rfl) hk hw rfl
set_option maxHeartbeats 4000000 in
set_option maxRecDepth 100000 in
theorem c_L_isHeld {l : Launch} {D : va_G} {cI cL cR : ClassId} (hl : l.stackTraces = false) {sb L : Nat} {xs : Nat → Int32} (hL : L ≤ 260) : ctS l D vwCl (tyW cI cL cR) yL_isHeld wsL_isHeld { frames := 12, cells := 9000, slots := 55000, locals := 243 } [.ref sb] [] sb L xs (fun r u => r = 1) 9000 55000 := by
  refine ctSW_of (cc := cL_isHeld) (maxL := 2) (ret := (some .boolean)) (hh := [(0, 4, 5, 151), (0, 4, 8, 78), (0, 4, 11, 80)]) (by decide) rfl rfl (Nat.le_of_ble_eq_true rfl) (by simp [Value.category]) [(0, .ref sb)] rfl ?_
  intro p e9 s m args below meth c sz h hrt hlk htab hnc hX hbl hbA
  refine j_aload_nR h dL_isHeld_0 rfl ?_
  refine j_callSS h hnc hX hbl hbA dL_isHeld_1 (c_L_holds hl hL) (va_cwS 1 h.2.2.2.2.1 gL_isHeld_L_holds rfl rfl rfl (by decide +kernel) ⟨(Nat.le_of_ble_eq_true rfl), (Nat.le_of_ble_eq_true rfl)⟩) rfl rfl (Nat.le_of_ble_eq_true rfl) ⟨(Nat.le_of_ble_eq_true rfl), (Nat.le_of_ble_eq_true rfl)⟩ (fun r u hu => ?_)
  obtain rfl := hu
  exact j_zret h hrt hlk dL_isHeld_4 (Or.inr rfl) (Nat.le_of_ble_eq_true rfl) (Nat.le_of_ble_eq_true rfl) rfl
