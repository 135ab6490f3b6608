section WS
variable {p : Program} {l : Launch} {e : Env} {R : Room} {s : State} {m : MethodId} {args : Array Value} {below : List Frame} {meth : Method} {c : Code} {Q : State → Prop} {D : va_G} {cl : List vw_C} {tys : List (ClassId × FieldType)} {A : Nat → Prop} {n : Nat} {cc : ByteArray} {own : String} {Ts : List Cond} {ws : va_W} {k w pc : Nat} {lv : List (Nat × Value)} {st : List Value}
theorem j_callIF0 (h : jc p s m args c D cl tys A n cc own Ts) {tys0 : List (ClassId × FieldType)} (hK0 : va_K D cl tys0 s) {b : Nat} {wr wc : va_W} {index maxL mc ms nn : Nat} {y : MethodName} {bytes : ByteArray} {wd : List Cond} {rm : Room} {As rest : List Value} {post : va_W → Prop} (hd : decode cc pc = .ok (.invokespecial index, 3)) (hM : ctV l D cl tys0 y wd rm (.ref b :: As) wc post mc ms) (cw : CallB R s args own index y bytes maxL none wd rm mc ms nn ∧ y.name = "<init>" ∧ (Cond.instanceMethod y).before args s = true) (hn : As.length = nn) (hst : st = As.reverse ++ .ref b :: rest) (hcat : (rest.map fun v => v.category).sum ≤ 8) (hf : k + mc ≤ R.cells ∧ w + ms ≤ R.slots) (kk : ∀ u : va_W, post u → jj p l e R s m args below meth c Q D cl tys A n (wr ++ u) (k + mc) (w + ms) (pc + 3) lv rest) : jj p l e R s m args below meth c Q D cl tys A n (wr ++ wc) k w pc lv st := by
  intro H locs ls hP hD hS hl
  have hPc := jsubP hP
  have hDc := jsubD hD
  have hA := jA hDc hS h.2.2.2.2.2.2.1
  obtain ⟨B, hB0, hAB, hxe⟩ := h.2.2.2.2.2.2.2
  refine va_callv (va_runI (As := As) (rest := rest) ⟨h.1, h.2.1, h.2.2.1, h.2.2.2.1, h.2.2.2.2.1⟩ (hM B H.size) cw ⟨ctP_blind, jpre hK0 hPc hDc hS hB0 hAB hxe⟩ rfl hn hl.1 hst (lv_room hcat) hd hf) hS (fun q _ z => hA q z) hA (fun u t H1 locs1 ht hvm hw hB hz1 hk1 hS1 => ?_)
  obtain ⟨hP1, hK1, hD1⟩ := hB
  rw [ht] at hP1
  obtain ⟨hP2, hD2⟩ := jframe hP hD hk1 hA hP1 hD1
  exact kk u hw H1 locs1 ls hP2 hD2 hS1 hl
end WS
set_option maxRecDepth 40000 in
theorem inW2 : ∀ x ∈ wsX20, x ∈ wsL_law := by decide +kernel
set_option maxRecDepth 40000 in
theorem inW3 : ∀ x ∈ wsX30, x ∈ wsL_law := by decide +kernel
set_option maxHeartbeats 4000000 in
set_option maxRecDepth 100000 in
theorem law_main {p : Program} {l : Launch} {e : Env} {s : State} {m : MethodId} {args : Array Value} {below : List Frame} {meth : Method} {c : Code} {Q : State → Prop} {D : va_G} {cI cL cR cJ : ClassId} {sb L : Nat} {xs : Nat → Int32} (h : jc p s m args c D vwCl (tyL cI cL cR cJ) (fun x : Nat => s.heap.size ≤ x) 7 cL_law RL wsL_law) (hl : l.stackTraces = false) (hnc : NcA s) (hX : va_X sb L xs s s.heap) (hbl : sb < s.heap.size) (hL : L ≤ 2048) (hend : ∀ (k w : Nat) (ws : va_W) (lv : List (Nat × Value)), k ≤ 601024 → w ≤ 7293034 → jj p l e room_1 s m args below meth c Q D vwCl (tyL cI cL cR cJ) (fun x : Nat => s.heap.size ≤ x) 7 ws k w 1422 lv []) : jj p l e room_1 s m args below meth c Q D vwCl (tyL cI cL cR cJ) (fun x : Nat => s.heap.size ≤ x) 7 [] 0 0 0 [(0, .ref sb)] [] := by
  have hK0 := h.2.2.2.2.2.1.sub [0, 1, 2] (show _ = tyW cI cL cR from rfl)
  refine j_new (C := RX2) (T := TX2) (N := 12) (ci := 2) h inW2 tyX2 tyX2_ok (by decide +kernel) (by decide +kernel) (by decide +kernel) rfl (fs := [.null, .null, .null, .null, .int 0, .int 0, .int 0, .int 0, .int 0, .int 0, .int 0, .int 0]) (fun j hj => by rcases j with _ | _ | _ | _ | _ | _ | _ | _ | _ | _ | _ | _ | j <;> first | rfl | omega) (Nat.le_of_ble_eq_true rfl) (Nat.le_of_ble_eq_true rfl) dL_law_0 (fun q2 => ?_)
  refine j_dup h dL_law_3 rfl ?_
  refine j_callIF0 (wr := []) (wc := [(q2, .inr (2, [.null, .null, .null, .null, .int 0, .int 0, .int 0, .int 0, .int 0, .int 0, .int 0, .int 0]))]) (As := []) h hK0 dL_law_4 c_X2_init ⟨callB_of 0 h.2.2.2.2.1 gL_law_X2_init rfl rfl rfl (h.2.2.2.2.1 _ (by decide +kernel)) (h.2.2.2.2.1 _ (by decide +kernel)) (by decide +kernel) ⟨(Nat.le_of_ble_eq_true rfl), (Nat.le_of_ble_eq_true rfl)⟩, rfl, h.2.2.2.2.1 _ (by decide +kernel)⟩ rfl rfl (Nat.le_of_ble_eq_true rfl) ⟨(Nat.le_of_ble_eq_true rfl), (Nat.le_of_ble_eq_true rfl)⟩ (fun u hu => ?_)
  obtain ⟨ad, rfl, rfl⟩ := hu
  refine j_astore_nR (i := 1) h dL_law_7 rfl (by decide) ?_
  refine jj_ws (ws1 := wX cI cL cR ad [0, 1, 2, 3, 4] f0X) rfl ?_
  refine j_new (C := RX3) (T := TX3) (N := 22) (ci := 3) h inW3 tyX3 tyX3_ok (by decide +kernel) (by decide +kernel) (by decide +kernel) rfl (fs := [.null, .null, .null, .null, .null, .null, .null, .int 0, .null, .null, .null, .null, .null, .int 0, .int 0, .int 0, .int 0, .null, .int 0, .int 0, .int 0, .int 0]) (fun j hj => by rcases j with _ | _ | _ | _ | _ | _ | _ | _ | _ | _ | _ | _ | _ | _ | _ | _ | _ | _ | _ | _ | _ | _ | j <;> first | rfl | omega) (Nat.le_of_ble_eq_true rfl) (Nat.le_of_ble_eq_true rfl) dL_law_8 (fun q3 => ?_)
  refine j_dup h dL_law_11 rfl ?_
  refine j_callIF0 (wr := wX cI cL cR ad [0, 1, 2, 3, 4] f0X) (wc := [(q3, .inr (3, [.null, .null, .null, .null, .null, .null, .null, .int 0, .null, .null, .null, .null, .null, .int 0, .int 0, .int 0, .int 0, .null, .int 0, .int 0, .int 0, .int 0]))]) (As := []) h hK0 dL_law_12 c_X3_init ⟨callB_of 0 h.2.2.2.2.1 gL_law_X3_init rfl rfl rfl (h.2.2.2.2.1 _ (by decide +kernel)) (h.2.2.2.2.1 _ (by decide +kernel)) (by decide +kernel) ⟨(Nat.le_of_ble_eq_true rfl), (Nat.le_of_ble_eq_true rfl)⟩, rfl, h.2.2.2.2.1 _ (by decide +kernel)⟩ rfl rfl (Nat.le_of_ble_eq_true rfl) ⟨(Nat.le_of_ble_eq_true rfl), (Nat.le_of_ble_eq_true rfl)⟩ (fun u hu => ?_)
  obtain ⟨aM, rfl, rfl⟩ := hu
  refine j_astore_nR (i := 2) h dL_law_15 rfl (by decide) ?_
  refine j_iconst (v := 1) h dL_law_16 (by decide) ?_
  refine j_newa (atype := .long) h rfl (by decide +kernel) 3 rfl (N' := 1) (a0 := (1, .inr (.inl (fun _ => 0)))) (fun cA => rfl) (by decide) (by decide) (Nat.le_of_ble_eq_true rfl) (Nat.le_of_ble_eq_true rfl) (Nat.le_of_ble_eq_true rfl) dL_law_17 (fun o => ?_)
  refine j_astore_nR (i := 3) h dL_law_19 rfl (by decide) ?_
  refine j_iconst (v := 0) h dL_law_20 (by decide) ?_
  refine j_istore h dL_law_21 (by decide) ?_
  refine jj_ws (ws1 := wX cI cL cR ad [0, 1, 2, 3, 4] f0X ++ (wM cI aM f0M 0 ++ [(o, .inl (cJ, 1, .inr (.inl (fun _ => 0))))])) (by rw [List.append_assoc]) ?_
  refine jj_swap ?_
  refine jj_ws (ws1 := wM cI aM f0M 0 ++ ((o, .inl (cJ, 1, .inr (.inl (fun _ => 0)))) :: wX cI cL cR ad [0, 1, 2, 3, 4] f0X)) (by rw [List.append_assoc]; rfl) ?_
  exact jj_to (law_loop h hl hnc hX hbl hL hend L 0 0 0 0 0 _ _ f0X f0M [0, 1, 2, 3, 4] ad 0 (fun _ => 0) (by omega) (by omega) (by omega) (by omega) (by omega) IV0 Rl0 RG0) ⟨rfl, rfl, rfl, rfl, rfl, trivial⟩
