section LW
/-- no one of the thrown classes is another's kind -/
def NcA (U : State) : Prop := ∀ E, E ∈ xeE → ∀ E', E' ∈ xeE → E ≠ E' → va_Nc E E' U
theorem NcA.moved {u U : State} (ha : u.vm.Alike U.vm) (h : NcA u) : NcA U := fun E h1 E' h2 z => va_Nc.moved ha (h E h1 E' h2 z)
def cwP (D : va_G) (cl : List vw_C) (tys : List (ClassId × FieldType)) (ws : va_W) (B sz : Nat) (U : State) : Prop := ctP D cl tys ws B sz U ∧ NcA U
def ctL (l : Launch) (D : va_G) (cl : List vw_C) (tys : List (ClassId × FieldType)) (y : MethodName) (wd : List Cond) (rm : Room) (av : List Value) (ws : va_W) (post : Int32 → va_W → Prop) (mc ms : Nat) : Prop := ∀ B sz : Nat, Met l y wd rm (va_Pc av (cwP D cl tys ws B sz)) (va_Qi post (ctB D cl tys (va_A ws sz)) (va_A ws sz)) mc ms (va_A ws sz)
variable {p : Program} {l : Launch} {e : Env} {R : Room} {s : State} {m : MethodId} {args : Array Value} {below : List Frame} {meth : Method} {c : Code} {Q : State → Prop} {D : va_G} {cl : List vw_C} {tys : List (ClassId × FieldType)} {A : Nat → Prop} {n : Nat} {cc : ByteArray} {own : String} {Ts : List Cond} {ws : va_W} {k w pc : Nat} {lv : List (Nat × Value)} {st : List Value}
theorem cwP_blind {av : List Value} {B sz : Nat} : FrameBlind (va_Pc av (cwP D cl tys ws B sz)) := fun a U g mk q => ⟨q.1, (ctP_blind a U g mk ⟨q.1, q.2.1⟩).2, NcA.moved (u := U) (U := U.calling g mk a) (Vm.Alike.refl U.vm) q.2.2⟩
theorem ctL_of {y : MethodName} {wd ws' : List Cond} {rm : Room} {av : List Value} {ws0 : va_W} {post : Int32 → va_W → Prop} {mc ms maxL : Nat} {ret : Option FieldType} {cc : ByteArray} {own : String} {hh : List (Nat × Nat × Nat × Nat)} (hy : plainName y.cls = true) (ho : y.cls = own) (hw : wd = Cond.codeWith y cc maxL ret hh :: ws') (hln : (lg_sl av).length ≤ maxL) (hcat : ∀ v ∈ av, v.category = 1) (lv0 : List (Nat × Value)) (hlv : lv_args 0 av = lv0)
    (body : ∀ (p : Program) (e : Env) (s : State) (m : MethodId) (args : Array Value) (below : List Frame) (meth : Method) (c : Code) (sz : Nat), jc p s m args c D cl tys (va_A ws0 sz) maxL cc own wd → meth.sig.returnType = ret → meth.locks = false → c.exceptionTable.toList = tableOf hh → NcA s → jj p l e (headSpec wd rm).room s m args below meth c (MQ below (va_Qi post (ctB D cl tys (va_A ws0 sz)) (va_A ws0 sz)) args s mc ms (va_A ws0 sz)) D cl tys (va_A ws0 sz) maxL ws0 0 0 0 lv0 []) : ctL l D cl tys y wd rm av ws0 post mc ms := by
  subst hlv
  subst ho
  intro B0 sz
  refine va_MetW (cc := cc) (maxL := maxL) (ret := ret) hy hw ?_
  intro p e s m args below meth c s₁ B hml hv
  obtain ⟨rfl, ⟨hsz, hP, hK, hD0, hBs, hxe⟩, hnc⟩ := hv
  subst hsz
  have hl := lv_entry av hln
  rw [lg_entry_eq]
  refine body p e s m av.toArray below meth c s.heap.size ⟨B.exec, B.bytes, hml, findClass_of_methodNamed B.named, atoms_spec (ws := wd) B.pre, hK, fun q hq => Or.inr hq, B0, hBs, fun q z => z.elim (fun ⟨k, e, h⟩ => hD0.2 k (q, e) h) (fun z => Nat.le_trans hBs z), hxe⟩ B.returns B.notSynchronized (vx_table (x := y) B (atoms_spec (ws := wd) B.pre _ (by rw [hw]; exact List.mem_cons_self))) hnc s.heap [] _ hP hD0.self va_S.rf (lk_of hl ?_)
  intro q hq
  exact hcat _ (lv_args_in hq)
theorem jj_swap {wa wb : va_W} (h : jj p l e R s m args below meth c Q D cl tys A n (wb ++ wa) k w pc lv st) : jj p l e R s m args below meth c Q D cl tys A n (wa ++ wb) k w pc lv st := fun H locs ls hP hD hS hl => h H locs ls (va_P.swap (a := []) hP) (va_D.swap (a := []) hD) hS hl
theorem j_i2l (h : jc p s m args c D cl tys A n cc own Ts) {x : Int32} (hd : decode cc pc = .ok (.i2l, 1)) (kk : jj p l e R s m args below meth c Q D cl tys A n ws k w (pc + 1) lv (.long x.toInt64 :: st)) : jj p l e R s m args below meth c Q D cl tys A n ws k w pc lv (.int x :: st) := by
  intro H locs ls hP hD hS hl
  exact lv_i2l h.1 h.2.1 hd rfl (kk H locs ls hP hD hS hl)
theorem j_lcmp (h : jc p s m args c D cl tys A n cc own Ts) {x y : Int64} (hd : decode cc pc = .ok (.lcmp, 1)) (kk : jj p l e R s m args below meth c Q D cl tys A n ws k w (pc + 1) lv (.int (lg_cmp x y) :: st)) : jj p l e R s m args below meth c Q D cl tys A n ws k w pc lv (.long y :: .long x :: st) := by
  intro H locs ls hP hD hS hl
  exact W.lcmp h.1 h.2.1 hd (kk H locs ls hP hD hS hl)
theorem j_last0 (h : jc p s m args c D cl tys A n cc own Ts) {o : Nat} {cJ : ClassId} {F : Nat → Int64} {wr : va_W} {x : Int64} (t0 : Nat) (ht : tys[t0]? = some (cJ, .long)) (hd : decode cc pc = .ok (.lastore, 1)) (kk : jj p l e R s m args below meth c Q D cl tys A n ((o, .inl (cJ, 1, .inr (.inl (vp_updL F 0 x)))) :: wr) k w (pc + 1) lv st) : jj p l e R s m args below meth c Q D cl tys A n ((o, .inl (cJ, 1, .inr (.inl F))) :: wr) k w pc lv (.long x :: .int 0 :: .ref o :: st) := by
  intro H locs ls hP hD hS hl
  exact va_last h.1 h.2.1 h.2.2.2.2.2.1 hP hD hS 0 t0 rfl ht (vp_in_nI (n := 0) (N := 1) (by decide) (by decide)) hd (fun H1 locs1 hP1 hD1 hS1 => kk H1 locs1 ls hP1 hD1 hS1 hl)
theorem j_lald0 (h : jc p s m args c D cl tys A n cc own Ts) {o : Nat} {cJ : ClassId} {F : Nat → Int64} {wr : va_W} (t0 : Nat) (ht : tys[t0]? = some (cJ, .long)) (hd : decode cc pc = .ok (.laload, 1)) (kk : jj p l e R s m args below meth c Q D cl tys A n ((o, .inl (cJ, 1, .inr (.inl F))) :: wr) k w (pc + 1) lv (.long (F 0) :: st)) : jj p l e R s m args below meth c Q D cl tys A n ((o, .inl (cJ, 1, .inr (.inl F))) :: wr) k w pc lv (.int 0 :: .ref o :: st) := by
  intro H locs ls hP hD hS hl
  exact va_lald h.1 h.2.1 h.2.2.2.2.2.1 hP 0 t0 rfl ht (vp_in_nI (n := 0) (N := 1) (by decide) (by decide)) hd (kk H locs ls hP hD hS hl)
/-- a call, with a part of the world, that may throw; what is thrown is caught here -/
theorem j_callTIF (h : jc p s m args c D cl tys A n cc own Ts) {tys0 : List (ClassId × FieldType)} (hK0 : va_K D cl tys0 s) {xq : String → Prop} {vc : vw_C} {b ci : Nat} {fs : List Value} {wr wc : va_W} {index maxL mc ms nn : Nat} {y : MethodName} {bytes : ByteArray} {ret : Option FieldType} {wd : List Cond} {rm : Room} {As rest : List Value} {post : Int32 → va_W → Prop} (hd : decode cc pc = .ok (.invokevirtual index, 3)) (hM : ctT l D cl tys0 y wd rm (.ref b :: As) wc post xq mc ms) (cw : CallW R s args own vc.1 index y bytes maxL ret wd rm mc ms nn) (q0 : Nat) (hrc : wc[q0]? = some (b, .inr (ci, fs))) (hc : cl[ci]? = some vc) (hn : As.length = nn) (hst : st = As.reverse ++ .ref b :: rest) (hcat : (rest.map fun v => v.category).sum ≤ 8) (hf : k + mc ≤ R.cells ∧ w + ms ≤ R.slots)
    (kx : ∀ E, xq E → ∃ (pre : List ExceptionTableEntry) (x : ExceptionTableEntry) (suf : List ExceptionTableEntry) (name : String), c.exceptionTable.toList = pre ++ x :: suf ∧ (∀ z ∈ pre, covers z pc = false ∨ (z.catchType ≠ 0 ∧ ∃ nm : String, (Cond.classLink own z.catchType nm).before args s = true ∧ va_Nc E nm s)) ∧ covers x pc = true ∧ x.catchType ≠ 0 ∧ (Cond.classLink own x.catchType name).before args s = true ∧ (Cond.castable E name).before args s = true ∧ ∀ q9 : Nat, jj p l e R s m args below meth c Q D cl tys A n (wr ++ wc) (k + mc) (w + ms) x.handlerPc lv [.ref q9])
    (kk : ∀ (r : Int32) (u : va_W), post r u → jj p l e R s m args below meth c Q D cl tys A n (wr ++ u) (k + mc) (w + ms) (pc + 3) lv (.int r :: rest)) : jj p l e R s m args below meth c Q D cl tys A n (wr ++ wc) k w pc lv st := by
  intro H locs ls hP hD hS hl
  have hPc := jsubP hP
  have hDc := jsubD hD
  have hA := jA hDc hS h.2.2.2.2.2.2.1
  obtain ⟨B, hB0, hAB, hxe⟩ := h.2.2.2.2.2.2.2
  refine vx_calli (vx_runV (As := As) (rest := rest) ⟨h.1, h.2.1, h.2.2.1, h.2.2.2.1, h.2.2.2.2.1⟩ (hM B H.size) cw ⟨ctP_blind, va_recv hK0 hPc (q := vc) hc hrc, jpre hK0 hPc hDc hS hB0 hAB hxe⟩ rfl hn hl.1 hst (lv_room hcat) hd hf) hS (fun q _ z => hA q z) hA (fun q _ z => hA q z) (fun E ce q9 u t H1 locs1 ht hvm _ hB hz1 hk1 hS1 hce hcv hcl => ?_) (fun r u t H1 locs1 ht hvm hw hB hz1 hk1 hS1 => ?_)
  · obtain ⟨hxE, hP1, -⟩ := hB
    rw [ht] at hP1
    obtain ⟨pre, x, suf, name, h1, h2, h3, h4, h5, h6, hj⟩ := kx E hxE
    obtain ⟨hP2, hD2⟩ := jframe hP hD hk1 hA hP1 hDc.self
    exact vx_catch h.2.2.2.1 pre x suf h1 h2 h3 h4 h5 h6 hce hcv hcl (hj q9 H1 locs1 ls hP2 hD2 hS1 hl)
  · obtain ⟨hP1, hK1, hD1⟩ := hB
    rw [ht] at hP1
    obtain ⟨hP2, hD2⟩ := jframe hP hD hk1 hA hP1 hD1
    exact kk r u hw H1 locs1 ls hP2 hD2 hS1 hl
/-- a call, with a part of the world -/
theorem j_callVIF (h : jc p s m args c D cl tys A n cc own Ts) {tys0 : List (ClassId × FieldType)} (hK0 : va_K D cl tys0 s) {vc : vw_C} {b ci : Nat} {fs : List Value} {wr wc : va_W} {index maxL mc ms nn : Nat} {y : MethodName} {bytes : ByteArray} {ret : Option FieldType} {wd : List Cond} {rm : Room} {As rest : List Value} {post : Int32 → va_W → Prop} (hd : decode cc pc = .ok (.invokevirtual index, 3)) (hM : ctI l D cl tys0 y wd rm (.ref b :: As) wc post mc ms) (cw : CallW R s args own vc.1 index y bytes maxL ret wd rm mc ms nn) (q0 : Nat) (hrc : wc[q0]? = some (b, .inr (ci, fs))) (hc : cl[ci]? = some vc) (hn : As.length = nn) (hst : st = As.reverse ++ .ref b :: rest) (hcat : (rest.map fun v => v.category).sum ≤ 8) (hf : k + mc ≤ R.cells ∧ w + ms ≤ R.slots)
    (kk : ∀ (r : Int32) (u : va_W), post r u → jj p l e R s m args below meth c Q D cl tys A n (wr ++ u) (k + mc) (w + ms) (pc + 3) lv (.int r :: rest)) : jj p l e R s m args below meth c Q D cl tys A n (wr ++ wc) k w pc lv st := by
  intro H locs ls hP hD hS hl
  have hPc := jsubP hP
  have hDc := jsubD hD
  have hA := jA hDc hS h.2.2.2.2.2.2.1
  obtain ⟨B, hB0, hAB, hxe⟩ := h.2.2.2.2.2.2.2
  refine va_calli (va_runV (As := As) (rest := rest) ⟨h.1, h.2.1, h.2.2.1, h.2.2.2.1, h.2.2.2.2.1⟩ (hM B H.size) cw ⟨ctP_blind, va_recv hK0 hPc (q := vc) hc hrc, jpre hK0 hPc hDc hS hB0 hAB hxe⟩ rfl hn hl.1 hst (lv_room hcat) hd hf) hS (fun q _ z => hA q z) hA (fun r u t H1 locs1 ht hvm hw hB hz1 hk1 hS1 => ?_)
  obtain ⟨hP1, hK1, hD1⟩ := hB
  rw [ht] at hP1
  obtain ⟨hP2, hD2⟩ := jframe hP hD hk1 hA hP1 hD1
  exact kk r u hw H1 locs1 ls hP2 hD2 hS1 hl
/-- a static call of a method with a table, with a part of the world -/
theorem j_callLF (h : jc p s m args c D cl tys A n cc own Ts) (hnc : NcA s) {wr wc : va_W} {index maxL mc ms nn : Nat} {y : MethodName} {bytes : ByteArray} {ret : Option FieldType} {hh : List (Nat × Nat × Nat × Nat)} {wd : List Cond} {rm : Room} {As rest : List Value} {post : Int32 → va_W → Prop} (hd : decode cc pc = .ok (.invokestatic index, 3)) (hM : ctL l D cl tys y wd rm As wc post mc ms) (cw : vx_CSW R s args own index y bytes maxL ret hh wd rm mc ms nn) (hn : As.length = nn) (hst : st = As.reverse ++ rest) (hcat : (rest.map fun v => v.category).sum ≤ 8) (hf : k + mc ≤ R.cells ∧ w + ms ≤ R.slots)
    (kk : ∀ (r : Int32) (u : va_W), post r u → jj p l e R s m args below meth c Q D cl tys A n (wr ++ u) (k + mc) (w + ms) (pc + 3) lv (.int r :: rest)) : jj p l e R s m args below meth c Q D cl tys A n (wr ++ wc) k w pc lv st := by
  intro H locs ls hP hD hS hl
  have hPc := jsubP hP
  have hDc := jsubD hD
  have hA := jA hDc hS h.2.2.2.2.2.2.1
  obtain ⟨B, hB0, hAB, hxe⟩ := h.2.2.2.2.2.2.2
  refine va_calli (vx_runSW (As := As) (rest := rest) ⟨h.1, h.2.1, h.2.2.1, h.2.2.2.1, h.2.2.2.2.1⟩ (hM B H.size) cw ⟨cwP_blind, fun U hU hW => ⟨(jpre (av := As) h.2.2.2.2.2.1 hPc hDc hS hB0 hAB hxe U hU hW).1, (jpre (av := As) h.2.2.2.2.2.1 hPc hDc hS hB0 hAB hxe U hU hW).2, NcA.moved hW.alike hnc⟩⟩ rfl hn hl.1 hst (lv_room hcat) hd hf) hS (fun q _ z => hA q z) hA (fun r u t H1 locs1 ht hvm hw hB hz1 hk1 hS1 => ?_)
  obtain ⟨hP1, hK1, hD1⟩ := hB
  rw [ht] at hP1
  obtain ⟨hP2, hD2⟩ := jframe hP hD hk1 hA hP1 hD1
  exact kk r u hw H1 locs1 ls hP2 hD2 hS1 hl
end LW
