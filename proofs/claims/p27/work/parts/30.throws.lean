/-! ===== BEGIN .. of methods that hand back an object of the pool ===== -/
section
variable {p : Program} {l : Launch} {e : Env} {R : Room} {s : State} {m : MethodId} {args : Array Value} {below : List Frame} {meth : Method} {c : Code} {H : Heap} {locs : List Loc} {cells slots : Nat} {Q : State → Prop}
variable {mc ms : Nat} {free : Addr → Prop} {A0 A1 : Nat → Prop} {H0 : Heap} {a : Array Value} {pc : Nat} {ls : Array Slot} {st0 rest : List Value}
theorem vx_callq {S SX : Type} {post : Option Nat → S → Prop} {px : SX → Prop} {B : S → State → Prop} {BX : String → SX → State → Prop} {AX : Nat → Prop} (hr : vx_Run p l e R s m args below meth c H locs cells slots mc ms (F0 m pc ls st0) rest (va_Qq post B A1 a) (vx_X px BX AX) free) (hS : va_S A0 H0 H locs) (hA : ∀ q, q < H.size → A1 q → A0 q) (hf : ∀ q, free q → A0 q) (hAX : ∀ q, q < H.size → AX q → A0 q)
    (kx : ∀ (E : String) (ce : Cell) (q9 : Addr) (u : SX) (t : State) (H1 : Heap) (locs1 : List Loc), t.heap = H1 → s.vm.Alike t.vm → px u → BX E u t → H.size ≤ H1.size → (∀ q : Nat, q < H.size → ¬ AX q → H1[q]? = H[q]?) → va_S A0 H0 H1 locs1 → H1[q9]? = some ce → ce.vm = .none → s.vm.findClass E = some ce.cls → vx_W p l e R s m args below meth c H1 locs1 (cells + mc) (slots + ms) Q (F0 m pc ls rest) q9)
    (kk : ∀ (r : Option Nat) (u : S) (t : State) (H1 : Heap) (locs1 : List Loc), t.heap = H1 → s.vm.Alike t.vm → post r u → B u t → H.size ≤ H1.size → (∀ q : Nat, q < H.size → ¬ A1 q → H1[q]? = H[q]?) → va_S A0 H0 H1 locs1 → W p l e R s m args below meth c H1 locs1 (cells + mc) (slots + ms) Q (F0 m (pc + 3) ls (va_rf r :: rest))) : W p l e R s m args below meth c H locs cells slots Q (F0 m pc ls st0) := by
  intro T hT X
  rcases hr T hT X with ⟨v, st₀, t, T', L, h0, X', hL, e1, e2, ⟨⟨r, u, hv, hp, hb⟩, hF⟩, st⟩ | ⟨q, st₀, t, T', L, E, ce, h0, X', hL, e1, e2, ⟨u, hp, hb, hF⟩, hce, hcv, hcl, st⟩
  · cases hv
    obtain ⟨k1, k2, k3⟩ := vx_keep h0 e1 hS hA hf hL hF
    obtain ⟨t2, a1, b1⟩ := kk r u t T'.heap (locs ++ L) e1.symm (by rw [← e2]; exact X'.warmed.alike) hp hb k1 k2 k3 T' rfl X'
    exact ⟨t2, st t2 a1, b1⟩
  · obtain ⟨k1, k2, k3⟩ := vx_keep h0 e1 hS hAX hf hL hF
    obtain ⟨t2, a1, b1⟩ := kx E ce q u t T'.heap (locs ++ L) e1.symm (by rw [← e2]; exact X'.warmed.alike) hp hb k1 k2 k3 (by rw [e1]; exact hce) hcv hcl T' rfl X'
    exact ⟨t2, st.trans a1, b1⟩
end
/-! ===== END ===== -/
section JT
def xN : List String := ["java/lang/RuntimeException", "java/lang/Exception"]
def xpT (D : va_G) (cl : List vw_C) (tys : List (ClassId × FieldType)) (A : Nat → Prop) (ws : va_W) (xp : String → Prop) : String → State → State → Prop := vx_X (fun _ : Unit => True) (fun E _ t => xp E ∧ va_P D cl ws t.heap ∧ va_K D cl tys t) A
def ctT (l : Launch) (D : va_G) (cl : List vw_C) (tys : List (ClassId × FieldType)) (y : MethodName) (wd : List Cond) (rm : Room) (av : List Value) (ws : va_W) (post : Int32 → va_W → Prop) (xp : String → Prop) (mc ms : Nat) : Prop := ∀ B sz : Nat, vx_Met l y wd rm (va_Pc av (ctP D cl tys ws B sz)) (va_Qi post (ctB D cl tys (va_A ws sz)) (va_A ws sz)) (xpT D cl tys (va_A ws sz) ws xp) mc ms (va_A ws sz)
def ctU (l : Launch) (D : va_G) (cl : List vw_C) (tys : List (ClassId × FieldType)) (y : MethodName) (wd : List Cond) (rm : Room) (av : List Value) (ws : va_W) (post : Option Nat → va_W → Prop) (xp : String → Prop) (mc ms : Nat) : Prop := ∀ B sz : Nat, vx_Met l y wd rm (va_Pc av (ctP D cl tys ws B sz)) (va_Qq post (ctB D cl tys (va_A ws sz)) (va_A ws sz)) (xpT D cl tys (va_A ws sz) ws xp) mc ms (va_A ws sz)
variable {p : Program} {l : Launch} {e : Env} {R : Room} {s : State} {m : MethodId} {args : Array Value} {below : List Frame} {meth : Method} {c : Code} {Q : State → Prop} {D : va_G} {cl : List vw_C} {tys : List (ClassId × FieldType)} {A : Nat → Prop} {n : Nat} {cc : ByteArray} {own : String} {Ts : List Cond} {ws : va_W} {k w pc : Nat} {lv : List (Nat × Value)} {st : List Value}
theorem jj_vx {Qc : Array Value → State → Outcome → State → Prop} {XC : String → State → State → Prop} {mc ms : Nat} {free : Addr → Prop} (h : jj p l e R s m args below meth c (MQ below Qc args s mc ms free) D cl tys A n ws k w pc lv st) : jj p l e R s m args below meth c (vx_MQ below Qc XC args s mc ms free) D cl tys A n ws k w pc lv st := fun H locs ls hP hD hS hl => vx_ret (h H locs ls hP hD hS hl)

theorem ctT_of {y : MethodName} {wd ws' : List Cond} {rm : Room} {av : List Value} {ws0 : va_W} {post : Int32 → va_W → Prop} {xp : String → Prop} {mc ms maxL : Nat} {ret : Option FieldType} {cc : ByteArray} {own : String} (hy : plainName y.cls = true) (ho : y.cls = own) (hw : wd = Cond.code y cc maxL ret :: ws') (hln : (lg_sl av).length ≤ maxL) (hcat : ∀ v ∈ av, v.category = 1) (lv0 : List (Nat × Value)) (hlv : lv_args 0 av = lv0)
    (body : ∀ (p : Program) (e : Env) (s : State) (m : MethodId) (args : Array Value) (below : List Frame) (meth : Method) (c : Code) (sz : Nat), jc p s m args c D cl tys (va_A ws0 sz) maxL cc own wd → meth.sig.returnType = ret → meth.locks = false → (∀ x ∈ c.exceptionTable.toList, False) → jj p l e (headSpec wd rm).room s m args below meth c (vx_MQ below (va_Qi post (ctB D cl tys (va_A ws0 sz)) (va_A ws0 sz)) (xpT D cl tys (va_A ws0 sz) ws0 xp) args s mc ms (va_A ws0 sz)) D cl tys (va_A ws0 sz) maxL ws0 0 0 0 lv0 []) : ctT l D cl tys y wd rm av ws0 post xp mc ms := by
  subst hlv
  subst ho
  intro B0 sz
  refine vx_ofW (cc := cc) (maxL := maxL) (ret := ret) hy hw ?_
  intro p e s m args below meth c s₁ B hml hout hv
  obtain ⟨rfl, hsz, hP, hK, hD0, hBs, hxe⟩ := hv
  subst hsz
  have hl := lv_entry av hln
  rw [lg_entry_eq]
  refine body p e s m av.toArray below meth c s.heap.size ⟨B.exec, B.bytes, hml, findClass_of_methodNamed B.named, atoms_spec (ws := wd) B.pre, hK, fun q hq => Or.inr hq, B0, hBs, fun q z => z.elim (fun ⟨k, e, h⟩ => hD0.2 k (q, e) h) (fun z => Nat.le_trans hBs z), hxe⟩ B.returns B.notSynchronized hout s.heap [] _ hP hD0.self va_S.rf (lk_of hl ?_)
  intro q hq
  exact hcat _ (lv_args_in hq)
theorem ctU_of {y : MethodName} {wd ws' : List Cond} {rm : Room} {av : List Value} {ws0 : va_W} {post : Option Nat → va_W → Prop} {xp : String → Prop} {mc ms maxL : Nat} {ret : Option FieldType} {cc : ByteArray} {own : String} (hy : plainName y.cls = true) (ho : y.cls = own) (hw : wd = Cond.code y cc maxL ret :: ws') (hln : (lg_sl av).length ≤ maxL) (hcat : ∀ v ∈ av, v.category = 1) (lv0 : List (Nat × Value)) (hlv : lv_args 0 av = lv0)
    (body : ∀ (p : Program) (e : Env) (s : State) (m : MethodId) (args : Array Value) (below : List Frame) (meth : Method) (c : Code) (sz : Nat), jc p s m args c D cl tys (va_A ws0 sz) maxL cc own wd → meth.sig.returnType = ret → meth.locks = false → (∀ x ∈ c.exceptionTable.toList, False) → jj p l e (headSpec wd rm).room s m args below meth c (vx_MQ below (va_Qq post (ctB D cl tys (va_A ws0 sz)) (va_A ws0 sz)) (xpT D cl tys (va_A ws0 sz) ws0 xp) args s mc ms (va_A ws0 sz)) D cl tys (va_A ws0 sz) maxL ws0 0 0 0 lv0 []) : ctU l D cl tys y wd rm av ws0 post xp mc ms := by
  subst hlv
  subst ho
  intro B0 sz
  refine vx_ofW (cc := cc) (maxL := maxL) (ret := ret) hy hw ?_
  intro p e s m args below meth c s₁ B hml hout hv
  obtain ⟨rfl, hsz, hP, hK, hD0, hBs, hxe⟩ := hv
  subst hsz
  have hl := lv_entry av hln
  rw [lg_entry_eq]
  refine body p e s m av.toArray below meth c s.heap.size ⟨B.exec, B.bytes, hml, findClass_of_methodNamed B.named, atoms_spec (ws := wd) B.pre, hK, fun q hq => Or.inr hq, B0, hBs, fun q z => z.elim (fun ⟨k, e, h⟩ => hD0.2 k (q, e) h) (fun z => Nat.le_trans hBs z), hxe⟩ B.returns B.notSynchronized hout s.heap [] _ hP hD0.self va_S.rf (lk_of hl ?_)
  intro q hq
  exact hcat _ (lv_args_in hq)
set_option maxRecDepth 20000 in
theorem xb_A : ∀ w ∈ (vx_atS RX2 61 "java/lang/IllegalArgumentException" xN).filter (fun w => !goodWord w), w ∈ [Cond.castable "java/lang/IllegalArgumentException" "java/lang/IllegalArgumentException", Cond.declares (Bundle.initS "java/lang/RuntimeException"), Cond.declares (Bundle.initS "java/lang/Exception"), Cond.declares (Bundle.initS "java/lang/Throwable")] := by decide +kernel
set_option maxRecDepth 20000 in
theorem xo_A : ∀ w ∈ Cond.classLink RX2 57 "java/lang/IllegalArgumentException" :: Cond.initialized "java/lang/IllegalArgumentException" :: vx_atS RX2 61 "java/lang/IllegalArgumentException" xN, vx_ot w = true := by decide +kernel
theorem j_throwA {Qc : Array Value → State → Outcome → State → Prop} {ws0 : va_W} {sz mc ms is : Nat} {text : String} {xp : String → Prop} (h : jc p s m args c D cl tys (va_A ws0 sz) n cc RX2 Ts) (hl : l.stackTraces = false) (hout : ∀ x ∈ c.exceptionTable.toList, False) (hlk : meth.locks = false) (hstr : (is, text) ∈ xeS) (hk : Cond.classLink RX2 57 "java/lang/IllegalArgumentException" ∈ Ts) (hini : Cond.initialized "java/lang/IllegalArgumentException" ∈ Ts) (hg : ∀ w ∈ (vx_atS RX2 61 "java/lang/IllegalArgumentException" xN).filter goodWord, w ∈ Ts) (d0 : decode cc pc = .ok (.new 57, 3)) (d3 : decode cc (pc + 3) = .ok (.dup, 1)) (d4 : decode cc (pc + 4) = .ok (.ldc is, 2)) (d6 : decode cc (pc + 6) = .ok (.invokespecial 61, 3)) (d9 : decode cc (pc + 9) = .ok (.athrow, 1)) (hRf : 5 < R.frames) (hRl : (st.map fun v => v.category).sum + 82 ≤ R.locals) (hRc : k + 1 ≤ R.cells) (hRs : w + 6 ≤ R.slots) (hc : k + 1 ≤ mc) (hs : w + 6 ≤ ms) (hxp : xp "java/lang/IllegalArgumentException") : jj p l e R s m args below meth c (vx_MQ below Qc (xpT D cl tys (va_A ws0 sz) ws0 xp) args s mc ms (va_A ws0 sz)) D cl tys (va_A ws0 sz) n ws0 k w pc lv st := by
  intro H locs ls hP hD hS hlv
  obtain ⟨B, hB0, hAB, hxe⟩ := h.2.2.2.2.2.2.2
  obtain ⟨sa, hsa⟩ := hxe.2.2.2.2.2.1 _ hstr
  exact vx_throwS (A := va_A ws0 sz) (names := xN) h.1 h.2.1 hl h.2.2.2.1 (by decide) (by decide) (h.2.2.2.2.1 _ hk) (h.2.2.2.2.1 _ hini) hsa
    (vx_hat (B := [Cond.castable "java/lang/IllegalArgumentException" "java/lang/IllegalArgumentException", Cond.declares (Bundle.initS "java/lang/RuntimeException"), Cond.declares (Bundle.initS "java/lang/Exception"), Cond.declares (Bundle.initS "java/lang/Throwable")]) (fun w hw => h.2.2.2.2.1 _ (hg w hw)) xb_A (vx_c (va_Nw.use rfl (hxe.2.2.1 "java/lang/IllegalArgumentException" (by decide))) (vx_c (va_Nw.use rfl (hxe.2.2.2.2.2.2.2.2 _ (by decide))) (vx_c (va_Nw.use rfl (hxe.2.2.2.2.2.2.2.2 _ (by decide))) (vx_c (va_Nw.use rfl (hxe.2.2.2.2.2.2.2.2 _ (by decide))) vx_n))))) xo_A
    (hxe.1.narrow hAB) (hxe.2.1.narrow hAB) hS (hlv.1.trans h.2.2.1.symm) d0 d3 d4 d6 d9 (fun x hx => (hout x hx).elim) hRf hRl hRc hRs hlk
    (fun t ha hz hq => ⟨(), trivial, ⟨hxp, hP.kept (fun i q hi => hq q.1 ((hP i q hi).lt)), va_K.moved ha h.2.2.2.2.2.1⟩, ⟨Nat.le_trans hS.1 hz, fun q h1 h2 => (hq q (Nat.lt_of_lt_of_le h1 hS.1)).trans (hS.2.1 q h1 h2)⟩⟩) hS.2.2 hc hs
set_option maxRecDepth 20000 in
theorem xb_S : ∀ w ∈ (vx_atS RX2 68 "java/lang/IllegalStateException" xN).filter (fun w => !goodWord w), w ∈ [Cond.castable "java/lang/IllegalStateException" "java/lang/IllegalStateException", Cond.declares (Bundle.initS "java/lang/RuntimeException"), Cond.declares (Bundle.initS "java/lang/Exception"), Cond.declares (Bundle.initS "java/lang/Throwable")] := by decide +kernel
set_option maxRecDepth 20000 in
theorem xo_S : ∀ w ∈ Cond.classLink RX2 64 "java/lang/IllegalStateException" :: Cond.initialized "java/lang/IllegalStateException" :: vx_atS RX2 68 "java/lang/IllegalStateException" xN, vx_ot w = true := by decide +kernel
theorem j_throwS {Qc : Array Value → State → Outcome → State → Prop} {ws0 : va_W} {sz mc ms is : Nat} {text : String} {xp : String → Prop} (h : jc p s m args c D cl tys (va_A ws0 sz) n cc RX2 Ts) (hl : l.stackTraces = false) (hout : ∀ x ∈ c.exceptionTable.toList, False) (hlk : meth.locks = false) (hstr : (is, text) ∈ xeS) (hk : Cond.classLink RX2 64 "java/lang/IllegalStateException" ∈ Ts) (hini : Cond.initialized "java/lang/IllegalStateException" ∈ Ts) (hg : ∀ w ∈ (vx_atS RX2 68 "java/lang/IllegalStateException" xN).filter goodWord, w ∈ Ts) (d0 : decode cc pc = .ok (.new 64, 3)) (d3 : decode cc (pc + 3) = .ok (.dup, 1)) (d4 : decode cc (pc + 4) = .ok (.ldc is, 2)) (d6 : decode cc (pc + 6) = .ok (.invokespecial 68, 3)) (d9 : decode cc (pc + 9) = .ok (.athrow, 1)) (hRf : 5 < R.frames) (hRl : (st.map fun v => v.category).sum + 82 ≤ R.locals) (hRc : k + 1 ≤ R.cells) (hRs : w + 6 ≤ R.slots) (hc : k + 1 ≤ mc) (hs : w + 6 ≤ ms) (hxp : xp "java/lang/IllegalStateException") : jj p l e R s m args below meth c (vx_MQ below Qc (xpT D cl tys (va_A ws0 sz) ws0 xp) args s mc ms (va_A ws0 sz)) D cl tys (va_A ws0 sz) n ws0 k w pc lv st := by
  intro H locs ls hP hD hS hlv
  obtain ⟨B, hB0, hAB, hxe⟩ := h.2.2.2.2.2.2.2
  obtain ⟨sa, hsa⟩ := hxe.2.2.2.2.2.1 _ hstr
  exact vx_throwS (A := va_A ws0 sz) (names := xN) h.1 h.2.1 hl h.2.2.2.1 (by decide) (by decide) (h.2.2.2.2.1 _ hk) (h.2.2.2.2.1 _ hini) hsa
    (vx_hat (B := [Cond.castable "java/lang/IllegalStateException" "java/lang/IllegalStateException", Cond.declares (Bundle.initS "java/lang/RuntimeException"), Cond.declares (Bundle.initS "java/lang/Exception"), Cond.declares (Bundle.initS "java/lang/Throwable")]) (fun w hw => h.2.2.2.2.1 _ (hg w hw)) xb_S (vx_c (va_Nw.use rfl (hxe.2.2.1 "java/lang/IllegalStateException" (by decide))) (vx_c (va_Nw.use rfl (hxe.2.2.2.2.2.2.2.2 _ (by decide))) (vx_c (va_Nw.use rfl (hxe.2.2.2.2.2.2.2.2 _ (by decide))) (vx_c (va_Nw.use rfl (hxe.2.2.2.2.2.2.2.2 _ (by decide))) vx_n))))) xo_S
    (hxe.1.narrow hAB) (hxe.2.1.narrow hAB) hS (hlv.1.trans h.2.2.1.symm) d0 d3 d4 d6 d9 (fun x hx => (hout x hx).elim) hRf hRl hRc hRs hlk
    (fun t ha hz hq => ⟨(), trivial, ⟨hxp, hP.kept (fun i q hi => hq q.1 ((hP i q hi).lt)), va_K.moved ha h.2.2.2.2.2.1⟩, ⟨Nat.le_trans hS.1 hz, fun q h1 h2 => (hq q (Nat.lt_of_lt_of_le h1 hS.1)).trans (hS.2.1 q h1 h2)⟩⟩) hS.2.2 hc hs
set_option maxRecDepth 20000 in
theorem xb_I : ∀ w ∈ (vx_atS RX2 84 "java/lang/IndexOutOfBoundsException" xN).filter (fun w => !goodWord w), w ∈ [Cond.castable "java/lang/IndexOutOfBoundsException" "java/lang/IndexOutOfBoundsException", Cond.declares (Bundle.initS "java/lang/RuntimeException"), Cond.declares (Bundle.initS "java/lang/Exception"), Cond.declares (Bundle.initS "java/lang/Throwable")] := by decide +kernel
set_option maxRecDepth 20000 in
theorem xo_I : ∀ w ∈ Cond.classLink RX2 80 "java/lang/IndexOutOfBoundsException" :: Cond.initialized "java/lang/IndexOutOfBoundsException" :: vx_atS RX2 84 "java/lang/IndexOutOfBoundsException" xN, vx_ot w = true := by decide +kernel
theorem j_throwI {Qc : Array Value → State → Outcome → State → Prop} {ws0 : va_W} {sz mc ms is : Nat} {text : String} {xp : String → Prop} (h : jc p s m args c D cl tys (va_A ws0 sz) n cc RX2 Ts) (hl : l.stackTraces = false) (hout : ∀ x ∈ c.exceptionTable.toList, False) (hlk : meth.locks = false) (hstr : (is, text) ∈ xeS) (hk : Cond.classLink RX2 80 "java/lang/IndexOutOfBoundsException" ∈ Ts) (hini : Cond.initialized "java/lang/IndexOutOfBoundsException" ∈ Ts) (hg : ∀ w ∈ (vx_atS RX2 84 "java/lang/IndexOutOfBoundsException" xN).filter goodWord, w ∈ Ts) (d0 : decode cc pc = .ok (.new 80, 3)) (d3 : decode cc (pc + 3) = .ok (.dup, 1)) (d4 : decode cc (pc + 4) = .ok (.ldc is, 2)) (d6 : decode cc (pc + 6) = .ok (.invokespecial 84, 3)) (d9 : decode cc (pc + 9) = .ok (.athrow, 1)) (hRf : 5 < R.frames) (hRl : (st.map fun v => v.category).sum + 82 ≤ R.locals) (hRc : k + 1 ≤ R.cells) (hRs : w + 6 ≤ R.slots) (hc : k + 1 ≤ mc) (hs : w + 6 ≤ ms) (hxp : xp "java/lang/IndexOutOfBoundsException") : jj p l e R s m args below meth c (vx_MQ below Qc (xpT D cl tys (va_A ws0 sz) ws0 xp) args s mc ms (va_A ws0 sz)) D cl tys (va_A ws0 sz) n ws0 k w pc lv st := by
  intro H locs ls hP hD hS hlv
  obtain ⟨B, hB0, hAB, hxe⟩ := h.2.2.2.2.2.2.2
  obtain ⟨sa, hsa⟩ := hxe.2.2.2.2.2.1 _ hstr
  exact vx_throwS (A := va_A ws0 sz) (names := xN) h.1 h.2.1 hl h.2.2.2.1 (by decide) (by decide) (h.2.2.2.2.1 _ hk) (h.2.2.2.2.1 _ hini) hsa
    (vx_hat (B := [Cond.castable "java/lang/IndexOutOfBoundsException" "java/lang/IndexOutOfBoundsException", Cond.declares (Bundle.initS "java/lang/RuntimeException"), Cond.declares (Bundle.initS "java/lang/Exception"), Cond.declares (Bundle.initS "java/lang/Throwable")]) (fun w hw => h.2.2.2.2.1 _ (hg w hw)) xb_I (vx_c (va_Nw.use rfl (hxe.2.2.1 "java/lang/IndexOutOfBoundsException" (by decide))) (vx_c (va_Nw.use rfl (hxe.2.2.2.2.2.2.2.2 _ (by decide))) (vx_c (va_Nw.use rfl (hxe.2.2.2.2.2.2.2.2 _ (by decide))) (vx_c (va_Nw.use rfl (hxe.2.2.2.2.2.2.2.2 _ (by decide))) vx_n))))) xo_I
    (hxe.1.narrow hAB) (hxe.2.1.narrow hAB) hS (hlv.1.trans h.2.2.1.symm) d0 d3 d4 d6 d9 (fun x hx => (hout x hx).elim) hRf hRl hRc hRs hlk
    (fun t ha hz hq => ⟨(), trivial, ⟨hxp, hP.kept (fun i q hi => hq q.1 ((hP i q hi).lt)), va_K.moved ha h.2.2.2.2.2.1⟩, ⟨Nat.le_trans hS.1 hz, fun q h1 h2 => (hq q (Nat.lt_of_lt_of_le h1 hS.1)).trans (hS.2.1 q h1 h2)⟩⟩) hS.2.2 hc hs
theorem j_callTQ {Qc : Array Value → State → Outcome → State → Prop} {ws0 : va_W} {sz mC mS : Nat} {xp xq : String → Prop} {vc : vw_C} {b ci : Nat} {fs : List Value} {index maxL mc ms nn : Nat} {y : MethodName} {bytes : ByteArray} {ret : Option FieldType} {wd : List Cond} {rm : Room} {As rest : List Value} {post : Option Nat → va_W → Prop} (h : jc p s m args c D cl tys (va_A ws0 sz) n cc own Ts) (hout : ∀ x ∈ c.exceptionTable.toList, False) (hlk : meth.locks = false) (hd : decode cc pc = .ok (.invokevirtual index, 3)) (hM : ctU l D cl tys y wd rm (.ref b :: As) ws0 post xq mc ms) (cw : CallW R s args own vc.1 index y bytes maxL ret wd rm mc ms nn) (q0 : Nat) (hrc : ws0[q0]? = some (b, .inr (ci, fs))) (hc : cl[ci]? = some vc) (hn : As.length = nn) (hst : st = As.reverse ++ .ref b :: rest) (hcat : (rest.map fun v => v.category).sum ≤ 8) (hf : k + mc ≤ R.cells ∧ w + ms ≤ R.slots) (hmc : k + mc ≤ mC) (hms : w + ms ≤ mS) (hxq : ∀ E, xq E → xp E) (kk : ∀ (r : Option Nat) (u : va_W), post r u → jj p l e R s m args below meth c (vx_MQ below Qc (xpT D cl tys (va_A ws0 sz) ws0 xp) args s mC mS (va_A ws0 sz)) D cl tys (va_A ws0 sz) n u (k + mc) (w + ms) (pc + 3) lv (va_rf r :: rest)) : jj p l e R s m args below meth c (vx_MQ below Qc (xpT D cl tys (va_A ws0 sz) ws0 xp) args s mC mS (va_A ws0 sz)) D cl tys (va_A ws0 sz) n ws0 k w pc lv st := by
  intro H locs ls hP hD hS hl
  have hA := jA hD hS h.2.2.2.2.2.2.1
  obtain ⟨B, hB0, hAB, hxe⟩ := h.2.2.2.2.2.2.2
  refine vx_callq (vx_runV (As := As) (rest := rest) ⟨h.1, h.2.1, h.2.2.1, h.2.2.2.1, h.2.2.2.2.1⟩ (hM B H.size) cw ⟨ctP_blind, va_recv h.2.2.2.2.2.1 hP (q := vc) hc hrc, jpre h.2.2.2.2.2.1 hP hD hS hB0 hAB hxe⟩ rfl hn hl.1 hst (lv_room hcat) hd hf) hS (fun q _ z => hA q z) hA (fun q _ z => hA q z) (fun E ce q9 u t H1 locs1 ht hvm _ hB hz1 hk1 hS1 hce hcv hcl => ?_) (fun r u t H1 locs1 ht hvm hw hB hz1 hk1 hS1 => ?_)
  · refine vx_out (fun x hx => (hout x hx).elim) hlk hce hcv hcl (fun t2 ht2 ha2 => ⟨(), trivial, ⟨hxq E hB.1, ?_, va_K.moved ha2 h.2.2.2.2.2.1⟩, hS1.F ht2⟩) hS1.2.2 hmc hms
    rw [ht2, ← ht]; exact hB.2.1
  · obtain ⟨hP1, hK1, hD1⟩ := hB
    rw [ht] at hP1
    exact kk r u hw H1 locs1 ls hP1 (hD1.weaken (fun _ q _ z => hA q.1 z)) hS1 hl
end JT
theorem isL_yes {f : St} {n a : Nat} (h : f 7 0 = nI n) (hn : n < 2 ^ 30) (ha : a < n) : isL f (nI a) = true := by rw [isL, h]; exact ix_inB hn ha
theorem isF_yes {f : St} {n a : Nat} (h : f 14 0 = nI n) (hn : n < 2 ^ 30) (ha : a < n) : isF f (nI a) = true := by rw [isF, h]; exact ix_inB hn ha
theorem ix_no {x : Int32} {n N : Nat} (hN : N < 2 ^ 30) (hn : n ≤ N) (hF : inB x 0 (nI N - 1) = false) : inB x 0 (nI n - 1) = false := by
  cases hB : inB x 0 (nI n - 1) with
  | false => rfl
  | true =>
    obtain ⟨a, ha, rfl⟩ := inB_ix (by omega) hB
    rw [ix_inB hN (by omega)] at hF
    cases hF
theorem ix_nI {n a : Nat} (ha2 : a < 2 ^ 30) (ha : n ≤ a) : inB (nI a) 0 (nI n - 1) = false := by
  cases hB : inB (nI a) 0 (nI n - 1) with
  | false => rfl
  | true =>
    obtain ⟨c, hc, z⟩ := inB_ix (by omega) hB
    have := (nI_eq (by omega) (by omega)).mp z
    omega
theorem isL_no {f : St} {n : Nat} {x : Int32} (h : f 7 0 = nI n) (hn : n ≤ 24) (hF : inB x 0 (nI 24 - 1) = false) : isL f x = false := by rw [isL, h]; exact ix_no (by decide) hn hF
theorem isF_no {f : St} {n : Nat} {x : Int32} (h : f 14 0 = nI n) (hn : n ≤ 8) (hF : inB x 0 (nI 8 - 1) = false) : isF f x = false := by rw [isF, h]; exact ix_no (by decide) hn hF
theorem isL_nI {f : St} {n a : Nat} (h : f 7 0 = nI n) (_ : n ≤ 24) (ha : n ≤ a) (h2 : a < 2 ^ 30) : isL f (nI a) = false := by rw [isL, h]; exact ix_nI h2 ha
theorem isF_nI {f : St} {n a : Nat} (h : f 14 0 = nI n) (_ : n ≤ 8) (ha : n ≤ a) (h2 : a < 2 ^ 30) : isF f (nI a) = false := by rw [isF, h]; exact ix_nI h2 ha
theorem tL_0 {f : St} {x : Int32} (h : isL f x = true) : tL f x = 0 := by rw [tL, h]; rfl
theorem tF_0 {f : St} {x : Int32} (h : isF f x = true) : tF f x = 0 := by rw [tF, h]; rfl
theorem tL_1 {f : St} {x : Int32} (h : isL f x = false) : tL f x = 1 := by rw [tL, h]; rfl
theorem tF_1 {f : St} {x : Int32} (h : isF f x = false) : tF f x = 1 := by rw [tF, h]; rfl
