section JL
abbrev St : Type := Nat → Nat → Int32
/-- locals, the first that is listed counts; all of one slot -/
def lget : List (Nat × Value) → Nat → Option Value
  | [], _ => none
  | (j, v) :: r, i => if j = i then some v else lget r i
def lk (ls : Array Slot) (n : Nat) (lv : List (Nat × Value)) : Prop := ls.size = n ∧ lv_wf ls ∧ ∀ (i : Nat) (v : Value), lget lv i = some v → v.category = 1 ∧ ls[i]? = some (.val v)
theorem lget_mem : ∀ {lv : List (Nat × Value)} {i : Nat} {v : Value}, lget lv i = some v → (i, v) ∈ lv
  | [], _, _, h => by cases h
  | (j, w) :: r, i, v, h => by
    unfold lget at h
    split at h
    · next e => cases h; subst e; exact List.mem_cons_self
    · exact List.mem_cons_of_mem _ (lget_mem h)
theorem lk_of {ls : Array Slot} {n : Nat} {lv : List (Nat × Value)} (h : lv_has ls n lv) (hc : ∀ q ∈ lv, q.2.category = 1) : lk ls n lv := ⟨h.1, h.2.1, fun i v hg => ⟨hc _ (lget_mem hg), h.2.2 _ (lget_mem hg)⟩⟩
theorem lk_at {ls : Array Slot} {n : Nat} {lv : List (Nat × Value)} (h : lk ls n lv) {i : Nat} {v : Value} (hg : lget lv i = some v) : ls[i]? = some (.val v) := (h.2.2 i v hg).2
theorem lk_store {ls : Array Slot} {n : Nat} {lv : List (Nat × Value)} {i : Nat} {v : Value} (h : lk ls n lv) (hi : i < n) (hc : v.category = 1) : ∃ ls', storeLocals ls i v = some ls' ∧ lk ls' n ((i, v) :: lv) := by
  obtain ⟨ls', e, h'⟩ := lv_store1 (l := []) (v := v) ⟨h.1, h.2.1, fun q hq => by cases hq⟩ hi hc
  refine ⟨ls', e, h'.1, h'.2.1, fun j w hj => ?_⟩
  unfold lget at hj
  split at hj
  · next e2 => cases hj; subst e2; exact ⟨hc, h'.2.2 _ List.mem_cons_self⟩
  · next e2 =>
    obtain ⟨h1, h2⟩ := h.2.2 j w hj
    refine ⟨h1, ?_⟩
    obtain ⟨ls2, e3, h3⟩ := lv_store1 (l := [(j, w)]) (v := v) ⟨h.1, h.2.1, fun q hq => by rw [List.mem_singleton.mp hq]; exact h2⟩ hi hc
    have e4 : ls2 = ls' := Option.some.inj (e3.symm.trans e)
    subst e4
    refine h3.2.2 (j, w) (List.mem_cons_of_mem _ (List.mem_filter.mpr ⟨List.mem_singleton.mpr rfl, ?_⟩))
    have n1 : ¬ j = i := fun q => e2 q.symm
    simp [n1, h1]
/-- fewer locals -/
def lsub : List (Nat × Value) → List (Nat × Value) → Prop
  | [], _ => True
  | (i, v) :: r, lv => lget lv i = some v ∧ lsub r lv
theorem lsub_get : ∀ {l1 lv : List (Nat × Value)} {i : Nat} {v : Value}, lsub l1 lv → lget l1 i = some v → lget lv i = some v
  | [], _, _, _, _, h => by cases h
  | (j, w) :: r, lv, i, v, hs, h => by
    unfold lget at h
    split at h
    · next e => cases h; subst e; exact hs.1
    · exact lsub_get hs.2 h
theorem lk_sub {ls : Array Slot} {n : Nat} {l1 lv : List (Nat × Value)} (h : lk ls n lv) (hs : lsub l1 lv) : lk ls n l1 := ⟨h.1, h.2.1, fun i v hg => h.2.2 i v (lsub_get hs hg)⟩
/-- the three classes that are thrown -/
def xeE : List String := ["java/lang/IllegalArgumentException", "java/lang/IllegalStateException", "java/lang/IndexOutOfBoundsException"]
def xeS : List (Nat × String) := [(59, "ribs, paper or candle is out of range"), (66, "24 lanterns were made"), (82, "no such slot"), (88, "the slot has a lantern"), (97, "the lantern hangs on a float, or the float is gone"), (107, "the float would have more load than it bears"), (113, "the lantern hangs on no float"), (135, "the lantern cannot be lit"), (140, "the lantern is not lit"), (142, "speed or bears is out of range"), (144, "8 floats were built"), (151, "the float is not ashore, or the last is too near"), (162, "gap or base is out of range"), (164, "minute or strength is out of range"), (166, "minutes is out of range"), (192, "figure is out of range"), (198, "no such lantern"), (200, "no such float")]
def xeY : List String := ["java/lang/RuntimeException", "java/lang/Exception", "java/lang/Throwable"]
/-- what a throw, and a call of a nest mate's private method, need of the start: nothing below B is written -/
def xe (B : Nat) (U : State) : Prop := vx_Zq Bundle.tN "UNASSIGNED_STACK" Bundle.steD (fun q => B ≤ q) U U.heap ∧ vx_Zq Bundle.tN "SUPPRESSED_SENTINEL" Bundle.listD (fun q => B ≤ q) U U.heap ∧ (∀ E ∈ xeE, va_Nw (.castable E E) U) ∧ va_Nw (.methodLinkNest RX1 36 yX2_within RX2) U ∧ va_Nw (.methodLinkNest RX1 73 yX2_nearer RX2) U ∧ (∀ q ∈ xeS, ∃ sa : Nat, vk_R RX2 q.1 q.2 sa U) ∧ va_AO RX0 U ∧ va_AO RX1 U ∧ ∀ Y ∈ xeY, va_Nw (.declares (Bundle.initS Y)) U
theorem xe.same {B : Nat} {u U : State} (hv : U.vm = u.vm) (hh : U.heap = u.heap) (h : xe B u) : xe B U := by
  have ha : u.vm.Alike U.vm := by rw [hv]; exact Vm.Alike.refl _
  refine ⟨by rw [hh]; exact vx_Zq.moved ha h.1, by rw [hh]; exact vx_Zq.moved ha h.2.1, fun E hE => va_Nw.same rfl hv.symm (h.2.2.1 E hE), va_Nw.same rfl hv.symm h.2.2.2.1, va_Nw.same rfl hv.symm h.2.2.2.2.1, fun q hq => ?_, h.2.2.2.2.2.2.1.moved ha, h.2.2.2.2.2.2.2.1.moved ha, fun Y hY => va_Nw.same rfl hv.symm (h.2.2.2.2.2.2.2.2 Y hY)⟩
  obtain ⟨sa, z⟩ := h.2.2.2.2.2.1 q hq
  exact ⟨sa, vk_R.same hv z⟩
theorem xe.moved {B : Nat} {s U : State} (hW : s.WarmedH U.vm) (hk : ∀ q : Nat, q < s.heap.size → ¬ B ≤ q → U.heap[q]? = s.heap[q]?) (h : xe B s) : xe B U := by
  refine ⟨vx_Zq.moved hW.alike (h.1.kept hk), vx_Zq.moved hW.alike (h.2.1.kept hk), fun E hE => va_Nw.warmC hW (h.2.2.1 E hE), va_Nw.warmM hW h.2.2.2.1, va_Nw.warmM hW h.2.2.2.2.1, fun q hq => ?_, h.2.2.2.2.2.2.1.moved hW.alike, h.2.2.2.2.2.2.2.1.moved hW.alike, fun Y hY => va_tabs rfl (rfl : (s.setVm U.vm).vm = U.vm) (by rw [Cond.declares_setVm hW.alike]; exact h.2.2.2.2.2.2.2.2 Y hY)⟩
  obtain ⟨sa, z⟩ := h.2.2.2.2.2.1 q hq
  exact ⟨sa, vk_R.warm hW z⟩
/-- the machine at pc with these locals and this stack, in ANY heap that holds the world ws, comes to Q -/
def jj (p : Program) (l : Launch) (e : Env) (R : Room) (s : State) (m : MethodId) (args : Array Value) (below : List Frame) (meth : Method) (c : Code) (Q : State → Prop) (D : va_G) (cl : List vw_C) (tys : List (ClassId × FieldType)) (A : Nat → Prop) (n : Nat) (ws : va_W) (k w pc : Nat) (lv : List (Nat × Value)) (st : List Value) : Prop :=
  ∀ (H : Heap) (locs : List Loc) (ls : Array Slot), va_P D cl ws H → va_D A ws → va_S A s.heap H locs → lk ls n lv → W p l e R s m args below meth c H locs k w Q (F0 m pc ls st)
/-- what holds all along a method -/
def jc (p : Program) (s : State) (m : MethodId) (args : Array Value) (c : Code) (D : va_G) (cl : List vw_C) (tys : List (ClassId × FieldType)) (A : Nat → Prop) (n : Nat) (cc : ByteArray) (own : String) (Ts : List Cond) : Prop :=
  p.tables.exec = Jvm.exec ∧ c.code = cc ∧ c.maxLocals = n ∧ s.vm.findClass own = some m.cls ∧ (∀ w ∈ Ts, w.before args s = true) ∧ va_K D cl tys s ∧ (∀ q, s.heap.size ≤ q → A q) ∧ ∃ B : Nat, B ≤ s.heap.size ∧ (∀ q, A q → B ≤ q) ∧ xe B s
variable {p : Program} {l : Launch} {e : Env} {R : Room} {s : State} {m : MethodId} {args : Array Value} {below : List Frame} {meth : Method} {c : Code} {Q : State → Prop} {D : va_G} {cl : List vw_C} {tys : List (ClassId × FieldType)} {A : Nat → Prop} {n : Nat} {cc : ByteArray} {own : String} {Ts : List Cond} {ws : va_W} {k w pc : Nat} {lv : List (Nat × Value)} {st : List Value}
theorem jj_to {l1 : List (Nat × Value)} (h : jj p l e R s m args below meth c Q D cl tys A n ws k w pc l1 st) (hs : lsub l1 lv) : jj p l e R s m args below meth c Q D cl tys A n ws k w pc lv st := fun H locs ls hP hD hS hl => h H locs ls hP hD hS (lk_sub hl hs)
theorem jj_wide {k1 w1 : Nat} (h1 : k ≤ k1) (h2 : w ≤ w1) (h : jj p l e R s m args below meth c Q D cl tys A n ws k1 w1 pc lv st) : jj p l e R s m args below meth c Q D cl tys A n ws k w pc lv st := fun H locs ls hP hD hS hl => W.widen h1 h2 (h H locs ls hP hD hS hl)
theorem jj_ws {ws1 : va_W} (e1 : ws = ws1) (h : jj p l e R s m args below meth c Q D cl tys A n ws1 k w pc lv st) : jj p l e R s m args below meth c Q D cl tys A n ws k w pc lv st := by subst e1; exact h
theorem j_iconst (h : jc p s m args c D cl tys A n cc own Ts) {x : Int} {v : Int32} (hd : decode cc pc = .ok (.iconst x, 1)) (hv : Int32.ofInt x = v) (kk : jj p l e R s m args below meth c Q D cl tys A n ws k w (pc + 1) lv (.int v :: st)) : jj p l e R s m args below meth c Q D cl tys A n ws k w pc lv (st) := by
  intro H locs ls hP hD hS hl
  exact lv_iconst h.1 h.2.1 hd hv (kk H locs ls hP hD hS hl)
theorem j_bipush (h : jc p s m args c D cl tys A n cc own Ts) {x : Int} {v : Int32} (hd : decode cc pc = .ok (.bipush x, 2)) (hv : (Int8.ofInt x).toInt32 = v) (kk : jj p l e R s m args below meth c Q D cl tys A n ws k w (pc + 2) lv (.int v :: st)) : jj p l e R s m args below meth c Q D cl tys A n ws k w pc lv (st) := by
  intro H locs ls hP hD hS hl
  exact lv_bipush h.1 h.2.1 hd hv (kk H locs ls hP hD hS hl)
theorem j_sipush (h : jc p s m args c D cl tys A n cc own Ts) {x : Int} {v : Int32} (hd : decode cc pc = .ok (.sipush x, 3)) (hv : (Int16.ofInt x).toInt32 = v) (kk : jj p l e R s m args below meth c Q D cl tys A n ws k w (pc + 3) lv (.int v :: st)) : jj p l e R s m args below meth c Q D cl tys A n ws k w pc lv (st) := by
  intro H locs ls hP hD hS hl
  exact lv_sipush h.1 h.2.1 hd hv (kk H locs ls hP hD hS hl)
theorem j_iload_n (h : jc p s m args c D cl tys A n cc own Ts) {i : Fin 4} {x : Int32} (hd : decode cc pc = .ok (.iload_n i, 1)) (hg : lget lv i = some (.int x)) (kk : jj p l e R s m args below meth c Q D cl tys A n ws k w (pc + 1) lv (.int x :: st)) : jj p l e R s m args below meth c Q D cl tys A n ws k w pc lv (st) := by
  intro H locs ls hP hD hS hl
  exact lv_iload_n h.1 h.2.1 hd rfl (lk_at hl hg) (kk H locs ls hP hD hS hl)
theorem j_iload (h : jc p s m args c D cl tys A n cc own Ts) {i : Nat} {x : Int32} (hd : decode cc pc = .ok (.iload i, 2)) (hg : lget lv i = some (.int x)) (kk : jj p l e R s m args below meth c Q D cl tys A n ws k w (pc + 2) lv (.int x :: st)) : jj p l e R s m args below meth c Q D cl tys A n ws k w pc lv (st) := by
  intro H locs ls hP hD hS hl
  exact lv_iload h.1 h.2.1 hd (lk_at hl hg) (kk H locs ls hP hD hS hl)
theorem j_aload_n (h : jc p s m args c D cl tys A n cc own Ts) {i : Fin 4} {v : Value} (hd : decode cc pc = .ok (.aload_n i, 1)) (hg : lget lv i = some v) (hv : v = .null ∨ ∃ a, v = .ref a) (kk : jj p l e R s m args below meth c Q D cl tys A n ws k w (pc + 1) lv (v :: st)) : jj p l e R s m args below meth c Q D cl tys A n ws k w pc lv st := by
  intro H locs ls hP hD hS hl
  rcases hv with rfl | ⟨a, rfl⟩
  · exact lv_aload_nN h.1 h.2.1 hd rfl (lk_at hl hg) (kk H locs ls hP hD hS hl)
  · exact lv_aload_n h.1 h.2.1 hd rfl (lk_at hl hg) (kk H locs ls hP hD hS hl)
theorem j_aload_nR (h : jc p s m args c D cl tys A n cc own Ts) {i : Fin 4} {a : Nat} (hd : decode cc pc = .ok (.aload_n i, 1)) (hg : lget lv i = some (.ref a)) (kk : jj p l e R s m args below meth c Q D cl tys A n ws k w (pc + 1) lv (.ref a :: st)) : jj p l e R s m args below meth c Q D cl tys A n ws k w pc lv st := j_aload_n h hd hg (Or.inr ⟨a, rfl⟩) kk
theorem j_aload (h : jc p s m args c D cl tys A n cc own Ts) {i : Nat} {v : Value} (hd : decode cc pc = .ok (.aload i, 2)) (hg : lget lv i = some v) (hv : v = .null ∨ ∃ a, v = .ref a) (kk : jj p l e R s m args below meth c Q D cl tys A n ws k w (pc + 2) lv (v :: st)) : jj p l e R s m args below meth c Q D cl tys A n ws k w pc lv st := by
  intro H locs ls hP hD hS hl
  rcases hv with rfl | ⟨a, rfl⟩
  · exact lv_aloadN h.1 h.2.1 hd (lk_at hl hg) (kk H locs ls hP hD hS hl)
  · exact lv_aload h.1 h.2.1 hd (lk_at hl hg) (kk H locs ls hP hD hS hl)
theorem j_aloadR (h : jc p s m args c D cl tys A n cc own Ts) {i : Nat} {a : Nat} (hd : decode cc pc = .ok (.aload i, 2)) (hg : lget lv i = some (.ref a)) (kk : jj p l e R s m args below meth c Q D cl tys A n ws k w (pc + 2) lv (.ref a :: st)) : jj p l e R s m args below meth c Q D cl tys A n ws k w pc lv st := j_aload h hd hg (Or.inr ⟨a, rfl⟩) kk
theorem j_iadd (h : jc p s m args c D cl tys A n cc own Ts) {x y : Int32} (hd : decode cc pc = .ok (.iadd, 1)) (kk : jj p l e R s m args below meth c Q D cl tys A n ws k w (pc + 1) lv (.int (x + y) :: st)) : jj p l e R s m args below meth c Q D cl tys A n ws k w pc lv (.int y :: .int x :: st) := by
  intro H locs ls hP hD hS hl
  exact lv_iadd h.1 h.2.1 hd (kk H locs ls hP hD hS hl)
theorem j_isub (h : jc p s m args c D cl tys A n cc own Ts) {x y : Int32} (hd : decode cc pc = .ok (.isub, 1)) (kk : jj p l e R s m args below meth c Q D cl tys A n ws k w (pc + 1) lv (.int (x - y) :: st)) : jj p l e R s m args below meth c Q D cl tys A n ws k w pc lv (.int y :: .int x :: st) := by
  intro H locs ls hP hD hS hl
  exact lv_isub h.1 h.2.1 hd (kk H locs ls hP hD hS hl)
theorem j_imul (h : jc p s m args c D cl tys A n cc own Ts) {x y : Int32} (hd : decode cc pc = .ok (.imul, 1)) (kk : jj p l e R s m args below meth c Q D cl tys A n ws k w (pc + 1) lv (.int (x * y) :: st)) : jj p l e R s m args below meth c Q D cl tys A n ws k w pc lv (.int y :: .int x :: st) := by
  intro H locs ls hP hD hS hl
  exact lv_imul h.1 h.2.1 hd (kk H locs ls hP hD hS hl)
theorem j_iand (h : jc p s m args c D cl tys A n cc own Ts) {x y : Int32} (hd : decode cc pc = .ok (.iand, 1)) (kk : jj p l e R s m args below meth c Q D cl tys A n ws k w (pc + 1) lv (.int (x &&& y) :: st)) : jj p l e R s m args below meth c Q D cl tys A n ws k w pc lv (.int y :: .int x :: st) := by
  intro H locs ls hP hD hS hl
  exact lv_iand h.1 h.2.1 hd (kk H locs ls hP hD hS hl)
theorem j_ior (h : jc p s m args c D cl tys A n cc own Ts) {x y : Int32} (hd : decode cc pc = .ok (.ior, 1)) (kk : jj p l e R s m args below meth c Q D cl tys A n ws k w (pc + 1) lv (.int (x ||| y) :: st)) : jj p l e R s m args below meth c Q D cl tys A n ws k w pc lv (.int y :: .int x :: st) := by
  intro H locs ls hP hD hS hl
  exact lv_ior h.1 h.2.1 hd (kk H locs ls hP hD hS hl)
theorem j_ishl (h : jc p s m args c D cl tys A n cc own Ts) {x y : Int32} (hd : decode cc pc = .ok (.ishl, 1)) (kk : jj p l e R s m args below meth c Q D cl tys A n ws k w (pc + 1) lv (.int (x <<< (y &&& 31)) :: st)) : jj p l e R s m args below meth c Q D cl tys A n ws k w pc lv (.int y :: .int x :: st) := by
  intro H locs ls hP hD hS hl
  exact lv_ishl h.1 h.2.1 hd (kk H locs ls hP hD hS hl)
theorem j_ishr (h : jc p s m args c D cl tys A n cc own Ts) {x y : Int32} (hd : decode cc pc = .ok (.ishr, 1)) (kk : jj p l e R s m args below meth c Q D cl tys A n ws k w (pc + 1) lv (.int (x >>> (y &&& 31)) :: st)) : jj p l e R s m args below meth c Q D cl tys A n ws k w pc lv (.int y :: .int x :: st) := by
  intro H locs ls hP hD hS hl
  exact lv_ishr h.1 h.2.1 hd (kk H locs ls hP hD hS hl)
theorem j_ineg (h : jc p s m args c D cl tys A n cc own Ts) {x : Int32} (hd : decode cc pc = .ok (.ineg, 1)) (kk : jj p l e R s m args below meth c Q D cl tys A n ws k w (pc + 1) lv (.int (-x) :: st)) : jj p l e R s m args below meth c Q D cl tys A n ws k w pc lv (.int x :: st) := by
  intro H locs ls hP hD hS hl
  exact lv_ineg h.1 h.2.1 hd (kk H locs ls hP hD hS hl)
theorem j_idiv (h : jc p s m args c D cl tys A n cc own Ts) {x y : Int32} (hd : decode cc pc = .ok (.idiv, 1)) (hy : y ≠ 0) (kk : jj p l e R s m args below meth c Q D cl tys A n ws k w (pc + 1) lv (.int (x / y) :: st)) : jj p l e R s m args below meth c Q D cl tys A n ws k w pc lv (.int y :: .int x :: st) := by
  intro H locs ls hP hD hS hl
  exact lv_idiv h.1 h.2.1 hd hy (kk H locs ls hP hD hS hl)
theorem j_dup (h : jc p s m args c D cl tys A n cc own Ts) {v : Value} (hd : decode cc pc = .ok (.dup, 1)) (hv : v.category = 1) (kk : jj p l e R s m args below meth c Q D cl tys A n ws k w (pc + 1) lv (v :: v :: st)) : jj p l e R s m args below meth c Q D cl tys A n ws k w pc lv (v :: st) := by
  intro H locs ls hP hD hS hl
  exact lv_dup h.1 h.2.1 hd hv (kk H locs ls hP hD hS hl)
theorem j_pop (h : jc p s m args c D cl tys A n cc own Ts) {v : Value} (hd : decode cc pc = .ok (.pop, 1)) (hv : v.category = 1) (kk : jj p l e R s m args below meth c Q D cl tys A n ws k w (pc + 1) lv (st)) : jj p l e R s m args below meth c Q D cl tys A n ws k w pc lv (v :: st) := by
  intro H locs ls hP hD hS hl
  exact lv_pop h.1 h.2.1 hd hv (kk H locs ls hP hD hS hl)
theorem j_dup_x1 (h : jc p s m args c D cl tys A n cc own Ts) {v u : Value} (hd : decode cc pc = .ok (.dup_x1, 1)) (hv : v.category = 1) (hu : u.category = 1) (kk : jj p l e R s m args below meth c Q D cl tys A n ws k w (pc + 1) lv (v :: u :: v :: st)) : jj p l e R s m args below meth c Q D cl tys A n ws k w pc lv (v :: u :: st) := by
  intro H locs ls hP hD hS hl
  exact lv_dup_x1 h.1 h.2.1 hd hv hu (kk H locs ls hP hD hS hl)
theorem j_dup2 (h : jc p s m args c D cl tys A n cc own Ts) {v u : Value} (hd : decode cc pc = .ok (.dup2, 1)) (hv : v.category = 1) (hu : u.category = 1) (kk : jj p l e R s m args below meth c Q D cl tys A n ws k w (pc + 1) lv (v :: u :: v :: u :: st)) : jj p l e R s m args below meth c Q D cl tys A n ws k w pc lv (v :: u :: st) := by
  intro H locs ls hP hD hS hl
  exact lv_dup2_11 h.1 h.2.1 hd hv hu (kk H locs ls hP hD hS hl)
theorem j_null (h : jc p s m args c D cl tys A n cc own Ts)  (hd : decode cc pc = .ok (.aconst_null, 1)) (kk : jj p l e R s m args below meth c Q D cl tys A n ws k w (pc + 1) lv (.null :: st)) : jj p l e R s m args below meth c Q D cl tys A n ws k w pc lv (st) := by
  intro H locs ls hP hD hS hl
  exact lv_null h.1 h.2.1 hd (kk H locs ls hP hD hS hl)
theorem j_goto (h : jc p s m args c D cl tys A n cc own Ts) {off : Int} {tgt : Nat} (hd : decode cc pc = .ok (.goto off, 3)) (ht : (pc : Int) + off = (tgt : Int)) (kk : jj p l e R s m args below meth c Q D cl tys A n ws k w (tgt) lv (st)) : jj p l e R s m args below meth c Q D cl tys A n ws k w pc lv (st) := by
  intro H locs ls hP hD hS hl
  exact lv_goto h.1 h.2.1 hd ht (kk H locs ls hP hD hS hl)
theorem j_icmp_eq (h : jc p s m args c D cl tys A n cc own Ts) {x y : Int32} {off : Int} {tgt : Nat} (hd : decode cc pc = .ok (.if_icmp .eq off, 3)) (ht : (pc : Int) + off = (tgt : Int)) (kt : x = y → jj p l e R s m args below meth c Q D cl tys A n ws k w tgt lv st) (kf : ¬ x = y → jj p l e R s m args below meth c Q D cl tys A n ws k w (pc + 3) lv st) : jj p l e R s m args below meth c Q D cl tys A n ws k w pc lv (.int y :: .int x :: st) := by
  intro H locs ls hP hD hS hl
  exact lv_icmp_eq h.1 h.2.1 hd ht (fun q => kt q H locs ls hP hD hS hl) (fun q => kf q H locs ls hP hD hS hl)
theorem j_if_eq (h : jc p s m args c D cl tys A n cc own Ts) {x : Int32} {off : Int} {tgt : Nat} (hd : decode cc pc = .ok (.ifCond .eq off, 3)) (ht : (pc : Int) + off = (tgt : Int)) (kt : x = 0 → jj p l e R s m args below meth c Q D cl tys A n ws k w tgt lv st) (kf : ¬ x = 0 → jj p l e R s m args below meth c Q D cl tys A n ws k w (pc + 3) lv st) : jj p l e R s m args below meth c Q D cl tys A n ws k w pc lv (.int x :: st) := by
  intro H locs ls hP hD hS hl
  exact lv_if_eq h.1 h.2.1 hd ht (fun q => kt q H locs ls hP hD hS hl) (fun q => kf q H locs ls hP hD hS hl)
theorem j_icmp_ne (h : jc p s m args c D cl tys A n cc own Ts) {x y : Int32} {off : Int} {tgt : Nat} (hd : decode cc pc = .ok (.if_icmp .ne off, 3)) (ht : (pc : Int) + off = (tgt : Int)) (kt : ¬ x = y → jj p l e R s m args below meth c Q D cl tys A n ws k w tgt lv st) (kf : x = y → jj p l e R s m args below meth c Q D cl tys A n ws k w (pc + 3) lv st) : jj p l e R s m args below meth c Q D cl tys A n ws k w pc lv (.int y :: .int x :: st) := by
  intro H locs ls hP hD hS hl
  exact lv_icmp_ne h.1 h.2.1 hd ht (fun q => kt q H locs ls hP hD hS hl) (fun q => kf q H locs ls hP hD hS hl)
theorem j_if_ne (h : jc p s m args c D cl tys A n cc own Ts) {x : Int32} {off : Int} {tgt : Nat} (hd : decode cc pc = .ok (.ifCond .ne off, 3)) (ht : (pc : Int) + off = (tgt : Int)) (kt : ¬ x = 0 → jj p l e R s m args below meth c Q D cl tys A n ws k w tgt lv st) (kf : x = 0 → jj p l e R s m args below meth c Q D cl tys A n ws k w (pc + 3) lv st) : jj p l e R s m args below meth c Q D cl tys A n ws k w pc lv (.int x :: st) := by
  intro H locs ls hP hD hS hl
  exact lv_if_ne h.1 h.2.1 hd ht (fun q => kt q H locs ls hP hD hS hl) (fun q => kf q H locs ls hP hD hS hl)
theorem j_icmp_lt (h : jc p s m args c D cl tys A n cc own Ts) {x y : Int32} {off : Int} {tgt : Nat} (hd : decode cc pc = .ok (.if_icmp .lt off, 3)) (ht : (pc : Int) + off = (tgt : Int)) (kt : x < y → jj p l e R s m args below meth c Q D cl tys A n ws k w tgt lv st) (kf : ¬ x < y → jj p l e R s m args below meth c Q D cl tys A n ws k w (pc + 3) lv st) : jj p l e R s m args below meth c Q D cl tys A n ws k w pc lv (.int y :: .int x :: st) := by
  intro H locs ls hP hD hS hl
  exact lv_icmp_lt h.1 h.2.1 hd ht (fun q => kt q H locs ls hP hD hS hl) (fun q => kf q H locs ls hP hD hS hl)
theorem j_if_lt (h : jc p s m args c D cl tys A n cc own Ts) {x : Int32} {off : Int} {tgt : Nat} (hd : decode cc pc = .ok (.ifCond .lt off, 3)) (ht : (pc : Int) + off = (tgt : Int)) (kt : x < 0 → jj p l e R s m args below meth c Q D cl tys A n ws k w tgt lv st) (kf : ¬ x < 0 → jj p l e R s m args below meth c Q D cl tys A n ws k w (pc + 3) lv st) : jj p l e R s m args below meth c Q D cl tys A n ws k w pc lv (.int x :: st) := by
  intro H locs ls hP hD hS hl
  exact lv_if_lt h.1 h.2.1 hd ht (fun q => kt q H locs ls hP hD hS hl) (fun q => kf q H locs ls hP hD hS hl)
theorem j_icmp_ge (h : jc p s m args c D cl tys A n cc own Ts) {x y : Int32} {off : Int} {tgt : Nat} (hd : decode cc pc = .ok (.if_icmp .ge off, 3)) (ht : (pc : Int) + off = (tgt : Int)) (kt : y ≤ x → jj p l e R s m args below meth c Q D cl tys A n ws k w tgt lv st) (kf : ¬ y ≤ x → jj p l e R s m args below meth c Q D cl tys A n ws k w (pc + 3) lv st) : jj p l e R s m args below meth c Q D cl tys A n ws k w pc lv (.int y :: .int x :: st) := by
  intro H locs ls hP hD hS hl
  exact lv_icmp_ge h.1 h.2.1 hd ht (fun q => kt q H locs ls hP hD hS hl) (fun q => kf q H locs ls hP hD hS hl)
theorem j_if_ge (h : jc p s m args c D cl tys A n cc own Ts) {x : Int32} {off : Int} {tgt : Nat} (hd : decode cc pc = .ok (.ifCond .ge off, 3)) (ht : (pc : Int) + off = (tgt : Int)) (kt : 0 ≤ x → jj p l e R s m args below meth c Q D cl tys A n ws k w tgt lv st) (kf : ¬ 0 ≤ x → jj p l e R s m args below meth c Q D cl tys A n ws k w (pc + 3) lv st) : jj p l e R s m args below meth c Q D cl tys A n ws k w pc lv (.int x :: st) := by
  intro H locs ls hP hD hS hl
  exact lv_if_ge h.1 h.2.1 hd ht (fun q => kt q H locs ls hP hD hS hl) (fun q => kf q H locs ls hP hD hS hl)
theorem j_icmp_gt (h : jc p s m args c D cl tys A n cc own Ts) {x y : Int32} {off : Int} {tgt : Nat} (hd : decode cc pc = .ok (.if_icmp .gt off, 3)) (ht : (pc : Int) + off = (tgt : Int)) (kt : y < x → jj p l e R s m args below meth c Q D cl tys A n ws k w tgt lv st) (kf : ¬ y < x → jj p l e R s m args below meth c Q D cl tys A n ws k w (pc + 3) lv st) : jj p l e R s m args below meth c Q D cl tys A n ws k w pc lv (.int y :: .int x :: st) := by
  intro H locs ls hP hD hS hl
  exact lv_icmp_gt h.1 h.2.1 hd ht (fun q => kt q H locs ls hP hD hS hl) (fun q => kf q H locs ls hP hD hS hl)
theorem j_if_gt (h : jc p s m args c D cl tys A n cc own Ts) {x : Int32} {off : Int} {tgt : Nat} (hd : decode cc pc = .ok (.ifCond .gt off, 3)) (ht : (pc : Int) + off = (tgt : Int)) (kt : 0 < x → jj p l e R s m args below meth c Q D cl tys A n ws k w tgt lv st) (kf : ¬ 0 < x → jj p l e R s m args below meth c Q D cl tys A n ws k w (pc + 3) lv st) : jj p l e R s m args below meth c Q D cl tys A n ws k w pc lv (.int x :: st) := by
  intro H locs ls hP hD hS hl
  exact lv_if_gt h.1 h.2.1 hd ht (fun q => kt q H locs ls hP hD hS hl) (fun q => kf q H locs ls hP hD hS hl)
theorem j_icmp_le (h : jc p s m args c D cl tys A n cc own Ts) {x y : Int32} {off : Int} {tgt : Nat} (hd : decode cc pc = .ok (.if_icmp .le off, 3)) (ht : (pc : Int) + off = (tgt : Int)) (kt : x ≤ y → jj p l e R s m args below meth c Q D cl tys A n ws k w tgt lv st) (kf : ¬ x ≤ y → jj p l e R s m args below meth c Q D cl tys A n ws k w (pc + 3) lv st) : jj p l e R s m args below meth c Q D cl tys A n ws k w pc lv (.int y :: .int x :: st) := by
  intro H locs ls hP hD hS hl
  exact lv_icmp_le h.1 h.2.1 hd ht (fun q => kt q H locs ls hP hD hS hl) (fun q => kf q H locs ls hP hD hS hl)
theorem j_if_le (h : jc p s m args c D cl tys A n cc own Ts) {x : Int32} {off : Int} {tgt : Nat} (hd : decode cc pc = .ok (.ifCond .le off, 3)) (ht : (pc : Int) + off = (tgt : Int)) (kt : x ≤ 0 → jj p l e R s m args below meth c Q D cl tys A n ws k w tgt lv st) (kf : ¬ x ≤ 0 → jj p l e R s m args below meth c Q D cl tys A n ws k w (pc + 3) lv st) : jj p l e R s m args below meth c Q D cl tys A n ws k w pc lv (.int x :: st) := by
  intro H locs ls hP hD hS hl
  exact lv_if_le h.1 h.2.1 hd ht (fun q => kt q H locs ls hP hD hS hl) (fun q => kf q H locs ls hP hD hS hl)
theorem j_ifnullN (h : jc p s m args c D cl tys A n cc own Ts) {off : Int} {tgt : Nat} (hd : decode cc pc = .ok (.ifnull off, 3)) (ht : (pc : Int) + off = (tgt : Int)) (kk : jj p l e R s m args below meth c Q D cl tys A n ws k w tgt lv st) : jj p l e R s m args below meth c Q D cl tys A n ws k w pc lv (.null :: st) := by
  intro H locs ls hP hD hS hl
  exact lv_ifnullN h.1 h.2.1 hd ht (kk H locs ls hP hD hS hl)
theorem j_ifnonnullR (h : jc p s m args c D cl tys A n cc own Ts) {a : Nat} {off : Int} {tgt : Nat} (hd : decode cc pc = .ok (.ifnonnull off, 3)) (ht : (pc : Int) + off = (tgt : Int)) (kk : jj p l e R s m args below meth c Q D cl tys A n ws k w tgt lv st) : jj p l e R s m args below meth c Q D cl tys A n ws k w pc lv (.ref a :: st) := by
  intro H locs ls hP hD hS hl
  exact lv_ifnonnull h.1 h.2.1 hd ht (kk H locs ls hP hD hS hl)
theorem j_ifnullR (h : jc p s m args c D cl tys A n cc own Ts) {a : Nat} {off : Int} (hd : decode cc pc = .ok (.ifnull off, 3)) (kk : jj p l e R s m args below meth c Q D cl tys A n ws k w (pc + 3) lv st) : jj p l e R s m args below meth c Q D cl tys A n ws k w pc lv (.ref a :: st) := by
  intro H locs ls hP hD hS hl
  exact lv_ifnull h.1 h.2.1 hd (kk H locs ls hP hD hS hl)
theorem j_ifnonnullN (h : jc p s m args c D cl tys A n cc own Ts) {off : Int} (hd : decode cc pc = .ok (.ifnonnull off, 3)) (kk : jj p l e R s m args below meth c Q D cl tys A n ws k w (pc + 3) lv st) : jj p l e R s m args below meth c Q D cl tys A n ws k w pc lv (.null :: st) := by
  intro H locs ls hP hD hS hl
  exact lv_ifnonnullN h.1 h.2.1 hd (kk H locs ls hP hD hS hl)
theorem j_istore_n (h : jc p s m args c D cl tys A n cc own Ts) {i4 : Fin 4} (i : Nat) {x : Int32} (hd : decode cc pc = .ok (.istore_n i4, 1)) (hi4 : (i4 : Nat) = i) (hn : i < n) (kk : jj p l e R s m args below meth c Q D cl tys A n ws k w (pc + 1) ((i, .int x) :: lv) st) : jj p l e R s m args below meth c Q D cl tys A n ws k w pc lv (.int x :: st) := by
  intro H locs ls hP hD hS hl T hT X
  have hexec := h.1
  have hb := h.2.1
  subst hi4
  obtain ⟨ls', e', h'⟩ := lk_store (v := .int x) hl hn rfl
  obtain ⟨t, a, b⟩ := kk H locs ls' hP hD hS h' T hT X
  refine ⟨t, ?_, b⟩
  jvm_step X.here [X.here.top, ↓top_set X.here.top, hexec, hb, hd, e']
  exact a
theorem j_istore (h : jc p s m args c D cl tys A n cc own Ts) {i : Nat} {x : Int32} (hd : decode cc pc = .ok (.istore i, 2)) (hn : i < n) (kk : jj p l e R s m args below meth c Q D cl tys A n ws k w (pc + 2) ((i, .int x) :: lv) st) : jj p l e R s m args below meth c Q D cl tys A n ws k w pc lv (.int x :: st) := by
  intro H locs ls hP hD hS hl T hT X
  have hexec := h.1
  have hb := h.2.1

  obtain ⟨ls', e', h'⟩ := lk_store (v := .int x) hl hn rfl
  obtain ⟨t, a, b⟩ := kk H locs ls' hP hD hS h' T hT X
  refine ⟨t, ?_, b⟩
  jvm_step X.here [X.here.top, ↓top_set X.here.top, hexec, hb, hd, e']
  exact a
theorem j_astore_nR (h : jc p s m args c D cl tys A n cc own Ts) {i4 : Fin 4} (i : Nat) {a : Nat} (hd : decode cc pc = .ok (.astore_n i4, 1)) (hi4 : (i4 : Nat) = i) (hn : i < n) (kk : jj p l e R s m args below meth c Q D cl tys A n ws k w (pc + 1) ((i, .ref a) :: lv) st) : jj p l e R s m args below meth c Q D cl tys A n ws k w pc lv (.ref a :: st) := by
  intro H locs ls hP hD hS hl T hT X
  have hexec := h.1
  have hb := h.2.1
  subst hi4
  obtain ⟨ls', e', h'⟩ := lk_store (v := .ref a) hl hn rfl
  obtain ⟨t, a1, b⟩ := kk H locs ls' hP hD hS h' T hT X
  refine ⟨t, ?_, b⟩
  jvm_step X.here [X.here.top, ↓top_set X.here.top, hexec, hb, hd, e', Value.isRef]
  exact a1
theorem j_astore_nN (h : jc p s m args c D cl tys A n cc own Ts) {i4 : Fin 4} (i : Nat) (hd : decode cc pc = .ok (.astore_n i4, 1)) (hi4 : (i4 : Nat) = i) (hn : i < n) (kk : jj p l e R s m args below meth c Q D cl tys A n ws k w (pc + 1) ((i, .null) :: lv) st) : jj p l e R s m args below meth c Q D cl tys A n ws k w pc lv (.null :: st) := by
  intro H locs ls hP hD hS hl T hT X
  have hexec := h.1
  have hb := h.2.1
  subst hi4
  obtain ⟨ls', e', h'⟩ := lk_store (v := .null) hl hn rfl
  obtain ⟨t, a1, b⟩ := kk H locs ls' hP hD hS h' T hT X
  refine ⟨t, ?_, b⟩
  jvm_step X.here [X.here.top, ↓top_set X.here.top, hexec, hb, hd, e', Value.isRef]
  exact a1
theorem j_astoreR (h : jc p s m args c D cl tys A n cc own Ts) {i : Nat} {a : Nat} (hd : decode cc pc = .ok (.astore i, 2)) (hn : i < n) (kk : jj p l e R s m args below meth c Q D cl tys A n ws k w (pc + 2) ((i, .ref a) :: lv) st) : jj p l e R s m args below meth c Q D cl tys A n ws k w pc lv (.ref a :: st) := by
  intro H locs ls hP hD hS hl T hT X
  have hexec := h.1
  have hb := h.2.1

  obtain ⟨ls', e', h'⟩ := lk_store (v := .ref a) hl hn rfl
  obtain ⟨t, a1, b⟩ := kk H locs ls' hP hD hS h' T hT X
  refine ⟨t, ?_, b⟩
  jvm_step X.here [X.here.top, ↓top_set X.here.top, hexec, hb, hd, e', Value.isRef]
  exact a1
theorem j_astoreN (h : jc p s m args c D cl tys A n cc own Ts) {i : Nat} (hd : decode cc pc = .ok (.astore i, 2)) (hn : i < n) (kk : jj p l e R s m args below meth c Q D cl tys A n ws k w (pc + 2) ((i, .null) :: lv) st) : jj p l e R s m args below meth c Q D cl tys A n ws k w pc lv (.null :: st) := by
  intro H locs ls hP hD hS hl T hT X
  have hexec := h.1
  have hb := h.2.1

  obtain ⟨ls', e', h'⟩ := lk_store (v := .null) hl hn rfl
  obtain ⟨t, a1, b⟩ := kk H locs ls' hP hD hS h' T hT X
  refine ⟨t, ?_, b⟩
  jvm_step X.here [X.here.top, ↓top_set X.here.top, hexec, hb, hd, e', Value.isRef]
  exact a1
theorem j_iinc (h : jc p s m args c D cl tys A n cc own Ts) {i : Nat} {z : Int} {x v : Int32} (hd : decode cc pc = .ok (.iinc i z, 3)) (hg : lget lv i = some (.int x)) (hv : x + Int32.ofInt z = v) (hn : i < n) (kk : jj p l e R s m args below meth c Q D cl tys A n ws k w (pc + 3) ((i, .int v) :: lv) st) : jj p l e R s m args below meth c Q D cl tys A n ws k w pc lv st := by
  intro H locs ls hP hD hS hl T hT X
  have hexec := h.1
  have hb := h.2.1
  subst hv
  have hg' := lk_at hl hg
  obtain ⟨ls', e', h'⟩ := lk_store (v := .int (x + Int32.ofInt z)) hl hn rfl
  obtain ⟨t, a, b⟩ := kk H locs ls' hP hD hS h' T hT X
  refine ⟨t, ?_, b⟩
  jvm_step X.here [X.here.top, ↓top_set X.here.top, hexec, hb, hd, hg', e']
  exact a
theorem j_get (h : jc p s m args c D cl tys A n cc own Ts) {ref C : String} {T : u_T} {N ci index a : Nat} {fs : List Value} {v : Value} (q0 : Nat) (i : Nat) (hd : decode cc pc = .ok (.getfield index, 3)) (hin : ∀ x ∈ u_ws C T N, x ∈ Ts) (hc : cl[ci]? = some (C, T, N)) (hi : i < N) (hlink : Cond.fieldLink own index ref (T i).2.1 (T i).2.2.1 ∈ Ts) (hsame : ∀ x, s.fieldFound? (T i).1 (T i).2.1 (T i).2.2.1 = some x → s.fieldFound? ref (T i).2.1 (T i).2.2.1 = some x) (he : ws[q0]? = some (a, .inr (ci, fs))) (hv : fs[i]? = some v) (kk : jj p l e R s m args below meth c Q D cl tys A n ws k w (pc + 3) lv (v :: st)) : jj p l e R s m args below meth c Q D cl tys A n ws k w pc lv (.ref a :: st) := by
  intro H locs ls hP hD hS hl
  exact va_get h.1 h.2.1 h.2.2.2.2.1 hin h.2.2.2.1 h.2.2.2.2.2.1 hP q0 he hc i hi (h.2.2.2.2.1 _ hlink) hsame hv hd (kk H locs ls hP hD hS hl)
theorem j_put (h : jc p s m args c D cl tys A n cc own Ts) {ref C : String} {T : u_T} {N ci index a : Nat} {fs : List Value} {v : Value} {ty : FieldType} (q0 : Nat) (i : Nat) (ty0 : Nat → FieldType) (hty : ∀ j, j < N → parseFieldDescriptor (T j).2.2.1 = some (ty0 j)) (hnm : ∀ x, x < N → ∀ y, y < N → x ≠ y → (T x).2.1 ≠ (T y).2.1) (hd : decode cc pc = .ok (.putfield index, 3)) (hin : ∀ x ∈ u_ws C T N, x ∈ Ts) (hc : cl[ci]? = some (C, T, N)) (hi : i < N) (hlink : Cond.fieldLink own index ref (T i).2.1 (T i).2.2.1 ∈ Ts) (hsame : ∀ x, s.fieldFound? (T i).1 (T i).2.1 (T i).2.2.1 = some x → s.fieldFound? ref (T i).2.1 (T i).2.2.1 = some x) (hfin : (T i).2.2.2 = false) (hpd : parseFieldDescriptor (T i).2.2.1 = some ty) (hna : narrow ty v = v) (hfit : fits ty v = true) (he : ws[q0]? = some (a, .inr (ci, fs))) (hfl : i < fs.length) (kk : jj p l e R s m args below meth c Q D cl tys A n (ws.set q0 (a, .inr (ci, fs.set i v))) k w (pc + 3) lv st) : jj p l e R s m args below meth c Q D cl tys A n ws k w pc lv (v :: .ref a :: st) := by
  intro H locs ls hP hD hS hl
  exact va_put h.1 h.2.1 h.2.2.2.2.1 hin ty0 hty hnm h.2.2.2.1 h.2.2.2.2.2.1 hP hD hS q0 he hc i hi (h.2.2.2.2.1 _ hlink) hsame hfin hpd hna hfit hfl hd (fun H1 locs1 hP1 hD1 hS1 => kk H1 locs1 ls hP1 hD1 hS1 hl)
theorem j_iald (h : jc p s m args c D cl tys A n cc own Ts) {a : Nat} {cA : ClassId} {z : Nat} {f : Nat → Int32} (q0 t0 : Nat) {i : Int32} (hd : decode cc pc = .ok (.iaload, 1)) (he : ws[q0]? = some (a, .inl (cA, z, .inl f))) (ht : tys[t0]? = some (cA, .int)) (hin : vp_in i z) (kk : jj p l e R s m args below meth c Q D cl tys A n ws k w (pc + 1) lv (.int (f i.toNatClampNeg) :: st)) : jj p l e R s m args below meth c Q D cl tys A n ws k w pc lv (.int i :: .ref a :: st) := by
  intro H locs ls hP hD hS hl
  exact va_iald h.1 h.2.1 h.2.2.2.2.2.1 hP q0 t0 he ht hin hd (kk H locs ls hP hD hS hl)
theorem j_iast (h : jc p s m args c D cl tys A n cc own Ts) {a : Nat} {cA : ClassId} {z : Nat} {f : Nat → Int32} (q0 t0 : Nat) {i x : Int32} (hd : decode cc pc = .ok (.iastore, 1)) (he : ws[q0]? = some (a, .inl (cA, z, .inl f))) (ht : tys[t0]? = some (cA, .int)) (hin : vp_in i z) (kk : jj p l e R s m args below meth c Q D cl tys A n (ws.set q0 (a, .inl (cA, z, .inl (upd f i.toNatClampNeg x)))) k w (pc + 1) lv st) : jj p l e R s m args below meth c Q D cl tys A n ws k w pc lv (.int x :: .int i :: .ref a :: st) := by
  intro H locs ls hP hD hS hl
  exact va_iast h.1 h.2.1 h.2.2.2.2.2.1 hP hD hS q0 t0 he ht hin hd (fun H1 locs1 hP1 hD1 hS1 => kk H1 locs1 ls hP1 hD1 hS1 hl)
theorem j_aaldq (h : jc p s m args c D cl tys A n cc own Ts) {a : Nat} {cA : ClassId} {C : String} {z : Nat} {f : Nat → Option Nat} (q0 t0 : Nat) {i : Int32} (hd : decode cc pc = .ok (.aaload, 1)) (he : ws[q0]? = some (a, .inl (cA, z, .inr (.inr (.inr (.inr f)))))) (ht : tys[t0]? = some (cA, .object C)) (hin : vp_in i z) (kk : jj p l e R s m args below meth c Q D cl tys A n ws k w (pc + 1) lv (va_rf (f i.toNatClampNeg) :: st)) : jj p l e R s m args below meth c Q D cl tys A n ws k w pc lv (.int i :: .ref a :: st) := by
  intro H locs ls hP hD hS hl
  exact va_aldq h.1 h.2.1 h.2.2.2.2.2.1 hP q0 t0 he ht hin hd (kk H locs ls hP hD hS hl)
theorem j_aast (h : jc p s m args c D cl tys A n cc own Ts) {a v : Nat} {cA : ClassId} {r : vw_C} {z ci : Nat} {vs : List Value} {f : Nat → Option Nat} (q0 t0 qk : Nat) {i : Int32} (hd : decode cc pc = .ok (.aastore, 1)) (he : ws[q0]? = some (a, .inl (cA, z, .inr (.inr (.inr (.inr f)))))) (ht : tys[t0]? = some (cA, .object r.1)) (hv : ws[qk]? = some (v, .inr (ci, vs))) (hc : cl[ci]? = some r) (hin : vp_in i z) (kk : jj p l e R s m args below meth c Q D cl tys A n (ws.set q0 (a, .inl (cA, z, .inr (.inr (.inr (.inr (va_up f i.toNatClampNeg (some v)))))))) k w (pc + 1) lv st) : jj p l e R s m args below meth c Q D cl tys A n ws k w pc lv (.ref v :: .int i :: .ref a :: st) := by
  intro H locs ls hP hD hS hl
  exact va_astq h.1 h.2.1 h.2.2.2.2.2.1 hP hD hS q0 t0 qk ci he ht hv hc hin hd (fun H1 locs1 hP1 hD1 hS1 => kk H1 locs1 ls hP1 hD1 hS1 hl)
theorem j_aastN (h : jc p s m args c D cl tys A n cc own Ts) {a : Nat} {cA : ClassId} {C : String} {z : Nat} {f : Nat → Option Nat} (q0 t0 : Nat) {i : Int32} (hd : decode cc pc = .ok (.aastore, 1)) (he : ws[q0]? = some (a, .inl (cA, z, .inr (.inr (.inr (.inr f)))))) (ht : tys[t0]? = some (cA, .object C)) (hin : vp_in i z) (kk : jj p l e R s m args below meth c Q D cl tys A n (ws.set q0 (a, .inl (cA, z, .inr (.inr (.inr (.inr (va_up f i.toNatClampNeg none))))))) k w (pc + 1) lv st) : jj p l e R s m args below meth c Q D cl tys A n ws k w pc lv (.null :: .int i :: .ref a :: st) := by
  intro H locs ls hP hD hS hl
  exact va_astqN h.1 h.2.1 h.2.2.2.2.2.1 hP hD hS q0 t0 he ht hin hd (fun H1 locs1 hP1 hD1 hS1 => kk H1 locs1 ls hP1 hD1 hS1 hl)
theorem j_alen (h : jc p s m args c D cl tys A n cc own Ts) {a : Nat} {cA : ClassId} {x : vp_A} {ty : FieldType} {v : Int32} (q0 t0 : Nat) (hd : decode cc pc = .ok (.arraylength, 1)) (he : ws[q0]? = some (a, .inl (cA, x))) (ht : tys[t0]? = some (cA, ty)) (hv : Int32.ofNat x.1 = v) (kk : jj p l e R s m args below meth c Q D cl tys A n ws k w (pc + 1) lv (.int v :: st)) : jj p l e R s m args below meth c Q D cl tys A n ws k w pc lv (.ref a :: st) := by
  intro H locs ls hP hD hS hl
  exact va_alen h.1 h.2.1 h.2.2.2.2.2.1 hP q0 t0 he ht hv hd (kk H locs ls hP hD hS hl)
theorem j_acmp_eq (h : jc p s m args c D cl tys A n cc own Ts) {a b : Nat} {x y : va_E} (q1 q2 : Nat) {off : Int} {tgt : Nat} (hd : decode cc pc = .ok (.if_acmp .eq off, 3)) (ht : (pc : Int) + off = (tgt : Int)) (h1 : ws[q1]? = some (a, x)) (h2 : ws[q2]? = some (b, y)) (kt : q1 = q2 → jj p l e R s m args below meth c Q D cl tys A n ws k w tgt lv st) (kf : ¬ q1 = q2 → jj p l e R s m args below meth c Q D cl tys A n ws k w (pc + 3) lv st) : jj p l e R s m args below meth c Q D cl tys A n ws k w pc lv (.ref b :: .ref a :: st) := by
  intro H locs ls hP hD hS hl
  have key : (some a = some b) ↔ q1 = q2 := ⟨fun z => hD.1 q1 q2 _ _ h1 h2 (Option.some.inj z), fun z => by subst z; rw [h1] at h2; cases h2; rfl⟩
  exact lv_acmp_eq (rx := some a) (ry := some b) h.1 h.2.1 hd ht (fun z => kt (by first | exact key.mp z | exact fun u => z (key.mpr u)) H locs ls hP hD hS hl) (fun z => kf (by first | exact key.mp z | exact fun u => z (key.mpr u)) H locs ls hP hD hS hl)
theorem j_acmp_ne (h : jc p s m args c D cl tys A n cc own Ts) {a b : Nat} {x y : va_E} (q1 q2 : Nat) {off : Int} {tgt : Nat} (hd : decode cc pc = .ok (.if_acmp .ne off, 3)) (ht : (pc : Int) + off = (tgt : Int)) (h1 : ws[q1]? = some (a, x)) (h2 : ws[q2]? = some (b, y)) (kt : ¬ q1 = q2 → jj p l e R s m args below meth c Q D cl tys A n ws k w tgt lv st) (kf : q1 = q2 → jj p l e R s m args below meth c Q D cl tys A n ws k w (pc + 3) lv st) : jj p l e R s m args below meth c Q D cl tys A n ws k w pc lv (.ref b :: .ref a :: st) := by
  intro H locs ls hP hD hS hl
  have key : (some a = some b) ↔ q1 = q2 := ⟨fun z => hD.1 q1 q2 _ _ h1 h2 (Option.some.inj z), fun z => by subst z; rw [h1] at h2; cases h2; rfl⟩
  exact lv_acmp_ne (rx := some a) (ry := some b) h.1 h.2.1 hd ht (fun z => kt (by first | exact key.mp z | exact fun u => z (key.mpr u)) H locs ls hP hD hS hl) (fun z => kf (by first | exact key.mp z | exact fun u => z (key.mpr u)) H locs ls hP hD hS hl)
/-- contracts of methods that answer in the same world's cells -/
def ctP (D : va_G) (cl : List vw_C) (tys : List (ClassId × FieldType)) (ws : va_W) (B sz : Nat) (U : State) : Prop := U.heap.size = sz ∧ va_P D cl ws U.heap ∧ va_K D cl tys U ∧ va_D (fun q => B ≤ q) ws ∧ B ≤ sz ∧ xe B U
def ctB (D : va_G) (cl : List vw_C) (tys : List (ClassId × FieldType)) (A : Nat → Prop) (ws' : va_W) (t : State) : Prop := va_P D cl ws' t.heap ∧ va_K D cl tys t ∧ va_D A ws'
def ctI (l : Launch) (D : va_G) (cl : List vw_C) (tys : List (ClassId × FieldType)) (y : MethodName) (wd : List Cond) (rm : Room) (av : List Value) (ws : va_W) (post : Int32 → va_W → Prop) (mc ms : Nat) : Prop := ∀ B sz : Nat, Met l y wd rm (va_Pc av (ctP D cl tys ws B sz)) (va_Qi post (ctB D cl tys (va_A ws sz)) (va_A ws sz)) mc ms (va_A ws sz)
def ctV (l : Launch) (D : va_G) (cl : List vw_C) (tys : List (ClassId × FieldType)) (y : MethodName) (wd : List Cond) (rm : Room) (av : List Value) (ws : va_W) (post : va_W → Prop) (mc ms : Nat) : Prop := ∀ B sz : Nat, Met l y wd rm (va_Pc av (ctP D cl tys ws B sz)) (va_Qv post (ctB D cl tys (va_A ws sz)) (va_A ws sz)) mc ms (va_A ws sz)
def ctQ (l : Launch) (D : va_G) (cl : List vw_C) (tys : List (ClassId × FieldType)) (y : MethodName) (wd : List Cond) (rm : Room) (av : List Value) (ws : va_W) (post : Option Nat → va_W → Prop) (mc ms : Nat) : Prop := ∀ B sz : Nat, Met l y wd rm (va_Pc av (ctP D cl tys ws B sz)) (va_Qq post (ctB D cl tys (va_A ws sz)) (va_A ws sz)) mc ms (va_A ws sz)
theorem ctP_blind {av : List Value} {B sz : Nat} : FrameBlind (va_Pc av (ctP D cl tys ws B sz)) := fun a U g mk q => ⟨q.1, q.2.1, q.2.2.1, va_K.moved (u := U) (U := U.calling g mk a) (Vm.Alike.refl U.vm) q.2.2.2.1, q.2.2.2.2.1, q.2.2.2.2.2.1, xe.same (U := U.calling g mk a) rfl rfl q.2.2.2.2.2.2⟩
theorem jA {H0 H : Heap} {locs : List Loc} (hD : va_D A ws) (hS : va_S A H0 H locs) (hA : ∀ q, H0.size ≤ q → A q) : ∀ q, va_A ws H.size q → A q := fun q h => h.elim (fun ⟨k, e, h⟩ => hD.2 k (q, e) h) (fun h => hA q (Nat.le_trans hS.1 h))
theorem jpre {H : Heap} {av : List Value} {B : Nat} {locs : List Loc} (hK : va_K D cl tys s) (hP : va_P D cl ws H) (hD : va_D A ws) (hS : va_S A s.heap H locs) (hB : B ≤ s.heap.size) (hAB : ∀ q, A q → B ≤ q) (hx : xe B s) : ∀ U : State, U.heap = H → s.WarmedH U.vm → va_Pc av (ctP D cl tys ws B H.size) av.toArray U := fun U hU hW => ⟨rfl, by rw [hU], by rw [hU]; exact hP, va_K.moved hW.alike hK, hD.weaken (fun _ q _ z => hAB q.1 z), Nat.le_trans hB hS.1, xe.moved hW (fun q h1 h2 => by rw [hU]; exact hS.2.1 q h1 (fun z => h2 (hAB q z))) hx⟩
theorem j_callVI (h : jc p s m args c D cl tys A n cc own Ts) {vc : vw_C} {b ci : Nat} {fs : List Value} {index maxL mc ms nn : Nat} {y : MethodName} {bytes : ByteArray} {ret : Option FieldType} {wd : List Cond} {rm : Room} {As rest : List Value} {post : Int32 → va_W → Prop} (hd : decode cc pc = .ok (.invokevirtual index, 3)) (hM : ctI l D cl tys y wd rm (.ref b :: As) ws post mc ms) (cw : CallW R s args own vc.1 index y bytes maxL ret wd rm mc ms nn) (q0 : Nat) (hrc : ws[q0]? = some (b, .inr (ci, fs))) (hc : cl[ci]? = some vc) (hn : As.length = nn) (hst : st = As.reverse ++ .ref b :: rest) (hcat : (rest.map fun v => v.category).sum ≤ 8) (hf : k + mc ≤ R.cells ∧ w + ms ≤ R.slots) (kk : ∀ (r : Int32) (u : va_W), post r u → jj p l e R s m args below meth c Q D cl tys A n u (k + mc) (w + ms) (pc + 3) lv (.int r :: rest)) : jj p l e R s m args below meth c Q D cl tys A n ws k w pc lv st := by
  intro H locs ls hP hD hS hl
  have hA := jA hD hS h.2.2.2.2.2.2.1
  obtain ⟨B, hB0, hAB, hxe⟩ := h.2.2.2.2.2.2.2
  refine va_calli (va_runV (As := As) (rest := rest) ⟨h.1, h.2.1, h.2.2.1, h.2.2.2.1, h.2.2.2.2.1⟩ (hM B H.size) cw ⟨ctP_blind, va_recv h.2.2.2.2.2.1 hP (q := vc) hc hrc, jpre h.2.2.2.2.2.1 hP hD hS hB0 hAB hxe⟩ rfl hn hl.1 hst (lv_room hcat) hd hf) hS (fun q _ z => hA q z) hA (fun r u t H1 locs1 ht hvm hw hB hz1 hk1 hS1 => ?_)
  obtain ⟨hP1, hK1, hD1⟩ := hB
  rw [ht] at hP1
  exact kk r u hw H1 locs1 ls hP1 (hD1.weaken (fun _ q _ z => hA q.1 z)) hS1 hl
theorem j_callSI (h : jc p s m args c D cl tys A n cc own Ts) {index maxL mc ms nn : Nat} {y : MethodName} {bytes : ByteArray} {ret : Option FieldType} {wd : List Cond} {rm : Room} {As rest : List Value} {post : Int32 → va_W → Prop} (hd : decode cc pc = .ok (.invokestatic index, 3)) (hM : ctI l D cl tys y wd rm As ws post mc ms) (cw : CallB R s args own index y bytes maxL ret wd rm mc ms nn ∧ (Cond.static y).before args s = true) (hn : As.length = nn) (hst : st = As.reverse ++ rest) (hcat : (rest.map fun v => v.category).sum ≤ 8) (hf : k + mc ≤ R.cells ∧ w + ms ≤ R.slots) (kk : ∀ (r : Int32) (u : va_W), post r u → jj p l e R s m args below meth c Q D cl tys A n u (k + mc) (w + ms) (pc + 3) lv (.int r :: rest)) : jj p l e R s m args below meth c Q D cl tys A n ws k w pc lv st := by
  intro H locs ls hP hD hS hl
  have hA := jA hD hS h.2.2.2.2.2.2.1
  obtain ⟨B, hB0, hAB, hxe⟩ := h.2.2.2.2.2.2.2
  refine va_calli (va_runS (As := As) (rest := rest) ⟨h.1, h.2.1, h.2.2.1, h.2.2.2.1, h.2.2.2.2.1⟩ (hM B H.size) cw ⟨ctP_blind, jpre h.2.2.2.2.2.1 hP hD hS hB0 hAB hxe⟩ rfl hn hl.1 hst (lv_room hcat) hd hf) hS (fun q _ z => hA q z) hA (fun r u t H1 locs1 ht hvm hw hB hz1 hk1 hS1 => ?_)
  obtain ⟨hP1, hK1, hD1⟩ := hB
  rw [ht] at hP1
  exact kk r u hw H1 locs1 ls hP1 (hD1.weaken (fun _ q _ z => hA q.1 z)) hS1 hl
theorem j_callVV (h : jc p s m args c D cl tys A n cc own Ts) {vc : vw_C} {b ci : Nat} {fs : List Value} {index maxL mc ms nn : Nat} {y : MethodName} {bytes : ByteArray} {ret : Option FieldType} {wd : List Cond} {rm : Room} {As rest : List Value} {post : va_W → Prop} (hd : decode cc pc = .ok (.invokevirtual index, 3)) (hM : ctV l D cl tys y wd rm (.ref b :: As) ws post mc ms) (cw : CallW R s args own vc.1 index y bytes maxL ret wd rm mc ms nn) (q0 : Nat) (hrc : ws[q0]? = some (b, .inr (ci, fs))) (hc : cl[ci]? = some vc) (hn : As.length = nn) (hst : st = As.reverse ++ .ref b :: rest) (hcat : (rest.map fun v => v.category).sum ≤ 8) (hf : k + mc ≤ R.cells ∧ w + ms ≤ R.slots) (kk : ∀ (u : va_W), post u → jj p l e R s m args below meth c Q D cl tys A n u (k + mc) (w + ms) (pc + 3) lv (rest)) : jj p l e R s m args below meth c Q D cl tys A n ws k w pc lv st := by
  intro H locs ls hP hD hS hl
  have hA := jA hD hS h.2.2.2.2.2.2.1
  obtain ⟨B, hB0, hAB, hxe⟩ := h.2.2.2.2.2.2.2
  refine va_callv (va_runV (As := As) (rest := rest) ⟨h.1, h.2.1, h.2.2.1, h.2.2.2.1, h.2.2.2.2.1⟩ (hM B H.size) cw ⟨ctP_blind, va_recv h.2.2.2.2.2.1 hP (q := vc) hc hrc, jpre h.2.2.2.2.2.1 hP hD hS hB0 hAB hxe⟩ rfl hn hl.1 hst (lv_room hcat) hd hf) hS (fun q _ z => hA q z) hA (fun u t H1 locs1 ht hvm hw hB hz1 hk1 hS1 => ?_)
  obtain ⟨hP1, hK1, hD1⟩ := hB
  rw [ht] at hP1
  exact kk u hw H1 locs1 ls hP1 (hD1.weaken (fun _ q _ z => hA q.1 z)) hS1 hl
theorem j_callSV (h : jc p s m args c D cl tys A n cc own Ts) {index maxL mc ms nn : Nat} {y : MethodName} {bytes : ByteArray} {ret : Option FieldType} {wd : List Cond} {rm : Room} {As rest : List Value} {post : va_W → Prop} (hd : decode cc pc = .ok (.invokestatic index, 3)) (hM : ctV l D cl tys y wd rm As ws post mc ms) (cw : CallB R s args own index y bytes maxL ret wd rm mc ms nn ∧ (Cond.static y).before args s = true) (hn : As.length = nn) (hst : st = As.reverse ++ rest) (hcat : (rest.map fun v => v.category).sum ≤ 8) (hf : k + mc ≤ R.cells ∧ w + ms ≤ R.slots) (kk : ∀ (u : va_W), post u → jj p l e R s m args below meth c Q D cl tys A n u (k + mc) (w + ms) (pc + 3) lv (rest)) : jj p l e R s m args below meth c Q D cl tys A n ws k w pc lv st := by
  intro H locs ls hP hD hS hl
  have hA := jA hD hS h.2.2.2.2.2.2.1
  obtain ⟨B, hB0, hAB, hxe⟩ := h.2.2.2.2.2.2.2
  refine va_callv (va_runS (As := As) (rest := rest) ⟨h.1, h.2.1, h.2.2.1, h.2.2.2.1, h.2.2.2.2.1⟩ (hM B H.size) cw ⟨ctP_blind, jpre h.2.2.2.2.2.1 hP hD hS hB0 hAB hxe⟩ rfl hn hl.1 hst (lv_room hcat) hd hf) hS (fun q _ z => hA q z) hA (fun u t H1 locs1 ht hvm hw hB hz1 hk1 hS1 => ?_)
  obtain ⟨hP1, hK1, hD1⟩ := hB
  rw [ht] at hP1
  exact kk u hw H1 locs1 ls hP1 (hD1.weaken (fun _ q _ z => hA q.1 z)) hS1 hl
theorem j_callVQ (h : jc p s m args c D cl tys A n cc own Ts) {vc : vw_C} {b ci : Nat} {fs : List Value} {index maxL mc ms nn : Nat} {y : MethodName} {bytes : ByteArray} {ret : Option FieldType} {wd : List Cond} {rm : Room} {As rest : List Value} {post : Option Nat → va_W → Prop} (hd : decode cc pc = .ok (.invokevirtual index, 3)) (hM : ctQ l D cl tys y wd rm (.ref b :: As) ws post mc ms) (cw : CallW R s args own vc.1 index y bytes maxL ret wd rm mc ms nn) (q0 : Nat) (hrc : ws[q0]? = some (b, .inr (ci, fs))) (hc : cl[ci]? = some vc) (hn : As.length = nn) (hst : st = As.reverse ++ .ref b :: rest) (hcat : (rest.map fun v => v.category).sum ≤ 8) (hf : k + mc ≤ R.cells ∧ w + ms ≤ R.slots) (kk : ∀ (r : Option Nat) (u : va_W), post r u → jj p l e R s m args below meth c Q D cl tys A n u (k + mc) (w + ms) (pc + 3) lv (va_rf r :: rest)) : jj p l e R s m args below meth c Q D cl tys A n ws k w pc lv st := by
  intro H locs ls hP hD hS hl
  have hA := jA hD hS h.2.2.2.2.2.2.1
  obtain ⟨B, hB0, hAB, hxe⟩ := h.2.2.2.2.2.2.2
  refine va_callq (va_runV (As := As) (rest := rest) ⟨h.1, h.2.1, h.2.2.1, h.2.2.2.1, h.2.2.2.2.1⟩ (hM B H.size) cw ⟨ctP_blind, va_recv h.2.2.2.2.2.1 hP (q := vc) hc hrc, jpre h.2.2.2.2.2.1 hP hD hS hB0 hAB hxe⟩ rfl hn hl.1 hst (lv_room hcat) hd hf) hS (fun q _ z => hA q z) hA (fun r u t H1 locs1 ht hvm hw hB hz1 hk1 hS1 => ?_)
  obtain ⟨hP1, hK1, hD1⟩ := hB
  rw [ht] at hP1
  exact kk r u hw H1 locs1 ls hP1 (hD1.weaken (fun _ q _ z => hA q.1 z)) hS1 hl
theorem j_callSQ (h : jc p s m args c D cl tys A n cc own Ts) {index maxL mc ms nn : Nat} {y : MethodName} {bytes : ByteArray} {ret : Option FieldType} {wd : List Cond} {rm : Room} {As rest : List Value} {post : Option Nat → va_W → Prop} (hd : decode cc pc = .ok (.invokestatic index, 3)) (hM : ctQ l D cl tys y wd rm As ws post mc ms) (cw : CallB R s args own index y bytes maxL ret wd rm mc ms nn ∧ (Cond.static y).before args s = true) (hn : As.length = nn) (hst : st = As.reverse ++ rest) (hcat : (rest.map fun v => v.category).sum ≤ 8) (hf : k + mc ≤ R.cells ∧ w + ms ≤ R.slots) (kk : ∀ (r : Option Nat) (u : va_W), post r u → jj p l e R s m args below meth c Q D cl tys A n u (k + mc) (w + ms) (pc + 3) lv (va_rf r :: rest)) : jj p l e R s m args below meth c Q D cl tys A n ws k w pc lv st := by
  intro H locs ls hP hD hS hl
  have hA := jA hD hS h.2.2.2.2.2.2.1
  obtain ⟨B, hB0, hAB, hxe⟩ := h.2.2.2.2.2.2.2
  refine va_callq (va_runS (As := As) (rest := rest) ⟨h.1, h.2.1, h.2.2.1, h.2.2.2.1, h.2.2.2.2.1⟩ (hM B H.size) cw ⟨ctP_blind, jpre h.2.2.2.2.2.1 hP hD hS hB0 hAB hxe⟩ rfl hn hl.1 hst (lv_room hcat) hd hf) hS (fun q _ z => hA q z) hA (fun r u t H1 locs1 ht hvm hw hB hz1 hk1 hS1 => ?_)
  obtain ⟨hP1, hK1, hD1⟩ := hB
  rw [ht] at hP1
  exact kk r u hw H1 locs1 ls hP1 (hD1.weaken (fun _ q _ z => hA q.1 z)) hS1 hl
theorem j_iret {ws0 : va_W} {sz mc ms : Nat} {post : Int32 → va_W → Prop} {v : Int32} (h : jc p s m args c D cl tys (va_A ws0 sz) n cc own Ts) (hr : meth.sig.returnType = some .int) (hlk : meth.locks = false) (hd : decode cc pc = .ok (.ireturn, 1)) (hk : k ≤ mc) (hw : w ≤ ms) (hp : post v ws) : jj p l e R s m args below meth c (MQ below (va_Qi post (ctB D cl tys (va_A ws0 sz)) (va_A ws0 sz)) args s mc ms (va_A ws0 sz)) D cl tys (va_A ws0 sz) n ws k w pc lv [.int v] := by
  intro H locs ls hP hD hS hl
  exact W.widen hk hw (W.iret h.1 h.2.1 hr (fun t ht hW => ⟨⟨v, ws, rfl, hp, by rw [ht]; exact hP, va_K.moved hW.alike h.2.2.2.2.2.1, hD⟩, hS.F ht⟩) hS.2.2 hd hlk)
theorem j_zret {ws0 : va_W} {sz mc ms : Nat} {post : Int32 → va_W → Prop} {v : Int32} (h : jc p s m args c D cl tys (va_A ws0 sz) n cc own Ts) (hr : meth.sig.returnType = some .boolean) (hlk : meth.locks = false) (hd : decode cc pc = .ok (.ireturn, 1)) (hv : v = 0 ∨ v = 1) (hk : k ≤ mc) (hw : w ≤ ms) (hp : post v ws) : jj p l e R s m args below meth c (MQ below (va_Qi post (ctB D cl tys (va_A ws0 sz)) (va_A ws0 sz)) args s mc ms (va_A ws0 sz)) D cl tys (va_A ws0 sz) n ws k w pc lv [.int v] := by
  intro H locs ls hP hD hS hl
  exact W.widen hk hw (W.zret h.1 h.2.1 hr (by rcases hv with rfl | rfl <;> rfl) (fun t ht hW => ⟨⟨v, ws, rfl, hp, by rw [ht]; exact hP, va_K.moved hW.alike h.2.2.2.2.2.1, hD⟩, hS.F ht⟩) hS.2.2 hd hlk)
theorem j_vret {ws0 : va_W} {sz mc ms : Nat} {post : va_W → Prop} (h : jc p s m args c D cl tys (va_A ws0 sz) n cc own Ts) (hr : meth.sig.returnType = none) (hlk : meth.locks = false) (hd : decode cc pc = .ok (.return_, 1)) (hk : k ≤ mc) (hw : w ≤ ms) (hp : post ws) : jj p l e R s m args below meth c (MQ below (va_Qv post (ctB D cl tys (va_A ws0 sz)) (va_A ws0 sz)) args s mc ms (va_A ws0 sz)) D cl tys (va_A ws0 sz) n ws k w pc lv [] := by
  intro H locs ls hP hD hS hl
  exact W.widen hk hw (W.vret h.1 h.2.1 hr (fun t ht hW => ⟨⟨ws, rfl, hp, by rw [ht]; exact hP, va_K.moved hW.alike h.2.2.2.2.2.1, hD⟩, hS.F ht⟩) hS.2.2 hd hlk)
theorem j_qret {ws0 : va_W} {sz mc ms : Nat} {post : Option Nat → va_W → Prop} {v : Option Nat} {C : String} (h : jc p s m args c D cl tys (va_A ws0 sz) n cc own Ts) (hr : meth.sig.returnType = some (.object C)) (hlk : meth.locks = false) (hd : decode cc pc = .ok (.areturn, 1)) (hk : k ≤ mc) (hw : w ≤ ms) (hp : post v ws) : jj p l e R s m args below meth c (MQ below (va_Qq post (ctB D cl tys (va_A ws0 sz)) (va_A ws0 sz)) args s mc ms (va_A ws0 sz)) D cl tys (va_A ws0 sz) n ws k w pc lv [va_rf v] := by
  intro H locs ls hP hD hS hl
  exact W.widen hk hw (W.aret h.1 h.2.1 hr (Or.inl ⟨_, rfl⟩) (va_rf_or v) (fun t ht hW => ⟨⟨v, ws, rfl, hp, by rw [ht]; exact hP, va_K.moved hW.alike h.2.2.2.2.2.1, hD⟩, hS.F ht⟩) hS.2.2 hd hlk)
theorem lv_args_in : ∀ {av : List Value} {i : Nat} {q : Nat × Value}, q ∈ lv_args i av → q.2 ∈ av
  | [], _, _, h => by cases h
  | v :: vs, i, q, h => by
    rcases List.mem_cons.mp h with e | h
    · rw [e]; exact List.mem_cons_self
    · exact List.mem_cons_of_mem _ (lv_args_in h)
theorem ctI_of {y : MethodName} {wd ws' : List Cond} {rm : Room} {av : List Value} {ws0 : va_W} {post : Int32 → va_W → Prop} {mc ms maxL : Nat} {ret : Option FieldType} {cc : ByteArray} {own : String} (hy : plainName y.cls = true) (ho : y.cls = own) (hw : wd = Cond.code y cc maxL ret :: ws') (hln : (lg_sl av).length ≤ maxL) (hcat : ∀ v ∈ av, v.category = 1) (lv0 : List (Nat × Value)) (hlv : lv_args 0 av = lv0)
    (body : ∀ (p : Program) (e : Env) (s : State) (m : MethodId) (args : Array Value) (below : List Frame) (meth : Method) (c : Code) (sz : Nat), jc p s m args c D cl tys (va_A ws0 sz) maxL cc own wd → meth.sig.returnType = ret → meth.locks = false → meth.name = y.name → jj p l e (headSpec wd rm).room s m args below meth c (MQ below (va_Qi post (ctB D cl tys (va_A ws0 sz)) (va_A ws0 sz)) args s mc ms (va_A ws0 sz)) D cl tys (va_A ws0 sz) maxL ws0 0 0 0 lv0 []) : ctI l D cl tys y wd rm av ws0 post mc ms := by
  subst hlv
  subst ho
  intro B0 sz
  refine Met.ofW (cc := cc) (maxL := maxL) (ret := ret) hy hw ?_
  intro p e s m args below meth c s₁ B hml hv
  obtain ⟨rfl, hsz, hP, hK, hD0, hBs, hxe⟩ := hv
  subst hsz
  have hl := lv_entry av hln
  rw [lg_entry_eq]
  refine body p e s m av.toArray below meth c s.heap.size ⟨B.exec, B.bytes, hml, findClass_of_methodNamed B.named, atoms_spec (ws := wd) B.pre, hK, fun q hq => Or.inr hq, B0, hBs, fun q z => z.elim (fun ⟨k, e, h⟩ => hD0.2 k (q, e) h) (fun z => Nat.le_trans hBs z), hxe⟩ B.returns B.notSynchronized (name_of_methodNamed B.named B.method).1 s.heap [] _ hP hD0.self va_S.rf (lk_of hl ?_)
  intro q hq
  exact hcat _ (lv_args_in hq)
theorem ctV_of {y : MethodName} {wd ws' : List Cond} {rm : Room} {av : List Value} {ws0 : va_W} {post : va_W → Prop} {mc ms maxL : Nat} {ret : Option FieldType} {cc : ByteArray} {own : String} (hy : plainName y.cls = true) (ho : y.cls = own) (hw : wd = Cond.code y cc maxL ret :: ws') (hln : (lg_sl av).length ≤ maxL) (hcat : ∀ v ∈ av, v.category = 1) (lv0 : List (Nat × Value)) (hlv : lv_args 0 av = lv0)
    (body : ∀ (p : Program) (e : Env) (s : State) (m : MethodId) (args : Array Value) (below : List Frame) (meth : Method) (c : Code) (sz : Nat), jc p s m args c D cl tys (va_A ws0 sz) maxL cc own wd → meth.sig.returnType = ret → meth.locks = false → meth.name = y.name → jj p l e (headSpec wd rm).room s m args below meth c (MQ below (va_Qv post (ctB D cl tys (va_A ws0 sz)) (va_A ws0 sz)) args s mc ms (va_A ws0 sz)) D cl tys (va_A ws0 sz) maxL ws0 0 0 0 lv0 []) : ctV l D cl tys y wd rm av ws0 post mc ms := by
  subst hlv
  subst ho
  intro B0 sz
  refine Met.ofW (cc := cc) (maxL := maxL) (ret := ret) hy hw ?_
  intro p e s m args below meth c s₁ B hml hv
  obtain ⟨rfl, hsz, hP, hK, hD0, hBs, hxe⟩ := hv
  subst hsz
  have hl := lv_entry av hln
  rw [lg_entry_eq]
  refine body p e s m av.toArray below meth c s.heap.size ⟨B.exec, B.bytes, hml, findClass_of_methodNamed B.named, atoms_spec (ws := wd) B.pre, hK, fun q hq => Or.inr hq, B0, hBs, fun q z => z.elim (fun ⟨k, e, h⟩ => hD0.2 k (q, e) h) (fun z => Nat.le_trans hBs z), hxe⟩ B.returns B.notSynchronized (name_of_methodNamed B.named B.method).1 s.heap [] _ hP hD0.self va_S.rf (lk_of hl ?_)
  intro q hq
  exact hcat _ (lv_args_in hq)
theorem ctQ_of {y : MethodName} {wd ws' : List Cond} {rm : Room} {av : List Value} {ws0 : va_W} {post : Option Nat → va_W → Prop} {mc ms maxL : Nat} {ret : Option FieldType} {cc : ByteArray} {own : String} (hy : plainName y.cls = true) (ho : y.cls = own) (hw : wd = Cond.code y cc maxL ret :: ws') (hln : (lg_sl av).length ≤ maxL) (hcat : ∀ v ∈ av, v.category = 1) (lv0 : List (Nat × Value)) (hlv : lv_args 0 av = lv0)
    (body : ∀ (p : Program) (e : Env) (s : State) (m : MethodId) (args : Array Value) (below : List Frame) (meth : Method) (c : Code) (sz : Nat), jc p s m args c D cl tys (va_A ws0 sz) maxL cc own wd → meth.sig.returnType = ret → meth.locks = false → meth.name = y.name → jj p l e (headSpec wd rm).room s m args below meth c (MQ below (va_Qq post (ctB D cl tys (va_A ws0 sz)) (va_A ws0 sz)) args s mc ms (va_A ws0 sz)) D cl tys (va_A ws0 sz) maxL ws0 0 0 0 lv0 []) : ctQ l D cl tys y wd rm av ws0 post mc ms := by
  subst hlv
  subst ho
  intro B0 sz
  refine Met.ofW (cc := cc) (maxL := maxL) (ret := ret) hy hw ?_
  intro p e s m args below meth c s₁ B hml hv
  obtain ⟨rfl, hsz, hP, hK, hD0, hBs, hxe⟩ := hv
  subst hsz
  have hl := lv_entry av hln
  rw [lg_entry_eq]
  refine body p e s m av.toArray below meth c s.heap.size ⟨B.exec, B.bytes, hml, findClass_of_methodNamed B.named, atoms_spec (ws := wd) B.pre, hK, fun q hq => Or.inr hq, B0, hBs, fun q z => z.elim (fun ⟨k, e, h⟩ => hD0.2 k (q, e) h) (fun z => Nat.le_trans hBs z), hxe⟩ B.returns B.notSynchronized (name_of_methodNamed B.named B.method).1 s.heap [] _ hP hD0.self va_S.rf (lk_of hl ?_)
  intro q hq
  exact hcat _ (lv_args_in hq)
theorem j_putF (h : jc p s m args c D cl tys A n cc own Ts) {ref C : String} {T : u_T} {N ci index a : Nat} {fs : List Value} {v : Value} {ty : FieldType} (q0 : Nat) (i : Nat) (ty0 : Nat → FieldType) (hty : ∀ j, j < N → parseFieldDescriptor (T j).2.2.1 = some (ty0 j)) (hnm : ∀ x, x < N → ∀ y, y < N → x ≠ y → (T x).2.1 ≠ (T y).2.1) (hd : decode cc pc = .ok (.putfield index, 3)) (hin : ∀ x ∈ u_ws C T N, x ∈ Ts) (hc : cl[ci]? = some (C, T, N)) (hi : i < N) (hlink : Cond.fieldLink own index ref (T i).2.1 (T i).2.2.1 ∈ Ts) (hsame : ∀ x, s.fieldFound? (T i).1 (T i).2.1 (T i).2.2.1 = some x → s.fieldFound? ref (T i).2.1 (T i).2.2.1 = some x) (hfin : (T i).2.2.2 = true) (hin2 : meth.name = "<init>") (hdecl : (T i).1 = own) (hpd : parseFieldDescriptor (T i).2.2.1 = some ty) (hna : narrow ty v = v) (hfit : fits ty v = true) (he : ws[q0]? = some (a, .inr (ci, fs))) (hfl : i < fs.length) (kk : jj p l e R s m args below meth c Q D cl tys A n (ws.set q0 (a, .inr (ci, fs.set i v))) k w (pc + 3) lv st) : jj p l e R s m args below meth c Q D cl tys A n ws k w pc lv (v :: .ref a :: st) := by
  intro H locs ls hP hD hS hl
  exact va_putF h.1 h.2.1 h.2.2.2.2.1 hin ty0 hty hnm h.2.2.2.1 h.2.2.2.2.2.1 hP hD hS q0 he hc i hi (h.2.2.2.2.1 _ hlink) hsame hfin hin2 hdecl hpd hna hfit hfl hd (fun H1 locs1 hP1 hD1 hS1 => kk H1 locs1 ls hP1 hD1 hS1 hl)
theorem j_objInit (h : jc p s m args c D cl tys A n cc own Ts) {index a : Nat} (hlink : Cond.methodLink own index objectInit ∈ Ts) (hinst : Cond.instanceMethod objectInit ∈ Ts) (hcode : Cond.code objectInit ⟨#[0xb1]⟩ 1 none ∈ Ts) (hd : decode cc pc = .ok (.invokespecial index, 3)) (hfr : 1 ≤ R.frames) (hlo : 2 * 0 + (st.map fun v => v.category).sum + 12 ≤ R.locals) (kk : jj p l e R s m args below meth c Q D cl tys A n ws k w (pc + 3) lv st) : jj p l e R s m args below meth c Q D cl tys A n ws k w pc lv (.ref a :: st) := by
  intro H locs ls hP hD hS hl
  exact W.objInit h.1 h.2.1 h.2.2.2.1 (h.2.2.2.2.1 _ hlink) (h.2.2.2.2.1 _ hinst) (h.2.2.2.2.1 _ hcode) rfl (by rw [h.2.2.1]; exact hl.1) rfl hd hfr hlo (kk H locs ls hP hD hS hl)
theorem jK0 {cA cB : ClassId} {ty : FieldType} {U : State} (h1 : va_RA U cA ty) (h2 : va_RA U cB ty) : cA = cB := by
  cases ty with
  | object C =>
    obtain ⟨_, _, -, -, -, e1⟩ := h1
    obtain ⟨_, _, -, -, -, e2⟩ := h2
    exact Option.some.inj (e1.symm.trans e2)
  | _ => exact Option.some.inj ((show U.vm.findClass _ = some cA from h1).symm.trans h2)
theorem j_newa (h : jc p s m args c D cl tys A n cc own Ts) {atype : ArrayType} {ty : FieldType} (hty : newarray.typeOf atype = ty) (harr : Cond.arrayClass (newarray.typeOf atype) ∈ Ts) (t0 : Nat) {cA : ClassId} (ht : tys[t0]? = some (cA, ty)) {i : Int32} {N' : Nat} {a0 : vp_A} (ha : ∀ cA : ClassId, vp_cell cA a0 = arrV cA N' (fun _ => defaultValue ty)) (hn : ¬ i < 0) (hN : i.toNatClampNeg = N') (hbytes : N' * componentBytes ty ≤ 536870912) (hcells : k + 1 ≤ R.cells) (hslots : w + N' ≤ R.slots) (hd : decode cc pc = .ok (.newarray atype, 2)) (kk : ∀ q : Nat, jj p l e R s m args below meth c Q D cl tys A n (ws ++ [(q, .inl (cA, a0))]) (k + 1) (w + N') (pc + 2) lv (.ref q :: st)) : jj p l e R s m args below meth c Q D cl tys A n ws k w pc lv (.int i :: st) := by
  intro H locs ls hP hD hS hl
  refine va_newa h.1 h.2.1 (h.2.2.2.2.1 _ harr) hty h.2.2.2.2.2.1 hP hD hS h.2.2.2.2.2.2.1 ha hn hN hbytes hcells hslots hd (fun q cB H1 hK1 hP1 hD1 hS1 => ?_)
  obtain rfl : cB = cA := jK0 (hK1.2 tys.length (cB, ty) (by rw [List.getElem?_append_right (Nat.le_refl _), Nat.sub_self]; rfl)).2 (h.2.2.2.2.2.1.2 t0 _ ht).2
  exact kk q H1 locs ls hP1 hD1 hS1 hl
theorem j_newq (h : jc p s m args c D cl tys A n cc own Ts) {C : String} {index : Nat} (hlink : Cond.classLink own index C ∈ Ts) (hover : va_AO C s) (t0 : Nat) {cA : ClassId} (ht : tys[t0]? = some (cA, .object C)) {i : Int32} {N' : Nat} (hn : ¬ i < 0) (hN : i.toNatClampNeg = N') (hbytes : N' * 4 ≤ 536870912) (hcells : k + 1 ≤ R.cells) (hslots : w + N' ≤ R.slots) (hd : decode cc pc = .ok (.anewarray index, 3)) (kk : ∀ q : Nat, jj p l e R s m args below meth c Q D cl tys A n (ws ++ [(q, .inl (cA, N', .inr (.inr (.inr (.inr (fun _ => none))))))]) (k + 1) (w + N') (pc + 3) lv (.ref q :: st)) : jj p l e R s m args below meth c Q D cl tys A n ws k w pc lv (.int i :: st) := by
  intro H locs ls hP hD hS hl
  refine va_newq h.1 h.2.1 h.2.2.2.1 (h.2.2.2.2.1 _ hlink) hover h.2.2.2.2.2.1 hP hD hS h.2.2.2.2.2.2.1 hn hN hbytes hcells hslots hd (fun q cB H1 hK1 hP1 hD1 hS1 => ?_)
  obtain rfl : cB = cA := jK0 (hK1.2 tys.length (cB, .object C) (by rw [List.getElem?_append_right (Nat.le_refl _), Nat.sub_self]; rfl)).2 (h.2.2.2.2.2.1.2 t0 _ ht).2
  exact kk q H1 locs ls hP1 hD1 hS1 hl
theorem j_new (h : jc p s m args c D cl tys A n cc own Ts) {C : String} {T : u_T} {N ci index : Nat} (hin : ∀ x ∈ u_ws C T N, x ∈ Ts) (ty : Nat → FieldType) (hty : ∀ k, k < N → parseFieldDescriptor (T k).2.2.1 = some (ty k)) (hcl : Cond.classLink own index C ∈ Ts) (hinst : Cond.instantiable C N ∈ Ts) (hini : Cond.initialized C ∈ Ts) (hc : cl[ci]? = some (C, T, N)) {fs : List Value} (hfs : ∀ j, j < N → defaultValue (ty j) = vp_V fs j) (hcells : k + 1 ≤ R.cells) (hslots : w + N ≤ R.slots) (hd : decode cc pc = .ok (.new index, 3)) (kk : ∀ q : Nat, jj p l e R s m args below meth c Q D cl tys A n (ws ++ [(q, .inr (ci, fs))]) (k + 1) (w + N) (pc + 3) lv (.ref q :: st)) : jj p l e R s m args below meth c Q D cl tys A n ws k w pc lv st := by
  intro H locs ls hP hD hS hl
  exact va_new h.1 h.2.1 h.2.2.2.2.1 hin ty hty h.2.2.2.1 (h.2.2.2.2.1 _ hcl) (h.2.2.2.2.1 _ hinst) (h.2.2.2.2.1 _ hini) h.2.2.2.2.2.1 hP hD hS h.2.2.2.2.2.2.1 hc hfs hcells hslots hd (fun q H1 hP1 hD1 hS1 => kk q H1 locs ls hP1 hD1 hS1 hl)
/-- the frame rule: a callee that has the last part of the world -/
theorem jframe {A0 : Nat → Prop} {D : va_G} {cl : List vw_C} {wr wc w1 : va_W} {H H1 : Heap} (hP : va_P D cl (wr ++ wc) H) (hD : va_D A0 (wr ++ wc)) (hk : ∀ q : Nat, q < H.size → ¬ va_A wc H.size q → H1[q]? = H[q]?) (hF : ∀ q, va_A wc H.size q → A0 q) (hP1 : va_P D cl w1 H1) (hD1 : va_D (va_A wc H.size) w1) : va_P D cl (wr ++ w1) H1 ∧ va_D A0 (wr ++ w1) := by
  have hl : ∀ (i : Nat) (q : Nat × va_E), wr[i]? = some q → (wr ++ wc)[i]? = some q := fun i q h => by rw [List.getElem?_append_left (List.getElem?_eq_some_iff.mp h).1]; exact h
  have hr : ∀ (i : Nat) (q : Nat × va_E), wc[i]? = some q → (wr ++ wc)[wr.length + i]? = some q := fun i q h => by rw [List.getElem?_append_right (by omega), Nat.add_sub_cancel_left]; exact h
  have apart : ∀ (i : Nat) (q : Nat × va_E), wr[i]? = some q → q.1 < H.size ∧ ¬ va_A wc H.size q.1 := by
    intro i q h
    have h1 := (hP i q (hl i q h)).lt
    refine ⟨h1, fun z => ?_⟩
    rcases z with ⟨j, e, z⟩ | z
    · have h2 := hD.1 i (wr.length + j) q (q.1, e) (hl i q h) (hr j _ z) rfl
      have h3 := (List.getElem?_eq_some_iff.mp h).1
      omega
    · omega
  have hDr : va_D A0 wr := ⟨fun i j x y hx hy e => hD.1 i j x y (hl i x hx) (hl j y hy) e, fun i q h => hD.2 i q (hl i q h)⟩
  refine ⟨va_P.app (fun i q h => ?_) hP1, va_D.app hDr (hD1.weaken (fun i q _ z => hF q.1 z)) (fun i j x y hx hy e => ?_)⟩
  · obtain ⟨g1, g2⟩ := apart i q h
    exact (hP i q (hl i q h)).kept (hk q.1 g1 g2)
  · exact (apart i x hx).2 (by rw [e]; exact hD1.2 j y hy)
theorem jsubP {D : va_G} {cl : List vw_C} {wr wc : va_W} {H : Heap} (hP : va_P D cl (wr ++ wc) H) : va_P D cl wc H := fun i q h => hP (wr.length + i) q (by rw [List.getElem?_append_right (by omega), Nat.add_sub_cancel_left]; exact h)
theorem jsubD {A : Nat → Prop} {wr wc : va_W} (hD : va_D A (wr ++ wc)) : va_D A wc := ⟨fun i j x y hx hy e => by
    have := hD.1 (wr.length + i) (wr.length + j) x y (by rw [List.getElem?_append_right (by omega), Nat.add_sub_cancel_left]; exact hx) (by rw [List.getElem?_append_right (by omega), Nat.add_sub_cancel_left]; exact hy) e
    omega, fun i q h => hD.2 (wr.length + i) q (by rw [List.getElem?_append_right (by omega), Nat.add_sub_cancel_left]; exact h)⟩
theorem j_callIF (h : jc p s m args c D cl tys A n cc own Ts) {b : Nat} {wr wc : va_W} {index maxL mc ms nn : Nat} {y : MethodName} {bytes : ByteArray} {wd : List Cond} {rm : Room} {As rest : List Value} {post : va_W → Prop} (hd : decode cc pc = .ok (.invokespecial index, 3)) (hM : ctV l D cl tys y wd rm (.ref b :: As) wc post mc ms) (cw : CallB R s args own index y bytes maxL none wd rm mc ms nn ∧ y.name = "<init>" ∧ (Cond.instanceMethod y).before args s = true) (hn : As.length = nn) (hst : st = As.reverse ++ .ref b :: rest) (hcat : (rest.map fun v => v.category).sum ≤ 8) (hf : k + mc ≤ R.cells ∧ w + ms ≤ R.slots) (kk : ∀ u : va_W, post u → jj p l e R s m args below meth c Q D cl tys A n (wr ++ u) (k + mc) (w + ms) (pc + 3) lv rest) : jj p l e R s m args below meth c Q D cl tys A n (wr ++ wc) k w pc lv st := by
  intro H locs ls hP hD hS hl
  have hPc := jsubP hP
  have hDc := jsubD hD
  have hA := jA hDc hS h.2.2.2.2.2.2.1
  obtain ⟨B, hB0, hAB, hxe⟩ := h.2.2.2.2.2.2.2
  refine va_callv (va_runI (As := As) (rest := rest) ⟨h.1, h.2.1, h.2.2.1, h.2.2.2.1, h.2.2.2.2.1⟩ (hM B H.size) cw ⟨ctP_blind, jpre h.2.2.2.2.2.1 hPc hDc hS hB0 hAB hxe⟩ rfl hn hl.1 hst (lv_room hcat) hd hf) hS (fun q _ z => hA q z) hA (fun u t H1 locs1 ht hvm hw hB hz1 hk1 hS1 => ?_)
  obtain ⟨hP1, hK1, hD1⟩ := hB
  rw [ht] at hP1
  obtain ⟨hP2, hD2⟩ := jframe hP hD hk1 hA hP1 hD1
  exact kk u hw H1 locs1 ls hP2 hD2 hS1 hl
theorem jj_cut (pcJ : Nat) (lvJ : List (Nat × Value)) (stJ : List Value) (I : Int32 → Prop) (hj : ∀ v : Int32, I v → jj p l e R s m args below meth c Q D cl tys A n ws k w pcJ lvJ (.int v :: stJ)) (kk : (∀ v : Int32, I v → ∀ lv' : List (Nat × Value), lsub lvJ lv' → jj p l e R s m args below meth c Q D cl tys A n ws k w pcJ lv' (.int v :: stJ)) → jj p l e R s m args below meth c Q D cl tys A n ws k w pc lv st) : jj p l e R s m args below meth c Q D cl tys A n ws k w pc lv st := kk (fun v hv lv' hl => jj_to (hj v hv) hl)
theorem jj_loop {σ : Type} (lvf : σ → List (Nat × Value)) (wsf : σ → va_W) (I : σ → Prop) (μ : σ → Nat) (s0 : σ) (hlv : lsub (lvf s0) lv) (hws : ws = wsf s0) (h0 : I s0)
    (hs : ∀ x : σ, I x → (∀ y : σ, I y → μ y < μ x → ∀ lv' : List (Nat × Value), lsub (lvf y) lv' → jj p l e R s m args below meth c Q D cl tys A n (wsf y) k w pc lv' st) → jj p l e R s m args below meth c Q D cl tys A n (wsf x) k w pc (lvf x) st) : jj p l e R s m args below meth c Q D cl tys A n ws k w pc lv st := by
  subst hws
  have key : ∀ (b : Nat) (x : σ), μ x < b → I x → jj p l e R s m args below meth c Q D cl tys A n (wsf x) k w pc (lvf x) st := by
    intro b
    induction b with
    | zero => intro x hx; omega
    | succ b ih => exact fun x hx hi => hs x hi (fun y hy hm lv' hl' => jj_to (ih y (by omega) hy) hl')
  exact jj_to (key _ s0 (Nat.lt_succ_self _) h0) hlv
end JL
