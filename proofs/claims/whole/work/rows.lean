section
-- ===== PART A: goes FIRST, ahead of the names: the tables' words, and 'selects' of the private methods out of them =====
/-- a private method of a class that the tables say can be made, by its rows of tables_1 -/
def lw_okq (q : MethodName × Nat) : Prop := (q.1.cls ≠ "java/lang/invoke/MethodHandle" ∧ q.1.cls ≠ "java/lang/invoke/VarHandle") ∧ Cond.instantiable q.1.cls q.2 ∈ tables_1 ∧ Cond.privateMethod q.1 ∈ tables_1 ∧ Cond.instanceMethod q.1 ∈ tables_1
theorem lw_p0 : lw_okq (⟨"java/lang/Throwable", "fillInStackTrace", "(I)Ljava/lang/Throwable;"⟩, 6) := ⟨⟨by decide +kernel, by decide +kernel⟩, List.mem_of_getElem? (i := 129) (by decide +kernel), List.mem_of_getElem? (i := 127) (by decide +kernel), List.mem_of_getElem? (i := 128) (by decide +kernel)⟩
theorem lw_p1 : lw_okq (⟨"Festoon", "lanternNumbered", "(I)LFestoon$Lantern;"⟩, 12) := ⟨⟨by decide +kernel, by decide +kernel⟩, List.mem_of_getElem? (i := 13) (by decide +kernel), List.mem_of_getElem? (i := 217) (by decide +kernel), List.mem_of_getElem? (i := 218) (by decide +kernel)⟩
theorem lw_p2 : lw_okq (⟨"Festoon", "raftNumbered", "(I)LFestoon$Raft;"⟩, 12) := ⟨⟨by decide +kernel, by decide +kernel⟩, List.mem_of_getElem? (i := 13) (by decide +kernel), List.mem_of_getElem? (i := 237) (by decide +kernel), List.mem_of_getElem? (i := 238) (by decide +kernel)⟩
theorem lw_p3 : lw_okq (⟨"Festoon", "isCrowded", "(LFestoon$Lantern;I)Z"⟩, 12) := ⟨⟨by decide +kernel, by decide +kernel⟩, List.mem_of_getElem? (i := 13) (by decide +kernel), List.mem_of_getElem? (i := 291) (by decide +kernel), List.mem_of_getElem? (i := 292) (by decide +kernel)⟩
theorem lw_p4 : lw_okq (⟨"Festoon", "isTooNear", "(LFestoon$Lantern;LFestoon$Lantern;)Z"⟩, 12) := ⟨⟨by decide +kernel, by decide +kernel⟩, List.mem_of_getElem? (i := 13) (by decide +kernel), List.mem_of_getElem? (i := 295) (by decide +kernel), List.mem_of_getElem? (i := 296) (by decide +kernel)⟩
theorem lw_p5 : lw_okq (⟨"Festoon", "hasRoomToLaunch", "()Z"⟩, 12) := ⟨⟨by decide +kernel, by decide +kernel⟩, List.mem_of_getElem? (i := 13) (by decide +kernel), List.mem_of_getElem? (i := 364) (by decide +kernel), List.mem_of_getElem? (i := 365) (by decide +kernel)⟩
theorem lw_p6 : lw_okq (⟨"Festoon", "raftsOnRiver", "()I"⟩, 12) := ⟨⟨by decide +kernel, by decide +kernel⟩, List.mem_of_getElem? (i := 13) (by decide +kernel), List.mem_of_getElem? (i := 373) (by decide +kernel), List.mem_of_getElem? (i := 374) (by decide +kernel)⟩
theorem lw_p7 : lw_okq (⟨"Festoon", "litLanterns", "()I"⟩, 12) := ⟨⟨by decide +kernel, by decide +kernel⟩, List.mem_of_getElem? (i := 13) (by decide +kernel), List.mem_of_getElem? (i := 401) (by decide +kernel), List.mem_of_getElem? (i := 402) (by decide +kernel)⟩
theorem lw_p8 : lw_okq (⟨"Festoon", "passOne", "()V"⟩, 12) := ⟨⟨by decide +kernel, by decide +kernel⟩, List.mem_of_getElem? (i := 13) (by decide +kernel), List.mem_of_getElem? (i := 405) (by decide +kernel), List.mem_of_getElem? (i := 406) (by decide +kernel)⟩
theorem lw_p9 : lw_okq (⟨"Festoon", "moveRafts", "()V"⟩, 12) := ⟨⟨by decide +kernel, by decide +kernel⟩, List.mem_of_getElem? (i := 13) (by decide +kernel), List.mem_of_getElem? (i := 409) (by decide +kernel), List.mem_of_getElem? (i := 410) (by decide +kernel)⟩
theorem lw_p10 : lw_okq (⟨"Festoon", "letRaftsGo", "()V"⟩, 12) := ⟨⟨by decide +kernel, by decide +kernel⟩, List.mem_of_getElem? (i := 13) (by decide +kernel), List.mem_of_getElem? (i := 424) (by decide +kernel), List.mem_of_getElem? (i := 425) (by decide +kernel)⟩
theorem lw_p11 : lw_okq (⟨"Festoon", "blowGust", "()V"⟩, 12) := ⟨⟨by decide +kernel, by decide +kernel⟩, List.mem_of_getElem? (i := 13) (by decide +kernel), List.mem_of_getElem? (i := 433) (by decide +kernel), List.mem_of_getElem? (i := 434) (by decide +kernel)⟩
theorem lw_p12 : lw_okq (⟨"Festoon", "burnCandles", "()V"⟩, 12) := ⟨⟨by decide +kernel, by decide +kernel⟩, List.mem_of_getElem? (i := 13) (by decide +kernel), List.mem_of_getElem? (i := 441) (by decide +kernel), List.mem_of_getElem? (i := 442) (by decide +kernel)⟩
theorem lw_p13 : lw_okq (⟨"Festoon", "sendMarshal", "()V"⟩, 12) := ⟨⟨by decide +kernel, by decide +kernel⟩, List.mem_of_getElem? (i := 13) (by decide +kernel), List.mem_of_getElem? (i := 449) (by decide +kernel), List.mem_of_getElem? (i := 450) (by decide +kernel)⟩
theorem lw_p14 : lw_okq (⟨"Festoon", "nearestAhead", "(LFestoon$Lantern;I)I"⟩, 12) := ⟨⟨by decide +kernel, by decide +kernel⟩, List.mem_of_getElem? (i := 13) (by decide +kernel), List.mem_of_getElem? (i := 491) (by decide +kernel), List.mem_of_getElem? (i := 492) (by decide +kernel)⟩
theorem lw_p15 : lw_okq (⟨"Festoon", "nearestBehind", "(LFestoon$Lantern;I)I"⟩, 12) := ⟨⟨by decide +kernel, by decide +kernel⟩, List.mem_of_getElem? (i := 13) (by decide +kernel), List.mem_of_getElem? (i := 495) (by decide +kernel), List.mem_of_getElem? (i := 496) (by decide +kernel)⟩
def lw_privs_1 : List (MethodName × Nat) := [(⟨"java/lang/Throwable", "fillInStackTrace", "(I)Ljava/lang/Throwable;"⟩, 6), (⟨"Festoon", "lanternNumbered", "(I)LFestoon$Lantern;"⟩, 12), (⟨"Festoon", "raftNumbered", "(I)LFestoon$Raft;"⟩, 12), (⟨"Festoon", "isCrowded", "(LFestoon$Lantern;I)Z"⟩, 12), (⟨"Festoon", "isTooNear", "(LFestoon$Lantern;LFestoon$Lantern;)Z"⟩, 12), (⟨"Festoon", "hasRoomToLaunch", "()Z"⟩, 12), (⟨"Festoon", "raftsOnRiver", "()I"⟩, 12), (⟨"Festoon", "litLanterns", "()I"⟩, 12), (⟨"Festoon", "passOne", "()V"⟩, 12), (⟨"Festoon", "moveRafts", "()V"⟩, 12), (⟨"Festoon", "letRaftsGo", "()V"⟩, 12), (⟨"Festoon", "blowGust", "()V"⟩, 12), (⟨"Festoon", "burnCandles", "()V"⟩, 12), (⟨"Festoon", "sendMarshal", "()V"⟩, 12), (⟨"Festoon", "nearestAhead", "(LFestoon$Lantern;I)I"⟩, 12), (⟨"Festoon", "nearestBehind", "(LFestoon$Lantern;I)I"⟩, 12)]
theorem lw_r1 : ∀ q ∈ lw_privs_1, lw_okq q := List.forall_mem_cons.mpr ⟨lw_p0, List.forall_mem_cons.mpr ⟨lw_p1, List.forall_mem_cons.mpr ⟨lw_p2, List.forall_mem_cons.mpr ⟨lw_p3, List.forall_mem_cons.mpr ⟨lw_p4, List.forall_mem_cons.mpr ⟨lw_p5, List.forall_mem_cons.mpr ⟨lw_p6, List.forall_mem_cons.mpr ⟨lw_p7, List.forall_mem_cons.mpr ⟨lw_p8, List.forall_mem_cons.mpr ⟨lw_p9, List.forall_mem_cons.mpr ⟨lw_p10, List.forall_mem_cons.mpr ⟨lw_p11, List.forall_mem_cons.mpr ⟨lw_p12, List.forall_mem_cons.mpr ⟨lw_p13, List.forall_mem_cons.mpr ⟨lw_p14, List.forall_mem_cons.mpr ⟨lw_p15, fun _ h => absurd h List.not_mem_nil⟩⟩⟩⟩⟩⟩⟩⟩⟩⟩⟩⟩⟩⟩⟩⟩
theorem lw_p16 : lw_okq (⟨"FestoonModel", "goes", "(ZZZ)Z"⟩, 22) := ⟨⟨by decide +kernel, by decide +kernel⟩, List.mem_of_getElem? (i := 547) (by decide +kernel), List.mem_of_getElem? (i := 631) (by decide +kernel), List.mem_of_getElem? (i := 632) (by decide +kernel)⟩
theorem lw_p17 : lw_okq (⟨"FestoonModel", "isLantern", "(I)Z"⟩, 22) := ⟨⟨by decide +kernel, by decide +kernel⟩, List.mem_of_getElem? (i := 547) (by decide +kernel), List.mem_of_getElem? (i := 639) (by decide +kernel), List.mem_of_getElem? (i := 640) (by decide +kernel)⟩
theorem lw_p18 : lw_okq (⟨"FestoonModel", "isFloat", "(I)Z"⟩, 22) := ⟨⟨by decide +kernel, by decide +kernel⟩, List.mem_of_getElem? (i := 547) (by decide +kernel), List.mem_of_getElem? (i := 643) (by decide +kernel), List.mem_of_getElem? (i := 644) (by decide +kernel)⟩
theorem lw_p19 : lw_okq (⟨"FestoonModel", "loadOf", "(I)I"⟩, 22) := ⟨⟨by decide +kernel, by decide +kernel⟩, List.mem_of_getElem? (i := 547) (by decide +kernel), List.mem_of_getElem? (i := 647) (by decide +kernel), List.mem_of_getElem? (i := 648) (by decide +kernel)⟩
theorem lw_p20 : lw_okq (⟨"FestoonModel", "weight", "(I)I"⟩, 22) := ⟨⟨by decide +kernel, by decide +kernel⟩, List.mem_of_getElem? (i := 547) (by decide +kernel), List.mem_of_getElem? (i := 651) (by decide +kernel), List.mem_of_getElem? (i := 652) (by decide +kernel)⟩
theorem lw_p21 : lw_okq (⟨"FestoonModel", "isTaken", "(II)Z"⟩, 22) := ⟨⟨by decide +kernel, by decide +kernel⟩, List.mem_of_getElem? (i := 547) (by decide +kernel), List.mem_of_getElem? (i := 655) (by decide +kernel), List.mem_of_getElem? (i := 656) (by decide +kernel)⟩
theorem lw_p22 : lw_okq (⟨"FestoonModel", "darkens", "(I)V"⟩, 22) := ⟨⟨by decide +kernel, by decide +kernel⟩, List.mem_of_getElem? (i := 547) (by decide +kernel), List.mem_of_getElem? (i := 663) (by decide +kernel), List.mem_of_getElem? (i := 664) (by decide +kernel)⟩
theorem lw_p23 : lw_okq (⟨"FestoonModel", "hasPlace", "(I)Z"⟩, 22) := ⟨⟨by decide +kernel, by decide +kernel⟩, List.mem_of_getElem? (i := 547) (by decide +kernel), List.mem_of_getElem? (i := 671) (by decide +kernel), List.mem_of_getElem? (i := 672) (by decide +kernel)⟩
theorem lw_p24 : lw_okq (⟨"FestoonModel", "isNear", "(II)Z"⟩, 22) := ⟨⟨by decide +kernel, by decide +kernel⟩, List.mem_of_getElem? (i := 547) (by decide +kernel), List.mem_of_getElem? (i := 675) (by decide +kernel), List.mem_of_getElem? (i := 676) (by decide +kernel)⟩
theorem lw_p25 : lw_okq (⟨"FestoonModel", "distance", "(II)I"⟩, 22) := ⟨⟨by decide +kernel, by decide +kernel⟩, List.mem_of_getElem? (i := 547) (by decide +kernel), List.mem_of_getElem? (i := 679) (by decide +kernel), List.mem_of_getElem? (i := 680) (by decide +kernel)⟩
theorem lw_p26 : lw_okq (⟨"FestoonModel", "place", "(I)I"⟩, 22) := ⟨⟨by decide +kernel, by decide +kernel⟩, List.mem_of_getElem? (i := 547) (by decide +kernel), List.mem_of_getElem? (i := 683) (by decide +kernel), List.mem_of_getElem? (i := 684) (by decide +kernel)⟩
theorem lw_p27 : lw_okq (⟨"FestoonModel", "rearmost", "()I"⟩, 22) := ⟨⟨by decide +kernel, by decide +kernel⟩, List.mem_of_getElem? (i := 547) (by decide +kernel), List.mem_of_getElem? (i := 699) (by decide +kernel), List.mem_of_getElem? (i := 700) (by decide +kernel)⟩
theorem lw_p28 : lw_okq (⟨"FestoonModel", "afloat", "()I"⟩, 22) := ⟨⟨by decide +kernel, by decide +kernel⟩, List.mem_of_getElem? (i := 547) (by decide +kernel), List.mem_of_getElem? (i := 703) (by decide +kernel), List.mem_of_getElem? (i := 704) (by decide +kernel)⟩
theorem lw_p29 : lw_okq (⟨"FestoonModel", "lit", "()I"⟩, 22) := ⟨⟨by decide +kernel, by decide +kernel⟩, List.mem_of_getElem? (i := 547) (by decide +kernel), List.mem_of_getElem? (i := 719) (by decide +kernel), List.mem_of_getElem? (i := 720) (by decide +kernel)⟩
theorem lw_p30 : lw_okq (⟨"FestoonModel", "floatsMove", "()V"⟩, 22) := ⟨⟨by decide +kernel, by decide +kernel⟩, List.mem_of_getElem? (i := 547) (by decide +kernel), List.mem_of_getElem? (i := 723) (by decide +kernel), List.mem_of_getElem? (i := 724) (by decide +kernel)⟩
theorem lw_p31 : lw_okq (⟨"FestoonModel", "burns", "()V"⟩, 22) := ⟨⟨by decide +kernel, by decide +kernel⟩, List.mem_of_getElem? (i := 547) (by decide +kernel), List.mem_of_getElem? (i := 727) (by decide +kernel), List.mem_of_getElem? (i := 728) (by decide +kernel)⟩
def lw_privs_2 : List (MethodName × Nat) := [(⟨"FestoonModel", "goes", "(ZZZ)Z"⟩, 22), (⟨"FestoonModel", "isLantern", "(I)Z"⟩, 22), (⟨"FestoonModel", "isFloat", "(I)Z"⟩, 22), (⟨"FestoonModel", "loadOf", "(I)I"⟩, 22), (⟨"FestoonModel", "weight", "(I)I"⟩, 22), (⟨"FestoonModel", "isTaken", "(II)Z"⟩, 22), (⟨"FestoonModel", "darkens", "(I)V"⟩, 22), (⟨"FestoonModel", "hasPlace", "(I)Z"⟩, 22), (⟨"FestoonModel", "isNear", "(II)Z"⟩, 22), (⟨"FestoonModel", "distance", "(II)I"⟩, 22), (⟨"FestoonModel", "place", "(I)I"⟩, 22), (⟨"FestoonModel", "rearmost", "()I"⟩, 22), (⟨"FestoonModel", "afloat", "()I"⟩, 22), (⟨"FestoonModel", "lit", "()I"⟩, 22), (⟨"FestoonModel", "floatsMove", "()V"⟩, 22), (⟨"FestoonModel", "burns", "()V"⟩, 22)]
theorem lw_r2 : ∀ q ∈ lw_privs_2, lw_okq q := List.forall_mem_cons.mpr ⟨lw_p16, List.forall_mem_cons.mpr ⟨lw_p17, List.forall_mem_cons.mpr ⟨lw_p18, List.forall_mem_cons.mpr ⟨lw_p19, List.forall_mem_cons.mpr ⟨lw_p20, List.forall_mem_cons.mpr ⟨lw_p21, List.forall_mem_cons.mpr ⟨lw_p22, List.forall_mem_cons.mpr ⟨lw_p23, List.forall_mem_cons.mpr ⟨lw_p24, List.forall_mem_cons.mpr ⟨lw_p25, List.forall_mem_cons.mpr ⟨lw_p26, List.forall_mem_cons.mpr ⟨lw_p27, List.forall_mem_cons.mpr ⟨lw_p28, List.forall_mem_cons.mpr ⟨lw_p29, List.forall_mem_cons.mpr ⟨lw_p30, List.forall_mem_cons.mpr ⟨lw_p31, fun _ h => absurd h List.not_mem_nil⟩⟩⟩⟩⟩⟩⟩⟩⟩⟩⟩⟩⟩⟩⟩⟩
theorem lw_p32 : lw_okq (⟨"FestoonModel", "alike", "(II)I"⟩, 22) := ⟨⟨by decide +kernel, by decide +kernel⟩, List.mem_of_getElem? (i := 547) (by decide +kernel), List.mem_of_getElem? (i := 784) (by decide +kernel), List.mem_of_getElem? (i := 785) (by decide +kernel)⟩
def lw_privs_3 : List (MethodName × Nat) := [(⟨"FestoonModel", "alike", "(II)I"⟩, 22)]
theorem lw_r3 : ∀ q ∈ lw_privs_3, lw_okq q := List.forall_mem_cons.mpr ⟨lw_p32, fun _ h => absurd h List.not_mem_nil⟩
def lw_privs : List (MethodName × Nat) := lw_privs_1 ++ (lw_privs_2 ++ (lw_privs_3))
def lw_tbl : List Cond := k2_sels lw_privs ++ tables_1
theorem lw_privs_ok : ∀ q ∈ lw_privs, lw_okq q := by
  show ∀ q ∈ lw_privs_1 ++ (lw_privs_2 ++ (lw_privs_3)), lw_okq q
  exact List.forall_mem_append.mpr ⟨lw_r1, List.forall_mem_append.mpr ⟨lw_r2, lw_r3⟩⟩
end
section
/-! ===== BEGIN words of one list among another's, by their places ===== -/
theorem goodIn_r {big : List Cond} (ws : List Cond) (ps : List Nat) (hp : ws = ps.filterMap (fun i => big[i]?)) (h : ws.all goodWord = true) : GoodIn big ws := by
  intro w hw
  have h1 := List.all_eq_true.mp h w hw
  rw [hp] at hw
  obtain ⟨i, -, hi⟩ := List.mem_filterMap.mp hw
  have hm : w ∈ big := by first | exact List.mem_of_getElem? hi | exact List.getElem?_mem hi
  exact ⟨hm, good_of_word h1⟩
theorem goodIn_app {big a b : List Cond} (ha : GoodIn big a) (hb : GoodIn big b) : GoodIn big (a ++ b) := fun w h => (List.mem_append.mp h).elim (ha w) (hb w)
theorem goodIn_ca {big a b : List Cond} {c : Cond} (ha : GoodIn big (c :: a)) (hb : GoodIn big b) : GoodIn big (c :: (a ++ b)) := fun w h => (List.mem_cons.mp h).elim (fun e => ha w (List.mem_cons.mpr (Or.inl e))) (fun h => (List.mem_append.mp h).elim (fun h => ha w (List.mem_cons.mpr (Or.inr h))) (hb w))
theorem goodIn_sub {big ws : List Cond} (hm : ∀ w ∈ ws, w ∈ big) (h : ws.all goodWord = true) : GoodIn big ws := fun w hw => ⟨hm w hw, good_of_word (List.all_eq_true.mp h w hw)⟩
/-! ===== END ===== -/

/-! ===== BEGIN exceptions that leave a method, and their catching by the caller (launches without stack traces) ===== -/
section VXA
/-! The laws vx_back, vx_callV, vx_callS, vx_callSW, vx_throw0, vx_throwS follow proofs of the library, with one case more: JvmDerived/Free/Laws.lean (Back.of_free), Shelf42/LK1.lean (callV, callS), Shelf/KitTraced.lean (throwNew0V, throwNewS). -/
/-- where a method has thrown q: the class by its name, the cell, what was written, the world -/
def vx_T (XC : String → State → State → Prop) (st : State) (q : Addr) (t : State) (mc ms : Nat) (free : Addr → Prop) : Prop :=
  ∃ (E : String) (ce : Cell) (L : List Loc), XC E st t ∧ t.heap[q]? = some ce ∧ ce.vm = .none ∧ st.vm.findClass E = some ce.cls ∧ st.WarmedH t.vm ∧ st.sameButNew ({ t with vm := st.vm } : State) L mc ms ∧ ∀ z ∈ L, free z.base
def vx_Q (Qc : Array Value → State → Outcome → State → Prop) (XC : String → State → State → Prop) (mc ms : Nat) (free : Addr → Prop) : Array Value → State → Outcome → State → Prop := fun a st o t =>
  (Qc a st o t ∧ ∃ L, FrameEnd st o t L mc ms ∧ ∀ q ∈ L, free q.base) ∨ ∃ q, o = .threw q ∧ vx_T XC st q t mc ms free
/-- a callee that returns or throws -/
def vx_Met (l : Launch) (y : MethodName) (ws : List Cond) (rm : Room) (Pc : Array Value → State → Prop) (Qc : Array Value → State → Outcome → State → Prop) (XC : String → State → State → Prop) (mc ms : Nat) (free : Addr → Prop) : Prop :=
  MetFree l y (headSpec ws rm) Pc (fun _ _ _ _ _ => True) (vx_Q Qc XC mc ms free)
def vx_Post (XC : String → State → State → Prop) (mc ms : Nat) (free : Addr → Prop) : Pt → Array Value → Addr → Pt → Prop := fun A a q B =>
  ∃ (g : JFrame) (mk : MethodId) (t : State) (L : List Loc) (E : String) (ce : Cell), B.U.heap = t.heap ∧ B.U.vm = t.vm ∧ XC E (A.U.calling g mk a) t ∧ t.heap[q]? = some ce ∧ ce.vm = .none ∧ A.U.vm.findClass E = some ce.cls ∧ B.locs = A.locs ++ L ∧ (∀ z ∈ L, free z.base) ∧ B.cells = A.cells + mc ∧ B.slots = A.slots + ms
def vx_Back (l : Launch) (R : Room) (p : Program) (e : Env) (below : List Frame) (s : State) (sargs : Array Value) (y : MethodName) (len W9 : Nat)
    (Pre : Pt → Array Value → Prop) (Post : Pt → Array Value → Option Value → Pt → Prop) (PostX : Pt → Array Value → Addr → Pt → Prop) : Prop :=
  ∀ (m : MethodId) (meth : Method) (c : Code) (A : Pt) (g : JFrame) (ig : Instr) (mk : MethodId) (a : Array Value),
    Stand p l e R s m sargs below meth c A.U A.locs A.cells A.slots → g.method = m → g.locals.size = c.maxLocals → decode c.code g.pc = .ok (ig, len) →
    2 * g.monitorRoom + (g.stack.map fun v => v.category).sum ≤ W9 → A.U.methodNamed? y = some mk → Pre A a →
    (∃ (v : Option Value) (B : Pt), Stand p l e R s m sargs below meth c B.U B.locs B.cells B.slots ∧ Post A a v B ∧
      Steps p.tables e below (doInvoke e (A.U.setTop g) [] mk a).1 (B.U.setTop { g with pc := g.pc + len, stack := v.toList ++ g.stack })) ∨
    (∃ (q : Addr) (B : Pt), Stand p l e R s m sargs below meth c B.U B.locs B.cells B.slots ∧ PostX A a q B ∧
      Steps p.tables e below (doInvoke e (A.U.setTop g) [] mk a).1 ((B.U.setTop g).pushFrame (.throwing q)))
section Payer
variable {l : Launch} {R : Room} {p : Program} {e : Env} {below : List Frame} {s : State} {sargs : Array Value} {y : MethodName} {len W9 : Nat}
theorem vx_back {ws : List Cond} {rm : Room} {Pc : Array Value → State → Prop} {Qc : Array Value → State → Outcome → State → Prop} {XC : String → State → State → Prop} {mc ms : Nat} {free : Addr → Prop} {bytes : ByteArray} {maxL : Nat} {ret : Option FieldType}
    (hM : vx_Met l y ws rm Pc Qc XC mc ms free) (hblind : FrameBlind Pc) (hrc : rm.cells = mc) (hrs : rm.slots = ms)
    (hframes : rm.frames + 1 ≤ R.frames) (hlocals : W9 + (maxL + 11) + rm.locals ≤ R.locals)
    (hws : ∀ w ∈ ws, ∀ a' U, s.WarmedH U.vm → w.before a' U = true) (hcode : Cond.code y bytes maxL ret ∈ ws) (hinit : ∀ a' U, s.WarmedH U.vm → (Cond.initialized y.cls).before a' U = true) :
    vx_Back l R p e below s sargs y len W9 (PreOf R mc ms Pc) (PostOf Qc mc ms free) (vx_Post XC mc ms free) := by
  intro m meth c A g ig mk a X hg hsize hdg hW hn hp
  have h1 : (headSpec ws rm).pre.before a A.U = true := atoms_intro fun w hw => hws w hw _ _ X.warmed
  have h2 : (Cond.code y bytes maxL ret).before a A.U = true := hws _ hcode _ _ X.warmed
  have h3 : (Cond.initialized y.cls).before a A.U = true := hinit _ _ X.warmed
  have h4 : A.cells + (headSpec ws rm).room.cells ≤ R.cells := by rw [show (headSpec ws rm).room.cells = mc from hrc]; exact hp.1
  have h5 : A.slots + (headSpec ws rm).room.slots ≤ R.slots := by rw [show (headSpec ws rm).room.slots = ms from hrs]; exact hp.2.1
  have hPc : Pc a (A.U.calling g mk a) := hblind _ _ _ _ hp.2.2
  obtain ⟨U, Ls, c0, s0⟩ := A
  dsimp only [Pt.U, Pt.locs, Pt.cells, Pt.slots] at h1 h2 h3 h4 h5 X hn hPc ⊢
  obtain ⟨methY, cY, hmY, hcY, -, hlY, -, -, -, -⟩ := Cond.code_spec hn h2
  obtain ⟨kY, hkY, -⟩ := className_of_methodNamed hn
  have hinitY : kY.init = .initialized := Cond.initialized_spec (findClass_of_methodNamed hn) hkY h3
  have h : At U g.method c below := by rw [hg]; exact X.here
  have hlocals9 : W9 + (maxL + 11) + (headSpec ws rm).room.locals ≤ R.locals := hlocals
  have happ : (headSpec ws rm).appliesLoose y e.platform (U.calling g mk a) = true :=
    Spec.appliesLoose_calling (g := g) h hdg hn hkY hinitY
      (X.room_calling (g := g) (R' := (headSpec ws rm).room) hsize hmY hcY hframes (by rw [hlY]; omega) h4 h5) h1
  obtain ⟨mid, hmid⟩ := h.above
  have hfr : (U.setTop g).frames = (.java g :: mid) ++ below := by rw [State.frames_setTop' g h.top, hmid]; rfl
  obtain ⟨o, s₂, hsteps, -, hend, hq⟩ := Steps.callFree hM p X.admits X.cas X.clock (acts := []) hfr happ hPc trivial
  have hq' : vx_Q Qc XC mc ms free a (U.calling g mk a) o s₂ := hq
  rw [State.frames_setTop' g h.top] at hend
  obtain ⟨g₀, hg0⟩ := Option.isSome_iff_exists.mp h.top
  obtain ⟨r, hr⟩ := State.topJava?_eq_some.mp hg0
  have hr' : (({ U with heap := s₂.heap, slotsUsed := s₂.slotsUsed } : State).setVm s₂.vm).frames = .java g₀ :: r := hr
  rcases hq' with ⟨hqc, L, hfe, hL⟩ | ⟨q, rfl, E, ce, L, hx, hce, hcv, hcl, hW₂, hsm, hL⟩
  · obtain ⟨⟨v, rfl⟩, hW₂, e2, q2, q3, q4, q5, q6⟩ := id hfe
    have e3 : s₂ = ({ (U.calling g mk a).setFrames s₂.frames with heap := s₂.heap, slotsUsed := s₂.slotsUsed } : State).setVm s₂.vm := by
      have : s₂ = ({ s₂ with vm := (U.calling g mk a).vm } : State).setVm s₂.vm := rfl
      rw [e2] at this
      exact this
    obtain ⟨c₂, i₂, len₂, hc₂, hd₂, hf₂⟩ := hend
    have hW' : U.WarmedH s₂.vm := hW₂
    have hcc : c₂ = c := by
      have h1 : s₂.code? g.method = U.code? g.method := by
        rw [State.code?_eq, State.code?_eq, hW'.alike.method?]
      exact Option.some.inj (hc₂.symm.trans (h1.trans h.code))
    subst hcc
    have hlen : len₂ = len := by rw [hdg] at hd₂; cases hd₂; rfl
    subst hlen
    have hs₂ : s₂ = (({ U with heap := s₂.heap, slotsUsed := s₂.slotsUsed } : State).setVm s₂.vm).setTop { g with pc := g.pc + len₂, stack := v.toList ++ g.stack } := by
      refine e3.trans ?_
      rw [hf₂, State.calling_eq h.top, State.setFrames_setFrames, State.setTop_of_frames _ hr', hr]
      rfl
    have hsame : U.sameButNew ({ U with heap := s₂.heap, slotsUsed := s₂.slotsUsed } : State) L mc ms := by
      refine ⟨?_, q2, q3, q4, q5, q6⟩
      obtain ⟨t, ht, -⟩ := State.frames_cons hr
      show ({ U with heap := s₂.heap, slotsUsed := s₂.slotsUsed } : State) = { U.setFrames U.frames with heap := s₂.heap, slotsUsed := s₂.slotsUsed }
      rw [State.setFrames_self ht]
    subst hg
    refine Or.inl ⟨v, ⟨(({ U with heap := s₂.heap, slotsUsed := s₂.slotsUsed } : State).setVm s₂.vm), Ls ++ L, c0 + mc, s0 + ms⟩,
      ⟨X.admits, X.cas, X.clock, X.frames, X.room, X.hears, X.method, X.code, (X.here.setHeapUsed s₂.heap s₂.slotsUsed).setVm hW'.alike, X.tail, State.WarmedH.trans X.warmed hW', X.limits, X.bytes, X.same.trans (hsame.setVm s.vm)⟩,
      ⟨g, mk, s₂, L, rfl, rfl, hqc, rfl, hL, rfl, rfl⟩, ?_⟩
    show Steps p.tables e below _ ((({ U with heap := s₂.heap, slotsUsed := s₂.slotsUsed } : State).setVm s₂.vm).setTop { g with pc := g.pc + len₂, stack := v.toList ++ g.stack })
    rw [← hs₂]
    exact hsteps
  · obtain ⟨e2, q2, q3, q4, q5, q6⟩ := id hsm
    have e3 : s₂ = ({ (U.calling g mk a).setFrames s₂.frames with heap := s₂.heap, slotsUsed := s₂.slotsUsed } : State).setVm s₂.vm := by
      have : s₂ = ({ s₂ with vm := (U.calling g mk a).vm } : State).setVm s₂.vm := rfl
      rw [e2] at this
      exact this
    have hf₂ : s₂.frames = .throwing q :: .java g :: U.frames.tail := hend
    have hW' : U.WarmedH s₂.vm := hW₂
    have hs₂ : s₂ = ((({ U with heap := s₂.heap, slotsUsed := s₂.slotsUsed } : State).setVm s₂.vm).setTop g).pushFrame (.throwing q) := by
      refine e3.trans ?_
      rw [hf₂, State.calling_eq h.top, State.setFrames_setFrames, State.pushFrame, State.frames_setTop _ hr', State.setTop_of_frames _ hr', State.setFrames_setFrames, hr]
      rfl
    have hsame : U.sameButNew ({ U with heap := s₂.heap, slotsUsed := s₂.slotsUsed } : State) L mc ms := by
      refine ⟨?_, q2, q3, q4, q5, q6⟩
      obtain ⟨t, ht, -⟩ := State.frames_cons hr
      show ({ U with heap := s₂.heap, slotsUsed := s₂.slotsUsed } : State) = { U.setFrames U.frames with heap := s₂.heap, slotsUsed := s₂.slotsUsed }
      rw [State.setFrames_self ht]
    subst hg
    refine Or.inr ⟨q, ⟨(({ U with heap := s₂.heap, slotsUsed := s₂.slotsUsed } : State).setVm s₂.vm), Ls ++ L, c0 + mc, s0 + ms⟩,
      ⟨X.admits, X.cas, X.clock, X.frames, X.room, X.hears, X.method, X.code, (X.here.setHeapUsed s₂.heap s₂.slotsUsed).setVm hW'.alike, X.tail, State.WarmedH.trans X.warmed hW', X.limits, X.bytes, X.same.trans (hsame.setVm s.vm)⟩,
      ⟨g, mk, s₂, L, E, ce, rfl, rfl, hx, hce, hcv, hcl, rfl, hL, rfl, rfl⟩, ?_⟩
    show Steps p.tables e below _ (((({ U with heap := s₂.heap, slotsUsed := s₂.slotsUsed } : State).setVm s₂.vm).setTop g).pushFrame (.throwing q))
    rw [← hs₂]
    exact hsteps
end Payer
section Calls
variable {p : Program} {l : Launch} {e : Env} {R : Room} {s : State} {m : MethodId} {args : Array Value} {below : List Frame} {meth : Method} {c : Code} {T : State} {locs : List Loc} {cells slots : Nat}
theorem vx_callV (X : Stand p l e R s m args below meth c T locs cells slots) (hexec : p.tables.exec = Jvm.exec) {own C : String} {index : Nat} {y : MethodName} {bytes : ByteArray} {maxL : Nat} {ret : Option FieldType}
    (hown : s.vm.findClass own = some m.cls) (hlink : (Cond.methodLink own index y).before args s = true) (hinst : (Cond.instanceMethod y).before args s = true) (hsel : (Cond.selects C y y).before args s = true)
    (hcode : (Cond.code y bytes maxL ret).before args s = true) (hy : y.cls ≠ "java/lang/invoke/MethodHandle" ∧ y.cls ≠ "java/lang/invoke/VarHandle")
    {W9 : Nat} {Pre : Pt → Array Value → Prop} {Post : Pt → Array Value → Option Value → Pt → Prop} {PostX : Pt → Array Value → Addr → Pt → Prop} (hK : vx_Back l R p e below s args y 3 W9 Pre Post PostX)
    {b : Addr} {cellB : Cell} (hcell : T.heap[b]? = some cellB) (hobj : cellB.vm.isStatics = false) (hcls : s.vm.findClass C = some cellB.cls)
    {g : JFrame} (hg : g.method = m) (hsize : g.locals.size = c.maxLocals) {argsL rest : List Value} (hlen : ∀ sig, parseMethodDescriptor y.desc = some sig → argsL.length = sig.parameters.length)
    (hstack : g.stack = argsL.reverse ++ .ref b :: rest) (hW : 2 * g.monitorRoom + (rest.map fun v => v.category).sum ≤ W9) (hdg : decode c.code g.pc = .ok (.invokevirtual index, 3))
    (hpre : ∀ vm₁, s.WarmedH vm₁ → Pre ⟨T.setVm vm₁, locs, cells, slots⟩ (Value.ref b :: argsL).toArray) :
    (∃ (v : Option Value) (vm₁ : Vm) (B : Pt), s.WarmedH vm₁ ∧ Stand p l e R s m args below meth c B.U B.locs B.cells B.slots ∧ Post ⟨T.setVm vm₁, locs, cells, slots⟩ (Value.ref b :: argsL).toArray v B ∧
      ∀ target, Steps p.tables e below (B.U.setTop { g with pc := g.pc + 3, stack := v.toList ++ rest }) target → Steps p.tables e below (T.setTop g) target) ∨
    (∃ (q : Addr) (vm₁ : Vm) (B : Pt), s.WarmedH vm₁ ∧ Stand p l e R s m args below meth c B.U B.locs B.cells B.slots ∧ PostX ⟨T.setVm vm₁, locs, cells, slots⟩ (Value.ref b :: argsL).toArray q B ∧
      Steps p.tables e below (T.setTop g) ((B.U.setTop { g with stack := rest }).pushFrame (.throwing q))) := by
  obtain ⟨mk, methM, hnamed, hmethM, hstM, habM⟩ := Cond.instanceMethod_spec hinst
  obtain ⟨methM', cM, hmethM', -, -, -, -, -, -, hsigM⟩ := Cond.code_spec hnamed hcode
  cases hmethM.symm.trans hmethM'
  obtain ⟨c2, r2, m2, q1, q2, q3, q4, kP, hkP, hkPi⟩ := Cond.selects_spec hsel
  cases hcls.symm.trans q1
  cases (State.methodFound?_of_named hnamed hy).symm.trans q2
  cases hnamed.symm.trans q3
  have hselP : selectMethod e.platform s.vm cellB.cls mk = .method mk := by rw [Launch.admits_selectMethod X.admits]; exact q4
  obtain ⟨vm₁, X₁, hstep₁⟩ := X.invokevirtual hexec hown hlink hnamed hmethM hstM hkP hkPi hy (a := b) (cell := cellB) hcell
    (fun z h => by rw [h] at hobj; cases hobj) hselP hmethM habM hkP hkPi (g := g) hg (argsL := argsL) (rest := rest) (hlen _ hsigM) hstack hdg
  rcases hK m meth c ⟨T.setVm vm₁, locs, cells, slots⟩ { g with stack := rest } (.invokevirtual index) mk (Value.ref b :: argsL).toArray X₁ hg hsize hdg hW (X₁.named hnamed) (hpre vm₁ X₁.warmed) with ⟨v, B, X', hpost, hsteps⟩ | ⟨q, B, X', hpost, hsteps⟩
  · exact Or.inl ⟨v, vm₁, B, X₁.warmed, X', hpost, fun target h => hstep₁ _ fun acts => by rw [doInvoke_state]; exact hsteps.trans h⟩
  · exact Or.inr ⟨q, vm₁, B, X₁.warmed, X', hpost, hstep₁ _ fun acts => by rw [doInvoke_state]; exact hsteps⟩
theorem vx_callS (X : Stand p l e R s m args below meth c T locs cells slots) (hexec : p.tables.exec = Jvm.exec) {own : String} {index : Nat} {y : MethodName} {bytes : ByteArray} {maxL : Nat} {ret : Option FieldType}
    (hown : s.vm.findClass own = some m.cls) (hlink : (Cond.methodLink own index y).before args s = true) (hstat : (Cond.static y).before args s = true) (hinit : (Cond.initialized y.cls).before args s = true)
    (hcode : (Cond.code y bytes maxL ret).before args s = true) (hy : y.cls ≠ "java/lang/invoke/MethodHandle" ∧ y.cls ≠ "java/lang/invoke/VarHandle")
    {W9 : Nat} {Pre : Pt → Array Value → Prop} {Post : Pt → Array Value → Option Value → Pt → Prop} {PostX : Pt → Array Value → Addr → Pt → Prop} (hK : vx_Back l R p e below s args y 3 W9 Pre Post PostX)
    {g : JFrame} (hg : g.method = m) (hsize : g.locals.size = c.maxLocals) {argsL rest : List Value} (hlen : ∀ sig, parseMethodDescriptor y.desc = some sig → argsL.length = sig.parameters.length)
    (hstack : g.stack = argsL.reverse ++ rest) (hW : 2 * g.monitorRoom + (rest.map fun v => v.category).sum ≤ W9) (hdg : decode c.code g.pc = .ok (.invokestatic index, 3))
    (hpre : ∀ vm₁, s.WarmedH vm₁ → Pre ⟨T.setVm vm₁, locs, cells, slots⟩ argsL.toArray) :
    (∃ (v : Option Value) (vm₁ : Vm) (B : Pt), s.WarmedH vm₁ ∧ Stand p l e R s m args below meth c B.U B.locs B.cells B.slots ∧ Post ⟨T.setVm vm₁, locs, cells, slots⟩ argsL.toArray v B ∧
      ∀ target, Steps p.tables e below (B.U.setTop { g with pc := g.pc + 3, stack := v.toList ++ rest }) target → Steps p.tables e below (T.setTop g) target) ∨
    (∃ (q : Addr) (vm₁ : Vm) (B : Pt), s.WarmedH vm₁ ∧ Stand p l e R s m args below meth c B.U B.locs B.cells B.slots ∧ PostX ⟨T.setVm vm₁, locs, cells, slots⟩ argsL.toArray q B ∧
      Steps p.tables e below (T.setTop g) ((B.U.setTop { g with stack := rest }).pushFrame (.throwing q))) := by
  obtain ⟨mk, hnamed⟩ := Cond.code_named hcode
  obtain ⟨methM, cM, hmethM, -, -, -, -, -, -, hsigM⟩ := Cond.code_spec hnamed hcode
  have hstatic : methM.isStatic = true := Cond.static_spec hnamed hmethM hstat
  obtain ⟨kP, hkP, -⟩ := className_of_methodNamed hnamed
  have hinitP : kP.init = .initialized := Cond.initialized_spec (findClass_of_methodNamed hnamed) hkP hinit
  obtain ⟨vm₁, X₁, hstep₁⟩ := X.invokestatic hexec hown hlink hnamed hmethM hstatic hkP hinitP hy (g := g) hg (argsL := argsL) (rest := rest) (hlen _ hsigM) hstack hdg
  rcases hK m meth c ⟨T.setVm vm₁, locs, cells, slots⟩ { g with stack := rest } (.invokestatic index) mk argsL.toArray X₁ hg hsize hdg hW (X₁.named hnamed) (hpre vm₁ X₁.warmed) with ⟨v, B, X', hpost, hsteps⟩ | ⟨q, B, X', hpost, hsteps⟩
  · exact Or.inl ⟨v, vm₁, B, X₁.warmed, X', hpost, fun target h => hstep₁ _ fun acts => by rw [doInvoke_state]; exact hsteps.trans h⟩
  · exact Or.inr ⟨q, vm₁, B, X₁.warmed, X', hpost, hstep₁ _ fun acts => by rw [doInvoke_state]; exact hsteps⟩
end Calls
theorem vx_cls {s : State} {T : State} {vm₁ : Vm} {E : String} {k : ClassId} (hW : s.WarmedH vm₁) (h : (T.setVm vm₁).vm.findClass E = some k) : s.vm.findClass E = some k := by
  have h1 : vm₁.findClass E = some k := h
  rw [hW.alike.findClass] at h1
  exact h1
/-- the method's frame g, with q thrown over it -/
def vx_W (p : Program) (l : Launch) (e : Env) (R : Room) (s : State) (m : MethodId) (args : Array Value) (below : List Frame) (meth : Method) (c : Code) (H : Heap) (locs : List Loc) (cells slots : Nat) (Q : State → Prop) (g : JFrame) (q : Addr) : Prop :=
  ∀ T : State, T.heap = H → Stand p l e R s m args below meth c T locs cells slots → ∃ t, Steps p.tables e below ((T.setTop g).pushFrame (.throwing q)) t ∧ Q t
def vx_Run (p : Program) (l : Launch) (e : Env) (R : Room) (s : State) (m : MethodId) (args : Array Value) (below : List Frame) (meth : Method) (c : Code) (H : Heap) (locs : List Loc) (cells slots mc ms : Nat) (g : JFrame) (rest : List Value) (Qa : State → Outcome → State → Prop) (XC : String → State → State → Prop) (free : Addr → Prop) : Prop :=
  ∀ T : State, T.heap = H → Stand p l e R s m args below meth c T locs cells slots →
    (∃ (v : Option Value) (st₀ t T' : State) (L : List Loc), st₀.heap = H ∧ Stand p l e R s m args below meth c T' (locs ++ L) (cells + mc) (slots + ms) ∧ (∀ q ∈ L, free q.base) ∧ T'.heap = t.heap ∧ T'.vm = t.vm ∧ Qa st₀ (.returned v) t ∧
      Goes p e below T g T' { g with pc := g.pc + 3, stack := v.toList ++ rest }) ∨
    (∃ (q : Addr) (st₀ t T' : State) (L : List Loc) (E : String) (ce : Cell), st₀.heap = H ∧ Stand p l e R s m args below meth c T' (locs ++ L) (cells + mc) (slots + ms) ∧ (∀ z ∈ L, free z.base) ∧ T'.heap = t.heap ∧ T'.vm = t.vm ∧ XC E st₀ t ∧ t.heap[q]? = some ce ∧ ce.vm = .none ∧ s.vm.findClass E = some ce.cls ∧
      Steps p.tables e below (T.setTop g) ((T'.setTop { g with stack := rest }).pushFrame (.throwing q)))
def vx_X {S : Type} (px : S → Prop) (B : String → S → State → Prop) (A : Nat → Prop) : String → State → State → Prop := fun E st t => ∃ u : S, px u ∧ B E u t ∧ va_F A st t
section Runs
variable {p : Program} {l : Launch} {e : Env} {R : Room} {s : State} {m : MethodId} {args : Array Value} {below : List Frame} {meth : Method} {c : Code} {H : Heap} {locs : List Loc} {cells slots : Nat}
variable {y : MethodName} {bytes cc : ByteArray} {maxL nL mc ms n index : Nat} {ret : Option FieldType} {ws : List Cond} {rm : Room} {Pc : Array Value → State → Prop} {Qc : Array Value → State → Outcome → State → Prop} {XC : String → State → State → Prop} {free : Addr → Prop} {Ts : List Cond} {own C : String} {b : Addr} {As rest : List Value} {g : JFrame}
theorem vx_callBack (cb : CallB R s args own index y bytes maxL ret ws rm mc ms n) (hM : vx_Met l y ws rm Pc Qc XC mc ms free) (hbl : FrameBlind Pc) : vx_Back l R p e below s args y 3 8 (PreOf R mc ms Pc) (PostOf Qc mc ms free) (vx_Post XC mc ms free) := by
  obtain ⟨hrc, hrs, hfr, hlo, hws, hcw, -, hini, -⟩ := cb
  exact vx_back (bytes := bytes) (maxL := maxL) (ret := ret) hM hbl hrc hrs hfr hlo hws hcw (fun a' U hW => word_at hW (Or.inl (by first | rfl | simp [Cond.onTables, Cond.keeps, Cond.steady])) hini)
theorem vx_runV (S : CallFix p m c cc nL s args Ts own) (hM : vx_Met l y ws rm Pc Qc XC mc ms free) (cw : CallW R s args own C index y bytes maxL ret ws rm mc ms n) (hp : PreV s H C b Pc As)
    (hg : g.method = m) (hn : As.length = n) (hsize : g.locals.size = nL) (hstack : g.stack = As.reverse ++ .ref b :: rest) (hW : 2 * g.monitorRoom + (rest.map fun v => v.category).sum ≤ 8) (hdg : decode cc g.pc = .ok (.invokevirtual index, 3)) (hf : cells + mc ≤ R.cells ∧ slots + ms ≤ R.slots) :
    vx_Run p l e R s m args below meth c H locs cells slots mc ms g rest (Qc (Value.ref b :: As).toArray) XC free := by
  have hK : vx_Back l R p e below s args y 3 8 (PreOf R mc ms Pc) (PostOf Qc mc ms free) (vx_Post XC mc ms free) := vx_callBack cw.1 hM hp.1
  obtain ⟨⟨-, -, -, -, -, -, hcode, -, hy, hlen, hl⟩, hin, hse⟩ := cw
  obtain ⟨hx, hb, hml, ho, -⟩ := S
  obtain ⟨-, ⟨cellB, hcB, hoB, hclB⟩, hPc⟩ := hp
  intro T hT X
  rcases vx_callV X hx (C := C) (bytes := bytes) (maxL := maxL) (ret := ret) ho hl hin hse hcode hy hK (by rw [hT]; exact hcB) hoB hclB hg (hsize.trans hml.symm) (argsL := As) (rest := rest) (fun sig h => hn.trans (hlen sig h)) hstack hW (by rw [hb]; exact hdg)
    (fun vm₁ hW₁ => ⟨hf.1, hf.2, hPc (T.setVm vm₁) hT hW₁⟩) with ⟨v, vm₁, ⟨U', l2, c2, s2⟩, hW₁, X', ⟨g', mk, t, L, e1, e2, hq, h1, hL, h2, h3⟩, st⟩ | ⟨q, vm₁, ⟨U', l2, c2, s2⟩, hW₁, X', ⟨g', mk, t, L, E, ce, e1, e2, hq, hce, hcv, hcl, h1, hL, h2, h3⟩, st⟩
  · dsimp only [Pt.U, Pt.locs, Pt.cells, Pt.slots] at X' e1 e2 h1 h2 h3 st
    subst h1; subst h2; subst h3
    exact Or.inl ⟨v, (T.setVm vm₁).calling g' mk (Value.ref b :: As).toArray, t, U', L, hT, X', hL, e1, e2, hq, st⟩
  · dsimp only [Pt.U, Pt.locs, Pt.cells, Pt.slots] at X' e1 e2 h1 h2 h3 st hcl
    subst h1; subst h2; subst h3
    exact Or.inr ⟨q, (T.setVm vm₁).calling g' mk (Value.ref b :: As).toArray, t, U', L, E, ce, hT, X', hL, e1, e2, hq, hce, hcv, vx_cls hW₁ hcl, st⟩
theorem vx_runS (S : CallFix p m c cc nL s args Ts own) (hM : vx_Met l y ws rm Pc Qc XC mc ms free) (cw : CallB R s args own index y bytes maxL ret ws rm mc ms n ∧ (Cond.static y).before args s = true) (hp : PreS s H Pc As)
    (hg : g.method = m) (hn : As.length = n) (hsize : g.locals.size = nL) (hstack : g.stack = As.reverse ++ rest) (hW : 2 * g.monitorRoom + (rest.map fun v => v.category).sum ≤ 8) (hdg : decode cc g.pc = .ok (.invokestatic index, 3)) (hf : cells + mc ≤ R.cells ∧ slots + ms ≤ R.slots) :
    vx_Run p l e R s m args below meth c H locs cells slots mc ms g rest (Qc As.toArray) XC free := by
  have hK : vx_Back l R p e below s args y 3 8 (PreOf R mc ms Pc) (PostOf Qc mc ms free) (vx_Post XC mc ms free) := vx_callBack cw.1 hM hp.1
  obtain ⟨⟨-, -, -, -, -, -, hcode, hini, hy, hlen, hl⟩, hstt⟩ := cw
  obtain ⟨hx, hb, hml, ho, -⟩ := S
  intro T hT X
  rcases vx_callS X hx (bytes := bytes) (maxL := maxL) (ret := ret) ho hl hstt hini hcode hy hK hg (hsize.trans hml.symm) (argsL := As) (rest := rest) (fun sig h => hn.trans (hlen sig h)) hstack hW (by rw [hb]; exact hdg)
    (fun vm₁ hW₁ => ⟨hf.1, hf.2, hp.2 (T.setVm vm₁) hT hW₁⟩) with ⟨v, vm₁, ⟨U', l2, c2, s2⟩, hW₁, X', ⟨g', mk, t, L, e1, e2, hq, h1, hL, h2, h3⟩, st⟩ | ⟨q, vm₁, ⟨U', l2, c2, s2⟩, hW₁, X', ⟨g', mk, t, L, E, ce, e1, e2, hq, hce, hcv, hcl, h1, hL, h2, h3⟩, st⟩
  · dsimp only [Pt.U, Pt.locs, Pt.cells, Pt.slots] at X' e1 e2 h1 h2 h3 st
    subst h1; subst h2; subst h3
    exact Or.inl ⟨v, (T.setVm vm₁).calling g' mk As.toArray, t, U', L, hT, X', hL, e1, e2, hq, st⟩
  · dsimp only [Pt.U, Pt.locs, Pt.cells, Pt.slots] at X' e1 e2 h1 h2 h3 st hcl
    subst h1; subst h2; subst h3
    exact Or.inr ⟨q, (T.setVm vm₁).calling g' mk As.toArray, t, U', L, E, ce, hT, X', hL, e1, e2, hq, hce, hcv, vx_cls hW₁ hcl, st⟩
end Runs
section Rows
variable {p : Program} {l : Launch} {e : Env} {R : Room} {s : State} {m : MethodId} {args : Array Value} {below : List Frame} {meth : Method} {c : Code} {H : Heap} {locs : List Loc} {cells slots : Nat} {Q : State → Prop}
variable {mc ms : Nat} {free : Addr → Prop} {A0 A1 : Nat → Prop} {H0 : Heap} {a : Array Value} {pc : Nat} {ls : Array Slot} {st0 rest : List Value}
theorem vx_keep {st₀ t T' : State} {L : List Loc} (h0 : st₀.heap = H) (e1 : T'.heap = t.heap) (hS : va_S A0 H0 H locs) (hA : ∀ q, q < H.size → A1 q → A0 q) (hf : ∀ q, free q → A0 q) (hL : ∀ q ∈ L, free q.base) (hF : va_F A1 st₀ t) :
    H.size ≤ T'.heap.size ∧ (∀ q : Nat, q < H.size → ¬ A1 q → T'.heap[q]? = H[q]?) ∧ va_S A0 H0 T'.heap (locs ++ L) := by
  obtain ⟨hz, hk⟩ := hF
  rw [h0] at hz hk
  exact ⟨by rw [e1]; exact hz, fun q h1 h2 => by rw [e1]; exact hk q h1 h2,
    ⟨Nat.le_trans hS.1 (by rw [e1]; exact hz), fun q h1 h2 => by rw [e1, hk q (Nat.lt_of_lt_of_le h1 hS.1) (fun z => h2 (hA q (Nat.lt_of_lt_of_le h1 hS.1) z))]; exact hS.2.1 q h1 h2, fun q hq => by
      rcases List.mem_append.mp hq with h | h
      · exact hS.2.2 q h
      · exact hf _ (hL q h)⟩⟩
theorem vx_calli {S SX : Type} {post : Int32 → S → Prop} {px : SX → Prop} {B : S → State → Prop} {BX : String → SX → State → Prop} {AX : Nat → Prop} (hr : vx_Run p l e R s m args below meth c H locs cells slots mc ms (F0 m pc ls st0) rest (va_Qi post B A1 a) (vx_X px BX AX) free) (hS : va_S A0 H0 H locs) (hA : ∀ q, q < H.size → A1 q → A0 q) (hf : ∀ q, free q → A0 q) (hAX : ∀ q, q < H.size → AX q → A0 q)
    (kx : ∀ (E : String) (ce : Cell) (q9 : Addr) (u : SX) (t : State) (H1 : Heap) (locs1 : List Loc), t.heap = H1 → s.vm.Alike t.vm → px u → BX E u t → H.size ≤ H1.size → (∀ q : Nat, q < H.size → ¬ AX q → H1[q]? = H[q]?) → va_S A0 H0 H1 locs1 → H1[q9]? = some ce → ce.vm = .none → s.vm.findClass E = some ce.cls → vx_W p l e R s m args below meth c H1 locs1 (cells + mc) (slots + ms) Q (F0 m pc ls rest) q9)
    (kk : ∀ (r : Int32) (u : S) (t : State) (H1 : Heap) (locs1 : List Loc), t.heap = H1 → s.vm.Alike t.vm → post r u → B u t → H.size ≤ H1.size → (∀ q : Nat, q < H.size → ¬ A1 q → H1[q]? = H[q]?) → va_S A0 H0 H1 locs1 → W p l e R s m args below meth c H1 locs1 (cells + mc) (slots + ms) Q (F0 m (pc + 3) ls (.int r :: rest))) : W p l e R s m args below meth c H locs cells slots Q (F0 m pc ls st0) := by
  intro T hT X
  rcases hr T hT X with ⟨v, st₀, t, T', L, h0, X', hL, e1, e2, ⟨⟨r, u, hv, hp, hb⟩, hF⟩, st⟩ | ⟨q, st₀, t, T', L, E, ce, h0, X', hL, e1, e2, ⟨u, hp, hb, hF⟩, hce, hcv, hcl, st⟩
  · cases hv
    obtain ⟨k1, k2, k3⟩ := vx_keep h0 e1 hS hA hf hL hF
    obtain ⟨t2, a1, b1⟩ := kk r u t T'.heap (locs ++ L) e1.symm (by rw [← e2]; exact X'.warmed.alike) hp hb k1 k2 k3 T' rfl X'
    exact ⟨t2, st t2 a1, b1⟩
  · obtain ⟨k1, k2, k3⟩ := vx_keep h0 e1 hS hAX hf hL hF
    obtain ⟨t2, a1, b1⟩ := kx E ce q u t T'.heap (locs ++ L) e1.symm (by rw [← e2]; exact X'.warmed.alike) hp hb k1 k2 k3 (by rw [e1]; exact hce) hcv hcl T' rfl X'
    exact ⟨t2, st.trans a1, b1⟩
theorem vx_calll {S SX : Type} {post : Int64 → S → Prop} {px : SX → Prop} {B : S → State → Prop} {BX : String → SX → State → Prop} {AX : Nat → Prop} (hr : vx_Run p l e R s m args below meth c H locs cells slots mc ms (F0 m pc ls st0) rest (va_Ql post B A1 a) (vx_X px BX AX) free) (hS : va_S A0 H0 H locs) (hA : ∀ q, q < H.size → A1 q → A0 q) (hf : ∀ q, free q → A0 q) (hAX : ∀ q, q < H.size → AX q → A0 q)
    (kx : ∀ (E : String) (ce : Cell) (q9 : Addr) (u : SX) (t : State) (H1 : Heap) (locs1 : List Loc), t.heap = H1 → s.vm.Alike t.vm → px u → BX E u t → H.size ≤ H1.size → (∀ q : Nat, q < H.size → ¬ AX q → H1[q]? = H[q]?) → va_S A0 H0 H1 locs1 → H1[q9]? = some ce → ce.vm = .none → s.vm.findClass E = some ce.cls → vx_W p l e R s m args below meth c H1 locs1 (cells + mc) (slots + ms) Q (F0 m pc ls rest) q9)
    (kk : ∀ (r : Int64) (u : S) (t : State) (H1 : Heap) (locs1 : List Loc), t.heap = H1 → s.vm.Alike t.vm → post r u → B u t → H.size ≤ H1.size → (∀ q : Nat, q < H.size → ¬ A1 q → H1[q]? = H[q]?) → va_S A0 H0 H1 locs1 → W p l e R s m args below meth c H1 locs1 (cells + mc) (slots + ms) Q (F0 m (pc + 3) ls (.long r :: rest))) : W p l e R s m args below meth c H locs cells slots Q (F0 m pc ls st0) := by
  intro T hT X
  rcases hr T hT X with ⟨v, st₀, t, T', L, h0, X', hL, e1, e2, ⟨⟨r, u, hv, hp, hb⟩, hF⟩, st⟩ | ⟨q, st₀, t, T', L, E, ce, h0, X', hL, e1, e2, ⟨u, hp, hb, hF⟩, hce, hcv, hcl, st⟩
  · cases hv
    obtain ⟨k1, k2, k3⟩ := vx_keep h0 e1 hS hA hf hL hF
    obtain ⟨t2, a1, b1⟩ := kk r u t T'.heap (locs ++ L) e1.symm (by rw [← e2]; exact X'.warmed.alike) hp hb k1 k2 k3 T' rfl X'
    exact ⟨t2, st t2 a1, b1⟩
  · obtain ⟨k1, k2, k3⟩ := vx_keep h0 e1 hS hAX hf hL hF
    obtain ⟨t2, a1, b1⟩ := kx E ce q u t T'.heap (locs ++ L) e1.symm (by rw [← e2]; exact X'.warmed.alike) hp hb k1 k2 k3 (by rw [e1]; exact hce) hcv hcl T' rfl X'
    exact ⟨t2, st.trans a1, b1⟩
theorem vx_callf {S SX : Type} {post : UInt32 → S → Prop} {px : SX → Prop} {B : S → State → Prop} {BX : String → SX → State → Prop} {AX : Nat → Prop} (hr : vx_Run p l e R s m args below meth c H locs cells slots mc ms (F0 m pc ls st0) rest (va_Qf post B A1 a) (vx_X px BX AX) free) (hS : va_S A0 H0 H locs) (hA : ∀ q, q < H.size → A1 q → A0 q) (hf : ∀ q, free q → A0 q) (hAX : ∀ q, q < H.size → AX q → A0 q)
    (kx : ∀ (E : String) (ce : Cell) (q9 : Addr) (u : SX) (t : State) (H1 : Heap) (locs1 : List Loc), t.heap = H1 → s.vm.Alike t.vm → px u → BX E u t → H.size ≤ H1.size → (∀ q : Nat, q < H.size → ¬ AX q → H1[q]? = H[q]?) → va_S A0 H0 H1 locs1 → H1[q9]? = some ce → ce.vm = .none → s.vm.findClass E = some ce.cls → vx_W p l e R s m args below meth c H1 locs1 (cells + mc) (slots + ms) Q (F0 m pc ls rest) q9)
    (kk : ∀ (r : UInt32) (u : S) (t : State) (H1 : Heap) (locs1 : List Loc), t.heap = H1 → s.vm.Alike t.vm → post r u → B u t → H.size ≤ H1.size → (∀ q : Nat, q < H.size → ¬ A1 q → H1[q]? = H[q]?) → va_S A0 H0 H1 locs1 → W p l e R s m args below meth c H1 locs1 (cells + mc) (slots + ms) Q (F0 m (pc + 3) ls (.float r :: rest))) : W p l e R s m args below meth c H locs cells slots Q (F0 m pc ls st0) := by
  intro T hT X
  rcases hr T hT X with ⟨v, st₀, t, T', L, h0, X', hL, e1, e2, ⟨⟨r, u, hv, hp, hb⟩, hF⟩, st⟩ | ⟨q, st₀, t, T', L, E, ce, h0, X', hL, e1, e2, ⟨u, hp, hb, hF⟩, hce, hcv, hcl, st⟩
  · cases hv
    obtain ⟨k1, k2, k3⟩ := vx_keep h0 e1 hS hA hf hL hF
    obtain ⟨t2, a1, b1⟩ := kk r u t T'.heap (locs ++ L) e1.symm (by rw [← e2]; exact X'.warmed.alike) hp hb k1 k2 k3 T' rfl X'
    exact ⟨t2, st t2 a1, b1⟩
  · obtain ⟨k1, k2, k3⟩ := vx_keep h0 e1 hS hAX hf hL hF
    obtain ⟨t2, a1, b1⟩ := kx E ce q u t T'.heap (locs ++ L) e1.symm (by rw [← e2]; exact X'.warmed.alike) hp hb k1 k2 k3 (by rw [e1]; exact hce) hcv hcl T' rfl X'
    exact ⟨t2, st.trans a1, b1⟩
theorem vx_calld {S SX : Type} {post : UInt64 → S → Prop} {px : SX → Prop} {B : S → State → Prop} {BX : String → SX → State → Prop} {AX : Nat → Prop} (hr : vx_Run p l e R s m args below meth c H locs cells slots mc ms (F0 m pc ls st0) rest (va_Qd post B A1 a) (vx_X px BX AX) free) (hS : va_S A0 H0 H locs) (hA : ∀ q, q < H.size → A1 q → A0 q) (hf : ∀ q, free q → A0 q) (hAX : ∀ q, q < H.size → AX q → A0 q)
    (kx : ∀ (E : String) (ce : Cell) (q9 : Addr) (u : SX) (t : State) (H1 : Heap) (locs1 : List Loc), t.heap = H1 → s.vm.Alike t.vm → px u → BX E u t → H.size ≤ H1.size → (∀ q : Nat, q < H.size → ¬ AX q → H1[q]? = H[q]?) → va_S A0 H0 H1 locs1 → H1[q9]? = some ce → ce.vm = .none → s.vm.findClass E = some ce.cls → vx_W p l e R s m args below meth c H1 locs1 (cells + mc) (slots + ms) Q (F0 m pc ls rest) q9)
    (kk : ∀ (r : UInt64) (u : S) (t : State) (H1 : Heap) (locs1 : List Loc), t.heap = H1 → s.vm.Alike t.vm → post r u → B u t → H.size ≤ H1.size → (∀ q : Nat, q < H.size → ¬ A1 q → H1[q]? = H[q]?) → va_S A0 H0 H1 locs1 → W p l e R s m args below meth c H1 locs1 (cells + mc) (slots + ms) Q (F0 m (pc + 3) ls (.double r :: rest))) : W p l e R s m args below meth c H locs cells slots Q (F0 m pc ls st0) := by
  intro T hT X
  rcases hr T hT X with ⟨v, st₀, t, T', L, h0, X', hL, e1, e2, ⟨⟨r, u, hv, hp, hb⟩, hF⟩, st⟩ | ⟨q, st₀, t, T', L, E, ce, h0, X', hL, e1, e2, ⟨u, hp, hb, hF⟩, hce, hcv, hcl, st⟩
  · cases hv
    obtain ⟨k1, k2, k3⟩ := vx_keep h0 e1 hS hA hf hL hF
    obtain ⟨t2, a1, b1⟩ := kk r u t T'.heap (locs ++ L) e1.symm (by rw [← e2]; exact X'.warmed.alike) hp hb k1 k2 k3 T' rfl X'
    exact ⟨t2, st t2 a1, b1⟩
  · obtain ⟨k1, k2, k3⟩ := vx_keep h0 e1 hS hAX hf hL hF
    obtain ⟨t2, a1, b1⟩ := kx E ce q u t T'.heap (locs ++ L) e1.symm (by rw [← e2]; exact X'.warmed.alike) hp hb k1 k2 k3 (by rw [e1]; exact hce) hcv hcl T' rfl X'
    exact ⟨t2, st.trans a1, b1⟩
theorem vx_callv {S SX : Type} {post : S → Prop} {px : SX → Prop} {B : S → State → Prop} {BX : String → SX → State → Prop} {AX : Nat → Prop} (hr : vx_Run p l e R s m args below meth c H locs cells slots mc ms (F0 m pc ls st0) rest (va_Qv post B A1 a) (vx_X px BX AX) free) (hS : va_S A0 H0 H locs) (hA : ∀ q, q < H.size → A1 q → A0 q) (hf : ∀ q, free q → A0 q) (hAX : ∀ q, q < H.size → AX q → A0 q)
    (kx : ∀ (E : String) (ce : Cell) (q9 : Addr) (u : SX) (t : State) (H1 : Heap) (locs1 : List Loc), t.heap = H1 → s.vm.Alike t.vm → px u → BX E u t → H.size ≤ H1.size → (∀ q : Nat, q < H.size → ¬ AX q → H1[q]? = H[q]?) → va_S A0 H0 H1 locs1 → H1[q9]? = some ce → ce.vm = .none → s.vm.findClass E = some ce.cls → vx_W p l e R s m args below meth c H1 locs1 (cells + mc) (slots + ms) Q (F0 m pc ls rest) q9)
    (kk : ∀ (u : S) (t : State) (H1 : Heap) (locs1 : List Loc), t.heap = H1 → s.vm.Alike t.vm → post u → B u t → H.size ≤ H1.size → (∀ q : Nat, q < H.size → ¬ A1 q → H1[q]? = H[q]?) → va_S A0 H0 H1 locs1 → W p l e R s m args below meth c H1 locs1 (cells + mc) (slots + ms) Q (F0 m (pc + 3) ls (rest))) : W p l e R s m args below meth c H locs cells slots Q (F0 m pc ls st0) := by
  intro T hT X
  rcases hr T hT X with ⟨v, st₀, t, T', L, h0, X', hL, e1, e2, ⟨⟨u, hv, hp, hb⟩, hF⟩, st⟩ | ⟨q, st₀, t, T', L, E, ce, h0, X', hL, e1, e2, ⟨u, hp, hb, hF⟩, hce, hcv, hcl, st⟩
  · cases hv
    obtain ⟨k1, k2, k3⟩ := vx_keep h0 e1 hS hA hf hL hF
    obtain ⟨t2, a1, b1⟩ := kk u t T'.heap (locs ++ L) e1.symm (by rw [← e2]; exact X'.warmed.alike) hp hb k1 k2 k3 T' rfl X'
    exact ⟨t2, st t2 a1, b1⟩
  · obtain ⟨k1, k2, k3⟩ := vx_keep h0 e1 hS hAX hf hL hF
    obtain ⟨t2, a1, b1⟩ := kx E ce q u t T'.heap (locs ++ L) e1.symm (by rw [← e2]; exact X'.warmed.alike) hp hb k1 k2 k3 (by rw [e1]; exact hce) hcv hcl T' rfl X'
    exact ⟨t2, st.trans a1, b1⟩
/-- caught by the row x of this method's table; the rows ahead don't take it -/
theorem vx_catch {own name : String} {E : String} {ce : Cell} {q : Addr} (hown : s.vm.findClass own = some m.cls) (pre : List ExceptionTableEntry) (x : ExceptionTableEntry) (suf : List ExceptionTableEntry) (hsplit : c.exceptionTable.toList = pre ++ x :: suf)
    (hpass : ∀ z ∈ pre, covers z pc = false ∨ (z.catchType ≠ 0 ∧ ∃ nm : String, (Cond.classLink own z.catchType nm).before args s = true ∧ va_Nc E nm s)) (hx : covers x pc = true) (h0 : x.catchType ≠ 0)
    (hlink : (Cond.classLink own x.catchType name).before args s = true) (hcast : (Cond.castable E name).before args s = true) (hcell : H[q]? = some ce) (hv : ce.vm = .none) (hcl : s.vm.findClass E = some ce.cls)
    (kk : W p l e R s m args below meth c H locs cells slots Q (F0 m x.handlerPc ls [.ref q])) : vx_W p l e R s m args below meth c H locs cells slots Q (F0 m pc ls rest) q := by
  intro T hT X
  have hpl : e.platform.magicAccessors = ({} : Platform).magicAccessors := by rw [X.admits.platform]
  obtain ⟨c3, c4, hc3, hc4, hasg⟩ := Cond.castable_spec hcast
  cases Option.some.inj (hc3.symm.trans hcl)
  obtain ⟨c5, hc5, hcl5⟩ := Cond.classLink_spec hown hlink e.platform hpl
  cases Option.some.inj (hc4.symm.trans hc5)
  obtain ⟨vm', X', st⟩ := X.thenCaughtThrough q (g := F0 m pc ls rest) rfl (Steps.refl _) (by rw [hT]; exact hcell) (by rw [hv]; rfl) (by obtain ⟨k9, h9, -⟩ := Vm.findClass_spec hcl; exact ⟨k9, h9⟩) pre x suf hsplit
    (fun z hz => by
      rcases hpass z hz with h | ⟨hz0, nm, hl1, hn1⟩
      · exact Or.inl h
      · obtain ⟨c6, hc6, hcl6⟩ := Cond.classLink_spec hown hl1 e.platform hpl
        obtain ⟨a8, b8, h1, h2, h3⟩ := hn1
        cases Option.some.inj (h1.symm.trans hcl)
        cases Option.some.inj (h2.symm.trans hc6)
        exact Or.inr ⟨hz0, _, hcl6, h3⟩) hx (Or.inr ⟨h0, c4, hcl5, hasg⟩)
  obtain ⟨t, a1, b1⟩ := kk (T.setVm vm') hT X'
  exact ⟨t, st.trans a1, b1⟩
end Rows
section Ends
variable {p : Program} {l : Launch} {e : Env} {R : Room} {s : State} {m : MethodId} {args : Array Value} {below : List Frame} {meth : Method} {c : Code} {H : Heap} {locs : List Loc} {cells slots : Nat} {Q : State → Prop}
variable {mc ms : Nat} {free : Addr → Prop} {A0 A1 : Nat → Prop} {H0 : Heap} {a : Array Value} {ls : Array Slot} {st0 rest : List Value}
variable {Qc : Array Value → State → Outcome → State → Prop} {XC : String → State → State → Prop}
/-- what a body that may throw owes at its end -/
def vx_MQ (below : List Frame) (Qc : Array Value → State → Outcome → State → Prop) (XC : String → State → State → Prop) (a : Array Value) (s : State) (mc ms : Nat) (free : Addr → Prop) : State → Prop := fun t =>
  ∃ o, t.status = .running ∧ Ended t below o ∧ vx_Q Qc XC mc ms free a s o t
theorem vx_ret {g : JFrame} {mc ms : Nat} (k : W p l e R s m args below meth c H locs cells slots (MQ below Qc args s mc ms free) g) : W p l e R s m args below meth c H locs cells slots (vx_MQ below Qc XC args s mc ms free) g := by
  intro T hT X
  obtain ⟨t, a1, o, b1, b2, b3, b4⟩ := k T hT X
  exact ⟨t, a1, o, b1, b2, Or.inl ⟨b3, b4⟩⟩
/-- not caught here: it goes on to the caller -/
theorem vx_widen {g : JFrame} {q : Addr} {k n : Nat} (h1 : cells ≤ k) (h2 : slots ≤ n) (kk : vx_W p l e R s m args below meth c H locs k n Q g q) : vx_W p l e R s m args below meth c H locs cells slots Q g q := fun T hT X => kk T hT (stand_widen X h1 h2)
theorem vx_out {pc : Nat} {E : String} {ce : Cell} {q : Addr} {mc ms : Nat} (hout : ∀ x ∈ c.exceptionTable.toList, covers x pc = false) (hlocks : meth.locks = false) (hcell : H[q]? = some ce) (hv : ce.vm = .none) (hcl : s.vm.findClass E = some ce.cls)
    (hx : ∀ t : State, t.heap = H → s.vm.Alike t.vm → XC E s t) (hf : ∀ z ∈ locs, free z.base) (hc : cells ≤ mc) (hs : slots ≤ ms) :
    vx_W p l e R s m args below meth c H locs cells slots (vx_MQ below Qc XC args s mc ms free) (F0 m pc ls rest) q := by
  intro T hT X
  obtain ⟨st1, hrun, hend, hW, hsm⟩ := X.leaveThrown q (g := F0 m pc ls rest) rfl rfl rfl hout hlocks
  have hcell9 : (T.setFrames (.throwing q :: below)).heap[q]? = some ce := by
    show T.heap[q]? = some ce
    rw [hT]; exact hcell
  exact ⟨_, st1, .threw q, hrun, hend, Or.inr ⟨q, rfl, E, ce, locs, hx _ hT hW.alike, hcell9, hv, hcl, hW, hsm.mono hc hs, hf⟩⟩
theorem vx_frame {U : State} {k n : Nat} (h : s.sameButNew ({ U with vm := s.vm } : State) locs k n) : s.heap.size ≤ U.heap.size ∧ ∀ q : Nat, q < s.heap.size → (∀ z ∈ locs, z.base ≠ q) → U.heap[q]? = s.heap[q]? := by
  obtain ⟨-, h2, -, -, -, h6⟩ := h
  refine ⟨h2, fun q hq hz => ?_⟩
  obtain ⟨c9, e1, e2, e3, e4⟩ := h6 q _ (Array.getElem?_eq_getElem hq)
  have hs : c9.slots = (s.heap[q]).slots := Array.ext_getElem? fun i => e4 i fun hm => hz _ hm rfl
  have h9 : c9 = s.heap[q] := by
    rw [hs] at e2
    exact e2
  have e5 : U.heap[q]? = some c9 := e1
  rw [e5, h9, Array.getElem?_eq_getElem hq]
/-- the words of a throw but the four that speak of the heap -/
def vx_no (w : Cond) : Bool := decide (w ≠ .isRef (.static Bundle.tN "UNASSIGNED_STACK" Bundle.steD)) && decide (w ≠ .isRef (.static Bundle.tN "SUPPRESSED_SENTINEL" Bundle.listD)) && decide (w ≠ .laysStatic Bundle.tN "UNASSIGNED_STACK" Bundle.steD) && decide (w ≠ .laysStatic Bundle.tN "SUPPRESSED_SENTINEL" Bundle.listD)
def vx_at0 (own : String) (ic : Nat) (X : String) (names : List String) : List Cond := (Bundle.ownAtoms0 own ic X names).filter vx_no
def vx_atS (own : String) (ic : Nat) (X : String) (names : List String) : List Cond := (Bundle.ownAtoms own ic X names).filter vx_no
/-- a word that the tables alone decide, or a good one -/
def vx_ot (w : Cond) : Bool := w.onTables || goodWord w
theorem vx_ot_at {args a' : Array Value} {s U : State} {w : Cond} (hW : s.WarmedH U.vm) (hvm : s.vm = U.vm) (hg : vx_ot w = true) (h : w.before args s = true) : w.before a' U = true := by
  simp only [vx_ot, Bool.or_eq_true] at hg
  rcases hg with hg | hg
  · exact va_tabs hg hvm h
  · exact word_at hW (good_of_word hg) h
/-- a list's words: the good ones out of the method's own list, the others by premises of their own -/
theorem vx_hat {args : Array Value} {s : State} {L B : List Cond} (h1 : ∀ w ∈ L.filter goodWord, w.before args s = true) (h2 : ∀ w ∈ L.filter (fun w => !goodWord w), w ∈ B) (h3 : ∀ w ∈ B, w.before args s = true) : ∀ w ∈ L, w.before args s = true := by
  intro w hw
  by_cases g : goodWord w = true
  · exact h1 w (List.mem_filter.mpr ⟨hw, g⟩)
  · refine h3 w (h2 w (List.mem_filter.mpr ⟨hw, ?_⟩))
    show (!goodWord w) = true
    cases hgw : goodWord w
    · rfl
    · exact absurd hgw g
theorem vx_c {args : Array Value} {s : State} {w : Cond} {B : List Cond} (h : w.before args s = true) (t : ∀ w ∈ B, w.before args s = true) : ∀ w' ∈ w :: B, w'.before args s = true := fun w' h' => (List.mem_cons.mp h').elim (fun e => by rw [e]; exact h) (t w')
theorem vx_n {args : Array Value} {s : State} : ∀ w ∈ ([] : List Cond), w.before args s = true := fun _ h => nomatch h
theorem vx_own {args : Array Value} {s : State} {L : List Cond} (h1 : ∀ w ∈ L.filter vx_no, w.before args s = true)
    (hU : (Cond.isRef (.static Bundle.tN "UNASSIGNED_STACK" Bundle.steD)).before args s = true) (hN : (Cond.isRef (.static Bundle.tN "SUPPRESSED_SENTINEL" Bundle.listD)).before args s = true)
    (lU : (Cond.laysStatic Bundle.tN "UNASSIGNED_STACK" Bundle.steD).before args s = true) (lN : (Cond.laysStatic Bundle.tN "SUPPRESSED_SENTINEL" Bundle.listD).before args s = true) : ∀ w ∈ L, w.before args s = true := by
  intro w hw
  by_cases e1 : w = .isRef (.static Bundle.tN "UNASSIGNED_STACK" Bundle.steD)
  · rw [e1]; exact hU
  · by_cases e2 : w = .isRef (.static Bundle.tN "SUPPRESSED_SENTINEL" Bundle.listD)
    · rw [e2]; exact hN
    · by_cases e3 : w = .laysStatic Bundle.tN "UNASSIGNED_STACK" Bundle.steD
      · rw [e3]; exact lU
      · by_cases e4 : w = .laysStatic Bundle.tN "SUPPRESSED_SENTINEL" Bundle.listD
        · rw [e4]; exact lN
        · exact h1 w (List.mem_filter.mpr ⟨hw, by unfold vx_no; rw [decide_eq_true e1, decide_eq_true e2, decide_eq_true e3, decide_eq_true e4]; rfl⟩)
/-- where a static field lies, its class's statics cell in H -/
def vx_L (C n d : String) (A : Nat → Prop) (U : State) (H : Heap) : Prop := ∃ (c : ClassId) (k : Class) (i : Nat) (f : Field) (a : Nat) (cell : Cell), U.vm.findClass C = some c ∧ U.fieldFound? C n d = some (c, k, i, f) ∧ f.isStatic = true ∧ k.statics = some a ∧ H[a]? = some cell ∧ cell.vm.isStatics = true ∧ cell.cls = c ∧ f.slot < cell.slots.size ∧ k.staticTypes[f.slot]? = some f.type ∧ ¬ A a
theorem vx_L.moved {C n d : String} {A : Nat → Prop} {u U : State} {H : Heap} (hvm : u.vm.Alike U.vm) (h : vx_L C n d A u H) : vx_L C n d A U H := by
  obtain ⟨c, k, i, f, a, cell, h1, h2, h3, h4, h5, h6, h7, h8, h9, h10⟩ := h
  obtain ⟨k', hi', he⟩ := State.fieldFound?_setVm hvm h2
  exact ⟨c, k', i, f, a, cell, by rw [hvm.findClass]; exact h1, hi', h3, by rw [he]; exact h4, h5, h6, h7, h8, by rw [he]; exact h9, h10⟩
theorem vx_L.kept {C n d : String} {A : Nat → Prop} {U : State} {H H1 : Heap} (h : vx_L C n d A U H) (hq : ∀ a : Nat, a < H.size → ¬ A a → H1[a]? = H[a]?) : vx_L C n d A U H1 := by
  obtain ⟨c, k, i, f, a, cell, h1, h2, h3, h4, h5, h6, h7, h8, h9, h10⟩ := h
  exact ⟨c, k, i, f, a, cell, h1, h2, h3, h4, by rw [hq a (Array.getElem?_eq_some_iff.mp h5).1 h10]; exact h5, h6, h7, h8, h9, h10⟩
theorem vx_L.narrow {C n d : String} {A B : Nat → Prop} {U : State} {H : Heap} (h : vx_L C n d A U H) (hAB : ∀ q, B q → A q) : vx_L C n d B U H := by
  obtain ⟨c, k, i, f, a, cell, h1, h2, h3, h4, h5, h6, h7, h8, h9, h10⟩ := h
  exact ⟨c, k, i, f, a, cell, h1, h2, h3, h4, h5, h6, h7, h8, h9, fun z => h10 (hAB _ z)⟩
theorem vx_L.word {C n d : String} {A : Nat → Prop} {s : State} {args : Array Value} (h : vx_L C n d A s s.heap) : (Cond.laysStatic C n d).before args s = true := by
  obtain ⟨c, k, i, f, a, cell, h1, h2, h3, h4, h5, h6, h7, h8, h9, -⟩ := h
  show (Cond.laysStatic C n d).holds args s none s [] = true
  exact Cond.laysStatic_of h1 h2 h3 h4 h5 h6 h7 h8 h9
/-- .. and what it holds: null or some reference -/
def vx_Zq (C n d : String) (A : Nat → Prop) (U : State) (H : Heap) : Prop := va_Zq C n d A U H ∧ vx_L C n d A U H
theorem vx_Zq.moved {C n d : String} {A : Nat → Prop} {u U : State} {H : Heap} (hvm : u.vm.Alike U.vm) (h : vx_Zq C n d A u H) : vx_Zq C n d A U H := ⟨va_Zq.moved hvm h.1, vx_L.moved hvm h.2⟩
theorem vx_Zq.kept {C n d : String} {A : Nat → Prop} {U : State} {H H1 : Heap} (h : vx_Zq C n d A U H) (hq : ∀ a : Nat, a < H.size → ¬ A a → H1[a]? = H[a]?) : vx_Zq C n d A U H1 := ⟨va_Zq.kept h.1 hq, vx_L.kept h.2 hq⟩
theorem vx_Zq.narrow {C n d : String} {A B : Nat → Prop} {U : State} {H : Heap} (h : vx_Zq C n d A U H) (hAB : ∀ q, B q → A q) : vx_Zq C n d B U H := ⟨va_Zq.narrow h.1 hAB, vx_L.narrow h.2 hAB⟩
theorem vx_Zqof {args : Array Value} {s : State} {C n d : String} {A : Nat → Prop} (hl : (Cond.laysStatic C n d).before args s = true) (hini : (Cond.initialized C).before args s = true) (h : (Cond.isRef (.static C n d)).before args s = true) (hA : ∀ a : Nat, a < s.heap.size → ¬ A a) : vx_Zq C n d A s s.heap := by
  refine ⟨va_Zqof hl hini h hA, ?_⟩
  obtain ⟨c, k, i, f, a, cell, h1, h2, h3, h4, h5, h6, h7, h8, h9⟩ := Cond.laysStatic_spec hl
  exact ⟨c, k, i, f, a, cell, h1, h2, h3, h4, h5, h6, h7, h8, h9, hA a (Array.getElem?_eq_some_iff.mp h5).1⟩
theorem vx_isRef {C n d : String} {v : Value} {A : Nat → Prop} {s : State} {args : Array Value} (h : va_Z C n d v A s s.heap) (hv : v.isRef = true) : (Cond.isRef (.static C n d)).before args s = true := by
  obtain ⟨cf, kf, fi, f, a, cell, h1, h2, h3, h4, h5, h6, h7, -⟩ := h
  have he : (Term.static C n d).eval args s none [] s = some v := by
    simp [Term.eval, State.fieldNamed?, h1, h2, h4, h5, h6, h7]
  simp only [Cond.before, Cond.holds, Cond.value, he]
  cases v <;> simp_all [Value.isRef]
theorem vx_isRefq {C n d : String} {A : Nat → Prop} {s : State} {args : Array Value} (h : va_Zq C n d A s s.heap) : (Cond.isRef (.static C n d)).before args s = true := by
  rcases h with h | ⟨t, h⟩
  · exact vx_isRef h rfl
  · exact vx_isRef h rfl
/-- the same frame, seen from here: as if the method were called anew in this heap -/
theorem vx_rebase {T : State} (X : Stand p l e R s m args below meth c T locs cells slots) {R' : Room} (hf : R'.frames ≤ R.frames) (hl : R'.locals ≤ R.locals) (hc : cells + R'.cells ≤ R.cells) (hs : slots + R'.slots ≤ R.slots) :
    Stand p l e R' ((T.setVm s.vm).setFrames (.invoking m args :: below)) m args below meth c T [] 0 0 := by
  have htop : (T.setVm s.vm).topJava?.isSome := X.here.top
  have hF : ((T.setVm s.vm).setFrames (.invoking m args :: below)).frames = .invoking m args :: below := State.frames_setFrames _ (State.cur_lt_of_top htop)
  obtain ⟨g₀, hg0⟩ := Option.isSome_iff_exists.mp htop
  obtain ⟨r, hr⟩ := State.topJava?_eq_some.mp hg0
  have hl9 : e.platform.stackLimits (T.setVm s.vm).me = e.platform.stackLimits s.me := X.limits
  have hb9 : (T.setVm s.vm).me.stackBytes = s.me.stackBytes := X.bytes
  refine ⟨X.admits, X.cas, X.clock, hF, ?_, X.hears, X.method, X.code, X.here, X.tail, X.warmed, ?_, ?_, ?_⟩
  · have h := X.room
    have hU : ((T.setVm s.vm).setFrames (.invoking m args :: below)).localsInUse = s.localsInUse := by
      rw [State.localsInUse_invoking hF (meth := meth) (c := c) X.method X.code, State.localsInUse_invoking X.frames X.method X.code]
    simp only [State.hasRoom, Bool.and_eq_true, decide_eq_true_eq] at h ⊢
    obtain ⟨⟨⟨⟨h1, h2, h3, h4, h5, h6⟩, h7⟩, h8⟩, h9⟩ := h
    rw [X.frames, List.length_cons] at h2 h3
    have q1 := X.heapSize
    have q2 := X.used
    simp only [hF, hU, List.length_cons, State.stackLimits_setFrames, State.stackBytes_setFrames, hl9, hb9]
    refine ⟨⟨⟨⟨by omega, by omega, by omega, by omega, by omega, h6⟩, ?_⟩, ?_⟩, X.book⟩
    · show T.heap.size + R'.cells ≤ e.platform.maxCells
      omega
    · show T.slotsUsed + R'.slots ≤ e.platform.maxSlots
      omega
  · rw [State.stackLimits_setFrames]; rfl
  · rw [State.stackBytes_setFrames]; rfl
  · refine ⟨?_, Nat.le_refl _, Nat.le_refl _, ?_, ?_, fun a c9 h9 => ⟨c9, h9, rfl, rfl, fun _ _ => rfl⟩⟩
    · obtain ⟨t, ht, -⟩ := State.frames_cons hr
      show T.setVm s.vm = { ((T.setVm s.vm).setFrames (.invoking m args :: below)).setFrames (T.setVm s.vm).frames with heap := T.heap, slotsUsed := T.slotsUsed }
      rw [State.setFrames_setFrames, State.setFrames_self ht]
      rfl
    · show T.slotsUsed = T.slotsUsed + ((T.heap.toList.drop T.heap.size).map (·.slots.size)).sum
      rw [List.drop_eq_nil_of_le (Nat.le_of_eq Array.length_toList)]
      rfl
    · show ((T.heap.toList.drop T.heap.size).map (·.slots.size)).sum ≤ 0
      rw [List.drop_eq_nil_of_le (Nat.le_of_eq Array.length_toList)]
      exact Nat.le_refl _
/-- 'throw new E()': new; dup; invokespecial; athrow -/
theorem vx_throw0 {cc : ByteArray} {pc : Nat} (hexec : p.tables.exec = Jvm.exec) (hb : c.code = cc) (hl : l.stackTraces = false) {own cls : String} {names : List String} {ik ic mc ms : Nat} {A : Nat → Prop}
    (hown : s.vm.findClass own = some m.cls) (hcls : Bundle.fit cls = true) (hnames : ∀ n ∈ names, Bundle.fit n = true)
    (hk : (Cond.classLink own ik cls).before args s = true) (hini : (Cond.initialized cls).before args s = true) (hat : ∀ w ∈ vx_at0 own ic cls names, w.before args s = true)
    (hgood : ∀ w ∈ Cond.classLink own ik cls :: Cond.initialized cls :: vx_at0 own ic cls names, vx_ot w = true)
    (hU : vx_Zq Bundle.tN "UNASSIGNED_STACK" Bundle.steD A s s.heap) (hN : vx_Zq Bundle.tN "SUPPRESSED_SENTINEL" Bundle.listD A s s.heap) (hS : va_S A s.heap H locs) (hsize : ls.size = c.maxLocals)
    (d0 : decode cc pc = .ok (.new ik, 3)) (d3 : decode cc (pc + 3) = .ok (.dup, 1)) (d4 : decode cc (pc + 4) = .ok (.invokespecial ic, 3)) (d7 : decode cc (pc + 7) = .ok (.athrow, 1))
    (hout : ∀ x ∈ c.exceptionTable.toList, covers x (pc + 7) = false)
    (hRframes : names.length + 3 < R.frames) (hRlocals : (rest.map fun v => v.category).sum + (13 * (names.length + 1) + 42) ≤ R.locals) (hRcells : cells + 1 ≤ R.cells) (hRslots : slots + 6 ≤ R.slots) (hlocks : meth.locks = false)
    (hx : ∀ t : State, s.vm.Alike t.vm → H.size ≤ t.heap.size → (∀ q : Nat, q < H.size → t.heap[q]? = H[q]?) → XC cls s t)
    (hf : ∀ z ∈ locs, free z.base) (hc : cells + 1 ≤ mc) (hs : slots + 6 ≤ ms) :
    W p l e R s m args below meth c H locs cells slots (vx_MQ below Qc XC args s mc ms free) (F0 m pc ls rest) := by
  intro T hT X
  have htr : e.platform.stackTraces = false := (show e.platform.stackTraces = l.stackTraces by rw [X.admits.platform]).trans hl
  have Y := vx_rebase X (R' := { frames := R.frames, locals := R.locals, cells := 1, slots := 6 }) (Nat.le_refl _) (Nat.le_refl _) hRcells hRslots
  obtain ⟨s', hA⟩ : ∃ z, z = (T.setVm s.vm).setFrames (.invoking m args :: below) := ⟨_, rfl⟩
  rw [← hA] at Y
  have hvm : s'.vm = s.vm := by rw [hA]; rfl
  have hhp : s'.heap = H := by rw [hA]; exact hT
  have hW0 : s.WarmedH s'.vm := by rw [hvm]; exact State.WarmedH.refl s
  have hat' : ∀ w ∈ vx_at0 own ic cls names, w.before args s' = true := fun w hw => vx_ot_at hW0 hvm.symm (hgood w (List.mem_cons_of_mem _ (List.mem_cons_of_mem _ hw))) (hat w hw)
  have hk' : (Cond.classLink own ik cls).before args s' = true := vx_ot_at hW0 hvm.symm (hgood _ List.mem_cons_self) hk
  have hini' : (Cond.initialized cls).before args s' = true := vx_ot_at hW0 hvm.symm (hgood _ (List.mem_cons_of_mem _ List.mem_cons_self)) hini
  have hU' : vx_Zq Bundle.tN "UNASSIGNED_STACK" Bundle.steD A s' s'.heap := by rw [hhp]; exact vx_Zq.moved hW0.alike (hU.kept hS.2.1)
  have hN' : vx_Zq Bundle.tN "SUPPRESSED_SENTINEL" Bundle.listD A s' s'.heap := by rw [hhp]; exact vx_Zq.moved hW0.alike (hN.kept hS.2.1)
  have h : ∀ w ∈ Bundle.ownAtoms0 own ic cls names, w.before args s' = true := vx_own hat' (vx_isRefq hU'.1) (vx_isRefq hN'.1) hU'.2.word hN'.2.word
  have hown' : s'.vm.findClass own = some m.cls := by rw [hvm]; exact hown
  have hins : (Cond.instantiable cls 6).before args s' = true := h _ (by simp [Bundle.ownAtoms0])
  obtain ⟨vm₁, cX, kX, hfX, hkX, -, -, X₁, st1⟩ := Y.newCold hexec (own := own) (C := cls) (index := ik) (n := 6) hown' hk' hins hini'
    (g := F0 m pc ls rest) rfl (by rw [hb]; exact d0) (Nat.le_refl _) (Nat.le_refl _)
  generalize hT1 : (T.setVm vm₁).pushCell { cls := cX, slots := kX.instanceTypes.map defaultValue, vm := .none } = T1 at X₁ st1
  have hcat : (Value.ref T.heap.size).category = 1 := rfl
  have hcellA : T1.heap[T.heap.size]? = some (freshCell cX kX) := by rw [← hT1]; exact State.heap_pushCell_size _ _
  have d3' : decode c.code (pc + 3) = .ok (.dup, 1) := by rw [hb]; exact d3
  obtain ⟨U, hsteps, hrun, hend, hW, hsame, ce, hce, hO⟩ := X₁.ctorThrow0 hexec htr (own := own) (cls := cls) (names := names) (ic := ic) hown' hcls hnames h (fun x hx => nomatch hx) hfX hkX hcellA (by rw [hhp, hT]; exact Nat.le_refl _)
    (g := { method := m, pc := pc + 4, locals := ls, stack := .ref T.heap.size :: .ref T.heap.size :: rest, locked := none }) rfl hsize rfl rfl (rest := rest) rfl
    (by rw [hb]; exact d4) (by rw [hb]; exact d7) hout hRframes (by simp only [List.map_cons, List.sum_cons, hcat]; omega) hlocks
  obtain ⟨f1, f2⟩ := vx_frame hsame
  rw [hhp] at f1 f2
  have hWs : s.WarmedH U.vm := State.WarmedH.trans hW0 hW
  have hcl : s.vm.findClass cls = some ce.cls := by
    have h9 := hO.cls
    rw [hvm] at h9
    exact h9
  have hall : s.sameButNew ({ U with vm := s.vm } : State) locs mc ms := by
    subst hA
    obtain ⟨e1, e2⟩ := hsame
    rw [State.setFrames_setFrames] at e1
    have h2 : (T.setVm s.vm).sameButNew ({ U with vm := s.vm } : State) [] (0 + 1) (0 + 6) := ⟨e1, e2⟩
    have h3 := X.same.trans h2
    rw [List.append_nil] at h3
    exact h3.mono hc hs
  refine ⟨U, ?_, .threw T.heap.size, hrun, hend, Or.inr ⟨T.heap.size, rfl, cls, ce, locs, hx U hWs.alike f1 (fun q hq => f2 q hq (fun z hz => nomatch hz)), hce, hO.vm, hcl, hWs, hall, hf⟩⟩
  refine st1 _ ?_
  show Steps p.tables e below (T1.setTop { method := m, pc := pc + 3, locals := ls, stack := .ref T.heap.size :: rest, locked := none }) _
  jvm_step X₁.here [X₁.here.top, hexec, d3', Value.category]
  exact hsteps
/-- 'throw new E("text")': new; dup; ldc; invokespecial; athrow -/
theorem vx_throwS {cc : ByteArray} {pc : Nat} (hexec : p.tables.exec = Jvm.exec) (hb : c.code = cc) (hl : l.stackTraces = false) {own cls text : String} {names : List String} {ik is ic mc ms sa : Nat} {A : Nat → Prop}
    (hown : s.vm.findClass own = some m.cls) (hcls : Bundle.fit cls = true) (hnames : ∀ n ∈ names, Bundle.fit n = true)
    (hk : (Cond.classLink own ik cls).before args s = true) (hini : (Cond.initialized cls).before args s = true) (hstr : vk_R own is text sa s) (hat : ∀ w ∈ vx_atS own ic cls names, w.before args s = true)
    (hgood : ∀ w ∈ Cond.classLink own ik cls :: Cond.initialized cls :: vx_atS own ic cls names, vx_ot w = true)
    (hU : vx_Zq Bundle.tN "UNASSIGNED_STACK" Bundle.steD A s s.heap) (hN : vx_Zq Bundle.tN "SUPPRESSED_SENTINEL" Bundle.listD A s s.heap) (hS : va_S A s.heap H locs) (hsize : ls.size = c.maxLocals)
    (d0 : decode cc pc = .ok (.new ik, 3)) (d3 : decode cc (pc + 3) = .ok (.dup, 1)) (d4 : decode cc (pc + 4) = .ok (.ldc is, 2)) (d6 : decode cc (pc + 6) = .ok (.invokespecial ic, 3)) (d9 : decode cc (pc + 9) = .ok (.athrow, 1))
    (hout : ∀ x ∈ c.exceptionTable.toList, covers x (pc + 9) = false)
    (hRframes : names.length + 3 < R.frames) (hRlocals : (rest.map fun v => v.category).sum + (13 * (names.length + 1) + 43) ≤ R.locals) (hRcells : cells + 1 ≤ R.cells) (hRslots : slots + 6 ≤ R.slots) (hlocks : meth.locks = false)
    (hx : ∀ t : State, s.vm.Alike t.vm → H.size ≤ t.heap.size → (∀ q : Nat, q < H.size → t.heap[q]? = H[q]?) → XC cls s t)
    (hf : ∀ z ∈ locs, free z.base) (hc : cells + 1 ≤ mc) (hs : slots + 6 ≤ ms) :
    W p l e R s m args below meth c H locs cells slots (vx_MQ below Qc XC args s mc ms free) (F0 m pc ls rest) := by
  intro T hT X
  have htr : e.platform.stackTraces = false := (show e.platform.stackTraces = l.stackTraces by rw [X.admits.platform]).trans hl
  have Y := vx_rebase X (R' := { frames := R.frames, locals := R.locals, cells := 1, slots := 6 }) (Nat.le_refl _) (Nat.le_refl _) hRcells hRslots
  obtain ⟨s', hA⟩ : ∃ z, z = (T.setVm s.vm).setFrames (.invoking m args :: below) := ⟨_, rfl⟩
  rw [← hA] at Y
  have hvm : s'.vm = s.vm := by rw [hA]; rfl
  have hhp : s'.heap = H := by rw [hA]; exact hT
  have hW0 : s.WarmedH s'.vm := by rw [hvm]; exact State.WarmedH.refl s
  have hat' : ∀ w ∈ vx_atS own ic cls names, w.before args s' = true := fun w hw => vx_ot_at hW0 hvm.symm (hgood w (List.mem_cons_of_mem _ (List.mem_cons_of_mem _ hw))) (hat w hw)
  have hk' : (Cond.classLink own ik cls).before args s' = true := vx_ot_at hW0 hvm.symm (hgood _ List.mem_cons_self) hk
  have hini' : (Cond.initialized cls).before args s' = true := vx_ot_at hW0 hvm.symm (hgood _ (List.mem_cons_of_mem _ List.mem_cons_self)) hini
  have hU' : vx_Zq Bundle.tN "UNASSIGNED_STACK" Bundle.steD A s' s'.heap := by rw [hhp]; exact vx_Zq.moved hW0.alike (hU.kept hS.2.1)
  have hN' : vx_Zq Bundle.tN "SUPPRESSED_SENTINEL" Bundle.listD A s' s'.heap := by rw [hhp]; exact vx_Zq.moved hW0.alike (hN.kept hS.2.1)
  have h : ∀ w ∈ Bundle.ownAtoms own ic cls names, w.before args s' = true := vx_own hat' (vx_isRefq hU'.1) (vx_isRefq hN'.1) hU'.2.word hN'.2.word
  have hown' : s'.vm.findClass own = some m.cls := by rw [hvm]; exact hown
  have hins : (Cond.instantiable cls 6).before args s' = true := h _ (by simp [Bundle.ownAtoms])
  obtain ⟨vm₁, cX, kX, hfX, hkX, -, -, X₁, st1⟩ := Y.newCold hexec (own := own) (C := cls) (index := ik) (n := 6) hown' hk' hins hini'
    (g := F0 m pc ls rest) rfl (by rw [hb]; exact d0) (Nat.le_refl _) (Nat.le_refl _)
  generalize hT1 : (T.setVm vm₁).pushCell { cls := cX, slots := kX.instanceTypes.map defaultValue, vm := .none } = T1 at X₁ st1
  have hcat : (Value.ref T.heap.size).category = 1 := rfl
  have hcellA : T1.heap[T.heap.size]? = some (freshCell cX kX) := by rw [← hT1]; exact State.heap_pushCell_size _ _
  have d3' : decode c.code (pc + 3) = .ok (.dup, 1) := by rw [hb]; exact d3
  have d4' : decode c.code (pc + 4) = .ok (.ldc is, 2) := by rw [hb]; exact d4
  have hstr' : vk_R own is text sa s' := vk_R.warm hW0 hstr
  obtain ⟨U, hsteps, hrun, hend, hW, hsame, ce, hce, hO⟩ := X₁.ctorThrowS hexec htr (own := own) (cls := cls) (names := names) (ic := ic) hown' hcls hnames h (fun x hx => nomatch hx) hfX hkX hcellA (by rw [hhp, hT]; exact Nat.le_refl _) (msg := .ref sa) rfl
    (g := { method := m, pc := pc + 6, locals := ls, stack := .ref sa :: .ref T.heap.size :: .ref T.heap.size :: rest, locked := none }) rfl hsize rfl rfl (rest := rest) rfl
    (by rw [hb]; exact d6) (by rw [hb]; exact d9) hout hRframes (by simp only [List.map_cons, List.sum_cons, hcat]; omega) hlocks
  obtain ⟨f1, f2⟩ := vx_frame hsame
  rw [hhp] at f1 f2
  have hWs : s.WarmedH U.vm := State.WarmedH.trans hW0 hW
  have hcl : s.vm.findClass cls = some ce.cls := by
    have h9 := hO.cls
    rw [hvm] at h9
    exact h9
  have hall : s.sameButNew ({ U with vm := s.vm } : State) locs mc ms := by
    subst hA
    obtain ⟨e1, e2⟩ := hsame
    rw [State.setFrames_setFrames] at e1
    have h2 : (T.setVm s.vm).sameButNew ({ U with vm := s.vm } : State) [] (0 + 1) (0 + 6) := ⟨e1, e2⟩
    have h3 := X.same.trans h2
    rw [List.append_nil] at h3
    exact h3.mono hc hs
  refine ⟨U, ?_, .threw T.heap.size, hrun, hend, Or.inr ⟨T.heap.size, rfl, cls, ce, locs, hx U hWs.alike f1 (fun q hq => f2 q hq (fun z hz => nomatch hz)), hce, hO.vm, hcl, hWs, hall, hf⟩⟩
  refine st1 _ ?_
  show Steps p.tables e below (T1.setTop { method := m, pc := pc + 3, locals := ls, stack := .ref T.heap.size :: rest, locked := none }) _
  jvm_step X₁.here [X₁.here.top, hexec, d3', Value.category]
  exact X₁.ldcString hexec (own := own) (text := text) (index := is) (a := sa) hown' hstr'.1 hstr'.2
    (g := { method := m, pc := pc + 4, locals := ls, stack := .ref T.heap.size :: .ref T.heap.size :: rest, locked := none }) rfl d4' _ hsteps
/-- 'throw new E("text")', the text by a wide index -/
theorem vx_throwSW {cc : ByteArray} {pc : Nat} (hexec : p.tables.exec = Jvm.exec) (hb : c.code = cc) (hl : l.stackTraces = false) {own cls text : String} {names : List String} {ik is ic mc ms sa : Nat} {A : Nat → Prop}
    (hown : s.vm.findClass own = some m.cls) (hcls : Bundle.fit cls = true) (hnames : ∀ n ∈ names, Bundle.fit n = true)
    (hk : (Cond.classLink own ik cls).before args s = true) (hini : (Cond.initialized cls).before args s = true) (hstr : vk_R own is text sa s) (hat : ∀ w ∈ vx_atS own ic cls names, w.before args s = true)
    (hgood : ∀ w ∈ Cond.classLink own ik cls :: Cond.initialized cls :: vx_atS own ic cls names, vx_ot w = true)
    (hU : vx_Zq Bundle.tN "UNASSIGNED_STACK" Bundle.steD A s s.heap) (hN : vx_Zq Bundle.tN "SUPPRESSED_SENTINEL" Bundle.listD A s s.heap) (hS : va_S A s.heap H locs) (hsize : ls.size = c.maxLocals)
    (d0 : decode cc pc = .ok (.new ik, 3)) (d3 : decode cc (pc + 3) = .ok (.dup, 1)) (d4 : decode cc (pc + 4) = .ok (.ldc_w is, 3)) (d7 : decode cc (pc + 7) = .ok (.invokespecial ic, 3)) (d10 : decode cc (pc + 10) = .ok (.athrow, 1))
    (hout : ∀ x ∈ c.exceptionTable.toList, covers x (pc + 10) = false)
    (hRframes : names.length + 3 < R.frames) (hRlocals : (rest.map fun v => v.category).sum + (13 * (names.length + 1) + 43) ≤ R.locals) (hRcells : cells + 1 ≤ R.cells) (hRslots : slots + 6 ≤ R.slots) (hlocks : meth.locks = false)
    (hx : ∀ t : State, s.vm.Alike t.vm → H.size ≤ t.heap.size → (∀ q : Nat, q < H.size → t.heap[q]? = H[q]?) → XC cls s t)
    (hf : ∀ z ∈ locs, free z.base) (hc : cells + 1 ≤ mc) (hs : slots + 6 ≤ ms) :
    W p l e R s m args below meth c H locs cells slots (vx_MQ below Qc XC args s mc ms free) (F0 m pc ls rest) := by
  intro T hT X
  have htr : e.platform.stackTraces = false := (show e.platform.stackTraces = l.stackTraces by rw [X.admits.platform]).trans hl
  have Y := vx_rebase X (R' := { frames := R.frames, locals := R.locals, cells := 1, slots := 6 }) (Nat.le_refl _) (Nat.le_refl _) hRcells hRslots
  obtain ⟨s', hA⟩ : ∃ z, z = (T.setVm s.vm).setFrames (.invoking m args :: below) := ⟨_, rfl⟩
  rw [← hA] at Y
  have hvm : s'.vm = s.vm := by rw [hA]; rfl
  have hhp : s'.heap = H := by rw [hA]; exact hT
  have hW0 : s.WarmedH s'.vm := by rw [hvm]; exact State.WarmedH.refl s
  have hat' : ∀ w ∈ vx_atS own ic cls names, w.before args s' = true := fun w hw => vx_ot_at hW0 hvm.symm (hgood w (List.mem_cons_of_mem _ (List.mem_cons_of_mem _ hw))) (hat w hw)
  have hk' : (Cond.classLink own ik cls).before args s' = true := vx_ot_at hW0 hvm.symm (hgood _ List.mem_cons_self) hk
  have hini' : (Cond.initialized cls).before args s' = true := vx_ot_at hW0 hvm.symm (hgood _ (List.mem_cons_of_mem _ List.mem_cons_self)) hini
  have hU' : vx_Zq Bundle.tN "UNASSIGNED_STACK" Bundle.steD A s' s'.heap := by rw [hhp]; exact vx_Zq.moved hW0.alike (hU.kept hS.2.1)
  have hN' : vx_Zq Bundle.tN "SUPPRESSED_SENTINEL" Bundle.listD A s' s'.heap := by rw [hhp]; exact vx_Zq.moved hW0.alike (hN.kept hS.2.1)
  have h : ∀ w ∈ Bundle.ownAtoms own ic cls names, w.before args s' = true := vx_own hat' (vx_isRefq hU'.1) (vx_isRefq hN'.1) hU'.2.word hN'.2.word
  have hown' : s'.vm.findClass own = some m.cls := by rw [hvm]; exact hown
  have hins : (Cond.instantiable cls 6).before args s' = true := h _ (by simp [Bundle.ownAtoms])
  obtain ⟨vm₁, cX, kX, hfX, hkX, -, -, X₁, st1⟩ := Y.newCold hexec (own := own) (C := cls) (index := ik) (n := 6) hown' hk' hins hini'
    (g := F0 m pc ls rest) rfl (by rw [hb]; exact d0) (Nat.le_refl _) (Nat.le_refl _)
  generalize hT1 : (T.setVm vm₁).pushCell { cls := cX, slots := kX.instanceTypes.map defaultValue, vm := .none } = T1 at X₁ st1
  have hcat : (Value.ref T.heap.size).category = 1 := rfl
  have hcellA : T1.heap[T.heap.size]? = some (freshCell cX kX) := by rw [← hT1]; exact State.heap_pushCell_size _ _
  have d3' : decode c.code (pc + 3) = .ok (.dup, 1) := by rw [hb]; exact d3
  have d4' : decode c.code (pc + 4) = .ok (.ldc_w is, 3) := by rw [hb]; exact d4
  have hstr' : vk_R own is text sa s' := vk_R.warm hW0 hstr
  obtain ⟨U, hsteps, hrun, hend, hW, hsame, ce, hce, hO⟩ := X₁.ctorThrowS hexec htr (own := own) (cls := cls) (names := names) (ic := ic) hown' hcls hnames h (fun x hx => nomatch hx) hfX hkX hcellA (by rw [hhp, hT]; exact Nat.le_refl _) (msg := .ref sa) rfl
    (g := { method := m, pc := pc + 7, locals := ls, stack := .ref sa :: .ref T.heap.size :: .ref T.heap.size :: rest, locked := none }) rfl hsize rfl rfl (rest := rest) rfl
    (by rw [hb]; exact d7) (by rw [hb]; exact d10) hout hRframes (by simp only [List.map_cons, List.sum_cons, hcat]; omega) hlocks
  obtain ⟨f1, f2⟩ := vx_frame hsame
  rw [hhp] at f1 f2
  have hWs : s.WarmedH U.vm := State.WarmedH.trans hW0 hW
  have hcl : s.vm.findClass cls = some ce.cls := by
    have h9 := hO.cls
    rw [hvm] at h9
    exact h9
  have hall : s.sameButNew ({ U with vm := s.vm } : State) locs mc ms := by
    subst hA
    obtain ⟨e1, e2⟩ := hsame
    rw [State.setFrames_setFrames] at e1
    have h2 : (T.setVm s.vm).sameButNew ({ U with vm := s.vm } : State) [] (0 + 1) (0 + 6) := ⟨e1, e2⟩
    have h3 := X.same.trans h2
    rw [List.append_nil] at h3
    exact h3.mono hc hs
  refine ⟨U, ?_, .threw T.heap.size, hrun, hend, Or.inr ⟨T.heap.size, rfl, cls, ce, locs, hx U hWs.alike f1 (fun q hq => f2 q hq (fun z hz => nomatch hz)), hce, hO.vm, hcl, hWs, hall, hf⟩⟩
  refine st1 _ ?_
  show Steps p.tables e below (T1.setTop { method := m, pc := pc + 3, locals := ls, stack := .ref T.heap.size :: rest, locked := none }) _
  jvm_step X₁.here [X₁.here.top, hexec, d3', Value.category]
  exact X₁.ldcStringW hexec (own := own) (text := text) (index := is) (a := sa) hown' hstr'.1 hstr'.2
    (g := { method := m, pc := pc + 4, locals := ls, stack := .ref T.heap.size :: .ref T.heap.size :: rest, locked := none }) rfl d4' _ hsteps
end Ends
section Bodies
variable {l : Launch}
theorem vx_ofW {y : MethodName} {ws ws' : List Cond} {rm : Room} {Pc : Array Value → State → Prop} {Qc : Array Value → State → Outcome → State → Prop} {XC : String → State → State → Prop} {mc ms : Nat} {free : Addr → Prop} {cc : ByteArray} {maxL : Nat} {ret : Option FieldType}
    (hy : plainName y.cls = true) (hw : ws = Cond.code y cc maxL ret :: ws')
    (body : ∀ p e s m args below meth c s₁, BodyLoose p l y (headSpec ws rm) cc maxL ret e s m args below meth c s₁ → c.maxLocals = maxL → (∀ x ∈ c.exceptionTable.toList, False) → Pc args s →
      W p l e (headSpec ws rm).room s m args below meth c s.heap [] 0 0 (vx_MQ below Qc XC args s mc ms free) (entryFrame m args maxL)) : vx_Met l y ws rm Pc Qc XC mc ms free := by
  refine MetFree.of_bodyS (code := cc) (maxLocals := maxL) (ret := ret) hy ?_ ?_
  · intro args s m h hn
    obtain ⟨meth, c, h1, h2, h3, h4, h5, h6, -, -⟩ := Cond.code_spec hn (atoms_spec (ws := ws) h _ (by rw [hw]; exact List.mem_cons_self))
    exact ⟨meth, c, h1, h2, h3, h4, h5, h6⟩
  · intro p e s m args below meth c s₁ B hml hP _
    have hh0 : s₁.heap = s.heap := by rw [B.state]; rfl
    have ht : ∀ x ∈ c.exceptionTable.toList, False := by
      obtain ⟨meth9, c9, h1, h2, -, -, -, -, h7, -⟩ := Cond.code_spec B.named (atoms_spec (ws := ws) B.pre _ (by rw [hw]; exact List.mem_cons_self))
      cases Option.some.inj (h1.symm.trans B.method)
      cases Option.some.inj (h2.symm.trans (Stand.of_body B).code)
      intro x hx
      rw [Array.isEmpty_iff.mp h7] at hx
      cases hx
    obtain ⟨t, a1, o, b1, b2, b3⟩ := body p e s m args below meth c s₁ B hml ht hP s₁ hh0 (Stand.of_body B)
    exact ⟨t, o, a1, b1, b2, b3⟩
/-- the table of a body with handlers -/
theorem vx_table {p : Program} {x y : MethodName} {S : Spec} {cc bytes : ByteArray} {maxL maxL' : Nat} {ret ret' : Option FieldType} {e : Env} {s s₁ : State} {m : MethodId} {args : Array Value} {below : List Frame} {meth : Method} {c : Code} {hh : List (Nat × Nat × Nat × Nat)}
    (B : BodyLoose p l y S cc maxL ret e s m args below meth c s₁) (h : (Cond.codeWith y bytes maxL' ret' hh).before args s = true) : c.exceptionTable.toList = tableOf hh := by
  obtain ⟨m9, meth9, c9, hn9, h1, h2, -, -, h6, -⟩ := Cond.codeWith_spec h
  cases Option.some.inj (hn9.symm.trans B.named)
  cases Option.some.inj (h1.symm.trans B.method)
  cases Option.some.inj (h2.symm.trans (Stand.of_body B).code)
  rw [← h6, table_eq]
end Bodies
end VXA
/-! ===== END ===== -/
/-! ===== BEGIN a static call of a method with an exception table ===== -/
section VXS
variable {p : Program} {l : Launch} {e : Env} {R : Room} {s : State} {m : MethodId} {args : Array Value} {below : List Frame} {meth : Method} {c : Code} {T : State} {H : Heap} {locs : List Loc} {cells slots : Nat}
abbrev vx_CSW (R : Room) (s : State) (args : Array Value) (own : String) (index : Nat) (y : MethodName) (bytes : ByteArray) (maxL : Nat) (ret : Option FieldType) (hh : List (Nat × Nat × Nat × Nat)) (ws : List Cond) (rm : Room) (mc ms n : Nat) : Prop :=
  (rm.cells = mc ∧ rm.slots = ms ∧ rm.frames + 1 ≤ R.frames ∧ 8 + (maxL + 11) + rm.locals ≤ R.locals ∧ (∀ w ∈ ws, ∀ (a' : Array Value) (U : State), s.WarmedH U.vm → w.before a' U = true) ∧ Cond.codeWith y bytes maxL ret hh ∈ ws) ∧
  (Cond.codeWith y bytes maxL ret hh).before args s = true ∧ (Cond.initialized y.cls).before args s = true ∧ (y.cls ≠ "java/lang/invoke/MethodHandle" ∧ y.cls ≠ "java/lang/invoke/VarHandle") ∧
  (∀ sig, parseMethodDescriptor y.desc = some sig → n = sig.parameters.length) ∧ (Cond.methodLink own index y).before args s = true ∧ (Cond.static y).before args s = true
theorem vx_cwSW {own : String} {index maxL mc ms : Nat} {y : MethodName} {bytes : ByteArray} {ret : Option FieldType} {hh : List (Nat × Nat × Nat × Nat)} {Ts ws ws' : List Cond} {rm : Room} (n : Nat) (ht : ∀ w ∈ Ts, w.before args s = true) (hT : GoodIn Ts (va_wsS own index y ws)) (hw : ws = Cond.codeWith y bytes maxL ret hh :: ws') (hrc : rm.cells = mc) (hrs : rm.slots = ms)
    (hd : y.cls ≠ "java/lang/invoke/MethodHandle" ∧ y.cls ≠ "java/lang/invoke/VarHandle" ∧ (parseMethodDescriptor y.desc).map (fun d => d.parameters.length) = some n) (hR : rm.frames + 1 ≤ R.frames ∧ 8 + (maxL + 11) + rm.locals ≤ R.locals) :
    vx_CSW R s args own index y bytes maxL ret hh ws rm mc ms n := by
  have ok : ∀ w ∈ va_wsS own index y ws, w.before args s = true := fun w h => ht w (hT w h).1
  have hG : GoodIn Ts ws := fun w h => hT w (by unfold va_wsS; exact List.mem_append_right _ h)
  have hc : Cond.codeWith y bytes maxL ret hh ∈ ws := by rw [hw]; exact List.mem_cons_self
  refine ⟨⟨hrc, hrs, hR.1, hR.2, pay_in ht hG, hc⟩, ht _ (hG _ hc).1, ok _ (by simp [va_wsS]), ⟨hd.1, hd.2.1⟩, fun sig h => ?_, ok _ (by simp [va_wsS]), ok _ (by simp [va_wsS])⟩
  have h2 := hd.2.2
  rw [h] at h2
  exact (Option.some.inj h2).symm
theorem vx_callSW (X : Stand p l e R s m args below meth c T locs cells slots) (hexec : p.tables.exec = Jvm.exec) {own : String} {index : Nat} {y : MethodName} {bytes : ByteArray} {maxL : Nat} {ret : Option FieldType} {hh : List (Nat × Nat × Nat × Nat)}
    (hown : s.vm.findClass own = some m.cls) (hlink : (Cond.methodLink own index y).before args s = true) (hstat : (Cond.static y).before args s = true) (hinit : (Cond.initialized y.cls).before args s = true)
    (hcode : (Cond.codeWith y bytes maxL ret hh).before args s = true) (hy : y.cls ≠ "java/lang/invoke/MethodHandle" ∧ y.cls ≠ "java/lang/invoke/VarHandle")
    {W9 : Nat} {Pre : Pt → Array Value → Prop} {Post : Pt → Array Value → Option Value → Pt → Prop} (hK : Back l R p e below s args y 3 W9 Pre Post)
    {g : JFrame} (hg : g.method = m) (hsize : g.locals.size = c.maxLocals) {argsL rest : List Value} (hlen : ∀ sig, parseMethodDescriptor y.desc = some sig → argsL.length = sig.parameters.length)
    (hstack : g.stack = argsL.reverse ++ rest) (hW : 2 * g.monitorRoom + (rest.map fun v => v.category).sum ≤ W9) (hdg : decode c.code g.pc = .ok (.invokestatic index, 3))
    (hpre : ∀ vm₁, s.WarmedH vm₁ → Pre ⟨T.setVm vm₁, locs, cells, slots⟩ argsL.toArray) :
    ∃ (v : Option Value) (vm₁ : Vm) (B : Pt), s.WarmedH vm₁ ∧ Stand p l e R s m args below meth c B.U B.locs B.cells B.slots ∧ Post ⟨T.setVm vm₁, locs, cells, slots⟩ argsL.toArray v B ∧
      ∀ target, Steps p.tables e below (B.U.setTop { g with pc := g.pc + 3, stack := v.toList ++ rest }) target → Steps p.tables e below (T.setTop g) target := by
  obtain ⟨mk, methM, cM, hnamed, hmethM, -, -, -, -, -, -, hsigM⟩ := Cond.codeWith_spec hcode
  have hstatic : methM.isStatic = true := Cond.static_spec hnamed hmethM hstat
  obtain ⟨kP, hkP, -⟩ := className_of_methodNamed hnamed
  have hinitP : kP.init = .initialized := Cond.initialized_spec (findClass_of_methodNamed hnamed) hkP hinit
  obtain ⟨vm₁, X₁, hstep₁⟩ := X.invokestatic hexec hown hlink hnamed hmethM hstatic hkP hinitP hy (g := g) hg (argsL := argsL) (rest := rest) (hlen _ hsigM) hstack hdg
  obtain ⟨v, B, X', hpost, hsteps⟩ := hK m meth c ⟨T.setVm vm₁, locs, cells, slots⟩ { g with stack := rest } (.invokestatic index) mk argsL.toArray X₁ hg hsize hdg hW (X₁.named hnamed) (hpre vm₁ X₁.warmed)
  exact ⟨v, vm₁, B, X₁.warmed, X', hpost, fun target h => hstep₁ _ fun acts => by rw [doInvoke_state]; exact hsteps.trans h⟩
theorem vx_runSW {y : MethodName} {bytes cc : ByteArray} {maxL nL mc ms n index : Nat} {ret : Option FieldType} {hh : List (Nat × Nat × Nat × Nat)} {ws : List Cond} {rm : Room} {Pc : Array Value → State → Prop} {Qc : Array Value → State → Outcome → State → Prop} {free : Addr → Prop} {Ts : List Cond} {own : String} {As rest : List Value} {g : JFrame}
    (S : CallFix p m c cc nL s args Ts own) (hM : Met l y ws rm Pc Qc mc ms free) (cw : vx_CSW R s args own index y bytes maxL ret hh ws rm mc ms n) (hp : PreS s H Pc As)
    (hg : g.method = m) (hn : As.length = n) (hsize : g.locals.size = nL) (hstack : g.stack = As.reverse ++ rest) (hW : 2 * g.monitorRoom + (rest.map fun v => v.category).sum ≤ 8) (hdg : decode cc g.pc = .ok (.invokestatic index, 3)) (hf : cells + mc ≤ R.cells ∧ slots + ms ≤ R.slots) :
    va_Run p l e R s m args below meth c H locs cells slots mc ms g rest (Qc As.toArray) (free) := by
  obtain ⟨⟨hrc, hrs, hfr, hlo, hws, hcw⟩, hcode, hini, hy, hlen, hl, hstt⟩ := cw
  have hK : Back l R p e below s args y 3 8 (PreOf R mc ms Pc) (PostOf Qc mc ms free) := va_backW (hh := hh) (bytes := bytes) (maxL := maxL) (ret := ret) hM hp.1 hrc hrs hfr hlo hws hcw (fun a' U hW => word_at hW (Or.inl (by first | rfl | simp [Cond.onTables, Cond.keeps, Cond.steady])) hini)
  obtain ⟨hx, hb, hml, ho, -⟩ := S
  intro T hT X
  obtain ⟨v, vm₁, ⟨U', l2, c2, s2⟩, hW₁, X', ⟨g', mk, t, L, e1, e2, hq, h1, hL, h2, h3⟩, st⟩ := vx_callSW X hx (hh := hh) (bytes := bytes) (maxL := maxL) (ret := ret) ho hl hstt hini hcode hy hK hg (hsize.trans hml.symm) (argsL := As) (rest := rest) (fun sig h => hn.trans (hlen sig h)) hstack hW (by rw [hb]; exact hdg)
    (fun vm₁ hW₁ => ⟨hf.1, hf.2, hp.2 (T.setVm vm₁) hT hW₁⟩)
  dsimp only [Pt.U, Pt.locs, Pt.cells, Pt.slots] at X' e1 e2 h1 h2 h3 st
  subst h1; subst h2; subst h3
  exact ⟨v, (T.setVm vm₁).calling g' mk As.toArray, t, U', L, hT, X', hL, e1, e2, hq, st⟩
/-- not caught here, past rows that name other classes: it goes on to the caller -/
theorem vx_outP {p : Program} {l : Launch} {e : Env} {R : Room} {s : State} {m : MethodId} {args : Array Value} {below : List Frame} {meth : Method} {c : Code} {H : Heap} {locs : List Loc} {cells slots : Nat} {free : Addr → Prop} {ls : Array Slot} {rest : List Value} {Qc : Array Value → State → Outcome → State → Prop} {XC : String → State → State → Prop}
    {pc : Nat} {own E : String} {ce : Cell} {q : Addr} {mc ms : Nat} (hown : s.vm.findClass own = some m.cls) (hlocks : meth.locks = false)
    (hpass : ∀ z ∈ c.exceptionTable.toList, covers z pc = false ∨ (z.catchType ≠ 0 ∧ ∃ nm : String, (Cond.classLink own z.catchType nm).before args s = true ∧ va_Nc E nm s)) (hcell : H[q]? = some ce) (hv : ce.vm = .none) (hcl : s.vm.findClass E = some ce.cls)
    (hx : ∀ t : State, t.heap = H → s.vm.Alike t.vm → XC E s t) (hf : ∀ z ∈ locs, free z.base) (hc : cells ≤ mc) (hs : slots ≤ ms) :
    vx_W p l e R s m args below meth c H locs cells slots (vx_MQ below Qc XC args s mc ms free) (F0 m pc ls rest) q := by
  intro T hT X
  have hpl : e.platform.magicAccessors = ({} : Platform).magicAccessors := by rw [X.admits.platform]
  obtain ⟨vm', hW', X', st⟩ := X.outThrough hlocks q (g := F0 m pc ls rest) rfl rfl rfl (cell := ce) (by rw [hT]; exact hcell) (by rw [hv]; rfl)
    (by obtain ⟨k9, h9, -⟩ := Vm.findClass_spec hcl; exact ⟨k9, h9⟩) (fun z hz => by
      rcases hpass z hz with h | ⟨hz0, nm, hl1, hn1⟩
      · exact Or.inl h
      · obtain ⟨c6, hc6, hcl6⟩ := Cond.classLink_spec hown hl1 e.platform hpl
        obtain ⟨a8, b8, h1, h2, h3⟩ := hn1
        cases Option.some.inj (h1.symm.trans hcl)
        cases Option.some.inj (h2.symm.trans hc6)
        exact Or.inr ⟨hz0, _, hcl6, h3⟩)
  obtain ⟨g₀, hfr⟩ := X'.frames_eq
  have hcell9 : ((T.setVm vm').setFrames (.throwing q :: below)).heap[q]? = some ce := by
    show T.heap[q]? = some ce
    rw [hT]; exact hcell
  have hend : Ended ((T.setVm vm').setFrames (.throwing q :: below)) below (.threw q) := State.frames_setFrames _ (State.cur_lt_of_frames hfr)
  refine ⟨(T.setVm vm').setFrames (.throwing q :: below), ?_, .threw q, X'.here.running, hend, Or.inr ⟨q, rfl, E, ce, locs, hx _ hT (X'.ends _).1.alike, hcell9, hv, hcl, (X'.ends _).1, (X'.ends _).2.mono hc hs, hf⟩⟩
  rw [X.pushThrowing_eq]
  exact st
/-- a thing of a world lies in the heap -/
theorem vx_lt {D : va_G} {cl : List vw_C} {ws : va_W} {H1 : Heap} (h : va_P D cl ws H1) {k : Nat} {q : Nat × va_E} (hk : ws[k]? = some q) : q.1 < H1.size := (h k q hk).lt
end VXS
/-! ===== END ===== -/
/-! ===== BEGIN methods with a table of their own: called by a name, returning or throwing ===== -/
section VXH
/-! vx_backW, vx_callVX, vx_callSX, vx_callVW, vx_runVW, vx_runVX, vx_runSX, vx_ofWH follow the same proofs as their sisters above (Free/Laws.lean, Shelf42/LK1.lean); vx_outP calls Shelf42/NT130.lean (outThrough). -/
section
variable {l : Launch} {R : Room} {p : Program} {e : Env} {below : List Frame} {s : State} {sargs : Array Value} {y : MethodName} {len W9 : Nat}
theorem vx_backW {ws : List Cond} {rm : Room} {Pc : Array Value → State → Prop} {Qc : Array Value → State → Outcome → State → Prop} {XC : String → State → State → Prop} {mc ms : Nat} {free : Addr → Prop} {bytes : ByteArray} {maxL : Nat} {ret : Option FieldType} {hh : List (Nat × Nat × Nat × Nat)}
    (hM : vx_Met l y ws rm Pc Qc XC mc ms free) (hblind : FrameBlind Pc) (hrc : rm.cells = mc) (hrs : rm.slots = ms)
    (hframes : rm.frames + 1 ≤ R.frames) (hlocals : W9 + (maxL + 11) + rm.locals ≤ R.locals)
    (hws : ∀ w ∈ ws, ∀ a' U, s.WarmedH U.vm → w.before a' U = true) (hcode : Cond.codeWith y bytes maxL ret hh ∈ ws) (hinit : ∀ a' U, s.WarmedH U.vm → (Cond.initialized y.cls).before a' U = true) :
    vx_Back l R p e below s sargs y len W9 (PreOf R mc ms Pc) (PostOf Qc mc ms free) (vx_Post XC mc ms free) := by
  intro m meth c A g ig mk a X hg hsize hdg hW hn hp
  have h1 : (headSpec ws rm).pre.before a A.U = true := atoms_intro fun w hw => hws w hw _ _ X.warmed
  have h2 : (Cond.codeWith y bytes maxL ret hh).before a A.U = true := hws _ hcode _ _ X.warmed
  have h3 : (Cond.initialized y.cls).before a A.U = true := hinit _ _ X.warmed
  have h4 : A.cells + (headSpec ws rm).room.cells ≤ R.cells := by rw [show (headSpec ws rm).room.cells = mc from hrc]; exact hp.1
  have h5 : A.slots + (headSpec ws rm).room.slots ≤ R.slots := by rw [show (headSpec ws rm).room.slots = ms from hrs]; exact hp.2.1
  have hPc : Pc a (A.U.calling g mk a) := hblind _ _ _ _ hp.2.2
  obtain ⟨U, Ls, c0, s0⟩ := A
  dsimp only [Pt.U, Pt.locs, Pt.cells, Pt.slots] at h1 h2 h3 h4 h5 X hn hPc ⊢
  obtain ⟨m9, methY, cY, hn9, hmY, hcY, -, hlY, -⟩ := Cond.codeWith_spec h2
  cases Option.some.inj (hn9.symm.trans hn)
  obtain ⟨kY, hkY, -⟩ := className_of_methodNamed hn
  have hinitY : kY.init = .initialized := Cond.initialized_spec (findClass_of_methodNamed hn) hkY h3
  have h : At U g.method c below := by rw [hg]; exact X.here
  have hlocals9 : W9 + (maxL + 11) + (headSpec ws rm).room.locals ≤ R.locals := hlocals
  have happ : (headSpec ws rm).appliesLoose y e.platform (U.calling g mk a) = true :=
    Spec.appliesLoose_calling (g := g) h hdg hn hkY hinitY
      (X.room_calling (g := g) (R' := (headSpec ws rm).room) hsize hmY hcY hframes (by rw [hlY]; omega) h4 h5) h1
  obtain ⟨mid, hmid⟩ := h.above
  have hfr : (U.setTop g).frames = (.java g :: mid) ++ below := by rw [State.frames_setTop' g h.top, hmid]; rfl
  obtain ⟨o, s₂, hsteps, -, hend, hq⟩ := Steps.callFree hM p X.admits X.cas X.clock (acts := []) hfr happ hPc trivial
  have hq' : vx_Q Qc XC mc ms free a (U.calling g mk a) o s₂ := hq
  rw [State.frames_setTop' g h.top] at hend
  obtain ⟨g₀, hg0⟩ := Option.isSome_iff_exists.mp h.top
  obtain ⟨r, hr⟩ := State.topJava?_eq_some.mp hg0
  have hr' : (({ U with heap := s₂.heap, slotsUsed := s₂.slotsUsed } : State).setVm s₂.vm).frames = .java g₀ :: r := hr
  rcases hq' with ⟨hqc, L, hfe, hL⟩ | ⟨q, rfl, E, ce, L, hx, hce, hcv, hcl, hW₂, hsm, hL⟩
  · obtain ⟨⟨v, rfl⟩, hW₂, e2, q2, q3, q4, q5, q6⟩ := id hfe
    have e3 : s₂ = ({ (U.calling g mk a).setFrames s₂.frames with heap := s₂.heap, slotsUsed := s₂.slotsUsed } : State).setVm s₂.vm := by
      have : s₂ = ({ s₂ with vm := (U.calling g mk a).vm } : State).setVm s₂.vm := rfl
      rw [e2] at this
      exact this
    obtain ⟨c₂, i₂, len₂, hc₂, hd₂, hf₂⟩ := hend
    have hW' : U.WarmedH s₂.vm := hW₂
    have hcc : c₂ = c := by
      have h1 : s₂.code? g.method = U.code? g.method := by
        rw [State.code?_eq, State.code?_eq, hW'.alike.method?]
      exact Option.some.inj (hc₂.symm.trans (h1.trans h.code))
    subst hcc
    have hlen : len₂ = len := by rw [hdg] at hd₂; cases hd₂; rfl
    subst hlen
    have hs₂ : s₂ = (({ U with heap := s₂.heap, slotsUsed := s₂.slotsUsed } : State).setVm s₂.vm).setTop { g with pc := g.pc + len₂, stack := v.toList ++ g.stack } := by
      refine e3.trans ?_
      rw [hf₂, State.calling_eq h.top, State.setFrames_setFrames, State.setTop_of_frames _ hr', hr]
      rfl
    have hsame : U.sameButNew ({ U with heap := s₂.heap, slotsUsed := s₂.slotsUsed } : State) L mc ms := by
      refine ⟨?_, q2, q3, q4, q5, q6⟩
      obtain ⟨t, ht, -⟩ := State.frames_cons hr
      show ({ U with heap := s₂.heap, slotsUsed := s₂.slotsUsed } : State) = { U.setFrames U.frames with heap := s₂.heap, slotsUsed := s₂.slotsUsed }
      rw [State.setFrames_self ht]
    subst hg
    refine Or.inl ⟨v, ⟨(({ U with heap := s₂.heap, slotsUsed := s₂.slotsUsed } : State).setVm s₂.vm), Ls ++ L, c0 + mc, s0 + ms⟩,
      ⟨X.admits, X.cas, X.clock, X.frames, X.room, X.hears, X.method, X.code, (X.here.setHeapUsed s₂.heap s₂.slotsUsed).setVm hW'.alike, X.tail, State.WarmedH.trans X.warmed hW', X.limits, X.bytes, X.same.trans (hsame.setVm s.vm)⟩,
      ⟨g, mk, s₂, L, rfl, rfl, hqc, rfl, hL, rfl, rfl⟩, ?_⟩
    show Steps p.tables e below _ ((({ U with heap := s₂.heap, slotsUsed := s₂.slotsUsed } : State).setVm s₂.vm).setTop { g with pc := g.pc + len₂, stack := v.toList ++ g.stack })
    rw [← hs₂]
    exact hsteps
  · obtain ⟨e2, q2, q3, q4, q5, q6⟩ := id hsm
    have e3 : s₂ = ({ (U.calling g mk a).setFrames s₂.frames with heap := s₂.heap, slotsUsed := s₂.slotsUsed } : State).setVm s₂.vm := by
      have : s₂ = ({ s₂ with vm := (U.calling g mk a).vm } : State).setVm s₂.vm := rfl
      rw [e2] at this
      exact this
    have hf₂ : s₂.frames = .throwing q :: .java g :: U.frames.tail := hend
    have hW' : U.WarmedH s₂.vm := hW₂
    have hs₂ : s₂ = ((({ U with heap := s₂.heap, slotsUsed := s₂.slotsUsed } : State).setVm s₂.vm).setTop g).pushFrame (.throwing q) := by
      refine e3.trans ?_
      rw [hf₂, State.calling_eq h.top, State.setFrames_setFrames, State.pushFrame, State.frames_setTop _ hr', State.setTop_of_frames _ hr', State.setFrames_setFrames, hr]
      rfl
    have hsame : U.sameButNew ({ U with heap := s₂.heap, slotsUsed := s₂.slotsUsed } : State) L mc ms := by
      refine ⟨?_, q2, q3, q4, q5, q6⟩
      obtain ⟨t, ht, -⟩ := State.frames_cons hr
      show ({ U with heap := s₂.heap, slotsUsed := s₂.slotsUsed } : State) = { U.setFrames U.frames with heap := s₂.heap, slotsUsed := s₂.slotsUsed }
      rw [State.setFrames_self ht]
    subst hg
    refine Or.inr ⟨q, ⟨(({ U with heap := s₂.heap, slotsUsed := s₂.slotsUsed } : State).setVm s₂.vm), Ls ++ L, c0 + mc, s0 + ms⟩,
      ⟨X.admits, X.cas, X.clock, X.frames, X.room, X.hears, X.method, X.code, (X.here.setHeapUsed s₂.heap s₂.slotsUsed).setVm hW'.alike, X.tail, State.WarmedH.trans X.warmed hW', X.limits, X.bytes, X.same.trans (hsame.setVm s.vm)⟩,
      ⟨g, mk, s₂, L, E, ce, rfl, rfl, hx, hce, hcv, hcl, rfl, hL, rfl, rfl⟩, ?_⟩
    show Steps p.tables e below _ (((({ U with heap := s₂.heap, slotsUsed := s₂.slotsUsed } : State).setVm s₂.vm).setTop g).pushFrame (.throwing q))
    rw [← hs₂]
    exact hsteps
end
variable {p : Program} {l : Launch} {e : Env} {R : Room} {s : State} {m : MethodId} {args : Array Value} {below : List Frame} {meth : Method} {c : Code} {T : State} {H : Heap} {locs : List Loc} {cells slots : Nat}
theorem vx_callVX (X : Stand p l e R s m args below meth c T locs cells slots) (hexec : p.tables.exec = Jvm.exec) {own C : String} {index : Nat} {y : MethodName} {bytes : ByteArray} {maxL : Nat} {ret : Option FieldType} {hh : List (Nat × Nat × Nat × Nat)}
    (hown : s.vm.findClass own = some m.cls) (hlink : (Cond.methodLink own index y).before args s = true) (hinst : (Cond.instanceMethod y).before args s = true) (hsel : (Cond.selects C y y).before args s = true)
    (hcode : (Cond.codeWith y bytes maxL ret hh).before args s = true) (hy : y.cls ≠ "java/lang/invoke/MethodHandle" ∧ y.cls ≠ "java/lang/invoke/VarHandle")
    {W9 : Nat} {Pre : Pt → Array Value → Prop} {Post : Pt → Array Value → Option Value → Pt → Prop} {PostX : Pt → Array Value → Addr → Pt → Prop} (hK : vx_Back l R p e below s args y 3 W9 Pre Post PostX)
    {b : Addr} {cellB : Cell} (hcell : T.heap[b]? = some cellB) (hobj : cellB.vm.isStatics = false) (hcls : s.vm.findClass C = some cellB.cls)
    {g : JFrame} (hg : g.method = m) (hsize : g.locals.size = c.maxLocals) {argsL rest : List Value} (hlen : ∀ sig, parseMethodDescriptor y.desc = some sig → argsL.length = sig.parameters.length)
    (hstack : g.stack = argsL.reverse ++ .ref b :: rest) (hW : 2 * g.monitorRoom + (rest.map fun v => v.category).sum ≤ W9) (hdg : decode c.code g.pc = .ok (.invokevirtual index, 3))
    (hpre : ∀ vm₁, s.WarmedH vm₁ → Pre ⟨T.setVm vm₁, locs, cells, slots⟩ (Value.ref b :: argsL).toArray) :
    (∃ (v : Option Value) (vm₁ : Vm) (B : Pt), s.WarmedH vm₁ ∧ Stand p l e R s m args below meth c B.U B.locs B.cells B.slots ∧ Post ⟨T.setVm vm₁, locs, cells, slots⟩ (Value.ref b :: argsL).toArray v B ∧
      ∀ target, Steps p.tables e below (B.U.setTop { g with pc := g.pc + 3, stack := v.toList ++ rest }) target → Steps p.tables e below (T.setTop g) target) ∨
    (∃ (q : Addr) (vm₁ : Vm) (B : Pt), s.WarmedH vm₁ ∧ Stand p l e R s m args below meth c B.U B.locs B.cells B.slots ∧ PostX ⟨T.setVm vm₁, locs, cells, slots⟩ (Value.ref b :: argsL).toArray q B ∧
      Steps p.tables e below (T.setTop g) ((B.U.setTop { g with stack := rest }).pushFrame (.throwing q))) := by
  obtain ⟨mk, methM, hnamed, hmethM, hstM, habM⟩ := Cond.instanceMethod_spec hinst
  obtain ⟨m8, methM', cM, hn8, hmethM', -, -, -, -, -, -, hsigM⟩ := Cond.codeWith_spec hcode
  cases Option.some.inj (hn8.symm.trans hnamed)
  cases hmethM.symm.trans hmethM'
  obtain ⟨c2, r2, m2, q1, q2, q3, q4, kP, hkP, hkPi⟩ := Cond.selects_spec hsel
  cases hcls.symm.trans q1
  cases (State.methodFound?_of_named hnamed hy).symm.trans q2
  cases hnamed.symm.trans q3
  have hselP : selectMethod e.platform s.vm cellB.cls mk = .method mk := by rw [Launch.admits_selectMethod X.admits]; exact q4
  obtain ⟨vm₁, X₁, hstep₁⟩ := X.invokevirtual hexec hown hlink hnamed hmethM hstM hkP hkPi hy (a := b) (cell := cellB) hcell
    (fun z h => by rw [h] at hobj; cases hobj) hselP hmethM habM hkP hkPi (g := g) hg (argsL := argsL) (rest := rest) (hlen _ hsigM) hstack hdg
  rcases hK m meth c ⟨T.setVm vm₁, locs, cells, slots⟩ { g with stack := rest } (.invokevirtual index) mk (Value.ref b :: argsL).toArray X₁ hg hsize hdg hW (X₁.named hnamed) (hpre vm₁ X₁.warmed) with ⟨v, B, X', hpost, hsteps⟩ | ⟨q, B, X', hpost, hsteps⟩
  · exact Or.inl ⟨v, vm₁, B, X₁.warmed, X', hpost, fun target h => hstep₁ _ fun acts => by rw [doInvoke_state]; exact hsteps.trans h⟩
  · exact Or.inr ⟨q, vm₁, B, X₁.warmed, X', hpost, hstep₁ _ fun acts => by rw [doInvoke_state]; exact hsteps⟩
theorem vx_callSX (X : Stand p l e R s m args below meth c T locs cells slots) (hexec : p.tables.exec = Jvm.exec) {own : String} {index : Nat} {y : MethodName} {bytes : ByteArray} {maxL : Nat} {ret : Option FieldType} {hh : List (Nat × Nat × Nat × Nat)}
    (hown : s.vm.findClass own = some m.cls) (hlink : (Cond.methodLink own index y).before args s = true) (hstat : (Cond.static y).before args s = true) (hinit : (Cond.initialized y.cls).before args s = true)
    (hcode : (Cond.codeWith y bytes maxL ret hh).before args s = true) (hy : y.cls ≠ "java/lang/invoke/MethodHandle" ∧ y.cls ≠ "java/lang/invoke/VarHandle")
    {W9 : Nat} {Pre : Pt → Array Value → Prop} {Post : Pt → Array Value → Option Value → Pt → Prop} {PostX : Pt → Array Value → Addr → Pt → Prop} (hK : vx_Back l R p e below s args y 3 W9 Pre Post PostX)
    {g : JFrame} (hg : g.method = m) (hsize : g.locals.size = c.maxLocals) {argsL rest : List Value} (hlen : ∀ sig, parseMethodDescriptor y.desc = some sig → argsL.length = sig.parameters.length)
    (hstack : g.stack = argsL.reverse ++ rest) (hW : 2 * g.monitorRoom + (rest.map fun v => v.category).sum ≤ W9) (hdg : decode c.code g.pc = .ok (.invokestatic index, 3))
    (hpre : ∀ vm₁, s.WarmedH vm₁ → Pre ⟨T.setVm vm₁, locs, cells, slots⟩ argsL.toArray) :
    (∃ (v : Option Value) (vm₁ : Vm) (B : Pt), s.WarmedH vm₁ ∧ Stand p l e R s m args below meth c B.U B.locs B.cells B.slots ∧ Post ⟨T.setVm vm₁, locs, cells, slots⟩ argsL.toArray v B ∧
      ∀ target, Steps p.tables e below (B.U.setTop { g with pc := g.pc + 3, stack := v.toList ++ rest }) target → Steps p.tables e below (T.setTop g) target) ∨
    (∃ (q : Addr) (vm₁ : Vm) (B : Pt), s.WarmedH vm₁ ∧ Stand p l e R s m args below meth c B.U B.locs B.cells B.slots ∧ PostX ⟨T.setVm vm₁, locs, cells, slots⟩ argsL.toArray q B ∧
      Steps p.tables e below (T.setTop g) ((B.U.setTop { g with stack := rest }).pushFrame (.throwing q))) := by
  obtain ⟨mk, methM, cM, hnamed, hmethM, -, -, -, -, -, -, hsigM⟩ := Cond.codeWith_spec hcode
  have hstatic : methM.isStatic = true := Cond.static_spec hnamed hmethM hstat
  obtain ⟨kP, hkP, -⟩ := className_of_methodNamed hnamed
  have hinitP : kP.init = .initialized := Cond.initialized_spec (findClass_of_methodNamed hnamed) hkP hinit
  obtain ⟨vm₁, X₁, hstep₁⟩ := X.invokestatic hexec hown hlink hnamed hmethM hstatic hkP hinitP hy (g := g) hg (argsL := argsL) (rest := rest) (hlen _ hsigM) hstack hdg
  rcases hK m meth c ⟨T.setVm vm₁, locs, cells, slots⟩ { g with stack := rest } (.invokestatic index) mk argsL.toArray X₁ hg hsize hdg hW (X₁.named hnamed) (hpre vm₁ X₁.warmed) with ⟨v, B, X', hpost, hsteps⟩ | ⟨q, B, X', hpost, hsteps⟩
  · exact Or.inl ⟨v, vm₁, B, X₁.warmed, X', hpost, fun target h => hstep₁ _ fun acts => by rw [doInvoke_state]; exact hsteps.trans h⟩
  · exact Or.inr ⟨q, vm₁, B, X₁.warmed, X', hpost, hstep₁ _ fun acts => by rw [doInvoke_state]; exact hsteps⟩
theorem vx_callVW (X : Stand p l e R s m args below meth c T locs cells slots) (hexec : p.tables.exec = Jvm.exec) {own C : String} {index : Nat} {y : MethodName} {bytes : ByteArray} {maxL : Nat} {ret : Option FieldType} {hh : List (Nat × Nat × Nat × Nat)}
    (hown : s.vm.findClass own = some m.cls) (hlink : (Cond.methodLink own index y).before args s = true) (hinst : (Cond.instanceMethod y).before args s = true) (hsel : (Cond.selects C y y).before args s = true)
    (hcode : (Cond.codeWith y bytes maxL ret hh).before args s = true) (hy : y.cls ≠ "java/lang/invoke/MethodHandle" ∧ y.cls ≠ "java/lang/invoke/VarHandle")
    {W9 : Nat} {Pre : Pt → Array Value → Prop} {Post : Pt → Array Value → Option Value → Pt → Prop} (hK : Back l R p e below s args y 3 W9 Pre Post)
    {b : Addr} {cellB : Cell} (hcell : T.heap[b]? = some cellB) (hobj : cellB.vm.isStatics = false) (hcls : s.vm.findClass C = some cellB.cls)
    {g : JFrame} (hg : g.method = m) (hsize : g.locals.size = c.maxLocals) {argsL rest : List Value} (hlen : ∀ sig, parseMethodDescriptor y.desc = some sig → argsL.length = sig.parameters.length)
    (hstack : g.stack = argsL.reverse ++ .ref b :: rest) (hW : 2 * g.monitorRoom + (rest.map fun v => v.category).sum ≤ W9) (hdg : decode c.code g.pc = .ok (.invokevirtual index, 3))
    (hpre : ∀ vm₁, s.WarmedH vm₁ → Pre ⟨T.setVm vm₁, locs, cells, slots⟩ (Value.ref b :: argsL).toArray) :
    ∃ (v : Option Value) (vm₁ : Vm) (B : Pt), s.WarmedH vm₁ ∧ Stand p l e R s m args below meth c B.U B.locs B.cells B.slots ∧ Post ⟨T.setVm vm₁, locs, cells, slots⟩ (Value.ref b :: argsL).toArray v B ∧
      ∀ target, Steps p.tables e below (B.U.setTop { g with pc := g.pc + 3, stack := v.toList ++ rest }) target → Steps p.tables e below (T.setTop g) target := by
  obtain ⟨mk, methM, hnamed, hmethM, hstM, habM⟩ := Cond.instanceMethod_spec hinst
  obtain ⟨m8, methM', cM, hn8, hmethM', -, -, -, -, -, -, hsigM⟩ := Cond.codeWith_spec hcode
  cases Option.some.inj (hn8.symm.trans hnamed)
  cases hmethM.symm.trans hmethM'
  obtain ⟨c2, r2, m2, q1, q2, q3, q4, kP, hkP, hkPi⟩ := Cond.selects_spec hsel
  cases hcls.symm.trans q1
  cases (State.methodFound?_of_named hnamed hy).symm.trans q2
  cases hnamed.symm.trans q3
  have hselP : selectMethod e.platform s.vm cellB.cls mk = .method mk := by rw [Launch.admits_selectMethod X.admits]; exact q4
  obtain ⟨vm₁, X₁, hstep₁⟩ := X.invokevirtual hexec hown hlink hnamed hmethM hstM hkP hkPi hy (a := b) (cell := cellB) hcell
    (fun z h => by rw [h] at hobj; cases hobj) hselP hmethM habM hkP hkPi (g := g) hg (argsL := argsL) (rest := rest) (hlen _ hsigM) hstack hdg
  obtain ⟨v, B, X', hpost, hsteps⟩ := hK m meth c ⟨T.setVm vm₁, locs, cells, slots⟩ { g with stack := rest } (.invokevirtual index) mk (Value.ref b :: argsL).toArray X₁ hg hsize hdg hW (X₁.named hnamed) (hpre vm₁ X₁.warmed)
  exact ⟨v, vm₁, B, X₁.warmed, X', hpost, fun target h => hstep₁ _ fun acts => by rw [doInvoke_state]; exact hsteps.trans h⟩
abbrev vx_CVW (R : Room) (s : State) (args : Array Value) (own C : String) (index : Nat) (y : MethodName) (bytes : ByteArray) (maxL : Nat) (ret : Option FieldType) (hh : List (Nat × Nat × Nat × Nat)) (ws : List Cond) (rm : Room) (mc ms n : Nat) : Prop :=
  (rm.cells = mc ∧ rm.slots = ms ∧ rm.frames + 1 ≤ R.frames ∧ 8 + (maxL + 11) + rm.locals ≤ R.locals ∧ (∀ w ∈ ws, ∀ (a' : Array Value) (U : State), s.WarmedH U.vm → w.before a' U = true) ∧ Cond.codeWith y bytes maxL ret hh ∈ ws) ∧
  (Cond.codeWith y bytes maxL ret hh).before args s = true ∧ (Cond.initialized y.cls).before args s = true ∧ (y.cls ≠ "java/lang/invoke/MethodHandle" ∧ y.cls ≠ "java/lang/invoke/VarHandle") ∧
  (∀ sig, parseMethodDescriptor y.desc = some sig → n = sig.parameters.length) ∧ (Cond.methodLink own index y).before args s = true ∧ (Cond.instanceMethod y).before args s = true ∧ (Cond.selects C y y).before args s = true
theorem vx_cwVW {own C : String} {index maxL mc ms : Nat} {y : MethodName} {bytes : ByteArray} {ret : Option FieldType} {hh : List (Nat × Nat × Nat × Nat)} {Ts ws ws' : List Cond} {rm : Room} (n : Nat) (ht : ∀ w ∈ Ts, w.before args s = true) (hT : GoodIn Ts (wsV own index C y ws)) (hw : ws = Cond.codeWith y bytes maxL ret hh :: ws') (hrc : rm.cells = mc) (hrs : rm.slots = ms)
    (hd : y.cls = C ∧ y.cls ≠ "java/lang/invoke/MethodHandle" ∧ y.cls ≠ "java/lang/invoke/VarHandle" ∧ (parseMethodDescriptor y.desc).map (fun d => d.parameters.length) = some n) (hR : rm.frames + 1 ≤ R.frames ∧ 8 + (maxL + 11) + rm.locals ≤ R.locals) :
    vx_CVW R s args own C index y bytes maxL ret hh ws rm mc ms n := by
  obtain ⟨hC, hd⟩ := hd
  subst hC
  have ok : ∀ w ∈ wsV own index y.cls y ws, w.before args s = true := fun w h => ht w (hT w h).1
  have hG : GoodIn Ts ws := fun w h => hT w (by unfold wsV; exact List.mem_append_right _ h)
  have hc : Cond.codeWith y bytes maxL ret hh ∈ ws := by rw [hw]; exact List.mem_cons_self
  refine ⟨⟨hrc, hrs, hR.1, hR.2, pay_in ht hG, hc⟩, ht _ (hG _ hc).1, ok _ (by simp [wsV]), ⟨hd.1, hd.2.1⟩, fun sig h => ?_, ok _ (by simp [wsV]), ok _ (by simp [wsV]), ok _ (by simp [wsV])⟩
  have h2 := hd.2.2
  rw [h] at h2
  exact (Option.some.inj h2).symm
theorem vx_runVW {y : MethodName} {bytes cc : ByteArray} {maxL nL mc ms n index : Nat} {ret : Option FieldType} {hh : List (Nat × Nat × Nat × Nat)} {ws : List Cond} {rm : Room} {Pc : Array Value → State → Prop} {Qc : Array Value → State → Outcome → State → Prop} {free : Addr → Prop} {Ts : List Cond} {own C : String} {b : Addr} {As rest : List Value} {g : JFrame}
    (S : CallFix p m c cc nL s args Ts own) (hM : Met l y ws rm Pc Qc mc ms free) (cw : vx_CVW R s args own C index y bytes maxL ret hh ws rm mc ms n) (hp : PreV s H C b Pc As)
    (hg : g.method = m) (hn : As.length = n) (hsize : g.locals.size = nL) (hstack : g.stack = As.reverse ++ .ref b :: rest) (hW : 2 * g.monitorRoom + (rest.map fun v => v.category).sum ≤ 8) (hdg : decode cc g.pc = .ok (.invokevirtual index, 3)) (hf : cells + mc ≤ R.cells ∧ slots + ms ≤ R.slots) :
    va_Run p l e R s m args below meth c H locs cells slots mc ms g rest (Qc (Value.ref b :: As).toArray) free := by
  obtain ⟨⟨hrc, hrs, hfr, hlo, hws, hcw⟩, hcode, hini, hy, hlen, hl, hin, hse⟩ := cw
  have hK : Back l R p e below s args y 3 8 (PreOf R mc ms Pc) (PostOf Qc mc ms free) := va_backW (hh := hh) (bytes := bytes) (maxL := maxL) (ret := ret) hM hp.1 hrc hrs hfr hlo hws hcw (fun a' U hW => word_at hW (Or.inl (by first | rfl | simp [Cond.onTables, Cond.keeps, Cond.steady])) hini)
  obtain ⟨hx, hb, hml, ho, -⟩ := S
  obtain ⟨-, ⟨cellB, hcB, hoB, hclB⟩, hPc⟩ := hp
  intro T hT X
  obtain ⟨v, vm₁, ⟨U', l2, c2, s2⟩, hW₁, X', ⟨g', mk, t, L, e1, e2, hq, h1, hL, h2, h3⟩, st⟩ := vx_callVW X hx (C := C) (hh := hh) (bytes := bytes) (maxL := maxL) (ret := ret) ho hl hin hse hcode hy hK (by rw [hT]; exact hcB) hoB hclB hg (hsize.trans hml.symm) (argsL := As) (rest := rest) (fun sig h => hn.trans (hlen sig h)) hstack hW (by rw [hb]; exact hdg)
    (fun vm₁ hW₁ => ⟨hf.1, hf.2, hPc (T.setVm vm₁) hT hW₁⟩)
  dsimp only [Pt.U, Pt.locs, Pt.cells, Pt.slots] at X' e1 e2 h1 h2 h3 st
  subst h1; subst h2; subst h3
  exact ⟨v, (T.setVm vm₁).calling g' mk (Value.ref b :: As).toArray, t, U', L, hT, X', hL, e1, e2, hq, st⟩
section
variable {y : MethodName} {bytes cc : ByteArray} {maxL nL mc ms n index : Nat} {ret : Option FieldType} {ws : List Cond} {rm : Room} {Pc : Array Value → State → Prop} {Qc : Array Value → State → Outcome → State → Prop} {XC : String → State → State → Prop} {free : Addr → Prop} {Ts : List Cond} {own C : String} {b : Addr} {As rest : List Value} {g : JFrame}
theorem vx_runVX {hh : List (Nat × Nat × Nat × Nat)} (S : CallFix p m c cc nL s args Ts own) (hM : vx_Met l y ws rm Pc Qc XC mc ms free) (cw : vx_CVW R s args own C index y bytes maxL ret hh ws rm mc ms n) (hp : PreV s H C b Pc As)
    (hg : g.method = m) (hn : As.length = n) (hsize : g.locals.size = nL) (hstack : g.stack = As.reverse ++ .ref b :: rest) (hW : 2 * g.monitorRoom + (rest.map fun v => v.category).sum ≤ 8) (hdg : decode cc g.pc = .ok (.invokevirtual index, 3)) (hf : cells + mc ≤ R.cells ∧ slots + ms ≤ R.slots) :
    vx_Run p l e R s m args below meth c H locs cells slots mc ms g rest (Qc (Value.ref b :: As).toArray) XC free := by
  obtain ⟨⟨hrc, hrs, hfr, hlo, hws, hcw⟩, hcode, hini, hy, hlen, hl, hin, hse⟩ := cw
  have hK : vx_Back l R p e below s args y 3 8 (PreOf R mc ms Pc) (PostOf Qc mc ms free) (vx_Post XC mc ms free) := vx_backW (hh := hh) (bytes := bytes) (maxL := maxL) (ret := ret) hM hp.1 hrc hrs hfr hlo hws hcw (fun a' U hW => word_at hW (Or.inl (by first | rfl | simp [Cond.onTables, Cond.keeps, Cond.steady])) hini)
  obtain ⟨hx, hb, hml, ho, -⟩ := S
  obtain ⟨-, ⟨cellB, hcB, hoB, hclB⟩, hPc⟩ := hp
  intro T hT X
  rcases vx_callVX X hx (C := C) (hh := hh) (bytes := bytes) (maxL := maxL) (ret := ret) ho hl hin hse hcode hy hK (by rw [hT]; exact hcB) hoB hclB hg (hsize.trans hml.symm) (argsL := As) (rest := rest) (fun sig h => hn.trans (hlen sig h)) hstack hW (by rw [hb]; exact hdg)
    (fun vm₁ hW₁ => ⟨hf.1, hf.2, hPc (T.setVm vm₁) hT hW₁⟩) with ⟨v, vm₁, ⟨U', l2, c2, s2⟩, hW₁, X', ⟨g', mk, t, L, e1, e2, hq, h1, hL, h2, h3⟩, st⟩ | ⟨q, vm₁, ⟨U', l2, c2, s2⟩, hW₁, X', ⟨g', mk, t, L, E, ce, e1, e2, hq, hce, hcv, hcl, h1, hL, h2, h3⟩, st⟩
  · dsimp only [Pt.U, Pt.locs, Pt.cells, Pt.slots] at X' e1 e2 h1 h2 h3 st
    subst h1; subst h2; subst h3
    exact Or.inl ⟨v, (T.setVm vm₁).calling g' mk (Value.ref b :: As).toArray, t, U', L, hT, X', hL, e1, e2, hq, st⟩
  · dsimp only [Pt.U, Pt.locs, Pt.cells, Pt.slots] at X' e1 e2 h1 h2 h3 st hcl
    subst h1; subst h2; subst h3
    exact Or.inr ⟨q, (T.setVm vm₁).calling g' mk (Value.ref b :: As).toArray, t, U', L, E, ce, hT, X', hL, e1, e2, hq, hce, hcv, vx_cls hW₁ hcl, st⟩
theorem vx_runSX {hh : List (Nat × Nat × Nat × Nat)} (S : CallFix p m c cc nL s args Ts own) (hM : vx_Met l y ws rm Pc Qc XC mc ms free) (cw : vx_CSW R s args own index y bytes maxL ret hh ws rm mc ms n) (hp : PreS s H Pc As)
    (hg : g.method = m) (hn : As.length = n) (hsize : g.locals.size = nL) (hstack : g.stack = As.reverse ++ rest) (hW : 2 * g.monitorRoom + (rest.map fun v => v.category).sum ≤ 8) (hdg : decode cc g.pc = .ok (.invokestatic index, 3)) (hf : cells + mc ≤ R.cells ∧ slots + ms ≤ R.slots) :
    vx_Run p l e R s m args below meth c H locs cells slots mc ms g rest (Qc As.toArray) XC free := by
  obtain ⟨⟨hrc, hrs, hfr, hlo, hws, hcw⟩, hcode, hini, hy, hlen, hl, hstt⟩ := cw
  have hK : vx_Back l R p e below s args y 3 8 (PreOf R mc ms Pc) (PostOf Qc mc ms free) (vx_Post XC mc ms free) := vx_backW (hh := hh) (bytes := bytes) (maxL := maxL) (ret := ret) hM hp.1 hrc hrs hfr hlo hws hcw (fun a' U hW => word_at hW (Or.inl (by first | rfl | simp [Cond.onTables, Cond.keeps, Cond.steady])) hini)
  obtain ⟨hx, hb, hml, ho, -⟩ := S
  intro T hT X
  rcases vx_callSX X hx (hh := hh) (bytes := bytes) (maxL := maxL) (ret := ret) ho hl hstt hini hcode hy hK hg (hsize.trans hml.symm) (argsL := As) (rest := rest) (fun sig h => hn.trans (hlen sig h)) hstack hW (by rw [hb]; exact hdg)
    (fun vm₁ hW₁ => ⟨hf.1, hf.2, hp.2 (T.setVm vm₁) hT hW₁⟩) with ⟨v, vm₁, ⟨U', l2, c2, s2⟩, hW₁, X', ⟨g', mk, t, L, e1, e2, hq, h1, hL, h2, h3⟩, st⟩ | ⟨q, vm₁, ⟨U', l2, c2, s2⟩, hW₁, X', ⟨g', mk, t, L, E, ce, e1, e2, hq, hce, hcv, hcl, h1, hL, h2, h3⟩, st⟩
  · dsimp only [Pt.U, Pt.locs, Pt.cells, Pt.slots] at X' e1 e2 h1 h2 h3 st
    subst h1; subst h2; subst h3
    exact Or.inl ⟨v, (T.setVm vm₁).calling g' mk As.toArray, t, U', L, hT, X', hL, e1, e2, hq, st⟩
  · dsimp only [Pt.U, Pt.locs, Pt.cells, Pt.slots] at X' e1 e2 h1 h2 h3 st hcl
    subst h1; subst h2; subst h3
    exact Or.inr ⟨q, (T.setVm vm₁).calling g' mk As.toArray, t, U', L, E, ce, hT, X', hL, e1, e2, hq, hce, hcv, vx_cls hW₁ hcl, st⟩
end
end VXH
theorem vx_ofWH {l : Launch} {y : MethodName} {ws ws' : List Cond} {rm : Room} {Pc : Array Value → State → Prop} {Qc : Array Value → State → Outcome → State → Prop} {XC : String → State → State → Prop} {mc ms : Nat} {free : Addr → Prop} {cc : ByteArray} {maxL : Nat} {ret : Option FieldType} {hh : List (Nat × Nat × Nat × Nat)}
    (hy : plainName y.cls = true) (hw : ws = Cond.codeWith y cc maxL ret hh :: ws')
    (body : ∀ p e s m args below meth c s₁, BodyLoose p l y (headSpec ws rm) cc maxL ret e s m args below meth c s₁ → c.maxLocals = maxL → Pc args s →
      W p l e (headSpec ws rm).room s m args below meth c s.heap [] 0 0 (vx_MQ below Qc XC args s mc ms free) (entryFrame m args maxL)) : vx_Met l y ws rm Pc Qc XC mc ms free := by
  refine MetFree.of_bodyS (code := cc) (maxLocals := maxL) (ret := ret) hy ?_ ?_
  · intro args s m h hn
    obtain ⟨m9, meth, c, hn9, h1, h2, h3, h4, -, h5, h6, -⟩ := Cond.codeWith_spec (atoms_spec (ws := ws) h _ (by rw [hw]; exact List.mem_cons_self))
    cases hn.symm.trans hn9
    exact ⟨meth, c, h1, h2, h3, h4, h5, h6⟩
  · intro p e s m args below meth c s₁ B hml hP _
    have hh0 : s₁.heap = s.heap := by rw [B.state]; rfl
    obtain ⟨t, a1, o, b1, b2, b3⟩ := body p e s m args below meth c s₁ B hml hP s₁ hh0 (Stand.of_body B)
    exact ⟨t, o, a1, b1, b2, b3⟩
/-! ===== END ===== -/
end
section
/-! ===== BEGIN printed: names, fields, word lists, decode rows ===== -/
def RX0 : String := "Festoon$Lantern"
def TX0 : u_T := fun k => match k with
  | 0 => ("Festoon$Lantern", "ribs", "I", true)
  | 1 => ("Festoon$Lantern", "paper", "I", true)
  | 2 => ("Festoon$Lantern", "candle", "I", true)
  | 3 => ("Festoon$Lantern", "state", "I", false)
  | 4 => ("Festoon$Lantern", "left", "I", false)
  | 5 => ("Festoon$Lantern", "raft", "LFestoon$Raft;", false)
  | _ => ("Festoon$Lantern", "slot", "I", false)
def tyX0 : Nat → FieldType := fun k => match k with
  | 0 => .int
  | 1 => .int
  | 2 => .int
  | 3 => .int
  | 4 => .int
  | 5 => .object "Festoon$Raft"
  | _ => .int
abbrev wsX00 : List Cond := u_ws RX0 TX0 7
theorem nmX0 : ∀ a, a < 7 → ∀ b, b < 7 → a ≠ b → (TX0 a).2.1 ≠ (TX0 b).2.1 := by decide +kernel
theorem tyX0_ok : ∀ k, k < 7 → parseFieldDescriptor (TX0 k).2.2.1 = some (tyX0 k) := by decide +kernel
abbrev cX0_init : ByteArray := prog_2_method_1_code
def yX0_init : MethodName := ⟨RX0, "<init>", "(III)V"⟩
abbrev cX0_weight : ByteArray := prog_2_method_2_code
def yX0_weight : MethodName := ⟨RX0, "weight", "()I"⟩
abbrev cX0_firmness : ByteArray := prog_2_method_3_code
def yX0_firmness : MethodName := ⟨RX0, "firmness", "()I"⟩
abbrev cX0_place : ByteArray := prog_2_method_4_code
def yX0_place : MethodName := ⟨RX0, "place", "()I"⟩
abbrev cX0_distanceTo : ByteArray := prog_2_method_5_code
def yX0_distanceTo : MethodName := ⟨RX0, "distanceTo", "(LFestoon$Lantern;)I"⟩
abbrev cX0_darken : ByteArray := prog_2_method_6_code
def yX0_darken : MethodName := ⟨RX0, "darken", "()V"⟩
abbrev cX0_burnOneMinute : ByteArray := prog_2_method_7_code
def yX0_burnOneMinute : MethodName := ⟨RX0, "burnOneMinute", "()V"⟩
def RX1 : String := "Festoon$Raft"
def TX1 : u_T := fun k => match k with
  | 0 => ("Festoon$Raft", "number", "I", true)
  | 1 => ("Festoon$Raft", "speed", "I", true)
  | 2 => ("Festoon$Raft", "bears", "I", true)
  | 3 => ("Festoon$Raft", "slots", "[LFestoon$Lantern;", true)
  | 4 => ("Festoon$Raft", "sort", "I", false)
  | 5 => ("Festoon$Raft", "front", "I", false)
  | _ => ("Festoon$Raft", "order", "I", false)
def tyX1 : Nat → FieldType := fun k => match k with
  | 0 => .int
  | 1 => .int
  | 2 => .int
  | 3 => .array (.object "Festoon$Lantern")
  | 4 => .int
  | 5 => .int
  | _ => .int
abbrev wsX10 : List Cond := u_ws RX1 TX1 7
theorem nmX1 : ∀ a, a < 7 → ∀ b, b < 7 → a ≠ b → (TX1 a).2.1 ≠ (TX1 b).2.1 := by decide +kernel
theorem tyX1_ok : ∀ k, k < 7 → parseFieldDescriptor (TX1 k).2.2.1 = some (tyX1 k) := by decide +kernel
abbrev cX1_init : ByteArray := prog_3_method_1_code
def yX1_init : MethodName := ⟨RX1, "<init>", "(III)V"⟩
abbrev cX1_rear : ByteArray := prog_3_method_2_code
def yX1_rear : MethodName := ⟨RX1, "rear", "()I"⟩
abbrev cX1_lanternIn : ByteArray := prog_3_method_3_code
def yX1_lanternIn : MethodName := ⟨RX1, "lanternIn", "(I)LFestoon$Lantern;"⟩
abbrev cX1_put : ByteArray := prog_3_method_4_code
def yX1_put : MethodName := ⟨RX1, "put", "(LFestoon$Lantern;I)V"⟩
abbrev cX1_free : ByteArray := prog_3_method_5_code
def yX1_free : MethodName := ⟨RX1, "free", "(LFestoon$Lantern;)V"⟩
abbrev cX1_weight : ByteArray := prog_3_method_6_code
def yX1_weight : MethodName := ⟨RX1, "weight", "()I"⟩
abbrev cX1_moveBehind : ByteArray := prog_3_method_7_code
def yX1_moveBehind : MethodName := ⟨RX1, "moveBehind", "(LFestoon$Raft;I)V"⟩
abbrev cX1_darkenAll : ByteArray := prog_3_method_8_code
def yX1_darkenAll : MethodName := ⟨RX1, "darkenAll", "()V"⟩
abbrev cX1_nearestLit : ByteArray := prog_3_method_9_code
def yX1_nearestLit : MethodName := ⟨RX1, "nearestLit", "(LFestoon$Lantern;)I"⟩
abbrev cX1_alike : ByteArray := prog_3_method_10_code
def yX1_alike : MethodName := ⟨RX1, "alike", "(I)I"⟩
def RX2 : String := "Festoon"
def TX2 : u_T := fun k => match k with
  | 0 => ("Festoon", "lanterns", "[LFestoon$Lantern;", true)
  | 1 => ("Festoon", "rafts", "[LFestoon$Raft;", true)
  | 2 => ("Festoon", "launched", "[LFestoon$Raft;", true)
  | 3 => ("Festoon", "gusts", "[I", true)
  | 4 => ("Festoon", "made", "I", false)
  | 5 => ("Festoon", "built", "I", false)
  | 6 => ("Festoon", "launches", "I", false)
  | 7 => ("Festoon", "now", "I", false)
  | 8 => ("Festoon", "gap", "I", false)
  | 9 => ("Festoon", "base", "I", false)
  | 10 => ("Festoon", "darkByGusts", "I", false)
  | _ => ("Festoon", "darkByMarshal", "I", false)
def tyX2 : Nat → FieldType := fun k => match k with
  | 0 => .array (.object "Festoon$Lantern")
  | 1 => .array (.object "Festoon$Raft")
  | 2 => .array (.object "Festoon$Raft")
  | 3 => .array .int
  | 4 => .int
  | 5 => .int
  | 6 => .int
  | 7 => .int
  | 8 => .int
  | 9 => .int
  | 10 => .int
  | _ => .int
abbrev wsX20 : List Cond := u_ws RX2 TX2 12
theorem nmX2 : ∀ a, a < 12 → ∀ b, b < 12 → a ≠ b → (TX2 a).2.1 ≠ (TX2 b).2.1 := by decide +kernel
theorem tyX2_ok : ∀ k, k < 12 → parseFieldDescriptor (TX2 k).2.2.1 = some (tyX2 k) := by decide +kernel
abbrev cX2_init : ByteArray := prog_1_method_1_code
def yX2_init : MethodName := ⟨RX2, "<init>", "()V"⟩
abbrev cX2_make : ByteArray := prog_1_method_2_code
def yX2_make : MethodName := ⟨RX2, "make", "(III)I"⟩
abbrev cX2_hang : ByteArray := prog_1_method_3_code
def yX2_hang : MethodName := ⟨RX2, "hang", "(III)I"⟩
abbrev cX2_takeDown : ByteArray := prog_1_method_4_code
def yX2_takeDown : MethodName := ⟨RX2, "takeDown", "(I)I"⟩
abbrev cX2_light : ByteArray := prog_1_method_5_code
def yX2_light : MethodName := ⟨RX2, "light", "(I)I"⟩
abbrev cX2_putOut : ByteArray := prog_1_method_6_code
def yX2_putOut : MethodName := ⟨RX2, "putOut", "(I)I"⟩
abbrev cX2_build : ByteArray := prog_1_method_7_code
def yX2_build : MethodName := ⟨RX2, "build", "(II)I"⟩
abbrev cX2_launch : ByteArray := prog_1_method_8_code
def yX2_launch : MethodName := ⟨RX2, "launch", "(I)I"⟩
abbrev cX2_setRules : ByteArray := prog_1_method_9_code
def yX2_setRules : MethodName := ⟨RX2, "setRules", "(II)I"⟩
abbrev cX2_setGust : ByteArray := prog_1_method_10_code
def yX2_setGust : MethodName := ⟨RX2, "setGust", "(II)I"⟩
abbrev cX2_pass : ByteArray := prog_1_method_11_code
def yX2_pass : MethodName := ⟨RX2, "pass", "(I)I"⟩
abbrev cX2_time : ByteArray := prog_1_method_12_code
def yX2_time : MethodName := ⟨RX2, "time", "()I"⟩
abbrev cX2_lanterns : ByteArray := prog_1_method_13_code
def yX2_lanterns : MethodName := ⟨RX2, "lanterns", "()I"⟩
abbrev cX2_stateOf : ByteArray := prog_1_method_14_code
def yX2_stateOf : MethodName := ⟨RX2, "stateOf", "(I)I"⟩
abbrev cX2_left : ByteArray := prog_1_method_15_code
def yX2_left : MethodName := ⟨RX2, "left", "(I)I"⟩
abbrev cX2_placeOf : ByteArray := prog_1_method_16_code
def yX2_placeOf : MethodName := ⟨RX2, "placeOf", "(I)I"⟩
abbrev cX2_nearest : ByteArray := prog_1_method_17_code
def yX2_nearest : MethodName := ⟨RX2, "nearest", "(I)I"⟩
abbrev cX2_nearestOfAll : ByteArray := prog_1_method_18_code
def yX2_nearestOfAll : MethodName := ⟨RX2, "nearestOfAll", "(I)I"⟩
abbrev cX2_blownOut : ByteArray := prog_1_method_19_code
def yX2_blownOut : MethodName := ⟨RX2, "blownOut", "()I"⟩
abbrev cX2_ordered : ByteArray := prog_1_method_20_code
def yX2_ordered : MethodName := ⟨RX2, "ordered", "()I"⟩
abbrev cX2_sortOf : ByteArray := prog_1_method_21_code
def yX2_sortOf : MethodName := ⟨RX2, "sortOf", "(I)I"⟩
abbrev cX2_front : ByteArray := prog_1_method_22_code
def yX2_front : MethodName := ⟨RX2, "front", "(I)I"⟩
abbrev cX2_load : ByteArray := prog_1_method_23_code
def yX2_load : MethodName := ⟨RX2, "load", "(I)I"⟩
abbrev cX2_likeness : ByteArray := prog_1_method_24_code
def yX2_likeness : MethodName := ⟨RX2, "likeness", "(II)I"⟩
abbrev cX2_prize : ByteArray := prog_1_method_25_code
def yX2_prize : MethodName := ⟨RX2, "prize", "(I)I"⟩
abbrev cX2_within : ByteArray := prog_1_method_26_code
def yX2_within : MethodName := ⟨RX2, "within", "(III)Z"⟩
abbrev cX2_lanternNumbered : ByteArray := prog_1_method_27_code
def yX2_lanternNumbered : MethodName := ⟨RX2, "lanternNumbered", "(I)LFestoon$Lantern;"⟩
abbrev cX2_raftNumbered : ByteArray := prog_1_method_28_code
def yX2_raftNumbered : MethodName := ⟨RX2, "raftNumbered", "(I)LFestoon$Raft;"⟩
abbrev cX2_litLanterns : ByteArray := prog_1_method_29_code
def yX2_litLanterns : MethodName := ⟨RX2, "litLanterns", "()I"⟩
abbrev cX2_raftsOnRiver : ByteArray := prog_1_method_30_code
def yX2_raftsOnRiver : MethodName := ⟨RX2, "raftsOnRiver", "()I"⟩
abbrev cX2_hasRoomToLaunch : ByteArray := prog_1_method_31_code
def yX2_hasRoomToLaunch : MethodName := ⟨RX2, "hasRoomToLaunch", "()Z"⟩
abbrev cX2_passOne : ByteArray := prog_1_method_32_code
def yX2_passOne : MethodName := ⟨RX2, "passOne", "()V"⟩
abbrev cX2_moveRafts : ByteArray := prog_1_method_33_code
def yX2_moveRafts : MethodName := ⟨RX2, "moveRafts", "()V"⟩
abbrev cX2_letRaftsGo : ByteArray := prog_1_method_34_code
def yX2_letRaftsGo : MethodName := ⟨RX2, "letRaftsGo", "()V"⟩
abbrev cX2_blowGust : ByteArray := prog_1_method_35_code
def yX2_blowGust : MethodName := ⟨RX2, "blowGust", "()V"⟩
abbrev cX2_burnCandles : ByteArray := prog_1_method_36_code
def yX2_burnCandles : MethodName := ⟨RX2, "burnCandles", "()V"⟩
abbrev cX2_sendMarshal : ByteArray := prog_1_method_37_code
def yX2_sendMarshal : MethodName := ⟨RX2, "sendMarshal", "()V"⟩
abbrev cX2_isCrowded : ByteArray := prog_1_method_38_code
def yX2_isCrowded : MethodName := ⟨RX2, "isCrowded", "(LFestoon$Lantern;I)Z"⟩
abbrev cX2_isTooNear : ByteArray := prog_1_method_39_code
def yX2_isTooNear : MethodName := ⟨RX2, "isTooNear", "(LFestoon$Lantern;LFestoon$Lantern;)Z"⟩
abbrev cX2_nearestAhead : ByteArray := prog_1_method_40_code
def yX2_nearestAhead : MethodName := ⟨RX2, "nearestAhead", "(LFestoon$Lantern;I)I"⟩
abbrev cX2_nearestBehind : ByteArray := prog_1_method_41_code
def yX2_nearestBehind : MethodName := ⟨RX2, "nearestBehind", "(LFestoon$Lantern;I)I"⟩
abbrev cX2_nearer : ByteArray := prog_1_method_42_code
def yX2_nearer : MethodName := ⟨RX2, "nearer", "(II)I"⟩
def RX3 : String := "FestoonModel"
def TX3 : u_T := fun k => match k with
  | 0 => ("FestoonModel", "ribs", "[I", true)
  | 1 => ("FestoonModel", "papers", "[I", true)
  | 2 => ("FestoonModel", "candles", "[I", true)
  | 3 => ("FestoonModel", "states", "[I", true)
  | 4 => ("FestoonModel", "lefts", "[I", true)
  | 5 => ("FestoonModel", "hangsOn", "[I", true)
  | 6 => ("FestoonModel", "slots", "[I", true)
  | 7 => ("FestoonModel", "lanterns", "I", false)
  | 8 => ("FestoonModel", "speeds", "[I", true)
  | 9 => ("FestoonModel", "bears", "[I", true)
  | 10 => ("FestoonModel", "sorts", "[I", true)
  | 11 => ("FestoonModel", "fronts", "[I", true)
  | 12 => ("FestoonModel", "order", "[I", true)
  | 13 => ("FestoonModel", "launched", "I", false)
  | 14 => ("FestoonModel", "floats", "I", false)
  | 15 => ("FestoonModel", "gap", "I", false)
  | 16 => ("FestoonModel", "base", "I", false)
  | 17 => ("FestoonModel", "gusts", "[I", true)
  | 18 => ("FestoonModel", "time", "I", false)
  | 19 => ("FestoonModel", "blown", "I", false)
  | 20 => ("FestoonModel", "ordered", "I", false)
  | _ => ("FestoonModel", "last", "I", false)
def tyX3 : Nat → FieldType := fun k => match k with
  | 0 => .array .int
  | 1 => .array .int
  | 2 => .array .int
  | 3 => .array .int
  | 4 => .array .int
  | 5 => .array .int
  | 6 => .array .int
  | 7 => .int
  | 8 => .array .int
  | 9 => .array .int
  | 10 => .array .int
  | 11 => .array .int
  | 12 => .array .int
  | 13 => .int
  | 14 => .int
  | 15 => .int
  | 16 => .int
  | 17 => .array .int
  | 18 => .int
  | 19 => .int
  | 20 => .int
  | _ => .int
abbrev wsX30 : List Cond := u_ws RX3 TX3 22
theorem nmX3 : ∀ a, a < 22 → ∀ b, b < 22 → a ≠ b → (TX3 a).2.1 ≠ (TX3 b).2.1 := by decide +kernel
theorem tyX3_ok : ∀ k, k < 22 → parseFieldDescriptor (TX3 k).2.2.1 = some (tyX3 k) := by decide +kernel
abbrev cX3_init : ByteArray := prog_5_method_1_code
def yX3_init : MethodName := ⟨RX3, "<init>", "()V"⟩
abbrev cX3_thrown : ByteArray := prog_5_method_2_code
def yX3_thrown : MethodName := ⟨RX3, "thrown", "()I"⟩
abbrev cX3_in : ByteArray := prog_5_method_3_code
def yX3_in : MethodName := ⟨RX3, "in", "(III)Z"⟩
abbrev cX3_goes : ByteArray := prog_5_method_4_code
def yX3_goes : MethodName := ⟨RX3, "goes", "(ZZZ)Z"⟩
abbrev cX3_isLantern : ByteArray := prog_5_method_5_code
def yX3_isLantern : MethodName := ⟨RX3, "isLantern", "(I)Z"⟩
abbrev cX3_isFloat : ByteArray := prog_5_method_6_code
def yX3_isFloat : MethodName := ⟨RX3, "isFloat", "(I)Z"⟩
abbrev cX3_make : ByteArray := prog_5_method_7_code
def yX3_make : MethodName := ⟨RX3, "make", "(III)I"⟩
abbrev cX3_weight : ByteArray := prog_5_method_8_code
def yX3_weight : MethodName := ⟨RX3, "weight", "(I)I"⟩
abbrev cX3_loadOf : ByteArray := prog_5_method_9_code
def yX3_loadOf : MethodName := ⟨RX3, "loadOf", "(I)I"⟩
abbrev cX3_isTaken : ByteArray := prog_5_method_10_code
def yX3_isTaken : MethodName := ⟨RX3, "isTaken", "(II)Z"⟩
abbrev cX3_hang : ByteArray := prog_5_method_11_code
def yX3_hang : MethodName := ⟨RX3, "hang", "(III)I"⟩
abbrev cX3_darkens : ByteArray := prog_5_method_12_code
def yX3_darkens : MethodName := ⟨RX3, "darkens", "(I)V"⟩
abbrev cX3_takeDown : ByteArray := prog_5_method_13_code
def yX3_takeDown : MethodName := ⟨RX3, "takeDown", "(I)I"⟩
abbrev cX3_hasPlace : ByteArray := prog_5_method_14_code
def yX3_hasPlace : MethodName := ⟨RX3, "hasPlace", "(I)Z"⟩
abbrev cX3_place : ByteArray := prog_5_method_15_code
def yX3_place : MethodName := ⟨RX3, "place", "(I)I"⟩
abbrev cX3_distance : ByteArray := prog_5_method_16_code
def yX3_distance : MethodName := ⟨RX3, "distance", "(II)I"⟩
abbrev cX3_isNear : ByteArray := prog_5_method_17_code
def yX3_isNear : MethodName := ⟨RX3, "isNear", "(II)Z"⟩
abbrev cX3_light : ByteArray := prog_5_method_18_code
def yX3_light : MethodName := ⟨RX3, "light", "(I)I"⟩
abbrev cX3_putOut : ByteArray := prog_5_method_19_code
def yX3_putOut : MethodName := ⟨RX3, "putOut", "(I)I"⟩
abbrev cX3_build : ByteArray := prog_5_method_20_code
def yX3_build : MethodName := ⟨RX3, "build", "(II)I"⟩
abbrev cX3_rearmost : ByteArray := prog_5_method_21_code
def yX3_rearmost : MethodName := ⟨RX3, "rearmost", "()I"⟩
abbrev cX3_afloat : ByteArray := prog_5_method_22_code
def yX3_afloat : MethodName := ⟨RX3, "afloat", "()I"⟩
abbrev cX3_launch : ByteArray := prog_5_method_23_code
def yX3_launch : MethodName := ⟨RX3, "launch", "(I)I"⟩
abbrev cX3_setRules : ByteArray := prog_5_method_24_code
def yX3_setRules : MethodName := ⟨RX3, "setRules", "(II)I"⟩
abbrev cX3_setGust : ByteArray := prog_5_method_25_code
def yX3_setGust : MethodName := ⟨RX3, "setGust", "(II)I"⟩
abbrev cX3_floatsMove : ByteArray := prog_5_method_26_code
def yX3_floatsMove : MethodName := ⟨RX3, "floatsMove", "()V"⟩
abbrev cX3_burns : ByteArray := prog_5_method_27_code
def yX3_burns : MethodName := ⟨RX3, "burns", "()V"⟩
abbrev cX3_lit : ByteArray := prog_5_method_28_code
def yX3_lit : MethodName := ⟨RX3, "lit", "()I"⟩
abbrev cX3_pass : ByteArray := prog_5_method_29_code
def yX3_pass : MethodName := ⟨RX3, "pass", "(I)I"⟩
abbrev cX3_time : ByteArray := prog_5_method_30_code
def yX3_time : MethodName := ⟨RX3, "time", "()I"⟩
abbrev cX3_lanterns : ByteArray := prog_5_method_31_code
def yX3_lanterns : MethodName := ⟨RX3, "lanterns", "()I"⟩
abbrev cX3_stateOf : ByteArray := prog_5_method_32_code
def yX3_stateOf : MethodName := ⟨RX3, "stateOf", "(I)I"⟩
abbrev cX3_left : ByteArray := prog_5_method_33_code
def yX3_left : MethodName := ⟨RX3, "left", "(I)I"⟩
abbrev cX3_placeOf : ByteArray := prog_5_method_34_code
def yX3_placeOf : MethodName := ⟨RX3, "placeOf", "(I)I"⟩
abbrev cX3_nearest : ByteArray := prog_5_method_35_code
def yX3_nearest : MethodName := ⟨RX3, "nearest", "(I)I"⟩
abbrev cX3_nearestOfAll : ByteArray := prog_5_method_36_code
def yX3_nearestOfAll : MethodName := ⟨RX3, "nearestOfAll", "(I)I"⟩
abbrev cX3_blownOut : ByteArray := prog_5_method_37_code
def yX3_blownOut : MethodName := ⟨RX3, "blownOut", "()I"⟩
abbrev cX3_ordered : ByteArray := prog_5_method_38_code
def yX3_ordered : MethodName := ⟨RX3, "ordered", "()I"⟩
abbrev cX3_sortOf : ByteArray := prog_5_method_39_code
def yX3_sortOf : MethodName := ⟨RX3, "sortOf", "(I)I"⟩
abbrev cX3_front : ByteArray := prog_5_method_40_code
def yX3_front : MethodName := ⟨RX3, "front", "(I)I"⟩
abbrev cX3_load : ByteArray := prog_5_method_41_code
def yX3_load : MethodName := ⟨RX3, "load", "(I)I"⟩
abbrev cX3_alike : ByteArray := prog_5_method_42_code
def yX3_alike : MethodName := ⟨RX3, "alike", "(II)I"⟩
abbrev cX3_likeness : ByteArray := prog_5_method_43_code
def yX3_likeness : MethodName := ⟨RX3, "likeness", "(II)I"⟩
abbrev cX3_prize : ByteArray := prog_5_method_44_code
def yX3_prize : MethodName := ⟨RX3, "prize", "(I)I"⟩
def RJ9 : String := "java/lang/Math"
def TJ9 : u_T := fun k => match k with
  | _ => ("", "", "", false)
def tyJ9 : Nat → FieldType := fun k => match k with
  | _ => .int
abbrev wsJ90 : List Cond := u_ws RJ9 TJ9 0
theorem nmJ9 : ∀ a, a < 0 → ∀ b, b < 0 → a ≠ b → (TJ9 a).2.1 ≠ (TJ9 b).2.1 := by decide +kernel
theorem tyJ9_ok : ∀ k, k < 0 → parseFieldDescriptor (TJ9 k).2.2.1 = some (tyJ9 k) := by decide +kernel
abbrev cJ9_max_7cf53 : ByteArray := prog_10_method_65_code
def yJ9_max_7cf53 : MethodName := ⟨RJ9, "max", "(II)I"⟩
abbrev cJ9_min_7cf53 : ByteArray := prog_10_method_69_code
def yJ9_min_7cf53 : MethodName := ⟨RJ9, "min", "(II)I"⟩
def RJ0 : String := "java/lang/String"
def TJ0 : u_T := fun k => match k with
  | _ => ("", "", "", false)
def tyJ0 : Nat → FieldType := fun k => match k with
  | _ => .int
abbrev wsJ00 : List Cond := u_ws RJ0 TJ0 0
theorem nmJ0 : ∀ a, a < 0 → ∀ b, b < 0 → a ≠ b → (TJ0 a).2.1 ≠ (TJ0 b).2.1 := by decide +kernel
theorem tyJ0_ok : ∀ k, k < 0 → parseFieldDescriptor (TJ0 k).2.2.1 = some (tyJ0 k) := by decide +kernel
def RL : String := "FestoonLaw"
abbrev cL_make : ByteArray := method_3_code
def yL_make : MethodName := ⟨RL, "make", "(LFestoon;III[J)I"⟩
abbrev cL_hang : ByteArray := method_4_code
def yL_hang : MethodName := ⟨RL, "hang", "(LFestoon;III[J)I"⟩
abbrev cL_takeDown : ByteArray := method_5_code
def yL_takeDown : MethodName := ⟨RL, "takeDown", "(LFestoon;I[J)I"⟩
abbrev cL_light : ByteArray := method_6_code
def yL_light : MethodName := ⟨RL, "light", "(LFestoon;I[J)I"⟩
abbrev cL_putOut : ByteArray := method_7_code
def yL_putOut : MethodName := ⟨RL, "putOut", "(LFestoon;I[J)I"⟩
abbrev cL_build : ByteArray := method_8_code
def yL_build : MethodName := ⟨RL, "build", "(LFestoon;II[J)I"⟩
abbrev cL_launch : ByteArray := method_9_code
def yL_launch : MethodName := ⟨RL, "launch", "(LFestoon;I[J)I"⟩
abbrev cL_setRules : ByteArray := method_10_code
def yL_setRules : MethodName := ⟨RL, "setRules", "(LFestoon;II[J)I"⟩
abbrev cL_setGust : ByteArray := method_11_code
def yL_setGust : MethodName := ⟨RL, "setGust", "(LFestoon;II[J)I"⟩
abbrev cL_pass : ByteArray := method_12_code
def yL_pass : MethodName := ⟨RL, "pass", "(LFestoon;I[J)I"⟩
abbrev cL_stateOf : ByteArray := method_13_code
def yL_stateOf : MethodName := ⟨RL, "stateOf", "(LFestoon;I[J)I"⟩
abbrev cL_left : ByteArray := method_14_code
def yL_left : MethodName := ⟨RL, "left", "(LFestoon;I[J)I"⟩
abbrev cL_placeOf : ByteArray := method_15_code
def yL_placeOf : MethodName := ⟨RL, "placeOf", "(LFestoon;I[J)I"⟩
abbrev cL_nearest : ByteArray := method_16_code
def yL_nearest : MethodName := ⟨RL, "nearest", "(LFestoon;I[J)I"⟩
abbrev cL_nearestOfAll : ByteArray := method_17_code
def yL_nearestOfAll : MethodName := ⟨RL, "nearestOfAll", "(LFestoon;I[J)I"⟩
abbrev cL_sortOf : ByteArray := method_18_code
def yL_sortOf : MethodName := ⟨RL, "sortOf", "(LFestoon;I[J)I"⟩
abbrev cL_front : ByteArray := method_19_code
def yL_front : MethodName := ⟨RL, "front", "(LFestoon;I[J)I"⟩
abbrev cL_load : ByteArray := method_20_code
def yL_load : MethodName := ⟨RL, "load", "(LFestoon;I[J)I"⟩
abbrev cL_likeness : ByteArray := method_21_code
def yL_likeness : MethodName := ⟨RL, "likeness", "(LFestoon;II[J)I"⟩
abbrev cL_prize : ByteArray := method_22_code
def yL_prize : MethodName := ⟨RL, "prize", "(LFestoon;I[J)I"⟩
abbrev cL_law : ByteArray := code
def yL_law : MethodName := ⟨RL, "law", "([I)Z"⟩
def wsX0_init : List Cond := .code yX0_init cX0_init 4 none :: ([.methodLink RX0 3 objectInit, .instanceMethod objectInit, .code objectInit ⟨#[0xb1]⟩ 1 none, .fieldLink RX0 9 "Festoon$Lantern" "state" "I", .fieldLink RX0 15 "Festoon$Lantern" "raft" "LFestoon$Raft;", .fieldLink RX0 19 "Festoon$Lantern" "slot" "I", .fieldLink RX0 22 "Festoon$Lantern" "ribs" "I", .fieldLink RX0 25 "Festoon$Lantern" "paper" "I", .fieldLink RX0 28 "Festoon$Lantern" "candle" "I", .fieldLink RX0 31 "Festoon$Lantern" "left" "I"] ++ wsX00)
def wsX0_weight : List Cond := .code yX0_weight cX0_weight 1 (some .int) :: ([.fieldLink RX0 22 "Festoon$Lantern" "ribs" "I", .fieldLink RX0 25 "Festoon$Lantern" "paper" "I", .fieldLink RX0 28 "Festoon$Lantern" "candle" "I"] ++ wsX00)
def wsX0_firmness : List Cond := .code yX0_firmness cX0_firmness 1 (some .int) :: ([.fieldLink RX0 25 "Festoon$Lantern" "paper" "I", .fieldLink RX0 22 "Festoon$Lantern" "ribs" "I"] ++ wsX00)
def wsX0_place : List Cond := .code yX0_place cX0_place 1 (some .int) :: ([.fieldLink RX0 15 "Festoon$Lantern" "raft" "LFestoon$Raft;", .fieldLink RX0 34 "Festoon$Raft" "sort" "I", .fieldLink RX0 39 "Festoon$Raft" "front" "I", .fieldLink RX0 19 "Festoon$Lantern" "slot" "I"] ++ wsX00 ++ wsX10)
def wsX0_distanceTo : List Cond := .code yX0_distanceTo cX0_distanceTo 3 (some .int) :: ([.methodLink RX0 42 yX0_place, .instanceMethod yX0_place, .selects RX0 yX0_place yX0_place, .initialized RX0, .code yX0_place cX0_place 1 (some .int), .fieldLink RX0 15 "Festoon$Lantern" "raft" "LFestoon$Raft;", .fieldLink RX0 34 "Festoon$Raft" "sort" "I", .fieldLink RX0 39 "Festoon$Raft" "front" "I", .fieldLink RX0 19 "Festoon$Lantern" "slot" "I"] ++ wsX00 ++ wsX10)
def wsX0_darken : List Cond := .code yX0_darken cX0_darken 1 none :: ([.fieldLink RX0 9 "Festoon$Lantern" "state" "I"] ++ wsX00)
def wsX0_burnOneMinute : List Cond := .code yX0_burnOneMinute cX0_burnOneMinute 1 none :: ([.fieldLink RX0 31 "Festoon$Lantern" "left" "I", .fieldLink RX0 9 "Festoon$Lantern" "state" "I"] ++ wsX00)
def wsX1_init : List Cond := .code yX1_init cX1_init 4 none :: ([.methodLink RX1 3 objectInit, .instanceMethod objectInit, .code objectInit ⟨#[0xb1]⟩ 1 none, .classLink RX1 9 RX0, .fieldLink RX1 11 "Festoon$Raft" "slots" "[LFestoon$Lantern;", .fieldLink RX1 17 "Festoon$Raft" "sort" "I", .fieldLink RX1 21 "Festoon$Raft" "front" "I", .fieldLink RX1 24 "Festoon$Raft" "order" "I", .fieldLink RX1 27 "Festoon$Raft" "number" "I", .fieldLink RX1 30 "Festoon$Raft" "speed" "I", .fieldLink RX1 33 "Festoon$Raft" "bears" "I"] ++ wsX10)
def wsX1_rear : List Cond := .code yX1_rear cX1_rear 1 (some .int) :: ([.fieldLink RX1 21 "Festoon$Raft" "front" "I"] ++ wsX10)
def wsX2_within : List Cond := .code yX2_within cX2_within 3 (some .boolean) :: ([])
def wsX1_lanternIn : List Cond := .code yX1_lanternIn cX1_lanternIn 2 (some (.object "Festoon$Lantern")) :: ([.fieldLink RX1 11 "Festoon$Raft" "slots" "[LFestoon$Lantern;", .static yX2_within, .initialized RX2, .code yX2_within cX2_within 3 (some .boolean)] ++ wsX10)
def wsX1_put : List Cond := .code yX1_put cX1_put 3 none :: ([.fieldLink RX1 11 "Festoon$Raft" "slots" "[LFestoon$Lantern;", .fieldLink RX1 40 "Festoon$Lantern" "raft" "LFestoon$Raft;", .fieldLink RX1 44 "Festoon$Lantern" "slot" "I", .static yX2_within, .initialized RX2, .code yX2_within cX2_within 3 (some .boolean)] ++ wsX10 ++ wsX00)
def wsX1_free : List Cond := .code yX1_free cX1_free 3 none :: ([.fieldLink RX1 11 "Festoon$Raft" "slots" "[LFestoon$Lantern;", .fieldLink RX1 40 "Festoon$Lantern" "raft" "LFestoon$Raft;", .fieldLink RX1 44 "Festoon$Lantern" "slot" "I"] ++ wsX10 ++ wsX00)
def wsX1_weight : List Cond := .code yX1_weight cX1_weight 6 (some .int) :: ([.fieldLink RX1 11 "Festoon$Raft" "slots" "[LFestoon$Lantern;", .methodLink RX1 47 yX0_weight, .instanceMethod yX0_weight, .selects RX0 yX0_weight yX0_weight, .initialized RX0, .code yX0_weight cX0_weight 1 (some .int), .fieldLink RX0 22 "Festoon$Lantern" "ribs" "I", .fieldLink RX0 25 "Festoon$Lantern" "paper" "I", .fieldLink RX0 28 "Festoon$Lantern" "candle" "I"] ++ wsX10 ++ wsX00)
def wsX1_moveBehind : List Cond := .code yX1_moveBehind cX1_moveBehind 4 none :: ([.fieldLink RX1 21 "Festoon$Raft" "front" "I", .fieldLink RX1 30 "Festoon$Raft" "speed" "I", .methodLink RX1 54 Lib.Math.min.name, .static Lib.Math.min.name, .initialized "java/lang/Math", .code Lib.Math.min.name Lib.Math.min.code 2 (some .int), .methodLink RX1 60 Lib.Math.max.name, .static Lib.Math.max.name, .code Lib.Math.max.name Lib.Math.max.code 2 (some .int), .methodLink RX1 51 yX1_rear, .instanceMethod yX1_rear, .selects RX1 yX1_rear yX1_rear, .initialized RX1, .code yX1_rear cX1_rear 1 (some .int)] ++ wsX10)
def wsX1_darkenAll : List Cond := .code yX1_darkenAll cX1_darkenAll 5 none :: ([.fieldLink RX1 11 "Festoon$Raft" "slots" "[LFestoon$Lantern;", .methodLink RX1 63 yX0_darken, .instanceMethod yX0_darken, .selects RX0 yX0_darken yX0_darken, .initialized RX0, .code yX0_darken cX0_darken 1 none, .fieldLink RX0 9 "Festoon$Lantern" "state" "I"] ++ wsX10 ++ wsX00)
def wsX2_nearer : List Cond := .code yX2_nearer cX2_nearer 2 (some .int) :: ([.methodLink RX2 245 Lib.Math.max.name, .static Lib.Math.max.name, .initialized "java/lang/Math", .code Lib.Math.max.name Lib.Math.max.code 2 (some .int), .methodLink RX2 240 Lib.Math.min.name, .static Lib.Math.min.name, .code Lib.Math.min.name Lib.Math.min.code 2 (some .int)])
def wsX1_nearestLit_r1 : List Cond := [Cond.fieldLink RX1 11 "Festoon$Raft" "slots" "[LFestoon$Lantern;", Cond.fieldLink RX1 66 "Festoon$Lantern" "state" "I", Cond.methodLink RX1 69 yX0_distanceTo, Cond.instanceMethod yX0_distanceTo, Cond.selects RX0 yX0_distanceTo yX0_distanceTo, Cond.initialized RX0, Cond.code yX0_distanceTo cX0_distanceTo 3 (some .int), Cond.methodLink RX0 42 yX0_place, Cond.instanceMethod yX0_place, Cond.selects RX0 yX0_place yX0_place, Cond.code yX0_place cX0_place 1 (some .int), Cond.fieldLink RX0 15 "Festoon$Lantern" "raft" "LFestoon$Raft;", Cond.fieldLink RX0 34 "Festoon$Raft" "sort" "I", Cond.fieldLink RX0 39 "Festoon$Raft" "front" "I", Cond.fieldLink RX0 19 "Festoon$Lantern" "slot" "I", Cond.static yX2_nearer, Cond.initialized RX2, Cond.code yX2_nearer cX2_nearer 2 (some .int), Cond.methodLink RX2 245 Lib.Math.max.name, Cond.static Lib.Math.max.name, Cond.initialized "java/lang/Math", Cond.code Lib.Math.max.name Lib.Math.max.code 2 (some .int), Cond.methodLink RX2 240 Lib.Math.min.name, Cond.static Lib.Math.min.name]
def wsX1_nearestLit_r2 : List Cond := [Cond.code Lib.Math.min.name Lib.Math.min.code 2 (some .int)]
def wsX1_nearestLit : List Cond := .code yX1_nearestLit cX1_nearestLit 7 (some .int) :: ((wsX1_nearestLit_r1 ++ wsX1_nearestLit_r2) ++ wsX10 ++ wsX00)
def wsX1_alike : List Cond := .code yX1_alike cX1_alike 7 (some .int) :: ([.fieldLink RX1 11 "Festoon$Raft" "slots" "[LFestoon$Lantern;", .fieldLink RX1 66 "Festoon$Lantern" "state" "I"] ++ wsX10 ++ wsX00)
def wsX2_init : List Cond := .code yX2_init cX2_init 1 none :: ([.methodLink RX2 1 objectInit, .instanceMethod objectInit, .code objectInit ⟨#[0xb1]⟩ 1 none, .classLink RX2 9 RX0, .fieldLink RX2 11 "Festoon" "lanterns" "[LFestoon$Lantern;", .classLink RX2 15 RX1, .fieldLink RX2 17 "Festoon" "rafts" "[LFestoon$Raft;", .fieldLink RX2 21 "Festoon" "launched" "[LFestoon$Raft;", .arrayClass .int, .fieldLink RX2 24 "Festoon" "gusts" "[I", .fieldLink RX2 28 "Festoon" "made" "I", .fieldLink RX2 32 "Festoon" "built" "I", .fieldLink RX2 35 "Festoon" "launches" "I", .fieldLink RX2 38 "Festoon" "now" "I", .fieldLink RX2 41 "Festoon" "gap" "I", .fieldLink RX2 44 "Festoon" "base" "I", .fieldLink RX2 47 "Festoon" "darkByGusts" "I", .fieldLink RX2 50 "Festoon" "darkByMarshal" "I"] ++ wsX20)
def wsX2_make_r1 : List Cond := [Cond.classLink RX2 57 "java/lang/IllegalArgumentException", Cond.initialized "java/lang/IllegalArgumentException", Cond.classLink RX2 64 "java/lang/IllegalStateException", Cond.initialized "java/lang/IllegalStateException", Cond.fieldLink RX2 28 "Festoon" "made" "I", Cond.fieldLink RX2 11 "Festoon" "lanterns" "[LFestoon$Lantern;", Cond.classLink RX2 9 RX0, Cond.instantiable RX0 7, Cond.initialized RX0, Cond.methodLink RX2 53 yX2_within, Cond.static yX2_within, Cond.initialized RX2, Cond.code yX2_within cX2_within 3 (some .boolean), Cond.methodLink RX2 69 yX0_init, Cond.instanceMethod yX0_init, Cond.code yX0_init cX0_init 4 none, Cond.methodLink RX0 3 objectInit, Cond.instanceMethod objectInit, Cond.code objectInit ⟨#[0xb1]⟩ 1 none, Cond.fieldLink RX0 9 "Festoon$Lantern" "state" "I", Cond.fieldLink RX0 15 "Festoon$Lantern" "raft" "LFestoon$Raft;", Cond.fieldLink RX0 19 "Festoon$Lantern" "slot" "I", Cond.fieldLink RX0 22 "Festoon$Lantern" "ribs" "I", Cond.fieldLink RX0 25 "Festoon$Lantern" "paper" "I"]
def wsX2_make_r2 : List Cond := [Cond.fieldLink RX0 28 "Festoon$Lantern" "candle" "I", Cond.fieldLink RX0 31 "Festoon$Lantern" "left" "I"]
def wsX2_make : List Cond := .code yX2_make cX2_make 4 (some .int) :: ((wsX2_make_r1 ++ wsX2_make_r2) ++ wsX20 ++ wsX00 ++ (vx_atS RX2 61 "java/lang/IllegalArgumentException" ["java/lang/RuntimeException", "java/lang/Exception"]).filter goodWord ++ (vx_atS RX2 68 "java/lang/IllegalStateException" ["java/lang/RuntimeException", "java/lang/Exception"]).filter goodWord)
def wsX2_lanternNumbered : List Cond := .code yX2_lanternNumbered cX2_lanternNumbered 3 (some (.object "Festoon$Lantern")) :: ([.classLink RX2 80 "java/lang/IndexOutOfBoundsException", .initialized "java/lang/IndexOutOfBoundsException", .fieldLink RX2 11 "Festoon" "lanterns" "[LFestoon$Lantern;", .methodLink RX2 53 yX2_within, .static yX2_within, .initialized RX2, .code yX2_within cX2_within 3 (some .boolean)] ++ wsX20 ++ (vx_atS RX2 84 "java/lang/IndexOutOfBoundsException" ["java/lang/RuntimeException", "java/lang/Exception"]).filter goodWord)
def wsX2_raftNumbered : List Cond := .code yX2_raftNumbered cX2_raftNumbered 3 (some (.object "Festoon$Raft")) :: ([.classLink RX2 80 "java/lang/IndexOutOfBoundsException", .initialized "java/lang/IndexOutOfBoundsException", .fieldLink RX2 17 "Festoon" "rafts" "[LFestoon$Raft;", .methodLink RX2 53 yX2_within, .static yX2_within, .initialized RX2, .code yX2_within cX2_within 3 (some .boolean)] ++ wsX20 ++ (vx_atS RX2 84 "java/lang/IndexOutOfBoundsException" ["java/lang/RuntimeException", "java/lang/Exception"]).filter goodWord)
def wsX2_hang_r1 : List Cond := [Cond.classLink RX2 80 "java/lang/IndexOutOfBoundsException", Cond.initialized "java/lang/IndexOutOfBoundsException", Cond.classLink RX2 57 "java/lang/IllegalArgumentException", Cond.initialized "java/lang/IllegalArgumentException", Cond.classLink RX2 64 "java/lang/IllegalStateException", Cond.initialized "java/lang/IllegalStateException", Cond.fieldLink RX2 90 "Festoon$Lantern" "raft" "LFestoon$Raft;", Cond.fieldLink RX2 94 "Festoon$Raft" "sort" "I", Cond.fieldLink RX2 104 "Festoon$Raft" "bears" "I", Cond.methodLink RX2 72 yX2_lanternNumbered, Cond.instanceMethod yX2_lanternNumbered, Cond.selects RX2 yX2_lanternNumbered yX2_lanternNumbered, Cond.initialized RX2, Cond.code yX2_lanternNumbered cX2_lanternNumbered 3 (some (.object "Festoon$Lantern")), Cond.fieldLink RX2 11 "Festoon" "lanterns" "[LFestoon$Lantern;", Cond.methodLink RX2 53 yX2_within, Cond.static yX2_within, Cond.code yX2_within cX2_within 3 (some .boolean), Cond.methodLink RX2 76 yX2_raftNumbered, Cond.instanceMethod yX2_raftNumbered, Cond.selects RX2 yX2_raftNumbered yX2_raftNumbered, Cond.code yX2_raftNumbered cX2_raftNumbered 3 (some (.object "Festoon$Raft")), Cond.fieldLink RX2 17 "Festoon" "rafts" "[LFestoon$Raft;", Cond.methodLink RX2 85 yX1_lanternIn]
def wsX2_hang_r2 : List Cond := [Cond.instanceMethod yX1_lanternIn, Cond.selects RX1 yX1_lanternIn yX1_lanternIn, Cond.initialized RX1, Cond.code yX1_lanternIn cX1_lanternIn 2 (some (.object "Festoon$Lantern")), Cond.fieldLink RX1 11 "Festoon$Raft" "slots" "[LFestoon$Lantern;", Cond.methodLink RX2 99 yX1_weight, Cond.instanceMethod yX1_weight, Cond.selects RX1 yX1_weight yX1_weight, Cond.code yX1_weight cX1_weight 6 (some .int), Cond.methodLink RX1 47 yX0_weight, Cond.instanceMethod yX0_weight, Cond.selects RX0 yX0_weight yX0_weight, Cond.initialized RX0, Cond.code yX0_weight cX0_weight 1 (some .int), Cond.fieldLink RX0 22 "Festoon$Lantern" "ribs" "I", Cond.fieldLink RX0 25 "Festoon$Lantern" "paper" "I", Cond.fieldLink RX0 28 "Festoon$Lantern" "candle" "I", Cond.methodLink RX2 103 yX0_weight, Cond.methodLink RX2 109 yX1_put, Cond.instanceMethod yX1_put, Cond.selects RX1 yX1_put yX1_put, Cond.code yX1_put cX1_put 3 none, Cond.fieldLink RX1 40 "Festoon$Lantern" "raft" "LFestoon$Raft;", Cond.fieldLink RX1 44 "Festoon$Lantern" "slot" "I"]
def wsX2_hang : List Cond := .code yX2_hang cX2_hang 6 (some .int) :: ((wsX2_hang_r1 ++ wsX2_hang_r2) ++ wsX00 ++ wsX10 ++ wsX20 ++ (vx_atS RX2 84 "java/lang/IndexOutOfBoundsException" ["java/lang/RuntimeException", "java/lang/Exception"]).filter goodWord ++ (vx_atS RX2 61 "java/lang/IllegalArgumentException" ["java/lang/RuntimeException", "java/lang/Exception"]).filter goodWord ++ (vx_atS RX2 68 "java/lang/IllegalStateException" ["java/lang/RuntimeException", "java/lang/Exception"]).filter goodWord)
def wsX2_takeDown_r1 : List Cond := [Cond.classLink RX2 64 "java/lang/IllegalStateException", Cond.initialized "java/lang/IllegalStateException", Cond.fieldLink RX2 90 "Festoon$Lantern" "raft" "LFestoon$Raft;", Cond.fieldLink RX2 122 "Festoon$Raft" "number" "I", Cond.methodLink RX2 72 yX2_lanternNumbered, Cond.instanceMethod yX2_lanternNumbered, Cond.selects RX2 yX2_lanternNumbered yX2_lanternNumbered, Cond.initialized RX2, Cond.code yX2_lanternNumbered cX2_lanternNumbered 3 (some (.object "Festoon$Lantern")), Cond.classLink RX2 80 "java/lang/IndexOutOfBoundsException", Cond.initialized "java/lang/IndexOutOfBoundsException", Cond.fieldLink RX2 11 "Festoon" "lanterns" "[LFestoon$Lantern;", Cond.methodLink RX2 53 yX2_within, Cond.static yX2_within, Cond.code yX2_within cX2_within 3 (some .boolean), Cond.methodLink RX2 115 yX1_free, Cond.instanceMethod yX1_free, Cond.selects RX1 yX1_free yX1_free, Cond.initialized RX1, Cond.code yX1_free cX1_free 3 none, Cond.fieldLink RX1 11 "Festoon$Raft" "slots" "[LFestoon$Lantern;", Cond.fieldLink RX1 40 "Festoon$Lantern" "raft" "LFestoon$Raft;", Cond.fieldLink RX1 44 "Festoon$Lantern" "slot" "I", Cond.methodLink RX2 119 yX0_darken]
def wsX2_takeDown_r2 : List Cond := [Cond.instanceMethod yX0_darken, Cond.selects RX0 yX0_darken yX0_darken, Cond.initialized RX0, Cond.code yX0_darken cX0_darken 1 none, Cond.fieldLink RX0 9 "Festoon$Lantern" "state" "I"]
def wsX2_takeDown : List Cond := .code yX2_takeDown cX2_takeDown 4 (some .int) :: ((wsX2_takeDown_r1 ++ wsX2_takeDown_r2) ++ wsX00 ++ wsX10 ++ wsX20 ++ (vx_atS RX2 68 "java/lang/IllegalStateException" ["java/lang/RuntimeException", "java/lang/Exception"]).filter goodWord ++ (vx_atS RX2 84 "java/lang/IndexOutOfBoundsException" ["java/lang/RuntimeException", "java/lang/Exception"]).filter goodWord)
def wsX2_isTooNear : List Cond := .code yX2_isTooNear cX2_isTooNear 3 (some .boolean) :: ([.fieldLink RX2 237 "Festoon$Lantern" "candle" "I", .fieldLink RX2 44 "Festoon" "base" "I", .methodLink RX2 189 yX0_distanceTo, .instanceMethod yX0_distanceTo, .selects RX0 yX0_distanceTo yX0_distanceTo, .initialized RX0, .code yX0_distanceTo cX0_distanceTo 3 (some .int), .methodLink RX0 42 yX0_place, .instanceMethod yX0_place, .selects RX0 yX0_place yX0_place, .code yX0_place cX0_place 1 (some .int), .fieldLink RX0 15 "Festoon$Lantern" "raft" "LFestoon$Raft;", .fieldLink RX0 34 "Festoon$Raft" "sort" "I", .fieldLink RX0 39 "Festoon$Raft" "front" "I", .fieldLink RX0 19 "Festoon$Lantern" "slot" "I"] ++ wsX00 ++ wsX20 ++ wsX10)
def wsX2_isCrowded : List Cond := .code yX2_isCrowded cX2_isCrowded 5 (some .boolean) :: ([.fieldLink RX2 11 "Festoon" "lanterns" "[LFestoon$Lantern;", .fieldLink RX2 125 "Festoon$Lantern" "state" "I", .methodLink RX2 233 yX2_isTooNear, .instanceMethod yX2_isTooNear, .selects RX2 yX2_isTooNear yX2_isTooNear, .initialized RX2, .code yX2_isTooNear cX2_isTooNear 3 (some .boolean), .fieldLink RX2 237 "Festoon$Lantern" "candle" "I", .fieldLink RX2 44 "Festoon" "base" "I", .methodLink RX2 189 yX0_distanceTo, .instanceMethod yX0_distanceTo, .selects RX0 yX0_distanceTo yX0_distanceTo, .initialized RX0, .code yX0_distanceTo cX0_distanceTo 3 (some .int), .methodLink RX0 42 yX0_place, .instanceMethod yX0_place, .selects RX0 yX0_place yX0_place, .code yX0_place cX0_place 1 (some .int), .fieldLink RX0 15 "Festoon$Lantern" "raft" "LFestoon$Raft;", .fieldLink RX0 34 "Festoon$Raft" "sort" "I", .fieldLink RX0 39 "Festoon$Raft" "front" "I", .fieldLink RX0 19 "Festoon$Lantern" "slot" "I"] ++ wsX20 ++ wsX00 ++ wsX10)
def wsX2_light_r1 : List Cond := [Cond.classLink RX2 64 "java/lang/IllegalStateException", Cond.initialized "java/lang/IllegalStateException", Cond.fieldLink RX2 125 "Festoon$Lantern" "state" "I", Cond.fieldLink RX2 137 "Festoon$Lantern" "left" "I", Cond.methodLink RX2 72 yX2_lanternNumbered, Cond.instanceMethod yX2_lanternNumbered, Cond.selects RX2 yX2_lanternNumbered yX2_lanternNumbered, Cond.initialized RX2, Cond.code yX2_lanternNumbered cX2_lanternNumbered 3 (some (.object "Festoon$Lantern")), Cond.classLink RX2 80 "java/lang/IndexOutOfBoundsException", Cond.initialized "java/lang/IndexOutOfBoundsException", Cond.fieldLink RX2 11 "Festoon" "lanterns" "[LFestoon$Lantern;", Cond.methodLink RX2 53 yX2_within, Cond.static yX2_within, Cond.code yX2_within cX2_within 3 (some .boolean), Cond.methodLink RX2 128 yX0_place, Cond.instanceMethod yX0_place, Cond.selects RX0 yX0_place yX0_place, Cond.initialized RX0, Cond.code yX0_place cX0_place 1 (some .int), Cond.fieldLink RX0 15 "Festoon$Lantern" "raft" "LFestoon$Raft;", Cond.fieldLink RX0 34 "Festoon$Raft" "sort" "I", Cond.fieldLink RX0 39 "Festoon$Raft" "front" "I", Cond.fieldLink RX0 19 "Festoon$Lantern" "slot" "I"]
def wsX2_light_r2 : List Cond := [Cond.methodLink RX2 131 yX2_isCrowded, Cond.instanceMethod yX2_isCrowded, Cond.selects RX2 yX2_isCrowded yX2_isCrowded, Cond.code yX2_isCrowded cX2_isCrowded 5 (some .boolean), Cond.methodLink RX2 233 yX2_isTooNear, Cond.instanceMethod yX2_isTooNear, Cond.selects RX2 yX2_isTooNear yX2_isTooNear, Cond.code yX2_isTooNear cX2_isTooNear 3 (some .boolean), Cond.fieldLink RX2 237 "Festoon$Lantern" "candle" "I", Cond.fieldLink RX2 44 "Festoon" "base" "I", Cond.methodLink RX2 189 yX0_distanceTo, Cond.instanceMethod yX0_distanceTo, Cond.selects RX0 yX0_distanceTo yX0_distanceTo, Cond.code yX0_distanceTo cX0_distanceTo 3 (some .int), Cond.methodLink RX0 42 yX0_place]
def wsX2_light : List Cond := .code yX2_light cX2_light 3 (some .int) :: ((wsX2_light_r1 ++ wsX2_light_r2) ++ wsX00 ++ wsX20 ++ wsX10 ++ (vx_atS RX2 68 "java/lang/IllegalStateException" ["java/lang/RuntimeException", "java/lang/Exception"]).filter goodWord ++ (vx_atS RX2 84 "java/lang/IndexOutOfBoundsException" ["java/lang/RuntimeException", "java/lang/Exception"]).filter goodWord)
def wsX2_putOut : List Cond := .code yX2_putOut cX2_putOut 3 (some .int) :: ([.classLink RX2 64 "java/lang/IllegalStateException", .initialized "java/lang/IllegalStateException", .fieldLink RX2 125 "Festoon$Lantern" "state" "I", .fieldLink RX2 137 "Festoon$Lantern" "left" "I", .methodLink RX2 72 yX2_lanternNumbered, .instanceMethod yX2_lanternNumbered, .selects RX2 yX2_lanternNumbered yX2_lanternNumbered, .initialized RX2, .code yX2_lanternNumbered cX2_lanternNumbered 3 (some (.object "Festoon$Lantern")), .classLink RX2 80 "java/lang/IndexOutOfBoundsException", .initialized "java/lang/IndexOutOfBoundsException", .fieldLink RX2 11 "Festoon" "lanterns" "[LFestoon$Lantern;", .methodLink RX2 53 yX2_within, .static yX2_within, .code yX2_within cX2_within 3 (some .boolean), .methodLink RX2 119 yX0_darken, .instanceMethod yX0_darken, .selects RX0 yX0_darken yX0_darken, .initialized RX0, .code yX0_darken cX0_darken 1 none, .fieldLink RX0 9 "Festoon$Lantern" "state" "I"] ++ wsX00 ++ wsX20 ++ (vx_atS RX2 68 "java/lang/IllegalStateException" ["java/lang/RuntimeException", "java/lang/Exception"]).filter goodWord ++ (vx_atS RX2 84 "java/lang/IndexOutOfBoundsException" ["java/lang/RuntimeException", "java/lang/Exception"]).filter goodWord)
def wsX2_build_r1 : List Cond := [Cond.classLink RX2 57 "java/lang/IllegalArgumentException", Cond.initialized "java/lang/IllegalArgumentException", Cond.classLink RX2 64 "java/lang/IllegalStateException", Cond.initialized "java/lang/IllegalStateException", Cond.fieldLink RX2 32 "Festoon" "built" "I", Cond.fieldLink RX2 17 "Festoon" "rafts" "[LFestoon$Raft;", Cond.classLink RX2 15 RX1, Cond.instantiable RX1 7, Cond.initialized RX1, Cond.methodLink RX2 53 yX2_within, Cond.static yX2_within, Cond.initialized RX2, Cond.code yX2_within cX2_within 3 (some .boolean), Cond.methodLink RX2 146 yX1_init, Cond.instanceMethod yX1_init, Cond.code yX1_init cX1_init 4 none, Cond.methodLink RX1 3 objectInit, Cond.instanceMethod objectInit, Cond.code objectInit ⟨#[0xb1]⟩ 1 none, Cond.classLink RX1 9 RX0, Cond.fieldLink RX1 11 "Festoon$Raft" "slots" "[LFestoon$Lantern;", Cond.fieldLink RX1 17 "Festoon$Raft" "sort" "I", Cond.fieldLink RX1 21 "Festoon$Raft" "front" "I", Cond.fieldLink RX1 24 "Festoon$Raft" "order" "I"]
def wsX2_build_r2 : List Cond := [Cond.fieldLink RX1 27 "Festoon$Raft" "number" "I", Cond.fieldLink RX1 30 "Festoon$Raft" "speed" "I", Cond.fieldLink RX1 33 "Festoon$Raft" "bears" "I"]
def wsX2_build : List Cond := .code yX2_build cX2_build 3 (some .int) :: ((wsX2_build_r1 ++ wsX2_build_r2) ++ wsX20 ++ wsX10 ++ (vx_atS RX2 61 "java/lang/IllegalArgumentException" ["java/lang/RuntimeException", "java/lang/Exception"]).filter goodWord ++ (vx_atS RX2 68 "java/lang/IllegalStateException" ["java/lang/RuntimeException", "java/lang/Exception"]).filter goodWord)
def wsX2_hasRoomToLaunch : List Cond := .code yX2_hasRoomToLaunch cX2_hasRoomToLaunch 6 (some .boolean) :: ([.fieldLink RX2 21 "Festoon" "launched" "[LFestoon$Raft;", .fieldLink RX2 94 "Festoon$Raft" "sort" "I", .fieldLink RX2 41 "Festoon" "gap" "I", .methodLink RX2 202 yX1_rear, .instanceMethod yX1_rear, .selects RX1 yX1_rear yX1_rear, .initialized RX1, .code yX1_rear cX1_rear 1 (some .int), .fieldLink RX1 21 "Festoon$Raft" "front" "I"] ++ wsX20 ++ wsX10)
def wsX2_raftsOnRiver : List Cond := .code yX2_raftsOnRiver cX2_raftsOnRiver 6 (some .int) :: ([.fieldLink RX2 21 "Festoon" "launched" "[LFestoon$Raft;", .fieldLink RX2 94 "Festoon$Raft" "sort" "I"] ++ wsX20 ++ wsX10)
def wsX2_launch_r1 : List Cond := [Cond.classLink RX2 64 "java/lang/IllegalStateException", Cond.initialized "java/lang/IllegalStateException", Cond.fieldLink RX2 94 "Festoon$Raft" "sort" "I", Cond.fieldLink RX2 35 "Festoon" "launches" "I", Cond.fieldLink RX2 21 "Festoon" "launched" "[LFestoon$Raft;", Cond.fieldLink RX2 153 "Festoon$Raft" "front" "I", Cond.fieldLink RX2 156 "Festoon$Raft" "order" "I", Cond.methodLink RX2 76 yX2_raftNumbered, Cond.instanceMethod yX2_raftNumbered, Cond.selects RX2 yX2_raftNumbered yX2_raftNumbered, Cond.initialized RX2, Cond.code yX2_raftNumbered cX2_raftNumbered 3 (some (.object "Festoon$Raft")), Cond.classLink RX2 80 "java/lang/IndexOutOfBoundsException", Cond.initialized "java/lang/IndexOutOfBoundsException", Cond.fieldLink RX2 17 "Festoon" "rafts" "[LFestoon$Raft;", Cond.methodLink RX2 53 yX2_within, Cond.static yX2_within, Cond.code yX2_within cX2_within 3 (some .boolean), Cond.methodLink RX2 147 yX2_hasRoomToLaunch, Cond.instanceMethod yX2_hasRoomToLaunch, Cond.selects RX2 yX2_hasRoomToLaunch yX2_hasRoomToLaunch, Cond.code yX2_hasRoomToLaunch cX2_hasRoomToLaunch 6 (some .boolean), Cond.fieldLink RX2 41 "Festoon" "gap" "I", Cond.methodLink RX2 202 yX1_rear]
def wsX2_launch_r2 : List Cond := [Cond.instanceMethod yX1_rear, Cond.selects RX1 yX1_rear yX1_rear, Cond.initialized RX1, Cond.code yX1_rear cX1_rear 1 (some .int), Cond.fieldLink RX1 21 "Festoon$Raft" "front" "I", Cond.methodLink RX2 159 yX2_raftsOnRiver, Cond.instanceMethod yX2_raftsOnRiver, Cond.selects RX2 yX2_raftsOnRiver yX2_raftsOnRiver, Cond.code yX2_raftsOnRiver cX2_raftsOnRiver 6 (some .int)]
def wsX2_launch : List Cond := .code yX2_launch cX2_launch 3 (some .int) :: ((wsX2_launch_r1 ++ wsX2_launch_r2) ++ wsX10 ++ wsX20 ++ (vx_atS RX2 68 "java/lang/IllegalStateException" ["java/lang/RuntimeException", "java/lang/Exception"]).filter goodWord ++ (vx_atS RX2 84 "java/lang/IndexOutOfBoundsException" ["java/lang/RuntimeException", "java/lang/Exception"]).filter goodWord)
def wsX2_setRules : List Cond := .code yX2_setRules cX2_setRules 4 (some .int) :: ([.classLink RX2 57 "java/lang/IllegalArgumentException", .initialized "java/lang/IllegalArgumentException", .fieldLink RX2 41 "Festoon" "gap" "I", .fieldLink RX2 44 "Festoon" "base" "I", .methodLink RX2 53 yX2_within, .static yX2_within, .initialized RX2, .code yX2_within cX2_within 3 (some .boolean)] ++ wsX20 ++ (vx_atS RX2 61 "java/lang/IllegalArgumentException" ["java/lang/RuntimeException", "java/lang/Exception"]).filter goodWord)
def wsX2_setGust : List Cond := .code yX2_setGust cX2_setGust 4 (some .int) :: ([.classLink RX2 57 "java/lang/IllegalArgumentException", .initialized "java/lang/IllegalArgumentException", .fieldLink RX2 24 "Festoon" "gusts" "[I", .methodLink RX2 53 yX2_within, .static yX2_within, .initialized RX2, .code yX2_within cX2_within 3 (some .boolean)] ++ wsX20 ++ (vx_atS RX2 61 "java/lang/IllegalArgumentException" ["java/lang/RuntimeException", "java/lang/Exception"]).filter goodWord)
def wsX2_litLanterns : List Cond := .code yX2_litLanterns cX2_litLanterns 6 (some .int) :: ([.fieldLink RX2 11 "Festoon" "lanterns" "[LFestoon$Lantern;", .fieldLink RX2 125 "Festoon$Lantern" "state" "I"] ++ wsX20 ++ wsX00)
def wsX2_moveRafts : List Cond := .code yX2_moveRafts cX2_moveRafts 6 none :: ([.fieldLink RX2 21 "Festoon" "launched" "[LFestoon$Raft;", .fieldLink RX2 94 "Festoon$Raft" "sort" "I", .fieldLink RX2 41 "Festoon" "gap" "I", .methodLink RX2 220 yX1_moveBehind, .instanceMethod yX1_moveBehind, .selects RX1 yX1_moveBehind yX1_moveBehind, .initialized RX1, .code yX1_moveBehind cX1_moveBehind 4 none, .fieldLink RX1 21 "Festoon$Raft" "front" "I", .fieldLink RX1 30 "Festoon$Raft" "speed" "I", .methodLink RX1 54 Lib.Math.min.name, .static Lib.Math.min.name, .initialized "java/lang/Math", .code Lib.Math.min.name Lib.Math.min.code 2 (some .int), .methodLink RX1 60 Lib.Math.max.name, .static Lib.Math.max.name, .code Lib.Math.max.name Lib.Math.max.code 2 (some .int), .methodLink RX1 51 yX1_rear, .instanceMethod yX1_rear, .selects RX1 yX1_rear yX1_rear, .code yX1_rear cX1_rear 1 (some .int)] ++ wsX20 ++ wsX10)
def wsX2_letRaftsGo : List Cond := .code yX2_letRaftsGo cX2_letRaftsGo 5 none :: ([.fieldLink RX2 21 "Festoon" "launched" "[LFestoon$Raft;", .fieldLink RX2 94 "Festoon$Raft" "sort" "I", .fieldLink RX2 153 "Festoon$Raft" "front" "I", .methodLink RX2 224 yX1_darkenAll, .instanceMethod yX1_darkenAll, .selects RX1 yX1_darkenAll yX1_darkenAll, .initialized RX1, .code yX1_darkenAll cX1_darkenAll 5 none, .fieldLink RX1 11 "Festoon$Raft" "slots" "[LFestoon$Lantern;", .methodLink RX1 63 yX0_darken, .instanceMethod yX0_darken, .selects RX0 yX0_darken yX0_darken, .initialized RX0, .code yX0_darken cX0_darken 1 none, .fieldLink RX0 9 "Festoon$Lantern" "state" "I"] ++ wsX20 ++ wsX10 ++ wsX00)
def wsX2_blowGust : List Cond := .code yX2_blowGust cX2_blowGust 6 none :: ([.fieldLink RX2 38 "Festoon" "now" "I", .fieldLink RX2 24 "Festoon" "gusts" "[I", .fieldLink RX2 11 "Festoon" "lanterns" "[LFestoon$Lantern;", .fieldLink RX2 125 "Festoon$Lantern" "state" "I", .fieldLink RX2 47 "Festoon" "darkByGusts" "I", .methodLink RX2 53 yX2_within, .static yX2_within, .initialized RX2, .code yX2_within cX2_within 3 (some .boolean), .methodLink RX2 227 yX0_firmness, .instanceMethod yX0_firmness, .selects RX0 yX0_firmness yX0_firmness, .initialized RX0, .code yX0_firmness cX0_firmness 1 (some .int), .fieldLink RX0 25 "Festoon$Lantern" "paper" "I", .fieldLink RX0 22 "Festoon$Lantern" "ribs" "I", .methodLink RX2 119 yX0_darken, .instanceMethod yX0_darken, .selects RX0 yX0_darken yX0_darken, .code yX0_darken cX0_darken 1 none, .fieldLink RX0 9 "Festoon$Lantern" "state" "I"] ++ wsX20 ++ wsX00)
def wsX2_burnCandles : List Cond := .code yX2_burnCandles cX2_burnCandles 5 none :: ([.fieldLink RX2 11 "Festoon" "lanterns" "[LFestoon$Lantern;", .fieldLink RX2 125 "Festoon$Lantern" "state" "I", .methodLink RX2 230 yX0_burnOneMinute, .instanceMethod yX0_burnOneMinute, .selects RX0 yX0_burnOneMinute yX0_burnOneMinute, .initialized RX0, .code yX0_burnOneMinute cX0_burnOneMinute 1 none, .fieldLink RX0 31 "Festoon$Lantern" "left" "I", .fieldLink RX0 9 "Festoon$Lantern" "state" "I"] ++ wsX20 ++ wsX00)
def wsX2_sendMarshal_r1 : List Cond := [Cond.fieldLink RX2 11 "Festoon" "lanterns" "[LFestoon$Lantern;", Cond.fieldLink RX2 125 "Festoon$Lantern" "state" "I", Cond.fieldLink RX2 50 "Festoon" "darkByMarshal" "I", Cond.methodLink RX2 131 yX2_isCrowded, Cond.instanceMethod yX2_isCrowded, Cond.selects RX2 yX2_isCrowded yX2_isCrowded, Cond.initialized RX2, Cond.code yX2_isCrowded cX2_isCrowded 5 (some .boolean), Cond.methodLink RX2 233 yX2_isTooNear, Cond.instanceMethod yX2_isTooNear, Cond.selects RX2 yX2_isTooNear yX2_isTooNear, Cond.code yX2_isTooNear cX2_isTooNear 3 (some .boolean), Cond.fieldLink RX2 237 "Festoon$Lantern" "candle" "I", Cond.fieldLink RX2 44 "Festoon" "base" "I", Cond.methodLink RX2 189 yX0_distanceTo, Cond.instanceMethod yX0_distanceTo, Cond.selects RX0 yX0_distanceTo yX0_distanceTo, Cond.initialized RX0, Cond.code yX0_distanceTo cX0_distanceTo 3 (some .int), Cond.methodLink RX0 42 yX0_place, Cond.instanceMethod yX0_place, Cond.selects RX0 yX0_place yX0_place, Cond.code yX0_place cX0_place 1 (some .int), Cond.fieldLink RX0 15 "Festoon$Lantern" "raft" "LFestoon$Raft;"]
def wsX2_sendMarshal_r2 : List Cond := [Cond.fieldLink RX0 34 "Festoon$Raft" "sort" "I", Cond.fieldLink RX0 39 "Festoon$Raft" "front" "I", Cond.fieldLink RX0 19 "Festoon$Lantern" "slot" "I", Cond.methodLink RX2 119 yX0_darken, Cond.instanceMethod yX0_darken, Cond.selects RX0 yX0_darken yX0_darken, Cond.code yX0_darken cX0_darken 1 none, Cond.fieldLink RX0 9 "Festoon$Lantern" "state" "I"]
def wsX2_sendMarshal : List Cond := .code yX2_sendMarshal cX2_sendMarshal 3 none :: ((wsX2_sendMarshal_r1 ++ wsX2_sendMarshal_r2) ++ wsX20 ++ wsX00 ++ wsX10)
def wsX2_passOne_r1 : List Cond := [Cond.fieldLink RX2 38 "Festoon" "now" "I", Cond.methodLink RX2 205 yX2_moveRafts, Cond.instanceMethod yX2_moveRafts, Cond.selects RX2 yX2_moveRafts yX2_moveRafts, Cond.initialized RX2, Cond.code yX2_moveRafts cX2_moveRafts 6 none, Cond.fieldLink RX2 21 "Festoon" "launched" "[LFestoon$Raft;", Cond.fieldLink RX2 94 "Festoon$Raft" "sort" "I", Cond.fieldLink RX2 41 "Festoon" "gap" "I", Cond.methodLink RX2 220 yX1_moveBehind, Cond.instanceMethod yX1_moveBehind, Cond.selects RX1 yX1_moveBehind yX1_moveBehind, Cond.initialized RX1, Cond.code yX1_moveBehind cX1_moveBehind 4 none, Cond.fieldLink RX1 21 "Festoon$Raft" "front" "I", Cond.fieldLink RX1 30 "Festoon$Raft" "speed" "I", Cond.methodLink RX1 54 Lib.Math.min.name, Cond.static Lib.Math.min.name, Cond.initialized "java/lang/Math", Cond.code Lib.Math.min.name Lib.Math.min.code 2 (some .int), Cond.methodLink RX1 60 Lib.Math.max.name, Cond.static Lib.Math.max.name, Cond.code Lib.Math.max.name Lib.Math.max.code 2 (some .int), Cond.methodLink RX1 51 yX1_rear]
def wsX2_passOne_r2 : List Cond := [Cond.instanceMethod yX1_rear, Cond.selects RX1 yX1_rear yX1_rear, Cond.code yX1_rear cX1_rear 1 (some .int), Cond.methodLink RX2 208 yX2_letRaftsGo, Cond.instanceMethod yX2_letRaftsGo, Cond.selects RX2 yX2_letRaftsGo yX2_letRaftsGo, Cond.code yX2_letRaftsGo cX2_letRaftsGo 5 none, Cond.fieldLink RX2 153 "Festoon$Raft" "front" "I", Cond.methodLink RX2 224 yX1_darkenAll, Cond.instanceMethod yX1_darkenAll, Cond.selects RX1 yX1_darkenAll yX1_darkenAll, Cond.code yX1_darkenAll cX1_darkenAll 5 none, Cond.fieldLink RX1 11 "Festoon$Raft" "slots" "[LFestoon$Lantern;", Cond.methodLink RX1 63 yX0_darken, Cond.instanceMethod yX0_darken, Cond.selects RX0 yX0_darken yX0_darken, Cond.initialized RX0, Cond.code yX0_darken cX0_darken 1 none, Cond.fieldLink RX0 9 "Festoon$Lantern" "state" "I", Cond.methodLink RX2 211 yX2_blowGust, Cond.instanceMethod yX2_blowGust, Cond.selects RX2 yX2_blowGust yX2_blowGust, Cond.code yX2_blowGust cX2_blowGust 6 none, Cond.fieldLink RX2 24 "Festoon" "gusts" "[I"]
def wsX2_passOne_r3 : List Cond := [Cond.fieldLink RX2 11 "Festoon" "lanterns" "[LFestoon$Lantern;", Cond.fieldLink RX2 125 "Festoon$Lantern" "state" "I", Cond.fieldLink RX2 47 "Festoon" "darkByGusts" "I", Cond.methodLink RX2 53 yX2_within, Cond.static yX2_within, Cond.code yX2_within cX2_within 3 (some .boolean), Cond.methodLink RX2 227 yX0_firmness, Cond.instanceMethod yX0_firmness, Cond.selects RX0 yX0_firmness yX0_firmness, Cond.code yX0_firmness cX0_firmness 1 (some .int), Cond.fieldLink RX0 25 "Festoon$Lantern" "paper" "I", Cond.fieldLink RX0 22 "Festoon$Lantern" "ribs" "I", Cond.methodLink RX2 119 yX0_darken, Cond.methodLink RX2 214 yX2_burnCandles, Cond.instanceMethod yX2_burnCandles, Cond.selects RX2 yX2_burnCandles yX2_burnCandles, Cond.code yX2_burnCandles cX2_burnCandles 5 none, Cond.methodLink RX2 230 yX0_burnOneMinute, Cond.instanceMethod yX0_burnOneMinute, Cond.selects RX0 yX0_burnOneMinute yX0_burnOneMinute, Cond.code yX0_burnOneMinute cX0_burnOneMinute 1 none, Cond.fieldLink RX0 31 "Festoon$Lantern" "left" "I", Cond.methodLink RX2 217 yX2_sendMarshal, Cond.instanceMethod yX2_sendMarshal]
def wsX2_passOne_r4 : List Cond := [Cond.selects RX2 yX2_sendMarshal yX2_sendMarshal, Cond.code yX2_sendMarshal cX2_sendMarshal 3 none, Cond.fieldLink RX2 50 "Festoon" "darkByMarshal" "I", Cond.methodLink RX2 131 yX2_isCrowded, Cond.instanceMethod yX2_isCrowded, Cond.selects RX2 yX2_isCrowded yX2_isCrowded, Cond.code yX2_isCrowded cX2_isCrowded 5 (some .boolean), Cond.methodLink RX2 233 yX2_isTooNear, Cond.instanceMethod yX2_isTooNear, Cond.selects RX2 yX2_isTooNear yX2_isTooNear, Cond.code yX2_isTooNear cX2_isTooNear 3 (some .boolean), Cond.fieldLink RX2 237 "Festoon$Lantern" "candle" "I", Cond.fieldLink RX2 44 "Festoon" "base" "I", Cond.methodLink RX2 189 yX0_distanceTo, Cond.instanceMethod yX0_distanceTo, Cond.selects RX0 yX0_distanceTo yX0_distanceTo, Cond.code yX0_distanceTo cX0_distanceTo 3 (some .int), Cond.methodLink RX0 42 yX0_place, Cond.instanceMethod yX0_place, Cond.selects RX0 yX0_place yX0_place, Cond.code yX0_place cX0_place 1 (some .int), Cond.fieldLink RX0 15 "Festoon$Lantern" "raft" "LFestoon$Raft;", Cond.fieldLink RX0 34 "Festoon$Raft" "sort" "I", Cond.fieldLink RX0 39 "Festoon$Raft" "front" "I"]
def wsX2_passOne_r5 : List Cond := [Cond.fieldLink RX0 19 "Festoon$Lantern" "slot" "I"]
def wsX2_passOne : List Cond := .code yX2_passOne cX2_passOne 1 none :: ((wsX2_passOne_r1 ++ (wsX2_passOne_r2 ++ (wsX2_passOne_r3 ++ (wsX2_passOne_r4 ++ wsX2_passOne_r5)))) ++ wsX20 ++ wsX10 ++ wsX00)
def wsX2_pass_r1 : List Cond := [Cond.classLink RX2 57 "java/lang/IllegalArgumentException", Cond.initialized "java/lang/IllegalArgumentException", Cond.methodLink RX2 53 yX2_within, Cond.static yX2_within, Cond.initialized RX2, Cond.code yX2_within cX2_within 3 (some .boolean), Cond.methodLink RX2 168 yX2_litLanterns, Cond.instanceMethod yX2_litLanterns, Cond.selects RX2 yX2_litLanterns yX2_litLanterns, Cond.code yX2_litLanterns cX2_litLanterns 6 (some .int), Cond.fieldLink RX2 11 "Festoon" "lanterns" "[LFestoon$Lantern;", Cond.fieldLink RX2 125 "Festoon$Lantern" "state" "I", Cond.methodLink RX2 171 yX2_passOne, Cond.instanceMethod yX2_passOne, Cond.selects RX2 yX2_passOne yX2_passOne, Cond.code yX2_passOne cX2_passOne 1 none, Cond.fieldLink RX2 38 "Festoon" "now" "I", Cond.methodLink RX2 205 yX2_moveRafts, Cond.instanceMethod yX2_moveRafts, Cond.selects RX2 yX2_moveRafts yX2_moveRafts, Cond.code yX2_moveRafts cX2_moveRafts 6 none, Cond.fieldLink RX2 21 "Festoon" "launched" "[LFestoon$Raft;", Cond.fieldLink RX2 94 "Festoon$Raft" "sort" "I", Cond.fieldLink RX2 41 "Festoon" "gap" "I"]
def wsX2_pass_r2 : List Cond := [Cond.methodLink RX2 220 yX1_moveBehind, Cond.instanceMethod yX1_moveBehind, Cond.selects RX1 yX1_moveBehind yX1_moveBehind, Cond.initialized RX1, Cond.code yX1_moveBehind cX1_moveBehind 4 none, Cond.fieldLink RX1 21 "Festoon$Raft" "front" "I", Cond.fieldLink RX1 30 "Festoon$Raft" "speed" "I", Cond.methodLink RX1 54 Lib.Math.min.name, Cond.static Lib.Math.min.name, Cond.initialized "java/lang/Math", Cond.code Lib.Math.min.name Lib.Math.min.code 2 (some .int), Cond.methodLink RX1 60 Lib.Math.max.name, Cond.static Lib.Math.max.name, Cond.code Lib.Math.max.name Lib.Math.max.code 2 (some .int), Cond.methodLink RX1 51 yX1_rear, Cond.instanceMethod yX1_rear, Cond.selects RX1 yX1_rear yX1_rear, Cond.code yX1_rear cX1_rear 1 (some .int), Cond.methodLink RX2 208 yX2_letRaftsGo, Cond.instanceMethod yX2_letRaftsGo, Cond.selects RX2 yX2_letRaftsGo yX2_letRaftsGo, Cond.code yX2_letRaftsGo cX2_letRaftsGo 5 none, Cond.fieldLink RX2 153 "Festoon$Raft" "front" "I", Cond.methodLink RX2 224 yX1_darkenAll]
def wsX2_pass_r3 : List Cond := [Cond.instanceMethod yX1_darkenAll, Cond.selects RX1 yX1_darkenAll yX1_darkenAll, Cond.code yX1_darkenAll cX1_darkenAll 5 none, Cond.fieldLink RX1 11 "Festoon$Raft" "slots" "[LFestoon$Lantern;", Cond.methodLink RX1 63 yX0_darken, Cond.instanceMethod yX0_darken, Cond.selects RX0 yX0_darken yX0_darken, Cond.initialized RX0, Cond.code yX0_darken cX0_darken 1 none, Cond.fieldLink RX0 9 "Festoon$Lantern" "state" "I", Cond.methodLink RX2 211 yX2_blowGust, Cond.instanceMethod yX2_blowGust, Cond.selects RX2 yX2_blowGust yX2_blowGust, Cond.code yX2_blowGust cX2_blowGust 6 none, Cond.fieldLink RX2 24 "Festoon" "gusts" "[I", Cond.fieldLink RX2 47 "Festoon" "darkByGusts" "I", Cond.methodLink RX2 227 yX0_firmness, Cond.instanceMethod yX0_firmness, Cond.selects RX0 yX0_firmness yX0_firmness, Cond.code yX0_firmness cX0_firmness 1 (some .int), Cond.fieldLink RX0 25 "Festoon$Lantern" "paper" "I", Cond.fieldLink RX0 22 "Festoon$Lantern" "ribs" "I", Cond.methodLink RX2 119 yX0_darken, Cond.methodLink RX2 214 yX2_burnCandles]
def wsX2_pass_r4 : List Cond := [Cond.instanceMethod yX2_burnCandles, Cond.selects RX2 yX2_burnCandles yX2_burnCandles, Cond.code yX2_burnCandles cX2_burnCandles 5 none, Cond.methodLink RX2 230 yX0_burnOneMinute, Cond.instanceMethod yX0_burnOneMinute, Cond.selects RX0 yX0_burnOneMinute yX0_burnOneMinute, Cond.code yX0_burnOneMinute cX0_burnOneMinute 1 none, Cond.fieldLink RX0 31 "Festoon$Lantern" "left" "I", Cond.methodLink RX2 217 yX2_sendMarshal, Cond.instanceMethod yX2_sendMarshal, Cond.selects RX2 yX2_sendMarshal yX2_sendMarshal, Cond.code yX2_sendMarshal cX2_sendMarshal 3 none, Cond.fieldLink RX2 50 "Festoon" "darkByMarshal" "I", Cond.methodLink RX2 131 yX2_isCrowded, Cond.instanceMethod yX2_isCrowded, Cond.selects RX2 yX2_isCrowded yX2_isCrowded, Cond.code yX2_isCrowded cX2_isCrowded 5 (some .boolean), Cond.methodLink RX2 233 yX2_isTooNear, Cond.instanceMethod yX2_isTooNear, Cond.selects RX2 yX2_isTooNear yX2_isTooNear, Cond.code yX2_isTooNear cX2_isTooNear 3 (some .boolean), Cond.fieldLink RX2 237 "Festoon$Lantern" "candle" "I", Cond.fieldLink RX2 44 "Festoon" "base" "I", Cond.methodLink RX2 189 yX0_distanceTo]
def wsX2_pass_r5 : List Cond := [Cond.instanceMethod yX0_distanceTo, Cond.selects RX0 yX0_distanceTo yX0_distanceTo, Cond.code yX0_distanceTo cX0_distanceTo 3 (some .int), Cond.methodLink RX0 42 yX0_place, Cond.instanceMethod yX0_place, Cond.selects RX0 yX0_place yX0_place, Cond.code yX0_place cX0_place 1 (some .int), Cond.fieldLink RX0 15 "Festoon$Lantern" "raft" "LFestoon$Raft;", Cond.fieldLink RX0 34 "Festoon$Raft" "sort" "I", Cond.fieldLink RX0 39 "Festoon$Raft" "front" "I", Cond.fieldLink RX0 19 "Festoon$Lantern" "slot" "I"]
def wsX2_pass : List Cond := .code yX2_pass cX2_pass 4 (some .int) :: ((wsX2_pass_r1 ++ (wsX2_pass_r2 ++ (wsX2_pass_r3 ++ (wsX2_pass_r4 ++ wsX2_pass_r5)))) ++ wsX20 ++ wsX00 ++ wsX10 ++ (vx_atS RX2 61 "java/lang/IllegalArgumentException" ["java/lang/RuntimeException", "java/lang/Exception"]).filter goodWord)
def wsX2_time : List Cond := .code yX2_time cX2_time 1 (some .int) :: ([.fieldLink RX2 38 "Festoon" "now" "I"] ++ wsX20)
def wsX2_lanterns : List Cond := .code yX2_lanterns cX2_lanterns 1 (some .int) :: ([.fieldLink RX2 28 "Festoon" "made" "I"] ++ wsX20)
def wsX2_stateOf : List Cond := .code yX2_stateOf cX2_stateOf 3 (some .int) :: ([.fieldLink RX2 125 "Festoon$Lantern" "state" "I", .methodLink RX2 72 yX2_lanternNumbered, .instanceMethod yX2_lanternNumbered, .selects RX2 yX2_lanternNumbered yX2_lanternNumbered, .initialized RX2, .code yX2_lanternNumbered cX2_lanternNumbered 3 (some (.object "Festoon$Lantern")), .classLink RX2 80 "java/lang/IndexOutOfBoundsException", .initialized "java/lang/IndexOutOfBoundsException", .fieldLink RX2 11 "Festoon" "lanterns" "[LFestoon$Lantern;", .methodLink RX2 53 yX2_within, .static yX2_within, .code yX2_within cX2_within 3 (some .boolean)] ++ wsX00 ++ wsX20 ++ (vx_atS RX2 84 "java/lang/IndexOutOfBoundsException" ["java/lang/RuntimeException", "java/lang/Exception"]).filter goodWord)
def wsX2_left : List Cond := .code yX2_left cX2_left 3 (some .int) :: ([.fieldLink RX2 137 "Festoon$Lantern" "left" "I", .methodLink RX2 72 yX2_lanternNumbered, .instanceMethod yX2_lanternNumbered, .selects RX2 yX2_lanternNumbered yX2_lanternNumbered, .initialized RX2, .code yX2_lanternNumbered cX2_lanternNumbered 3 (some (.object "Festoon$Lantern")), .classLink RX2 80 "java/lang/IndexOutOfBoundsException", .initialized "java/lang/IndexOutOfBoundsException", .fieldLink RX2 11 "Festoon" "lanterns" "[LFestoon$Lantern;", .methodLink RX2 53 yX2_within, .static yX2_within, .code yX2_within cX2_within 3 (some .boolean)] ++ wsX00 ++ wsX20 ++ (vx_atS RX2 84 "java/lang/IndexOutOfBoundsException" ["java/lang/RuntimeException", "java/lang/Exception"]).filter goodWord)
def wsX2_placeOf : List Cond := .code yX2_placeOf cX2_placeOf 3 (some .int) :: ([.methodLink RX2 72 yX2_lanternNumbered, .instanceMethod yX2_lanternNumbered, .selects RX2 yX2_lanternNumbered yX2_lanternNumbered, .initialized RX2, .code yX2_lanternNumbered cX2_lanternNumbered 3 (some (.object "Festoon$Lantern")), .classLink RX2 80 "java/lang/IndexOutOfBoundsException", .initialized "java/lang/IndexOutOfBoundsException", .fieldLink RX2 11 "Festoon" "lanterns" "[LFestoon$Lantern;", .methodLink RX2 53 yX2_within, .static yX2_within, .code yX2_within cX2_within 3 (some .boolean), .methodLink RX2 128 yX0_place, .instanceMethod yX0_place, .selects RX0 yX0_place yX0_place, .initialized RX0, .code yX0_place cX0_place 1 (some .int), .fieldLink RX0 15 "Festoon$Lantern" "raft" "LFestoon$Raft;", .fieldLink RX0 34 "Festoon$Raft" "sort" "I", .fieldLink RX0 39 "Festoon$Raft" "front" "I", .fieldLink RX0 19 "Festoon$Lantern" "slot" "I"] ++ wsX20 ++ wsX00 ++ wsX10 ++ (vx_atS RX2 84 "java/lang/IndexOutOfBoundsException" ["java/lang/RuntimeException", "java/lang/Exception"]).filter goodWord)
def wsX2_nearestAhead_r1 : List Cond := [Cond.fieldLink RX2 21 "Festoon" "launched" "[LFestoon$Raft;", Cond.methodLink RX2 240 Lib.Math.min.name, Cond.static Lib.Math.min.name, Cond.initialized "java/lang/Math", Cond.code Lib.Math.min.name Lib.Math.min.code 2 (some .int), Cond.methodLink RX2 174 yX1_nearestLit, Cond.instanceMethod yX1_nearestLit, Cond.selects RX1 yX1_nearestLit yX1_nearestLit, Cond.initialized RX1, Cond.code yX1_nearestLit cX1_nearestLit 7 (some .int), Cond.fieldLink RX1 11 "Festoon$Raft" "slots" "[LFestoon$Lantern;", Cond.fieldLink RX1 66 "Festoon$Lantern" "state" "I", Cond.methodLink RX1 69 yX0_distanceTo, Cond.instanceMethod yX0_distanceTo, Cond.selects RX0 yX0_distanceTo yX0_distanceTo, Cond.initialized RX0, Cond.code yX0_distanceTo cX0_distanceTo 3 (some .int), Cond.methodLink RX0 42 yX0_place, Cond.instanceMethod yX0_place, Cond.selects RX0 yX0_place yX0_place, Cond.code yX0_place cX0_place 1 (some .int), Cond.fieldLink RX0 15 "Festoon$Lantern" "raft" "LFestoon$Raft;", Cond.fieldLink RX0 34 "Festoon$Raft" "sort" "I", Cond.fieldLink RX0 39 "Festoon$Raft" "front" "I"]
def wsX2_nearestAhead_r2 : List Cond := [Cond.fieldLink RX0 19 "Festoon$Lantern" "slot" "I", Cond.static yX2_nearer, Cond.initialized RX2, Cond.code yX2_nearer cX2_nearer 2 (some .int), Cond.methodLink RX2 245 Lib.Math.max.name, Cond.static Lib.Math.max.name, Cond.code Lib.Math.max.name Lib.Math.max.code 2 (some .int)]
def wsX2_nearestAhead : List Cond := .code yX2_nearestAhead cX2_nearestAhead 6 (some .int) :: ((wsX2_nearestAhead_r1 ++ wsX2_nearestAhead_r2) ++ wsX20 ++ wsX10 ++ wsX00)
def wsX2_nearestBehind_r1 : List Cond := [Cond.methodLink RX2 245 Lib.Math.max.name, Cond.static Lib.Math.max.name, Cond.initialized "java/lang/Math", Cond.code Lib.Math.max.name Lib.Math.max.code 2 (some .int), Cond.fieldLink RX2 21 "Festoon" "launched" "[LFestoon$Raft;", Cond.methodLink RX2 174 yX1_nearestLit, Cond.instanceMethod yX1_nearestLit, Cond.selects RX1 yX1_nearestLit yX1_nearestLit, Cond.initialized RX1, Cond.code yX1_nearestLit cX1_nearestLit 7 (some .int), Cond.fieldLink RX1 11 "Festoon$Raft" "slots" "[LFestoon$Lantern;", Cond.fieldLink RX1 66 "Festoon$Lantern" "state" "I", Cond.methodLink RX1 69 yX0_distanceTo, Cond.instanceMethod yX0_distanceTo, Cond.selects RX0 yX0_distanceTo yX0_distanceTo, Cond.initialized RX0, Cond.code yX0_distanceTo cX0_distanceTo 3 (some .int), Cond.methodLink RX0 42 yX0_place, Cond.instanceMethod yX0_place, Cond.selects RX0 yX0_place yX0_place, Cond.code yX0_place cX0_place 1 (some .int), Cond.fieldLink RX0 15 "Festoon$Lantern" "raft" "LFestoon$Raft;", Cond.fieldLink RX0 34 "Festoon$Raft" "sort" "I", Cond.fieldLink RX0 39 "Festoon$Raft" "front" "I"]
def wsX2_nearestBehind_r2 : List Cond := [Cond.fieldLink RX0 19 "Festoon$Lantern" "slot" "I", Cond.static yX2_nearer, Cond.initialized RX2, Cond.code yX2_nearer cX2_nearer 2 (some .int), Cond.methodLink RX2 240 Lib.Math.min.name, Cond.static Lib.Math.min.name, Cond.code Lib.Math.min.name Lib.Math.min.code 2 (some .int)]
def wsX2_nearestBehind : List Cond := .code yX2_nearestBehind cX2_nearestBehind 6 (some .int) :: ((wsX2_nearestBehind_r1 ++ wsX2_nearestBehind_r2) ++ wsX20 ++ wsX10 ++ wsX00)
def wsX2_nearest_r1 : List Cond := [Cond.fieldLink RX2 90 "Festoon$Lantern" "raft" "LFestoon$Raft;", Cond.fieldLink RX2 94 "Festoon$Raft" "sort" "I", Cond.fieldLink RX2 156 "Festoon$Raft" "order" "I", Cond.methodLink RX2 72 yX2_lanternNumbered, Cond.instanceMethod yX2_lanternNumbered, Cond.selects RX2 yX2_lanternNumbered yX2_lanternNumbered, Cond.initialized RX2, Cond.code yX2_lanternNumbered cX2_lanternNumbered 3 (some (.object "Festoon$Lantern")), Cond.classLink RX2 80 "java/lang/IndexOutOfBoundsException", Cond.initialized "java/lang/IndexOutOfBoundsException", Cond.fieldLink RX2 11 "Festoon" "lanterns" "[LFestoon$Lantern;", Cond.methodLink RX2 53 yX2_within, Cond.static yX2_within, Cond.code yX2_within cX2_within 3 (some .boolean), Cond.methodLink RX2 174 yX1_nearestLit, Cond.instanceMethod yX1_nearestLit, Cond.selects RX1 yX1_nearestLit yX1_nearestLit, Cond.initialized RX1, Cond.code yX1_nearestLit cX1_nearestLit 7 (some .int), Cond.fieldLink RX1 11 "Festoon$Raft" "slots" "[LFestoon$Lantern;", Cond.fieldLink RX1 66 "Festoon$Lantern" "state" "I", Cond.methodLink RX1 69 yX0_distanceTo, Cond.instanceMethod yX0_distanceTo, Cond.selects RX0 yX0_distanceTo yX0_distanceTo]
def wsX2_nearest_r2 : List Cond := [Cond.initialized RX0, Cond.code yX0_distanceTo cX0_distanceTo 3 (some .int), Cond.methodLink RX0 42 yX0_place, Cond.instanceMethod yX0_place, Cond.selects RX0 yX0_place yX0_place, Cond.code yX0_place cX0_place 1 (some .int), Cond.fieldLink RX0 15 "Festoon$Lantern" "raft" "LFestoon$Raft;", Cond.fieldLink RX0 34 "Festoon$Raft" "sort" "I", Cond.fieldLink RX0 39 "Festoon$Raft" "front" "I", Cond.fieldLink RX0 19 "Festoon$Lantern" "slot" "I", Cond.static yX2_nearer, Cond.code yX2_nearer cX2_nearer 2 (some .int), Cond.methodLink RX2 245 Lib.Math.max.name, Cond.static Lib.Math.max.name, Cond.initialized "java/lang/Math", Cond.code Lib.Math.max.name Lib.Math.max.code 2 (some .int), Cond.methodLink RX2 240 Lib.Math.min.name, Cond.static Lib.Math.min.name, Cond.code Lib.Math.min.name Lib.Math.min.code 2 (some .int), Cond.methodLink RX2 178 yX2_nearestAhead, Cond.instanceMethod yX2_nearestAhead, Cond.selects RX2 yX2_nearestAhead yX2_nearestAhead, Cond.code yX2_nearestAhead cX2_nearestAhead 6 (some .int), Cond.fieldLink RX2 21 "Festoon" "launched" "[LFestoon$Raft;"]
def wsX2_nearest_r3 : List Cond := [Cond.methodLink RX2 182 yX2_nearestBehind, Cond.instanceMethod yX2_nearestBehind, Cond.selects RX2 yX2_nearestBehind yX2_nearestBehind, Cond.code yX2_nearestBehind cX2_nearestBehind 6 (some .int), Cond.methodLink RX2 185 yX2_nearer]
def wsX2_nearest : List Cond := .code yX2_nearest cX2_nearest 7 (some .int) :: ((wsX2_nearest_r1 ++ (wsX2_nearest_r2 ++ wsX2_nearest_r3)) ++ wsX00 ++ wsX10 ++ wsX20 ++ (vx_atS RX2 84 "java/lang/IndexOutOfBoundsException" ["java/lang/RuntimeException", "java/lang/Exception"]).filter goodWord)
def wsX2_nearestOfAll_r1 : List Cond := [Cond.fieldLink RX2 11 "Festoon" "lanterns" "[LFestoon$Lantern;", Cond.fieldLink RX2 125 "Festoon$Lantern" "state" "I", Cond.methodLink RX2 72 yX2_lanternNumbered, Cond.instanceMethod yX2_lanternNumbered, Cond.selects RX2 yX2_lanternNumbered yX2_lanternNumbered, Cond.initialized RX2, Cond.code yX2_lanternNumbered cX2_lanternNumbered 3 (some (.object "Festoon$Lantern")), Cond.classLink RX2 80 "java/lang/IndexOutOfBoundsException", Cond.initialized "java/lang/IndexOutOfBoundsException", Cond.methodLink RX2 53 yX2_within, Cond.static yX2_within, Cond.code yX2_within cX2_within 3 (some .boolean), Cond.methodLink RX2 128 yX0_place, Cond.instanceMethod yX0_place, Cond.selects RX0 yX0_place yX0_place, Cond.initialized RX0, Cond.code yX0_place cX0_place 1 (some .int), Cond.fieldLink RX0 15 "Festoon$Lantern" "raft" "LFestoon$Raft;", Cond.fieldLink RX0 34 "Festoon$Raft" "sort" "I", Cond.fieldLink RX0 39 "Festoon$Raft" "front" "I", Cond.fieldLink RX0 19 "Festoon$Lantern" "slot" "I", Cond.methodLink RX2 189 yX0_distanceTo, Cond.instanceMethod yX0_distanceTo, Cond.selects RX0 yX0_distanceTo yX0_distanceTo]
def wsX2_nearestOfAll_r2 : List Cond := [Cond.code yX0_distanceTo cX0_distanceTo 3 (some .int), Cond.methodLink RX0 42 yX0_place, Cond.methodLink RX2 185 yX2_nearer, Cond.static yX2_nearer, Cond.code yX2_nearer cX2_nearer 2 (some .int), Cond.methodLink RX2 245 Lib.Math.max.name, Cond.static Lib.Math.max.name, Cond.initialized "java/lang/Math", Cond.code Lib.Math.max.name Lib.Math.max.code 2 (some .int), Cond.methodLink RX2 240 Lib.Math.min.name, Cond.static Lib.Math.min.name, Cond.code Lib.Math.min.name Lib.Math.min.code 2 (some .int)]
def wsX2_nearestOfAll : List Cond := .code yX2_nearestOfAll cX2_nearestOfAll 8 (some .int) :: ((wsX2_nearestOfAll_r1 ++ wsX2_nearestOfAll_r2) ++ wsX20 ++ wsX00 ++ wsX10 ++ (vx_atS RX2 84 "java/lang/IndexOutOfBoundsException" ["java/lang/RuntimeException", "java/lang/Exception"]).filter goodWord)
def wsX2_blownOut : List Cond := .code yX2_blownOut cX2_blownOut 1 (some .int) :: ([.fieldLink RX2 47 "Festoon" "darkByGusts" "I"] ++ wsX20)
def wsX2_ordered : List Cond := .code yX2_ordered cX2_ordered 1 (some .int) :: ([.fieldLink RX2 50 "Festoon" "darkByMarshal" "I"] ++ wsX20)
def wsX2_sortOf : List Cond := .code yX2_sortOf cX2_sortOf 3 (some .int) :: ([.fieldLink RX2 94 "Festoon$Raft" "sort" "I", .methodLink RX2 76 yX2_raftNumbered, .instanceMethod yX2_raftNumbered, .selects RX2 yX2_raftNumbered yX2_raftNumbered, .initialized RX2, .code yX2_raftNumbered cX2_raftNumbered 3 (some (.object "Festoon$Raft")), .classLink RX2 80 "java/lang/IndexOutOfBoundsException", .initialized "java/lang/IndexOutOfBoundsException", .fieldLink RX2 17 "Festoon" "rafts" "[LFestoon$Raft;", .methodLink RX2 53 yX2_within, .static yX2_within, .code yX2_within cX2_within 3 (some .boolean)] ++ wsX10 ++ wsX20 ++ (vx_atS RX2 84 "java/lang/IndexOutOfBoundsException" ["java/lang/RuntimeException", "java/lang/Exception"]).filter goodWord)
def wsX2_front : List Cond := .code yX2_front cX2_front 3 (some .int) :: ([.fieldLink RX2 94 "Festoon$Raft" "sort" "I", .fieldLink RX2 153 "Festoon$Raft" "front" "I", .methodLink RX2 76 yX2_raftNumbered, .instanceMethod yX2_raftNumbered, .selects RX2 yX2_raftNumbered yX2_raftNumbered, .initialized RX2, .code yX2_raftNumbered cX2_raftNumbered 3 (some (.object "Festoon$Raft")), .classLink RX2 80 "java/lang/IndexOutOfBoundsException", .initialized "java/lang/IndexOutOfBoundsException", .fieldLink RX2 17 "Festoon" "rafts" "[LFestoon$Raft;", .methodLink RX2 53 yX2_within, .static yX2_within, .code yX2_within cX2_within 3 (some .boolean)] ++ wsX10 ++ wsX20 ++ (vx_atS RX2 84 "java/lang/IndexOutOfBoundsException" ["java/lang/RuntimeException", "java/lang/Exception"]).filter goodWord)
def wsX2_load_r1 : List Cond := [Cond.methodLink RX2 76 yX2_raftNumbered, Cond.instanceMethod yX2_raftNumbered, Cond.selects RX2 yX2_raftNumbered yX2_raftNumbered, Cond.initialized RX2, Cond.code yX2_raftNumbered cX2_raftNumbered 3 (some (.object "Festoon$Raft")), Cond.classLink RX2 80 "java/lang/IndexOutOfBoundsException", Cond.initialized "java/lang/IndexOutOfBoundsException", Cond.fieldLink RX2 17 "Festoon" "rafts" "[LFestoon$Raft;", Cond.methodLink RX2 53 yX2_within, Cond.static yX2_within, Cond.code yX2_within cX2_within 3 (some .boolean), Cond.methodLink RX2 99 yX1_weight, Cond.instanceMethod yX1_weight, Cond.selects RX1 yX1_weight yX1_weight, Cond.initialized RX1, Cond.code yX1_weight cX1_weight 6 (some .int), Cond.fieldLink RX1 11 "Festoon$Raft" "slots" "[LFestoon$Lantern;", Cond.methodLink RX1 47 yX0_weight, Cond.instanceMethod yX0_weight, Cond.selects RX0 yX0_weight yX0_weight, Cond.initialized RX0, Cond.code yX0_weight cX0_weight 1 (some .int), Cond.fieldLink RX0 22 "Festoon$Lantern" "ribs" "I", Cond.fieldLink RX0 25 "Festoon$Lantern" "paper" "I"]
def wsX2_load_r2 : List Cond := [Cond.fieldLink RX0 28 "Festoon$Lantern" "candle" "I"]
def wsX2_load : List Cond := .code yX2_load cX2_load 3 (some .int) :: ((wsX2_load_r1 ++ wsX2_load_r2) ++ wsX20 ++ wsX10 ++ wsX00 ++ (vx_atS RX2 84 "java/lang/IndexOutOfBoundsException" ["java/lang/RuntimeException", "java/lang/Exception"]).filter goodWord)
def wsX2_likeness : List Cond := .code yX2_likeness cX2_likeness 4 (some .int) :: ([.classLink RX2 57 "java/lang/IllegalArgumentException", .initialized "java/lang/IllegalArgumentException", .methodLink RX2 76 yX2_raftNumbered, .instanceMethod yX2_raftNumbered, .selects RX2 yX2_raftNumbered yX2_raftNumbered, .initialized RX2, .code yX2_raftNumbered cX2_raftNumbered 3 (some (.object "Festoon$Raft")), .classLink RX2 80 "java/lang/IndexOutOfBoundsException", .initialized "java/lang/IndexOutOfBoundsException", .fieldLink RX2 17 "Festoon" "rafts" "[LFestoon$Raft;", .methodLink RX2 53 yX2_within, .static yX2_within, .code yX2_within cX2_within 3 (some .boolean), .methodLink RX2 194 yX1_alike, .instanceMethod yX1_alike, .selects RX1 yX1_alike yX1_alike, .initialized RX1, .code yX1_alike cX1_alike 7 (some .int), .fieldLink RX1 11 "Festoon$Raft" "slots" "[LFestoon$Lantern;", .fieldLink RX1 66 "Festoon$Lantern" "state" "I"] ++ wsX20 ++ wsX10 ++ wsX00 ++ (vx_atS RX2 61 "java/lang/IllegalArgumentException" ["java/lang/RuntimeException", "java/lang/Exception"]).filter goodWord ++ (vx_atS RX2 84 "java/lang/IndexOutOfBoundsException" ["java/lang/RuntimeException", "java/lang/Exception"]).filter goodWord)
def wsX2_prize : List Cond := .code yX2_prize cX2_prize 8 (some .int) :: ([.classLink RX2 57 "java/lang/IllegalArgumentException", .initialized "java/lang/IllegalArgumentException", .fieldLink RX2 21 "Festoon" "launched" "[LFestoon$Raft;", .fieldLink RX2 94 "Festoon$Raft" "sort" "I", .fieldLink RX2 122 "Festoon$Raft" "number" "I", .methodLink RX2 53 yX2_within, .static yX2_within, .initialized RX2, .code yX2_within cX2_within 3 (some .boolean), .methodLink RX2 194 yX1_alike, .instanceMethod yX1_alike, .selects RX1 yX1_alike yX1_alike, .initialized RX1, .code yX1_alike cX1_alike 7 (some .int), .fieldLink RX1 11 "Festoon$Raft" "slots" "[LFestoon$Lantern;", .fieldLink RX1 66 "Festoon$Lantern" "state" "I"] ++ wsX20 ++ wsX10 ++ wsX00 ++ (vx_atS RX2 61 "java/lang/IllegalArgumentException" ["java/lang/RuntimeException", "java/lang/Exception"]).filter goodWord)
def wsX3_init : List Cond := .code yX3_init cX3_init 1 none :: ([.methodLink RX3 1 objectInit, .instanceMethod objectInit, .code objectInit ⟨#[0xb1]⟩ 1 none, .arrayClass .int, .fieldLink RX3 7 "FestoonModel" "ribs" "[I", .fieldLink RX3 13 "FestoonModel" "papers" "[I", .fieldLink RX3 16 "FestoonModel" "candles" "[I", .fieldLink RX3 19 "FestoonModel" "states" "[I", .fieldLink RX3 22 "FestoonModel" "lefts" "[I", .fieldLink RX3 25 "FestoonModel" "hangsOn" "[I", .fieldLink RX3 28 "FestoonModel" "slots" "[I", .fieldLink RX3 31 "FestoonModel" "speeds" "[I", .fieldLink RX3 34 "FestoonModel" "bears" "[I", .fieldLink RX3 37 "FestoonModel" "sorts" "[I", .fieldLink RX3 40 "FestoonModel" "fronts" "[I", .fieldLink RX3 43 "FestoonModel" "order" "[I", .fieldLink RX3 46 "FestoonModel" "gap" "I", .fieldLink RX3 50 "FestoonModel" "gusts" "[I"] ++ wsX30)
def wsX3_thrown : List Cond := .code yX3_thrown cX3_thrown 1 (some .int) :: ([.fieldLink RX3 53 "FestoonModel" "last" "I"] ++ wsX30)
def wsX3_in : List Cond := .code yX3_in cX3_in 3 (some .boolean) :: ([])
def wsX3_goes : List Cond := .code yX3_goes cX3_goes 4 (some .boolean) :: ([.fieldLink RX3 53 "FestoonModel" "last" "I"] ++ wsX30)
def wsX3_isLantern : List Cond := .code yX3_isLantern cX3_isLantern 2 (some .boolean) :: ([.fieldLink RX3 56 "FestoonModel" "lanterns" "I", .methodLink RX3 59 yX3_in, .static yX3_in, .initialized RX3, .code yX3_in cX3_in 3 (some .boolean)] ++ wsX30)
def wsX3_isFloat : List Cond := .code yX3_isFloat cX3_isFloat 2 (some .boolean) :: ([.fieldLink RX3 63 "FestoonModel" "floats" "I", .methodLink RX3 59 yX3_in, .static yX3_in, .initialized RX3, .code yX3_in cX3_in 3 (some .boolean)] ++ wsX30)
def wsX3_make : List Cond := .code yX3_make cX3_make 4 (some .int) :: ([.fieldLink RX3 56 "FestoonModel" "lanterns" "I", .fieldLink RX3 7 "FestoonModel" "ribs" "[I", .fieldLink RX3 13 "FestoonModel" "papers" "[I", .fieldLink RX3 16 "FestoonModel" "candles" "[I", .fieldLink RX3 22 "FestoonModel" "lefts" "[I", .fieldLink RX3 25 "FestoonModel" "hangsOn" "[I", .methodLink RX3 59 yX3_in, .static yX3_in, .initialized RX3, .code yX3_in cX3_in 3 (some .boolean), .methodLink RX3 66 yX3_goes, .instanceMethod yX3_goes, .selects RX3 yX3_goes yX3_goes, .code yX3_goes cX3_goes 4 (some .boolean), .fieldLink RX3 53 "FestoonModel" "last" "I"] ++ wsX30)
def wsX3_weight : List Cond := .code yX3_weight cX3_weight 2 (some .int) :: ([.fieldLink RX3 7 "FestoonModel" "ribs" "[I", .fieldLink RX3 13 "FestoonModel" "papers" "[I", .fieldLink RX3 16 "FestoonModel" "candles" "[I"] ++ wsX30)
def wsX3_loadOf : List Cond := .code yX3_loadOf cX3_loadOf 4 (some .int) :: ([.fieldLink RX3 56 "FestoonModel" "lanterns" "I", .fieldLink RX3 25 "FestoonModel" "hangsOn" "[I", .methodLink RX3 70 yX3_weight, .instanceMethod yX3_weight, .selects RX3 yX3_weight yX3_weight, .initialized RX3, .code yX3_weight cX3_weight 2 (some .int), .fieldLink RX3 7 "FestoonModel" "ribs" "[I", .fieldLink RX3 13 "FestoonModel" "papers" "[I", .fieldLink RX3 16 "FestoonModel" "candles" "[I"] ++ wsX30)
def wsX3_isTaken : List Cond := .code yX3_isTaken cX3_isTaken 5 (some .boolean) :: ([.fieldLink RX3 56 "FestoonModel" "lanterns" "I", .fieldLink RX3 25 "FestoonModel" "hangsOn" "[I", .fieldLink RX3 28 "FestoonModel" "slots" "[I"] ++ wsX30)
def wsX3_hang_r1 : List Cond := [Cond.fieldLink RX3 25 "FestoonModel" "hangsOn" "[I", Cond.fieldLink RX3 37 "FestoonModel" "sorts" "[I", Cond.fieldLink RX3 34 "FestoonModel" "bears" "[I", Cond.fieldLink RX3 28 "FestoonModel" "slots" "[I", Cond.methodLink RX3 74 yX3_isLantern, Cond.instanceMethod yX3_isLantern, Cond.selects RX3 yX3_isLantern yX3_isLantern, Cond.initialized RX3, Cond.code yX3_isLantern cX3_isLantern 2 (some .boolean), Cond.fieldLink RX3 56 "FestoonModel" "lanterns" "I", Cond.methodLink RX3 59 yX3_in, Cond.static yX3_in, Cond.code yX3_in cX3_in 3 (some .boolean), Cond.methodLink RX3 78 yX3_isFloat, Cond.instanceMethod yX3_isFloat, Cond.selects RX3 yX3_isFloat yX3_isFloat, Cond.code yX3_isFloat cX3_isFloat 2 (some .boolean), Cond.fieldLink RX3 63 "FestoonModel" "floats" "I", Cond.methodLink RX3 81 yX3_loadOf, Cond.instanceMethod yX3_loadOf, Cond.selects RX3 yX3_loadOf yX3_loadOf, Cond.code yX3_loadOf cX3_loadOf 4 (some .int), Cond.methodLink RX3 70 yX3_weight, Cond.instanceMethod yX3_weight]
def wsX3_hang_r2 : List Cond := [Cond.selects RX3 yX3_weight yX3_weight, Cond.code yX3_weight cX3_weight 2 (some .int), Cond.fieldLink RX3 7 "FestoonModel" "ribs" "[I", Cond.fieldLink RX3 13 "FestoonModel" "papers" "[I", Cond.fieldLink RX3 16 "FestoonModel" "candles" "[I", Cond.methodLink RX3 84 yX3_isTaken, Cond.instanceMethod yX3_isTaken, Cond.selects RX3 yX3_isTaken yX3_isTaken, Cond.code yX3_isTaken cX3_isTaken 5 (some .boolean), Cond.methodLink RX3 66 yX3_goes, Cond.instanceMethod yX3_goes, Cond.selects RX3 yX3_goes yX3_goes, Cond.code yX3_goes cX3_goes 4 (some .boolean), Cond.fieldLink RX3 53 "FestoonModel" "last" "I"]
def wsX3_hang : List Cond := .code yX3_hang cX3_hang 6 (some .int) :: ((wsX3_hang_r1 ++ wsX3_hang_r2) ++ wsX30)
def wsX3_darkens : List Cond := .code yX3_darkens cX3_darkens 2 none :: ([.fieldLink RX3 19 "FestoonModel" "states" "[I"] ++ wsX30)
def wsX3_takeDown : List Cond := .code yX3_takeDown cX3_takeDown 4 (some .int) :: ([.fieldLink RX3 25 "FestoonModel" "hangsOn" "[I", .methodLink RX3 74 yX3_isLantern, .instanceMethod yX3_isLantern, .selects RX3 yX3_isLantern yX3_isLantern, .initialized RX3, .code yX3_isLantern cX3_isLantern 2 (some .boolean), .fieldLink RX3 56 "FestoonModel" "lanterns" "I", .methodLink RX3 59 yX3_in, .static yX3_in, .code yX3_in cX3_in 3 (some .boolean), .methodLink RX3 66 yX3_goes, .instanceMethod yX3_goes, .selects RX3 yX3_goes yX3_goes, .code yX3_goes cX3_goes 4 (some .boolean), .fieldLink RX3 53 "FestoonModel" "last" "I", .methodLink RX3 88 yX3_darkens, .instanceMethod yX3_darkens, .selects RX3 yX3_darkens yX3_darkens, .code yX3_darkens cX3_darkens 2 none, .fieldLink RX3 19 "FestoonModel" "states" "[I"] ++ wsX30)
def wsX3_hasPlace : List Cond := .code yX3_hasPlace cX3_hasPlace 2 (some .boolean) :: ([.fieldLink RX3 25 "FestoonModel" "hangsOn" "[I", .fieldLink RX3 37 "FestoonModel" "sorts" "[I"] ++ wsX30)
def wsX3_place : List Cond := .code yX3_place cX3_place 2 (some .int) :: ([.fieldLink RX3 40 "FestoonModel" "fronts" "[I", .fieldLink RX3 25 "FestoonModel" "hangsOn" "[I", .fieldLink RX3 28 "FestoonModel" "slots" "[I"] ++ wsX30)
def wsX3_distance : List Cond := .code yX3_distance cX3_distance 4 (some .int) :: ([.methodLink RX3 92 yX3_place, .instanceMethod yX3_place, .selects RX3 yX3_place yX3_place, .initialized RX3, .code yX3_place cX3_place 2 (some .int), .fieldLink RX3 40 "FestoonModel" "fronts" "[I", .fieldLink RX3 25 "FestoonModel" "hangsOn" "[I", .fieldLink RX3 28 "FestoonModel" "slots" "[I"] ++ wsX30)
def wsX3_isNear : List Cond := .code yX3_isNear cX3_isNear 5 (some .boolean) :: ([.fieldLink RX3 19 "FestoonModel" "states" "[I", .fieldLink RX3 16 "FestoonModel" "candles" "[I", .fieldLink RX3 99 "FestoonModel" "base" "I", .methodLink RX3 95 yX3_distance, .instanceMethod yX3_distance, .selects RX3 yX3_distance yX3_distance, .initialized RX3, .code yX3_distance cX3_distance 4 (some .int), .methodLink RX3 92 yX3_place, .instanceMethod yX3_place, .selects RX3 yX3_place yX3_place, .code yX3_place cX3_place 2 (some .int), .fieldLink RX3 40 "FestoonModel" "fronts" "[I", .fieldLink RX3 25 "FestoonModel" "hangsOn" "[I", .fieldLink RX3 28 "FestoonModel" "slots" "[I"] ++ wsX30)
def wsX3_light_r1 : List Cond := [Cond.fieldLink RX3 19 "FestoonModel" "states" "[I", Cond.fieldLink RX3 56 "FestoonModel" "lanterns" "I", Cond.fieldLink RX3 22 "FestoonModel" "lefts" "[I", Cond.methodLink RX3 74 yX3_isLantern, Cond.instanceMethod yX3_isLantern, Cond.selects RX3 yX3_isLantern yX3_isLantern, Cond.initialized RX3, Cond.code yX3_isLantern cX3_isLantern 2 (some .boolean), Cond.methodLink RX3 59 yX3_in, Cond.static yX3_in, Cond.code yX3_in cX3_in 3 (some .boolean), Cond.methodLink RX3 102 yX3_hasPlace, Cond.instanceMethod yX3_hasPlace, Cond.selects RX3 yX3_hasPlace yX3_hasPlace, Cond.code yX3_hasPlace cX3_hasPlace 2 (some .boolean), Cond.fieldLink RX3 25 "FestoonModel" "hangsOn" "[I", Cond.fieldLink RX3 37 "FestoonModel" "sorts" "[I", Cond.methodLink RX3 105 yX3_isNear, Cond.instanceMethod yX3_isNear, Cond.selects RX3 yX3_isNear yX3_isNear, Cond.code yX3_isNear cX3_isNear 5 (some .boolean), Cond.fieldLink RX3 16 "FestoonModel" "candles" "[I", Cond.fieldLink RX3 99 "FestoonModel" "base" "I", Cond.methodLink RX3 95 yX3_distance]
def wsX3_light_r2 : List Cond := [Cond.instanceMethod yX3_distance, Cond.selects RX3 yX3_distance yX3_distance, Cond.code yX3_distance cX3_distance 4 (some .int), Cond.methodLink RX3 92 yX3_place, Cond.instanceMethod yX3_place, Cond.selects RX3 yX3_place yX3_place, Cond.code yX3_place cX3_place 2 (some .int), Cond.fieldLink RX3 40 "FestoonModel" "fronts" "[I", Cond.fieldLink RX3 28 "FestoonModel" "slots" "[I", Cond.methodLink RX3 66 yX3_goes, Cond.instanceMethod yX3_goes, Cond.selects RX3 yX3_goes yX3_goes, Cond.code yX3_goes cX3_goes 4 (some .boolean), Cond.fieldLink RX3 53 "FestoonModel" "last" "I"]
def wsX3_light : List Cond := .code yX3_light cX3_light 4 (some .int) :: ((wsX3_light_r1 ++ wsX3_light_r2) ++ wsX30)
def wsX3_putOut : List Cond := .code yX3_putOut cX3_putOut 3 (some .int) :: ([.fieldLink RX3 19 "FestoonModel" "states" "[I", .fieldLink RX3 22 "FestoonModel" "lefts" "[I", .methodLink RX3 74 yX3_isLantern, .instanceMethod yX3_isLantern, .selects RX3 yX3_isLantern yX3_isLantern, .initialized RX3, .code yX3_isLantern cX3_isLantern 2 (some .boolean), .fieldLink RX3 56 "FestoonModel" "lanterns" "I", .methodLink RX3 59 yX3_in, .static yX3_in, .code yX3_in cX3_in 3 (some .boolean), .methodLink RX3 66 yX3_goes, .instanceMethod yX3_goes, .selects RX3 yX3_goes yX3_goes, .code yX3_goes cX3_goes 4 (some .boolean), .fieldLink RX3 53 "FestoonModel" "last" "I"] ++ wsX30)
def wsX3_build : List Cond := .code yX3_build cX3_build 3 (some .int) :: ([.fieldLink RX3 63 "FestoonModel" "floats" "I", .fieldLink RX3 31 "FestoonModel" "speeds" "[I", .fieldLink RX3 34 "FestoonModel" "bears" "[I", .methodLink RX3 59 yX3_in, .static yX3_in, .initialized RX3, .code yX3_in cX3_in 3 (some .boolean), .methodLink RX3 66 yX3_goes, .instanceMethod yX3_goes, .selects RX3 yX3_goes yX3_goes, .code yX3_goes cX3_goes 4 (some .boolean), .fieldLink RX3 53 "FestoonModel" "last" "I"] ++ wsX30)
def wsX3_rearmost : List Cond := .code yX3_rearmost cX3_rearmost 3 (some .int) :: ([.fieldLink RX3 108 "FestoonModel" "launched" "I", .fieldLink RX3 37 "FestoonModel" "sorts" "[I", .fieldLink RX3 43 "FestoonModel" "order" "[I"] ++ wsX30)
def wsX3_afloat : List Cond := .code yX3_afloat cX3_afloat 3 (some .int) :: ([.fieldLink RX3 63 "FestoonModel" "floats" "I", .fieldLink RX3 37 "FestoonModel" "sorts" "[I"] ++ wsX30)
def wsX3_launch_r1 : List Cond := [Cond.fieldLink RX3 37 "FestoonModel" "sorts" "[I", Cond.fieldLink RX3 40 "FestoonModel" "fronts" "[I", Cond.fieldLink RX3 46 "FestoonModel" "gap" "I", Cond.fieldLink RX3 43 "FestoonModel" "order" "[I", Cond.fieldLink RX3 108 "FestoonModel" "launched" "I", Cond.methodLink RX3 78 yX3_isFloat, Cond.instanceMethod yX3_isFloat, Cond.selects RX3 yX3_isFloat yX3_isFloat, Cond.initialized RX3, Cond.code yX3_isFloat cX3_isFloat 2 (some .boolean), Cond.fieldLink RX3 63 "FestoonModel" "floats" "I", Cond.methodLink RX3 59 yX3_in, Cond.static yX3_in, Cond.code yX3_in cX3_in 3 (some .boolean), Cond.methodLink RX3 111 yX3_rearmost, Cond.instanceMethod yX3_rearmost, Cond.selects RX3 yX3_rearmost yX3_rearmost, Cond.code yX3_rearmost cX3_rearmost 3 (some .int), Cond.methodLink RX3 66 yX3_goes, Cond.instanceMethod yX3_goes, Cond.selects RX3 yX3_goes yX3_goes, Cond.code yX3_goes cX3_goes 4 (some .boolean), Cond.fieldLink RX3 53 "FestoonModel" "last" "I", Cond.methodLink RX3 115 yX3_afloat]
def wsX3_launch_r2 : List Cond := [Cond.instanceMethod yX3_afloat, Cond.selects RX3 yX3_afloat yX3_afloat, Cond.code yX3_afloat cX3_afloat 3 (some .int)]
def wsX3_launch : List Cond := .code yX3_launch cX3_launch 5 (some .int) :: ((wsX3_launch_r1 ++ wsX3_launch_r2) ++ wsX30)
def wsX3_setRules : List Cond := .code yX3_setRules cX3_setRules 4 (some .int) :: ([.fieldLink RX3 46 "FestoonModel" "gap" "I", .fieldLink RX3 99 "FestoonModel" "base" "I", .methodLink RX3 59 yX3_in, .static yX3_in, .initialized RX3, .code yX3_in cX3_in 3 (some .boolean), .methodLink RX3 66 yX3_goes, .instanceMethod yX3_goes, .selects RX3 yX3_goes yX3_goes, .code yX3_goes cX3_goes 4 (some .boolean), .fieldLink RX3 53 "FestoonModel" "last" "I"] ++ wsX30)
def wsX3_setGust : List Cond := .code yX3_setGust cX3_setGust 4 (some .int) :: ([.fieldLink RX3 50 "FestoonModel" "gusts" "[I", .methodLink RX3 59 yX3_in, .static yX3_in, .initialized RX3, .code yX3_in cX3_in 3 (some .boolean), .methodLink RX3 66 yX3_goes, .instanceMethod yX3_goes, .selects RX3 yX3_goes yX3_goes, .code yX3_goes cX3_goes 4 (some .boolean), .fieldLink RX3 53 "FestoonModel" "last" "I"] ++ wsX30)
def wsX3_floatsMove : List Cond := .code yX3_floatsMove cX3_floatsMove 6 none :: ([.fieldLink RX3 108 "FestoonModel" "launched" "I", .fieldLink RX3 43 "FestoonModel" "order" "[I", .fieldLink RX3 37 "FestoonModel" "sorts" "[I", .fieldLink RX3 40 "FestoonModel" "fronts" "[I", .fieldLink RX3 31 "FestoonModel" "speeds" "[I", .fieldLink RX3 46 "FestoonModel" "gap" "I", .fieldLink RX3 63 "FestoonModel" "floats" "I", .fieldLink RX3 56 "FestoonModel" "lanterns" "I", .fieldLink RX3 25 "FestoonModel" "hangsOn" "[I", .methodLink RX3 88 yX3_darkens, .instanceMethod yX3_darkens, .selects RX3 yX3_darkens yX3_darkens, .initialized RX3, .code yX3_darkens cX3_darkens 2 none, .fieldLink RX3 19 "FestoonModel" "states" "[I"] ++ wsX30)
def wsX3_burns_r1 : List Cond := [Cond.fieldLink RX3 118 "FestoonModel" "time" "I", Cond.fieldLink RX3 50 "FestoonModel" "gusts" "[I", Cond.fieldLink RX3 56 "FestoonModel" "lanterns" "I", Cond.fieldLink RX3 19 "FestoonModel" "states" "[I", Cond.fieldLink RX3 13 "FestoonModel" "papers" "[I", Cond.fieldLink RX3 7 "FestoonModel" "ribs" "[I", Cond.fieldLink RX3 121 "FestoonModel" "blown" "I", Cond.fieldLink RX3 22 "FestoonModel" "lefts" "[I", Cond.fieldLink RX3 124 "FestoonModel" "ordered" "I", Cond.methodLink RX3 105 yX3_isNear, Cond.instanceMethod yX3_isNear, Cond.selects RX3 yX3_isNear yX3_isNear, Cond.initialized RX3, Cond.code yX3_isNear cX3_isNear 5 (some .boolean), Cond.fieldLink RX3 16 "FestoonModel" "candles" "[I", Cond.fieldLink RX3 99 "FestoonModel" "base" "I", Cond.methodLink RX3 95 yX3_distance, Cond.instanceMethod yX3_distance, Cond.selects RX3 yX3_distance yX3_distance, Cond.code yX3_distance cX3_distance 4 (some .int), Cond.methodLink RX3 92 yX3_place, Cond.instanceMethod yX3_place, Cond.selects RX3 yX3_place yX3_place, Cond.code yX3_place cX3_place 2 (some .int)]
def wsX3_burns_r2 : List Cond := [Cond.fieldLink RX3 40 "FestoonModel" "fronts" "[I", Cond.fieldLink RX3 25 "FestoonModel" "hangsOn" "[I", Cond.fieldLink RX3 28 "FestoonModel" "slots" "[I"]
def wsX3_burns : List Cond := .code yX3_burns cX3_burns 3 none :: ((wsX3_burns_r1 ++ wsX3_burns_r2) ++ wsX30)
def wsX3_lit : List Cond := .code yX3_lit cX3_lit 3 (some .int) :: ([.fieldLink RX3 56 "FestoonModel" "lanterns" "I", .fieldLink RX3 19 "FestoonModel" "states" "[I"] ++ wsX30)
def wsX3_pass_r1 : List Cond := [Cond.fieldLink RX3 118 "FestoonModel" "time" "I", Cond.methodLink RX3 59 yX3_in, Cond.static yX3_in, Cond.initialized RX3, Cond.code yX3_in cX3_in 3 (some .boolean), Cond.methodLink RX3 66 yX3_goes, Cond.instanceMethod yX3_goes, Cond.selects RX3 yX3_goes yX3_goes, Cond.code yX3_goes cX3_goes 4 (some .boolean), Cond.fieldLink RX3 53 "FestoonModel" "last" "I", Cond.methodLink RX3 127 yX3_lit, Cond.instanceMethod yX3_lit, Cond.selects RX3 yX3_lit yX3_lit, Cond.code yX3_lit cX3_lit 3 (some .int), Cond.fieldLink RX3 56 "FestoonModel" "lanterns" "I", Cond.fieldLink RX3 19 "FestoonModel" "states" "[I", Cond.methodLink RX3 130 yX3_floatsMove, Cond.instanceMethod yX3_floatsMove, Cond.selects RX3 yX3_floatsMove yX3_floatsMove, Cond.code yX3_floatsMove cX3_floatsMove 6 none, Cond.fieldLink RX3 108 "FestoonModel" "launched" "I", Cond.fieldLink RX3 43 "FestoonModel" "order" "[I", Cond.fieldLink RX3 37 "FestoonModel" "sorts" "[I", Cond.fieldLink RX3 40 "FestoonModel" "fronts" "[I"]
def wsX3_pass_r2 : List Cond := [Cond.fieldLink RX3 31 "FestoonModel" "speeds" "[I", Cond.fieldLink RX3 46 "FestoonModel" "gap" "I", Cond.fieldLink RX3 63 "FestoonModel" "floats" "I", Cond.fieldLink RX3 25 "FestoonModel" "hangsOn" "[I", Cond.methodLink RX3 88 yX3_darkens, Cond.instanceMethod yX3_darkens, Cond.selects RX3 yX3_darkens yX3_darkens, Cond.code yX3_darkens cX3_darkens 2 none, Cond.methodLink RX3 133 yX3_burns, Cond.instanceMethod yX3_burns, Cond.selects RX3 yX3_burns yX3_burns, Cond.code yX3_burns cX3_burns 3 none, Cond.fieldLink RX3 50 "FestoonModel" "gusts" "[I", Cond.fieldLink RX3 13 "FestoonModel" "papers" "[I", Cond.fieldLink RX3 7 "FestoonModel" "ribs" "[I", Cond.fieldLink RX3 121 "FestoonModel" "blown" "I", Cond.fieldLink RX3 22 "FestoonModel" "lefts" "[I", Cond.fieldLink RX3 124 "FestoonModel" "ordered" "I", Cond.methodLink RX3 105 yX3_isNear, Cond.instanceMethod yX3_isNear, Cond.selects RX3 yX3_isNear yX3_isNear, Cond.code yX3_isNear cX3_isNear 5 (some .boolean), Cond.fieldLink RX3 16 "FestoonModel" "candles" "[I", Cond.fieldLink RX3 99 "FestoonModel" "base" "I"]
def wsX3_pass_r3 : List Cond := [Cond.methodLink RX3 95 yX3_distance, Cond.instanceMethod yX3_distance, Cond.selects RX3 yX3_distance yX3_distance, Cond.code yX3_distance cX3_distance 4 (some .int), Cond.methodLink RX3 92 yX3_place, Cond.instanceMethod yX3_place, Cond.selects RX3 yX3_place yX3_place, Cond.code yX3_place cX3_place 2 (some .int), Cond.fieldLink RX3 28 "FestoonModel" "slots" "[I"]
def wsX3_pass : List Cond := .code yX3_pass cX3_pass 4 (some .int) :: ((wsX3_pass_r1 ++ (wsX3_pass_r2 ++ wsX3_pass_r3)) ++ wsX30)
def wsX3_time : List Cond := .code yX3_time cX3_time 1 (some .int) :: ([.fieldLink RX3 53 "FestoonModel" "last" "I", .fieldLink RX3 118 "FestoonModel" "time" "I"] ++ wsX30)
def wsX3_lanterns : List Cond := .code yX3_lanterns cX3_lanterns 1 (some .int) :: ([.fieldLink RX3 53 "FestoonModel" "last" "I", .fieldLink RX3 56 "FestoonModel" "lanterns" "I"] ++ wsX30)
def wsX3_stateOf : List Cond := .code yX3_stateOf cX3_stateOf 2 (some .int) :: ([.fieldLink RX3 19 "FestoonModel" "states" "[I", .methodLink RX3 74 yX3_isLantern, .instanceMethod yX3_isLantern, .selects RX3 yX3_isLantern yX3_isLantern, .initialized RX3, .code yX3_isLantern cX3_isLantern 2 (some .boolean), .fieldLink RX3 56 "FestoonModel" "lanterns" "I", .methodLink RX3 59 yX3_in, .static yX3_in, .code yX3_in cX3_in 3 (some .boolean), .methodLink RX3 66 yX3_goes, .instanceMethod yX3_goes, .selects RX3 yX3_goes yX3_goes, .code yX3_goes cX3_goes 4 (some .boolean), .fieldLink RX3 53 "FestoonModel" "last" "I"] ++ wsX30)
def wsX3_left : List Cond := .code yX3_left cX3_left 2 (some .int) :: ([.fieldLink RX3 22 "FestoonModel" "lefts" "[I", .methodLink RX3 74 yX3_isLantern, .instanceMethod yX3_isLantern, .selects RX3 yX3_isLantern yX3_isLantern, .initialized RX3, .code yX3_isLantern cX3_isLantern 2 (some .boolean), .fieldLink RX3 56 "FestoonModel" "lanterns" "I", .methodLink RX3 59 yX3_in, .static yX3_in, .code yX3_in cX3_in 3 (some .boolean), .methodLink RX3 66 yX3_goes, .instanceMethod yX3_goes, .selects RX3 yX3_goes yX3_goes, .code yX3_goes cX3_goes 4 (some .boolean), .fieldLink RX3 53 "FestoonModel" "last" "I"] ++ wsX30)
def wsX3_placeOf_r1 : List Cond := [Cond.methodLink RX3 74 yX3_isLantern, Cond.instanceMethod yX3_isLantern, Cond.selects RX3 yX3_isLantern yX3_isLantern, Cond.initialized RX3, Cond.code yX3_isLantern cX3_isLantern 2 (some .boolean), Cond.fieldLink RX3 56 "FestoonModel" "lanterns" "I", Cond.methodLink RX3 59 yX3_in, Cond.static yX3_in, Cond.code yX3_in cX3_in 3 (some .boolean), Cond.methodLink RX3 66 yX3_goes, Cond.instanceMethod yX3_goes, Cond.selects RX3 yX3_goes yX3_goes, Cond.code yX3_goes cX3_goes 4 (some .boolean), Cond.fieldLink RX3 53 "FestoonModel" "last" "I", Cond.methodLink RX3 102 yX3_hasPlace, Cond.instanceMethod yX3_hasPlace, Cond.selects RX3 yX3_hasPlace yX3_hasPlace, Cond.code yX3_hasPlace cX3_hasPlace 2 (some .boolean), Cond.fieldLink RX3 25 "FestoonModel" "hangsOn" "[I", Cond.fieldLink RX3 37 "FestoonModel" "sorts" "[I", Cond.methodLink RX3 92 yX3_place, Cond.instanceMethod yX3_place, Cond.selects RX3 yX3_place yX3_place, Cond.code yX3_place cX3_place 2 (some .int)]
def wsX3_placeOf_r2 : List Cond := [Cond.fieldLink RX3 40 "FestoonModel" "fronts" "[I", Cond.fieldLink RX3 28 "FestoonModel" "slots" "[I"]
def wsX3_placeOf : List Cond := .code yX3_placeOf cX3_placeOf 2 (some .int) :: ((wsX3_placeOf_r1 ++ wsX3_placeOf_r2) ++ wsX30)
def wsX3_nearest_r1 : List Cond := [Cond.fieldLink RX3 56 "FestoonModel" "lanterns" "I", Cond.fieldLink RX3 19 "FestoonModel" "states" "[I", Cond.methodLink RX3 74 yX3_isLantern, Cond.instanceMethod yX3_isLantern, Cond.selects RX3 yX3_isLantern yX3_isLantern, Cond.initialized RX3, Cond.code yX3_isLantern cX3_isLantern 2 (some .boolean), Cond.methodLink RX3 59 yX3_in, Cond.static yX3_in, Cond.code yX3_in cX3_in 3 (some .boolean), Cond.methodLink RX3 66 yX3_goes, Cond.instanceMethod yX3_goes, Cond.selects RX3 yX3_goes yX3_goes, Cond.code yX3_goes cX3_goes 4 (some .boolean), Cond.fieldLink RX3 53 "FestoonModel" "last" "I", Cond.methodLink RX3 102 yX3_hasPlace, Cond.instanceMethod yX3_hasPlace, Cond.selects RX3 yX3_hasPlace yX3_hasPlace, Cond.code yX3_hasPlace cX3_hasPlace 2 (some .boolean), Cond.fieldLink RX3 25 "FestoonModel" "hangsOn" "[I", Cond.fieldLink RX3 37 "FestoonModel" "sorts" "[I", Cond.methodLink RX3 95 yX3_distance, Cond.instanceMethod yX3_distance, Cond.selects RX3 yX3_distance yX3_distance]
def wsX3_nearest_r2 : List Cond := [Cond.code yX3_distance cX3_distance 4 (some .int), Cond.methodLink RX3 92 yX3_place, Cond.instanceMethod yX3_place, Cond.selects RX3 yX3_place yX3_place, Cond.code yX3_place cX3_place 2 (some .int), Cond.fieldLink RX3 40 "FestoonModel" "fronts" "[I", Cond.fieldLink RX3 28 "FestoonModel" "slots" "[I"]
def wsX3_nearest : List Cond := .code yX3_nearest cX3_nearest 5 (some .int) :: ((wsX3_nearest_r1 ++ wsX3_nearest_r2) ++ wsX30)
def wsX3_nearestOfAll_r1 : List Cond := [Cond.methodLink RX3 136 yX3_nearest, Cond.instanceMethod yX3_nearest, Cond.selects RX3 yX3_nearest yX3_nearest, Cond.initialized RX3, Cond.code yX3_nearest cX3_nearest 5 (some .int), Cond.fieldLink RX3 56 "FestoonModel" "lanterns" "I", Cond.fieldLink RX3 19 "FestoonModel" "states" "[I", Cond.methodLink RX3 74 yX3_isLantern, Cond.instanceMethod yX3_isLantern, Cond.selects RX3 yX3_isLantern yX3_isLantern, Cond.code yX3_isLantern cX3_isLantern 2 (some .boolean), Cond.methodLink RX3 59 yX3_in, Cond.static yX3_in, Cond.code yX3_in cX3_in 3 (some .boolean), Cond.methodLink RX3 66 yX3_goes, Cond.instanceMethod yX3_goes, Cond.selects RX3 yX3_goes yX3_goes, Cond.code yX3_goes cX3_goes 4 (some .boolean), Cond.fieldLink RX3 53 "FestoonModel" "last" "I", Cond.methodLink RX3 102 yX3_hasPlace, Cond.instanceMethod yX3_hasPlace, Cond.selects RX3 yX3_hasPlace yX3_hasPlace, Cond.code yX3_hasPlace cX3_hasPlace 2 (some .boolean), Cond.fieldLink RX3 25 "FestoonModel" "hangsOn" "[I"]
def wsX3_nearestOfAll_r2 : List Cond := [Cond.fieldLink RX3 37 "FestoonModel" "sorts" "[I", Cond.methodLink RX3 95 yX3_distance, Cond.instanceMethod yX3_distance, Cond.selects RX3 yX3_distance yX3_distance, Cond.code yX3_distance cX3_distance 4 (some .int), Cond.methodLink RX3 92 yX3_place, Cond.instanceMethod yX3_place, Cond.selects RX3 yX3_place yX3_place, Cond.code yX3_place cX3_place 2 (some .int), Cond.fieldLink RX3 40 "FestoonModel" "fronts" "[I", Cond.fieldLink RX3 28 "FestoonModel" "slots" "[I"]
def wsX3_nearestOfAll : List Cond := .code yX3_nearestOfAll cX3_nearestOfAll 2 (some .int) :: ((wsX3_nearestOfAll_r1 ++ wsX3_nearestOfAll_r2) ++ wsX30)
def wsX3_blownOut : List Cond := .code yX3_blownOut cX3_blownOut 1 (some .int) :: ([.fieldLink RX3 53 "FestoonModel" "last" "I", .fieldLink RX3 121 "FestoonModel" "blown" "I"] ++ wsX30)
def wsX3_ordered : List Cond := .code yX3_ordered cX3_ordered 1 (some .int) :: ([.fieldLink RX3 53 "FestoonModel" "last" "I", .fieldLink RX3 124 "FestoonModel" "ordered" "I"] ++ wsX30)
def wsX3_sortOf : List Cond := .code yX3_sortOf cX3_sortOf 2 (some .int) :: ([.fieldLink RX3 37 "FestoonModel" "sorts" "[I", .methodLink RX3 78 yX3_isFloat, .instanceMethod yX3_isFloat, .selects RX3 yX3_isFloat yX3_isFloat, .initialized RX3, .code yX3_isFloat cX3_isFloat 2 (some .boolean), .fieldLink RX3 63 "FestoonModel" "floats" "I", .methodLink RX3 59 yX3_in, .static yX3_in, .code yX3_in cX3_in 3 (some .boolean), .methodLink RX3 66 yX3_goes, .instanceMethod yX3_goes, .selects RX3 yX3_goes yX3_goes, .code yX3_goes cX3_goes 4 (some .boolean), .fieldLink RX3 53 "FestoonModel" "last" "I"] ++ wsX30)
def wsX3_front : List Cond := .code yX3_front cX3_front 2 (some .int) :: ([.fieldLink RX3 37 "FestoonModel" "sorts" "[I", .fieldLink RX3 40 "FestoonModel" "fronts" "[I", .methodLink RX3 78 yX3_isFloat, .instanceMethod yX3_isFloat, .selects RX3 yX3_isFloat yX3_isFloat, .initialized RX3, .code yX3_isFloat cX3_isFloat 2 (some .boolean), .fieldLink RX3 63 "FestoonModel" "floats" "I", .methodLink RX3 59 yX3_in, .static yX3_in, .code yX3_in cX3_in 3 (some .boolean), .methodLink RX3 66 yX3_goes, .instanceMethod yX3_goes, .selects RX3 yX3_goes yX3_goes, .code yX3_goes cX3_goes 4 (some .boolean), .fieldLink RX3 53 "FestoonModel" "last" "I"] ++ wsX30)
def wsX3_load_r1 : List Cond := [Cond.methodLink RX3 78 yX3_isFloat, Cond.instanceMethod yX3_isFloat, Cond.selects RX3 yX3_isFloat yX3_isFloat, Cond.initialized RX3, Cond.code yX3_isFloat cX3_isFloat 2 (some .boolean), Cond.fieldLink RX3 63 "FestoonModel" "floats" "I", Cond.methodLink RX3 59 yX3_in, Cond.static yX3_in, Cond.code yX3_in cX3_in 3 (some .boolean), Cond.methodLink RX3 66 yX3_goes, Cond.instanceMethod yX3_goes, Cond.selects RX3 yX3_goes yX3_goes, Cond.code yX3_goes cX3_goes 4 (some .boolean), Cond.fieldLink RX3 53 "FestoonModel" "last" "I", Cond.methodLink RX3 81 yX3_loadOf, Cond.instanceMethod yX3_loadOf, Cond.selects RX3 yX3_loadOf yX3_loadOf, Cond.code yX3_loadOf cX3_loadOf 4 (some .int), Cond.fieldLink RX3 56 "FestoonModel" "lanterns" "I", Cond.fieldLink RX3 25 "FestoonModel" "hangsOn" "[I", Cond.methodLink RX3 70 yX3_weight, Cond.instanceMethod yX3_weight, Cond.selects RX3 yX3_weight yX3_weight, Cond.code yX3_weight cX3_weight 2 (some .int)]
def wsX3_load_r2 : List Cond := [Cond.fieldLink RX3 7 "FestoonModel" "ribs" "[I", Cond.fieldLink RX3 13 "FestoonModel" "papers" "[I", Cond.fieldLink RX3 16 "FestoonModel" "candles" "[I"]
def wsX3_load : List Cond := .code yX3_load cX3_load 2 (some .int) :: ((wsX3_load_r1 ++ wsX3_load_r2) ++ wsX30)
def wsX3_alike : List Cond := .code yX3_alike cX3_alike 6 (some .int) :: ([.fieldLink RX3 56 "FestoonModel" "lanterns" "I", .fieldLink RX3 25 "FestoonModel" "hangsOn" "[I", .fieldLink RX3 19 "FestoonModel" "states" "[I", .fieldLink RX3 28 "FestoonModel" "slots" "[I"] ++ wsX30)
def wsX3_likeness : List Cond := .code yX3_likeness cX3_likeness 3 (some .int) :: ([.methodLink RX3 78 yX3_isFloat, .instanceMethod yX3_isFloat, .selects RX3 yX3_isFloat yX3_isFloat, .initialized RX3, .code yX3_isFloat cX3_isFloat 2 (some .boolean), .fieldLink RX3 63 "FestoonModel" "floats" "I", .methodLink RX3 59 yX3_in, .static yX3_in, .code yX3_in cX3_in 3 (some .boolean), .methodLink RX3 66 yX3_goes, .instanceMethod yX3_goes, .selects RX3 yX3_goes yX3_goes, .code yX3_goes cX3_goes 4 (some .boolean), .fieldLink RX3 53 "FestoonModel" "last" "I", .methodLink RX3 139 yX3_alike, .instanceMethod yX3_alike, .selects RX3 yX3_alike yX3_alike, .code yX3_alike cX3_alike 6 (some .int), .fieldLink RX3 56 "FestoonModel" "lanterns" "I", .fieldLink RX3 25 "FestoonModel" "hangsOn" "[I", .fieldLink RX3 19 "FestoonModel" "states" "[I", .fieldLink RX3 28 "FestoonModel" "slots" "[I"] ++ wsX30)
def wsX3_prize : List Cond := .code yX3_prize cX3_prize 5 (some .int) :: ([.fieldLink RX3 108 "FestoonModel" "launched" "I", .fieldLink RX3 43 "FestoonModel" "order" "[I", .fieldLink RX3 37 "FestoonModel" "sorts" "[I", .methodLink RX3 59 yX3_in, .static yX3_in, .initialized RX3, .code yX3_in cX3_in 3 (some .boolean), .methodLink RX3 66 yX3_goes, .instanceMethod yX3_goes, .selects RX3 yX3_goes yX3_goes, .code yX3_goes cX3_goes 4 (some .boolean), .fieldLink RX3 53 "FestoonModel" "last" "I", .methodLink RX3 139 yX3_alike, .instanceMethod yX3_alike, .selects RX3 yX3_alike yX3_alike, .code yX3_alike cX3_alike 6 (some .int), .fieldLink RX3 56 "FestoonModel" "lanterns" "I", .fieldLink RX3 25 "FestoonModel" "hangsOn" "[I", .fieldLink RX3 19 "FestoonModel" "states" "[I", .fieldLink RX3 28 "FestoonModel" "slots" "[I"] ++ wsX30)
def wsJ9_max_7cf53 : List Cond := .code yJ9_max_7cf53 cJ9_max_7cf53 2 (some .int) :: ([])
def wsJ9_min_7cf53 : List Cond := .code yJ9_min_7cf53 cJ9_min_7cf53 2 (some .int) :: ([])
def wsL_make_r1 : List Cond := [Cond.classLink RL 13 "java/lang/IllegalArgumentException", Cond.classLink RL 15 "java/lang/IllegalStateException", Cond.methodLink RL 7 yX2_make, Cond.instanceMethod yX2_make, Cond.selects RX2 yX2_make yX2_make, Cond.initialized RX2, Cond.code yX2_make cX2_make 4 (some .int), Cond.classLink RX2 57 "java/lang/IllegalArgumentException", Cond.initialized "java/lang/IllegalArgumentException", Cond.classLink RX2 64 "java/lang/IllegalStateException", Cond.initialized "java/lang/IllegalStateException", Cond.fieldLink RX2 28 "Festoon" "made" "I", Cond.fieldLink RX2 11 "Festoon" "lanterns" "[LFestoon$Lantern;", Cond.classLink RX2 9 RX0, Cond.instantiable RX0 7, Cond.initialized RX0, Cond.methodLink RX2 53 yX2_within, Cond.static yX2_within, Cond.code yX2_within cX2_within 3 (some .boolean), Cond.methodLink RX2 69 yX0_init, Cond.instanceMethod yX0_init, Cond.code yX0_init cX0_init 4 none, Cond.methodLink RX0 3 objectInit, Cond.instanceMethod objectInit]
def wsL_make_r2 : List Cond := [Cond.code objectInit ⟨#[0xb1]⟩ 1 none, Cond.fieldLink RX0 9 "Festoon$Lantern" "state" "I", Cond.fieldLink RX0 15 "Festoon$Lantern" "raft" "LFestoon$Raft;", Cond.fieldLink RX0 19 "Festoon$Lantern" "slot" "I", Cond.fieldLink RX0 22 "Festoon$Lantern" "ribs" "I", Cond.fieldLink RX0 25 "Festoon$Lantern" "paper" "I", Cond.fieldLink RX0 28 "Festoon$Lantern" "candle" "I", Cond.fieldLink RX0 31 "Festoon$Lantern" "left" "I"]
def wsL_make : List Cond := .codeWith yL_make cL_make 6 (some .int) [(0, 12, 15, 13), (0, 12, 19, 15)] :: ((wsL_make_r1 ++ wsL_make_r2) ++ wsX20 ++ wsX00 ++ (vx_atS RX2 61 "java/lang/IllegalArgumentException" ["java/lang/RuntimeException", "java/lang/Exception"]).filter goodWord ++ (vx_atS RX2 68 "java/lang/IllegalStateException" ["java/lang/RuntimeException", "java/lang/Exception"]).filter goodWord)
def wsL_hang_r1 : List Cond := [Cond.classLink RL 20 "java/lang/IndexOutOfBoundsException", Cond.classLink RL 13 "java/lang/IllegalArgumentException", Cond.classLink RL 15 "java/lang/IllegalStateException", Cond.methodLink RL 17 yX2_hang, Cond.instanceMethod yX2_hang, Cond.selects RX2 yX2_hang yX2_hang, Cond.initialized RX2, Cond.code yX2_hang cX2_hang 6 (some .int), Cond.classLink RX2 80 "java/lang/IndexOutOfBoundsException", Cond.initialized "java/lang/IndexOutOfBoundsException", Cond.classLink RX2 57 "java/lang/IllegalArgumentException", Cond.initialized "java/lang/IllegalArgumentException", Cond.classLink RX2 64 "java/lang/IllegalStateException", Cond.initialized "java/lang/IllegalStateException", Cond.fieldLink RX2 90 "Festoon$Lantern" "raft" "LFestoon$Raft;", Cond.fieldLink RX2 94 "Festoon$Raft" "sort" "I", Cond.fieldLink RX2 104 "Festoon$Raft" "bears" "I", Cond.methodLink RX2 72 yX2_lanternNumbered, Cond.instanceMethod yX2_lanternNumbered, Cond.selects RX2 yX2_lanternNumbered yX2_lanternNumbered, Cond.code yX2_lanternNumbered cX2_lanternNumbered 3 (some (.object "Festoon$Lantern")), Cond.fieldLink RX2 11 "Festoon" "lanterns" "[LFestoon$Lantern;", Cond.methodLink RX2 53 yX2_within, Cond.static yX2_within]
def wsL_hang_r2 : List Cond := [Cond.code yX2_within cX2_within 3 (some .boolean), Cond.methodLink RX2 76 yX2_raftNumbered, Cond.instanceMethod yX2_raftNumbered, Cond.selects RX2 yX2_raftNumbered yX2_raftNumbered, Cond.code yX2_raftNumbered cX2_raftNumbered 3 (some (.object "Festoon$Raft")), Cond.fieldLink RX2 17 "Festoon" "rafts" "[LFestoon$Raft;", Cond.methodLink RX2 85 yX1_lanternIn, Cond.instanceMethod yX1_lanternIn, Cond.selects RX1 yX1_lanternIn yX1_lanternIn, Cond.initialized RX1, Cond.code yX1_lanternIn cX1_lanternIn 2 (some (.object "Festoon$Lantern")), Cond.fieldLink RX1 11 "Festoon$Raft" "slots" "[LFestoon$Lantern;", Cond.methodLink RX2 99 yX1_weight, Cond.instanceMethod yX1_weight, Cond.selects RX1 yX1_weight yX1_weight, Cond.code yX1_weight cX1_weight 6 (some .int), Cond.methodLink RX1 47 yX0_weight, Cond.instanceMethod yX0_weight, Cond.selects RX0 yX0_weight yX0_weight, Cond.initialized RX0, Cond.code yX0_weight cX0_weight 1 (some .int), Cond.fieldLink RX0 22 "Festoon$Lantern" "ribs" "I", Cond.fieldLink RX0 25 "Festoon$Lantern" "paper" "I", Cond.fieldLink RX0 28 "Festoon$Lantern" "candle" "I"]
def wsL_hang_r3 : List Cond := [Cond.methodLink RX2 103 yX0_weight, Cond.methodLink RX2 109 yX1_put, Cond.instanceMethod yX1_put, Cond.selects RX1 yX1_put yX1_put, Cond.code yX1_put cX1_put 3 none, Cond.fieldLink RX1 40 "Festoon$Lantern" "raft" "LFestoon$Raft;", Cond.fieldLink RX1 44 "Festoon$Lantern" "slot" "I"]
def wsL_hang : List Cond := .codeWith yL_hang cL_hang 6 (some .int) [(0, 12, 15, 20), (0, 12, 19, 13), (0, 12, 23, 15)] :: ((wsL_hang_r1 ++ (wsL_hang_r2 ++ wsL_hang_r3)) ++ wsX00 ++ wsX10 ++ wsX20 ++ (vx_atS RX2 84 "java/lang/IndexOutOfBoundsException" ["java/lang/RuntimeException", "java/lang/Exception"]).filter goodWord ++ (vx_atS RX2 61 "java/lang/IllegalArgumentException" ["java/lang/RuntimeException", "java/lang/Exception"]).filter goodWord ++ (vx_atS RX2 68 "java/lang/IllegalStateException" ["java/lang/RuntimeException", "java/lang/Exception"]).filter goodWord)
def wsL_takeDown_r1 : List Cond := [Cond.classLink RL 20 "java/lang/IndexOutOfBoundsException", Cond.classLink RL 15 "java/lang/IllegalStateException", Cond.methodLink RL 22 yX2_takeDown, Cond.instanceMethod yX2_takeDown, Cond.selects RX2 yX2_takeDown yX2_takeDown, Cond.initialized RX2, Cond.code yX2_takeDown cX2_takeDown 4 (some .int), Cond.classLink RX2 64 "java/lang/IllegalStateException", Cond.initialized "java/lang/IllegalStateException", Cond.fieldLink RX2 90 "Festoon$Lantern" "raft" "LFestoon$Raft;", Cond.fieldLink RX2 122 "Festoon$Raft" "number" "I", Cond.methodLink RX2 72 yX2_lanternNumbered, Cond.instanceMethod yX2_lanternNumbered, Cond.selects RX2 yX2_lanternNumbered yX2_lanternNumbered, Cond.code yX2_lanternNumbered cX2_lanternNumbered 3 (some (.object "Festoon$Lantern")), Cond.classLink RX2 80 "java/lang/IndexOutOfBoundsException", Cond.initialized "java/lang/IndexOutOfBoundsException", Cond.fieldLink RX2 11 "Festoon" "lanterns" "[LFestoon$Lantern;", Cond.methodLink RX2 53 yX2_within, Cond.static yX2_within, Cond.code yX2_within cX2_within 3 (some .boolean), Cond.methodLink RX2 115 yX1_free, Cond.instanceMethod yX1_free, Cond.selects RX1 yX1_free yX1_free]
def wsL_takeDown_r2 : List Cond := [Cond.initialized RX1, Cond.code yX1_free cX1_free 3 none, Cond.fieldLink RX1 11 "Festoon$Raft" "slots" "[LFestoon$Lantern;", Cond.fieldLink RX1 40 "Festoon$Lantern" "raft" "LFestoon$Raft;", Cond.fieldLink RX1 44 "Festoon$Lantern" "slot" "I", Cond.methodLink RX2 119 yX0_darken, Cond.instanceMethod yX0_darken, Cond.selects RX0 yX0_darken yX0_darken, Cond.initialized RX0, Cond.code yX0_darken cX0_darken 1 none, Cond.fieldLink RX0 9 "Festoon$Lantern" "state" "I"]
def wsL_takeDown : List Cond := .codeWith yL_takeDown cL_takeDown 4 (some .int) [(0, 9, 12, 20), (0, 9, 15, 15)] :: ((wsL_takeDown_r1 ++ wsL_takeDown_r2) ++ wsX00 ++ wsX10 ++ wsX20 ++ (vx_atS RX2 68 "java/lang/IllegalStateException" ["java/lang/RuntimeException", "java/lang/Exception"]).filter goodWord ++ (vx_atS RX2 84 "java/lang/IndexOutOfBoundsException" ["java/lang/RuntimeException", "java/lang/Exception"]).filter goodWord)
def wsL_light_r1 : List Cond := [Cond.classLink RL 20 "java/lang/IndexOutOfBoundsException", Cond.classLink RL 15 "java/lang/IllegalStateException", Cond.methodLink RL 26 yX2_light, Cond.instanceMethod yX2_light, Cond.selects RX2 yX2_light yX2_light, Cond.initialized RX2, Cond.code yX2_light cX2_light 3 (some .int), Cond.classLink RX2 64 "java/lang/IllegalStateException", Cond.initialized "java/lang/IllegalStateException", Cond.fieldLink RX2 125 "Festoon$Lantern" "state" "I", Cond.fieldLink RX2 137 "Festoon$Lantern" "left" "I", Cond.methodLink RX2 72 yX2_lanternNumbered, Cond.instanceMethod yX2_lanternNumbered, Cond.selects RX2 yX2_lanternNumbered yX2_lanternNumbered, Cond.code yX2_lanternNumbered cX2_lanternNumbered 3 (some (.object "Festoon$Lantern")), Cond.classLink RX2 80 "java/lang/IndexOutOfBoundsException", Cond.initialized "java/lang/IndexOutOfBoundsException", Cond.fieldLink RX2 11 "Festoon" "lanterns" "[LFestoon$Lantern;", Cond.methodLink RX2 53 yX2_within, Cond.static yX2_within, Cond.code yX2_within cX2_within 3 (some .boolean), Cond.methodLink RX2 128 yX0_place, Cond.instanceMethod yX0_place, Cond.selects RX0 yX0_place yX0_place]
def wsL_light_r2 : List Cond := [Cond.initialized RX0, Cond.code yX0_place cX0_place 1 (some .int), Cond.fieldLink RX0 15 "Festoon$Lantern" "raft" "LFestoon$Raft;", Cond.fieldLink RX0 34 "Festoon$Raft" "sort" "I", Cond.fieldLink RX0 39 "Festoon$Raft" "front" "I", Cond.fieldLink RX0 19 "Festoon$Lantern" "slot" "I", Cond.methodLink RX2 131 yX2_isCrowded, Cond.instanceMethod yX2_isCrowded, Cond.selects RX2 yX2_isCrowded yX2_isCrowded, Cond.code yX2_isCrowded cX2_isCrowded 5 (some .boolean), Cond.methodLink RX2 233 yX2_isTooNear, Cond.instanceMethod yX2_isTooNear, Cond.selects RX2 yX2_isTooNear yX2_isTooNear, Cond.code yX2_isTooNear cX2_isTooNear 3 (some .boolean), Cond.fieldLink RX2 237 "Festoon$Lantern" "candle" "I", Cond.fieldLink RX2 44 "Festoon" "base" "I", Cond.methodLink RX2 189 yX0_distanceTo, Cond.instanceMethod yX0_distanceTo, Cond.selects RX0 yX0_distanceTo yX0_distanceTo, Cond.code yX0_distanceTo cX0_distanceTo 3 (some .int), Cond.methodLink RX0 42 yX0_place]
def wsL_light : List Cond := .codeWith yL_light cL_light 4 (some .int) [(0, 9, 12, 20), (0, 9, 15, 15)] :: ((wsL_light_r1 ++ wsL_light_r2) ++ wsX00 ++ wsX20 ++ wsX10 ++ (vx_atS RX2 68 "java/lang/IllegalStateException" ["java/lang/RuntimeException", "java/lang/Exception"]).filter goodWord ++ (vx_atS RX2 84 "java/lang/IndexOutOfBoundsException" ["java/lang/RuntimeException", "java/lang/Exception"]).filter goodWord)
def wsL_putOut_r1 : List Cond := [Cond.classLink RL 20 "java/lang/IndexOutOfBoundsException", Cond.classLink RL 15 "java/lang/IllegalStateException", Cond.methodLink RL 29 yX2_putOut, Cond.instanceMethod yX2_putOut, Cond.selects RX2 yX2_putOut yX2_putOut, Cond.initialized RX2, Cond.code yX2_putOut cX2_putOut 3 (some .int), Cond.classLink RX2 64 "java/lang/IllegalStateException", Cond.initialized "java/lang/IllegalStateException", Cond.fieldLink RX2 125 "Festoon$Lantern" "state" "I", Cond.fieldLink RX2 137 "Festoon$Lantern" "left" "I", Cond.methodLink RX2 72 yX2_lanternNumbered, Cond.instanceMethod yX2_lanternNumbered, Cond.selects RX2 yX2_lanternNumbered yX2_lanternNumbered, Cond.code yX2_lanternNumbered cX2_lanternNumbered 3 (some (.object "Festoon$Lantern")), Cond.classLink RX2 80 "java/lang/IndexOutOfBoundsException", Cond.initialized "java/lang/IndexOutOfBoundsException", Cond.fieldLink RX2 11 "Festoon" "lanterns" "[LFestoon$Lantern;", Cond.methodLink RX2 53 yX2_within, Cond.static yX2_within, Cond.code yX2_within cX2_within 3 (some .boolean), Cond.methodLink RX2 119 yX0_darken, Cond.instanceMethod yX0_darken, Cond.selects RX0 yX0_darken yX0_darken]
def wsL_putOut_r2 : List Cond := [Cond.initialized RX0, Cond.code yX0_darken cX0_darken 1 none, Cond.fieldLink RX0 9 "Festoon$Lantern" "state" "I"]
def wsL_putOut : List Cond := .codeWith yL_putOut cL_putOut 4 (some .int) [(0, 9, 12, 20), (0, 9, 15, 15)] :: ((wsL_putOut_r1 ++ wsL_putOut_r2) ++ wsX00 ++ wsX20 ++ (vx_atS RX2 68 "java/lang/IllegalStateException" ["java/lang/RuntimeException", "java/lang/Exception"]).filter goodWord ++ (vx_atS RX2 84 "java/lang/IndexOutOfBoundsException" ["java/lang/RuntimeException", "java/lang/Exception"]).filter goodWord)
def wsL_build_r1 : List Cond := [Cond.classLink RL 13 "java/lang/IllegalArgumentException", Cond.classLink RL 15 "java/lang/IllegalStateException", Cond.methodLink RL 32 yX2_build, Cond.instanceMethod yX2_build, Cond.selects RX2 yX2_build yX2_build, Cond.initialized RX2, Cond.code yX2_build cX2_build 3 (some .int), Cond.classLink RX2 57 "java/lang/IllegalArgumentException", Cond.initialized "java/lang/IllegalArgumentException", Cond.classLink RX2 64 "java/lang/IllegalStateException", Cond.initialized "java/lang/IllegalStateException", Cond.fieldLink RX2 32 "Festoon" "built" "I", Cond.fieldLink RX2 17 "Festoon" "rafts" "[LFestoon$Raft;", Cond.classLink RX2 15 RX1, Cond.instantiable RX1 7, Cond.initialized RX1, Cond.methodLink RX2 53 yX2_within, Cond.static yX2_within, Cond.code yX2_within cX2_within 3 (some .boolean), Cond.methodLink RX2 146 yX1_init, Cond.instanceMethod yX1_init, Cond.code yX1_init cX1_init 4 none, Cond.methodLink RX1 3 objectInit, Cond.instanceMethod objectInit]
def wsL_build_r2 : List Cond := [Cond.code objectInit ⟨#[0xb1]⟩ 1 none, Cond.classLink RX1 9 RX0, Cond.fieldLink RX1 11 "Festoon$Raft" "slots" "[LFestoon$Lantern;", Cond.fieldLink RX1 17 "Festoon$Raft" "sort" "I", Cond.fieldLink RX1 21 "Festoon$Raft" "front" "I", Cond.fieldLink RX1 24 "Festoon$Raft" "order" "I", Cond.fieldLink RX1 27 "Festoon$Raft" "number" "I", Cond.fieldLink RX1 30 "Festoon$Raft" "speed" "I", Cond.fieldLink RX1 33 "Festoon$Raft" "bears" "I"]
def wsL_build : List Cond := .codeWith yL_build cL_build 5 (some .int) [(0, 10, 13, 13), (0, 10, 17, 15)] :: ((wsL_build_r1 ++ wsL_build_r2) ++ wsX20 ++ wsX10 ++ (vx_atS RX2 61 "java/lang/IllegalArgumentException" ["java/lang/RuntimeException", "java/lang/Exception"]).filter goodWord ++ (vx_atS RX2 68 "java/lang/IllegalStateException" ["java/lang/RuntimeException", "java/lang/Exception"]).filter goodWord)
def wsL_launch_r1 : List Cond := [Cond.classLink RL 20 "java/lang/IndexOutOfBoundsException", Cond.classLink RL 15 "java/lang/IllegalStateException", Cond.methodLink RL 36 yX2_launch, Cond.instanceMethod yX2_launch, Cond.selects RX2 yX2_launch yX2_launch, Cond.initialized RX2, Cond.code yX2_launch cX2_launch 3 (some .int), Cond.classLink RX2 64 "java/lang/IllegalStateException", Cond.initialized "java/lang/IllegalStateException", Cond.fieldLink RX2 94 "Festoon$Raft" "sort" "I", Cond.fieldLink RX2 35 "Festoon" "launches" "I", Cond.fieldLink RX2 21 "Festoon" "launched" "[LFestoon$Raft;", Cond.fieldLink RX2 153 "Festoon$Raft" "front" "I", Cond.fieldLink RX2 156 "Festoon$Raft" "order" "I", Cond.methodLink RX2 76 yX2_raftNumbered, Cond.instanceMethod yX2_raftNumbered, Cond.selects RX2 yX2_raftNumbered yX2_raftNumbered, Cond.code yX2_raftNumbered cX2_raftNumbered 3 (some (.object "Festoon$Raft")), Cond.classLink RX2 80 "java/lang/IndexOutOfBoundsException", Cond.initialized "java/lang/IndexOutOfBoundsException", Cond.fieldLink RX2 17 "Festoon" "rafts" "[LFestoon$Raft;", Cond.methodLink RX2 53 yX2_within, Cond.static yX2_within, Cond.code yX2_within cX2_within 3 (some .boolean)]
def wsL_launch_r2 : List Cond := [Cond.methodLink RX2 147 yX2_hasRoomToLaunch, Cond.instanceMethod yX2_hasRoomToLaunch, Cond.selects RX2 yX2_hasRoomToLaunch yX2_hasRoomToLaunch, Cond.code yX2_hasRoomToLaunch cX2_hasRoomToLaunch 6 (some .boolean), Cond.fieldLink RX2 41 "Festoon" "gap" "I", Cond.methodLink RX2 202 yX1_rear, Cond.instanceMethod yX1_rear, Cond.selects RX1 yX1_rear yX1_rear, Cond.initialized RX1, Cond.code yX1_rear cX1_rear 1 (some .int), Cond.fieldLink RX1 21 "Festoon$Raft" "front" "I", Cond.methodLink RX2 159 yX2_raftsOnRiver, Cond.instanceMethod yX2_raftsOnRiver, Cond.selects RX2 yX2_raftsOnRiver yX2_raftsOnRiver, Cond.code yX2_raftsOnRiver cX2_raftsOnRiver 6 (some .int)]
def wsL_launch : List Cond := .codeWith yL_launch cL_launch 4 (some .int) [(0, 9, 12, 20), (0, 9, 15, 15)] :: ((wsL_launch_r1 ++ wsL_launch_r2) ++ wsX10 ++ wsX20 ++ (vx_atS RX2 68 "java/lang/IllegalStateException" ["java/lang/RuntimeException", "java/lang/Exception"]).filter goodWord ++ (vx_atS RX2 84 "java/lang/IndexOutOfBoundsException" ["java/lang/RuntimeException", "java/lang/Exception"]).filter goodWord)
def wsL_setRules : List Cond := .codeWith yL_setRules cL_setRules 5 (some .int) [(0, 10, 13, 13)] :: ([.classLink RL 13 "java/lang/IllegalArgumentException", .methodLink RL 39 yX2_setRules, .instanceMethod yX2_setRules, .selects RX2 yX2_setRules yX2_setRules, .initialized RX2, .code yX2_setRules cX2_setRules 4 (some .int), .classLink RX2 57 "java/lang/IllegalArgumentException", .initialized "java/lang/IllegalArgumentException", .fieldLink RX2 41 "Festoon" "gap" "I", .fieldLink RX2 44 "Festoon" "base" "I", .methodLink RX2 53 yX2_within, .static yX2_within, .code yX2_within cX2_within 3 (some .boolean)] ++ wsX20 ++ (vx_atS RX2 61 "java/lang/IllegalArgumentException" ["java/lang/RuntimeException", "java/lang/Exception"]).filter goodWord)
def wsL_setGust : List Cond := .codeWith yL_setGust cL_setGust 5 (some .int) [(0, 10, 13, 13)] :: ([.classLink RL 13 "java/lang/IllegalArgumentException", .methodLink RL 42 yX2_setGust, .instanceMethod yX2_setGust, .selects RX2 yX2_setGust yX2_setGust, .initialized RX2, .code yX2_setGust cX2_setGust 4 (some .int), .classLink RX2 57 "java/lang/IllegalArgumentException", .initialized "java/lang/IllegalArgumentException", .fieldLink RX2 24 "Festoon" "gusts" "[I", .methodLink RX2 53 yX2_within, .static yX2_within, .code yX2_within cX2_within 3 (some .boolean)] ++ wsX20 ++ (vx_atS RX2 61 "java/lang/IllegalArgumentException" ["java/lang/RuntimeException", "java/lang/Exception"]).filter goodWord)
def wsL_pass_r1 : List Cond := [Cond.classLink RL 13 "java/lang/IllegalArgumentException", Cond.methodLink RL 45 yX2_pass, Cond.instanceMethod yX2_pass, Cond.selects RX2 yX2_pass yX2_pass, Cond.initialized RX2, Cond.code yX2_pass cX2_pass 4 (some .int), Cond.classLink RX2 57 "java/lang/IllegalArgumentException", Cond.initialized "java/lang/IllegalArgumentException", Cond.methodLink RX2 53 yX2_within, Cond.static yX2_within, Cond.code yX2_within cX2_within 3 (some .boolean), Cond.methodLink RX2 168 yX2_litLanterns, Cond.instanceMethod yX2_litLanterns, Cond.selects RX2 yX2_litLanterns yX2_litLanterns, Cond.code yX2_litLanterns cX2_litLanterns 6 (some .int), Cond.fieldLink RX2 11 "Festoon" "lanterns" "[LFestoon$Lantern;", Cond.fieldLink RX2 125 "Festoon$Lantern" "state" "I", Cond.methodLink RX2 171 yX2_passOne, Cond.instanceMethod yX2_passOne, Cond.selects RX2 yX2_passOne yX2_passOne, Cond.code yX2_passOne cX2_passOne 1 none, Cond.fieldLink RX2 38 "Festoon" "now" "I", Cond.methodLink RX2 205 yX2_moveRafts, Cond.instanceMethod yX2_moveRafts]
def wsL_pass_r2 : List Cond := [Cond.selects RX2 yX2_moveRafts yX2_moveRafts, Cond.code yX2_moveRafts cX2_moveRafts 6 none, Cond.fieldLink RX2 21 "Festoon" "launched" "[LFestoon$Raft;", Cond.fieldLink RX2 94 "Festoon$Raft" "sort" "I", Cond.fieldLink RX2 41 "Festoon" "gap" "I", Cond.methodLink RX2 220 yX1_moveBehind, Cond.instanceMethod yX1_moveBehind, Cond.selects RX1 yX1_moveBehind yX1_moveBehind, Cond.initialized RX1, Cond.code yX1_moveBehind cX1_moveBehind 4 none, Cond.fieldLink RX1 21 "Festoon$Raft" "front" "I", Cond.fieldLink RX1 30 "Festoon$Raft" "speed" "I", Cond.methodLink RX1 54 Lib.Math.min.name, Cond.static Lib.Math.min.name, Cond.initialized "java/lang/Math", Cond.code Lib.Math.min.name Lib.Math.min.code 2 (some .int), Cond.methodLink RX1 60 Lib.Math.max.name, Cond.static Lib.Math.max.name, Cond.code Lib.Math.max.name Lib.Math.max.code 2 (some .int), Cond.methodLink RX1 51 yX1_rear, Cond.instanceMethod yX1_rear, Cond.selects RX1 yX1_rear yX1_rear, Cond.code yX1_rear cX1_rear 1 (some .int), Cond.methodLink RX2 208 yX2_letRaftsGo]
def wsL_pass_r3 : List Cond := [Cond.instanceMethod yX2_letRaftsGo, Cond.selects RX2 yX2_letRaftsGo yX2_letRaftsGo, Cond.code yX2_letRaftsGo cX2_letRaftsGo 5 none, Cond.fieldLink RX2 153 "Festoon$Raft" "front" "I", Cond.methodLink RX2 224 yX1_darkenAll, Cond.instanceMethod yX1_darkenAll, Cond.selects RX1 yX1_darkenAll yX1_darkenAll, Cond.code yX1_darkenAll cX1_darkenAll 5 none, Cond.fieldLink RX1 11 "Festoon$Raft" "slots" "[LFestoon$Lantern;", Cond.methodLink RX1 63 yX0_darken, Cond.instanceMethod yX0_darken, Cond.selects RX0 yX0_darken yX0_darken, Cond.initialized RX0, Cond.code yX0_darken cX0_darken 1 none, Cond.fieldLink RX0 9 "Festoon$Lantern" "state" "I", Cond.methodLink RX2 211 yX2_blowGust, Cond.instanceMethod yX2_blowGust, Cond.selects RX2 yX2_blowGust yX2_blowGust, Cond.code yX2_blowGust cX2_blowGust 6 none, Cond.fieldLink RX2 24 "Festoon" "gusts" "[I", Cond.fieldLink RX2 47 "Festoon" "darkByGusts" "I", Cond.methodLink RX2 227 yX0_firmness, Cond.instanceMethod yX0_firmness, Cond.selects RX0 yX0_firmness yX0_firmness]
def wsL_pass_r4 : List Cond := [Cond.code yX0_firmness cX0_firmness 1 (some .int), Cond.fieldLink RX0 25 "Festoon$Lantern" "paper" "I", Cond.fieldLink RX0 22 "Festoon$Lantern" "ribs" "I", Cond.methodLink RX2 119 yX0_darken, Cond.methodLink RX2 214 yX2_burnCandles, Cond.instanceMethod yX2_burnCandles, Cond.selects RX2 yX2_burnCandles yX2_burnCandles, Cond.code yX2_burnCandles cX2_burnCandles 5 none, Cond.methodLink RX2 230 yX0_burnOneMinute, Cond.instanceMethod yX0_burnOneMinute, Cond.selects RX0 yX0_burnOneMinute yX0_burnOneMinute, Cond.code yX0_burnOneMinute cX0_burnOneMinute 1 none, Cond.fieldLink RX0 31 "Festoon$Lantern" "left" "I", Cond.methodLink RX2 217 yX2_sendMarshal, Cond.instanceMethod yX2_sendMarshal, Cond.selects RX2 yX2_sendMarshal yX2_sendMarshal, Cond.code yX2_sendMarshal cX2_sendMarshal 3 none, Cond.fieldLink RX2 50 "Festoon" "darkByMarshal" "I", Cond.methodLink RX2 131 yX2_isCrowded, Cond.instanceMethod yX2_isCrowded, Cond.selects RX2 yX2_isCrowded yX2_isCrowded, Cond.code yX2_isCrowded cX2_isCrowded 5 (some .boolean), Cond.methodLink RX2 233 yX2_isTooNear, Cond.instanceMethod yX2_isTooNear]
def wsL_pass_r5 : List Cond := [Cond.selects RX2 yX2_isTooNear yX2_isTooNear, Cond.code yX2_isTooNear cX2_isTooNear 3 (some .boolean), Cond.fieldLink RX2 237 "Festoon$Lantern" "candle" "I", Cond.fieldLink RX2 44 "Festoon" "base" "I", Cond.methodLink RX2 189 yX0_distanceTo, Cond.instanceMethod yX0_distanceTo, Cond.selects RX0 yX0_distanceTo yX0_distanceTo, Cond.code yX0_distanceTo cX0_distanceTo 3 (some .int), Cond.methodLink RX0 42 yX0_place, Cond.instanceMethod yX0_place, Cond.selects RX0 yX0_place yX0_place, Cond.code yX0_place cX0_place 1 (some .int), Cond.fieldLink RX0 15 "Festoon$Lantern" "raft" "LFestoon$Raft;", Cond.fieldLink RX0 34 "Festoon$Raft" "sort" "I", Cond.fieldLink RX0 39 "Festoon$Raft" "front" "I", Cond.fieldLink RX0 19 "Festoon$Lantern" "slot" "I"]
def wsL_pass : List Cond := .codeWith yL_pass cL_pass 4 (some .int) [(0, 9, 12, 13)] :: ((wsL_pass_r1 ++ (wsL_pass_r2 ++ (wsL_pass_r3 ++ (wsL_pass_r4 ++ wsL_pass_r5)))) ++ wsX20 ++ wsX00 ++ wsX10 ++ (vx_atS RX2 61 "java/lang/IllegalArgumentException" ["java/lang/RuntimeException", "java/lang/Exception"]).filter goodWord)
def wsL_stateOf : List Cond := .codeWith yL_stateOf cL_stateOf 4 (some .int) [(0, 9, 12, 20)] :: ([.classLink RL 20 "java/lang/IndexOutOfBoundsException", .methodLink RL 48 yX2_stateOf, .instanceMethod yX2_stateOf, .selects RX2 yX2_stateOf yX2_stateOf, .initialized RX2, .code yX2_stateOf cX2_stateOf 3 (some .int), .fieldLink RX2 125 "Festoon$Lantern" "state" "I", .methodLink RX2 72 yX2_lanternNumbered, .instanceMethod yX2_lanternNumbered, .selects RX2 yX2_lanternNumbered yX2_lanternNumbered, .code yX2_lanternNumbered cX2_lanternNumbered 3 (some (.object "Festoon$Lantern")), .classLink RX2 80 "java/lang/IndexOutOfBoundsException", .initialized "java/lang/IndexOutOfBoundsException", .fieldLink RX2 11 "Festoon" "lanterns" "[LFestoon$Lantern;", .methodLink RX2 53 yX2_within, .static yX2_within, .code yX2_within cX2_within 3 (some .boolean)] ++ wsX00 ++ wsX20 ++ (vx_atS RX2 84 "java/lang/IndexOutOfBoundsException" ["java/lang/RuntimeException", "java/lang/Exception"]).filter goodWord)
def wsL_left : List Cond := .codeWith yL_left cL_left 4 (some .int) [(0, 9, 12, 20)] :: ([.classLink RL 20 "java/lang/IndexOutOfBoundsException", .methodLink RL 51 yX2_left, .instanceMethod yX2_left, .selects RX2 yX2_left yX2_left, .initialized RX2, .code yX2_left cX2_left 3 (some .int), .fieldLink RX2 137 "Festoon$Lantern" "left" "I", .methodLink RX2 72 yX2_lanternNumbered, .instanceMethod yX2_lanternNumbered, .selects RX2 yX2_lanternNumbered yX2_lanternNumbered, .code yX2_lanternNumbered cX2_lanternNumbered 3 (some (.object "Festoon$Lantern")), .classLink RX2 80 "java/lang/IndexOutOfBoundsException", .initialized "java/lang/IndexOutOfBoundsException", .fieldLink RX2 11 "Festoon" "lanterns" "[LFestoon$Lantern;", .methodLink RX2 53 yX2_within, .static yX2_within, .code yX2_within cX2_within 3 (some .boolean)] ++ wsX00 ++ wsX20 ++ (vx_atS RX2 84 "java/lang/IndexOutOfBoundsException" ["java/lang/RuntimeException", "java/lang/Exception"]).filter goodWord)
def wsL_placeOf_r1 : List Cond := [Cond.classLink RL 20 "java/lang/IndexOutOfBoundsException", Cond.methodLink RL 54 yX2_placeOf, Cond.instanceMethod yX2_placeOf, Cond.selects RX2 yX2_placeOf yX2_placeOf, Cond.initialized RX2, Cond.code yX2_placeOf cX2_placeOf 3 (some .int), Cond.methodLink RX2 72 yX2_lanternNumbered, Cond.instanceMethod yX2_lanternNumbered, Cond.selects RX2 yX2_lanternNumbered yX2_lanternNumbered, Cond.code yX2_lanternNumbered cX2_lanternNumbered 3 (some (.object "Festoon$Lantern")), Cond.classLink RX2 80 "java/lang/IndexOutOfBoundsException", Cond.initialized "java/lang/IndexOutOfBoundsException", Cond.fieldLink RX2 11 "Festoon" "lanterns" "[LFestoon$Lantern;", Cond.methodLink RX2 53 yX2_within, Cond.static yX2_within, Cond.code yX2_within cX2_within 3 (some .boolean), Cond.methodLink RX2 128 yX0_place, Cond.instanceMethod yX0_place, Cond.selects RX0 yX0_place yX0_place, Cond.initialized RX0, Cond.code yX0_place cX0_place 1 (some .int), Cond.fieldLink RX0 15 "Festoon$Lantern" "raft" "LFestoon$Raft;", Cond.fieldLink RX0 34 "Festoon$Raft" "sort" "I", Cond.fieldLink RX0 39 "Festoon$Raft" "front" "I"]
def wsL_placeOf_r2 : List Cond := [Cond.fieldLink RX0 19 "Festoon$Lantern" "slot" "I"]
def wsL_placeOf : List Cond := .codeWith yL_placeOf cL_placeOf 4 (some .int) [(0, 9, 12, 20)] :: ((wsL_placeOf_r1 ++ wsL_placeOf_r2) ++ wsX20 ++ wsX00 ++ wsX10 ++ (vx_atS RX2 84 "java/lang/IndexOutOfBoundsException" ["java/lang/RuntimeException", "java/lang/Exception"]).filter goodWord)
def wsL_nearest_r1 : List Cond := [Cond.classLink RL 20 "java/lang/IndexOutOfBoundsException", Cond.methodLink RL 57 yX2_nearest, Cond.instanceMethod yX2_nearest, Cond.selects RX2 yX2_nearest yX2_nearest, Cond.initialized RX2, Cond.code yX2_nearest cX2_nearest 7 (some .int), Cond.fieldLink RX2 90 "Festoon$Lantern" "raft" "LFestoon$Raft;", Cond.fieldLink RX2 94 "Festoon$Raft" "sort" "I", Cond.fieldLink RX2 156 "Festoon$Raft" "order" "I", Cond.methodLink RX2 72 yX2_lanternNumbered, Cond.instanceMethod yX2_lanternNumbered, Cond.selects RX2 yX2_lanternNumbered yX2_lanternNumbered, Cond.code yX2_lanternNumbered cX2_lanternNumbered 3 (some (.object "Festoon$Lantern")), Cond.classLink RX2 80 "java/lang/IndexOutOfBoundsException", Cond.initialized "java/lang/IndexOutOfBoundsException", Cond.fieldLink RX2 11 "Festoon" "lanterns" "[LFestoon$Lantern;", Cond.methodLink RX2 53 yX2_within, Cond.static yX2_within, Cond.code yX2_within cX2_within 3 (some .boolean), Cond.methodLink RX2 174 yX1_nearestLit, Cond.instanceMethod yX1_nearestLit, Cond.selects RX1 yX1_nearestLit yX1_nearestLit, Cond.initialized RX1, Cond.code yX1_nearestLit cX1_nearestLit 7 (some .int)]
def wsL_nearest_r2 : List Cond := [Cond.fieldLink RX1 11 "Festoon$Raft" "slots" "[LFestoon$Lantern;", Cond.fieldLink RX1 66 "Festoon$Lantern" "state" "I", Cond.methodLink RX1 69 yX0_distanceTo, Cond.instanceMethod yX0_distanceTo, Cond.selects RX0 yX0_distanceTo yX0_distanceTo, Cond.initialized RX0, Cond.code yX0_distanceTo cX0_distanceTo 3 (some .int), Cond.methodLink RX0 42 yX0_place, Cond.instanceMethod yX0_place, Cond.selects RX0 yX0_place yX0_place, Cond.code yX0_place cX0_place 1 (some .int), Cond.fieldLink RX0 15 "Festoon$Lantern" "raft" "LFestoon$Raft;", Cond.fieldLink RX0 34 "Festoon$Raft" "sort" "I", Cond.fieldLink RX0 39 "Festoon$Raft" "front" "I", Cond.fieldLink RX0 19 "Festoon$Lantern" "slot" "I", Cond.static yX2_nearer, Cond.code yX2_nearer cX2_nearer 2 (some .int), Cond.methodLink RX2 245 Lib.Math.max.name, Cond.static Lib.Math.max.name, Cond.initialized "java/lang/Math", Cond.code Lib.Math.max.name Lib.Math.max.code 2 (some .int), Cond.methodLink RX2 240 Lib.Math.min.name, Cond.static Lib.Math.min.name, Cond.code Lib.Math.min.name Lib.Math.min.code 2 (some .int)]
def wsL_nearest_r3 : List Cond := [Cond.methodLink RX2 178 yX2_nearestAhead, Cond.instanceMethod yX2_nearestAhead, Cond.selects RX2 yX2_nearestAhead yX2_nearestAhead, Cond.code yX2_nearestAhead cX2_nearestAhead 6 (some .int), Cond.fieldLink RX2 21 "Festoon" "launched" "[LFestoon$Raft;", Cond.methodLink RX2 182 yX2_nearestBehind, Cond.instanceMethod yX2_nearestBehind, Cond.selects RX2 yX2_nearestBehind yX2_nearestBehind, Cond.code yX2_nearestBehind cX2_nearestBehind 6 (some .int), Cond.methodLink RX2 185 yX2_nearer]
def wsL_nearest : List Cond := .codeWith yL_nearest cL_nearest 4 (some .int) [(0, 9, 12, 20)] :: ((wsL_nearest_r1 ++ (wsL_nearest_r2 ++ wsL_nearest_r3)) ++ wsX00 ++ wsX10 ++ wsX20 ++ (vx_atS RX2 84 "java/lang/IndexOutOfBoundsException" ["java/lang/RuntimeException", "java/lang/Exception"]).filter goodWord)
def wsL_nearestOfAll_r1 : List Cond := [Cond.classLink RL 20 "java/lang/IndexOutOfBoundsException", Cond.methodLink RL 60 yX2_nearestOfAll, Cond.instanceMethod yX2_nearestOfAll, Cond.selects RX2 yX2_nearestOfAll yX2_nearestOfAll, Cond.initialized RX2, Cond.code yX2_nearestOfAll cX2_nearestOfAll 8 (some .int), Cond.fieldLink RX2 11 "Festoon" "lanterns" "[LFestoon$Lantern;", Cond.fieldLink RX2 125 "Festoon$Lantern" "state" "I", Cond.methodLink RX2 72 yX2_lanternNumbered, Cond.instanceMethod yX2_lanternNumbered, Cond.selects RX2 yX2_lanternNumbered yX2_lanternNumbered, Cond.code yX2_lanternNumbered cX2_lanternNumbered 3 (some (.object "Festoon$Lantern")), Cond.classLink RX2 80 "java/lang/IndexOutOfBoundsException", Cond.initialized "java/lang/IndexOutOfBoundsException", Cond.methodLink RX2 53 yX2_within, Cond.static yX2_within, Cond.code yX2_within cX2_within 3 (some .boolean), Cond.methodLink RX2 128 yX0_place, Cond.instanceMethod yX0_place, Cond.selects RX0 yX0_place yX0_place, Cond.initialized RX0, Cond.code yX0_place cX0_place 1 (some .int), Cond.fieldLink RX0 15 "Festoon$Lantern" "raft" "LFestoon$Raft;", Cond.fieldLink RX0 34 "Festoon$Raft" "sort" "I"]
def wsL_nearestOfAll_r2 : List Cond := [Cond.fieldLink RX0 39 "Festoon$Raft" "front" "I", Cond.fieldLink RX0 19 "Festoon$Lantern" "slot" "I", Cond.methodLink RX2 189 yX0_distanceTo, Cond.instanceMethod yX0_distanceTo, Cond.selects RX0 yX0_distanceTo yX0_distanceTo, Cond.code yX0_distanceTo cX0_distanceTo 3 (some .int), Cond.methodLink RX0 42 yX0_place, Cond.methodLink RX2 185 yX2_nearer, Cond.static yX2_nearer, Cond.code yX2_nearer cX2_nearer 2 (some .int), Cond.methodLink RX2 245 Lib.Math.max.name, Cond.static Lib.Math.max.name, Cond.initialized "java/lang/Math", Cond.code Lib.Math.max.name Lib.Math.max.code 2 (some .int), Cond.methodLink RX2 240 Lib.Math.min.name, Cond.static Lib.Math.min.name, Cond.code Lib.Math.min.name Lib.Math.min.code 2 (some .int)]
def wsL_nearestOfAll : List Cond := .codeWith yL_nearestOfAll cL_nearestOfAll 4 (some .int) [(0, 9, 12, 20)] :: ((wsL_nearestOfAll_r1 ++ wsL_nearestOfAll_r2) ++ wsX20 ++ wsX00 ++ wsX10 ++ (vx_atS RX2 84 "java/lang/IndexOutOfBoundsException" ["java/lang/RuntimeException", "java/lang/Exception"]).filter goodWord)
def wsL_sortOf : List Cond := .codeWith yL_sortOf cL_sortOf 4 (some .int) [(0, 9, 12, 20)] :: ([.classLink RL 20 "java/lang/IndexOutOfBoundsException", .methodLink RL 63 yX2_sortOf, .instanceMethod yX2_sortOf, .selects RX2 yX2_sortOf yX2_sortOf, .initialized RX2, .code yX2_sortOf cX2_sortOf 3 (some .int), .fieldLink RX2 94 "Festoon$Raft" "sort" "I", .methodLink RX2 76 yX2_raftNumbered, .instanceMethod yX2_raftNumbered, .selects RX2 yX2_raftNumbered yX2_raftNumbered, .code yX2_raftNumbered cX2_raftNumbered 3 (some (.object "Festoon$Raft")), .classLink RX2 80 "java/lang/IndexOutOfBoundsException", .initialized "java/lang/IndexOutOfBoundsException", .fieldLink RX2 17 "Festoon" "rafts" "[LFestoon$Raft;", .methodLink RX2 53 yX2_within, .static yX2_within, .code yX2_within cX2_within 3 (some .boolean)] ++ wsX10 ++ wsX20 ++ (vx_atS RX2 84 "java/lang/IndexOutOfBoundsException" ["java/lang/RuntimeException", "java/lang/Exception"]).filter goodWord)
def wsL_front : List Cond := .codeWith yL_front cL_front 4 (some .int) [(0, 9, 12, 20)] :: ([.classLink RL 20 "java/lang/IndexOutOfBoundsException", .methodLink RL 66 yX2_front, .instanceMethod yX2_front, .selects RX2 yX2_front yX2_front, .initialized RX2, .code yX2_front cX2_front 3 (some .int), .fieldLink RX2 94 "Festoon$Raft" "sort" "I", .fieldLink RX2 153 "Festoon$Raft" "front" "I", .methodLink RX2 76 yX2_raftNumbered, .instanceMethod yX2_raftNumbered, .selects RX2 yX2_raftNumbered yX2_raftNumbered, .code yX2_raftNumbered cX2_raftNumbered 3 (some (.object "Festoon$Raft")), .classLink RX2 80 "java/lang/IndexOutOfBoundsException", .initialized "java/lang/IndexOutOfBoundsException", .fieldLink RX2 17 "Festoon" "rafts" "[LFestoon$Raft;", .methodLink RX2 53 yX2_within, .static yX2_within, .code yX2_within cX2_within 3 (some .boolean)] ++ wsX10 ++ wsX20 ++ (vx_atS RX2 84 "java/lang/IndexOutOfBoundsException" ["java/lang/RuntimeException", "java/lang/Exception"]).filter goodWord)
def wsL_load_r1 : List Cond := [Cond.classLink RL 20 "java/lang/IndexOutOfBoundsException", Cond.methodLink RL 69 yX2_load, Cond.instanceMethod yX2_load, Cond.selects RX2 yX2_load yX2_load, Cond.initialized RX2, Cond.code yX2_load cX2_load 3 (some .int), Cond.methodLink RX2 76 yX2_raftNumbered, Cond.instanceMethod yX2_raftNumbered, Cond.selects RX2 yX2_raftNumbered yX2_raftNumbered, Cond.code yX2_raftNumbered cX2_raftNumbered 3 (some (.object "Festoon$Raft")), Cond.classLink RX2 80 "java/lang/IndexOutOfBoundsException", Cond.initialized "java/lang/IndexOutOfBoundsException", Cond.fieldLink RX2 17 "Festoon" "rafts" "[LFestoon$Raft;", Cond.methodLink RX2 53 yX2_within, Cond.static yX2_within, Cond.code yX2_within cX2_within 3 (some .boolean), Cond.methodLink RX2 99 yX1_weight, Cond.instanceMethod yX1_weight, Cond.selects RX1 yX1_weight yX1_weight, Cond.initialized RX1, Cond.code yX1_weight cX1_weight 6 (some .int), Cond.fieldLink RX1 11 "Festoon$Raft" "slots" "[LFestoon$Lantern;", Cond.methodLink RX1 47 yX0_weight, Cond.instanceMethod yX0_weight]
def wsL_load_r2 : List Cond := [Cond.selects RX0 yX0_weight yX0_weight, Cond.initialized RX0, Cond.code yX0_weight cX0_weight 1 (some .int), Cond.fieldLink RX0 22 "Festoon$Lantern" "ribs" "I", Cond.fieldLink RX0 25 "Festoon$Lantern" "paper" "I", Cond.fieldLink RX0 28 "Festoon$Lantern" "candle" "I"]
def wsL_load : List Cond := .codeWith yL_load cL_load 4 (some .int) [(0, 9, 12, 20)] :: ((wsL_load_r1 ++ wsL_load_r2) ++ wsX20 ++ wsX10 ++ wsX00 ++ (vx_atS RX2 84 "java/lang/IndexOutOfBoundsException" ["java/lang/RuntimeException", "java/lang/Exception"]).filter goodWord)
def wsL_likeness_r1 : List Cond := [Cond.classLink RL 20 "java/lang/IndexOutOfBoundsException", Cond.classLink RL 13 "java/lang/IllegalArgumentException", Cond.methodLink RL 72 yX2_likeness, Cond.instanceMethod yX2_likeness, Cond.selects RX2 yX2_likeness yX2_likeness, Cond.initialized RX2, Cond.code yX2_likeness cX2_likeness 4 (some .int), Cond.classLink RX2 57 "java/lang/IllegalArgumentException", Cond.initialized "java/lang/IllegalArgumentException", Cond.methodLink RX2 76 yX2_raftNumbered, Cond.instanceMethod yX2_raftNumbered, Cond.selects RX2 yX2_raftNumbered yX2_raftNumbered, Cond.code yX2_raftNumbered cX2_raftNumbered 3 (some (.object "Festoon$Raft")), Cond.classLink RX2 80 "java/lang/IndexOutOfBoundsException", Cond.initialized "java/lang/IndexOutOfBoundsException", Cond.fieldLink RX2 17 "Festoon" "rafts" "[LFestoon$Raft;", Cond.methodLink RX2 53 yX2_within, Cond.static yX2_within, Cond.code yX2_within cX2_within 3 (some .boolean), Cond.methodLink RX2 194 yX1_alike, Cond.instanceMethod yX1_alike, Cond.selects RX1 yX1_alike yX1_alike, Cond.initialized RX1, Cond.code yX1_alike cX1_alike 7 (some .int)]
def wsL_likeness_r2 : List Cond := [Cond.fieldLink RX1 11 "Festoon$Raft" "slots" "[LFestoon$Lantern;", Cond.fieldLink RX1 66 "Festoon$Lantern" "state" "I"]
def wsL_likeness : List Cond := .codeWith yL_likeness cL_likeness 5 (some .int) [(0, 10, 13, 20), (0, 10, 17, 13)] :: ((wsL_likeness_r1 ++ wsL_likeness_r2) ++ wsX20 ++ wsX10 ++ wsX00 ++ (vx_atS RX2 61 "java/lang/IllegalArgumentException" ["java/lang/RuntimeException", "java/lang/Exception"]).filter goodWord ++ (vx_atS RX2 84 "java/lang/IndexOutOfBoundsException" ["java/lang/RuntimeException", "java/lang/Exception"]).filter goodWord)
def wsL_prize : List Cond := .codeWith yL_prize cL_prize 4 (some .int) [(0, 9, 12, 13)] :: ([.classLink RL 13 "java/lang/IllegalArgumentException", .methodLink RL 75 yX2_prize, .instanceMethod yX2_prize, .selects RX2 yX2_prize yX2_prize, .initialized RX2, .code yX2_prize cX2_prize 8 (some .int), .classLink RX2 57 "java/lang/IllegalArgumentException", .initialized "java/lang/IllegalArgumentException", .fieldLink RX2 21 "Festoon" "launched" "[LFestoon$Raft;", .fieldLink RX2 94 "Festoon$Raft" "sort" "I", .fieldLink RX2 122 "Festoon$Raft" "number" "I", .methodLink RX2 53 yX2_within, .static yX2_within, .code yX2_within cX2_within 3 (some .boolean), .methodLink RX2 194 yX1_alike, .instanceMethod yX1_alike, .selects RX1 yX1_alike yX1_alike, .initialized RX1, .code yX1_alike cX1_alike 7 (some .int), .fieldLink RX1 11 "Festoon$Raft" "slots" "[LFestoon$Lantern;", .fieldLink RX1 66 "Festoon$Lantern" "state" "I"] ++ wsX20 ++ wsX10 ++ wsX00 ++ (vx_atS RX2 61 "java/lang/IllegalArgumentException" ["java/lang/RuntimeException", "java/lang/Exception"]).filter goodWord)
def wsL_law0_r1 : List Cond := [Cond.classLink RL 8 RX2, Cond.instantiable RX2 12, Cond.initialized RX2, Cond.classLink RL 79 RX3, Cond.instantiable RX3 22, Cond.initialized RX3, Cond.arrayClass .long, Cond.methodLink RL 78 yX2_init, Cond.instanceMethod yX2_init, Cond.code yX2_init cX2_init 1 none, Cond.methodLink RX2 1 objectInit, Cond.instanceMethod objectInit, Cond.code objectInit ⟨#[0xb1]⟩ 1 none, Cond.classLink RX2 9 RX0, Cond.fieldLink RX2 11 "Festoon" "lanterns" "[LFestoon$Lantern;", Cond.classLink RX2 15 RX1, Cond.fieldLink RX2 17 "Festoon" "rafts" "[LFestoon$Raft;", Cond.fieldLink RX2 21 "Festoon" "launched" "[LFestoon$Raft;", Cond.arrayClass .int, Cond.fieldLink RX2 24 "Festoon" "gusts" "[I", Cond.fieldLink RX2 28 "Festoon" "made" "I", Cond.fieldLink RX2 32 "Festoon" "built" "I", Cond.fieldLink RX2 35 "Festoon" "launches" "I", Cond.fieldLink RX2 38 "Festoon" "now" "I"]
def wsL_law0_r2 : List Cond := [Cond.fieldLink RX2 41 "Festoon" "gap" "I", Cond.fieldLink RX2 44 "Festoon" "base" "I", Cond.fieldLink RX2 47 "Festoon" "darkByGusts" "I", Cond.fieldLink RX2 50 "Festoon" "darkByMarshal" "I", Cond.methodLink RL 81 yX3_init, Cond.instanceMethod yX3_init, Cond.code yX3_init cX3_init 1 none, Cond.methodLink RX3 1 objectInit, Cond.fieldLink RX3 7 "FestoonModel" "ribs" "[I", Cond.fieldLink RX3 13 "FestoonModel" "papers" "[I", Cond.fieldLink RX3 16 "FestoonModel" "candles" "[I", Cond.fieldLink RX3 19 "FestoonModel" "states" "[I", Cond.fieldLink RX3 22 "FestoonModel" "lefts" "[I", Cond.fieldLink RX3 25 "FestoonModel" "hangsOn" "[I", Cond.fieldLink RX3 28 "FestoonModel" "slots" "[I", Cond.fieldLink RX3 31 "FestoonModel" "speeds" "[I", Cond.fieldLink RX3 34 "FestoonModel" "bears" "[I", Cond.fieldLink RX3 37 "FestoonModel" "sorts" "[I", Cond.fieldLink RX3 40 "FestoonModel" "fronts" "[I", Cond.fieldLink RX3 43 "FestoonModel" "order" "[I", Cond.fieldLink RX3 46 "FestoonModel" "gap" "I", Cond.fieldLink RX3 50 "FestoonModel" "gusts" "[I", Cond.methodLink RL 82 yL_make, Cond.static yL_make]
def wsL_law0_r3 : List Cond := [Cond.initialized RL, Cond.codeWith yL_make cL_make 6 (some .int) [(0, 12, 15, 13), (0, 12, 19, 15)], Cond.classLink RL 13 "java/lang/IllegalArgumentException", Cond.classLink RL 15 "java/lang/IllegalStateException", Cond.methodLink RL 7 yX2_make, Cond.instanceMethod yX2_make, Cond.selects RX2 yX2_make yX2_make, Cond.code yX2_make cX2_make 4 (some .int), Cond.classLink RX2 57 "java/lang/IllegalArgumentException", Cond.initialized "java/lang/IllegalArgumentException", Cond.classLink RX2 64 "java/lang/IllegalStateException", Cond.initialized "java/lang/IllegalStateException", Cond.instantiable RX0 7, Cond.initialized RX0, Cond.methodLink RX2 53 yX2_within, Cond.static yX2_within, Cond.code yX2_within cX2_within 3 (some .boolean), Cond.methodLink RX2 69 yX0_init, Cond.instanceMethod yX0_init, Cond.code yX0_init cX0_init 4 none, Cond.methodLink RX0 3 objectInit, Cond.fieldLink RX0 9 "Festoon$Lantern" "state" "I", Cond.fieldLink RX0 15 "Festoon$Lantern" "raft" "LFestoon$Raft;", Cond.fieldLink RX0 19 "Festoon$Lantern" "slot" "I"]
def wsL_law0_r4 : List Cond := [Cond.fieldLink RX0 22 "Festoon$Lantern" "ribs" "I", Cond.fieldLink RX0 25 "Festoon$Lantern" "paper" "I", Cond.fieldLink RX0 28 "Festoon$Lantern" "candle" "I", Cond.fieldLink RX0 31 "Festoon$Lantern" "left" "I", Cond.methodLink RL 87 yX3_make, Cond.instanceMethod yX3_make, Cond.selects RX3 yX3_make yX3_make, Cond.code yX3_make cX3_make 4 (some .int), Cond.fieldLink RX3 56 "FestoonModel" "lanterns" "I", Cond.methodLink RX3 59 yX3_in, Cond.static yX3_in, Cond.code yX3_in cX3_in 3 (some .boolean), Cond.methodLink RX3 66 yX3_goes, Cond.instanceMethod yX3_goes, Cond.selects RX3 yX3_goes yX3_goes, Cond.code yX3_goes cX3_goes 4 (some .boolean), Cond.fieldLink RX3 53 "FestoonModel" "last" "I", Cond.methodLink RL 88 yX3_thrown, Cond.instanceMethod yX3_thrown, Cond.selects RX3 yX3_thrown yX3_thrown, Cond.code yX3_thrown cX3_thrown 1 (some .int), Cond.methodLink RL 92 yL_hang, Cond.static yL_hang, Cond.codeWith yL_hang cL_hang 6 (some .int) [(0, 12, 15, 20), (0, 12, 19, 13), (0, 12, 23, 15)]]
def wsL_law0_r5 : List Cond := [Cond.classLink RL 20 "java/lang/IndexOutOfBoundsException", Cond.methodLink RL 17 yX2_hang, Cond.instanceMethod yX2_hang, Cond.selects RX2 yX2_hang yX2_hang, Cond.code yX2_hang cX2_hang 6 (some .int), Cond.classLink RX2 80 "java/lang/IndexOutOfBoundsException", Cond.initialized "java/lang/IndexOutOfBoundsException", Cond.fieldLink RX2 90 "Festoon$Lantern" "raft" "LFestoon$Raft;", Cond.fieldLink RX2 94 "Festoon$Raft" "sort" "I", Cond.fieldLink RX2 104 "Festoon$Raft" "bears" "I", Cond.methodLink RX2 72 yX2_lanternNumbered, Cond.instanceMethod yX2_lanternNumbered, Cond.selects RX2 yX2_lanternNumbered yX2_lanternNumbered, Cond.code yX2_lanternNumbered cX2_lanternNumbered 3 (some (.object "Festoon$Lantern")), Cond.methodLink RX2 76 yX2_raftNumbered, Cond.instanceMethod yX2_raftNumbered, Cond.selects RX2 yX2_raftNumbered yX2_raftNumbered, Cond.code yX2_raftNumbered cX2_raftNumbered 3 (some (.object "Festoon$Raft")), Cond.methodLink RX2 85 yX1_lanternIn, Cond.instanceMethod yX1_lanternIn, Cond.selects RX1 yX1_lanternIn yX1_lanternIn, Cond.initialized RX1, Cond.code yX1_lanternIn cX1_lanternIn 2 (some (.object "Festoon$Lantern")), Cond.fieldLink RX1 11 "Festoon$Raft" "slots" "[LFestoon$Lantern;"]
def wsL_law0_r6 : List Cond := [Cond.methodLink RX2 99 yX1_weight, Cond.instanceMethod yX1_weight, Cond.selects RX1 yX1_weight yX1_weight, Cond.code yX1_weight cX1_weight 6 (some .int), Cond.methodLink RX1 47 yX0_weight, Cond.instanceMethod yX0_weight, Cond.selects RX0 yX0_weight yX0_weight, Cond.code yX0_weight cX0_weight 1 (some .int), Cond.methodLink RX2 103 yX0_weight, Cond.methodLink RX2 109 yX1_put, Cond.instanceMethod yX1_put, Cond.selects RX1 yX1_put yX1_put, Cond.code yX1_put cX1_put 3 none, Cond.fieldLink RX1 40 "Festoon$Lantern" "raft" "LFestoon$Raft;", Cond.fieldLink RX1 44 "Festoon$Lantern" "slot" "I", Cond.methodLink RL 94 yX3_hang, Cond.instanceMethod yX3_hang, Cond.selects RX3 yX3_hang yX3_hang, Cond.code yX3_hang cX3_hang 6 (some .int), Cond.methodLink RX3 74 yX3_isLantern, Cond.instanceMethod yX3_isLantern, Cond.selects RX3 yX3_isLantern yX3_isLantern, Cond.code yX3_isLantern cX3_isLantern 2 (some .boolean), Cond.methodLink RX3 78 yX3_isFloat]
def wsL_law0_r7 : List Cond := [Cond.instanceMethod yX3_isFloat, Cond.selects RX3 yX3_isFloat yX3_isFloat, Cond.code yX3_isFloat cX3_isFloat 2 (some .boolean), Cond.fieldLink RX3 63 "FestoonModel" "floats" "I", Cond.methodLink RX3 81 yX3_loadOf, Cond.instanceMethod yX3_loadOf, Cond.selects RX3 yX3_loadOf yX3_loadOf, Cond.code yX3_loadOf cX3_loadOf 4 (some .int), Cond.methodLink RX3 70 yX3_weight, Cond.instanceMethod yX3_weight, Cond.selects RX3 yX3_weight yX3_weight, Cond.code yX3_weight cX3_weight 2 (some .int), Cond.methodLink RX3 84 yX3_isTaken, Cond.instanceMethod yX3_isTaken, Cond.selects RX3 yX3_isTaken yX3_isTaken, Cond.code yX3_isTaken cX3_isTaken 5 (some .boolean), Cond.methodLink RL 95 yL_takeDown, Cond.static yL_takeDown, Cond.codeWith yL_takeDown cL_takeDown 4 (some .int) [(0, 9, 12, 20), (0, 9, 15, 15)], Cond.methodLink RL 22 yX2_takeDown, Cond.instanceMethod yX2_takeDown, Cond.selects RX2 yX2_takeDown yX2_takeDown, Cond.code yX2_takeDown cX2_takeDown 4 (some .int), Cond.fieldLink RX2 122 "Festoon$Raft" "number" "I"]
def wsL_law0_r8 : List Cond := [Cond.methodLink RX2 115 yX1_free, Cond.instanceMethod yX1_free, Cond.selects RX1 yX1_free yX1_free, Cond.code yX1_free cX1_free 3 none, Cond.methodLink RX2 119 yX0_darken, Cond.instanceMethod yX0_darken, Cond.selects RX0 yX0_darken yX0_darken, Cond.code yX0_darken cX0_darken 1 none, Cond.methodLink RL 98 yX3_takeDown, Cond.instanceMethod yX3_takeDown, Cond.selects RX3 yX3_takeDown yX3_takeDown, Cond.code yX3_takeDown cX3_takeDown 4 (some .int), Cond.methodLink RX3 88 yX3_darkens, Cond.instanceMethod yX3_darkens, Cond.selects RX3 yX3_darkens yX3_darkens, Cond.code yX3_darkens cX3_darkens 2 none, Cond.methodLink RL 99 yL_light, Cond.static yL_light, Cond.codeWith yL_light cL_light 4 (some .int) [(0, 9, 12, 20), (0, 9, 15, 15)], Cond.methodLink RL 26 yX2_light, Cond.instanceMethod yX2_light, Cond.selects RX2 yX2_light yX2_light, Cond.code yX2_light cX2_light 3 (some .int), Cond.fieldLink RX2 125 "Festoon$Lantern" "state" "I"]
def wsL_law0_r9 : List Cond := [Cond.fieldLink RX2 137 "Festoon$Lantern" "left" "I", Cond.methodLink RX2 128 yX0_place, Cond.instanceMethod yX0_place, Cond.selects RX0 yX0_place yX0_place, Cond.code yX0_place cX0_place 1 (some .int), Cond.fieldLink RX0 34 "Festoon$Raft" "sort" "I", Cond.fieldLink RX0 39 "Festoon$Raft" "front" "I", Cond.methodLink RX2 131 yX2_isCrowded, Cond.instanceMethod yX2_isCrowded, Cond.selects RX2 yX2_isCrowded yX2_isCrowded, Cond.code yX2_isCrowded cX2_isCrowded 5 (some .boolean), Cond.methodLink RX2 233 yX2_isTooNear, Cond.instanceMethod yX2_isTooNear, Cond.selects RX2 yX2_isTooNear yX2_isTooNear, Cond.code yX2_isTooNear cX2_isTooNear 3 (some .boolean), Cond.fieldLink RX2 237 "Festoon$Lantern" "candle" "I", Cond.methodLink RX2 189 yX0_distanceTo, Cond.instanceMethod yX0_distanceTo, Cond.selects RX0 yX0_distanceTo yX0_distanceTo, Cond.code yX0_distanceTo cX0_distanceTo 3 (some .int), Cond.methodLink RX0 42 yX0_place, Cond.methodLink RL 101 yX3_light, Cond.instanceMethod yX3_light, Cond.selects RX3 yX3_light yX3_light]
def wsL_law0_r10 : List Cond := [Cond.code yX3_light cX3_light 4 (some .int), Cond.methodLink RX3 102 yX3_hasPlace, Cond.instanceMethod yX3_hasPlace, Cond.selects RX3 yX3_hasPlace yX3_hasPlace, Cond.code yX3_hasPlace cX3_hasPlace 2 (some .boolean), Cond.methodLink RX3 105 yX3_isNear, Cond.instanceMethod yX3_isNear, Cond.selects RX3 yX3_isNear yX3_isNear, Cond.code yX3_isNear cX3_isNear 5 (some .boolean), Cond.fieldLink RX3 99 "FestoonModel" "base" "I", Cond.methodLink RX3 95 yX3_distance, Cond.instanceMethod yX3_distance, Cond.selects RX3 yX3_distance yX3_distance, Cond.code yX3_distance cX3_distance 4 (some .int), Cond.methodLink RX3 92 yX3_place, Cond.instanceMethod yX3_place, Cond.selects RX3 yX3_place yX3_place, Cond.code yX3_place cX3_place 2 (some .int), Cond.methodLink RL 102 yL_putOut, Cond.static yL_putOut, Cond.codeWith yL_putOut cL_putOut 4 (some .int) [(0, 9, 12, 20), (0, 9, 15, 15)], Cond.methodLink RL 29 yX2_putOut, Cond.instanceMethod yX2_putOut, Cond.selects RX2 yX2_putOut yX2_putOut]
def wsL_law0_r11 : List Cond := [Cond.code yX2_putOut cX2_putOut 3 (some .int), Cond.methodLink RL 104 yX3_putOut, Cond.instanceMethod yX3_putOut, Cond.selects RX3 yX3_putOut yX3_putOut, Cond.code yX3_putOut cX3_putOut 3 (some .int), Cond.methodLink RL 105 yL_build, Cond.static yL_build, Cond.codeWith yL_build cL_build 5 (some .int) [(0, 10, 13, 13), (0, 10, 17, 15)], Cond.methodLink RL 32 yX2_build, Cond.instanceMethod yX2_build, Cond.selects RX2 yX2_build yX2_build, Cond.code yX2_build cX2_build 3 (some .int), Cond.instantiable RX1 7, Cond.methodLink RX2 146 yX1_init, Cond.instanceMethod yX1_init, Cond.code yX1_init cX1_init 4 none, Cond.methodLink RX1 3 objectInit, Cond.classLink RX1 9 RX0, Cond.fieldLink RX1 17 "Festoon$Raft" "sort" "I", Cond.fieldLink RX1 21 "Festoon$Raft" "front" "I", Cond.fieldLink RX1 24 "Festoon$Raft" "order" "I", Cond.fieldLink RX1 27 "Festoon$Raft" "number" "I", Cond.fieldLink RX1 30 "Festoon$Raft" "speed" "I", Cond.fieldLink RX1 33 "Festoon$Raft" "bears" "I"]
def wsL_law0_r12 : List Cond := [Cond.methodLink RL 108 yX3_build, Cond.instanceMethod yX3_build, Cond.selects RX3 yX3_build yX3_build, Cond.code yX3_build cX3_build 3 (some .int), Cond.methodLink RL 109 yL_launch, Cond.static yL_launch, Cond.codeWith yL_launch cL_launch 4 (some .int) [(0, 9, 12, 20), (0, 9, 15, 15)], Cond.methodLink RL 36 yX2_launch, Cond.instanceMethod yX2_launch, Cond.selects RX2 yX2_launch yX2_launch, Cond.code yX2_launch cX2_launch 3 (some .int), Cond.fieldLink RX2 153 "Festoon$Raft" "front" "I", Cond.fieldLink RX2 156 "Festoon$Raft" "order" "I", Cond.methodLink RX2 147 yX2_hasRoomToLaunch, Cond.instanceMethod yX2_hasRoomToLaunch, Cond.selects RX2 yX2_hasRoomToLaunch yX2_hasRoomToLaunch, Cond.code yX2_hasRoomToLaunch cX2_hasRoomToLaunch 6 (some .boolean), Cond.methodLink RX2 202 yX1_rear, Cond.instanceMethod yX1_rear, Cond.selects RX1 yX1_rear yX1_rear, Cond.code yX1_rear cX1_rear 1 (some .int), Cond.methodLink RX2 159 yX2_raftsOnRiver, Cond.instanceMethod yX2_raftsOnRiver, Cond.selects RX2 yX2_raftsOnRiver yX2_raftsOnRiver]
def wsL_law0_r13 : List Cond := [Cond.code yX2_raftsOnRiver cX2_raftsOnRiver 6 (some .int), Cond.methodLink RL 111 yX3_launch, Cond.instanceMethod yX3_launch, Cond.selects RX3 yX3_launch yX3_launch, Cond.code yX3_launch cX3_launch 5 (some .int), Cond.fieldLink RX3 108 "FestoonModel" "launched" "I", Cond.methodLink RX3 111 yX3_rearmost, Cond.instanceMethod yX3_rearmost, Cond.selects RX3 yX3_rearmost yX3_rearmost, Cond.code yX3_rearmost cX3_rearmost 3 (some .int), Cond.methodLink RX3 115 yX3_afloat, Cond.instanceMethod yX3_afloat, Cond.selects RX3 yX3_afloat yX3_afloat, Cond.code yX3_afloat cX3_afloat 3 (some .int), Cond.methodLink RL 112 yL_setRules, Cond.static yL_setRules, Cond.codeWith yL_setRules cL_setRules 5 (some .int) [(0, 10, 13, 13)], Cond.methodLink RL 39 yX2_setRules, Cond.instanceMethod yX2_setRules, Cond.selects RX2 yX2_setRules yX2_setRules, Cond.code yX2_setRules cX2_setRules 4 (some .int), Cond.methodLink RL 114 yX3_setRules, Cond.instanceMethod yX3_setRules, Cond.selects RX3 yX3_setRules yX3_setRules]
def wsL_law0_r14 : List Cond := [Cond.code yX3_setRules cX3_setRules 4 (some .int), Cond.methodLink RL 115 yL_setGust, Cond.static yL_setGust, Cond.codeWith yL_setGust cL_setGust 5 (some .int) [(0, 10, 13, 13)], Cond.methodLink RL 42 yX2_setGust, Cond.instanceMethod yX2_setGust, Cond.selects RX2 yX2_setGust yX2_setGust, Cond.code yX2_setGust cX2_setGust 4 (some .int), Cond.methodLink RL 117 yX3_setGust, Cond.instanceMethod yX3_setGust, Cond.selects RX3 yX3_setGust yX3_setGust, Cond.code yX3_setGust cX3_setGust 4 (some .int), Cond.methodLink RL 118 yL_pass, Cond.static yL_pass, Cond.codeWith yL_pass cL_pass 4 (some .int) [(0, 9, 12, 13)], Cond.methodLink RL 45 yX2_pass, Cond.instanceMethod yX2_pass, Cond.selects RX2 yX2_pass yX2_pass, Cond.code yX2_pass cX2_pass 4 (some .int), Cond.methodLink RX2 168 yX2_litLanterns, Cond.instanceMethod yX2_litLanterns, Cond.selects RX2 yX2_litLanterns yX2_litLanterns, Cond.code yX2_litLanterns cX2_litLanterns 6 (some .int), Cond.methodLink RX2 171 yX2_passOne]
def wsL_law0_r15 : List Cond := [Cond.instanceMethod yX2_passOne, Cond.selects RX2 yX2_passOne yX2_passOne, Cond.code yX2_passOne cX2_passOne 1 none, Cond.methodLink RX2 205 yX2_moveRafts, Cond.instanceMethod yX2_moveRafts, Cond.selects RX2 yX2_moveRafts yX2_moveRafts, Cond.code yX2_moveRafts cX2_moveRafts 6 none, Cond.methodLink RX2 220 yX1_moveBehind, Cond.instanceMethod yX1_moveBehind, Cond.selects RX1 yX1_moveBehind yX1_moveBehind, Cond.code yX1_moveBehind cX1_moveBehind 4 none, Cond.methodLink RX1 54 Lib.Math.min.name, Cond.static Lib.Math.min.name, Cond.initialized "java/lang/Math", Cond.code Lib.Math.min.name Lib.Math.min.code 2 (some .int), Cond.methodLink RX1 60 Lib.Math.max.name, Cond.static Lib.Math.max.name, Cond.code Lib.Math.max.name Lib.Math.max.code 2 (some .int), Cond.methodLink RX1 51 yX1_rear, Cond.methodLink RX2 208 yX2_letRaftsGo, Cond.instanceMethod yX2_letRaftsGo, Cond.selects RX2 yX2_letRaftsGo yX2_letRaftsGo, Cond.code yX2_letRaftsGo cX2_letRaftsGo 5 none, Cond.methodLink RX2 224 yX1_darkenAll]
def wsL_law0_r16 : List Cond := [Cond.instanceMethod yX1_darkenAll, Cond.selects RX1 yX1_darkenAll yX1_darkenAll, Cond.code yX1_darkenAll cX1_darkenAll 5 none, Cond.methodLink RX1 63 yX0_darken, Cond.methodLink RX2 211 yX2_blowGust, Cond.instanceMethod yX2_blowGust, Cond.selects RX2 yX2_blowGust yX2_blowGust, Cond.code yX2_blowGust cX2_blowGust 6 none, Cond.methodLink RX2 227 yX0_firmness, Cond.instanceMethod yX0_firmness, Cond.selects RX0 yX0_firmness yX0_firmness, Cond.code yX0_firmness cX0_firmness 1 (some .int), Cond.methodLink RX2 214 yX2_burnCandles, Cond.instanceMethod yX2_burnCandles, Cond.selects RX2 yX2_burnCandles yX2_burnCandles, Cond.code yX2_burnCandles cX2_burnCandles 5 none, Cond.methodLink RX2 230 yX0_burnOneMinute, Cond.instanceMethod yX0_burnOneMinute, Cond.selects RX0 yX0_burnOneMinute yX0_burnOneMinute, Cond.code yX0_burnOneMinute cX0_burnOneMinute 1 none, Cond.methodLink RX2 217 yX2_sendMarshal, Cond.instanceMethod yX2_sendMarshal, Cond.selects RX2 yX2_sendMarshal yX2_sendMarshal, Cond.code yX2_sendMarshal cX2_sendMarshal 3 none]
def wsL_law0_r17 : List Cond := [Cond.methodLink RL 120 yX3_pass, Cond.instanceMethod yX3_pass, Cond.selects RX3 yX3_pass yX3_pass, Cond.code yX3_pass cX3_pass 4 (some .int), Cond.fieldLink RX3 118 "FestoonModel" "time" "I", Cond.methodLink RX3 127 yX3_lit, Cond.instanceMethod yX3_lit, Cond.selects RX3 yX3_lit yX3_lit, Cond.code yX3_lit cX3_lit 3 (some .int), Cond.methodLink RX3 130 yX3_floatsMove, Cond.instanceMethod yX3_floatsMove, Cond.selects RX3 yX3_floatsMove yX3_floatsMove, Cond.code yX3_floatsMove cX3_floatsMove 6 none, Cond.methodLink RX3 133 yX3_burns, Cond.instanceMethod yX3_burns, Cond.selects RX3 yX3_burns yX3_burns, Cond.code yX3_burns cX3_burns 3 none, Cond.fieldLink RX3 121 "FestoonModel" "blown" "I", Cond.fieldLink RX3 124 "FestoonModel" "ordered" "I", Cond.methodLink RL 121 yX2_time, Cond.instanceMethod yX2_time, Cond.selects RX2 yX2_time yX2_time, Cond.code yX2_time cX2_time 1 (some .int), Cond.methodLink RL 124 yX3_time]
def wsL_law0_r18 : List Cond := [Cond.instanceMethod yX3_time, Cond.selects RX3 yX3_time yX3_time, Cond.code yX3_time cX3_time 1 (some .int), Cond.methodLink RL 125 yX2_lanterns, Cond.instanceMethod yX2_lanterns, Cond.selects RX2 yX2_lanterns yX2_lanterns, Cond.code yX2_lanterns cX2_lanterns 1 (some .int), Cond.methodLink RL 128 yX3_lanterns, Cond.instanceMethod yX3_lanterns, Cond.selects RX3 yX3_lanterns yX3_lanterns, Cond.code yX3_lanterns cX3_lanterns 1 (some .int), Cond.methodLink RL 129 yL_stateOf, Cond.static yL_stateOf, Cond.codeWith yL_stateOf cL_stateOf 4 (some .int) [(0, 9, 12, 20)], Cond.methodLink RL 48 yX2_stateOf, Cond.instanceMethod yX2_stateOf, Cond.selects RX2 yX2_stateOf yX2_stateOf, Cond.code yX2_stateOf cX2_stateOf 3 (some .int), Cond.methodLink RL 131 yX3_stateOf, Cond.instanceMethod yX3_stateOf, Cond.selects RX3 yX3_stateOf yX3_stateOf, Cond.code yX3_stateOf cX3_stateOf 2 (some .int), Cond.methodLink RL 132 yL_left, Cond.static yL_left]
def wsL_law0_r19 : List Cond := [Cond.codeWith yL_left cL_left 4 (some .int) [(0, 9, 12, 20)], Cond.methodLink RL 51 yX2_left, Cond.instanceMethod yX2_left, Cond.selects RX2 yX2_left yX2_left, Cond.code yX2_left cX2_left 3 (some .int), Cond.methodLink RL 134 yX3_left, Cond.instanceMethod yX3_left, Cond.selects RX3 yX3_left yX3_left, Cond.code yX3_left cX3_left 2 (some .int), Cond.methodLink RL 135 yL_placeOf, Cond.static yL_placeOf, Cond.codeWith yL_placeOf cL_placeOf 4 (some .int) [(0, 9, 12, 20)], Cond.methodLink RL 54 yX2_placeOf, Cond.instanceMethod yX2_placeOf, Cond.selects RX2 yX2_placeOf yX2_placeOf, Cond.code yX2_placeOf cX2_placeOf 3 (some .int), Cond.methodLink RL 137 yX3_placeOf, Cond.instanceMethod yX3_placeOf, Cond.selects RX3 yX3_placeOf yX3_placeOf, Cond.code yX3_placeOf cX3_placeOf 2 (some .int), Cond.methodLink RL 138 yL_nearest, Cond.static yL_nearest, Cond.codeWith yL_nearest cL_nearest 4 (some .int) [(0, 9, 12, 20)], Cond.methodLink RL 57 yX2_nearest]
def wsL_law0_r20 : List Cond := [Cond.instanceMethod yX2_nearest, Cond.selects RX2 yX2_nearest yX2_nearest, Cond.code yX2_nearest cX2_nearest 7 (some .int), Cond.methodLink RX2 174 yX1_nearestLit, Cond.instanceMethod yX1_nearestLit, Cond.selects RX1 yX1_nearestLit yX1_nearestLit, Cond.code yX1_nearestLit cX1_nearestLit 7 (some .int), Cond.fieldLink RX1 66 "Festoon$Lantern" "state" "I", Cond.methodLink RX1 69 yX0_distanceTo, Cond.static yX2_nearer, Cond.code yX2_nearer cX2_nearer 2 (some .int), Cond.methodLink RX2 245 Lib.Math.max.name, Cond.methodLink RX2 240 Lib.Math.min.name, Cond.methodLink RX2 178 yX2_nearestAhead, Cond.instanceMethod yX2_nearestAhead, Cond.selects RX2 yX2_nearestAhead yX2_nearestAhead, Cond.code yX2_nearestAhead cX2_nearestAhead 6 (some .int), Cond.methodLink RX2 182 yX2_nearestBehind, Cond.instanceMethod yX2_nearestBehind, Cond.selects RX2 yX2_nearestBehind yX2_nearestBehind, Cond.code yX2_nearestBehind cX2_nearestBehind 6 (some .int), Cond.methodLink RX2 185 yX2_nearer, Cond.methodLink RL 140 yX3_nearest, Cond.instanceMethod yX3_nearest]
def wsL_law0_r21 : List Cond := [Cond.selects RX3 yX3_nearest yX3_nearest, Cond.code yX3_nearest cX3_nearest 5 (some .int), Cond.methodLink RL 141 yL_nearestOfAll, Cond.static yL_nearestOfAll, Cond.codeWith yL_nearestOfAll cL_nearestOfAll 4 (some .int) [(0, 9, 12, 20)], Cond.methodLink RL 60 yX2_nearestOfAll, Cond.instanceMethod yX2_nearestOfAll, Cond.selects RX2 yX2_nearestOfAll yX2_nearestOfAll, Cond.code yX2_nearestOfAll cX2_nearestOfAll 8 (some .int), Cond.methodLink RL 143 yX3_nearestOfAll, Cond.instanceMethod yX3_nearestOfAll, Cond.selects RX3 yX3_nearestOfAll yX3_nearestOfAll, Cond.code yX3_nearestOfAll cX3_nearestOfAll 2 (some .int), Cond.methodLink RX3 136 yX3_nearest, Cond.methodLink RL 144 yX2_blownOut, Cond.instanceMethod yX2_blownOut, Cond.selects RX2 yX2_blownOut yX2_blownOut, Cond.code yX2_blownOut cX2_blownOut 1 (some .int), Cond.methodLink RL 147 yX3_blownOut, Cond.instanceMethod yX3_blownOut, Cond.selects RX3 yX3_blownOut yX3_blownOut, Cond.code yX3_blownOut cX3_blownOut 1 (some .int), Cond.methodLink RL 148 yX2_ordered, Cond.instanceMethod yX2_ordered]
def wsL_law0_r22 : List Cond := [Cond.selects RX2 yX2_ordered yX2_ordered, Cond.code yX2_ordered cX2_ordered 1 (some .int), Cond.methodLink RL 151 yX3_ordered, Cond.instanceMethod yX3_ordered, Cond.selects RX3 yX3_ordered yX3_ordered, Cond.code yX3_ordered cX3_ordered 1 (some .int), Cond.methodLink RL 152 yL_sortOf, Cond.static yL_sortOf, Cond.codeWith yL_sortOf cL_sortOf 4 (some .int) [(0, 9, 12, 20)], Cond.methodLink RL 63 yX2_sortOf, Cond.instanceMethod yX2_sortOf, Cond.selects RX2 yX2_sortOf yX2_sortOf, Cond.code yX2_sortOf cX2_sortOf 3 (some .int), Cond.methodLink RL 154 yX3_sortOf, Cond.instanceMethod yX3_sortOf, Cond.selects RX3 yX3_sortOf yX3_sortOf, Cond.code yX3_sortOf cX3_sortOf 2 (some .int), Cond.methodLink RL 155 yL_front, Cond.static yL_front, Cond.codeWith yL_front cL_front 4 (some .int) [(0, 9, 12, 20)], Cond.methodLink RL 66 yX2_front, Cond.instanceMethod yX2_front, Cond.selects RX2 yX2_front yX2_front, Cond.code yX2_front cX2_front 3 (some .int)]
def wsL_law0_r23 : List Cond := [Cond.methodLink RL 157 yX3_front, Cond.instanceMethod yX3_front, Cond.selects RX3 yX3_front yX3_front, Cond.code yX3_front cX3_front 2 (some .int), Cond.methodLink RL 158 yL_load, Cond.static yL_load, Cond.codeWith yL_load cL_load 4 (some .int) [(0, 9, 12, 20)], Cond.methodLink RL 69 yX2_load, Cond.instanceMethod yX2_load, Cond.selects RX2 yX2_load yX2_load, Cond.code yX2_load cX2_load 3 (some .int), Cond.methodLink RL 160 yX3_load, Cond.instanceMethod yX3_load, Cond.selects RX3 yX3_load yX3_load, Cond.code yX3_load cX3_load 2 (some .int), Cond.methodLink RL 161 yL_likeness, Cond.static yL_likeness, Cond.codeWith yL_likeness cL_likeness 5 (some .int) [(0, 10, 13, 20), (0, 10, 17, 13)], Cond.methodLink RL 72 yX2_likeness, Cond.instanceMethod yX2_likeness, Cond.selects RX2 yX2_likeness yX2_likeness, Cond.code yX2_likeness cX2_likeness 4 (some .int), Cond.methodLink RX2 194 yX1_alike, Cond.instanceMethod yX1_alike]
def wsL_law0_r24 : List Cond := [Cond.selects RX1 yX1_alike yX1_alike, Cond.code yX1_alike cX1_alike 7 (some .int), Cond.methodLink RL 163 yX3_likeness, Cond.instanceMethod yX3_likeness, Cond.selects RX3 yX3_likeness yX3_likeness, Cond.code yX3_likeness cX3_likeness 3 (some .int), Cond.methodLink RX3 139 yX3_alike, Cond.instanceMethod yX3_alike, Cond.selects RX3 yX3_alike yX3_alike, Cond.code yX3_alike cX3_alike 6 (some .int), Cond.methodLink RL 164 yL_prize, Cond.static yL_prize, Cond.codeWith yL_prize cL_prize 4 (some .int) [(0, 9, 12, 13)], Cond.methodLink RL 75 yX2_prize, Cond.instanceMethod yX2_prize, Cond.selects RX2 yX2_prize yX2_prize, Cond.code yX2_prize cX2_prize 8 (some .int), Cond.methodLink RL 166 yX3_prize, Cond.instanceMethod yX3_prize, Cond.selects RX3 yX3_prize yX3_prize, Cond.code yX3_prize cX3_prize 5 (some .int)]
def wsL_law0 : List Cond := (wsL_law0_r1 ++ (wsL_law0_r2 ++ (wsL_law0_r3 ++ (wsL_law0_r4 ++ (wsL_law0_r5 ++ (wsL_law0_r6 ++ (wsL_law0_r7 ++ (wsL_law0_r8 ++ (wsL_law0_r9 ++ (wsL_law0_r10 ++ (wsL_law0_r11 ++ (wsL_law0_r12 ++ (wsL_law0_r13 ++ (wsL_law0_r14 ++ (wsL_law0_r15 ++ (wsL_law0_r16 ++ (wsL_law0_r17 ++ (wsL_law0_r18 ++ (wsL_law0_r19 ++ (wsL_law0_r20 ++ (wsL_law0_r21 ++ (wsL_law0_r22 ++ (wsL_law0_r23 ++ wsL_law0_r24))))))))))))))))))))))) ++ wsX20 ++ wsX30 ++ wsX00 ++ wsX10 ++ ([] : List Cond)
def wsL_law : List Cond := wsL_law0 ++ (vx_atS RX2 61 "java/lang/IllegalArgumentException" ["java/lang/RuntimeException", "java/lang/Exception"]).filter goodWord ++ (vx_atS RX2 68 "java/lang/IllegalStateException" ["java/lang/RuntimeException", "java/lang/Exception"]).filter goodWord ++ (vx_atS RX2 84 "java/lang/IndexOutOfBoundsException" ["java/lang/RuntimeException", "java/lang/Exception"]).filter goodWord
theorem inJ9 : ∀ w ∈ wsJ90, w ∈ lw_tbl := by decide +kernel
theorem inJ0 : ∀ w ∈ wsJ00, w ∈ lw_tbl := by decide +kernel
theorem dX0_init_0 : decode cX0_init 0 = .ok (.aload_n 0, 1) := by decide +kernel
theorem dX0_init_1 : decode cX0_init 1 = .ok (.invokespecial 3, 3) := by decide +kernel
theorem dX0_init_4 : decode cX0_init 4 = .ok (.aload_n 0, 1) := by decide +kernel
theorem dX0_init_5 : decode cX0_init 5 = .ok (.iconst 0, 1) := by decide +kernel
theorem dX0_init_6 : decode cX0_init 6 = .ok (.putfield 9, 3) := by decide +kernel
theorem dX0_init_9 : decode cX0_init 9 = .ok (.aload_n 0, 1) := by decide +kernel
theorem dX0_init_10 : decode cX0_init 10 = .ok (.aconst_null, 1) := by decide +kernel
theorem dX0_init_11 : decode cX0_init 11 = .ok (.putfield 15, 3) := by decide +kernel
theorem dX0_init_14 : decode cX0_init 14 = .ok (.aload_n 0, 1) := by decide +kernel
theorem dX0_init_15 : decode cX0_init 15 = .ok (.iconst (-1), 1) := by decide +kernel
theorem dX0_init_16 : decode cX0_init 16 = .ok (.putfield 19, 3) := by decide +kernel
theorem dX0_init_19 : decode cX0_init 19 = .ok (.aload_n 0, 1) := by decide +kernel
theorem dX0_init_20 : decode cX0_init 20 = .ok (.iload_n 1, 1) := by decide +kernel
theorem dX0_init_21 : decode cX0_init 21 = .ok (.putfield 22, 3) := by decide +kernel
theorem dX0_init_24 : decode cX0_init 24 = .ok (.aload_n 0, 1) := by decide +kernel
theorem dX0_init_25 : decode cX0_init 25 = .ok (.iload_n 2, 1) := by decide +kernel
theorem dX0_init_26 : decode cX0_init 26 = .ok (.putfield 25, 3) := by decide +kernel
theorem dX0_init_29 : decode cX0_init 29 = .ok (.aload_n 0, 1) := by decide +kernel
theorem dX0_init_30 : decode cX0_init 30 = .ok (.iload_n 3, 1) := by decide +kernel
theorem dX0_init_31 : decode cX0_init 31 = .ok (.putfield 28, 3) := by decide +kernel
theorem dX0_init_34 : decode cX0_init 34 = .ok (.aload_n 0, 1) := by decide +kernel
theorem dX0_init_35 : decode cX0_init 35 = .ok (.bipush 20, 2) := by decide +kernel
theorem dX0_init_37 : decode cX0_init 37 = .ok (.iload_n 3, 1) := by decide +kernel
theorem dX0_init_38 : decode cX0_init 38 = .ok (.imul, 1) := by decide +kernel
theorem dX0_init_39 : decode cX0_init 39 = .ok (.putfield 31, 3) := by decide +kernel
theorem dX0_init_42 : decode cX0_init 42 = .ok (.return_, 1) := by decide +kernel
theorem dX0_weight_0 : decode cX0_weight 0 = .ok (.bipush 20, 2) := by decide +kernel
theorem dX0_weight_2 : decode cX0_weight 2 = .ok (.aload_n 0, 1) := by decide +kernel
theorem dX0_weight_3 : decode cX0_weight 3 = .ok (.getfield 22, 3) := by decide +kernel
theorem dX0_weight_6 : decode cX0_weight 6 = .ok (.imul, 1) := by decide +kernel
theorem dX0_weight_7 : decode cX0_weight 7 = .ok (.bipush 30, 2) := by decide +kernel
theorem dX0_weight_9 : decode cX0_weight 9 = .ok (.aload_n 0, 1) := by decide +kernel
theorem dX0_weight_10 : decode cX0_weight 10 = .ok (.getfield 25, 3) := by decide +kernel
theorem dX0_weight_13 : decode cX0_weight 13 = .ok (.imul, 1) := by decide +kernel
theorem dX0_weight_14 : decode cX0_weight 14 = .ok (.iadd, 1) := by decide +kernel
theorem dX0_weight_15 : decode cX0_weight 15 = .ok (.bipush 50, 2) := by decide +kernel
theorem dX0_weight_17 : decode cX0_weight 17 = .ok (.aload_n 0, 1) := by decide +kernel
theorem dX0_weight_18 : decode cX0_weight 18 = .ok (.getfield 28, 3) := by decide +kernel
theorem dX0_weight_21 : decode cX0_weight 21 = .ok (.imul, 1) := by decide +kernel
theorem dX0_weight_22 : decode cX0_weight 22 = .ok (.iadd, 1) := by decide +kernel
theorem dX0_weight_23 : decode cX0_weight 23 = .ok (.ireturn, 1) := by decide +kernel
theorem dX0_firmness_0 : decode cX0_firmness 0 = .ok (.aload_n 0, 1) := by decide +kernel
theorem dX0_firmness_1 : decode cX0_firmness 1 = .ok (.getfield 25, 3) := by decide +kernel
theorem dX0_firmness_4 : decode cX0_firmness 4 = .ok (.aload_n 0, 1) := by decide +kernel
theorem dX0_firmness_5 : decode cX0_firmness 5 = .ok (.getfield 22, 3) := by decide +kernel
theorem dX0_firmness_8 : decode cX0_firmness 8 = .ok (.iconst 3, 1) := by decide +kernel
theorem dX0_firmness_9 : decode cX0_firmness 9 = .ok (.idiv, 1) := by decide +kernel
theorem dX0_firmness_10 : decode cX0_firmness 10 = .ok (.iadd, 1) := by decide +kernel
theorem dX0_firmness_11 : decode cX0_firmness 11 = .ok (.ireturn, 1) := by decide +kernel
theorem dX0_place_0 : decode cX0_place 0 = .ok (.aload_n 0, 1) := by decide +kernel
theorem dX0_place_1 : decode cX0_place 1 = .ok (.getfield 15, 3) := by decide +kernel
theorem dX0_place_4 : decode cX0_place 4 = .ok (.ifnull 14, 3) := by decide +kernel
theorem dX0_place_7 : decode cX0_place 7 = .ok (.aload_n 0, 1) := by decide +kernel
theorem dX0_place_8 : decode cX0_place 8 = .ok (.getfield 15, 3) := by decide +kernel
theorem dX0_place_11 : decode cX0_place 11 = .ok (.getfield 34, 3) := by decide +kernel
theorem dX0_place_14 : decode cX0_place 14 = .ok (.iconst 1, 1) := by decide +kernel
theorem dX0_place_15 : decode cX0_place 15 = .ok (.if_icmp .eq 7, 3) := by decide +kernel
theorem dX0_place_18 : decode cX0_place 18 = .ok (.iconst (-1), 1) := by decide +kernel
theorem dX0_place_19 : decode cX0_place 19 = .ok (.goto 15, 3) := by decide +kernel
theorem dX0_place_22 : decode cX0_place 22 = .ok (.aload_n 0, 1) := by decide +kernel
theorem dX0_place_23 : decode cX0_place 23 = .ok (.getfield 15, 3) := by decide +kernel
theorem dX0_place_26 : decode cX0_place 26 = .ok (.getfield 39, 3) := by decide +kernel
theorem dX0_place_29 : decode cX0_place 29 = .ok (.aload_n 0, 1) := by decide +kernel
theorem dX0_place_30 : decode cX0_place 30 = .ok (.getfield 19, 3) := by decide +kernel
theorem dX0_place_33 : decode cX0_place 33 = .ok (.isub, 1) := by decide +kernel
theorem dX0_place_34 : decode cX0_place 34 = .ok (.ireturn, 1) := by decide +kernel
set_option maxRecDepth 20000 in
theorem ggX0_distanceTo_X0_place : GoodIn wsX0_distanceTo wsX0_place := goodIn_r _ [5, 6, 7, 8, 9, 10, 11, 12, 13, 14, 15, 16, 17, 18, 19, 20, 21, 22, 23] (by decide +kernel) (by decide +kernel)
set_option maxRecDepth 20000 in
theorem gX0_distanceTo_X0_place : GoodIn wsX0_distanceTo (wsV RX0 42 RX0 yX0_place wsX0_place) := goodIn_app (goodIn_of _ (by decide +kernel)) ggX0_distanceTo_X0_place
theorem dX0_distanceTo_0 : decode cX0_distanceTo 0 = .ok (.aload_n 0, 1) := by decide +kernel
theorem dX0_distanceTo_1 : decode cX0_distanceTo 1 = .ok (.invokevirtual 42, 3) := by decide +kernel
theorem dX0_distanceTo_4 : decode cX0_distanceTo 4 = .ok (.aload_n 1, 1) := by decide +kernel
theorem dX0_distanceTo_5 : decode cX0_distanceTo 5 = .ok (.invokevirtual 42, 3) := by decide +kernel
theorem dX0_distanceTo_8 : decode cX0_distanceTo 8 = .ok (.isub, 1) := by decide +kernel
theorem dX0_distanceTo_9 : decode cX0_distanceTo 9 = .ok (.istore_n 2, 1) := by decide +kernel
theorem dX0_distanceTo_10 : decode cX0_distanceTo 10 = .ok (.iload_n 2, 1) := by decide +kernel
theorem dX0_distanceTo_11 : decode cX0_distanceTo 11 = .ok (.ifCond .ge 8, 3) := by decide +kernel
theorem dX0_distanceTo_14 : decode cX0_distanceTo 14 = .ok (.iload_n 2, 1) := by decide +kernel
theorem dX0_distanceTo_15 : decode cX0_distanceTo 15 = .ok (.ineg, 1) := by decide +kernel
theorem dX0_distanceTo_16 : decode cX0_distanceTo 16 = .ok (.goto 4, 3) := by decide +kernel
theorem dX0_distanceTo_19 : decode cX0_distanceTo 19 = .ok (.iload_n 2, 1) := by decide +kernel
theorem dX0_distanceTo_20 : decode cX0_distanceTo 20 = .ok (.ireturn, 1) := by decide +kernel
theorem dX0_darken_0 : decode cX0_darken 0 = .ok (.aload_n 0, 1) := by decide +kernel
theorem dX0_darken_1 : decode cX0_darken 1 = .ok (.getfield 9, 3) := by decide +kernel
theorem dX0_darken_4 : decode cX0_darken 4 = .ok (.iconst 1, 1) := by decide +kernel
theorem dX0_darken_5 : decode cX0_darken 5 = .ok (.if_icmp .ne 8, 3) := by decide +kernel
theorem dX0_darken_8 : decode cX0_darken 8 = .ok (.aload_n 0, 1) := by decide +kernel
theorem dX0_darken_9 : decode cX0_darken 9 = .ok (.iconst 0, 1) := by decide +kernel
theorem dX0_darken_10 : decode cX0_darken 10 = .ok (.putfield 9, 3) := by decide +kernel
theorem dX0_darken_13 : decode cX0_darken 13 = .ok (.return_, 1) := by decide +kernel
theorem dX0_burnOneMinute_0 : decode cX0_burnOneMinute 0 = .ok (.aload_n 0, 1) := by decide +kernel
theorem dX0_burnOneMinute_1 : decode cX0_burnOneMinute 1 = .ok (.dup, 1) := by decide +kernel
theorem dX0_burnOneMinute_2 : decode cX0_burnOneMinute 2 = .ok (.getfield 31, 3) := by decide +kernel
theorem dX0_burnOneMinute_5 : decode cX0_burnOneMinute 5 = .ok (.iconst 1, 1) := by decide +kernel
theorem dX0_burnOneMinute_6 : decode cX0_burnOneMinute 6 = .ok (.isub, 1) := by decide +kernel
theorem dX0_burnOneMinute_7 : decode cX0_burnOneMinute 7 = .ok (.putfield 31, 3) := by decide +kernel
theorem dX0_burnOneMinute_10 : decode cX0_burnOneMinute 10 = .ok (.aload_n 0, 1) := by decide +kernel
theorem dX0_burnOneMinute_11 : decode cX0_burnOneMinute 11 = .ok (.getfield 31, 3) := by decide +kernel
theorem dX0_burnOneMinute_14 : decode cX0_burnOneMinute 14 = .ok (.ifCond .gt 8, 3) := by decide +kernel
theorem dX0_burnOneMinute_17 : decode cX0_burnOneMinute 17 = .ok (.aload_n 0, 1) := by decide +kernel
theorem dX0_burnOneMinute_18 : decode cX0_burnOneMinute 18 = .ok (.iconst 2, 1) := by decide +kernel
theorem dX0_burnOneMinute_19 : decode cX0_burnOneMinute 19 = .ok (.putfield 9, 3) := by decide +kernel
theorem dX0_burnOneMinute_22 : decode cX0_burnOneMinute 22 = .ok (.return_, 1) := by decide +kernel
theorem dX1_init_0 : decode cX1_init 0 = .ok (.aload_n 0, 1) := by decide +kernel
theorem dX1_init_1 : decode cX1_init 1 = .ok (.invokespecial 3, 3) := by decide +kernel
theorem dX1_init_4 : decode cX1_init 4 = .ok (.aload_n 0, 1) := by decide +kernel
theorem dX1_init_5 : decode cX1_init 5 = .ok (.bipush 10, 2) := by decide +kernel
theorem dX1_init_7 : decode cX1_init 7 = .ok (.anewarray 9, 3) := by decide +kernel
theorem dX1_init_10 : decode cX1_init 10 = .ok (.putfield 11, 3) := by decide +kernel
theorem dX1_init_13 : decode cX1_init 13 = .ok (.aload_n 0, 1) := by decide +kernel
theorem dX1_init_14 : decode cX1_init 14 = .ok (.iconst 0, 1) := by decide +kernel
theorem dX1_init_15 : decode cX1_init 15 = .ok (.putfield 17, 3) := by decide +kernel
theorem dX1_init_18 : decode cX1_init 18 = .ok (.aload_n 0, 1) := by decide +kernel
theorem dX1_init_19 : decode cX1_init 19 = .ok (.iconst (-1), 1) := by decide +kernel
theorem dX1_init_20 : decode cX1_init 20 = .ok (.putfield 21, 3) := by decide +kernel
theorem dX1_init_23 : decode cX1_init 23 = .ok (.aload_n 0, 1) := by decide +kernel
theorem dX1_init_24 : decode cX1_init 24 = .ok (.iconst (-1), 1) := by decide +kernel
theorem dX1_init_25 : decode cX1_init 25 = .ok (.putfield 24, 3) := by decide +kernel
theorem dX1_init_28 : decode cX1_init 28 = .ok (.aload_n 0, 1) := by decide +kernel
theorem dX1_init_29 : decode cX1_init 29 = .ok (.iload_n 1, 1) := by decide +kernel
theorem dX1_init_30 : decode cX1_init 30 = .ok (.putfield 27, 3) := by decide +kernel
theorem dX1_init_33 : decode cX1_init 33 = .ok (.aload_n 0, 1) := by decide +kernel
theorem dX1_init_34 : decode cX1_init 34 = .ok (.iload_n 2, 1) := by decide +kernel
theorem dX1_init_35 : decode cX1_init 35 = .ok (.putfield 30, 3) := by decide +kernel
theorem dX1_init_38 : decode cX1_init 38 = .ok (.aload_n 0, 1) := by decide +kernel
theorem dX1_init_39 : decode cX1_init 39 = .ok (.iload_n 3, 1) := by decide +kernel
theorem dX1_init_40 : decode cX1_init 40 = .ok (.putfield 33, 3) := by decide +kernel
theorem dX1_init_43 : decode cX1_init 43 = .ok (.return_, 1) := by decide +kernel
theorem dX1_rear_0 : decode cX1_rear 0 = .ok (.aload_n 0, 1) := by decide +kernel
theorem dX1_rear_1 : decode cX1_rear 1 = .ok (.getfield 21, 3) := by decide +kernel
theorem dX1_rear_4 : decode cX1_rear 4 = .ok (.bipush 9, 2) := by decide +kernel
theorem dX1_rear_6 : decode cX1_rear 6 = .ok (.isub, 1) := by decide +kernel
theorem dX1_rear_7 : decode cX1_rear 7 = .ok (.ireturn, 1) := by decide +kernel
set_option maxRecDepth 20000 in
theorem ggX1_lanternIn_X2_within : GoodIn wsX1_lanternIn wsX2_within := goodIn_r _ [4] (by decide +kernel) (by decide +kernel)
set_option maxRecDepth 20000 in
theorem gX1_lanternIn_X2_within_n36 : GoodIn wsX1_lanternIn (wsX2_within) := ggX1_lanternIn_X2_within
theorem dX1_lanternIn_0 : decode cX1_lanternIn 0 = .ok (.iload_n 1, 1) := by decide +kernel
theorem dX1_lanternIn_1 : decode cX1_lanternIn 1 = .ok (.iconst 0, 1) := by decide +kernel
theorem dX1_lanternIn_2 : decode cX1_lanternIn 2 = .ok (.aload_n 0, 1) := by decide +kernel
theorem dX1_lanternIn_3 : decode cX1_lanternIn 3 = .ok (.getfield 11, 3) := by decide +kernel
theorem dX1_lanternIn_6 : decode cX1_lanternIn 6 = .ok (.arraylength, 1) := by decide +kernel
theorem dX1_lanternIn_7 : decode cX1_lanternIn 7 = .ok (.iconst 1, 1) := by decide +kernel
theorem dX1_lanternIn_8 : decode cX1_lanternIn 8 = .ok (.isub, 1) := by decide +kernel
theorem dX1_lanternIn_9 : decode cX1_lanternIn 9 = .ok (.invokestatic 36, 3) := by decide +kernel
theorem dX1_lanternIn_12 : decode cX1_lanternIn 12 = .ok (.ifCond .eq 12, 3) := by decide +kernel
theorem dX1_lanternIn_15 : decode cX1_lanternIn 15 = .ok (.aload_n 0, 1) := by decide +kernel
theorem dX1_lanternIn_16 : decode cX1_lanternIn 16 = .ok (.getfield 11, 3) := by decide +kernel
theorem dX1_lanternIn_19 : decode cX1_lanternIn 19 = .ok (.iload_n 1, 1) := by decide +kernel
theorem dX1_lanternIn_20 : decode cX1_lanternIn 20 = .ok (.aaload, 1) := by decide +kernel
theorem dX1_lanternIn_21 : decode cX1_lanternIn 21 = .ok (.goto 4, 3) := by decide +kernel
theorem dX1_lanternIn_24 : decode cX1_lanternIn 24 = .ok (.aconst_null, 1) := by decide +kernel
theorem dX1_lanternIn_25 : decode cX1_lanternIn 25 = .ok (.areturn, 1) := by decide +kernel
set_option maxRecDepth 20000 in
theorem ggX1_put_X2_within : GoodIn wsX1_put wsX2_within := goodIn_r _ [6] (by decide +kernel) (by decide +kernel)
set_option maxRecDepth 20000 in
theorem gX1_put_X2_within_n36 : GoodIn wsX1_put (wsX2_within) := ggX1_put_X2_within
theorem dX1_put_0 : decode cX1_put 0 = .ok (.iload_n 2, 1) := by decide +kernel
theorem dX1_put_1 : decode cX1_put 1 = .ok (.iconst 0, 1) := by decide +kernel
theorem dX1_put_2 : decode cX1_put 2 = .ok (.aload_n 0, 1) := by decide +kernel
theorem dX1_put_3 : decode cX1_put 3 = .ok (.getfield 11, 3) := by decide +kernel
theorem dX1_put_6 : decode cX1_put 6 = .ok (.arraylength, 1) := by decide +kernel
theorem dX1_put_7 : decode cX1_put 7 = .ok (.iconst 1, 1) := by decide +kernel
theorem dX1_put_8 : decode cX1_put 8 = .ok (.isub, 1) := by decide +kernel
theorem dX1_put_9 : decode cX1_put 9 = .ok (.invokestatic 36, 3) := by decide +kernel
theorem dX1_put_12 : decode cX1_put 12 = .ok (.ifCond .eq 20, 3) := by decide +kernel
theorem dX1_put_15 : decode cX1_put 15 = .ok (.aload_n 0, 1) := by decide +kernel
theorem dX1_put_16 : decode cX1_put 16 = .ok (.getfield 11, 3) := by decide +kernel
theorem dX1_put_19 : decode cX1_put 19 = .ok (.iload_n 2, 1) := by decide +kernel
theorem dX1_put_20 : decode cX1_put 20 = .ok (.aload_n 1, 1) := by decide +kernel
theorem dX1_put_21 : decode cX1_put 21 = .ok (.aastore, 1) := by decide +kernel
theorem dX1_put_22 : decode cX1_put 22 = .ok (.aload_n 1, 1) := by decide +kernel
theorem dX1_put_23 : decode cX1_put 23 = .ok (.aload_n 0, 1) := by decide +kernel
theorem dX1_put_24 : decode cX1_put 24 = .ok (.putfield 40, 3) := by decide +kernel
theorem dX1_put_27 : decode cX1_put 27 = .ok (.aload_n 1, 1) := by decide +kernel
theorem dX1_put_28 : decode cX1_put 28 = .ok (.iload_n 2, 1) := by decide +kernel
theorem dX1_put_29 : decode cX1_put 29 = .ok (.putfield 44, 3) := by decide +kernel
theorem dX1_put_32 : decode cX1_put 32 = .ok (.return_, 1) := by decide +kernel
theorem dX1_free_0 : decode cX1_free 0 = .ok (.iconst 0, 1) := by decide +kernel
theorem dX1_free_1 : decode cX1_free 1 = .ok (.istore_n 2, 1) := by decide +kernel
theorem dX1_free_2 : decode cX1_free 2 = .ok (.iload_n 2, 1) := by decide +kernel
theorem dX1_free_3 : decode cX1_free 3 = .ok (.aload_n 0, 1) := by decide +kernel
theorem dX1_free_4 : decode cX1_free 4 = .ok (.getfield 11, 3) := by decide +kernel
theorem dX1_free_7 : decode cX1_free 7 = .ok (.arraylength, 1) := by decide +kernel
theorem dX1_free_8 : decode cX1_free 8 = .ok (.if_icmp .ge 26, 3) := by decide +kernel
theorem dX1_free_11 : decode cX1_free 11 = .ok (.aload_n 0, 1) := by decide +kernel
theorem dX1_free_12 : decode cX1_free 12 = .ok (.getfield 11, 3) := by decide +kernel
theorem dX1_free_15 : decode cX1_free 15 = .ok (.iload_n 2, 1) := by decide +kernel
theorem dX1_free_16 : decode cX1_free 16 = .ok (.aaload, 1) := by decide +kernel
theorem dX1_free_17 : decode cX1_free 17 = .ok (.aload_n 1, 1) := by decide +kernel
theorem dX1_free_18 : decode cX1_free 18 = .ok (.if_acmp .ne 10, 3) := by decide +kernel
theorem dX1_free_21 : decode cX1_free 21 = .ok (.aload_n 0, 1) := by decide +kernel
theorem dX1_free_22 : decode cX1_free 22 = .ok (.getfield 11, 3) := by decide +kernel
theorem dX1_free_25 : decode cX1_free 25 = .ok (.iload_n 2, 1) := by decide +kernel
theorem dX1_free_26 : decode cX1_free 26 = .ok (.aconst_null, 1) := by decide +kernel
theorem dX1_free_27 : decode cX1_free 27 = .ok (.aastore, 1) := by decide +kernel
theorem dX1_free_28 : decode cX1_free 28 = .ok (.iinc 2 1, 3) := by decide +kernel
theorem dX1_free_31 : decode cX1_free 31 = .ok (.goto (-29), 3) := by decide +kernel
theorem dX1_free_34 : decode cX1_free 34 = .ok (.aload_n 1, 1) := by decide +kernel
theorem dX1_free_35 : decode cX1_free 35 = .ok (.aconst_null, 1) := by decide +kernel
theorem dX1_free_36 : decode cX1_free 36 = .ok (.putfield 40, 3) := by decide +kernel
theorem dX1_free_39 : decode cX1_free 39 = .ok (.aload_n 1, 1) := by decide +kernel
theorem dX1_free_40 : decode cX1_free 40 = .ok (.iconst (-1), 1) := by decide +kernel
theorem dX1_free_41 : decode cX1_free 41 = .ok (.putfield 44, 3) := by decide +kernel
theorem dX1_free_44 : decode cX1_free 44 = .ok (.return_, 1) := by decide +kernel
set_option maxRecDepth 20000 in
theorem ggX1_weight_X0_weight : GoodIn wsX1_weight wsX0_weight := goodIn_r _ [6, 7, 8, 9, 17, 18, 19, 20, 21, 22, 23] (by decide +kernel) (by decide +kernel)
set_option maxRecDepth 20000 in
theorem gX1_weight_X0_weight : GoodIn wsX1_weight (wsV RX1 47 RX0 yX0_weight wsX0_weight) := goodIn_app (goodIn_of _ (by decide +kernel)) ggX1_weight_X0_weight
theorem dX1_weight_0 : decode cX1_weight 0 = .ok (.iconst 0, 1) := by decide +kernel
theorem dX1_weight_1 : decode cX1_weight 1 = .ok (.istore_n 1, 1) := by decide +kernel
theorem dX1_weight_2 : decode cX1_weight 2 = .ok (.aload_n 0, 1) := by decide +kernel
theorem dX1_weight_3 : decode cX1_weight 3 = .ok (.getfield 11, 3) := by decide +kernel
theorem dX1_weight_6 : decode cX1_weight 6 = .ok (.astore_n 2, 1) := by decide +kernel
theorem dX1_weight_7 : decode cX1_weight 7 = .ok (.aload_n 2, 1) := by decide +kernel
theorem dX1_weight_8 : decode cX1_weight 8 = .ok (.arraylength, 1) := by decide +kernel
theorem dX1_weight_9 : decode cX1_weight 9 = .ok (.istore_n 3, 1) := by decide +kernel
theorem dX1_weight_10 : decode cX1_weight 10 = .ok (.iconst 0, 1) := by decide +kernel
theorem dX1_weight_11 : decode cX1_weight 11 = .ok (.istore 4, 2) := by decide +kernel
theorem dX1_weight_13 : decode cX1_weight 13 = .ok (.iload 4, 2) := by decide +kernel
theorem dX1_weight_15 : decode cX1_weight 15 = .ok (.iload_n 3, 1) := by decide +kernel
theorem dX1_weight_16 : decode cX1_weight 16 = .ok (.if_icmp .ge 28, 3) := by decide +kernel
theorem dX1_weight_19 : decode cX1_weight 19 = .ok (.aload_n 2, 1) := by decide +kernel
theorem dX1_weight_20 : decode cX1_weight 20 = .ok (.iload 4, 2) := by decide +kernel
theorem dX1_weight_22 : decode cX1_weight 22 = .ok (.aaload, 1) := by decide +kernel
theorem dX1_weight_23 : decode cX1_weight 23 = .ok (.astore 5, 2) := by decide +kernel
theorem dX1_weight_25 : decode cX1_weight 25 = .ok (.aload 5, 2) := by decide +kernel
theorem dX1_weight_27 : decode cX1_weight 27 = .ok (.ifnull 11, 3) := by decide +kernel
theorem dX1_weight_30 : decode cX1_weight 30 = .ok (.iload_n 1, 1) := by decide +kernel
theorem dX1_weight_31 : decode cX1_weight 31 = .ok (.aload 5, 2) := by decide +kernel
theorem dX1_weight_33 : decode cX1_weight 33 = .ok (.invokevirtual 47, 3) := by decide +kernel
theorem dX1_weight_36 : decode cX1_weight 36 = .ok (.iadd, 1) := by decide +kernel
theorem dX1_weight_37 : decode cX1_weight 37 = .ok (.istore_n 1, 1) := by decide +kernel
theorem dX1_weight_38 : decode cX1_weight 38 = .ok (.iinc 4 1, 3) := by decide +kernel
theorem dX1_weight_41 : decode cX1_weight 41 = .ok (.goto (-28), 3) := by decide +kernel
theorem dX1_weight_44 : decode cX1_weight 44 = .ok (.iload_n 1, 1) := by decide +kernel
theorem dX1_weight_45 : decode cX1_weight 45 = .ok (.ireturn, 1) := by decide +kernel
set_option maxRecDepth 20000 in
theorem ggX1_moveBehind_X1_rear : GoodIn wsX1_moveBehind wsX1_rear := goodIn_r _ [14, 1, 15, 16, 17, 18, 19, 20, 21] (by decide +kernel) (by decide +kernel)
set_option maxRecDepth 20000 in
theorem gX1_moveBehind_X1_rear : GoodIn wsX1_moveBehind (wsV RX1 51 RX1 yX1_rear wsX1_rear) := goodIn_app (goodIn_of _ (by decide +kernel)) ggX1_moveBehind_X1_rear
theorem dX1_moveBehind_0 : decode cX1_moveBehind 0 = .ok (.aload_n 0, 1) := by decide +kernel
theorem dX1_moveBehind_1 : decode cX1_moveBehind 1 = .ok (.getfield 21, 3) := by decide +kernel
theorem dX1_moveBehind_4 : decode cX1_moveBehind 4 = .ok (.aload_n 0, 1) := by decide +kernel
theorem dX1_moveBehind_5 : decode cX1_moveBehind 5 = .ok (.getfield 30, 3) := by decide +kernel
theorem dX1_moveBehind_8 : decode cX1_moveBehind 8 = .ok (.iadd, 1) := by decide +kernel
theorem dX1_moveBehind_9 : decode cX1_moveBehind 9 = .ok (.istore_n 3, 1) := by decide +kernel
theorem dX1_moveBehind_10 : decode cX1_moveBehind 10 = .ok (.aload_n 1, 1) := by decide +kernel
theorem dX1_moveBehind_11 : decode cX1_moveBehind 11 = .ok (.ifnull 14, 3) := by decide +kernel
theorem dX1_moveBehind_14 : decode cX1_moveBehind 14 = .ok (.iload_n 3, 1) := by decide +kernel
theorem dX1_moveBehind_15 : decode cX1_moveBehind 15 = .ok (.aload_n 1, 1) := by decide +kernel
theorem dX1_moveBehind_16 : decode cX1_moveBehind 16 = .ok (.invokevirtual 51, 3) := by decide +kernel
theorem dX1_moveBehind_19 : decode cX1_moveBehind 19 = .ok (.iload_n 2, 1) := by decide +kernel
theorem dX1_moveBehind_20 : decode cX1_moveBehind 20 = .ok (.isub, 1) := by decide +kernel
theorem dX1_moveBehind_21 : decode cX1_moveBehind 21 = .ok (.invokestatic 54, 3) := by decide +kernel
theorem dX1_moveBehind_24 : decode cX1_moveBehind 24 = .ok (.istore_n 3, 1) := by decide +kernel
theorem dX1_moveBehind_25 : decode cX1_moveBehind 25 = .ok (.aload_n 0, 1) := by decide +kernel
theorem dX1_moveBehind_26 : decode cX1_moveBehind 26 = .ok (.aload_n 0, 1) := by decide +kernel
theorem dX1_moveBehind_27 : decode cX1_moveBehind 27 = .ok (.getfield 21, 3) := by decide +kernel
theorem dX1_moveBehind_30 : decode cX1_moveBehind 30 = .ok (.iload_n 3, 1) := by decide +kernel
theorem dX1_moveBehind_31 : decode cX1_moveBehind 31 = .ok (.invokestatic 60, 3) := by decide +kernel
theorem dX1_moveBehind_34 : decode cX1_moveBehind 34 = .ok (.putfield 21, 3) := by decide +kernel
theorem dX1_moveBehind_37 : decode cX1_moveBehind 37 = .ok (.return_, 1) := by decide +kernel
set_option maxRecDepth 20000 in
theorem ggX1_darkenAll_X0_darken : GoodIn wsX1_darkenAll wsX0_darken := goodIn_r _ [6, 7, 15, 16, 17, 18, 19, 20, 21] (by decide +kernel) (by decide +kernel)
set_option maxRecDepth 20000 in
theorem gX1_darkenAll_X0_darken : GoodIn wsX1_darkenAll (wsV RX1 63 RX0 yX0_darken wsX0_darken) := goodIn_app (goodIn_of _ (by decide +kernel)) ggX1_darkenAll_X0_darken
theorem dX1_darkenAll_0 : decode cX1_darkenAll 0 = .ok (.aload_n 0, 1) := by decide +kernel
theorem dX1_darkenAll_1 : decode cX1_darkenAll 1 = .ok (.getfield 11, 3) := by decide +kernel
theorem dX1_darkenAll_4 : decode cX1_darkenAll 4 = .ok (.astore_n 1, 1) := by decide +kernel
theorem dX1_darkenAll_5 : decode cX1_darkenAll 5 = .ok (.aload_n 1, 1) := by decide +kernel
theorem dX1_darkenAll_6 : decode cX1_darkenAll 6 = .ok (.arraylength, 1) := by decide +kernel
theorem dX1_darkenAll_7 : decode cX1_darkenAll 7 = .ok (.istore_n 2, 1) := by decide +kernel
theorem dX1_darkenAll_8 : decode cX1_darkenAll 8 = .ok (.iconst 0, 1) := by decide +kernel
theorem dX1_darkenAll_9 : decode cX1_darkenAll 9 = .ok (.istore_n 3, 1) := by decide +kernel
theorem dX1_darkenAll_10 : decode cX1_darkenAll 10 = .ok (.iload_n 3, 1) := by decide +kernel
theorem dX1_darkenAll_11 : decode cX1_darkenAll 11 = .ok (.iload_n 2, 1) := by decide +kernel
theorem dX1_darkenAll_12 : decode cX1_darkenAll 12 = .ok (.if_icmp .ge 24, 3) := by decide +kernel
theorem dX1_darkenAll_15 : decode cX1_darkenAll 15 = .ok (.aload_n 1, 1) := by decide +kernel
theorem dX1_darkenAll_16 : decode cX1_darkenAll 16 = .ok (.iload_n 3, 1) := by decide +kernel
theorem dX1_darkenAll_17 : decode cX1_darkenAll 17 = .ok (.aaload, 1) := by decide +kernel
theorem dX1_darkenAll_18 : decode cX1_darkenAll 18 = .ok (.astore 4, 2) := by decide +kernel
theorem dX1_darkenAll_20 : decode cX1_darkenAll 20 = .ok (.aload 4, 2) := by decide +kernel
theorem dX1_darkenAll_22 : decode cX1_darkenAll 22 = .ok (.ifnull 8, 3) := by decide +kernel
theorem dX1_darkenAll_25 : decode cX1_darkenAll 25 = .ok (.aload 4, 2) := by decide +kernel
theorem dX1_darkenAll_27 : decode cX1_darkenAll 27 = .ok (.invokevirtual 63, 3) := by decide +kernel
theorem dX1_darkenAll_30 : decode cX1_darkenAll 30 = .ok (.iinc 3 1, 3) := by decide +kernel
theorem dX1_darkenAll_33 : decode cX1_darkenAll 33 = .ok (.goto (-23), 3) := by decide +kernel
theorem dX1_darkenAll_36 : decode cX1_darkenAll 36 = .ok (.return_, 1) := by decide +kernel
set_option maxRecDepth 20000 in
theorem ggX1_nearestLit_X0_distanceTo : GoodIn wsX1_nearestLit wsX0_distanceTo := goodIn_r _ [7, 8, 9, 10, 6, 11, 12, 13, 14, 15, 33, 34, 35, 36, 37, 38, 39, 26, 27, 28, 29, 30, 31, 32] (by decide +kernel) (by decide +kernel)
set_option maxRecDepth 20000 in
theorem gX1_nearestLit_X0_distanceTo : GoodIn wsX1_nearestLit (wsV RX1 69 RX0 yX0_distanceTo wsX0_distanceTo) := goodIn_app (goodIn_of _ (by decide +kernel)) ggX1_nearestLit_X0_distanceTo
set_option maxRecDepth 20000 in
theorem ggX1_nearestLit_X2_nearer : GoodIn wsX1_nearestLit wsX2_nearer := goodIn_r _ [18, 19, 20, 21, 22, 23, 24, 25] (by decide +kernel) (by decide +kernel)
set_option maxRecDepth 20000 in
theorem gX1_nearestLit_X2_nearer_n73 : GoodIn wsX1_nearestLit (wsX2_nearer) := ggX1_nearestLit_X2_nearer
theorem dX1_nearestLit_0 : decode cX1_nearestLit 0 = .ok (.iconst (-1), 1) := by decide +kernel
theorem dX1_nearestLit_1 : decode cX1_nearestLit 1 = .ok (.istore_n 2, 1) := by decide +kernel
theorem dX1_nearestLit_2 : decode cX1_nearestLit 2 = .ok (.aload_n 0, 1) := by decide +kernel
theorem dX1_nearestLit_3 : decode cX1_nearestLit 3 = .ok (.getfield 11, 3) := by decide +kernel
theorem dX1_nearestLit_6 : decode cX1_nearestLit 6 = .ok (.astore_n 3, 1) := by decide +kernel
theorem dX1_nearestLit_7 : decode cX1_nearestLit 7 = .ok (.aload_n 3, 1) := by decide +kernel
theorem dX1_nearestLit_8 : decode cX1_nearestLit 8 = .ok (.arraylength, 1) := by decide +kernel
theorem dX1_nearestLit_9 : decode cX1_nearestLit 9 = .ok (.istore 4, 2) := by decide +kernel
theorem dX1_nearestLit_11 : decode cX1_nearestLit 11 = .ok (.iconst 0, 1) := by decide +kernel
theorem dX1_nearestLit_12 : decode cX1_nearestLit 12 = .ok (.istore 5, 2) := by decide +kernel
theorem dX1_nearestLit_14 : decode cX1_nearestLit 14 = .ok (.iload 5, 2) := by decide +kernel
theorem dX1_nearestLit_16 : decode cX1_nearestLit 16 = .ok (.iload 4, 2) := by decide +kernel
theorem dX1_nearestLit_18 : decode cX1_nearestLit 18 = .ok (.if_icmp .ge 46, 3) := by decide +kernel
theorem dX1_nearestLit_21 : decode cX1_nearestLit 21 = .ok (.aload_n 3, 1) := by decide +kernel
theorem dX1_nearestLit_22 : decode cX1_nearestLit 22 = .ok (.iload 5, 2) := by decide +kernel
theorem dX1_nearestLit_24 : decode cX1_nearestLit 24 = .ok (.aaload, 1) := by decide +kernel
theorem dX1_nearestLit_25 : decode cX1_nearestLit 25 = .ok (.astore 6, 2) := by decide +kernel
theorem dX1_nearestLit_27 : decode cX1_nearestLit 27 = .ok (.aload 6, 2) := by decide +kernel
theorem dX1_nearestLit_29 : decode cX1_nearestLit 29 = .ok (.ifnull 29, 3) := by decide +kernel
theorem dX1_nearestLit_32 : decode cX1_nearestLit 32 = .ok (.aload 6, 2) := by decide +kernel
theorem dX1_nearestLit_34 : decode cX1_nearestLit 34 = .ok (.aload_n 1, 1) := by decide +kernel
theorem dX1_nearestLit_35 : decode cX1_nearestLit 35 = .ok (.if_acmp .eq 23, 3) := by decide +kernel
theorem dX1_nearestLit_38 : decode cX1_nearestLit 38 = .ok (.aload 6, 2) := by decide +kernel
theorem dX1_nearestLit_40 : decode cX1_nearestLit 40 = .ok (.getfield 66, 3) := by decide +kernel
theorem dX1_nearestLit_43 : decode cX1_nearestLit 43 = .ok (.iconst 1, 1) := by decide +kernel
theorem dX1_nearestLit_44 : decode cX1_nearestLit 44 = .ok (.if_icmp .ne 14, 3) := by decide +kernel
theorem dX1_nearestLit_47 : decode cX1_nearestLit 47 = .ok (.iload_n 2, 1) := by decide +kernel
theorem dX1_nearestLit_48 : decode cX1_nearestLit 48 = .ok (.aload_n 1, 1) := by decide +kernel
theorem dX1_nearestLit_49 : decode cX1_nearestLit 49 = .ok (.aload 6, 2) := by decide +kernel
theorem dX1_nearestLit_51 : decode cX1_nearestLit 51 = .ok (.invokevirtual 69, 3) := by decide +kernel
theorem dX1_nearestLit_54 : decode cX1_nearestLit 54 = .ok (.invokestatic 73, 3) := by decide +kernel
theorem dX1_nearestLit_57 : decode cX1_nearestLit 57 = .ok (.istore_n 2, 1) := by decide +kernel
theorem dX1_nearestLit_58 : decode cX1_nearestLit 58 = .ok (.iinc 5 1, 3) := by decide +kernel
theorem dX1_nearestLit_61 : decode cX1_nearestLit 61 = .ok (.goto (-47), 3) := by decide +kernel
theorem dX1_nearestLit_64 : decode cX1_nearestLit 64 = .ok (.iload_n 2, 1) := by decide +kernel
theorem dX1_nearestLit_65 : decode cX1_nearestLit 65 = .ok (.ireturn, 1) := by decide +kernel
theorem dX1_alike_0 : decode cX1_alike 0 = .ok (.iconst 0, 1) := by decide +kernel
theorem dX1_alike_1 : decode cX1_alike 1 = .ok (.istore_n 2, 1) := by decide +kernel
theorem dX1_alike_2 : decode cX1_alike 2 = .ok (.iconst 0, 1) := by decide +kernel
theorem dX1_alike_3 : decode cX1_alike 3 = .ok (.istore_n 3, 1) := by decide +kernel
theorem dX1_alike_4 : decode cX1_alike 4 = .ok (.iload_n 3, 1) := by decide +kernel
theorem dX1_alike_5 : decode cX1_alike 5 = .ok (.aload_n 0, 1) := by decide +kernel
theorem dX1_alike_6 : decode cX1_alike 6 = .ok (.getfield 11, 3) := by decide +kernel
theorem dX1_alike_9 : decode cX1_alike 9 = .ok (.arraylength, 1) := by decide +kernel
theorem dX1_alike_10 : decode cX1_alike 10 = .ok (.if_icmp .ge 64, 3) := by decide +kernel
theorem dX1_alike_13 : decode cX1_alike 13 = .ok (.aload_n 0, 1) := by decide +kernel
theorem dX1_alike_14 : decode cX1_alike 14 = .ok (.getfield 11, 3) := by decide +kernel
theorem dX1_alike_17 : decode cX1_alike 17 = .ok (.iload_n 3, 1) := by decide +kernel
theorem dX1_alike_18 : decode cX1_alike 18 = .ok (.aaload, 1) := by decide +kernel
theorem dX1_alike_19 : decode cX1_alike 19 = .ok (.astore 4, 2) := by decide +kernel
theorem dX1_alike_21 : decode cX1_alike 21 = .ok (.aload 4, 2) := by decide +kernel
theorem dX1_alike_23 : decode cX1_alike 23 = .ok (.ifnull 16, 3) := by decide +kernel
theorem dX1_alike_26 : decode cX1_alike 26 = .ok (.aload 4, 2) := by decide +kernel
theorem dX1_alike_28 : decode cX1_alike 28 = .ok (.getfield 66, 3) := by decide +kernel
theorem dX1_alike_31 : decode cX1_alike 31 = .ok (.iconst 1, 1) := by decide +kernel
theorem dX1_alike_32 : decode cX1_alike 32 = .ok (.if_icmp .ne 7, 3) := by decide +kernel
theorem dX1_alike_35 : decode cX1_alike 35 = .ok (.iconst 1, 1) := by decide +kernel
theorem dX1_alike_36 : decode cX1_alike 36 = .ok (.goto 4, 3) := by decide +kernel
theorem dX1_alike_39 : decode cX1_alike 39 = .ok (.iconst 0, 1) := by decide +kernel
theorem dX1_alike_40 : decode cX1_alike 40 = .ok (.istore 5, 2) := by decide +kernel
theorem dX1_alike_42 : decode cX1_alike 42 = .ok (.iload_n 1, 1) := by decide +kernel
theorem dX1_alike_43 : decode cX1_alike 43 = .ok (.iload_n 3, 1) := by decide +kernel
theorem dX1_alike_44 : decode cX1_alike 44 = .ok (.ishr, 1) := by decide +kernel
theorem dX1_alike_45 : decode cX1_alike 45 = .ok (.iconst 1, 1) := by decide +kernel
theorem dX1_alike_46 : decode cX1_alike 46 = .ok (.iand, 1) := by decide +kernel
theorem dX1_alike_47 : decode cX1_alike 47 = .ok (.iconst 1, 1) := by decide +kernel
theorem dX1_alike_48 : decode cX1_alike 48 = .ok (.if_icmp .ne 7, 3) := by decide +kernel
theorem dX1_alike_51 : decode cX1_alike 51 = .ok (.iconst 1, 1) := by decide +kernel
theorem dX1_alike_52 : decode cX1_alike 52 = .ok (.goto 4, 3) := by decide +kernel
theorem dX1_alike_55 : decode cX1_alike 55 = .ok (.iconst 0, 1) := by decide +kernel
theorem dX1_alike_56 : decode cX1_alike 56 = .ok (.istore 6, 2) := by decide +kernel
theorem dX1_alike_58 : decode cX1_alike 58 = .ok (.iload 5, 2) := by decide +kernel
theorem dX1_alike_60 : decode cX1_alike 60 = .ok (.iload 6, 2) := by decide +kernel
theorem dX1_alike_62 : decode cX1_alike 62 = .ok (.if_icmp .ne 6, 3) := by decide +kernel
theorem dX1_alike_65 : decode cX1_alike 65 = .ok (.iinc 2 1, 3) := by decide +kernel
theorem dX1_alike_68 : decode cX1_alike 68 = .ok (.iinc 3 1, 3) := by decide +kernel
theorem dX1_alike_71 : decode cX1_alike 71 = .ok (.goto (-67), 3) := by decide +kernel
theorem dX1_alike_74 : decode cX1_alike 74 = .ok (.iload_n 2, 1) := by decide +kernel
theorem dX1_alike_75 : decode cX1_alike 75 = .ok (.ireturn, 1) := by decide +kernel
theorem dX2_init_0 : decode cX2_init 0 = .ok (.aload_n 0, 1) := by decide +kernel
theorem dX2_init_1 : decode cX2_init 1 = .ok (.invokespecial 1, 3) := by decide +kernel
theorem dX2_init_4 : decode cX2_init 4 = .ok (.aload_n 0, 1) := by decide +kernel
theorem dX2_init_5 : decode cX2_init 5 = .ok (.bipush 24, 2) := by decide +kernel
theorem dX2_init_7 : decode cX2_init 7 = .ok (.anewarray 9, 3) := by decide +kernel
theorem dX2_init_10 : decode cX2_init 10 = .ok (.putfield 11, 3) := by decide +kernel
theorem dX2_init_13 : decode cX2_init 13 = .ok (.aload_n 0, 1) := by decide +kernel
theorem dX2_init_14 : decode cX2_init 14 = .ok (.bipush 8, 2) := by decide +kernel
theorem dX2_init_16 : decode cX2_init 16 = .ok (.anewarray 15, 3) := by decide +kernel
theorem dX2_init_19 : decode cX2_init 19 = .ok (.putfield 17, 3) := by decide +kernel
theorem dX2_init_22 : decode cX2_init 22 = .ok (.aload_n 0, 1) := by decide +kernel
theorem dX2_init_23 : decode cX2_init 23 = .ok (.bipush 8, 2) := by decide +kernel
theorem dX2_init_25 : decode cX2_init 25 = .ok (.anewarray 15, 3) := by decide +kernel
theorem dX2_init_28 : decode cX2_init 28 = .ok (.putfield 21, 3) := by decide +kernel
theorem dX2_init_31 : decode cX2_init 31 = .ok (.aload_n 0, 1) := by decide +kernel
theorem dX2_init_32 : decode cX2_init 32 = .ok (.sipush 401, 3) := by decide +kernel
theorem dX2_init_35 : decode cX2_init 35 = .ok (.newarray .int, 2) := by decide +kernel
theorem dX2_init_37 : decode cX2_init 37 = .ok (.putfield 24, 3) := by decide +kernel
theorem dX2_init_40 : decode cX2_init 40 = .ok (.aload_n 0, 1) := by decide +kernel
theorem dX2_init_41 : decode cX2_init 41 = .ok (.iconst 0, 1) := by decide +kernel
theorem dX2_init_42 : decode cX2_init 42 = .ok (.putfield 28, 3) := by decide +kernel
theorem dX2_init_45 : decode cX2_init 45 = .ok (.aload_n 0, 1) := by decide +kernel
theorem dX2_init_46 : decode cX2_init 46 = .ok (.iconst 0, 1) := by decide +kernel
theorem dX2_init_47 : decode cX2_init 47 = .ok (.putfield 32, 3) := by decide +kernel
theorem dX2_init_50 : decode cX2_init 50 = .ok (.aload_n 0, 1) := by decide +kernel
theorem dX2_init_51 : decode cX2_init 51 = .ok (.iconst 0, 1) := by decide +kernel
theorem dX2_init_52 : decode cX2_init 52 = .ok (.putfield 35, 3) := by decide +kernel
theorem dX2_init_55 : decode cX2_init 55 = .ok (.aload_n 0, 1) := by decide +kernel
theorem dX2_init_56 : decode cX2_init 56 = .ok (.iconst 0, 1) := by decide +kernel
theorem dX2_init_57 : decode cX2_init 57 = .ok (.putfield 38, 3) := by decide +kernel
theorem dX2_init_60 : decode cX2_init 60 = .ok (.aload_n 0, 1) := by decide +kernel
theorem dX2_init_61 : decode cX2_init 61 = .ok (.iconst 2, 1) := by decide +kernel
theorem dX2_init_62 : decode cX2_init 62 = .ok (.putfield 41, 3) := by decide +kernel
theorem dX2_init_65 : decode cX2_init 65 = .ok (.aload_n 0, 1) := by decide +kernel
theorem dX2_init_66 : decode cX2_init 66 = .ok (.iconst 0, 1) := by decide +kernel
theorem dX2_init_67 : decode cX2_init 67 = .ok (.putfield 44, 3) := by decide +kernel
theorem dX2_init_70 : decode cX2_init 70 = .ok (.aload_n 0, 1) := by decide +kernel
theorem dX2_init_71 : decode cX2_init 71 = .ok (.iconst 0, 1) := by decide +kernel
theorem dX2_init_72 : decode cX2_init 72 = .ok (.putfield 47, 3) := by decide +kernel
theorem dX2_init_75 : decode cX2_init 75 = .ok (.aload_n 0, 1) := by decide +kernel
theorem dX2_init_76 : decode cX2_init 76 = .ok (.iconst 0, 1) := by decide +kernel
theorem dX2_init_77 : decode cX2_init 77 = .ok (.putfield 50, 3) := by decide +kernel
theorem dX2_init_80 : decode cX2_init 80 = .ok (.return_, 1) := by decide +kernel
set_option maxRecDepth 20000 in
theorem ggX2_make_X2_within : GoodIn wsX2_make wsX2_within := goodIn_r _ [13] (by decide +kernel) (by decide +kernel)
set_option maxRecDepth 20000 in
theorem gX2_make_X2_within : GoodIn wsX2_make (va_wsS RX2 53 yX2_within wsX2_within) := goodIn_app (goodIn_of _ (by decide +kernel)) ggX2_make_X2_within
set_option maxRecDepth 20000 in
theorem ggX2_make_X0_init : GoodIn wsX2_make wsX0_init := goodIn_r _ [16, 17, 18, 19, 20, 21, 22, 23, 24, 25, 26, 39, 40, 41, 42, 43, 44, 45] (by decide +kernel) (by decide +kernel)
set_option maxRecDepth 20000 in
theorem gX2_make_X0_init : GoodIn wsX2_make (wsX0_init) := ggX2_make_X0_init
theorem dX2_make_0 : decode cX2_make 0 = .ok (.iload_n 1, 1) := by decide +kernel
theorem dX2_make_1 : decode cX2_make 1 = .ok (.iconst 4, 1) := by decide +kernel
theorem dX2_make_2 : decode cX2_make 2 = .ok (.bipush 12, 2) := by decide +kernel
theorem dX2_make_4 : decode cX2_make 4 = .ok (.invokestatic 53, 3) := by decide +kernel
theorem dX2_make_7 : decode cX2_make 7 = .ok (.ifCond .eq 21, 3) := by decide +kernel
theorem dX2_make_10 : decode cX2_make 10 = .ok (.iload_n 2, 1) := by decide +kernel
theorem dX2_make_11 : decode cX2_make 11 = .ok (.iconst 0, 1) := by decide +kernel
theorem dX2_make_12 : decode cX2_make 12 = .ok (.iconst 3, 1) := by decide +kernel
theorem dX2_make_13 : decode cX2_make 13 = .ok (.invokestatic 53, 3) := by decide +kernel
theorem dX2_make_16 : decode cX2_make 16 = .ok (.ifCond .eq 12, 3) := by decide +kernel
theorem dX2_make_19 : decode cX2_make 19 = .ok (.iload_n 3, 1) := by decide +kernel
theorem dX2_make_20 : decode cX2_make 20 = .ok (.iconst 1, 1) := by decide +kernel
theorem dX2_make_21 : decode cX2_make 21 = .ok (.iconst 4, 1) := by decide +kernel
theorem dX2_make_22 : decode cX2_make 22 = .ok (.invokestatic 53, 3) := by decide +kernel
theorem dX2_make_25 : decode cX2_make 25 = .ok (.ifCond .ne 13, 3) := by decide +kernel
theorem dX2_make_28 : decode cX2_make 28 = .ok (.new 57, 3) := by decide +kernel
theorem dX2_make_31 : decode cX2_make 31 = .ok (.dup, 1) := by decide +kernel
theorem dX2_make_32 : decode cX2_make 32 = .ok (.ldc 59, 2) := by decide +kernel
theorem dX2_make_34 : decode cX2_make 34 = .ok (.invokespecial 61, 3) := by decide +kernel
theorem dX2_make_37 : decode cX2_make 37 = .ok (.athrow, 1) := by decide +kernel
theorem dX2_make_38 : decode cX2_make 38 = .ok (.aload_n 0, 1) := by decide +kernel
theorem dX2_make_39 : decode cX2_make 39 = .ok (.getfield 28, 3) := by decide +kernel
theorem dX2_make_42 : decode cX2_make 42 = .ok (.aload_n 0, 1) := by decide +kernel
theorem dX2_make_43 : decode cX2_make 43 = .ok (.getfield 11, 3) := by decide +kernel
theorem dX2_make_46 : decode cX2_make 46 = .ok (.arraylength, 1) := by decide +kernel
theorem dX2_make_47 : decode cX2_make 47 = .ok (.if_icmp .lt 13, 3) := by decide +kernel
theorem dX2_make_50 : decode cX2_make 50 = .ok (.new 64, 3) := by decide +kernel
theorem dX2_make_53 : decode cX2_make 53 = .ok (.dup, 1) := by decide +kernel
theorem dX2_make_54 : decode cX2_make 54 = .ok (.ldc 66, 2) := by decide +kernel
theorem dX2_make_56 : decode cX2_make 56 = .ok (.invokespecial 68, 3) := by decide +kernel
theorem dX2_make_59 : decode cX2_make 59 = .ok (.athrow, 1) := by decide +kernel
theorem dX2_make_60 : decode cX2_make 60 = .ok (.aload_n 0, 1) := by decide +kernel
theorem dX2_make_61 : decode cX2_make 61 = .ok (.getfield 11, 3) := by decide +kernel
theorem dX2_make_64 : decode cX2_make 64 = .ok (.aload_n 0, 1) := by decide +kernel
theorem dX2_make_65 : decode cX2_make 65 = .ok (.getfield 28, 3) := by decide +kernel
theorem dX2_make_68 : decode cX2_make 68 = .ok (.new 9, 3) := by decide +kernel
theorem dX2_make_71 : decode cX2_make 71 = .ok (.dup, 1) := by decide +kernel
theorem dX2_make_72 : decode cX2_make 72 = .ok (.iload_n 1, 1) := by decide +kernel
theorem dX2_make_73 : decode cX2_make 73 = .ok (.iload_n 2, 1) := by decide +kernel
theorem dX2_make_74 : decode cX2_make 74 = .ok (.iload_n 3, 1) := by decide +kernel
theorem dX2_make_75 : decode cX2_make 75 = .ok (.invokespecial 69, 3) := by decide +kernel
theorem dX2_make_78 : decode cX2_make 78 = .ok (.aastore, 1) := by decide +kernel
theorem dX2_make_79 : decode cX2_make 79 = .ok (.aload_n 0, 1) := by decide +kernel
theorem dX2_make_80 : decode cX2_make 80 = .ok (.dup, 1) := by decide +kernel
theorem dX2_make_81 : decode cX2_make 81 = .ok (.getfield 28, 3) := by decide +kernel
theorem dX2_make_84 : decode cX2_make 84 = .ok (.iconst 1, 1) := by decide +kernel
theorem dX2_make_85 : decode cX2_make 85 = .ok (.iadd, 1) := by decide +kernel
theorem dX2_make_86 : decode cX2_make 86 = .ok (.putfield 28, 3) := by decide +kernel
theorem dX2_make_89 : decode cX2_make 89 = .ok (.aload_n 0, 1) := by decide +kernel
theorem dX2_make_90 : decode cX2_make 90 = .ok (.getfield 28, 3) := by decide +kernel
theorem dX2_make_93 : decode cX2_make 93 = .ok (.iconst 1, 1) := by decide +kernel
theorem dX2_make_94 : decode cX2_make 94 = .ok (.isub, 1) := by decide +kernel
theorem dX2_make_95 : decode cX2_make 95 = .ok (.ireturn, 1) := by decide +kernel
set_option maxRecDepth 20000 in
theorem ggX2_hang_X2_lanternNumbered : GoodIn wsX2_hang wsX2_lanternNumbered := goodIn_ca (goodIn_r _ [14, 1, 2, 15, 16, 17, 13, 18, 63, 64, 65, 66, 67, 68, 69, 70, 71, 72, 73, 74] (by decide +kernel) (by decide +kernel)) (goodIn_sub (fun _ h => List.mem_cons_of_mem _ (List.mem_append_left _ (List.mem_append_left _ (List.mem_append_right _ h)))) (by decide +kernel))
set_option maxRecDepth 20000 in
theorem gX2_hang_X2_lanternNumbered : GoodIn wsX2_hang (wsV RX2 72 RX2 yX2_lanternNumbered wsX2_lanternNumbered) := goodIn_app (goodIn_of _ (by decide +kernel)) ggX2_hang_X2_lanternNumbered
set_option maxRecDepth 20000 in
theorem ggX2_hang_X2_raftNumbered : GoodIn wsX2_hang wsX2_raftNumbered := goodIn_ca (goodIn_r _ [22, 1, 2, 23, 16, 17, 13, 18, 63, 64, 65, 66, 67, 68, 69, 70, 71, 72, 73, 74] (by decide +kernel) (by decide +kernel)) (goodIn_sub (fun _ h => List.mem_cons_of_mem _ (List.mem_append_left _ (List.mem_append_left _ (List.mem_append_right _ h)))) (by decide +kernel))
set_option maxRecDepth 20000 in
theorem gX2_hang_X2_raftNumbered : GoodIn wsX2_hang (wsV RX2 76 RX2 yX2_raftNumbered wsX2_raftNumbered) := goodIn_app (goodIn_of _ (by decide +kernel)) ggX2_hang_X2_raftNumbered
set_option maxRecDepth 20000 in
theorem ggX2_hang_X2_within : GoodIn wsX2_hang wsX2_within := goodIn_r _ [18] (by decide +kernel) (by decide +kernel)
set_option maxRecDepth 20000 in
theorem gX2_hang_X2_within : GoodIn wsX2_hang (va_wsS RX2 53 yX2_within wsX2_within) := goodIn_app (goodIn_of _ (by decide +kernel)) ggX2_hang_X2_within
set_option maxRecDepth 20000 in
theorem ggX2_hang_X1_lanternIn : GoodIn wsX2_hang wsX1_lanternIn := goodIn_r _ [28, 29, 17, 13, 18, 56, 57, 58, 59, 60, 61, 62] (by decide +kernel) (by decide +kernel)
set_option maxRecDepth 20000 in
theorem gX2_hang_X1_lanternIn : GoodIn wsX2_hang (wsV RX2 85 RX1 yX1_lanternIn wsX1_lanternIn) := goodIn_app (goodIn_of _ (by decide +kernel)) ggX2_hang_X1_lanternIn
set_option maxRecDepth 20000 in
theorem ggX2_hang_X1_weight : GoodIn wsX2_hang wsX1_weight := goodIn_r _ [33, 29, 34, 35, 36, 37, 38, 39, 40, 41, 56, 57, 58, 59, 60, 61, 62, 49, 50, 51, 52, 53, 54, 55] (by decide +kernel) (by decide +kernel)
set_option maxRecDepth 20000 in
theorem gX2_hang_X1_weight : GoodIn wsX2_hang (wsV RX2 99 RX1 yX1_weight wsX1_weight) := goodIn_app (goodIn_of _ (by decide +kernel)) ggX2_hang_X1_weight
set_option maxRecDepth 20000 in
theorem ggX2_hang_X0_weight : GoodIn wsX2_hang wsX0_weight := goodIn_r _ [38, 39, 40, 41, 49, 50, 51, 52, 53, 54, 55] (by decide +kernel) (by decide +kernel)
set_option maxRecDepth 20000 in
theorem gX2_hang_X0_weight : GoodIn wsX2_hang (wsV RX2 103 RX0 yX0_weight wsX0_weight) := goodIn_app (goodIn_of _ (by decide +kernel)) ggX2_hang_X0_weight
set_option maxRecDepth 20000 in
theorem ggX2_hang_X1_put : GoodIn wsX2_hang wsX1_put := goodIn_r _ [46, 29, 47, 48, 17, 13, 18, 56, 57, 58, 59, 60, 61, 62, 49, 50, 51, 52, 53, 54, 55] (by decide +kernel) (by decide +kernel)
set_option maxRecDepth 20000 in
theorem gX2_hang_X1_put : GoodIn wsX2_hang (wsV RX2 109 RX1 yX1_put wsX1_put) := goodIn_app (goodIn_of _ (by decide +kernel)) ggX2_hang_X1_put
theorem dX2_hang_0 : decode cX2_hang 0 = .ok (.aload_n 0, 1) := by decide +kernel
theorem dX2_hang_1 : decode cX2_hang 1 = .ok (.iload_n 1, 1) := by decide +kernel
theorem dX2_hang_2 : decode cX2_hang 2 = .ok (.invokevirtual 72, 3) := by decide +kernel
theorem dX2_hang_5 : decode cX2_hang 5 = .ok (.astore 4, 2) := by decide +kernel
theorem dX2_hang_7 : decode cX2_hang 7 = .ok (.aload_n 0, 1) := by decide +kernel
theorem dX2_hang_8 : decode cX2_hang 8 = .ok (.iload_n 2, 1) := by decide +kernel
theorem dX2_hang_9 : decode cX2_hang 9 = .ok (.invokevirtual 76, 3) := by decide +kernel
theorem dX2_hang_12 : decode cX2_hang 12 = .ok (.astore 5, 2) := by decide +kernel
theorem dX2_hang_14 : decode cX2_hang 14 = .ok (.iload_n 3, 1) := by decide +kernel
theorem dX2_hang_15 : decode cX2_hang 15 = .ok (.iconst 0, 1) := by decide +kernel
theorem dX2_hang_16 : decode cX2_hang 16 = .ok (.bipush 9, 2) := by decide +kernel
theorem dX2_hang_18 : decode cX2_hang 18 = .ok (.invokestatic 53, 3) := by decide +kernel
theorem dX2_hang_21 : decode cX2_hang 21 = .ok (.ifCond .ne 13, 3) := by decide +kernel
theorem dX2_hang_24 : decode cX2_hang 24 = .ok (.new 80, 3) := by decide +kernel
theorem dX2_hang_27 : decode cX2_hang 27 = .ok (.dup, 1) := by decide +kernel
theorem dX2_hang_28 : decode cX2_hang 28 = .ok (.ldc 82, 2) := by decide +kernel
theorem dX2_hang_30 : decode cX2_hang 30 = .ok (.invokespecial 84, 3) := by decide +kernel
theorem dX2_hang_33 : decode cX2_hang 33 = .ok (.athrow, 1) := by decide +kernel
theorem dX2_hang_34 : decode cX2_hang 34 = .ok (.aload 5, 2) := by decide +kernel
theorem dX2_hang_36 : decode cX2_hang 36 = .ok (.iload_n 3, 1) := by decide +kernel
theorem dX2_hang_37 : decode cX2_hang 37 = .ok (.invokevirtual 85, 3) := by decide +kernel
theorem dX2_hang_40 : decode cX2_hang 40 = .ok (.ifnull 13, 3) := by decide +kernel
theorem dX2_hang_43 : decode cX2_hang 43 = .ok (.new 57, 3) := by decide +kernel
theorem dX2_hang_46 : decode cX2_hang 46 = .ok (.dup, 1) := by decide +kernel
theorem dX2_hang_47 : decode cX2_hang 47 = .ok (.ldc 88, 2) := by decide +kernel
theorem dX2_hang_49 : decode cX2_hang 49 = .ok (.invokespecial 61, 3) := by decide +kernel
theorem dX2_hang_52 : decode cX2_hang 52 = .ok (.athrow, 1) := by decide +kernel
theorem dX2_hang_53 : decode cX2_hang 53 = .ok (.aload 4, 2) := by decide +kernel
theorem dX2_hang_55 : decode cX2_hang 55 = .ok (.getfield 90, 3) := by decide +kernel
theorem dX2_hang_58 : decode cX2_hang 58 = .ok (.ifnonnull 12, 3) := by decide +kernel
theorem dX2_hang_61 : decode cX2_hang 61 = .ok (.aload 5, 2) := by decide +kernel
theorem dX2_hang_63 : decode cX2_hang 63 = .ok (.getfield 94, 3) := by decide +kernel
theorem dX2_hang_66 : decode cX2_hang 66 = .ok (.iconst 2, 1) := by decide +kernel
theorem dX2_hang_67 : decode cX2_hang 67 = .ok (.if_icmp .ne 13, 3) := by decide +kernel
theorem dX2_hang_70 : decode cX2_hang 70 = .ok (.new 64, 3) := by decide +kernel
theorem dX2_hang_73 : decode cX2_hang 73 = .ok (.dup, 1) := by decide +kernel
theorem dX2_hang_74 : decode cX2_hang 74 = .ok (.ldc 97, 2) := by decide +kernel
theorem dX2_hang_76 : decode cX2_hang 76 = .ok (.invokespecial 68, 3) := by decide +kernel
theorem dX2_hang_79 : decode cX2_hang 79 = .ok (.athrow, 1) := by decide +kernel
theorem dX2_hang_80 : decode cX2_hang 80 = .ok (.aload 5, 2) := by decide +kernel
theorem dX2_hang_82 : decode cX2_hang 82 = .ok (.invokevirtual 99, 3) := by decide +kernel
theorem dX2_hang_85 : decode cX2_hang 85 = .ok (.aload 4, 2) := by decide +kernel
theorem dX2_hang_87 : decode cX2_hang 87 = .ok (.invokevirtual 103, 3) := by decide +kernel
theorem dX2_hang_90 : decode cX2_hang 90 = .ok (.iadd, 1) := by decide +kernel
theorem dX2_hang_91 : decode cX2_hang 91 = .ok (.aload 5, 2) := by decide +kernel
theorem dX2_hang_93 : decode cX2_hang 93 = .ok (.getfield 104, 3) := by decide +kernel
theorem dX2_hang_96 : decode cX2_hang 96 = .ok (.if_icmp .le 13, 3) := by decide +kernel
theorem dX2_hang_99 : decode cX2_hang 99 = .ok (.new 64, 3) := by decide +kernel
theorem dX2_hang_102 : decode cX2_hang 102 = .ok (.dup, 1) := by decide +kernel
theorem dX2_hang_103 : decode cX2_hang 103 = .ok (.ldc 107, 2) := by decide +kernel
theorem dX2_hang_105 : decode cX2_hang 105 = .ok (.invokespecial 68, 3) := by decide +kernel
theorem dX2_hang_108 : decode cX2_hang 108 = .ok (.athrow, 1) := by decide +kernel
theorem dX2_hang_109 : decode cX2_hang 109 = .ok (.aload 5, 2) := by decide +kernel
theorem dX2_hang_111 : decode cX2_hang 111 = .ok (.aload 4, 2) := by decide +kernel
theorem dX2_hang_113 : decode cX2_hang 113 = .ok (.iload_n 3, 1) := by decide +kernel
theorem dX2_hang_114 : decode cX2_hang 114 = .ok (.invokevirtual 109, 3) := by decide +kernel
theorem dX2_hang_117 : decode cX2_hang 117 = .ok (.aload 5, 2) := by decide +kernel
theorem dX2_hang_119 : decode cX2_hang 119 = .ok (.invokevirtual 99, 3) := by decide +kernel
theorem dX2_hang_122 : decode cX2_hang 122 = .ok (.ireturn, 1) := by decide +kernel
set_option maxRecDepth 20000 in
theorem ggX2_takeDown_X2_lanternNumbered : GoodIn wsX2_takeDown wsX2_lanternNumbered := goodIn_ca (goodIn_r _ [9, 10, 11, 12, 13, 14, 8, 15, 44, 45, 46, 47, 48, 49, 50, 51, 52, 53, 54, 55] (by decide +kernel) (by decide +kernel)) (goodIn_sub (fun _ h => List.mem_cons_of_mem _ (List.mem_append_right _ h)) (by decide +kernel))
set_option maxRecDepth 20000 in
theorem gX2_takeDown_X2_lanternNumbered : GoodIn wsX2_takeDown (wsV RX2 72 RX2 yX2_lanternNumbered wsX2_lanternNumbered) := goodIn_app (goodIn_of _ (by decide +kernel)) ggX2_takeDown_X2_lanternNumbered
set_option maxRecDepth 20000 in
theorem ggX2_takeDown_X1_free : GoodIn wsX2_takeDown wsX1_free := goodIn_r _ [20, 21, 22, 23, 37, 38, 39, 40, 41, 42, 43, 30, 31, 32, 33, 34, 35, 36] (by decide +kernel) (by decide +kernel)
set_option maxRecDepth 20000 in
theorem gX2_takeDown_X1_free : GoodIn wsX2_takeDown (wsV RX2 115 RX1 yX1_free wsX1_free) := goodIn_app (goodIn_of _ (by decide +kernel)) ggX2_takeDown_X1_free
set_option maxRecDepth 20000 in
theorem ggX2_takeDown_X0_darken : GoodIn wsX2_takeDown wsX0_darken := goodIn_r _ [28, 29, 30, 31, 32, 33, 34, 35, 36] (by decide +kernel) (by decide +kernel)
set_option maxRecDepth 20000 in
theorem gX2_takeDown_X0_darken : GoodIn wsX2_takeDown (wsV RX2 119 RX0 yX0_darken wsX0_darken) := goodIn_app (goodIn_of _ (by decide +kernel)) ggX2_takeDown_X0_darken
theorem dX2_takeDown_0 : decode cX2_takeDown 0 = .ok (.aload_n 0, 1) := by decide +kernel
theorem dX2_takeDown_1 : decode cX2_takeDown 1 = .ok (.iload_n 1, 1) := by decide +kernel
theorem dX2_takeDown_2 : decode cX2_takeDown 2 = .ok (.invokevirtual 72, 3) := by decide +kernel
theorem dX2_takeDown_5 : decode cX2_takeDown 5 = .ok (.astore_n 2, 1) := by decide +kernel
theorem dX2_takeDown_6 : decode cX2_takeDown 6 = .ok (.aload_n 2, 1) := by decide +kernel
theorem dX2_takeDown_7 : decode cX2_takeDown 7 = .ok (.getfield 90, 3) := by decide +kernel
theorem dX2_takeDown_10 : decode cX2_takeDown 10 = .ok (.astore_n 3, 1) := by decide +kernel
theorem dX2_takeDown_11 : decode cX2_takeDown 11 = .ok (.aload_n 3, 1) := by decide +kernel
theorem dX2_takeDown_12 : decode cX2_takeDown 12 = .ok (.ifnonnull 13, 3) := by decide +kernel
theorem dX2_takeDown_15 : decode cX2_takeDown 15 = .ok (.new 64, 3) := by decide +kernel
theorem dX2_takeDown_18 : decode cX2_takeDown 18 = .ok (.dup, 1) := by decide +kernel
theorem dX2_takeDown_19 : decode cX2_takeDown 19 = .ok (.ldc 113, 2) := by decide +kernel
theorem dX2_takeDown_21 : decode cX2_takeDown 21 = .ok (.invokespecial 68, 3) := by decide +kernel
theorem dX2_takeDown_24 : decode cX2_takeDown 24 = .ok (.athrow, 1) := by decide +kernel
theorem dX2_takeDown_25 : decode cX2_takeDown 25 = .ok (.aload_n 3, 1) := by decide +kernel
theorem dX2_takeDown_26 : decode cX2_takeDown 26 = .ok (.aload_n 2, 1) := by decide +kernel
theorem dX2_takeDown_27 : decode cX2_takeDown 27 = .ok (.invokevirtual 115, 3) := by decide +kernel
theorem dX2_takeDown_30 : decode cX2_takeDown 30 = .ok (.aload_n 2, 1) := by decide +kernel
theorem dX2_takeDown_31 : decode cX2_takeDown 31 = .ok (.invokevirtual 119, 3) := by decide +kernel
theorem dX2_takeDown_34 : decode cX2_takeDown 34 = .ok (.aload_n 3, 1) := by decide +kernel
theorem dX2_takeDown_35 : decode cX2_takeDown 35 = .ok (.getfield 122, 3) := by decide +kernel
theorem dX2_takeDown_38 : decode cX2_takeDown 38 = .ok (.ireturn, 1) := by decide +kernel
set_option maxRecDepth 20000 in
theorem ggX2_light_X2_lanternNumbered : GoodIn wsX2_light wsX2_lanternNumbered := goodIn_ca (goodIn_r _ [9, 10, 11, 12, 13, 14, 8, 15, 47, 48, 49, 50, 51, 52, 53, 54, 55, 56, 57, 58] (by decide +kernel) (by decide +kernel)) (goodIn_sub (fun _ h => List.mem_cons_of_mem _ (List.mem_append_right _ h)) (by decide +kernel))
set_option maxRecDepth 20000 in
theorem gX2_light_X2_lanternNumbered : GoodIn wsX2_light (wsV RX2 72 RX2 yX2_lanternNumbered wsX2_lanternNumbered) := goodIn_app (goodIn_of _ (by decide +kernel)) ggX2_light_X2_lanternNumbered
set_option maxRecDepth 20000 in
theorem ggX2_light_X0_place : GoodIn wsX2_light wsX0_place := goodIn_r _ [20, 21, 22, 23, 24, 40, 41, 42, 43, 44, 45, 46, 59, 60, 61, 62, 63, 64, 65] (by decide +kernel) (by decide +kernel)
set_option maxRecDepth 20000 in
theorem gX2_light_X0_place : GoodIn wsX2_light (wsV RX2 128 RX0 yX0_place wsX0_place) := goodIn_app (goodIn_of _ (by decide +kernel)) ggX2_light_X0_place
set_option maxRecDepth 20000 in
theorem ggX2_light_X2_isCrowded : GoodIn wsX2_light wsX2_isCrowded := goodIn_r _ [28, 12, 3, 29, 30, 31, 8, 32, 33, 34, 35, 36, 37, 19, 38, 39, 17, 18, 20, 21, 22, 23, 24, 47, 48, 49, 50, 51, 52, 53, 54, 55, 56, 57, 58, 40, 41, 42, 43, 44, 45, 46, 59, 60, 61, 62, 63, 64, 65] (by decide +kernel) (by decide +kernel)
set_option maxRecDepth 20000 in
theorem gX2_light_X2_isCrowded : GoodIn wsX2_light (wsV RX2 131 RX2 yX2_isCrowded wsX2_isCrowded) := goodIn_app (goodIn_of _ (by decide +kernel)) ggX2_light_X2_isCrowded
theorem dX2_light_0 : decode cX2_light 0 = .ok (.aload_n 0, 1) := by decide +kernel
theorem dX2_light_1 : decode cX2_light 1 = .ok (.iload_n 1, 1) := by decide +kernel
theorem dX2_light_2 : decode cX2_light 2 = .ok (.invokevirtual 72, 3) := by decide +kernel
theorem dX2_light_5 : decode cX2_light 5 = .ok (.astore_n 2, 1) := by decide +kernel
theorem dX2_light_6 : decode cX2_light 6 = .ok (.aload_n 2, 1) := by decide +kernel
theorem dX2_light_7 : decode cX2_light 7 = .ok (.getfield 125, 3) := by decide +kernel
theorem dX2_light_10 : decode cX2_light 10 = .ok (.ifCond .ne 21, 3) := by decide +kernel
theorem dX2_light_13 : decode cX2_light 13 = .ok (.aload_n 2, 1) := by decide +kernel
theorem dX2_light_14 : decode cX2_light 14 = .ok (.invokevirtual 128, 3) := by decide +kernel
theorem dX2_light_17 : decode cX2_light 17 = .ok (.iconst (-1), 1) := by decide +kernel
theorem dX2_light_18 : decode cX2_light 18 = .ok (.if_icmp .eq 13, 3) := by decide +kernel
theorem dX2_light_21 : decode cX2_light 21 = .ok (.aload_n 0, 1) := by decide +kernel
theorem dX2_light_22 : decode cX2_light 22 = .ok (.aload_n 2, 1) := by decide +kernel
theorem dX2_light_23 : decode cX2_light 23 = .ok (.bipush 24, 2) := by decide +kernel
theorem dX2_light_25 : decode cX2_light 25 = .ok (.invokevirtual 131, 3) := by decide +kernel
theorem dX2_light_28 : decode cX2_light 28 = .ok (.ifCond .eq 13, 3) := by decide +kernel
theorem dX2_light_31 : decode cX2_light 31 = .ok (.new 64, 3) := by decide +kernel
theorem dX2_light_34 : decode cX2_light 34 = .ok (.dup, 1) := by decide +kernel
theorem dX2_light_35 : decode cX2_light 35 = .ok (.ldc 135, 2) := by decide +kernel
theorem dX2_light_37 : decode cX2_light 37 = .ok (.invokespecial 68, 3) := by decide +kernel
theorem dX2_light_40 : decode cX2_light 40 = .ok (.athrow, 1) := by decide +kernel
theorem dX2_light_41 : decode cX2_light 41 = .ok (.aload_n 2, 1) := by decide +kernel
theorem dX2_light_42 : decode cX2_light 42 = .ok (.iconst 1, 1) := by decide +kernel
theorem dX2_light_43 : decode cX2_light 43 = .ok (.putfield 125, 3) := by decide +kernel
theorem dX2_light_46 : decode cX2_light 46 = .ok (.aload_n 2, 1) := by decide +kernel
theorem dX2_light_47 : decode cX2_light 47 = .ok (.getfield 137, 3) := by decide +kernel
theorem dX2_light_50 : decode cX2_light 50 = .ok (.ireturn, 1) := by decide +kernel
set_option maxRecDepth 20000 in
theorem ggX2_putOut_X2_lanternNumbered : GoodIn wsX2_putOut wsX2_lanternNumbered := goodIn_ca (goodIn_r _ [9, 10, 11, 12, 13, 14, 8, 15, 29, 30, 31, 32, 33, 34, 35, 36, 37, 38, 39, 40] (by decide +kernel) (by decide +kernel)) (goodIn_sub (fun _ h => List.mem_cons_of_mem _ (List.mem_append_right _ h)) (by decide +kernel))
set_option maxRecDepth 20000 in
theorem gX2_putOut_X2_lanternNumbered : GoodIn wsX2_putOut (wsV RX2 72 RX2 yX2_lanternNumbered wsX2_lanternNumbered) := goodIn_app (goodIn_of _ (by decide +kernel)) ggX2_putOut_X2_lanternNumbered
set_option maxRecDepth 20000 in
theorem ggX2_putOut_X0_darken : GoodIn wsX2_putOut wsX0_darken := goodIn_r _ [20, 21, 22, 23, 24, 25, 26, 27, 28] (by decide +kernel) (by decide +kernel)
set_option maxRecDepth 20000 in
theorem gX2_putOut_X0_darken : GoodIn wsX2_putOut (wsV RX2 119 RX0 yX0_darken wsX0_darken) := goodIn_app (goodIn_of _ (by decide +kernel)) ggX2_putOut_X0_darken
theorem dX2_putOut_0 : decode cX2_putOut 0 = .ok (.aload_n 0, 1) := by decide +kernel
theorem dX2_putOut_1 : decode cX2_putOut 1 = .ok (.iload_n 1, 1) := by decide +kernel
theorem dX2_putOut_2 : decode cX2_putOut 2 = .ok (.invokevirtual 72, 3) := by decide +kernel
theorem dX2_putOut_5 : decode cX2_putOut 5 = .ok (.astore_n 2, 1) := by decide +kernel
theorem dX2_putOut_6 : decode cX2_putOut 6 = .ok (.aload_n 2, 1) := by decide +kernel
theorem dX2_putOut_7 : decode cX2_putOut 7 = .ok (.getfield 125, 3) := by decide +kernel
theorem dX2_putOut_10 : decode cX2_putOut 10 = .ok (.iconst 1, 1) := by decide +kernel
theorem dX2_putOut_11 : decode cX2_putOut 11 = .ok (.if_icmp .eq 13, 3) := by decide +kernel
theorem dX2_putOut_14 : decode cX2_putOut 14 = .ok (.new 64, 3) := by decide +kernel
theorem dX2_putOut_17 : decode cX2_putOut 17 = .ok (.dup, 1) := by decide +kernel
theorem dX2_putOut_18 : decode cX2_putOut 18 = .ok (.ldc 140, 2) := by decide +kernel
theorem dX2_putOut_20 : decode cX2_putOut 20 = .ok (.invokespecial 68, 3) := by decide +kernel
theorem dX2_putOut_23 : decode cX2_putOut 23 = .ok (.athrow, 1) := by decide +kernel
theorem dX2_putOut_24 : decode cX2_putOut 24 = .ok (.aload_n 2, 1) := by decide +kernel
theorem dX2_putOut_25 : decode cX2_putOut 25 = .ok (.invokevirtual 119, 3) := by decide +kernel
theorem dX2_putOut_28 : decode cX2_putOut 28 = .ok (.aload_n 2, 1) := by decide +kernel
theorem dX2_putOut_29 : decode cX2_putOut 29 = .ok (.getfield 137, 3) := by decide +kernel
theorem dX2_putOut_32 : decode cX2_putOut 32 = .ok (.ireturn, 1) := by decide +kernel
set_option maxRecDepth 20000 in
theorem ggX2_build_X2_within : GoodIn wsX2_build wsX2_within := goodIn_r _ [13] (by decide +kernel) (by decide +kernel)
set_option maxRecDepth 20000 in
theorem gX2_build_X2_within : GoodIn wsX2_build (va_wsS RX2 53 yX2_within wsX2_within) := goodIn_app (goodIn_of _ (by decide +kernel)) ggX2_build_X2_within
set_option maxRecDepth 20000 in
theorem ggX2_build_X1_init : GoodIn wsX2_build wsX1_init := goodIn_r _ [16, 17, 18, 19, 20, 21, 22, 23, 24, 25, 26, 27, 40, 41, 42, 43, 44, 45, 46] (by decide +kernel) (by decide +kernel)
set_option maxRecDepth 20000 in
theorem gX2_build_X1_init : GoodIn wsX2_build (wsX1_init) := ggX2_build_X1_init
theorem dX2_build_0 : decode cX2_build 0 = .ok (.iload_n 1, 1) := by decide +kernel
theorem dX2_build_1 : decode cX2_build 1 = .ok (.iconst 1, 1) := by decide +kernel
theorem dX2_build_2 : decode cX2_build 2 = .ok (.bipush 9, 2) := by decide +kernel
theorem dX2_build_4 : decode cX2_build 4 = .ok (.invokestatic 53, 3) := by decide +kernel
theorem dX2_build_7 : decode cX2_build 7 = .ok (.ifCond .eq 15, 3) := by decide +kernel
theorem dX2_build_10 : decode cX2_build 10 = .ok (.iload_n 2, 1) := by decide +kernel
theorem dX2_build_11 : decode cX2_build 11 = .ok (.bipush 100, 2) := by decide +kernel
theorem dX2_build_13 : decode cX2_build 13 = .ok (.sipush 9999, 3) := by decide +kernel
theorem dX2_build_16 : decode cX2_build 16 = .ok (.invokestatic 53, 3) := by decide +kernel
theorem dX2_build_19 : decode cX2_build 19 = .ok (.ifCond .ne 13, 3) := by decide +kernel
theorem dX2_build_22 : decode cX2_build 22 = .ok (.new 57, 3) := by decide +kernel
theorem dX2_build_25 : decode cX2_build 25 = .ok (.dup, 1) := by decide +kernel
theorem dX2_build_26 : decode cX2_build 26 = .ok (.ldc 142, 2) := by decide +kernel
theorem dX2_build_28 : decode cX2_build 28 = .ok (.invokespecial 61, 3) := by decide +kernel
theorem dX2_build_31 : decode cX2_build 31 = .ok (.athrow, 1) := by decide +kernel
theorem dX2_build_32 : decode cX2_build 32 = .ok (.aload_n 0, 1) := by decide +kernel
theorem dX2_build_33 : decode cX2_build 33 = .ok (.getfield 32, 3) := by decide +kernel
theorem dX2_build_36 : decode cX2_build 36 = .ok (.aload_n 0, 1) := by decide +kernel
theorem dX2_build_37 : decode cX2_build 37 = .ok (.getfield 17, 3) := by decide +kernel
theorem dX2_build_40 : decode cX2_build 40 = .ok (.arraylength, 1) := by decide +kernel
theorem dX2_build_41 : decode cX2_build 41 = .ok (.if_icmp .lt 13, 3) := by decide +kernel
theorem dX2_build_44 : decode cX2_build 44 = .ok (.new 64, 3) := by decide +kernel
theorem dX2_build_47 : decode cX2_build 47 = .ok (.dup, 1) := by decide +kernel
theorem dX2_build_48 : decode cX2_build 48 = .ok (.ldc 144, 2) := by decide +kernel
theorem dX2_build_50 : decode cX2_build 50 = .ok (.invokespecial 68, 3) := by decide +kernel
theorem dX2_build_53 : decode cX2_build 53 = .ok (.athrow, 1) := by decide +kernel
theorem dX2_build_54 : decode cX2_build 54 = .ok (.aload_n 0, 1) := by decide +kernel
theorem dX2_build_55 : decode cX2_build 55 = .ok (.getfield 17, 3) := by decide +kernel
theorem dX2_build_58 : decode cX2_build 58 = .ok (.aload_n 0, 1) := by decide +kernel
theorem dX2_build_59 : decode cX2_build 59 = .ok (.getfield 32, 3) := by decide +kernel
theorem dX2_build_62 : decode cX2_build 62 = .ok (.new 15, 3) := by decide +kernel
theorem dX2_build_65 : decode cX2_build 65 = .ok (.dup, 1) := by decide +kernel
theorem dX2_build_66 : decode cX2_build 66 = .ok (.aload_n 0, 1) := by decide +kernel
theorem dX2_build_67 : decode cX2_build 67 = .ok (.getfield 32, 3) := by decide +kernel
theorem dX2_build_70 : decode cX2_build 70 = .ok (.iload_n 1, 1) := by decide +kernel
theorem dX2_build_71 : decode cX2_build 71 = .ok (.iload_n 2, 1) := by decide +kernel
theorem dX2_build_72 : decode cX2_build 72 = .ok (.invokespecial 146, 3) := by decide +kernel
theorem dX2_build_75 : decode cX2_build 75 = .ok (.aastore, 1) := by decide +kernel
theorem dX2_build_76 : decode cX2_build 76 = .ok (.aload_n 0, 1) := by decide +kernel
theorem dX2_build_77 : decode cX2_build 77 = .ok (.dup, 1) := by decide +kernel
theorem dX2_build_78 : decode cX2_build 78 = .ok (.getfield 32, 3) := by decide +kernel
theorem dX2_build_81 : decode cX2_build 81 = .ok (.iconst 1, 1) := by decide +kernel
theorem dX2_build_82 : decode cX2_build 82 = .ok (.iadd, 1) := by decide +kernel
theorem dX2_build_83 : decode cX2_build 83 = .ok (.putfield 32, 3) := by decide +kernel
theorem dX2_build_86 : decode cX2_build 86 = .ok (.aload_n 0, 1) := by decide +kernel
theorem dX2_build_87 : decode cX2_build 87 = .ok (.getfield 32, 3) := by decide +kernel
theorem dX2_build_90 : decode cX2_build 90 = .ok (.iconst 1, 1) := by decide +kernel
theorem dX2_build_91 : decode cX2_build 91 = .ok (.isub, 1) := by decide +kernel
theorem dX2_build_92 : decode cX2_build 92 = .ok (.ireturn, 1) := by decide +kernel
set_option maxRecDepth 20000 in
theorem ggX2_launch_X2_raftNumbered : GoodIn wsX2_launch wsX2_raftNumbered := goodIn_ca (goodIn_r _ [12, 13, 14, 15, 16, 17, 11, 18, 41, 42, 43, 44, 45, 46, 47, 48, 49, 50, 51, 52] (by decide +kernel) (by decide +kernel)) (goodIn_sub (fun _ h => List.mem_cons_of_mem _ (List.mem_append_right _ h)) (by decide +kernel))
set_option maxRecDepth 20000 in
theorem gX2_launch_X2_raftNumbered : GoodIn wsX2_launch (wsV RX2 76 RX2 yX2_raftNumbered wsX2_raftNumbered) := goodIn_app (goodIn_of _ (by decide +kernel)) ggX2_launch_X2_raftNumbered
set_option maxRecDepth 20000 in
theorem ggX2_launch_X2_hasRoomToLaunch : GoodIn wsX2_launch wsX2_hasRoomToLaunch := goodIn_r _ [22, 5, 3, 23, 24, 25, 26, 27, 28, 29, 41, 42, 43, 44, 45, 46, 47, 48, 49, 50, 51, 52, 34, 35, 36, 37, 38, 39, 40] (by decide +kernel) (by decide +kernel)
set_option maxRecDepth 20000 in
theorem gX2_launch_X2_hasRoomToLaunch : GoodIn wsX2_launch (wsV RX2 147 RX2 yX2_hasRoomToLaunch wsX2_hasRoomToLaunch) := goodIn_app (goodIn_of _ (by decide +kernel)) ggX2_launch_X2_hasRoomToLaunch
set_option maxRecDepth 20000 in
theorem ggX2_launch_X2_raftsOnRiver : GoodIn wsX2_launch wsX2_raftsOnRiver := goodIn_r _ [33, 5, 3, 41, 42, 43, 44, 45, 46, 47, 48, 49, 50, 51, 52, 34, 35, 36, 37, 38, 39, 40] (by decide +kernel) (by decide +kernel)
set_option maxRecDepth 20000 in
theorem gX2_launch_X2_raftsOnRiver : GoodIn wsX2_launch (wsV RX2 159 RX2 yX2_raftsOnRiver wsX2_raftsOnRiver) := goodIn_app (goodIn_of _ (by decide +kernel)) ggX2_launch_X2_raftsOnRiver
theorem dX2_launch_0 : decode cX2_launch 0 = .ok (.aload_n 0, 1) := by decide +kernel
theorem dX2_launch_1 : decode cX2_launch 1 = .ok (.iload_n 1, 1) := by decide +kernel
theorem dX2_launch_2 : decode cX2_launch 2 = .ok (.invokevirtual 76, 3) := by decide +kernel
theorem dX2_launch_5 : decode cX2_launch 5 = .ok (.astore_n 2, 1) := by decide +kernel
theorem dX2_launch_6 : decode cX2_launch 6 = .ok (.aload_n 2, 1) := by decide +kernel
theorem dX2_launch_7 : decode cX2_launch 7 = .ok (.getfield 94, 3) := by decide +kernel
theorem dX2_launch_10 : decode cX2_launch 10 = .ok (.ifCond .ne 22, 3) := by decide +kernel
theorem dX2_launch_13 : decode cX2_launch 13 = .ok (.aload_n 0, 1) := by decide +kernel
theorem dX2_launch_14 : decode cX2_launch 14 = .ok (.invokevirtual 147, 3) := by decide +kernel
theorem dX2_launch_17 : decode cX2_launch 17 = .ok (.ifCond .eq 15, 3) := by decide +kernel
theorem dX2_launch_20 : decode cX2_launch 20 = .ok (.aload_n 0, 1) := by decide +kernel
theorem dX2_launch_21 : decode cX2_launch 21 = .ok (.getfield 35, 3) := by decide +kernel
theorem dX2_launch_24 : decode cX2_launch 24 = .ok (.aload_n 0, 1) := by decide +kernel
theorem dX2_launch_25 : decode cX2_launch 25 = .ok (.getfield 21, 3) := by decide +kernel
theorem dX2_launch_28 : decode cX2_launch 28 = .ok (.arraylength, 1) := by decide +kernel
theorem dX2_launch_29 : decode cX2_launch 29 = .ok (.if_icmp .lt 13, 3) := by decide +kernel
theorem dX2_launch_32 : decode cX2_launch 32 = .ok (.new 64, 3) := by decide +kernel
theorem dX2_launch_35 : decode cX2_launch 35 = .ok (.dup, 1) := by decide +kernel
theorem dX2_launch_36 : decode cX2_launch 36 = .ok (.ldc 151, 2) := by decide +kernel
theorem dX2_launch_38 : decode cX2_launch 38 = .ok (.invokespecial 68, 3) := by decide +kernel
theorem dX2_launch_41 : decode cX2_launch 41 = .ok (.athrow, 1) := by decide +kernel
theorem dX2_launch_42 : decode cX2_launch 42 = .ok (.aload_n 2, 1) := by decide +kernel
theorem dX2_launch_43 : decode cX2_launch 43 = .ok (.iconst 1, 1) := by decide +kernel
theorem dX2_launch_44 : decode cX2_launch 44 = .ok (.putfield 94, 3) := by decide +kernel
theorem dX2_launch_47 : decode cX2_launch 47 = .ok (.aload_n 2, 1) := by decide +kernel
theorem dX2_launch_48 : decode cX2_launch 48 = .ok (.bipush 9, 2) := by decide +kernel
theorem dX2_launch_50 : decode cX2_launch 50 = .ok (.putfield 153, 3) := by decide +kernel
theorem dX2_launch_53 : decode cX2_launch 53 = .ok (.aload_n 2, 1) := by decide +kernel
theorem dX2_launch_54 : decode cX2_launch 54 = .ok (.aload_n 0, 1) := by decide +kernel
theorem dX2_launch_55 : decode cX2_launch 55 = .ok (.getfield 35, 3) := by decide +kernel
theorem dX2_launch_58 : decode cX2_launch 58 = .ok (.putfield 156, 3) := by decide +kernel
theorem dX2_launch_61 : decode cX2_launch 61 = .ok (.aload_n 0, 1) := by decide +kernel
theorem dX2_launch_62 : decode cX2_launch 62 = .ok (.getfield 21, 3) := by decide +kernel
theorem dX2_launch_65 : decode cX2_launch 65 = .ok (.aload_n 0, 1) := by decide +kernel
theorem dX2_launch_66 : decode cX2_launch 66 = .ok (.getfield 35, 3) := by decide +kernel
theorem dX2_launch_69 : decode cX2_launch 69 = .ok (.aload_n 2, 1) := by decide +kernel
theorem dX2_launch_70 : decode cX2_launch 70 = .ok (.aastore, 1) := by decide +kernel
end
section
theorem dX2_launch_71 : decode cX2_launch 71 = .ok (.aload_n 0, 1) := by decide +kernel
theorem dX2_launch_72 : decode cX2_launch 72 = .ok (.dup, 1) := by decide +kernel
theorem dX2_launch_73 : decode cX2_launch 73 = .ok (.getfield 35, 3) := by decide +kernel
theorem dX2_launch_76 : decode cX2_launch 76 = .ok (.iconst 1, 1) := by decide +kernel
theorem dX2_launch_77 : decode cX2_launch 77 = .ok (.iadd, 1) := by decide +kernel
theorem dX2_launch_78 : decode cX2_launch 78 = .ok (.putfield 35, 3) := by decide +kernel
theorem dX2_launch_81 : decode cX2_launch 81 = .ok (.aload_n 0, 1) := by decide +kernel
theorem dX2_launch_82 : decode cX2_launch 82 = .ok (.invokevirtual 159, 3) := by decide +kernel
theorem dX2_launch_85 : decode cX2_launch 85 = .ok (.ireturn, 1) := by decide +kernel
set_option maxRecDepth 20000 in
theorem ggX2_setRules_X2_within : GoodIn wsX2_setRules wsX2_within := goodIn_r _ [8] (by decide +kernel) (by decide +kernel)
set_option maxRecDepth 20000 in
theorem gX2_setRules_X2_within : GoodIn wsX2_setRules (va_wsS RX2 53 yX2_within wsX2_within) := goodIn_app (goodIn_of _ (by decide +kernel)) ggX2_setRules_X2_within
theorem dX2_setRules_0 : decode cX2_setRules 0 = .ok (.iload_n 1, 1) := by decide +kernel
theorem dX2_setRules_1 : decode cX2_setRules 1 = .ok (.iconst 1, 1) := by decide +kernel
theorem dX2_setRules_2 : decode cX2_setRules 2 = .ok (.bipush 20, 2) := by decide +kernel
theorem dX2_setRules_4 : decode cX2_setRules 4 = .ok (.invokestatic 53, 3) := by decide +kernel
theorem dX2_setRules_7 : decode cX2_setRules 7 = .ok (.ifCond .eq 13, 3) := by decide +kernel
theorem dX2_setRules_10 : decode cX2_setRules 10 = .ok (.iload_n 2, 1) := by decide +kernel
theorem dX2_setRules_11 : decode cX2_setRules 11 = .ok (.iconst 0, 1) := by decide +kernel
theorem dX2_setRules_12 : decode cX2_setRules 12 = .ok (.bipush 9, 2) := by decide +kernel
theorem dX2_setRules_14 : decode cX2_setRules 14 = .ok (.invokestatic 53, 3) := by decide +kernel
theorem dX2_setRules_17 : decode cX2_setRules 17 = .ok (.ifCond .ne 13, 3) := by decide +kernel
theorem dX2_setRules_20 : decode cX2_setRules 20 = .ok (.new 57, 3) := by decide +kernel
theorem dX2_setRules_23 : decode cX2_setRules 23 = .ok (.dup, 1) := by decide +kernel
theorem dX2_setRules_24 : decode cX2_setRules 24 = .ok (.ldc 162, 2) := by decide +kernel
theorem dX2_setRules_26 : decode cX2_setRules 26 = .ok (.invokespecial 61, 3) := by decide +kernel
theorem dX2_setRules_29 : decode cX2_setRules 29 = .ok (.athrow, 1) := by decide +kernel
theorem dX2_setRules_30 : decode cX2_setRules 30 = .ok (.aload_n 0, 1) := by decide +kernel
theorem dX2_setRules_31 : decode cX2_setRules 31 = .ok (.getfield 41, 3) := by decide +kernel
theorem dX2_setRules_34 : decode cX2_setRules 34 = .ok (.istore_n 3, 1) := by decide +kernel
theorem dX2_setRules_35 : decode cX2_setRules 35 = .ok (.aload_n 0, 1) := by decide +kernel
theorem dX2_setRules_36 : decode cX2_setRules 36 = .ok (.iload_n 1, 1) := by decide +kernel
theorem dX2_setRules_37 : decode cX2_setRules 37 = .ok (.putfield 41, 3) := by decide +kernel
theorem dX2_setRules_40 : decode cX2_setRules 40 = .ok (.aload_n 0, 1) := by decide +kernel
theorem dX2_setRules_41 : decode cX2_setRules 41 = .ok (.iload_n 2, 1) := by decide +kernel
theorem dX2_setRules_42 : decode cX2_setRules 42 = .ok (.putfield 44, 3) := by decide +kernel
theorem dX2_setRules_45 : decode cX2_setRules 45 = .ok (.iload_n 3, 1) := by decide +kernel
theorem dX2_setRules_46 : decode cX2_setRules 46 = .ok (.ireturn, 1) := by decide +kernel
set_option maxRecDepth 20000 in
theorem ggX2_setGust_X2_within : GoodIn wsX2_setGust wsX2_within := goodIn_r _ [7] (by decide +kernel) (by decide +kernel)
set_option maxRecDepth 20000 in
theorem gX2_setGust_X2_within : GoodIn wsX2_setGust (va_wsS RX2 53 yX2_within wsX2_within) := goodIn_app (goodIn_of _ (by decide +kernel)) ggX2_setGust_X2_within
theorem dX2_setGust_0 : decode cX2_setGust 0 = .ok (.iload_n 1, 1) := by decide +kernel
theorem dX2_setGust_1 : decode cX2_setGust 1 = .ok (.iconst 1, 1) := by decide +kernel
theorem dX2_setGust_2 : decode cX2_setGust 2 = .ok (.sipush 400, 3) := by decide +kernel
theorem dX2_setGust_5 : decode cX2_setGust 5 = .ok (.invokestatic 53, 3) := by decide +kernel
theorem dX2_setGust_8 : decode cX2_setGust 8 = .ok (.ifCond .eq 13, 3) := by decide +kernel
theorem dX2_setGust_11 : decode cX2_setGust 11 = .ok (.iload_n 2, 1) := by decide +kernel
theorem dX2_setGust_12 : decode cX2_setGust 12 = .ok (.iconst 0, 1) := by decide +kernel
theorem dX2_setGust_13 : decode cX2_setGust 13 = .ok (.bipush 9, 2) := by decide +kernel
theorem dX2_setGust_15 : decode cX2_setGust 15 = .ok (.invokestatic 53, 3) := by decide +kernel
theorem dX2_setGust_18 : decode cX2_setGust 18 = .ok (.ifCond .ne 13, 3) := by decide +kernel
theorem dX2_setGust_21 : decode cX2_setGust 21 = .ok (.new 57, 3) := by decide +kernel
theorem dX2_setGust_24 : decode cX2_setGust 24 = .ok (.dup, 1) := by decide +kernel
theorem dX2_setGust_25 : decode cX2_setGust 25 = .ok (.ldc 164, 2) := by decide +kernel
theorem dX2_setGust_27 : decode cX2_setGust 27 = .ok (.invokespecial 61, 3) := by decide +kernel
theorem dX2_setGust_30 : decode cX2_setGust 30 = .ok (.athrow, 1) := by decide +kernel
theorem dX2_setGust_31 : decode cX2_setGust 31 = .ok (.aload_n 0, 1) := by decide +kernel
theorem dX2_setGust_32 : decode cX2_setGust 32 = .ok (.getfield 24, 3) := by decide +kernel
theorem dX2_setGust_35 : decode cX2_setGust 35 = .ok (.iload_n 1, 1) := by decide +kernel
theorem dX2_setGust_36 : decode cX2_setGust 36 = .ok (.iaload, 1) := by decide +kernel
theorem dX2_setGust_37 : decode cX2_setGust 37 = .ok (.istore_n 3, 1) := by decide +kernel
theorem dX2_setGust_38 : decode cX2_setGust 38 = .ok (.aload_n 0, 1) := by decide +kernel
theorem dX2_setGust_39 : decode cX2_setGust 39 = .ok (.getfield 24, 3) := by decide +kernel
theorem dX2_setGust_42 : decode cX2_setGust 42 = .ok (.iload_n 1, 1) := by decide +kernel
theorem dX2_setGust_43 : decode cX2_setGust 43 = .ok (.iload_n 2, 1) := by decide +kernel
theorem dX2_setGust_44 : decode cX2_setGust 44 = .ok (.iastore, 1) := by decide +kernel
theorem dX2_setGust_45 : decode cX2_setGust 45 = .ok (.iload_n 3, 1) := by decide +kernel
theorem dX2_setGust_46 : decode cX2_setGust 46 = .ok (.ireturn, 1) := by decide +kernel
set_option maxRecDepth 20000 in
theorem ggX2_pass_X2_within : GoodIn wsX2_pass wsX2_within := goodIn_r _ [6] (by decide +kernel) (by decide +kernel)
set_option maxRecDepth 20000 in
theorem gX2_pass_X2_within : GoodIn wsX2_pass (va_wsS RX2 53 yX2_within wsX2_within) := goodIn_app (goodIn_of _ (by decide +kernel)) ggX2_pass_X2_within
set_option maxRecDepth 20000 in
theorem ggX2_pass_X2_litLanterns : GoodIn wsX2_pass wsX2_litLanterns := goodIn_r _ [10, 11, 12, 108, 109, 110, 111, 112, 113, 114, 115, 116, 117, 118, 119, 120, 121, 122, 123, 124, 125, 126] (by decide +kernel) (by decide +kernel)
set_option maxRecDepth 20000 in
theorem gX2_pass_X2_litLanterns : GoodIn wsX2_pass (wsV RX2 168 RX2 yX2_litLanterns wsX2_litLanterns) := goodIn_app (goodIn_of _ (by decide +kernel)) ggX2_pass_X2_litLanterns
set_option maxRecDepth 20000 in
theorem ggX2_pass_X2_passOne : GoodIn wsX2_pass wsX2_passOne := goodIn_r _ [16, 17, 18, 19, 20, 5, 21, 22, 23, 24, 25, 26, 27, 28, 29, 30, 31, 32, 33, 34, 35, 36, 37, 38, 39, 40, 41, 42, 43, 44, 45, 46, 47, 48, 49, 50, 51, 52, 53, 54, 55, 56, 57, 58, 59, 60, 61, 62, 63, 11, 12, 64, 3, 4, 6, 65, 66, 67, 68, 69, 70, 71, 72, 73, 74, 75, 76, 77, 78, 79, 80, 81, 82, 83, 84, 85, 86, 87, 88, 89, 90, 91, 92, 93, 94, 95, 96, 97, 98, 99, 100, 101, 102, 103, 104, 105, 106, 107, 108, 109, 110, 111, 112, 113, 114, 115, 116, 117, 118, 119, 127, 128, 129, 130, 131, 132, 133, 120, 121, 122, 123, 124, 125, 126] (by decide +kernel) (by decide +kernel)
set_option maxRecDepth 20000 in
theorem gX2_pass_X2_passOne : GoodIn wsX2_pass (wsV RX2 171 RX2 yX2_passOne wsX2_passOne) := goodIn_app (goodIn_of _ (by decide +kernel)) ggX2_pass_X2_passOne
theorem dX2_pass_0 : decode cX2_pass 0 = .ok (.iload_n 1, 1) := by decide +kernel
theorem dX2_pass_1 : decode cX2_pass 1 = .ok (.iconst 1, 1) := by decide +kernel
theorem dX2_pass_2 : decode cX2_pass 2 = .ok (.bipush 60, 2) := by decide +kernel
theorem dX2_pass_4 : decode cX2_pass 4 = .ok (.invokestatic 53, 3) := by decide +kernel
theorem dX2_pass_7 : decode cX2_pass 7 = .ok (.ifCond .ne 13, 3) := by decide +kernel
theorem dX2_pass_10 : decode cX2_pass 10 = .ok (.new 57, 3) := by decide +kernel
theorem dX2_pass_13 : decode cX2_pass 13 = .ok (.dup, 1) := by decide +kernel
theorem dX2_pass_14 : decode cX2_pass 14 = .ok (.ldc 166, 2) := by decide +kernel
theorem dX2_pass_16 : decode cX2_pass 16 = .ok (.invokespecial 61, 3) := by decide +kernel
theorem dX2_pass_19 : decode cX2_pass 19 = .ok (.athrow, 1) := by decide +kernel
theorem dX2_pass_20 : decode cX2_pass 20 = .ok (.aload_n 0, 1) := by decide +kernel
theorem dX2_pass_21 : decode cX2_pass 21 = .ok (.invokevirtual 168, 3) := by decide +kernel
theorem dX2_pass_24 : decode cX2_pass 24 = .ok (.istore_n 2, 1) := by decide +kernel
theorem dX2_pass_25 : decode cX2_pass 25 = .ok (.iconst 0, 1) := by decide +kernel
theorem dX2_pass_26 : decode cX2_pass 26 = .ok (.istore_n 3, 1) := by decide +kernel
theorem dX2_pass_27 : decode cX2_pass 27 = .ok (.iload_n 3, 1) := by decide +kernel
theorem dX2_pass_28 : decode cX2_pass 28 = .ok (.iload_n 1, 1) := by decide +kernel
theorem dX2_pass_29 : decode cX2_pass 29 = .ok (.if_icmp .ge 13, 3) := by decide +kernel
theorem dX2_pass_32 : decode cX2_pass 32 = .ok (.aload_n 0, 1) := by decide +kernel
theorem dX2_pass_33 : decode cX2_pass 33 = .ok (.invokevirtual 171, 3) := by decide +kernel
theorem dX2_pass_36 : decode cX2_pass 36 = .ok (.iinc 3 1, 3) := by decide +kernel
theorem dX2_pass_39 : decode cX2_pass 39 = .ok (.goto (-12), 3) := by decide +kernel
theorem dX2_pass_42 : decode cX2_pass 42 = .ok (.iload_n 2, 1) := by decide +kernel
theorem dX2_pass_43 : decode cX2_pass 43 = .ok (.aload_n 0, 1) := by decide +kernel
theorem dX2_pass_44 : decode cX2_pass 44 = .ok (.invokevirtual 168, 3) := by decide +kernel
theorem dX2_pass_47 : decode cX2_pass 47 = .ok (.isub, 1) := by decide +kernel
theorem dX2_pass_48 : decode cX2_pass 48 = .ok (.ireturn, 1) := by decide +kernel
theorem dX2_time_0 : decode cX2_time 0 = .ok (.aload_n 0, 1) := by decide +kernel
theorem dX2_time_1 : decode cX2_time 1 = .ok (.getfield 38, 3) := by decide +kernel
theorem dX2_time_4 : decode cX2_time 4 = .ok (.ireturn, 1) := by decide +kernel
theorem dX2_lanterns_0 : decode cX2_lanterns 0 = .ok (.aload_n 0, 1) := by decide +kernel
theorem dX2_lanterns_1 : decode cX2_lanterns 1 = .ok (.getfield 28, 3) := by decide +kernel
theorem dX2_lanterns_4 : decode cX2_lanterns 4 = .ok (.ireturn, 1) := by decide +kernel
set_option maxRecDepth 20000 in
theorem ggX2_stateOf_X2_lanternNumbered : GoodIn wsX2_stateOf wsX2_lanternNumbered := goodIn_ca (goodIn_r _ [6, 7, 8, 9, 10, 11, 5, 12, 20, 21, 22, 23, 24, 25, 26, 27, 28, 29, 30, 31] (by decide +kernel) (by decide +kernel)) (goodIn_sub (fun _ h => List.mem_cons_of_mem _ (List.mem_append_right _ h)) (by decide +kernel))
set_option maxRecDepth 20000 in
theorem gX2_stateOf_X2_lanternNumbered : GoodIn wsX2_stateOf (wsV RX2 72 RX2 yX2_lanternNumbered wsX2_lanternNumbered) := goodIn_app (goodIn_of _ (by decide +kernel)) ggX2_stateOf_X2_lanternNumbered
theorem dX2_stateOf_0 : decode cX2_stateOf 0 = .ok (.aload_n 0, 1) := by decide +kernel
theorem dX2_stateOf_1 : decode cX2_stateOf 1 = .ok (.iload_n 1, 1) := by decide +kernel
theorem dX2_stateOf_2 : decode cX2_stateOf 2 = .ok (.invokevirtual 72, 3) := by decide +kernel
theorem dX2_stateOf_5 : decode cX2_stateOf 5 = .ok (.astore_n 2, 1) := by decide +kernel
theorem dX2_stateOf_6 : decode cX2_stateOf 6 = .ok (.aload_n 2, 1) := by decide +kernel
theorem dX2_stateOf_7 : decode cX2_stateOf 7 = .ok (.getfield 125, 3) := by decide +kernel
theorem dX2_stateOf_10 : decode cX2_stateOf 10 = .ok (.ireturn, 1) := by decide +kernel
set_option maxRecDepth 20000 in
theorem ggX2_left_X2_lanternNumbered : GoodIn wsX2_left wsX2_lanternNumbered := goodIn_ca (goodIn_r _ [6, 7, 8, 9, 10, 11, 5, 12, 20, 21, 22, 23, 24, 25, 26, 27, 28, 29, 30, 31] (by decide +kernel) (by decide +kernel)) (goodIn_sub (fun _ h => List.mem_cons_of_mem _ (List.mem_append_right _ h)) (by decide +kernel))
set_option maxRecDepth 20000 in
theorem gX2_left_X2_lanternNumbered : GoodIn wsX2_left (wsV RX2 72 RX2 yX2_lanternNumbered wsX2_lanternNumbered) := goodIn_app (goodIn_of _ (by decide +kernel)) ggX2_left_X2_lanternNumbered
theorem dX2_left_0 : decode cX2_left 0 = .ok (.aload_n 0, 1) := by decide +kernel
theorem dX2_left_1 : decode cX2_left 1 = .ok (.iload_n 1, 1) := by decide +kernel
theorem dX2_left_2 : decode cX2_left 2 = .ok (.invokevirtual 72, 3) := by decide +kernel
theorem dX2_left_5 : decode cX2_left 5 = .ok (.astore_n 2, 1) := by decide +kernel
theorem dX2_left_6 : decode cX2_left 6 = .ok (.aload_n 2, 1) := by decide +kernel
theorem dX2_left_7 : decode cX2_left 7 = .ok (.getfield 137, 3) := by decide +kernel
theorem dX2_left_10 : decode cX2_left 10 = .ok (.ireturn, 1) := by decide +kernel
set_option maxRecDepth 20000 in
theorem ggX2_placeOf_X2_lanternNumbered : GoodIn wsX2_placeOf wsX2_lanternNumbered := goodIn_ca (goodIn_r _ [5, 6, 7, 8, 9, 10, 4, 11, 21, 22, 23, 24, 25, 26, 27, 28, 29, 30, 31, 32] (by decide +kernel) (by decide +kernel)) (goodIn_sub (fun _ h => List.mem_cons_of_mem _ (List.mem_append_right _ h)) (by decide +kernel))
set_option maxRecDepth 20000 in
theorem gX2_placeOf_X2_lanternNumbered : GoodIn wsX2_placeOf (wsV RX2 72 RX2 yX2_lanternNumbered wsX2_lanternNumbered) := goodIn_app (goodIn_of _ (by decide +kernel)) ggX2_placeOf_X2_lanternNumbered
set_option maxRecDepth 20000 in
theorem ggX2_placeOf_X0_place : GoodIn wsX2_placeOf wsX0_place := goodIn_r _ [16, 17, 18, 19, 20, 33, 34, 35, 36, 37, 38, 39, 40, 41, 42, 43, 44, 45, 46] (by decide +kernel) (by decide +kernel)
set_option maxRecDepth 20000 in
theorem gX2_placeOf_X0_place : GoodIn wsX2_placeOf (wsV RX2 128 RX0 yX0_place wsX0_place) := goodIn_app (goodIn_of _ (by decide +kernel)) ggX2_placeOf_X0_place
theorem dX2_placeOf_0 : decode cX2_placeOf 0 = .ok (.aload_n 0, 1) := by decide +kernel
theorem dX2_placeOf_1 : decode cX2_placeOf 1 = .ok (.iload_n 1, 1) := by decide +kernel
theorem dX2_placeOf_2 : decode cX2_placeOf 2 = .ok (.invokevirtual 72, 3) := by decide +kernel
theorem dX2_placeOf_5 : decode cX2_placeOf 5 = .ok (.astore_n 2, 1) := by decide +kernel
theorem dX2_placeOf_6 : decode cX2_placeOf 6 = .ok (.aload_n 2, 1) := by decide +kernel
theorem dX2_placeOf_7 : decode cX2_placeOf 7 = .ok (.invokevirtual 128, 3) := by decide +kernel
theorem dX2_placeOf_10 : decode cX2_placeOf 10 = .ok (.ireturn, 1) := by decide +kernel
set_option maxRecDepth 20000 in
theorem ggX2_nearest_X2_lanternNumbered : GoodIn wsX2_nearest wsX2_lanternNumbered := goodIn_ca (goodIn_r _ [8, 9, 10, 11, 12, 13, 7, 14, 68, 69, 70, 71, 72, 73, 74, 75, 76, 77, 78, 79] (by decide +kernel) (by decide +kernel)) (goodIn_sub (fun _ h => List.mem_cons_of_mem _ (List.mem_append_right _ h)) (by decide +kernel))
set_option maxRecDepth 20000 in
theorem gX2_nearest_X2_lanternNumbered : GoodIn wsX2_nearest (wsV RX2 72 RX2 yX2_lanternNumbered wsX2_lanternNumbered) := goodIn_app (goodIn_of _ (by decide +kernel)) ggX2_nearest_X2_lanternNumbered
set_option maxRecDepth 20000 in
theorem ggX2_nearest_X1_nearestLit : GoodIn wsX2_nearest wsX1_nearestLit := goodIn_r _ [19, 20, 21, 22, 23, 24, 25, 26, 27, 28, 29, 30, 31, 32, 33, 34, 35, 7, 36, 37, 38, 39, 40, 41, 42, 43, 61, 62, 63, 64, 65, 66, 67, 54, 55, 56, 57, 58, 59, 60] (by decide +kernel) (by decide +kernel)
set_option maxRecDepth 20000 in
theorem gX2_nearest_X1_nearestLit : GoodIn wsX2_nearest (wsV RX2 174 RX1 yX1_nearestLit wsX1_nearestLit) := goodIn_app (goodIn_of _ (by decide +kernel)) ggX2_nearest_X1_nearestLit
set_option maxRecDepth 20000 in
theorem ggX2_nearest_X2_nearestAhead : GoodIn wsX2_nearest wsX2_nearestAhead := goodIn_r _ [47, 48, 41, 42, 39, 43, 15, 16, 17, 18, 19, 20, 21, 22, 23, 24, 25, 26, 27, 28, 29, 30, 31, 32, 33, 34, 35, 7, 36, 37, 38, 40, 68, 69, 70, 71, 72, 73, 74, 75, 76, 77, 78, 79, 61, 62, 63, 64, 65, 66, 67, 54, 55, 56, 57, 58, 59, 60] (by decide +kernel) (by decide +kernel)
set_option maxRecDepth 20000 in
theorem gX2_nearest_X2_nearestAhead : GoodIn wsX2_nearest (wsV RX2 178 RX2 yX2_nearestAhead wsX2_nearestAhead) := goodIn_app (goodIn_of _ (by decide +kernel)) ggX2_nearest_X2_nearestAhead
set_option maxRecDepth 20000 in
theorem ggX2_nearest_X2_nearestBehind : GoodIn wsX2_nearest wsX2_nearestBehind := goodIn_r _ [52, 37, 38, 39, 40, 48, 15, 16, 17, 18, 19, 20, 21, 22, 23, 24, 25, 26, 27, 28, 29, 30, 31, 32, 33, 34, 35, 7, 36, 41, 42, 43, 68, 69, 70, 71, 72, 73, 74, 75, 76, 77, 78, 79, 61, 62, 63, 64, 65, 66, 67, 54, 55, 56, 57, 58, 59, 60] (by decide +kernel) (by decide +kernel)
set_option maxRecDepth 20000 in
theorem gX2_nearest_X2_nearestBehind : GoodIn wsX2_nearest (wsV RX2 182 RX2 yX2_nearestBehind wsX2_nearestBehind) := goodIn_app (goodIn_of _ (by decide +kernel)) ggX2_nearest_X2_nearestBehind
set_option maxRecDepth 20000 in
theorem ggX2_nearest_X2_nearer : GoodIn wsX2_nearest wsX2_nearer := goodIn_r _ [36, 37, 38, 39, 40, 41, 42, 43] (by decide +kernel) (by decide +kernel)
set_option maxRecDepth 20000 in
theorem gX2_nearest_X2_nearer : GoodIn wsX2_nearest (va_wsS RX2 185 yX2_nearer wsX2_nearer) := goodIn_app (goodIn_of _ (by decide +kernel)) ggX2_nearest_X2_nearer
theorem dX2_nearest_0 : decode cX2_nearest 0 = .ok (.aload_n 0, 1) := by decide +kernel
theorem dX2_nearest_1 : decode cX2_nearest 1 = .ok (.iload_n 1, 1) := by decide +kernel
theorem dX2_nearest_2 : decode cX2_nearest 2 = .ok (.invokevirtual 72, 3) := by decide +kernel
theorem dX2_nearest_5 : decode cX2_nearest 5 = .ok (.astore_n 2, 1) := by decide +kernel
theorem dX2_nearest_6 : decode cX2_nearest 6 = .ok (.aload_n 2, 1) := by decide +kernel
theorem dX2_nearest_7 : decode cX2_nearest 7 = .ok (.getfield 90, 3) := by decide +kernel
theorem dX2_nearest_10 : decode cX2_nearest 10 = .ok (.astore_n 3, 1) := by decide +kernel
theorem dX2_nearest_11 : decode cX2_nearest 11 = .ok (.aload_n 3, 1) := by decide +kernel
theorem dX2_nearest_12 : decode cX2_nearest 12 = .ok (.ifnull 11, 3) := by decide +kernel
theorem dX2_nearest_15 : decode cX2_nearest 15 = .ok (.aload_n 3, 1) := by decide +kernel
theorem dX2_nearest_16 : decode cX2_nearest 16 = .ok (.getfield 94, 3) := by decide +kernel
theorem dX2_nearest_19 : decode cX2_nearest 19 = .ok (.iconst 1, 1) := by decide +kernel
theorem dX2_nearest_20 : decode cX2_nearest 20 = .ok (.if_icmp .eq 5, 3) := by decide +kernel
theorem dX2_nearest_23 : decode cX2_nearest 23 = .ok (.iconst (-1), 1) := by decide +kernel
theorem dX2_nearest_24 : decode cX2_nearest 24 = .ok (.ireturn, 1) := by decide +kernel
theorem dX2_nearest_25 : decode cX2_nearest 25 = .ok (.aload_n 3, 1) := by decide +kernel
theorem dX2_nearest_26 : decode cX2_nearest 26 = .ok (.aload_n 2, 1) := by decide +kernel
theorem dX2_nearest_27 : decode cX2_nearest 27 = .ok (.invokevirtual 174, 3) := by decide +kernel
theorem dX2_nearest_30 : decode cX2_nearest 30 = .ok (.istore 4, 2) := by decide +kernel
theorem dX2_nearest_32 : decode cX2_nearest 32 = .ok (.aload_n 0, 1) := by decide +kernel
theorem dX2_nearest_33 : decode cX2_nearest 33 = .ok (.aload_n 2, 1) := by decide +kernel
theorem dX2_nearest_34 : decode cX2_nearest 34 = .ok (.aload_n 3, 1) := by decide +kernel
theorem dX2_nearest_35 : decode cX2_nearest 35 = .ok (.getfield 156, 3) := by decide +kernel
theorem dX2_nearest_38 : decode cX2_nearest 38 = .ok (.invokevirtual 178, 3) := by decide +kernel
theorem dX2_nearest_41 : decode cX2_nearest 41 = .ok (.istore 5, 2) := by decide +kernel
theorem dX2_nearest_43 : decode cX2_nearest 43 = .ok (.aload_n 0, 1) := by decide +kernel
theorem dX2_nearest_44 : decode cX2_nearest 44 = .ok (.aload_n 2, 1) := by decide +kernel
theorem dX2_nearest_45 : decode cX2_nearest 45 = .ok (.aload_n 3, 1) := by decide +kernel
theorem dX2_nearest_46 : decode cX2_nearest 46 = .ok (.getfield 156, 3) := by decide +kernel
theorem dX2_nearest_49 : decode cX2_nearest 49 = .ok (.invokevirtual 182, 3) := by decide +kernel
theorem dX2_nearest_52 : decode cX2_nearest 52 = .ok (.istore 6, 2) := by decide +kernel
theorem dX2_nearest_54 : decode cX2_nearest 54 = .ok (.iload 4, 2) := by decide +kernel
theorem dX2_nearest_56 : decode cX2_nearest 56 = .ok (.iload 5, 2) := by decide +kernel
theorem dX2_nearest_58 : decode cX2_nearest 58 = .ok (.iload 6, 2) := by decide +kernel
theorem dX2_nearest_60 : decode cX2_nearest 60 = .ok (.invokestatic 185, 3) := by decide +kernel
theorem dX2_nearest_63 : decode cX2_nearest 63 = .ok (.invokestatic 185, 3) := by decide +kernel
theorem dX2_nearest_66 : decode cX2_nearest 66 = .ok (.ireturn, 1) := by decide +kernel
set_option maxRecDepth 20000 in
theorem ggX2_nearestOfAll_X2_lanternNumbered : GoodIn wsX2_nearestOfAll wsX2_lanternNumbered := goodIn_ca (goodIn_r _ [7, 8, 9, 1, 10, 11, 6, 12, 37, 38, 39, 40, 41, 42, 43, 44, 45, 46, 47, 48] (by decide +kernel) (by decide +kernel)) (goodIn_sub (fun _ h => List.mem_cons_of_mem _ (List.mem_append_right _ h)) (by decide +kernel))
set_option maxRecDepth 20000 in
theorem gX2_nearestOfAll_X2_lanternNumbered : GoodIn wsX2_nearestOfAll (wsV RX2 72 RX2 yX2_lanternNumbered wsX2_lanternNumbered) := goodIn_app (goodIn_of _ (by decide +kernel)) ggX2_nearestOfAll_X2_lanternNumbered
set_option maxRecDepth 20000 in
theorem ggX2_nearestOfAll_X0_place : GoodIn wsX2_nearestOfAll wsX0_place := goodIn_r _ [17, 18, 19, 20, 21, 49, 50, 51, 52, 53, 54, 55, 56, 57, 58, 59, 60, 61, 62] (by decide +kernel) (by decide +kernel)
set_option maxRecDepth 20000 in
theorem gX2_nearestOfAll_X0_place : GoodIn wsX2_nearestOfAll (wsV RX2 128 RX0 yX0_place wsX0_place) := goodIn_app (goodIn_of _ (by decide +kernel)) ggX2_nearestOfAll_X0_place
set_option maxRecDepth 20000 in
theorem ggX2_nearestOfAll_X0_distanceTo : GoodIn wsX2_nearestOfAll wsX0_distanceTo := goodIn_r _ [25, 26, 14, 15, 16, 17, 18, 19, 20, 21, 49, 50, 51, 52, 53, 54, 55, 56, 57, 58, 59, 60, 61, 62] (by decide +kernel) (by decide +kernel)
set_option maxRecDepth 20000 in
theorem gX2_nearestOfAll_X0_distanceTo : GoodIn wsX2_nearestOfAll (wsV RX2 189 RX0 yX0_distanceTo wsX0_distanceTo) := goodIn_app (goodIn_of _ (by decide +kernel)) ggX2_nearestOfAll_X0_distanceTo
set_option maxRecDepth 20000 in
theorem ggX2_nearestOfAll_X2_nearer : GoodIn wsX2_nearestOfAll wsX2_nearer := goodIn_r _ [29, 30, 31, 32, 33, 34, 35, 36] (by decide +kernel) (by decide +kernel)
set_option maxRecDepth 20000 in
theorem gX2_nearestOfAll_X2_nearer : GoodIn wsX2_nearestOfAll (va_wsS RX2 185 yX2_nearer wsX2_nearer) := goodIn_app (goodIn_of _ (by decide +kernel)) ggX2_nearestOfAll_X2_nearer
theorem dX2_nearestOfAll_0 : decode cX2_nearestOfAll 0 = .ok (.aload_n 0, 1) := by decide +kernel
theorem dX2_nearestOfAll_1 : decode cX2_nearestOfAll 1 = .ok (.iload_n 1, 1) := by decide +kernel
theorem dX2_nearestOfAll_2 : decode cX2_nearestOfAll 2 = .ok (.invokevirtual 72, 3) := by decide +kernel
theorem dX2_nearestOfAll_5 : decode cX2_nearestOfAll 5 = .ok (.astore_n 2, 1) := by decide +kernel
theorem dX2_nearestOfAll_6 : decode cX2_nearestOfAll 6 = .ok (.iconst (-1), 1) := by decide +kernel
theorem dX2_nearestOfAll_7 : decode cX2_nearestOfAll 7 = .ok (.istore_n 3, 1) := by decide +kernel
theorem dX2_nearestOfAll_8 : decode cX2_nearestOfAll 8 = .ok (.aload_n 2, 1) := by decide +kernel
theorem dX2_nearestOfAll_9 : decode cX2_nearestOfAll 9 = .ok (.invokevirtual 128, 3) := by decide +kernel
theorem dX2_nearestOfAll_12 : decode cX2_nearestOfAll 12 = .ok (.iconst (-1), 1) := by decide +kernel
theorem dX2_nearestOfAll_13 : decode cX2_nearestOfAll 13 = .ok (.if_icmp .eq 68, 3) := by decide +kernel
theorem dX2_nearestOfAll_16 : decode cX2_nearestOfAll 16 = .ok (.aload_n 0, 1) := by decide +kernel
theorem dX2_nearestOfAll_17 : decode cX2_nearestOfAll 17 = .ok (.getfield 11, 3) := by decide +kernel
theorem dX2_nearestOfAll_20 : decode cX2_nearestOfAll 20 = .ok (.astore 4, 2) := by decide +kernel
theorem dX2_nearestOfAll_22 : decode cX2_nearestOfAll 22 = .ok (.aload 4, 2) := by decide +kernel
theorem dX2_nearestOfAll_24 : decode cX2_nearestOfAll 24 = .ok (.arraylength, 1) := by decide +kernel
theorem dX2_nearestOfAll_25 : decode cX2_nearestOfAll 25 = .ok (.istore 5, 2) := by decide +kernel
theorem dX2_nearestOfAll_27 : decode cX2_nearestOfAll 27 = .ok (.iconst 0, 1) := by decide +kernel
theorem dX2_nearestOfAll_28 : decode cX2_nearestOfAll 28 = .ok (.istore 6, 2) := by decide +kernel
theorem dX2_nearestOfAll_30 : decode cX2_nearestOfAll 30 = .ok (.iload 6, 2) := by decide +kernel
theorem dX2_nearestOfAll_32 : decode cX2_nearestOfAll 32 = .ok (.iload 5, 2) := by decide +kernel
theorem dX2_nearestOfAll_34 : decode cX2_nearestOfAll 34 = .ok (.if_icmp .ge 47, 3) := by decide +kernel
theorem dX2_nearestOfAll_37 : decode cX2_nearestOfAll 37 = .ok (.aload 4, 2) := by decide +kernel
theorem dX2_nearestOfAll_39 : decode cX2_nearestOfAll 39 = .ok (.iload 6, 2) := by decide +kernel
theorem dX2_nearestOfAll_41 : decode cX2_nearestOfAll 41 = .ok (.aaload, 1) := by decide +kernel
theorem dX2_nearestOfAll_42 : decode cX2_nearestOfAll 42 = .ok (.astore 7, 2) := by decide +kernel
theorem dX2_nearestOfAll_44 : decode cX2_nearestOfAll 44 = .ok (.aload 7, 2) := by decide +kernel
theorem dX2_nearestOfAll_46 : decode cX2_nearestOfAll 46 = .ok (.ifnull 29, 3) := by decide +kernel
theorem dX2_nearestOfAll_49 : decode cX2_nearestOfAll 49 = .ok (.aload 7, 2) := by decide +kernel
theorem dX2_nearestOfAll_51 : decode cX2_nearestOfAll 51 = .ok (.aload_n 2, 1) := by decide +kernel
theorem dX2_nearestOfAll_52 : decode cX2_nearestOfAll 52 = .ok (.if_acmp .eq 23, 3) := by decide +kernel
theorem dX2_nearestOfAll_55 : decode cX2_nearestOfAll 55 = .ok (.aload 7, 2) := by decide +kernel
theorem dX2_nearestOfAll_57 : decode cX2_nearestOfAll 57 = .ok (.getfield 125, 3) := by decide +kernel
theorem dX2_nearestOfAll_60 : decode cX2_nearestOfAll 60 = .ok (.iconst 1, 1) := by decide +kernel
theorem dX2_nearestOfAll_61 : decode cX2_nearestOfAll 61 = .ok (.if_icmp .ne 14, 3) := by decide +kernel
theorem dX2_nearestOfAll_64 : decode cX2_nearestOfAll 64 = .ok (.iload_n 3, 1) := by decide +kernel
theorem dX2_nearestOfAll_65 : decode cX2_nearestOfAll 65 = .ok (.aload_n 2, 1) := by decide +kernel
theorem dX2_nearestOfAll_66 : decode cX2_nearestOfAll 66 = .ok (.aload 7, 2) := by decide +kernel
theorem dX2_nearestOfAll_68 : decode cX2_nearestOfAll 68 = .ok (.invokevirtual 189, 3) := by decide +kernel
theorem dX2_nearestOfAll_71 : decode cX2_nearestOfAll 71 = .ok (.invokestatic 185, 3) := by decide +kernel
theorem dX2_nearestOfAll_74 : decode cX2_nearestOfAll 74 = .ok (.istore_n 3, 1) := by decide +kernel
theorem dX2_nearestOfAll_75 : decode cX2_nearestOfAll 75 = .ok (.iinc 6 1, 3) := by decide +kernel
theorem dX2_nearestOfAll_78 : decode cX2_nearestOfAll 78 = .ok (.goto (-48), 3) := by decide +kernel
theorem dX2_nearestOfAll_81 : decode cX2_nearestOfAll 81 = .ok (.iload_n 3, 1) := by decide +kernel
theorem dX2_nearestOfAll_82 : decode cX2_nearestOfAll 82 = .ok (.ireturn, 1) := by decide +kernel
theorem dX2_blownOut_0 : decode cX2_blownOut 0 = .ok (.aload_n 0, 1) := by decide +kernel
theorem dX2_blownOut_1 : decode cX2_blownOut 1 = .ok (.getfield 47, 3) := by decide +kernel
theorem dX2_blownOut_4 : decode cX2_blownOut 4 = .ok (.ireturn, 1) := by decide +kernel
theorem dX2_ordered_0 : decode cX2_ordered 0 = .ok (.aload_n 0, 1) := by decide +kernel
theorem dX2_ordered_1 : decode cX2_ordered 1 = .ok (.getfield 50, 3) := by decide +kernel
theorem dX2_ordered_4 : decode cX2_ordered 4 = .ok (.ireturn, 1) := by decide +kernel
set_option maxRecDepth 20000 in
theorem ggX2_sortOf_X2_raftNumbered : GoodIn wsX2_sortOf wsX2_raftNumbered := goodIn_ca (goodIn_r _ [6, 7, 8, 9, 10, 11, 5, 12, 20, 21, 22, 23, 24, 25, 26, 27, 28, 29, 30, 31] (by decide +kernel) (by decide +kernel)) (goodIn_sub (fun _ h => List.mem_cons_of_mem _ (List.mem_append_right _ h)) (by decide +kernel))
set_option maxRecDepth 20000 in
theorem gX2_sortOf_X2_raftNumbered : GoodIn wsX2_sortOf (wsV RX2 76 RX2 yX2_raftNumbered wsX2_raftNumbered) := goodIn_app (goodIn_of _ (by decide +kernel)) ggX2_sortOf_X2_raftNumbered
theorem dX2_sortOf_0 : decode cX2_sortOf 0 = .ok (.aload_n 0, 1) := by decide +kernel
theorem dX2_sortOf_1 : decode cX2_sortOf 1 = .ok (.iload_n 1, 1) := by decide +kernel
theorem dX2_sortOf_2 : decode cX2_sortOf 2 = .ok (.invokevirtual 76, 3) := by decide +kernel
theorem dX2_sortOf_5 : decode cX2_sortOf 5 = .ok (.astore_n 2, 1) := by decide +kernel
theorem dX2_sortOf_6 : decode cX2_sortOf 6 = .ok (.aload_n 2, 1) := by decide +kernel
theorem dX2_sortOf_7 : decode cX2_sortOf 7 = .ok (.getfield 94, 3) := by decide +kernel
theorem dX2_sortOf_10 : decode cX2_sortOf 10 = .ok (.ireturn, 1) := by decide +kernel
set_option maxRecDepth 20000 in
theorem ggX2_front_X2_raftNumbered : GoodIn wsX2_front wsX2_raftNumbered := goodIn_ca (goodIn_r _ [7, 8, 9, 10, 11, 12, 6, 13, 21, 22, 23, 24, 25, 26, 27, 28, 29, 30, 31, 32] (by decide +kernel) (by decide +kernel)) (goodIn_sub (fun _ h => List.mem_cons_of_mem _ (List.mem_append_right _ h)) (by decide +kernel))
set_option maxRecDepth 20000 in
theorem gX2_front_X2_raftNumbered : GoodIn wsX2_front (wsV RX2 76 RX2 yX2_raftNumbered wsX2_raftNumbered) := goodIn_app (goodIn_of _ (by decide +kernel)) ggX2_front_X2_raftNumbered
theorem dX2_front_0 : decode cX2_front 0 = .ok (.aload_n 0, 1) := by decide +kernel
theorem dX2_front_1 : decode cX2_front 1 = .ok (.iload_n 1, 1) := by decide +kernel
theorem dX2_front_2 : decode cX2_front 2 = .ok (.invokevirtual 76, 3) := by decide +kernel
theorem dX2_front_5 : decode cX2_front 5 = .ok (.astore_n 2, 1) := by decide +kernel
theorem dX2_front_6 : decode cX2_front 6 = .ok (.aload_n 2, 1) := by decide +kernel
theorem dX2_front_7 : decode cX2_front 7 = .ok (.getfield 94, 3) := by decide +kernel
theorem dX2_front_10 : decode cX2_front 10 = .ok (.iconst 1, 1) := by decide +kernel
theorem dX2_front_11 : decode cX2_front 11 = .ok (.if_icmp .ne 10, 3) := by decide +kernel
theorem dX2_front_14 : decode cX2_front 14 = .ok (.aload_n 2, 1) := by decide +kernel
theorem dX2_front_15 : decode cX2_front 15 = .ok (.getfield 153, 3) := by decide +kernel
theorem dX2_front_18 : decode cX2_front 18 = .ok (.goto 4, 3) := by decide +kernel
theorem dX2_front_21 : decode cX2_front 21 = .ok (.iconst (-1), 1) := by decide +kernel
theorem dX2_front_22 : decode cX2_front 22 = .ok (.ireturn, 1) := by decide +kernel
set_option maxRecDepth 20000 in
theorem ggX2_load_X2_raftNumbered : GoodIn wsX2_load wsX2_raftNumbered := goodIn_ca (goodIn_r _ [5, 6, 7, 8, 9, 10, 4, 11, 26, 27, 28, 29, 30, 31, 32, 33, 34, 35, 36, 37] (by decide +kernel) (by decide +kernel)) (goodIn_sub (fun _ h => List.mem_cons_of_mem _ (List.mem_append_right _ h)) (by decide +kernel))
set_option maxRecDepth 20000 in
theorem gX2_load_X2_raftNumbered : GoodIn wsX2_load (wsV RX2 76 RX2 yX2_raftNumbered wsX2_raftNumbered) := goodIn_app (goodIn_of _ (by decide +kernel)) ggX2_load_X2_raftNumbered
set_option maxRecDepth 20000 in
theorem ggX2_load_X1_weight : GoodIn wsX2_load wsX1_weight := goodIn_r _ [16, 17, 18, 19, 20, 21, 22, 23, 24, 25, 38, 39, 40, 41, 42, 43, 44, 45, 46, 47, 48, 49, 50, 51] (by decide +kernel) (by decide +kernel)
set_option maxRecDepth 20000 in
theorem gX2_load_X1_weight : GoodIn wsX2_load (wsV RX2 99 RX1 yX1_weight wsX1_weight) := goodIn_app (goodIn_of _ (by decide +kernel)) ggX2_load_X1_weight
theorem dX2_load_0 : decode cX2_load 0 = .ok (.aload_n 0, 1) := by decide +kernel
theorem dX2_load_1 : decode cX2_load 1 = .ok (.iload_n 1, 1) := by decide +kernel
theorem dX2_load_2 : decode cX2_load 2 = .ok (.invokevirtual 76, 3) := by decide +kernel
theorem dX2_load_5 : decode cX2_load 5 = .ok (.astore_n 2, 1) := by decide +kernel
theorem dX2_load_6 : decode cX2_load 6 = .ok (.aload_n 2, 1) := by decide +kernel
theorem dX2_load_7 : decode cX2_load 7 = .ok (.invokevirtual 99, 3) := by decide +kernel
theorem dX2_load_10 : decode cX2_load 10 = .ok (.ireturn, 1) := by decide +kernel
set_option maxRecDepth 20000 in
theorem ggX2_likeness_X2_raftNumbered : GoodIn wsX2_likeness wsX2_raftNumbered := goodIn_ca (goodIn_r _ [7, 8, 9, 10, 11, 12, 6, 13, 21, 22, 23, 24, 25, 26, 27, 28, 29, 30, 31, 32] (by decide +kernel) (by decide +kernel)) (goodIn_sub (fun _ h => List.mem_cons_of_mem _ (List.mem_append_right _ h)) (by decide +kernel))
set_option maxRecDepth 20000 in
theorem gX2_likeness_X2_raftNumbered : GoodIn wsX2_likeness (wsV RX2 76 RX2 yX2_raftNumbered wsX2_raftNumbered) := goodIn_app (goodIn_of _ (by decide +kernel)) ggX2_likeness_X2_raftNumbered
set_option maxRecDepth 20000 in
theorem ggX2_likeness_X2_within : GoodIn wsX2_likeness wsX2_within := goodIn_r _ [13] (by decide +kernel) (by decide +kernel)
set_option maxRecDepth 20000 in
theorem gX2_likeness_X2_within : GoodIn wsX2_likeness (va_wsS RX2 53 yX2_within wsX2_within) := goodIn_app (goodIn_of _ (by decide +kernel)) ggX2_likeness_X2_within
set_option maxRecDepth 20000 in
theorem ggX2_likeness_X1_alike : GoodIn wsX2_likeness wsX1_alike := goodIn_r _ [18, 19, 20, 33, 34, 35, 36, 37, 38, 39, 40, 41, 42, 43, 44, 45, 46] (by decide +kernel) (by decide +kernel)
set_option maxRecDepth 20000 in
theorem gX2_likeness_X1_alike : GoodIn wsX2_likeness (wsV RX2 194 RX1 yX1_alike wsX1_alike) := goodIn_app (goodIn_of _ (by decide +kernel)) ggX2_likeness_X1_alike
theorem dX2_likeness_0 : decode cX2_likeness 0 = .ok (.aload_n 0, 1) := by decide +kernel
theorem dX2_likeness_1 : decode cX2_likeness 1 = .ok (.iload_n 1, 1) := by decide +kernel
theorem dX2_likeness_2 : decode cX2_likeness 2 = .ok (.invokevirtual 76, 3) := by decide +kernel
theorem dX2_likeness_5 : decode cX2_likeness 5 = .ok (.astore_n 3, 1) := by decide +kernel
theorem dX2_likeness_6 : decode cX2_likeness 6 = .ok (.iload_n 2, 1) := by decide +kernel
theorem dX2_likeness_7 : decode cX2_likeness 7 = .ok (.iconst 0, 1) := by decide +kernel
theorem dX2_likeness_8 : decode cX2_likeness 8 = .ok (.sipush 1023, 3) := by decide +kernel
theorem dX2_likeness_11 : decode cX2_likeness 11 = .ok (.invokestatic 53, 3) := by decide +kernel
theorem dX2_likeness_14 : decode cX2_likeness 14 = .ok (.ifCond .ne 13, 3) := by decide +kernel
theorem dX2_likeness_17 : decode cX2_likeness 17 = .ok (.new 57, 3) := by decide +kernel
theorem dX2_likeness_20 : decode cX2_likeness 20 = .ok (.dup, 1) := by decide +kernel
theorem dX2_likeness_21 : decode cX2_likeness 21 = .ok (.ldc 192, 2) := by decide +kernel
theorem dX2_likeness_23 : decode cX2_likeness 23 = .ok (.invokespecial 61, 3) := by decide +kernel
theorem dX2_likeness_26 : decode cX2_likeness 26 = .ok (.athrow, 1) := by decide +kernel
theorem dX2_likeness_27 : decode cX2_likeness 27 = .ok (.aload_n 3, 1) := by decide +kernel
theorem dX2_likeness_28 : decode cX2_likeness 28 = .ok (.iload_n 2, 1) := by decide +kernel
theorem dX2_likeness_29 : decode cX2_likeness 29 = .ok (.invokevirtual 194, 3) := by decide +kernel
theorem dX2_likeness_32 : decode cX2_likeness 32 = .ok (.ireturn, 1) := by decide +kernel
set_option maxRecDepth 20000 in
theorem ggX2_prize_X2_within : GoodIn wsX2_prize wsX2_within := goodIn_r _ [9] (by decide +kernel) (by decide +kernel)
set_option maxRecDepth 20000 in
theorem gX2_prize_X2_within : GoodIn wsX2_prize (va_wsS RX2 53 yX2_within wsX2_within) := goodIn_app (goodIn_of _ (by decide +kernel)) ggX2_prize_X2_within
set_option maxRecDepth 20000 in
theorem ggX2_prize_X1_alike : GoodIn wsX2_prize wsX1_alike := goodIn_r _ [14, 15, 16, 29, 30, 31, 32, 33, 34, 35, 36, 37, 38, 39, 40, 41, 42] (by decide +kernel) (by decide +kernel)
set_option maxRecDepth 20000 in
theorem gX2_prize_X1_alike : GoodIn wsX2_prize (wsV RX2 194 RX1 yX1_alike wsX1_alike) := goodIn_app (goodIn_of _ (by decide +kernel)) ggX2_prize_X1_alike
theorem dX2_prize_0 : decode cX2_prize 0 = .ok (.iload_n 1, 1) := by decide +kernel
theorem dX2_prize_1 : decode cX2_prize 1 = .ok (.iconst 0, 1) := by decide +kernel
theorem dX2_prize_2 : decode cX2_prize 2 = .ok (.sipush 1023, 3) := by decide +kernel
theorem dX2_prize_5 : decode cX2_prize 5 = .ok (.invokestatic 53, 3) := by decide +kernel
theorem dX2_prize_8 : decode cX2_prize 8 = .ok (.ifCond .ne 13, 3) := by decide +kernel
theorem dX2_prize_11 : decode cX2_prize 11 = .ok (.new 57, 3) := by decide +kernel
theorem dX2_prize_14 : decode cX2_prize 14 = .ok (.dup, 1) := by decide +kernel
theorem dX2_prize_15 : decode cX2_prize 15 = .ok (.ldc 192, 2) := by decide +kernel
theorem dX2_prize_17 : decode cX2_prize 17 = .ok (.invokespecial 61, 3) := by decide +kernel
theorem dX2_prize_20 : decode cX2_prize 20 = .ok (.athrow, 1) := by decide +kernel
theorem dX2_prize_21 : decode cX2_prize 21 = .ok (.iconst (-1), 1) := by decide +kernel
theorem dX2_prize_22 : decode cX2_prize 22 = .ok (.istore_n 2, 1) := by decide +kernel
theorem dX2_prize_23 : decode cX2_prize 23 = .ok (.iconst (-1), 1) := by decide +kernel
theorem dX2_prize_24 : decode cX2_prize 24 = .ok (.istore_n 3, 1) := by decide +kernel
theorem dX2_prize_25 : decode cX2_prize 25 = .ok (.aload_n 0, 1) := by decide +kernel
theorem dX2_prize_26 : decode cX2_prize 26 = .ok (.getfield 21, 3) := by decide +kernel
theorem dX2_prize_29 : decode cX2_prize 29 = .ok (.astore 4, 2) := by decide +kernel
theorem dX2_prize_31 : decode cX2_prize 31 = .ok (.aload 4, 2) := by decide +kernel
theorem dX2_prize_33 : decode cX2_prize 33 = .ok (.arraylength, 1) := by decide +kernel
theorem dX2_prize_34 : decode cX2_prize 34 = .ok (.istore 5, 2) := by decide +kernel
theorem dX2_prize_36 : decode cX2_prize 36 = .ok (.iconst 0, 1) := by decide +kernel
theorem dX2_prize_37 : decode cX2_prize 37 = .ok (.istore 6, 2) := by decide +kernel
theorem dX2_prize_39 : decode cX2_prize 39 = .ok (.iload 6, 2) := by decide +kernel
theorem dX2_prize_41 : decode cX2_prize 41 = .ok (.iload 5, 2) := by decide +kernel
theorem dX2_prize_43 : decode cX2_prize 43 = .ok (.if_icmp .ge 53, 3) := by decide +kernel
theorem dX2_prize_46 : decode cX2_prize 46 = .ok (.aload 4, 2) := by decide +kernel
theorem dX2_prize_48 : decode cX2_prize 48 = .ok (.iload 6, 2) := by decide +kernel
theorem dX2_prize_50 : decode cX2_prize 50 = .ok (.aaload, 1) := by decide +kernel
theorem dX2_prize_51 : decode cX2_prize 51 = .ok (.astore 7, 2) := by decide +kernel
theorem dX2_prize_53 : decode cX2_prize 53 = .ok (.aload 7, 2) := by decide +kernel
theorem dX2_prize_55 : decode cX2_prize 55 = .ok (.ifnull 35, 3) := by decide +kernel
theorem dX2_prize_58 : decode cX2_prize 58 = .ok (.aload 7, 2) := by decide +kernel
theorem dX2_prize_60 : decode cX2_prize 60 = .ok (.getfield 94, 3) := by decide +kernel
theorem dX2_prize_63 : decode cX2_prize 63 = .ok (.iconst 1, 1) := by decide +kernel
theorem dX2_prize_64 : decode cX2_prize 64 = .ok (.if_icmp .ne 26, 3) := by decide +kernel
theorem dX2_prize_67 : decode cX2_prize 67 = .ok (.aload 7, 2) := by decide +kernel
theorem dX2_prize_69 : decode cX2_prize 69 = .ok (.iload_n 1, 1) := by decide +kernel
theorem dX2_prize_70 : decode cX2_prize 70 = .ok (.invokevirtual 194, 3) := by decide +kernel
theorem dX2_prize_73 : decode cX2_prize 73 = .ok (.iload_n 3, 1) := by decide +kernel
theorem dX2_prize_74 : decode cX2_prize 74 = .ok (.if_icmp .le 16, 3) := by decide +kernel
theorem dX2_prize_77 : decode cX2_prize 77 = .ok (.aload 7, 2) := by decide +kernel
theorem dX2_prize_79 : decode cX2_prize 79 = .ok (.getfield 122, 3) := by decide +kernel
theorem dX2_prize_82 : decode cX2_prize 82 = .ok (.istore_n 2, 1) := by decide +kernel
theorem dX2_prize_83 : decode cX2_prize 83 = .ok (.aload 7, 2) := by decide +kernel
theorem dX2_prize_85 : decode cX2_prize 85 = .ok (.iload_n 1, 1) := by decide +kernel
theorem dX2_prize_86 : decode cX2_prize 86 = .ok (.invokevirtual 194, 3) := by decide +kernel
theorem dX2_prize_89 : decode cX2_prize 89 = .ok (.istore_n 3, 1) := by decide +kernel
theorem dX2_prize_90 : decode cX2_prize 90 = .ok (.iinc 6 1, 3) := by decide +kernel
theorem dX2_prize_93 : decode cX2_prize 93 = .ok (.goto (-54), 3) := by decide +kernel
theorem dX2_prize_96 : decode cX2_prize 96 = .ok (.iload_n 2, 1) := by decide +kernel
theorem dX2_prize_97 : decode cX2_prize 97 = .ok (.ireturn, 1) := by decide +kernel
theorem dX2_within_0 : decode cX2_within 0 = .ok (.iload_n 0, 1) := by decide +kernel
theorem dX2_within_1 : decode cX2_within 1 = .ok (.iload_n 1, 1) := by decide +kernel
theorem dX2_within_2 : decode cX2_within 2 = .ok (.if_icmp .lt 12, 3) := by decide +kernel
theorem dX2_within_5 : decode cX2_within 5 = .ok (.iload_n 0, 1) := by decide +kernel
theorem dX2_within_6 : decode cX2_within 6 = .ok (.iload_n 2, 1) := by decide +kernel
theorem dX2_within_7 : decode cX2_within 7 = .ok (.if_icmp .gt 7, 3) := by decide +kernel
theorem dX2_within_10 : decode cX2_within 10 = .ok (.iconst 1, 1) := by decide +kernel
theorem dX2_within_11 : decode cX2_within 11 = .ok (.goto 4, 3) := by decide +kernel
theorem dX2_within_14 : decode cX2_within 14 = .ok (.iconst 0, 1) := by decide +kernel
theorem dX2_within_15 : decode cX2_within 15 = .ok (.ireturn, 1) := by decide +kernel
set_option maxRecDepth 20000 in
theorem ggX2_lanternNumbered_X2_within : GoodIn wsX2_lanternNumbered wsX2_within := goodIn_r _ [7] (by decide +kernel) (by decide +kernel)
set_option maxRecDepth 20000 in
theorem gX2_lanternNumbered_X2_within : GoodIn wsX2_lanternNumbered (va_wsS RX2 53 yX2_within wsX2_within) := goodIn_app (goodIn_of _ (by decide +kernel)) ggX2_lanternNumbered_X2_within
theorem dX2_lanternNumbered_0 : decode cX2_lanternNumbered 0 = .ok (.iload_n 1, 1) := by decide +kernel
theorem dX2_lanternNumbered_1 : decode cX2_lanternNumbered 1 = .ok (.iconst 0, 1) := by decide +kernel
theorem dX2_lanternNumbered_2 : decode cX2_lanternNumbered 2 = .ok (.aload_n 0, 1) := by decide +kernel
theorem dX2_lanternNumbered_3 : decode cX2_lanternNumbered 3 = .ok (.getfield 11, 3) := by decide +kernel
theorem dX2_lanternNumbered_6 : decode cX2_lanternNumbered 6 = .ok (.arraylength, 1) := by decide +kernel
theorem dX2_lanternNumbered_7 : decode cX2_lanternNumbered 7 = .ok (.iconst 1, 1) := by decide +kernel
theorem dX2_lanternNumbered_8 : decode cX2_lanternNumbered 8 = .ok (.isub, 1) := by decide +kernel
theorem dX2_lanternNumbered_9 : decode cX2_lanternNumbered 9 = .ok (.invokestatic 53, 3) := by decide +kernel
theorem dX2_lanternNumbered_12 : decode cX2_lanternNumbered 12 = .ok (.ifCond .eq 12, 3) := by decide +kernel
theorem dX2_lanternNumbered_15 : decode cX2_lanternNumbered 15 = .ok (.aload_n 0, 1) := by decide +kernel
theorem dX2_lanternNumbered_16 : decode cX2_lanternNumbered 16 = .ok (.getfield 11, 3) := by decide +kernel
theorem dX2_lanternNumbered_19 : decode cX2_lanternNumbered 19 = .ok (.iload_n 1, 1) := by decide +kernel
theorem dX2_lanternNumbered_20 : decode cX2_lanternNumbered 20 = .ok (.aaload, 1) := by decide +kernel
theorem dX2_lanternNumbered_21 : decode cX2_lanternNumbered 21 = .ok (.goto 4, 3) := by decide +kernel
theorem dX2_lanternNumbered_24 : decode cX2_lanternNumbered 24 = .ok (.aconst_null, 1) := by decide +kernel
theorem dX2_lanternNumbered_25 : decode cX2_lanternNumbered 25 = .ok (.astore_n 2, 1) := by decide +kernel
theorem dX2_lanternNumbered_26 : decode cX2_lanternNumbered 26 = .ok (.aload_n 2, 1) := by decide +kernel
theorem dX2_lanternNumbered_27 : decode cX2_lanternNumbered 27 = .ok (.ifnonnull 13, 3) := by decide +kernel
theorem dX2_lanternNumbered_30 : decode cX2_lanternNumbered 30 = .ok (.new 80, 3) := by decide +kernel
theorem dX2_lanternNumbered_33 : decode cX2_lanternNumbered 33 = .ok (.dup, 1) := by decide +kernel
theorem dX2_lanternNumbered_34 : decode cX2_lanternNumbered 34 = .ok (.ldc 198, 2) := by decide +kernel
theorem dX2_lanternNumbered_36 : decode cX2_lanternNumbered 36 = .ok (.invokespecial 84, 3) := by decide +kernel
theorem dX2_lanternNumbered_39 : decode cX2_lanternNumbered 39 = .ok (.athrow, 1) := by decide +kernel
theorem dX2_lanternNumbered_40 : decode cX2_lanternNumbered 40 = .ok (.aload_n 2, 1) := by decide +kernel
theorem dX2_lanternNumbered_41 : decode cX2_lanternNumbered 41 = .ok (.areturn, 1) := by decide +kernel
set_option maxRecDepth 20000 in
theorem ggX2_raftNumbered_X2_within : GoodIn wsX2_raftNumbered wsX2_within := goodIn_r _ [7] (by decide +kernel) (by decide +kernel)
set_option maxRecDepth 20000 in
theorem gX2_raftNumbered_X2_within : GoodIn wsX2_raftNumbered (va_wsS RX2 53 yX2_within wsX2_within) := goodIn_app (goodIn_of _ (by decide +kernel)) ggX2_raftNumbered_X2_within
theorem dX2_raftNumbered_0 : decode cX2_raftNumbered 0 = .ok (.iload_n 1, 1) := by decide +kernel
theorem dX2_raftNumbered_1 : decode cX2_raftNumbered 1 = .ok (.iconst 0, 1) := by decide +kernel
theorem dX2_raftNumbered_2 : decode cX2_raftNumbered 2 = .ok (.aload_n 0, 1) := by decide +kernel
theorem dX2_raftNumbered_3 : decode cX2_raftNumbered 3 = .ok (.getfield 17, 3) := by decide +kernel
theorem dX2_raftNumbered_6 : decode cX2_raftNumbered 6 = .ok (.arraylength, 1) := by decide +kernel
theorem dX2_raftNumbered_7 : decode cX2_raftNumbered 7 = .ok (.iconst 1, 1) := by decide +kernel
theorem dX2_raftNumbered_8 : decode cX2_raftNumbered 8 = .ok (.isub, 1) := by decide +kernel
theorem dX2_raftNumbered_9 : decode cX2_raftNumbered 9 = .ok (.invokestatic 53, 3) := by decide +kernel
theorem dX2_raftNumbered_12 : decode cX2_raftNumbered 12 = .ok (.ifCond .eq 12, 3) := by decide +kernel
theorem dX2_raftNumbered_15 : decode cX2_raftNumbered 15 = .ok (.aload_n 0, 1) := by decide +kernel
theorem dX2_raftNumbered_16 : decode cX2_raftNumbered 16 = .ok (.getfield 17, 3) := by decide +kernel
theorem dX2_raftNumbered_19 : decode cX2_raftNumbered 19 = .ok (.iload_n 1, 1) := by decide +kernel
theorem dX2_raftNumbered_20 : decode cX2_raftNumbered 20 = .ok (.aaload, 1) := by decide +kernel
theorem dX2_raftNumbered_21 : decode cX2_raftNumbered 21 = .ok (.goto 4, 3) := by decide +kernel
theorem dX2_raftNumbered_24 : decode cX2_raftNumbered 24 = .ok (.aconst_null, 1) := by decide +kernel
theorem dX2_raftNumbered_25 : decode cX2_raftNumbered 25 = .ok (.astore_n 2, 1) := by decide +kernel
theorem dX2_raftNumbered_26 : decode cX2_raftNumbered 26 = .ok (.aload_n 2, 1) := by decide +kernel
theorem dX2_raftNumbered_27 : decode cX2_raftNumbered 27 = .ok (.ifnonnull 13, 3) := by decide +kernel
theorem dX2_raftNumbered_30 : decode cX2_raftNumbered 30 = .ok (.new 80, 3) := by decide +kernel
theorem dX2_raftNumbered_33 : decode cX2_raftNumbered 33 = .ok (.dup, 1) := by decide +kernel
theorem dX2_raftNumbered_34 : decode cX2_raftNumbered 34 = .ok (.ldc 200, 2) := by decide +kernel
theorem dX2_raftNumbered_36 : decode cX2_raftNumbered 36 = .ok (.invokespecial 84, 3) := by decide +kernel
theorem dX2_raftNumbered_39 : decode cX2_raftNumbered 39 = .ok (.athrow, 1) := by decide +kernel
theorem dX2_raftNumbered_40 : decode cX2_raftNumbered 40 = .ok (.aload_n 2, 1) := by decide +kernel
theorem dX2_raftNumbered_41 : decode cX2_raftNumbered 41 = .ok (.areturn, 1) := by decide +kernel
theorem dX2_litLanterns_0 : decode cX2_litLanterns 0 = .ok (.iconst 0, 1) := by decide +kernel
theorem dX2_litLanterns_1 : decode cX2_litLanterns 1 = .ok (.istore_n 1, 1) := by decide +kernel
theorem dX2_litLanterns_2 : decode cX2_litLanterns 2 = .ok (.aload_n 0, 1) := by decide +kernel
theorem dX2_litLanterns_3 : decode cX2_litLanterns 3 = .ok (.getfield 11, 3) := by decide +kernel
theorem dX2_litLanterns_6 : decode cX2_litLanterns 6 = .ok (.astore_n 2, 1) := by decide +kernel
theorem dX2_litLanterns_7 : decode cX2_litLanterns 7 = .ok (.aload_n 2, 1) := by decide +kernel
theorem dX2_litLanterns_8 : decode cX2_litLanterns 8 = .ok (.arraylength, 1) := by decide +kernel
theorem dX2_litLanterns_9 : decode cX2_litLanterns 9 = .ok (.istore_n 3, 1) := by decide +kernel
theorem dX2_litLanterns_10 : decode cX2_litLanterns 10 = .ok (.iconst 0, 1) := by decide +kernel
theorem dX2_litLanterns_11 : decode cX2_litLanterns 11 = .ok (.istore 4, 2) := by decide +kernel
theorem dX2_litLanterns_13 : decode cX2_litLanterns 13 = .ok (.iload 4, 2) := by decide +kernel
theorem dX2_litLanterns_15 : decode cX2_litLanterns 15 = .ok (.iload_n 3, 1) := by decide +kernel
theorem dX2_litLanterns_16 : decode cX2_litLanterns 16 = .ok (.if_icmp .ge 32, 3) := by decide +kernel
theorem dX2_litLanterns_19 : decode cX2_litLanterns 19 = .ok (.aload_n 2, 1) := by decide +kernel
theorem dX2_litLanterns_20 : decode cX2_litLanterns 20 = .ok (.iload 4, 2) := by decide +kernel
theorem dX2_litLanterns_22 : decode cX2_litLanterns 22 = .ok (.aaload, 1) := by decide +kernel
theorem dX2_litLanterns_23 : decode cX2_litLanterns 23 = .ok (.astore 5, 2) := by decide +kernel
theorem dX2_litLanterns_25 : decode cX2_litLanterns 25 = .ok (.aload 5, 2) := by decide +kernel
theorem dX2_litLanterns_27 : decode cX2_litLanterns 27 = .ok (.ifnull 15, 3) := by decide +kernel
theorem dX2_litLanterns_30 : decode cX2_litLanterns 30 = .ok (.aload 5, 2) := by decide +kernel
theorem dX2_litLanterns_32 : decode cX2_litLanterns 32 = .ok (.getfield 125, 3) := by decide +kernel
theorem dX2_litLanterns_35 : decode cX2_litLanterns 35 = .ok (.iconst 1, 1) := by decide +kernel
theorem dX2_litLanterns_36 : decode cX2_litLanterns 36 = .ok (.if_icmp .ne 6, 3) := by decide +kernel
theorem dX2_litLanterns_39 : decode cX2_litLanterns 39 = .ok (.iinc 1 1, 3) := by decide +kernel
theorem dX2_litLanterns_42 : decode cX2_litLanterns 42 = .ok (.iinc 4 1, 3) := by decide +kernel
theorem dX2_litLanterns_45 : decode cX2_litLanterns 45 = .ok (.goto (-32), 3) := by decide +kernel
theorem dX2_litLanterns_48 : decode cX2_litLanterns 48 = .ok (.iload_n 1, 1) := by decide +kernel
theorem dX2_litLanterns_49 : decode cX2_litLanterns 49 = .ok (.ireturn, 1) := by decide +kernel
theorem dX2_raftsOnRiver_0 : decode cX2_raftsOnRiver 0 = .ok (.iconst 0, 1) := by decide +kernel
theorem dX2_raftsOnRiver_1 : decode cX2_raftsOnRiver 1 = .ok (.istore_n 1, 1) := by decide +kernel
theorem dX2_raftsOnRiver_2 : decode cX2_raftsOnRiver 2 = .ok (.aload_n 0, 1) := by decide +kernel
theorem dX2_raftsOnRiver_3 : decode cX2_raftsOnRiver 3 = .ok (.getfield 21, 3) := by decide +kernel
theorem dX2_raftsOnRiver_6 : decode cX2_raftsOnRiver 6 = .ok (.astore_n 2, 1) := by decide +kernel
theorem dX2_raftsOnRiver_7 : decode cX2_raftsOnRiver 7 = .ok (.aload_n 2, 1) := by decide +kernel
theorem dX2_raftsOnRiver_8 : decode cX2_raftsOnRiver 8 = .ok (.arraylength, 1) := by decide +kernel
theorem dX2_raftsOnRiver_9 : decode cX2_raftsOnRiver 9 = .ok (.istore_n 3, 1) := by decide +kernel
theorem dX2_raftsOnRiver_10 : decode cX2_raftsOnRiver 10 = .ok (.iconst 0, 1) := by decide +kernel
theorem dX2_raftsOnRiver_11 : decode cX2_raftsOnRiver 11 = .ok (.istore 4, 2) := by decide +kernel
theorem dX2_raftsOnRiver_13 : decode cX2_raftsOnRiver 13 = .ok (.iload 4, 2) := by decide +kernel
theorem dX2_raftsOnRiver_15 : decode cX2_raftsOnRiver 15 = .ok (.iload_n 3, 1) := by decide +kernel
theorem dX2_raftsOnRiver_16 : decode cX2_raftsOnRiver 16 = .ok (.if_icmp .ge 32, 3) := by decide +kernel
theorem dX2_raftsOnRiver_19 : decode cX2_raftsOnRiver 19 = .ok (.aload_n 2, 1) := by decide +kernel
theorem dX2_raftsOnRiver_20 : decode cX2_raftsOnRiver 20 = .ok (.iload 4, 2) := by decide +kernel
theorem dX2_raftsOnRiver_22 : decode cX2_raftsOnRiver 22 = .ok (.aaload, 1) := by decide +kernel
theorem dX2_raftsOnRiver_23 : decode cX2_raftsOnRiver 23 = .ok (.astore 5, 2) := by decide +kernel
theorem dX2_raftsOnRiver_25 : decode cX2_raftsOnRiver 25 = .ok (.aload 5, 2) := by decide +kernel
theorem dX2_raftsOnRiver_27 : decode cX2_raftsOnRiver 27 = .ok (.ifnull 15, 3) := by decide +kernel
theorem dX2_raftsOnRiver_30 : decode cX2_raftsOnRiver 30 = .ok (.aload 5, 2) := by decide +kernel
theorem dX2_raftsOnRiver_32 : decode cX2_raftsOnRiver 32 = .ok (.getfield 94, 3) := by decide +kernel
theorem dX2_raftsOnRiver_35 : decode cX2_raftsOnRiver 35 = .ok (.iconst 1, 1) := by decide +kernel
theorem dX2_raftsOnRiver_36 : decode cX2_raftsOnRiver 36 = .ok (.if_icmp .ne 6, 3) := by decide +kernel
theorem dX2_raftsOnRiver_39 : decode cX2_raftsOnRiver 39 = .ok (.iinc 1 1, 3) := by decide +kernel
theorem dX2_raftsOnRiver_42 : decode cX2_raftsOnRiver 42 = .ok (.iinc 4 1, 3) := by decide +kernel
theorem dX2_raftsOnRiver_45 : decode cX2_raftsOnRiver 45 = .ok (.goto (-32), 3) := by decide +kernel
theorem dX2_raftsOnRiver_48 : decode cX2_raftsOnRiver 48 = .ok (.iload_n 1, 1) := by decide +kernel
theorem dX2_raftsOnRiver_49 : decode cX2_raftsOnRiver 49 = .ok (.ireturn, 1) := by decide +kernel
set_option maxRecDepth 20000 in
theorem ggX2_hasRoomToLaunch_X1_rear : GoodIn wsX2_hasRoomToLaunch wsX1_rear := goodIn_r _ [8, 9, 22, 23, 24, 25, 26, 27, 28] (by decide +kernel) (by decide +kernel)
set_option maxRecDepth 20000 in
theorem gX2_hasRoomToLaunch_X1_rear : GoodIn wsX2_hasRoomToLaunch (wsV RX2 202 RX1 yX1_rear wsX1_rear) := goodIn_app (goodIn_of _ (by decide +kernel)) ggX2_hasRoomToLaunch_X1_rear
theorem dX2_hasRoomToLaunch_0 : decode cX2_hasRoomToLaunch 0 = .ok (.aconst_null, 1) := by decide +kernel
theorem dX2_hasRoomToLaunch_1 : decode cX2_hasRoomToLaunch 1 = .ok (.astore_n 1, 1) := by decide +kernel
theorem dX2_hasRoomToLaunch_2 : decode cX2_hasRoomToLaunch 2 = .ok (.aload_n 0, 1) := by decide +kernel
theorem dX2_hasRoomToLaunch_3 : decode cX2_hasRoomToLaunch 3 = .ok (.getfield 21, 3) := by decide +kernel
theorem dX2_hasRoomToLaunch_6 : decode cX2_hasRoomToLaunch 6 = .ok (.astore_n 2, 1) := by decide +kernel
theorem dX2_hasRoomToLaunch_7 : decode cX2_hasRoomToLaunch 7 = .ok (.aload_n 2, 1) := by decide +kernel
theorem dX2_hasRoomToLaunch_8 : decode cX2_hasRoomToLaunch 8 = .ok (.arraylength, 1) := by decide +kernel
theorem dX2_hasRoomToLaunch_9 : decode cX2_hasRoomToLaunch 9 = .ok (.istore_n 3, 1) := by decide +kernel
theorem dX2_hasRoomToLaunch_10 : decode cX2_hasRoomToLaunch 10 = .ok (.iconst 0, 1) := by decide +kernel
theorem dX2_hasRoomToLaunch_11 : decode cX2_hasRoomToLaunch 11 = .ok (.istore 4, 2) := by decide +kernel
theorem dX2_hasRoomToLaunch_13 : decode cX2_hasRoomToLaunch 13 = .ok (.iload 4, 2) := by decide +kernel
theorem dX2_hasRoomToLaunch_15 : decode cX2_hasRoomToLaunch 15 = .ok (.iload_n 3, 1) := by decide +kernel
theorem dX2_hasRoomToLaunch_16 : decode cX2_hasRoomToLaunch 16 = .ok (.if_icmp .ge 32, 3) := by decide +kernel
theorem dX2_hasRoomToLaunch_19 : decode cX2_hasRoomToLaunch 19 = .ok (.aload_n 2, 1) := by decide +kernel
theorem dX2_hasRoomToLaunch_20 : decode cX2_hasRoomToLaunch 20 = .ok (.iload 4, 2) := by decide +kernel
theorem dX2_hasRoomToLaunch_22 : decode cX2_hasRoomToLaunch 22 = .ok (.aaload, 1) := by decide +kernel
theorem dX2_hasRoomToLaunch_23 : decode cX2_hasRoomToLaunch 23 = .ok (.astore 5, 2) := by decide +kernel
theorem dX2_hasRoomToLaunch_25 : decode cX2_hasRoomToLaunch 25 = .ok (.aload 5, 2) := by decide +kernel
theorem dX2_hasRoomToLaunch_27 : decode cX2_hasRoomToLaunch 27 = .ok (.ifnull 15, 3) := by decide +kernel
theorem dX2_hasRoomToLaunch_30 : decode cX2_hasRoomToLaunch 30 = .ok (.aload 5, 2) := by decide +kernel
theorem dX2_hasRoomToLaunch_32 : decode cX2_hasRoomToLaunch 32 = .ok (.getfield 94, 3) := by decide +kernel
theorem dX2_hasRoomToLaunch_35 : decode cX2_hasRoomToLaunch 35 = .ok (.iconst 1, 1) := by decide +kernel
theorem dX2_hasRoomToLaunch_36 : decode cX2_hasRoomToLaunch 36 = .ok (.if_icmp .ne 6, 3) := by decide +kernel
theorem dX2_hasRoomToLaunch_39 : decode cX2_hasRoomToLaunch 39 = .ok (.aload 5, 2) := by decide +kernel
theorem dX2_hasRoomToLaunch_41 : decode cX2_hasRoomToLaunch 41 = .ok (.astore_n 1, 1) := by decide +kernel
theorem dX2_hasRoomToLaunch_42 : decode cX2_hasRoomToLaunch 42 = .ok (.iinc 4 1, 3) := by decide +kernel
theorem dX2_hasRoomToLaunch_45 : decode cX2_hasRoomToLaunch 45 = .ok (.goto (-32), 3) := by decide +kernel
theorem dX2_hasRoomToLaunch_48 : decode cX2_hasRoomToLaunch 48 = .ok (.aload_n 1, 1) := by decide +kernel
theorem dX2_hasRoomToLaunch_49 : decode cX2_hasRoomToLaunch 49 = .ok (.ifnull 17, 3) := by decide +kernel
theorem dX2_hasRoomToLaunch_52 : decode cX2_hasRoomToLaunch 52 = .ok (.aload_n 1, 1) := by decide +kernel
theorem dX2_hasRoomToLaunch_53 : decode cX2_hasRoomToLaunch 53 = .ok (.invokevirtual 202, 3) := by decide +kernel
theorem dX2_hasRoomToLaunch_56 : decode cX2_hasRoomToLaunch 56 = .ok (.bipush 9, 2) := by decide +kernel
theorem dX2_hasRoomToLaunch_58 : decode cX2_hasRoomToLaunch 58 = .ok (.aload_n 0, 1) := by decide +kernel
theorem dX2_hasRoomToLaunch_59 : decode cX2_hasRoomToLaunch 59 = .ok (.getfield 41, 3) := by decide +kernel
theorem dX2_hasRoomToLaunch_62 : decode cX2_hasRoomToLaunch 62 = .ok (.iadd, 1) := by decide +kernel
theorem dX2_hasRoomToLaunch_63 : decode cX2_hasRoomToLaunch 63 = .ok (.if_icmp .lt 7, 3) := by decide +kernel
theorem dX2_hasRoomToLaunch_66 : decode cX2_hasRoomToLaunch 66 = .ok (.iconst 1, 1) := by decide +kernel
theorem dX2_hasRoomToLaunch_67 : decode cX2_hasRoomToLaunch 67 = .ok (.goto 4, 3) := by decide +kernel
theorem dX2_hasRoomToLaunch_70 : decode cX2_hasRoomToLaunch 70 = .ok (.iconst 0, 1) := by decide +kernel
theorem dX2_hasRoomToLaunch_71 : decode cX2_hasRoomToLaunch 71 = .ok (.ireturn, 1) := by decide +kernel
set_option maxRecDepth 20000 in
theorem ggX2_passOne_X2_moveRafts : GoodIn wsX2_passOne wsX2_moveRafts := goodIn_r _ [6, 7, 8, 9, 10, 11, 12, 13, 14, 15, 16, 17, 18, 19, 20, 21, 22, 23, 24, 25, 26, 27, 98, 99, 100, 101, 102, 103, 104, 105, 106, 107, 108, 109, 110, 111, 112, 113, 114, 115, 116] (by decide +kernel) (by decide +kernel)
set_option maxRecDepth 20000 in
theorem gX2_passOne_X2_moveRafts : GoodIn wsX2_passOne (wsV RX2 205 RX2 yX2_moveRafts wsX2_moveRafts) := goodIn_app (goodIn_of _ (by decide +kernel)) ggX2_passOne_X2_moveRafts
set_option maxRecDepth 20000 in
theorem ggX2_passOne_X2_letRaftsGo : GoodIn wsX2_passOne wsX2_letRaftsGo := goodIn_r _ [31, 7, 8, 32, 33, 34, 35, 13, 36, 37, 38, 39, 40, 41, 42, 43, 98, 99, 100, 101, 102, 103, 104, 105, 106, 107, 108, 109, 110, 111, 112, 113, 114, 115, 116, 117, 118, 119, 120, 121, 122, 123] (by decide +kernel) (by decide +kernel)
set_option maxRecDepth 20000 in
theorem gX2_passOne_X2_letRaftsGo : GoodIn wsX2_passOne (wsV RX2 208 RX2 yX2_letRaftsGo wsX2_letRaftsGo) := goodIn_app (goodIn_of _ (by decide +kernel)) ggX2_passOne_X2_letRaftsGo
set_option maxRecDepth 20000 in
theorem ggX2_passOne_X2_blowGust : GoodIn wsX2_passOne wsX2_blowGust := goodIn_r _ [47, 1, 48, 49, 50, 51, 52, 53, 5, 54, 55, 56, 57, 41, 58, 59, 60, 61, 39, 40, 42, 43, 98, 99, 100, 101, 102, 103, 104, 105, 106, 107, 108, 109, 117, 118, 119, 120, 121, 122, 123] (by decide +kernel) (by decide +kernel)
set_option maxRecDepth 20000 in
theorem gX2_passOne_X2_blowGust : GoodIn wsX2_passOne (wsV RX2 211 RX2 yX2_blowGust wsX2_blowGust) := goodIn_app (goodIn_of _ (by decide +kernel)) ggX2_passOne_X2_blowGust
set_option maxRecDepth 20000 in
theorem ggX2_passOne_X2_burnCandles : GoodIn wsX2_passOne wsX2_burnCandles := goodIn_r _ [65, 49, 50, 66, 67, 68, 41, 69, 70, 43, 98, 99, 100, 101, 102, 103, 104, 105, 106, 107, 108, 109, 117, 118, 119, 120, 121, 122, 123] (by decide +kernel) (by decide +kernel)
set_option maxRecDepth 20000 in
theorem gX2_passOne_X2_burnCandles : GoodIn wsX2_passOne (wsV RX2 214 RX2 yX2_burnCandles wsX2_burnCandles) := goodIn_app (goodIn_of _ (by decide +kernel)) ggX2_passOne_X2_burnCandles
set_option maxRecDepth 20000 in
theorem ggX2_passOne_X2_sendMarshal : GoodIn wsX2_passOne wsX2_sendMarshal := goodIn_r _ [74, 49, 50, 75, 76, 77, 78, 5, 79, 80, 81, 82, 83, 84, 85, 86, 87, 88, 41, 89, 90, 91, 92, 93, 94, 95, 96, 97, 61, 39, 40, 42, 43, 98, 99, 100, 101, 102, 103, 104, 105, 106, 107, 108, 109, 117, 118, 119, 120, 121, 122, 123, 110, 111, 112, 113, 114, 115, 116] (by decide +kernel) (by decide +kernel)
set_option maxRecDepth 20000 in
theorem gX2_passOne_X2_sendMarshal : GoodIn wsX2_passOne (wsV RX2 217 RX2 yX2_sendMarshal wsX2_sendMarshal) := goodIn_app (goodIn_of _ (by decide +kernel)) ggX2_passOne_X2_sendMarshal
theorem dX2_passOne_0 : decode cX2_passOne 0 = .ok (.aload_n 0, 1) := by decide +kernel
theorem dX2_passOne_1 : decode cX2_passOne 1 = .ok (.dup, 1) := by decide +kernel
theorem dX2_passOne_2 : decode cX2_passOne 2 = .ok (.getfield 38, 3) := by decide +kernel
theorem dX2_passOne_5 : decode cX2_passOne 5 = .ok (.iconst 1, 1) := by decide +kernel
theorem dX2_passOne_6 : decode cX2_passOne 6 = .ok (.iadd, 1) := by decide +kernel
theorem dX2_passOne_7 : decode cX2_passOne 7 = .ok (.putfield 38, 3) := by decide +kernel
theorem dX2_passOne_10 : decode cX2_passOne 10 = .ok (.aload_n 0, 1) := by decide +kernel
theorem dX2_passOne_11 : decode cX2_passOne 11 = .ok (.invokevirtual 205, 3) := by decide +kernel
theorem dX2_passOne_14 : decode cX2_passOne 14 = .ok (.aload_n 0, 1) := by decide +kernel
theorem dX2_passOne_15 : decode cX2_passOne 15 = .ok (.invokevirtual 208, 3) := by decide +kernel
theorem dX2_passOne_18 : decode cX2_passOne 18 = .ok (.aload_n 0, 1) := by decide +kernel
theorem dX2_passOne_19 : decode cX2_passOne 19 = .ok (.invokevirtual 211, 3) := by decide +kernel
theorem dX2_passOne_22 : decode cX2_passOne 22 = .ok (.aload_n 0, 1) := by decide +kernel
theorem dX2_passOne_23 : decode cX2_passOne 23 = .ok (.invokevirtual 214, 3) := by decide +kernel
theorem dX2_passOne_26 : decode cX2_passOne 26 = .ok (.aload_n 0, 1) := by decide +kernel
theorem dX2_passOne_27 : decode cX2_passOne 27 = .ok (.invokevirtual 217, 3) := by decide +kernel
theorem dX2_passOne_30 : decode cX2_passOne 30 = .ok (.return_, 1) := by decide +kernel
set_option maxRecDepth 20000 in
theorem ggX2_moveRafts_X1_moveBehind : GoodIn wsX2_moveRafts wsX1_moveBehind := goodIn_r _ [8, 9, 10, 11, 12, 13, 14, 15, 16, 17, 18, 19, 20, 7, 21, 34, 35, 36, 37, 38, 39, 40] (by decide +kernel) (by decide +kernel)
set_option maxRecDepth 20000 in
theorem gX2_moveRafts_X1_moveBehind : GoodIn wsX2_moveRafts (wsV RX2 220 RX1 yX1_moveBehind wsX1_moveBehind) := goodIn_app (goodIn_of _ (by decide +kernel)) ggX2_moveRafts_X1_moveBehind
theorem dX2_moveRafts_0 : decode cX2_moveRafts 0 = .ok (.aconst_null, 1) := by decide +kernel
theorem dX2_moveRafts_1 : decode cX2_moveRafts 1 = .ok (.astore_n 1, 1) := by decide +kernel
theorem dX2_moveRafts_2 : decode cX2_moveRafts 2 = .ok (.aload_n 0, 1) := by decide +kernel
theorem dX2_moveRafts_3 : decode cX2_moveRafts 3 = .ok (.getfield 21, 3) := by decide +kernel
theorem dX2_moveRafts_6 : decode cX2_moveRafts 6 = .ok (.astore_n 2, 1) := by decide +kernel
theorem dX2_moveRafts_7 : decode cX2_moveRafts 7 = .ok (.aload_n 2, 1) := by decide +kernel
theorem dX2_moveRafts_8 : decode cX2_moveRafts 8 = .ok (.arraylength, 1) := by decide +kernel
theorem dX2_moveRafts_9 : decode cX2_moveRafts 9 = .ok (.istore_n 3, 1) := by decide +kernel
theorem dX2_moveRafts_10 : decode cX2_moveRafts 10 = .ok (.iconst 0, 1) := by decide +kernel
theorem dX2_moveRafts_11 : decode cX2_moveRafts 11 = .ok (.istore 4, 2) := by decide +kernel
theorem dX2_moveRafts_13 : decode cX2_moveRafts 13 = .ok (.iload 4, 2) := by decide +kernel
theorem dX2_moveRafts_15 : decode cX2_moveRafts 15 = .ok (.iload_n 3, 1) := by decide +kernel
theorem dX2_moveRafts_16 : decode cX2_moveRafts 16 = .ok (.if_icmp .ge 42, 3) := by decide +kernel
theorem dX2_moveRafts_19 : decode cX2_moveRafts 19 = .ok (.aload_n 2, 1) := by decide +kernel
theorem dX2_moveRafts_20 : decode cX2_moveRafts 20 = .ok (.iload 4, 2) := by decide +kernel
theorem dX2_moveRafts_22 : decode cX2_moveRafts 22 = .ok (.aaload, 1) := by decide +kernel
theorem dX2_moveRafts_23 : decode cX2_moveRafts 23 = .ok (.astore 5, 2) := by decide +kernel
theorem dX2_moveRafts_25 : decode cX2_moveRafts 25 = .ok (.aload 5, 2) := by decide +kernel
theorem dX2_moveRafts_27 : decode cX2_moveRafts 27 = .ok (.ifnull 25, 3) := by decide +kernel
theorem dX2_moveRafts_30 : decode cX2_moveRafts 30 = .ok (.aload 5, 2) := by decide +kernel
theorem dX2_moveRafts_32 : decode cX2_moveRafts 32 = .ok (.getfield 94, 3) := by decide +kernel
theorem dX2_moveRafts_35 : decode cX2_moveRafts 35 = .ok (.iconst 1, 1) := by decide +kernel
theorem dX2_moveRafts_36 : decode cX2_moveRafts 36 = .ok (.if_icmp .ne 16, 3) := by decide +kernel
theorem dX2_moveRafts_39 : decode cX2_moveRafts 39 = .ok (.aload 5, 2) := by decide +kernel
theorem dX2_moveRafts_41 : decode cX2_moveRafts 41 = .ok (.aload_n 1, 1) := by decide +kernel
theorem dX2_moveRafts_42 : decode cX2_moveRafts 42 = .ok (.aload_n 0, 1) := by decide +kernel
theorem dX2_moveRafts_43 : decode cX2_moveRafts 43 = .ok (.getfield 41, 3) := by decide +kernel
theorem dX2_moveRafts_46 : decode cX2_moveRafts 46 = .ok (.invokevirtual 220, 3) := by decide +kernel
theorem dX2_moveRafts_49 : decode cX2_moveRafts 49 = .ok (.aload 5, 2) := by decide +kernel
theorem dX2_moveRafts_51 : decode cX2_moveRafts 51 = .ok (.astore_n 1, 1) := by decide +kernel
theorem dX2_moveRafts_52 : decode cX2_moveRafts 52 = .ok (.iinc 4 1, 3) := by decide +kernel
theorem dX2_moveRafts_55 : decode cX2_moveRafts 55 = .ok (.goto (-42), 3) := by decide +kernel
theorem dX2_moveRafts_58 : decode cX2_moveRafts 58 = .ok (.return_, 1) := by decide +kernel
set_option maxRecDepth 20000 in
theorem ggX2_letRaftsGo_X1_darkenAll : GoodIn wsX2_letRaftsGo wsX1_darkenAll := goodIn_r _ [8, 9, 10, 11, 12, 13, 14, 15, 28, 29, 30, 31, 32, 33, 34, 35, 36, 37, 38, 39, 40, 41] (by decide +kernel) (by decide +kernel)
set_option maxRecDepth 20000 in
theorem gX2_letRaftsGo_X1_darkenAll : GoodIn wsX2_letRaftsGo (wsV RX2 224 RX1 yX1_darkenAll wsX1_darkenAll) := goodIn_app (goodIn_of _ (by decide +kernel)) ggX2_letRaftsGo_X1_darkenAll
theorem dX2_letRaftsGo_0 : decode cX2_letRaftsGo 0 = .ok (.aload_n 0, 1) := by decide +kernel
theorem dX2_letRaftsGo_1 : decode cX2_letRaftsGo 1 = .ok (.getfield 21, 3) := by decide +kernel
theorem dX2_letRaftsGo_4 : decode cX2_letRaftsGo 4 = .ok (.astore_n 1, 1) := by decide +kernel
theorem dX2_letRaftsGo_5 : decode cX2_letRaftsGo 5 = .ok (.aload_n 1, 1) := by decide +kernel
theorem dX2_letRaftsGo_6 : decode cX2_letRaftsGo 6 = .ok (.arraylength, 1) := by decide +kernel
theorem dX2_letRaftsGo_7 : decode cX2_letRaftsGo 7 = .ok (.istore_n 2, 1) := by decide +kernel
theorem dX2_letRaftsGo_8 : decode cX2_letRaftsGo 8 = .ok (.iconst 0, 1) := by decide +kernel
theorem dX2_letRaftsGo_9 : decode cX2_letRaftsGo 9 = .ok (.istore_n 3, 1) := by decide +kernel
theorem dX2_letRaftsGo_10 : decode cX2_letRaftsGo 10 = .ok (.iload_n 3, 1) := by decide +kernel
theorem dX2_letRaftsGo_11 : decode cX2_letRaftsGo 11 = .ok (.iload_n 2, 1) := by decide +kernel
theorem dX2_letRaftsGo_12 : decode cX2_letRaftsGo 12 = .ok (.if_icmp .ge 50, 3) := by decide +kernel
theorem dX2_letRaftsGo_15 : decode cX2_letRaftsGo 15 = .ok (.aload_n 1, 1) := by decide +kernel
theorem dX2_letRaftsGo_16 : decode cX2_letRaftsGo 16 = .ok (.iload_n 3, 1) := by decide +kernel
theorem dX2_letRaftsGo_17 : decode cX2_letRaftsGo 17 = .ok (.aaload, 1) := by decide +kernel
theorem dX2_letRaftsGo_18 : decode cX2_letRaftsGo 18 = .ok (.astore 4, 2) := by decide +kernel
theorem dX2_letRaftsGo_20 : decode cX2_letRaftsGo 20 = .ok (.aload 4, 2) := by decide +kernel
theorem dX2_letRaftsGo_22 : decode cX2_letRaftsGo 22 = .ok (.ifnull 34, 3) := by decide +kernel
theorem dX2_letRaftsGo_25 : decode cX2_letRaftsGo 25 = .ok (.aload 4, 2) := by decide +kernel
theorem dX2_letRaftsGo_27 : decode cX2_letRaftsGo 27 = .ok (.getfield 94, 3) := by decide +kernel
theorem dX2_letRaftsGo_30 : decode cX2_letRaftsGo 30 = .ok (.iconst 1, 1) := by decide +kernel
theorem dX2_letRaftsGo_31 : decode cX2_letRaftsGo 31 = .ok (.if_icmp .ne 25, 3) := by decide +kernel
theorem dX2_letRaftsGo_34 : decode cX2_letRaftsGo 34 = .ok (.aload 4, 2) := by decide +kernel
theorem dX2_letRaftsGo_36 : decode cX2_letRaftsGo 36 = .ok (.getfield 153, 3) := by decide +kernel
theorem dX2_letRaftsGo_39 : decode cX2_letRaftsGo 39 = .ok (.sipush 500, 3) := by decide +kernel
theorem dX2_letRaftsGo_42 : decode cX2_letRaftsGo 42 = .ok (.if_icmp .lt 14, 3) := by decide +kernel
theorem dX2_letRaftsGo_45 : decode cX2_letRaftsGo 45 = .ok (.aload 4, 2) := by decide +kernel
theorem dX2_letRaftsGo_47 : decode cX2_letRaftsGo 47 = .ok (.iconst 2, 1) := by decide +kernel
theorem dX2_letRaftsGo_48 : decode cX2_letRaftsGo 48 = .ok (.putfield 94, 3) := by decide +kernel
theorem dX2_letRaftsGo_51 : decode cX2_letRaftsGo 51 = .ok (.aload 4, 2) := by decide +kernel
theorem dX2_letRaftsGo_53 : decode cX2_letRaftsGo 53 = .ok (.invokevirtual 224, 3) := by decide +kernel
theorem dX2_letRaftsGo_56 : decode cX2_letRaftsGo 56 = .ok (.iinc 3 1, 3) := by decide +kernel
theorem dX2_letRaftsGo_59 : decode cX2_letRaftsGo 59 = .ok (.goto (-49), 3) := by decide +kernel
theorem dX2_letRaftsGo_62 : decode cX2_letRaftsGo 62 = .ok (.return_, 1) := by decide +kernel
set_option maxRecDepth 20000 in
theorem ggX2_blowGust_X2_within : GoodIn wsX2_blowGust wsX2_within := goodIn_r _ [9] (by decide +kernel) (by decide +kernel)
set_option maxRecDepth 20000 in
theorem gX2_blowGust_X2_within : GoodIn wsX2_blowGust (va_wsS RX2 53 yX2_within wsX2_within) := goodIn_app (goodIn_of _ (by decide +kernel)) ggX2_blowGust_X2_within
set_option maxRecDepth 20000 in
theorem ggX2_blowGust_X0_firmness : GoodIn wsX2_blowGust wsX0_firmness := goodIn_r _ [14, 15, 16, 34, 35, 36, 37, 38, 39, 40] (by decide +kernel) (by decide +kernel)
set_option maxRecDepth 20000 in
theorem gX2_blowGust_X0_firmness : GoodIn wsX2_blowGust (wsV RX2 227 RX0 yX0_firmness wsX0_firmness) := goodIn_app (goodIn_of _ (by decide +kernel)) ggX2_blowGust_X0_firmness
set_option maxRecDepth 20000 in
theorem ggX2_blowGust_X0_darken : GoodIn wsX2_blowGust wsX0_darken := goodIn_r _ [20, 21, 34, 35, 36, 37, 38, 39, 40] (by decide +kernel) (by decide +kernel)
set_option maxRecDepth 20000 in
theorem gX2_blowGust_X0_darken : GoodIn wsX2_blowGust (wsV RX2 119 RX0 yX0_darken wsX0_darken) := goodIn_app (goodIn_of _ (by decide +kernel)) ggX2_blowGust_X0_darken
theorem dX2_blowGust_0 : decode cX2_blowGust 0 = .ok (.aload_n 0, 1) := by decide +kernel
theorem dX2_blowGust_1 : decode cX2_blowGust 1 = .ok (.getfield 38, 3) := by decide +kernel
theorem dX2_blowGust_4 : decode cX2_blowGust 4 = .ok (.iconst 1, 1) := by decide +kernel
theorem dX2_blowGust_5 : decode cX2_blowGust 5 = .ok (.sipush 400, 3) := by decide +kernel
theorem dX2_blowGust_8 : decode cX2_blowGust 8 = .ok (.invokestatic 53, 3) := by decide +kernel
theorem dX2_blowGust_11 : decode cX2_blowGust 11 = .ok (.ifCond .eq 15, 3) := by decide +kernel
theorem dX2_blowGust_14 : decode cX2_blowGust 14 = .ok (.aload_n 0, 1) := by decide +kernel
theorem dX2_blowGust_15 : decode cX2_blowGust 15 = .ok (.getfield 24, 3) := by decide +kernel
theorem dX2_blowGust_18 : decode cX2_blowGust 18 = .ok (.aload_n 0, 1) := by decide +kernel
theorem dX2_blowGust_19 : decode cX2_blowGust 19 = .ok (.getfield 38, 3) := by decide +kernel
theorem dX2_blowGust_22 : decode cX2_blowGust 22 = .ok (.iaload, 1) := by decide +kernel
theorem dX2_blowGust_23 : decode cX2_blowGust 23 = .ok (.goto 4, 3) := by decide +kernel
theorem dX2_blowGust_26 : decode cX2_blowGust 26 = .ok (.iconst 0, 1) := by decide +kernel
theorem dX2_blowGust_27 : decode cX2_blowGust 27 = .ok (.istore_n 1, 1) := by decide +kernel
theorem dX2_blowGust_28 : decode cX2_blowGust 28 = .ok (.aload_n 0, 1) := by decide +kernel
theorem dX2_blowGust_29 : decode cX2_blowGust 29 = .ok (.getfield 11, 3) := by decide +kernel
theorem dX2_blowGust_32 : decode cX2_blowGust 32 = .ok (.astore_n 2, 1) := by decide +kernel
theorem dX2_blowGust_33 : decode cX2_blowGust 33 = .ok (.aload_n 2, 1) := by decide +kernel
theorem dX2_blowGust_34 : decode cX2_blowGust 34 = .ok (.arraylength, 1) := by decide +kernel
theorem dX2_blowGust_35 : decode cX2_blowGust 35 = .ok (.istore_n 3, 1) := by decide +kernel
theorem dX2_blowGust_36 : decode cX2_blowGust 36 = .ok (.iconst 0, 1) := by decide +kernel
theorem dX2_blowGust_37 : decode cX2_blowGust 37 = .ok (.istore 4, 2) := by decide +kernel
theorem dX2_blowGust_39 : decode cX2_blowGust 39 = .ok (.iload 4, 2) := by decide +kernel
theorem dX2_blowGust_41 : decode cX2_blowGust 41 = .ok (.iload_n 3, 1) := by decide +kernel
theorem dX2_blowGust_42 : decode cX2_blowGust 42 = .ok (.if_icmp .ge 53, 3) := by decide +kernel
theorem dX2_blowGust_45 : decode cX2_blowGust 45 = .ok (.aload_n 2, 1) := by decide +kernel
theorem dX2_blowGust_46 : decode cX2_blowGust 46 = .ok (.iload 4, 2) := by decide +kernel
theorem dX2_blowGust_48 : decode cX2_blowGust 48 = .ok (.aaload, 1) := by decide +kernel
theorem dX2_blowGust_49 : decode cX2_blowGust 49 = .ok (.astore 5, 2) := by decide +kernel
theorem dX2_blowGust_51 : decode cX2_blowGust 51 = .ok (.aload 5, 2) := by decide +kernel
theorem dX2_blowGust_53 : decode cX2_blowGust 53 = .ok (.ifnull 36, 3) := by decide +kernel
theorem dX2_blowGust_56 : decode cX2_blowGust 56 = .ok (.aload 5, 2) := by decide +kernel
theorem dX2_blowGust_58 : decode cX2_blowGust 58 = .ok (.getfield 125, 3) := by decide +kernel
theorem dX2_blowGust_61 : decode cX2_blowGust 61 = .ok (.iconst 1, 1) := by decide +kernel
theorem dX2_blowGust_62 : decode cX2_blowGust 62 = .ok (.if_icmp .ne 27, 3) := by decide +kernel
theorem dX2_blowGust_65 : decode cX2_blowGust 65 = .ok (.aload 5, 2) := by decide +kernel
theorem dX2_blowGust_67 : decode cX2_blowGust 67 = .ok (.invokevirtual 227, 3) := by decide +kernel
theorem dX2_blowGust_70 : decode cX2_blowGust 70 = .ok (.iload_n 1, 1) := by decide +kernel
theorem dX2_blowGust_71 : decode cX2_blowGust 71 = .ok (.if_icmp .ge 18, 3) := by decide +kernel
theorem dX2_blowGust_74 : decode cX2_blowGust 74 = .ok (.aload 5, 2) := by decide +kernel
theorem dX2_blowGust_76 : decode cX2_blowGust 76 = .ok (.invokevirtual 119, 3) := by decide +kernel
theorem dX2_blowGust_79 : decode cX2_blowGust 79 = .ok (.aload_n 0, 1) := by decide +kernel
theorem dX2_blowGust_80 : decode cX2_blowGust 80 = .ok (.dup, 1) := by decide +kernel
theorem dX2_blowGust_81 : decode cX2_blowGust 81 = .ok (.getfield 47, 3) := by decide +kernel
theorem dX2_blowGust_84 : decode cX2_blowGust 84 = .ok (.iconst 1, 1) := by decide +kernel
theorem dX2_blowGust_85 : decode cX2_blowGust 85 = .ok (.iadd, 1) := by decide +kernel
theorem dX2_blowGust_86 : decode cX2_blowGust 86 = .ok (.putfield 47, 3) := by decide +kernel
theorem dX2_blowGust_89 : decode cX2_blowGust 89 = .ok (.iinc 4 1, 3) := by decide +kernel
theorem dX2_blowGust_92 : decode cX2_blowGust 92 = .ok (.goto (-53), 3) := by decide +kernel
theorem dX2_blowGust_95 : decode cX2_blowGust 95 = .ok (.return_, 1) := by decide +kernel
set_option maxRecDepth 20000 in
theorem ggX2_burnCandles_X0_burnOneMinute : GoodIn wsX2_burnCandles wsX0_burnOneMinute := goodIn_r _ [7, 8, 9, 22, 23, 24, 25, 26, 27, 28] (by decide +kernel) (by decide +kernel)
set_option maxRecDepth 20000 in
theorem gX2_burnCandles_X0_burnOneMinute : GoodIn wsX2_burnCandles (wsV RX2 230 RX0 yX0_burnOneMinute wsX0_burnOneMinute) := goodIn_app (goodIn_of _ (by decide +kernel)) ggX2_burnCandles_X0_burnOneMinute
theorem dX2_burnCandles_0 : decode cX2_burnCandles 0 = .ok (.aload_n 0, 1) := by decide +kernel
theorem dX2_burnCandles_1 : decode cX2_burnCandles 1 = .ok (.getfield 11, 3) := by decide +kernel
theorem dX2_burnCandles_4 : decode cX2_burnCandles 4 = .ok (.astore_n 1, 1) := by decide +kernel
theorem dX2_burnCandles_5 : decode cX2_burnCandles 5 = .ok (.aload_n 1, 1) := by decide +kernel
theorem dX2_burnCandles_6 : decode cX2_burnCandles 6 = .ok (.arraylength, 1) := by decide +kernel
theorem dX2_burnCandles_7 : decode cX2_burnCandles 7 = .ok (.istore_n 2, 1) := by decide +kernel
theorem dX2_burnCandles_8 : decode cX2_burnCandles 8 = .ok (.iconst 0, 1) := by decide +kernel
theorem dX2_burnCandles_9 : decode cX2_burnCandles 9 = .ok (.istore_n 3, 1) := by decide +kernel
theorem dX2_burnCandles_10 : decode cX2_burnCandles 10 = .ok (.iload_n 3, 1) := by decide +kernel
theorem dX2_burnCandles_11 : decode cX2_burnCandles 11 = .ok (.iload_n 2, 1) := by decide +kernel
theorem dX2_burnCandles_12 : decode cX2_burnCandles 12 = .ok (.if_icmp .ge 33, 3) := by decide +kernel
theorem dX2_burnCandles_15 : decode cX2_burnCandles 15 = .ok (.aload_n 1, 1) := by decide +kernel
theorem dX2_burnCandles_16 : decode cX2_burnCandles 16 = .ok (.iload_n 3, 1) := by decide +kernel
theorem dX2_burnCandles_17 : decode cX2_burnCandles 17 = .ok (.aaload, 1) := by decide +kernel
theorem dX2_burnCandles_18 : decode cX2_burnCandles 18 = .ok (.astore 4, 2) := by decide +kernel
theorem dX2_burnCandles_20 : decode cX2_burnCandles 20 = .ok (.aload 4, 2) := by decide +kernel
theorem dX2_burnCandles_22 : decode cX2_burnCandles 22 = .ok (.ifnull 17, 3) := by decide +kernel
theorem dX2_burnCandles_25 : decode cX2_burnCandles 25 = .ok (.aload 4, 2) := by decide +kernel
theorem dX2_burnCandles_27 : decode cX2_burnCandles 27 = .ok (.getfield 125, 3) := by decide +kernel
theorem dX2_burnCandles_30 : decode cX2_burnCandles 30 = .ok (.iconst 1, 1) := by decide +kernel
theorem dX2_burnCandles_31 : decode cX2_burnCandles 31 = .ok (.if_icmp .ne 8, 3) := by decide +kernel
theorem dX2_burnCandles_34 : decode cX2_burnCandles 34 = .ok (.aload 4, 2) := by decide +kernel
theorem dX2_burnCandles_36 : decode cX2_burnCandles 36 = .ok (.invokevirtual 230, 3) := by decide +kernel
theorem dX2_burnCandles_39 : decode cX2_burnCandles 39 = .ok (.iinc 3 1, 3) := by decide +kernel
theorem dX2_burnCandles_42 : decode cX2_burnCandles 42 = .ok (.goto (-32), 3) := by decide +kernel
theorem dX2_burnCandles_45 : decode cX2_burnCandles 45 = .ok (.return_, 1) := by decide +kernel
set_option maxRecDepth 20000 in
theorem ggX2_sendMarshal_X2_isCrowded : GoodIn wsX2_sendMarshal wsX2_isCrowded := goodIn_r _ [8, 1, 2, 9, 10, 11, 7, 12, 13, 14, 15, 16, 17, 18, 19, 20, 21, 22, 23, 24, 25, 26, 27, 33, 34, 35, 36, 37, 38, 39, 40, 41, 42, 43, 44, 45, 46, 47, 48, 49, 50, 51, 52, 53, 54, 55, 56, 57, 58] (by decide +kernel) (by decide +kernel)
set_option maxRecDepth 20000 in
theorem gX2_sendMarshal_X2_isCrowded : GoodIn wsX2_sendMarshal (wsV RX2 131 RX2 yX2_isCrowded wsX2_isCrowded) := goodIn_app (goodIn_of _ (by decide +kernel)) ggX2_sendMarshal_X2_isCrowded
set_option maxRecDepth 20000 in
theorem ggX2_sendMarshal_X0_darken : GoodIn wsX2_sendMarshal wsX0_darken := goodIn_r _ [31, 32, 45, 46, 47, 48, 49, 50, 51] (by decide +kernel) (by decide +kernel)
set_option maxRecDepth 20000 in
theorem gX2_sendMarshal_X0_darken : GoodIn wsX2_sendMarshal (wsV RX2 119 RX0 yX0_darken wsX0_darken) := goodIn_app (goodIn_of _ (by decide +kernel)) ggX2_sendMarshal_X0_darken
theorem dX2_sendMarshal_0 : decode cX2_sendMarshal 0 = .ok (.iconst 0, 1) := by decide +kernel
theorem dX2_sendMarshal_1 : decode cX2_sendMarshal 1 = .ok (.istore_n 1, 1) := by decide +kernel
theorem dX2_sendMarshal_2 : decode cX2_sendMarshal 2 = .ok (.iload_n 1, 1) := by decide +kernel
theorem dX2_sendMarshal_3 : decode cX2_sendMarshal 3 = .ok (.aload_n 0, 1) := by decide +kernel
theorem dX2_sendMarshal_4 : decode cX2_sendMarshal 4 = .ok (.getfield 11, 3) := by decide +kernel
theorem dX2_sendMarshal_7 : decode cX2_sendMarshal 7 = .ok (.arraylength, 1) := by decide +kernel
theorem dX2_sendMarshal_8 : decode cX2_sendMarshal 8 = .ok (.if_icmp .ge 51, 3) := by decide +kernel
theorem dX2_sendMarshal_11 : decode cX2_sendMarshal 11 = .ok (.aload_n 0, 1) := by decide +kernel
theorem dX2_sendMarshal_12 : decode cX2_sendMarshal 12 = .ok (.getfield 11, 3) := by decide +kernel
theorem dX2_sendMarshal_15 : decode cX2_sendMarshal 15 = .ok (.iload_n 1, 1) := by decide +kernel
theorem dX2_sendMarshal_16 : decode cX2_sendMarshal 16 = .ok (.aaload, 1) := by decide +kernel
theorem dX2_sendMarshal_17 : decode cX2_sendMarshal 17 = .ok (.astore_n 2, 1) := by decide +kernel
theorem dX2_sendMarshal_18 : decode cX2_sendMarshal 18 = .ok (.aload_n 2, 1) := by decide +kernel
theorem dX2_sendMarshal_19 : decode cX2_sendMarshal 19 = .ok (.ifnull 34, 3) := by decide +kernel
theorem dX2_sendMarshal_22 : decode cX2_sendMarshal 22 = .ok (.aload_n 2, 1) := by decide +kernel
theorem dX2_sendMarshal_23 : decode cX2_sendMarshal 23 = .ok (.getfield 125, 3) := by decide +kernel
theorem dX2_sendMarshal_26 : decode cX2_sendMarshal 26 = .ok (.iconst 1, 1) := by decide +kernel
theorem dX2_sendMarshal_27 : decode cX2_sendMarshal 27 = .ok (.if_icmp .ne 26, 3) := by decide +kernel
theorem dX2_sendMarshal_30 : decode cX2_sendMarshal 30 = .ok (.aload_n 0, 1) := by decide +kernel
theorem dX2_sendMarshal_31 : decode cX2_sendMarshal 31 = .ok (.aload_n 2, 1) := by decide +kernel
theorem dX2_sendMarshal_32 : decode cX2_sendMarshal 32 = .ok (.iload_n 1, 1) := by decide +kernel
theorem dX2_sendMarshal_33 : decode cX2_sendMarshal 33 = .ok (.invokevirtual 131, 3) := by decide +kernel
theorem dX2_sendMarshal_36 : decode cX2_sendMarshal 36 = .ok (.ifCond .eq 17, 3) := by decide +kernel
theorem dX2_sendMarshal_39 : decode cX2_sendMarshal 39 = .ok (.aload_n 2, 1) := by decide +kernel
theorem dX2_sendMarshal_40 : decode cX2_sendMarshal 40 = .ok (.invokevirtual 119, 3) := by decide +kernel
theorem dX2_sendMarshal_43 : decode cX2_sendMarshal 43 = .ok (.aload_n 0, 1) := by decide +kernel
theorem dX2_sendMarshal_44 : decode cX2_sendMarshal 44 = .ok (.dup, 1) := by decide +kernel
theorem dX2_sendMarshal_45 : decode cX2_sendMarshal 45 = .ok (.getfield 50, 3) := by decide +kernel
theorem dX2_sendMarshal_48 : decode cX2_sendMarshal 48 = .ok (.iconst 1, 1) := by decide +kernel
theorem dX2_sendMarshal_49 : decode cX2_sendMarshal 49 = .ok (.iadd, 1) := by decide +kernel
theorem dX2_sendMarshal_50 : decode cX2_sendMarshal 50 = .ok (.putfield 50, 3) := by decide +kernel
theorem dX2_sendMarshal_53 : decode cX2_sendMarshal 53 = .ok (.iinc 1 1, 3) := by decide +kernel
theorem dX2_sendMarshal_56 : decode cX2_sendMarshal 56 = .ok (.goto (-54), 3) := by decide +kernel
theorem dX2_sendMarshal_59 : decode cX2_sendMarshal 59 = .ok (.return_, 1) := by decide +kernel
set_option maxRecDepth 20000 in
theorem ggX2_isCrowded_X2_isTooNear : GoodIn wsX2_isCrowded wsX2_isTooNear := goodIn_r _ [7, 8, 9, 10, 11, 12, 13, 14, 15, 16, 17, 18, 19, 20, 21, 22, 35, 36, 37, 38, 39, 40, 41, 23, 24, 25, 26, 27, 28, 29, 30, 31, 32, 33, 34, 42, 43, 44, 45, 46, 47, 48] (by decide +kernel) (by decide +kernel)
set_option maxRecDepth 20000 in
theorem gX2_isCrowded_X2_isTooNear : GoodIn wsX2_isCrowded (wsV RX2 233 RX2 yX2_isTooNear wsX2_isTooNear) := goodIn_app (goodIn_of _ (by decide +kernel)) ggX2_isCrowded_X2_isTooNear
theorem dX2_isCrowded_0 : decode cX2_isCrowded 0 = .ok (.iconst 0, 1) := by decide +kernel
theorem dX2_isCrowded_1 : decode cX2_isCrowded 1 = .ok (.istore_n 3, 1) := by decide +kernel
theorem dX2_isCrowded_2 : decode cX2_isCrowded 2 = .ok (.iload_n 3, 1) := by decide +kernel
theorem dX2_isCrowded_3 : decode cX2_isCrowded 3 = .ok (.iload_n 2, 1) := by decide +kernel
theorem dX2_isCrowded_4 : decode cX2_isCrowded 4 = .ok (.if_icmp .ge 52, 3) := by decide +kernel
theorem dX2_isCrowded_7 : decode cX2_isCrowded 7 = .ok (.iload_n 3, 1) := by decide +kernel
theorem dX2_isCrowded_8 : decode cX2_isCrowded 8 = .ok (.aload_n 0, 1) := by decide +kernel
theorem dX2_isCrowded_9 : decode cX2_isCrowded 9 = .ok (.getfield 11, 3) := by decide +kernel
theorem dX2_isCrowded_12 : decode cX2_isCrowded 12 = .ok (.arraylength, 1) := by decide +kernel
theorem dX2_isCrowded_13 : decode cX2_isCrowded 13 = .ok (.if_icmp .ge 43, 3) := by decide +kernel
theorem dX2_isCrowded_16 : decode cX2_isCrowded 16 = .ok (.aload_n 0, 1) := by decide +kernel
theorem dX2_isCrowded_17 : decode cX2_isCrowded 17 = .ok (.getfield 11, 3) := by decide +kernel
theorem dX2_isCrowded_20 : decode cX2_isCrowded 20 = .ok (.iload_n 3, 1) := by decide +kernel
theorem dX2_isCrowded_21 : decode cX2_isCrowded 21 = .ok (.aaload, 1) := by decide +kernel
theorem dX2_isCrowded_22 : decode cX2_isCrowded 22 = .ok (.astore 4, 2) := by decide +kernel
theorem dX2_isCrowded_24 : decode cX2_isCrowded 24 = .ok (.aload 4, 2) := by decide +kernel
theorem dX2_isCrowded_26 : decode cX2_isCrowded 26 = .ok (.ifnull 24, 3) := by decide +kernel
theorem dX2_isCrowded_29 : decode cX2_isCrowded 29 = .ok (.aload 4, 2) := by decide +kernel
theorem dX2_isCrowded_31 : decode cX2_isCrowded 31 = .ok (.getfield 125, 3) := by decide +kernel
theorem dX2_isCrowded_34 : decode cX2_isCrowded 34 = .ok (.iconst 1, 1) := by decide +kernel
theorem dX2_isCrowded_35 : decode cX2_isCrowded 35 = .ok (.if_icmp .ne 15, 3) := by decide +kernel
theorem dX2_isCrowded_38 : decode cX2_isCrowded 38 = .ok (.aload_n 0, 1) := by decide +kernel
theorem dX2_isCrowded_39 : decode cX2_isCrowded 39 = .ok (.aload_n 1, 1) := by decide +kernel
theorem dX2_isCrowded_40 : decode cX2_isCrowded 40 = .ok (.aload 4, 2) := by decide +kernel
theorem dX2_isCrowded_42 : decode cX2_isCrowded 42 = .ok (.invokevirtual 233, 3) := by decide +kernel
theorem dX2_isCrowded_45 : decode cX2_isCrowded 45 = .ok (.ifCond .eq 5, 3) := by decide +kernel
theorem dX2_isCrowded_48 : decode cX2_isCrowded 48 = .ok (.iconst 1, 1) := by decide +kernel
theorem dX2_isCrowded_49 : decode cX2_isCrowded 49 = .ok (.ireturn, 1) := by decide +kernel
theorem dX2_isCrowded_50 : decode cX2_isCrowded 50 = .ok (.iinc 3 1, 3) := by decide +kernel
theorem dX2_isCrowded_53 : decode cX2_isCrowded 53 = .ok (.goto (-51), 3) := by decide +kernel
theorem dX2_isCrowded_56 : decode cX2_isCrowded 56 = .ok (.iconst 0, 1) := by decide +kernel
theorem dX2_isCrowded_57 : decode cX2_isCrowded 57 = .ok (.ireturn, 1) := by decide +kernel
set_option maxRecDepth 20000 in
theorem ggX2_isTooNear_X0_distanceTo : GoodIn wsX2_isTooNear wsX0_distanceTo := goodIn_r _ [7, 8, 9, 10, 6, 11, 12, 13, 14, 15, 16, 17, 18, 19, 20, 21, 22, 35, 36, 37, 38, 39, 40, 41] (by decide +kernel) (by decide +kernel)
set_option maxRecDepth 20000 in
theorem gX2_isTooNear_X0_distanceTo : GoodIn wsX2_isTooNear (wsV RX2 189 RX0 yX0_distanceTo wsX0_distanceTo) := goodIn_app (goodIn_of _ (by decide +kernel)) ggX2_isTooNear_X0_distanceTo
theorem dX2_isTooNear_0 : decode cX2_isTooNear 0 = .ok (.aload_n 1, 1) := by decide +kernel
theorem dX2_isTooNear_1 : decode cX2_isTooNear 1 = .ok (.aload_n 2, 1) := by decide +kernel
theorem dX2_isTooNear_2 : decode cX2_isTooNear 2 = .ok (.invokevirtual 189, 3) := by decide +kernel
theorem dX2_isTooNear_5 : decode cX2_isTooNear 5 = .ok (.aload_n 1, 1) := by decide +kernel
theorem dX2_isTooNear_6 : decode cX2_isTooNear 6 = .ok (.getfield 237, 3) := by decide +kernel
theorem dX2_isTooNear_9 : decode cX2_isTooNear 9 = .ok (.aload_n 2, 1) := by decide +kernel
theorem dX2_isTooNear_10 : decode cX2_isTooNear 10 = .ok (.getfield 237, 3) := by decide +kernel
theorem dX2_isTooNear_13 : decode cX2_isTooNear 13 = .ok (.iadd, 1) := by decide +kernel
theorem dX2_isTooNear_14 : decode cX2_isTooNear 14 = .ok (.aload_n 0, 1) := by decide +kernel
theorem dX2_isTooNear_15 : decode cX2_isTooNear 15 = .ok (.getfield 44, 3) := by decide +kernel
theorem dX2_isTooNear_18 : decode cX2_isTooNear 18 = .ok (.iadd, 1) := by decide +kernel
theorem dX2_isTooNear_19 : decode cX2_isTooNear 19 = .ok (.if_icmp .ge 7, 3) := by decide +kernel
theorem dX2_isTooNear_22 : decode cX2_isTooNear 22 = .ok (.iconst 1, 1) := by decide +kernel
theorem dX2_isTooNear_23 : decode cX2_isTooNear 23 = .ok (.goto 4, 3) := by decide +kernel
theorem dX2_isTooNear_26 : decode cX2_isTooNear 26 = .ok (.iconst 0, 1) := by decide +kernel
theorem dX2_isTooNear_27 : decode cX2_isTooNear 27 = .ok (.ireturn, 1) := by decide +kernel
set_option maxRecDepth 20000 in
theorem ggX2_nearestAhead_X1_nearestLit : GoodIn wsX2_nearestAhead wsX1_nearestLit := goodIn_r _ [10, 11, 12, 13, 14, 15, 16, 17, 18, 19, 20, 21, 22, 23, 24, 25, 26, 27, 28, 29, 30, 4, 31, 2, 3, 5, 44, 45, 46, 47, 48, 49, 50, 51, 52, 53, 54, 55, 56, 57] (by decide +kernel) (by decide +kernel)
set_option maxRecDepth 20000 in
theorem gX2_nearestAhead_X1_nearestLit : GoodIn wsX2_nearestAhead (wsV RX2 174 RX1 yX1_nearestLit wsX1_nearestLit) := goodIn_app (goodIn_of _ (by decide +kernel)) ggX2_nearestAhead_X1_nearestLit
theorem dX2_nearestAhead_0 : decode cX2_nearestAhead 0 = .ok (.iconst (-1), 1) := by decide +kernel
theorem dX2_nearestAhead_1 : decode cX2_nearestAhead 1 = .ok (.istore_n 3, 1) := by decide +kernel
theorem dX2_nearestAhead_2 : decode cX2_nearestAhead 2 = .ok (.iload_n 2, 1) := by decide +kernel
theorem dX2_nearestAhead_3 : decode cX2_nearestAhead 3 = .ok (.aload_n 0, 1) := by decide +kernel
theorem dX2_nearestAhead_4 : decode cX2_nearestAhead 4 = .ok (.getfield 21, 3) := by decide +kernel
theorem dX2_nearestAhead_7 : decode cX2_nearestAhead 7 = .ok (.arraylength, 1) := by decide +kernel
theorem dX2_nearestAhead_8 : decode cX2_nearestAhead 8 = .ok (.invokestatic 240, 3) := by decide +kernel
theorem dX2_nearestAhead_11 : decode cX2_nearestAhead 11 = .ok (.iconst 1, 1) := by decide +kernel
theorem dX2_nearestAhead_12 : decode cX2_nearestAhead 12 = .ok (.isub, 1) := by decide +kernel
theorem dX2_nearestAhead_13 : decode cX2_nearestAhead 13 = .ok (.istore 4, 2) := by decide +kernel
theorem dX2_nearestAhead_15 : decode cX2_nearestAhead 15 = .ok (.iload 4, 2) := by decide +kernel
theorem dX2_nearestAhead_17 : decode cX2_nearestAhead 17 = .ok (.ifCond .lt 35, 3) := by decide +kernel
theorem dX2_nearestAhead_20 : decode cX2_nearestAhead 20 = .ok (.iload_n 3, 1) := by decide +kernel
theorem dX2_nearestAhead_21 : decode cX2_nearestAhead 21 = .ok (.iconst (-1), 1) := by decide +kernel
theorem dX2_nearestAhead_22 : decode cX2_nearestAhead 22 = .ok (.if_icmp .ne 30, 3) := by decide +kernel
theorem dX2_nearestAhead_25 : decode cX2_nearestAhead 25 = .ok (.aload_n 0, 1) := by decide +kernel
theorem dX2_nearestAhead_26 : decode cX2_nearestAhead 26 = .ok (.getfield 21, 3) := by decide +kernel
theorem dX2_nearestAhead_29 : decode cX2_nearestAhead 29 = .ok (.iload 4, 2) := by decide +kernel
theorem dX2_nearestAhead_31 : decode cX2_nearestAhead 31 = .ok (.aaload, 1) := by decide +kernel
theorem dX2_nearestAhead_32 : decode cX2_nearestAhead 32 = .ok (.astore 5, 2) := by decide +kernel
end
section
theorem dX2_nearestAhead_34 : decode cX2_nearestAhead 34 = .ok (.aload 5, 2) := by decide +kernel
theorem dX2_nearestAhead_36 : decode cX2_nearestAhead 36 = .ok (.ifnull 10, 3) := by decide +kernel
theorem dX2_nearestAhead_39 : decode cX2_nearestAhead 39 = .ok (.aload 5, 2) := by decide +kernel
theorem dX2_nearestAhead_41 : decode cX2_nearestAhead 41 = .ok (.aload_n 1, 1) := by decide +kernel
theorem dX2_nearestAhead_42 : decode cX2_nearestAhead 42 = .ok (.invokevirtual 174, 3) := by decide +kernel
theorem dX2_nearestAhead_45 : decode cX2_nearestAhead 45 = .ok (.istore_n 3, 1) := by decide +kernel
theorem dX2_nearestAhead_46 : decode cX2_nearestAhead 46 = .ok (.iinc 4 (-1), 3) := by decide +kernel
theorem dX2_nearestAhead_49 : decode cX2_nearestAhead 49 = .ok (.goto (-34), 3) := by decide +kernel
theorem dX2_nearestAhead_52 : decode cX2_nearestAhead 52 = .ok (.iload_n 3, 1) := by decide +kernel
theorem dX2_nearestAhead_53 : decode cX2_nearestAhead 53 = .ok (.ireturn, 1) := by decide +kernel
set_option maxRecDepth 20000 in
theorem ggX2_nearestBehind_X1_nearestLit : GoodIn wsX2_nearestBehind wsX1_nearestLit := goodIn_r _ [10, 11, 12, 13, 14, 15, 16, 17, 18, 19, 20, 21, 22, 23, 24, 25, 26, 27, 28, 1, 2, 3, 4, 29, 30, 31, 44, 45, 46, 47, 48, 49, 50, 51, 52, 53, 54, 55, 56, 57] (by decide +kernel) (by decide +kernel)
set_option maxRecDepth 20000 in
theorem gX2_nearestBehind_X1_nearestLit : GoodIn wsX2_nearestBehind (wsV RX2 174 RX1 yX1_nearestLit wsX1_nearestLit) := goodIn_app (goodIn_of _ (by decide +kernel)) ggX2_nearestBehind_X1_nearestLit
theorem dX2_nearestBehind_0 : decode cX2_nearestBehind 0 = .ok (.iconst (-1), 1) := by decide +kernel
theorem dX2_nearestBehind_1 : decode cX2_nearestBehind 1 = .ok (.istore_n 3, 1) := by decide +kernel
theorem dX2_nearestBehind_2 : decode cX2_nearestBehind 2 = .ok (.iload_n 2, 1) := by decide +kernel
theorem dX2_nearestBehind_3 : decode cX2_nearestBehind 3 = .ok (.iconst 0, 1) := by decide +kernel
theorem dX2_nearestBehind_4 : decode cX2_nearestBehind 4 = .ok (.invokestatic 245, 3) := by decide +kernel
theorem dX2_nearestBehind_7 : decode cX2_nearestBehind 7 = .ok (.iconst 1, 1) := by decide +kernel
theorem dX2_nearestBehind_8 : decode cX2_nearestBehind 8 = .ok (.iadd, 1) := by decide +kernel
theorem dX2_nearestBehind_9 : decode cX2_nearestBehind 9 = .ok (.istore 4, 2) := by decide +kernel
theorem dX2_nearestBehind_11 : decode cX2_nearestBehind 11 = .ok (.iload 4, 2) := by decide +kernel
theorem dX2_nearestBehind_13 : decode cX2_nearestBehind 13 = .ok (.aload_n 0, 1) := by decide +kernel
theorem dX2_nearestBehind_14 : decode cX2_nearestBehind 14 = .ok (.getfield 21, 3) := by decide +kernel
theorem dX2_nearestBehind_17 : decode cX2_nearestBehind 17 = .ok (.arraylength, 1) := by decide +kernel
theorem dX2_nearestBehind_18 : decode cX2_nearestBehind 18 = .ok (.if_icmp .ge 35, 3) := by decide +kernel
theorem dX2_nearestBehind_21 : decode cX2_nearestBehind 21 = .ok (.iload_n 3, 1) := by decide +kernel
theorem dX2_nearestBehind_22 : decode cX2_nearestBehind 22 = .ok (.iconst (-1), 1) := by decide +kernel
theorem dX2_nearestBehind_23 : decode cX2_nearestBehind 23 = .ok (.if_icmp .ne 30, 3) := by decide +kernel
theorem dX2_nearestBehind_26 : decode cX2_nearestBehind 26 = .ok (.aload_n 0, 1) := by decide +kernel
theorem dX2_nearestBehind_27 : decode cX2_nearestBehind 27 = .ok (.getfield 21, 3) := by decide +kernel
theorem dX2_nearestBehind_30 : decode cX2_nearestBehind 30 = .ok (.iload 4, 2) := by decide +kernel
theorem dX2_nearestBehind_32 : decode cX2_nearestBehind 32 = .ok (.aaload, 1) := by decide +kernel
theorem dX2_nearestBehind_33 : decode cX2_nearestBehind 33 = .ok (.astore 5, 2) := by decide +kernel
theorem dX2_nearestBehind_35 : decode cX2_nearestBehind 35 = .ok (.aload 5, 2) := by decide +kernel
theorem dX2_nearestBehind_37 : decode cX2_nearestBehind 37 = .ok (.ifnull 10, 3) := by decide +kernel
theorem dX2_nearestBehind_40 : decode cX2_nearestBehind 40 = .ok (.aload 5, 2) := by decide +kernel
theorem dX2_nearestBehind_42 : decode cX2_nearestBehind 42 = .ok (.aload_n 1, 1) := by decide +kernel
theorem dX2_nearestBehind_43 : decode cX2_nearestBehind 43 = .ok (.invokevirtual 174, 3) := by decide +kernel
theorem dX2_nearestBehind_46 : decode cX2_nearestBehind 46 = .ok (.istore_n 3, 1) := by decide +kernel
theorem dX2_nearestBehind_47 : decode cX2_nearestBehind 47 = .ok (.iinc 4 1, 3) := by decide +kernel
theorem dX2_nearestBehind_50 : decode cX2_nearestBehind 50 = .ok (.goto (-39), 3) := by decide +kernel
theorem dX2_nearestBehind_53 : decode cX2_nearestBehind 53 = .ok (.iload_n 3, 1) := by decide +kernel
theorem dX2_nearestBehind_54 : decode cX2_nearestBehind 54 = .ok (.ireturn, 1) := by decide +kernel
theorem dX2_nearer_0 : decode cX2_nearer 0 = .ok (.iload_n 0, 1) := by decide +kernel
theorem dX2_nearer_1 : decode cX2_nearer 1 = .ok (.iconst (-1), 1) := by decide +kernel
theorem dX2_nearer_2 : decode cX2_nearer 2 = .ok (.if_icmp .eq 8, 3) := by decide +kernel
theorem dX2_nearer_5 : decode cX2_nearer 5 = .ok (.iload_n 1, 1) := by decide +kernel
theorem dX2_nearer_6 : decode cX2_nearer 6 = .ok (.iconst (-1), 1) := by decide +kernel
theorem dX2_nearer_7 : decode cX2_nearer 7 = .ok (.if_icmp .ne 9, 3) := by decide +kernel
theorem dX2_nearer_10 : decode cX2_nearer 10 = .ok (.iload_n 0, 1) := by decide +kernel
theorem dX2_nearer_11 : decode cX2_nearer 11 = .ok (.iload_n 1, 1) := by decide +kernel
theorem dX2_nearer_12 : decode cX2_nearer 12 = .ok (.invokestatic 245, 3) := by decide +kernel
theorem dX2_nearer_15 : decode cX2_nearer 15 = .ok (.ireturn, 1) := by decide +kernel
theorem dX2_nearer_16 : decode cX2_nearer 16 = .ok (.iload_n 0, 1) := by decide +kernel
theorem dX2_nearer_17 : decode cX2_nearer 17 = .ok (.iload_n 1, 1) := by decide +kernel
theorem dX2_nearer_18 : decode cX2_nearer 18 = .ok (.invokestatic 240, 3) := by decide +kernel
theorem dX2_nearer_21 : decode cX2_nearer 21 = .ok (.ireturn, 1) := by decide +kernel
theorem dX3_init_0 : decode cX3_init 0 = .ok (.aload_n 0, 1) := by decide +kernel
theorem dX3_init_1 : decode cX3_init 1 = .ok (.invokespecial 1, 3) := by decide +kernel
theorem dX3_init_4 : decode cX3_init 4 = .ok (.aload_n 0, 1) := by decide +kernel
theorem dX3_init_5 : decode cX3_init 5 = .ok (.bipush 24, 2) := by decide +kernel
theorem dX3_init_7 : decode cX3_init 7 = .ok (.newarray .int, 2) := by decide +kernel
theorem dX3_init_9 : decode cX3_init 9 = .ok (.putfield 7, 3) := by decide +kernel
theorem dX3_init_12 : decode cX3_init 12 = .ok (.aload_n 0, 1) := by decide +kernel
theorem dX3_init_13 : decode cX3_init 13 = .ok (.bipush 24, 2) := by decide +kernel
theorem dX3_init_15 : decode cX3_init 15 = .ok (.newarray .int, 2) := by decide +kernel
theorem dX3_init_17 : decode cX3_init 17 = .ok (.putfield 13, 3) := by decide +kernel
theorem dX3_init_20 : decode cX3_init 20 = .ok (.aload_n 0, 1) := by decide +kernel
theorem dX3_init_21 : decode cX3_init 21 = .ok (.bipush 24, 2) := by decide +kernel
theorem dX3_init_23 : decode cX3_init 23 = .ok (.newarray .int, 2) := by decide +kernel
theorem dX3_init_25 : decode cX3_init 25 = .ok (.putfield 16, 3) := by decide +kernel
theorem dX3_init_28 : decode cX3_init 28 = .ok (.aload_n 0, 1) := by decide +kernel
theorem dX3_init_29 : decode cX3_init 29 = .ok (.bipush 24, 2) := by decide +kernel
theorem dX3_init_31 : decode cX3_init 31 = .ok (.newarray .int, 2) := by decide +kernel
theorem dX3_init_33 : decode cX3_init 33 = .ok (.putfield 19, 3) := by decide +kernel
theorem dX3_init_36 : decode cX3_init 36 = .ok (.aload_n 0, 1) := by decide +kernel
theorem dX3_init_37 : decode cX3_init 37 = .ok (.bipush 24, 2) := by decide +kernel
theorem dX3_init_39 : decode cX3_init 39 = .ok (.newarray .int, 2) := by decide +kernel
theorem dX3_init_41 : decode cX3_init 41 = .ok (.putfield 22, 3) := by decide +kernel
theorem dX3_init_44 : decode cX3_init 44 = .ok (.aload_n 0, 1) := by decide +kernel
theorem dX3_init_45 : decode cX3_init 45 = .ok (.bipush 24, 2) := by decide +kernel
theorem dX3_init_47 : decode cX3_init 47 = .ok (.newarray .int, 2) := by decide +kernel
theorem dX3_init_49 : decode cX3_init 49 = .ok (.putfield 25, 3) := by decide +kernel
theorem dX3_init_52 : decode cX3_init 52 = .ok (.aload_n 0, 1) := by decide +kernel
theorem dX3_init_53 : decode cX3_init 53 = .ok (.bipush 24, 2) := by decide +kernel
theorem dX3_init_55 : decode cX3_init 55 = .ok (.newarray .int, 2) := by decide +kernel
theorem dX3_init_57 : decode cX3_init 57 = .ok (.putfield 28, 3) := by decide +kernel
theorem dX3_init_60 : decode cX3_init 60 = .ok (.aload_n 0, 1) := by decide +kernel
theorem dX3_init_61 : decode cX3_init 61 = .ok (.bipush 8, 2) := by decide +kernel
theorem dX3_init_63 : decode cX3_init 63 = .ok (.newarray .int, 2) := by decide +kernel
theorem dX3_init_65 : decode cX3_init 65 = .ok (.putfield 31, 3) := by decide +kernel
theorem dX3_init_68 : decode cX3_init 68 = .ok (.aload_n 0, 1) := by decide +kernel
theorem dX3_init_69 : decode cX3_init 69 = .ok (.bipush 8, 2) := by decide +kernel
theorem dX3_init_71 : decode cX3_init 71 = .ok (.newarray .int, 2) := by decide +kernel
theorem dX3_init_73 : decode cX3_init 73 = .ok (.putfield 34, 3) := by decide +kernel
theorem dX3_init_76 : decode cX3_init 76 = .ok (.aload_n 0, 1) := by decide +kernel
theorem dX3_init_77 : decode cX3_init 77 = .ok (.bipush 8, 2) := by decide +kernel
theorem dX3_init_79 : decode cX3_init 79 = .ok (.newarray .int, 2) := by decide +kernel
theorem dX3_init_81 : decode cX3_init 81 = .ok (.putfield 37, 3) := by decide +kernel
theorem dX3_init_84 : decode cX3_init 84 = .ok (.aload_n 0, 1) := by decide +kernel
theorem dX3_init_85 : decode cX3_init 85 = .ok (.bipush 8, 2) := by decide +kernel
theorem dX3_init_87 : decode cX3_init 87 = .ok (.newarray .int, 2) := by decide +kernel
theorem dX3_init_89 : decode cX3_init 89 = .ok (.putfield 40, 3) := by decide +kernel
theorem dX3_init_92 : decode cX3_init 92 = .ok (.aload_n 0, 1) := by decide +kernel
theorem dX3_init_93 : decode cX3_init 93 = .ok (.bipush 8, 2) := by decide +kernel
theorem dX3_init_95 : decode cX3_init 95 = .ok (.newarray .int, 2) := by decide +kernel
theorem dX3_init_97 : decode cX3_init 97 = .ok (.putfield 43, 3) := by decide +kernel
theorem dX3_init_100 : decode cX3_init 100 = .ok (.aload_n 0, 1) := by decide +kernel
theorem dX3_init_101 : decode cX3_init 101 = .ok (.iconst 2, 1) := by decide +kernel
theorem dX3_init_102 : decode cX3_init 102 = .ok (.putfield 46, 3) := by decide +kernel
theorem dX3_init_105 : decode cX3_init 105 = .ok (.aload_n 0, 1) := by decide +kernel
theorem dX3_init_106 : decode cX3_init 106 = .ok (.sipush 401, 3) := by decide +kernel
theorem dX3_init_109 : decode cX3_init 109 = .ok (.newarray .int, 2) := by decide +kernel
theorem dX3_init_111 : decode cX3_init 111 = .ok (.putfield 50, 3) := by decide +kernel
theorem dX3_init_114 : decode cX3_init 114 = .ok (.return_, 1) := by decide +kernel
theorem dX3_thrown_0 : decode cX3_thrown 0 = .ok (.aload_n 0, 1) := by decide +kernel
theorem dX3_thrown_1 : decode cX3_thrown 1 = .ok (.getfield 53, 3) := by decide +kernel
theorem dX3_thrown_4 : decode cX3_thrown 4 = .ok (.ireturn, 1) := by decide +kernel
theorem dX3_in_0 : decode cX3_in 0 = .ok (.iload_n 0, 1) := by decide +kernel
theorem dX3_in_1 : decode cX3_in 1 = .ok (.iload_n 1, 1) := by decide +kernel
theorem dX3_in_2 : decode cX3_in 2 = .ok (.if_icmp .lt 12, 3) := by decide +kernel
theorem dX3_in_5 : decode cX3_in 5 = .ok (.iload_n 0, 1) := by decide +kernel
theorem dX3_in_6 : decode cX3_in 6 = .ok (.iload_n 2, 1) := by decide +kernel
theorem dX3_in_7 : decode cX3_in 7 = .ok (.if_icmp .gt 7, 3) := by decide +kernel
theorem dX3_in_10 : decode cX3_in 10 = .ok (.iconst 1, 1) := by decide +kernel
theorem dX3_in_11 : decode cX3_in 11 = .ok (.goto 4, 3) := by decide +kernel
theorem dX3_in_14 : decode cX3_in 14 = .ok (.iconst 0, 1) := by decide +kernel
theorem dX3_in_15 : decode cX3_in 15 = .ok (.ireturn, 1) := by decide +kernel
theorem dX3_goes_0 : decode cX3_goes 0 = .ok (.aload_n 0, 1) := by decide +kernel
theorem dX3_goes_1 : decode cX3_goes 1 = .ok (.iload_n 1, 1) := by decide +kernel
theorem dX3_goes_2 : decode cX3_goes 2 = .ok (.ifCond .ne 7, 3) := by decide +kernel
theorem dX3_goes_5 : decode cX3_goes 5 = .ok (.iconst 1, 1) := by decide +kernel
theorem dX3_goes_6 : decode cX3_goes 6 = .ok (.goto 20, 3) := by decide +kernel
theorem dX3_goes_9 : decode cX3_goes 9 = .ok (.iload_n 2, 1) := by decide +kernel
theorem dX3_goes_10 : decode cX3_goes 10 = .ok (.ifCond .ne 7, 3) := by decide +kernel
theorem dX3_goes_13 : decode cX3_goes 13 = .ok (.iconst 2, 1) := by decide +kernel
theorem dX3_goes_14 : decode cX3_goes 14 = .ok (.goto 12, 3) := by decide +kernel
theorem dX3_goes_17 : decode cX3_goes 17 = .ok (.iload_n 3, 1) := by decide +kernel
theorem dX3_goes_18 : decode cX3_goes 18 = .ok (.ifCond .eq 7, 3) := by decide +kernel
theorem dX3_goes_21 : decode cX3_goes 21 = .ok (.iconst 0, 1) := by decide +kernel
theorem dX3_goes_22 : decode cX3_goes 22 = .ok (.goto 4, 3) := by decide +kernel
theorem dX3_goes_25 : decode cX3_goes 25 = .ok (.iconst 3, 1) := by decide +kernel
theorem dX3_goes_26 : decode cX3_goes 26 = .ok (.putfield 53, 3) := by decide +kernel
theorem dX3_goes_29 : decode cX3_goes 29 = .ok (.aload_n 0, 1) := by decide +kernel
theorem dX3_goes_30 : decode cX3_goes 30 = .ok (.getfield 53, 3) := by decide +kernel
theorem dX3_goes_33 : decode cX3_goes 33 = .ok (.ifCond .ne 7, 3) := by decide +kernel
theorem dX3_goes_36 : decode cX3_goes 36 = .ok (.iconst 1, 1) := by decide +kernel
theorem dX3_goes_37 : decode cX3_goes 37 = .ok (.goto 4, 3) := by decide +kernel
theorem dX3_goes_40 : decode cX3_goes 40 = .ok (.iconst 0, 1) := by decide +kernel
theorem dX3_goes_41 : decode cX3_goes 41 = .ok (.ireturn, 1) := by decide +kernel
set_option maxRecDepth 20000 in
theorem ggX3_isLantern_X3_in : GoodIn wsX3_isLantern wsX3_in := goodIn_r _ [5] (by decide +kernel) (by decide +kernel)
set_option maxRecDepth 20000 in
theorem gX3_isLantern_X3_in : GoodIn wsX3_isLantern (va_wsS RX3 59 yX3_in wsX3_in) := goodIn_app (goodIn_of _ (by decide +kernel)) ggX3_isLantern_X3_in
theorem dX3_isLantern_0 : decode cX3_isLantern 0 = .ok (.iload_n 1, 1) := by decide +kernel
theorem dX3_isLantern_1 : decode cX3_isLantern 1 = .ok (.iconst 0, 1) := by decide +kernel
theorem dX3_isLantern_2 : decode cX3_isLantern 2 = .ok (.aload_n 0, 1) := by decide +kernel
theorem dX3_isLantern_3 : decode cX3_isLantern 3 = .ok (.getfield 56, 3) := by decide +kernel
theorem dX3_isLantern_6 : decode cX3_isLantern 6 = .ok (.iconst 1, 1) := by decide +kernel
theorem dX3_isLantern_7 : decode cX3_isLantern 7 = .ok (.isub, 1) := by decide +kernel
theorem dX3_isLantern_8 : decode cX3_isLantern 8 = .ok (.invokestatic 59, 3) := by decide +kernel
theorem dX3_isLantern_11 : decode cX3_isLantern 11 = .ok (.ireturn, 1) := by decide +kernel
set_option maxRecDepth 20000 in
theorem ggX3_isFloat_X3_in : GoodIn wsX3_isFloat wsX3_in := goodIn_r _ [5] (by decide +kernel) (by decide +kernel)
set_option maxRecDepth 20000 in
theorem gX3_isFloat_X3_in : GoodIn wsX3_isFloat (va_wsS RX3 59 yX3_in wsX3_in) := goodIn_app (goodIn_of _ (by decide +kernel)) ggX3_isFloat_X3_in
theorem dX3_isFloat_0 : decode cX3_isFloat 0 = .ok (.iload_n 1, 1) := by decide +kernel
theorem dX3_isFloat_1 : decode cX3_isFloat 1 = .ok (.iconst 0, 1) := by decide +kernel
theorem dX3_isFloat_2 : decode cX3_isFloat 2 = .ok (.aload_n 0, 1) := by decide +kernel
theorem dX3_isFloat_3 : decode cX3_isFloat 3 = .ok (.getfield 63, 3) := by decide +kernel
theorem dX3_isFloat_6 : decode cX3_isFloat 6 = .ok (.iconst 1, 1) := by decide +kernel
theorem dX3_isFloat_7 : decode cX3_isFloat 7 = .ok (.isub, 1) := by decide +kernel
theorem dX3_isFloat_8 : decode cX3_isFloat 8 = .ok (.invokestatic 59, 3) := by decide +kernel
theorem dX3_isFloat_11 : decode cX3_isFloat 11 = .ok (.ireturn, 1) := by decide +kernel
set_option maxRecDepth 20000 in
theorem ggX3_make_X3_in : GoodIn wsX3_make wsX3_in := goodIn_r _ [10] (by decide +kernel) (by decide +kernel)
set_option maxRecDepth 20000 in
theorem gX3_make_X3_in : GoodIn wsX3_make (va_wsS RX3 59 yX3_in wsX3_in) := goodIn_app (goodIn_of _ (by decide +kernel)) ggX3_make_X3_in
set_option maxRecDepth 20000 in
theorem ggX3_make_X3_goes : GoodIn wsX3_make wsX3_goes := goodIn_r _ [14, 15, 16, 17, 18, 19, 20, 21, 22, 23, 24, 25, 26, 27, 28, 29, 30, 31, 32, 33, 34, 35, 36, 37] (by decide +kernel) (by decide +kernel)
set_option maxRecDepth 20000 in
theorem gX3_make_X3_goes : GoodIn wsX3_make (wsV RX3 66 RX3 yX3_goes wsX3_goes) := goodIn_app (goodIn_of _ (by decide +kernel)) ggX3_make_X3_goes
theorem dX3_make_0 : decode cX3_make 0 = .ok (.aload_n 0, 1) := by decide +kernel
theorem dX3_make_1 : decode cX3_make 1 = .ok (.iload_n 1, 1) := by decide +kernel
theorem dX3_make_2 : decode cX3_make 2 = .ok (.iconst 4, 1) := by decide +kernel
theorem dX3_make_3 : decode cX3_make 3 = .ok (.bipush 12, 2) := by decide +kernel
theorem dX3_make_5 : decode cX3_make 5 = .ok (.invokestatic 59, 3) := by decide +kernel
theorem dX3_make_8 : decode cX3_make 8 = .ok (.ifCond .eq 25, 3) := by decide +kernel
theorem dX3_make_11 : decode cX3_make 11 = .ok (.iload_n 2, 1) := by decide +kernel
theorem dX3_make_12 : decode cX3_make 12 = .ok (.iconst 0, 1) := by decide +kernel
theorem dX3_make_13 : decode cX3_make 13 = .ok (.iconst 3, 1) := by decide +kernel
theorem dX3_make_14 : decode cX3_make 14 = .ok (.invokestatic 59, 3) := by decide +kernel
theorem dX3_make_17 : decode cX3_make 17 = .ok (.ifCond .eq 16, 3) := by decide +kernel
theorem dX3_make_20 : decode cX3_make 20 = .ok (.iload_n 3, 1) := by decide +kernel
theorem dX3_make_21 : decode cX3_make 21 = .ok (.iconst 1, 1) := by decide +kernel
theorem dX3_make_22 : decode cX3_make 22 = .ok (.iconst 4, 1) := by decide +kernel
theorem dX3_make_23 : decode cX3_make 23 = .ok (.invokestatic 59, 3) := by decide +kernel
theorem dX3_make_26 : decode cX3_make 26 = .ok (.ifCond .eq 7, 3) := by decide +kernel
theorem dX3_make_29 : decode cX3_make 29 = .ok (.iconst 1, 1) := by decide +kernel
theorem dX3_make_30 : decode cX3_make 30 = .ok (.goto 4, 3) := by decide +kernel
theorem dX3_make_33 : decode cX3_make 33 = .ok (.iconst 0, 1) := by decide +kernel
theorem dX3_make_34 : decode cX3_make 34 = .ok (.aload_n 0, 1) := by decide +kernel
theorem dX3_make_35 : decode cX3_make 35 = .ok (.getfield 56, 3) := by decide +kernel
theorem dX3_make_38 : decode cX3_make 38 = .ok (.bipush 24, 2) := by decide +kernel
theorem dX3_make_40 : decode cX3_make 40 = .ok (.if_icmp .ge 7, 3) := by decide +kernel
theorem dX3_make_43 : decode cX3_make 43 = .ok (.iconst 1, 1) := by decide +kernel
theorem dX3_make_44 : decode cX3_make 44 = .ok (.goto 4, 3) := by decide +kernel
theorem dX3_make_47 : decode cX3_make 47 = .ok (.iconst 0, 1) := by decide +kernel
theorem dX3_make_48 : decode cX3_make 48 = .ok (.iconst 1, 1) := by decide +kernel
theorem dX3_make_49 : decode cX3_make 49 = .ok (.invokevirtual 66, 3) := by decide +kernel
theorem dX3_make_52 : decode cX3_make 52 = .ok (.ifCond .ne 5, 3) := by decide +kernel
theorem dX3_make_55 : decode cX3_make 55 = .ok (.iconst 0, 1) := by decide +kernel
theorem dX3_make_56 : decode cX3_make 56 = .ok (.ireturn, 1) := by decide +kernel
theorem dX3_make_57 : decode cX3_make 57 = .ok (.aload_n 0, 1) := by decide +kernel
theorem dX3_make_58 : decode cX3_make 58 = .ok (.getfield 7, 3) := by decide +kernel
theorem dX3_make_61 : decode cX3_make 61 = .ok (.aload_n 0, 1) := by decide +kernel
theorem dX3_make_62 : decode cX3_make 62 = .ok (.getfield 56, 3) := by decide +kernel
theorem dX3_make_65 : decode cX3_make 65 = .ok (.iload_n 1, 1) := by decide +kernel
theorem dX3_make_66 : decode cX3_make 66 = .ok (.iastore, 1) := by decide +kernel
theorem dX3_make_67 : decode cX3_make 67 = .ok (.aload_n 0, 1) := by decide +kernel
theorem dX3_make_68 : decode cX3_make 68 = .ok (.getfield 13, 3) := by decide +kernel
theorem dX3_make_71 : decode cX3_make 71 = .ok (.aload_n 0, 1) := by decide +kernel
theorem dX3_make_72 : decode cX3_make 72 = .ok (.getfield 56, 3) := by decide +kernel
theorem dX3_make_75 : decode cX3_make 75 = .ok (.iload_n 2, 1) := by decide +kernel
theorem dX3_make_76 : decode cX3_make 76 = .ok (.iastore, 1) := by decide +kernel
theorem dX3_make_77 : decode cX3_make 77 = .ok (.aload_n 0, 1) := by decide +kernel
theorem dX3_make_78 : decode cX3_make 78 = .ok (.getfield 16, 3) := by decide +kernel
theorem dX3_make_81 : decode cX3_make 81 = .ok (.aload_n 0, 1) := by decide +kernel
theorem dX3_make_82 : decode cX3_make 82 = .ok (.getfield 56, 3) := by decide +kernel
theorem dX3_make_85 : decode cX3_make 85 = .ok (.iload_n 3, 1) := by decide +kernel
theorem dX3_make_86 : decode cX3_make 86 = .ok (.iastore, 1) := by decide +kernel
theorem dX3_make_87 : decode cX3_make 87 = .ok (.aload_n 0, 1) := by decide +kernel
theorem dX3_make_88 : decode cX3_make 88 = .ok (.getfield 22, 3) := by decide +kernel
theorem dX3_make_91 : decode cX3_make 91 = .ok (.aload_n 0, 1) := by decide +kernel
theorem dX3_make_92 : decode cX3_make 92 = .ok (.getfield 56, 3) := by decide +kernel
theorem dX3_make_95 : decode cX3_make 95 = .ok (.bipush 20, 2) := by decide +kernel
theorem dX3_make_97 : decode cX3_make 97 = .ok (.iload_n 3, 1) := by decide +kernel
theorem dX3_make_98 : decode cX3_make 98 = .ok (.imul, 1) := by decide +kernel
theorem dX3_make_99 : decode cX3_make 99 = .ok (.iastore, 1) := by decide +kernel
theorem dX3_make_100 : decode cX3_make 100 = .ok (.aload_n 0, 1) := by decide +kernel
theorem dX3_make_101 : decode cX3_make 101 = .ok (.getfield 25, 3) := by decide +kernel
theorem dX3_make_104 : decode cX3_make 104 = .ok (.aload_n 0, 1) := by decide +kernel
theorem dX3_make_105 : decode cX3_make 105 = .ok (.getfield 56, 3) := by decide +kernel
theorem dX3_make_108 : decode cX3_make 108 = .ok (.iconst (-1), 1) := by decide +kernel
theorem dX3_make_109 : decode cX3_make 109 = .ok (.iastore, 1) := by decide +kernel
theorem dX3_make_110 : decode cX3_make 110 = .ok (.aload_n 0, 1) := by decide +kernel
theorem dX3_make_111 : decode cX3_make 111 = .ok (.dup, 1) := by decide +kernel
theorem dX3_make_112 : decode cX3_make 112 = .ok (.getfield 56, 3) := by decide +kernel
theorem dX3_make_115 : decode cX3_make 115 = .ok (.iconst 1, 1) := by decide +kernel
theorem dX3_make_116 : decode cX3_make 116 = .ok (.iadd, 1) := by decide +kernel
theorem dX3_make_117 : decode cX3_make 117 = .ok (.putfield 56, 3) := by decide +kernel
theorem dX3_make_120 : decode cX3_make 120 = .ok (.aload_n 0, 1) := by decide +kernel
theorem dX3_make_121 : decode cX3_make 121 = .ok (.getfield 56, 3) := by decide +kernel
theorem dX3_make_124 : decode cX3_make 124 = .ok (.iconst 1, 1) := by decide +kernel
theorem dX3_make_125 : decode cX3_make 125 = .ok (.isub, 1) := by decide +kernel
theorem dX3_make_126 : decode cX3_make 126 = .ok (.ireturn, 1) := by decide +kernel
theorem dX3_weight_0 : decode cX3_weight 0 = .ok (.bipush 20, 2) := by decide +kernel
theorem dX3_weight_2 : decode cX3_weight 2 = .ok (.aload_n 0, 1) := by decide +kernel
theorem dX3_weight_3 : decode cX3_weight 3 = .ok (.getfield 7, 3) := by decide +kernel
theorem dX3_weight_6 : decode cX3_weight 6 = .ok (.iload_n 1, 1) := by decide +kernel
theorem dX3_weight_7 : decode cX3_weight 7 = .ok (.iaload, 1) := by decide +kernel
theorem dX3_weight_8 : decode cX3_weight 8 = .ok (.imul, 1) := by decide +kernel
theorem dX3_weight_9 : decode cX3_weight 9 = .ok (.bipush 30, 2) := by decide +kernel
theorem dX3_weight_11 : decode cX3_weight 11 = .ok (.aload_n 0, 1) := by decide +kernel
theorem dX3_weight_12 : decode cX3_weight 12 = .ok (.getfield 13, 3) := by decide +kernel
theorem dX3_weight_15 : decode cX3_weight 15 = .ok (.iload_n 1, 1) := by decide +kernel
theorem dX3_weight_16 : decode cX3_weight 16 = .ok (.iaload, 1) := by decide +kernel
theorem dX3_weight_17 : decode cX3_weight 17 = .ok (.imul, 1) := by decide +kernel
theorem dX3_weight_18 : decode cX3_weight 18 = .ok (.iadd, 1) := by decide +kernel
theorem dX3_weight_19 : decode cX3_weight 19 = .ok (.bipush 50, 2) := by decide +kernel
theorem dX3_weight_21 : decode cX3_weight 21 = .ok (.aload_n 0, 1) := by decide +kernel
theorem dX3_weight_22 : decode cX3_weight 22 = .ok (.getfield 16, 3) := by decide +kernel
theorem dX3_weight_25 : decode cX3_weight 25 = .ok (.iload_n 1, 1) := by decide +kernel
theorem dX3_weight_26 : decode cX3_weight 26 = .ok (.iaload, 1) := by decide +kernel
theorem dX3_weight_27 : decode cX3_weight 27 = .ok (.imul, 1) := by decide +kernel
theorem dX3_weight_28 : decode cX3_weight 28 = .ok (.iadd, 1) := by decide +kernel
theorem dX3_weight_29 : decode cX3_weight 29 = .ok (.ireturn, 1) := by decide +kernel
set_option maxRecDepth 20000 in
theorem ggX3_loadOf_X3_weight : GoodIn wsX3_loadOf wsX3_weight := goodIn_r _ [7, 8, 9, 10, 11, 12, 13, 14, 15, 16, 17, 18, 19, 20, 21, 22, 23, 24, 25, 26, 27, 28, 29, 30, 31, 32] (by decide +kernel) (by decide +kernel)
set_option maxRecDepth 20000 in
theorem gX3_loadOf_X3_weight : GoodIn wsX3_loadOf (wsV RX3 70 RX3 yX3_weight wsX3_weight) := goodIn_app (goodIn_of _ (by decide +kernel)) ggX3_loadOf_X3_weight
theorem dX3_loadOf_0 : decode cX3_loadOf 0 = .ok (.iconst 0, 1) := by decide +kernel
theorem dX3_loadOf_1 : decode cX3_loadOf 1 = .ok (.istore_n 2, 1) := by decide +kernel
theorem dX3_loadOf_2 : decode cX3_loadOf 2 = .ok (.iconst 0, 1) := by decide +kernel
theorem dX3_loadOf_3 : decode cX3_loadOf 3 = .ok (.istore_n 3, 1) := by decide +kernel
theorem dX3_loadOf_4 : decode cX3_loadOf 4 = .ok (.iload_n 3, 1) := by decide +kernel
theorem dX3_loadOf_5 : decode cX3_loadOf 5 = .ok (.aload_n 0, 1) := by decide +kernel
theorem dX3_loadOf_6 : decode cX3_loadOf 6 = .ok (.getfield 56, 3) := by decide +kernel
theorem dX3_loadOf_9 : decode cX3_loadOf 9 = .ok (.if_icmp .ge 31, 3) := by decide +kernel
theorem dX3_loadOf_12 : decode cX3_loadOf 12 = .ok (.iload_n 2, 1) := by decide +kernel
theorem dX3_loadOf_13 : decode cX3_loadOf 13 = .ok (.aload_n 0, 1) := by decide +kernel
theorem dX3_loadOf_14 : decode cX3_loadOf 14 = .ok (.getfield 25, 3) := by decide +kernel
theorem dX3_loadOf_17 : decode cX3_loadOf 17 = .ok (.iload_n 3, 1) := by decide +kernel
theorem dX3_loadOf_18 : decode cX3_loadOf 18 = .ok (.iaload, 1) := by decide +kernel
theorem dX3_loadOf_19 : decode cX3_loadOf 19 = .ok (.iload_n 1, 1) := by decide +kernel
theorem dX3_loadOf_20 : decode cX3_loadOf 20 = .ok (.if_icmp .ne 11, 3) := by decide +kernel
theorem dX3_loadOf_23 : decode cX3_loadOf 23 = .ok (.aload_n 0, 1) := by decide +kernel
theorem dX3_loadOf_24 : decode cX3_loadOf 24 = .ok (.iload_n 3, 1) := by decide +kernel
theorem dX3_loadOf_25 : decode cX3_loadOf 25 = .ok (.invokevirtual 70, 3) := by decide +kernel
theorem dX3_loadOf_28 : decode cX3_loadOf 28 = .ok (.goto 4, 3) := by decide +kernel
theorem dX3_loadOf_31 : decode cX3_loadOf 31 = .ok (.iconst 0, 1) := by decide +kernel
theorem dX3_loadOf_32 : decode cX3_loadOf 32 = .ok (.iadd, 1) := by decide +kernel
theorem dX3_loadOf_33 : decode cX3_loadOf 33 = .ok (.istore_n 2, 1) := by decide +kernel
theorem dX3_loadOf_34 : decode cX3_loadOf 34 = .ok (.iinc 3 1, 3) := by decide +kernel
theorem dX3_loadOf_37 : decode cX3_loadOf 37 = .ok (.goto (-33), 3) := by decide +kernel
theorem dX3_loadOf_40 : decode cX3_loadOf 40 = .ok (.iload_n 2, 1) := by decide +kernel
theorem dX3_loadOf_41 : decode cX3_loadOf 41 = .ok (.ireturn, 1) := by decide +kernel
theorem dX3_isTaken_0 : decode cX3_isTaken 0 = .ok (.iconst 0, 1) := by decide +kernel
theorem dX3_isTaken_1 : decode cX3_isTaken 1 = .ok (.istore_n 3, 1) := by decide +kernel
theorem dX3_isTaken_2 : decode cX3_isTaken 2 = .ok (.iconst 0, 1) := by decide +kernel
theorem dX3_isTaken_3 : decode cX3_isTaken 3 = .ok (.istore 4, 2) := by decide +kernel
theorem dX3_isTaken_5 : decode cX3_isTaken 5 = .ok (.iload 4, 2) := by decide +kernel
theorem dX3_isTaken_7 : decode cX3_isTaken 7 = .ok (.aload_n 0, 1) := by decide +kernel
theorem dX3_isTaken_8 : decode cX3_isTaken 8 = .ok (.getfield 56, 3) := by decide +kernel
theorem dX3_isTaken_11 : decode cX3_isTaken 11 = .ok (.if_icmp .ge 41, 3) := by decide +kernel
theorem dX3_isTaken_14 : decode cX3_isTaken 14 = .ok (.iload_n 3, 1) := by decide +kernel
theorem dX3_isTaken_15 : decode cX3_isTaken 15 = .ok (.ifCond .ne 25, 3) := by decide +kernel
theorem dX3_isTaken_18 : decode cX3_isTaken 18 = .ok (.aload_n 0, 1) := by decide +kernel
theorem dX3_isTaken_19 : decode cX3_isTaken 19 = .ok (.getfield 25, 3) := by decide +kernel
theorem dX3_isTaken_22 : decode cX3_isTaken 22 = .ok (.iload 4, 2) := by decide +kernel
theorem dX3_isTaken_24 : decode cX3_isTaken 24 = .ok (.iaload, 1) := by decide +kernel
theorem dX3_isTaken_25 : decode cX3_isTaken 25 = .ok (.iload_n 1, 1) := by decide +kernel
theorem dX3_isTaken_26 : decode cX3_isTaken 26 = .ok (.if_icmp .ne 18, 3) := by decide +kernel
theorem dX3_isTaken_29 : decode cX3_isTaken 29 = .ok (.aload_n 0, 1) := by decide +kernel
theorem dX3_isTaken_30 : decode cX3_isTaken 30 = .ok (.getfield 28, 3) := by decide +kernel
theorem dX3_isTaken_33 : decode cX3_isTaken 33 = .ok (.iload 4, 2) := by decide +kernel
theorem dX3_isTaken_35 : decode cX3_isTaken 35 = .ok (.iaload, 1) := by decide +kernel
theorem dX3_isTaken_36 : decode cX3_isTaken 36 = .ok (.iload_n 2, 1) := by decide +kernel
theorem dX3_isTaken_37 : decode cX3_isTaken 37 = .ok (.if_icmp .ne 7, 3) := by decide +kernel
theorem dX3_isTaken_40 : decode cX3_isTaken 40 = .ok (.iconst 1, 1) := by decide +kernel
theorem dX3_isTaken_41 : decode cX3_isTaken 41 = .ok (.goto 4, 3) := by decide +kernel
theorem dX3_isTaken_44 : decode cX3_isTaken 44 = .ok (.iconst 0, 1) := by decide +kernel
theorem dX3_isTaken_45 : decode cX3_isTaken 45 = .ok (.istore_n 3, 1) := by decide +kernel
theorem dX3_isTaken_46 : decode cX3_isTaken 46 = .ok (.iinc 4 1, 3) := by decide +kernel
theorem dX3_isTaken_49 : decode cX3_isTaken 49 = .ok (.goto (-44), 3) := by decide +kernel
theorem dX3_isTaken_52 : decode cX3_isTaken 52 = .ok (.iload_n 3, 1) := by decide +kernel
theorem dX3_isTaken_53 : decode cX3_isTaken 53 = .ok (.ireturn, 1) := by decide +kernel
set_option maxRecDepth 20000 in
theorem ggX3_hang_X3_isLantern : GoodIn wsX3_hang wsX3_isLantern := goodIn_r _ [9, 10, 11, 12, 8, 13, 39, 40, 41, 42, 43, 44, 45, 46, 47, 48, 49, 50, 51, 52, 53, 54, 55, 56, 57, 58, 59, 60] (by decide +kernel) (by decide +kernel)
set_option maxRecDepth 20000 in
theorem gX3_hang_X3_isLantern : GoodIn wsX3_hang (wsV RX3 74 RX3 yX3_isLantern wsX3_isLantern) := goodIn_app (goodIn_of _ (by decide +kernel)) ggX3_hang_X3_isLantern
set_option maxRecDepth 20000 in
theorem ggX3_hang_X3_isFloat : GoodIn wsX3_hang wsX3_isFloat := goodIn_r _ [17, 18, 11, 12, 8, 13, 39, 40, 41, 42, 43, 44, 45, 46, 47, 48, 49, 50, 51, 52, 53, 54, 55, 56, 57, 58, 59, 60] (by decide +kernel) (by decide +kernel)
set_option maxRecDepth 20000 in
theorem gX3_hang_X3_isFloat : GoodIn wsX3_hang (wsV RX3 78 RX3 yX3_isFloat wsX3_isFloat) := goodIn_app (goodIn_of _ (by decide +kernel)) ggX3_hang_X3_isFloat
set_option maxRecDepth 20000 in
theorem ggX3_hang_X3_in : GoodIn wsX3_hang wsX3_in := goodIn_r _ [13] (by decide +kernel) (by decide +kernel)
set_option maxRecDepth 20000 in
theorem gX3_hang_X3_in : GoodIn wsX3_hang (va_wsS RX3 59 yX3_in wsX3_in) := goodIn_app (goodIn_of _ (by decide +kernel)) ggX3_hang_X3_in
set_option maxRecDepth 20000 in
theorem ggX3_hang_X3_loadOf : GoodIn wsX3_hang wsX3_loadOf := goodIn_r _ [22, 10, 1, 23, 24, 25, 8, 26, 27, 28, 29, 39, 40, 41, 42, 43, 44, 45, 46, 47, 48, 49, 50, 51, 52, 53, 54, 55, 56, 57, 58, 59, 60] (by decide +kernel) (by decide +kernel)
set_option maxRecDepth 20000 in
theorem gX3_hang_X3_loadOf : GoodIn wsX3_hang (wsV RX3 81 RX3 yX3_loadOf wsX3_loadOf) := goodIn_app (goodIn_of _ (by decide +kernel)) ggX3_hang_X3_loadOf
set_option maxRecDepth 20000 in
theorem ggX3_hang_X3_weight : GoodIn wsX3_hang wsX3_weight := goodIn_r _ [26, 27, 28, 29, 39, 40, 41, 42, 43, 44, 45, 46, 47, 48, 49, 50, 51, 52, 53, 54, 55, 56, 57, 58, 59, 60] (by decide +kernel) (by decide +kernel)
set_option maxRecDepth 20000 in
theorem gX3_hang_X3_weight : GoodIn wsX3_hang (wsV RX3 70 RX3 yX3_weight wsX3_weight) := goodIn_app (goodIn_of _ (by decide +kernel)) ggX3_hang_X3_weight
set_option maxRecDepth 20000 in
theorem ggX3_hang_X3_isTaken : GoodIn wsX3_hang wsX3_isTaken := goodIn_r _ [33, 10, 1, 4, 39, 40, 41, 42, 43, 44, 45, 46, 47, 48, 49, 50, 51, 52, 53, 54, 55, 56, 57, 58, 59, 60] (by decide +kernel) (by decide +kernel)
set_option maxRecDepth 20000 in
theorem gX3_hang_X3_isTaken : GoodIn wsX3_hang (wsV RX3 84 RX3 yX3_isTaken wsX3_isTaken) := goodIn_app (goodIn_of _ (by decide +kernel)) ggX3_hang_X3_isTaken
set_option maxRecDepth 20000 in
theorem ggX3_hang_X3_goes : GoodIn wsX3_hang wsX3_goes := goodIn_r _ [37, 38, 39, 40, 41, 42, 43, 44, 45, 46, 47, 48, 49, 50, 51, 52, 53, 54, 55, 56, 57, 58, 59, 60] (by decide +kernel) (by decide +kernel)
set_option maxRecDepth 20000 in
theorem gX3_hang_X3_goes : GoodIn wsX3_hang (wsV RX3 66 RX3 yX3_goes wsX3_goes) := goodIn_app (goodIn_of _ (by decide +kernel)) ggX3_hang_X3_goes
theorem dX3_hang_0 : decode cX3_hang 0 = .ok (.aload_n 0, 1) := by decide +kernel
theorem dX3_hang_1 : decode cX3_hang 1 = .ok (.iload_n 1, 1) := by decide +kernel
theorem dX3_hang_2 : decode cX3_hang 2 = .ok (.invokevirtual 74, 3) := by decide +kernel
theorem dX3_hang_5 : decode cX3_hang 5 = .ok (.ifCond .eq 25, 3) := by decide +kernel
theorem dX3_hang_8 : decode cX3_hang 8 = .ok (.aload_n 0, 1) := by decide +kernel
theorem dX3_hang_9 : decode cX3_hang 9 = .ok (.iload_n 2, 1) := by decide +kernel
theorem dX3_hang_10 : decode cX3_hang 10 = .ok (.invokevirtual 78, 3) := by decide +kernel
theorem dX3_hang_13 : decode cX3_hang 13 = .ok (.ifCond .eq 17, 3) := by decide +kernel
theorem dX3_hang_16 : decode cX3_hang 16 = .ok (.iload_n 3, 1) := by decide +kernel
theorem dX3_hang_17 : decode cX3_hang 17 = .ok (.iconst 0, 1) := by decide +kernel
theorem dX3_hang_18 : decode cX3_hang 18 = .ok (.bipush 9, 2) := by decide +kernel
theorem dX3_hang_20 : decode cX3_hang 20 = .ok (.invokestatic 59, 3) := by decide +kernel
theorem dX3_hang_23 : decode cX3_hang 23 = .ok (.ifCond .eq 7, 3) := by decide +kernel
theorem dX3_hang_26 : decode cX3_hang 26 = .ok (.iconst 1, 1) := by decide +kernel
theorem dX3_hang_27 : decode cX3_hang 27 = .ok (.goto 4, 3) := by decide +kernel
theorem dX3_hang_30 : decode cX3_hang 30 = .ok (.iconst 0, 1) := by decide +kernel
theorem dX3_hang_31 : decode cX3_hang 31 = .ok (.istore 4, 2) := by decide +kernel
theorem dX3_hang_33 : decode cX3_hang 33 = .ok (.iload 4, 2) := by decide +kernel
theorem dX3_hang_35 : decode cX3_hang 35 = .ok (.ifCond .eq 47, 3) := by decide +kernel
theorem dX3_hang_38 : decode cX3_hang 38 = .ok (.aload_n 0, 1) := by decide +kernel
theorem dX3_hang_39 : decode cX3_hang 39 = .ok (.getfield 25, 3) := by decide +kernel
theorem dX3_hang_42 : decode cX3_hang 42 = .ok (.iload_n 1, 1) := by decide +kernel
theorem dX3_hang_43 : decode cX3_hang 43 = .ok (.iaload, 1) := by decide +kernel
theorem dX3_hang_44 : decode cX3_hang 44 = .ok (.iconst (-1), 1) := by decide +kernel
theorem dX3_hang_45 : decode cX3_hang 45 = .ok (.if_icmp .ne 37, 3) := by decide +kernel
theorem dX3_hang_48 : decode cX3_hang 48 = .ok (.aload_n 0, 1) := by decide +kernel
theorem dX3_hang_49 : decode cX3_hang 49 = .ok (.getfield 37, 3) := by decide +kernel
theorem dX3_hang_52 : decode cX3_hang 52 = .ok (.iload_n 2, 1) := by decide +kernel
theorem dX3_hang_53 : decode cX3_hang 53 = .ok (.iaload, 1) := by decide +kernel
theorem dX3_hang_54 : decode cX3_hang 54 = .ok (.iconst 2, 1) := by decide +kernel
theorem dX3_hang_55 : decode cX3_hang 55 = .ok (.if_icmp .eq 27, 3) := by decide +kernel
theorem dX3_hang_58 : decode cX3_hang 58 = .ok (.aload_n 0, 1) := by decide +kernel
theorem dX3_hang_59 : decode cX3_hang 59 = .ok (.iload_n 2, 1) := by decide +kernel
theorem dX3_hang_60 : decode cX3_hang 60 = .ok (.invokevirtual 81, 3) := by decide +kernel
theorem dX3_hang_63 : decode cX3_hang 63 = .ok (.aload_n 0, 1) := by decide +kernel
theorem dX3_hang_64 : decode cX3_hang 64 = .ok (.iload_n 1, 1) := by decide +kernel
theorem dX3_hang_65 : decode cX3_hang 65 = .ok (.invokevirtual 70, 3) := by decide +kernel
theorem dX3_hang_68 : decode cX3_hang 68 = .ok (.iadd, 1) := by decide +kernel
theorem dX3_hang_69 : decode cX3_hang 69 = .ok (.aload_n 0, 1) := by decide +kernel
theorem dX3_hang_70 : decode cX3_hang 70 = .ok (.getfield 34, 3) := by decide +kernel
theorem dX3_hang_73 : decode cX3_hang 73 = .ok (.iload_n 2, 1) := by decide +kernel
theorem dX3_hang_74 : decode cX3_hang 74 = .ok (.iaload, 1) := by decide +kernel
theorem dX3_hang_75 : decode cX3_hang 75 = .ok (.if_icmp .gt 7, 3) := by decide +kernel
theorem dX3_hang_78 : decode cX3_hang 78 = .ok (.iconst 1, 1) := by decide +kernel
theorem dX3_hang_79 : decode cX3_hang 79 = .ok (.goto 4, 3) := by decide +kernel
theorem dX3_hang_82 : decode cX3_hang 82 = .ok (.iconst 0, 1) := by decide +kernel
theorem dX3_hang_83 : decode cX3_hang 83 = .ok (.istore 5, 2) := by decide +kernel
theorem dX3_hang_85 : decode cX3_hang 85 = .ok (.aload_n 0, 1) := by decide +kernel
theorem dX3_hang_86 : decode cX3_hang 86 = .ok (.iload 4, 2) := by decide +kernel
theorem dX3_hang_88 : decode cX3_hang 88 = .ok (.iload 4, 2) := by decide +kernel
theorem dX3_hang_90 : decode cX3_hang 90 = .ok (.ifCond .eq 16, 3) := by decide +kernel
theorem dX3_hang_93 : decode cX3_hang 93 = .ok (.aload_n 0, 1) := by decide +kernel
theorem dX3_hang_94 : decode cX3_hang 94 = .ok (.iload_n 2, 1) := by decide +kernel
theorem dX3_hang_95 : decode cX3_hang 95 = .ok (.iload_n 3, 1) := by decide +kernel
theorem dX3_hang_96 : decode cX3_hang 96 = .ok (.invokevirtual 84, 3) := by decide +kernel
theorem dX3_hang_99 : decode cX3_hang 99 = .ok (.ifCond .ne 7, 3) := by decide +kernel
theorem dX3_hang_102 : decode cX3_hang 102 = .ok (.iconst 1, 1) := by decide +kernel
theorem dX3_hang_103 : decode cX3_hang 103 = .ok (.goto 4, 3) := by decide +kernel
theorem dX3_hang_106 : decode cX3_hang 106 = .ok (.iconst 0, 1) := by decide +kernel
theorem dX3_hang_107 : decode cX3_hang 107 = .ok (.iload 5, 2) := by decide +kernel
theorem dX3_hang_109 : decode cX3_hang 109 = .ok (.invokevirtual 66, 3) := by decide +kernel
theorem dX3_hang_112 : decode cX3_hang 112 = .ok (.ifCond .ne 5, 3) := by decide +kernel
theorem dX3_hang_115 : decode cX3_hang 115 = .ok (.iconst 0, 1) := by decide +kernel
theorem dX3_hang_116 : decode cX3_hang 116 = .ok (.ireturn, 1) := by decide +kernel
theorem dX3_hang_117 : decode cX3_hang 117 = .ok (.aload_n 0, 1) := by decide +kernel
theorem dX3_hang_118 : decode cX3_hang 118 = .ok (.getfield 25, 3) := by decide +kernel
theorem dX3_hang_121 : decode cX3_hang 121 = .ok (.iload_n 1, 1) := by decide +kernel
theorem dX3_hang_122 : decode cX3_hang 122 = .ok (.iload_n 2, 1) := by decide +kernel
theorem dX3_hang_123 : decode cX3_hang 123 = .ok (.iastore, 1) := by decide +kernel
theorem dX3_hang_124 : decode cX3_hang 124 = .ok (.aload_n 0, 1) := by decide +kernel
theorem dX3_hang_125 : decode cX3_hang 125 = .ok (.getfield 28, 3) := by decide +kernel
theorem dX3_hang_128 : decode cX3_hang 128 = .ok (.iload_n 1, 1) := by decide +kernel
theorem dX3_hang_129 : decode cX3_hang 129 = .ok (.iload_n 3, 1) := by decide +kernel
theorem dX3_hang_130 : decode cX3_hang 130 = .ok (.iastore, 1) := by decide +kernel
theorem dX3_hang_131 : decode cX3_hang 131 = .ok (.aload_n 0, 1) := by decide +kernel
theorem dX3_hang_132 : decode cX3_hang 132 = .ok (.iload_n 2, 1) := by decide +kernel
theorem dX3_hang_133 : decode cX3_hang 133 = .ok (.invokevirtual 81, 3) := by decide +kernel
theorem dX3_hang_136 : decode cX3_hang 136 = .ok (.ireturn, 1) := by decide +kernel
theorem dX3_darkens_0 : decode cX3_darkens 0 = .ok (.aload_n 0, 1) := by decide +kernel
theorem dX3_darkens_1 : decode cX3_darkens 1 = .ok (.getfield 19, 3) := by decide +kernel
theorem dX3_darkens_4 : decode cX3_darkens 4 = .ok (.iload_n 1, 1) := by decide +kernel
theorem dX3_darkens_5 : decode cX3_darkens 5 = .ok (.aload_n 0, 1) := by decide +kernel
theorem dX3_darkens_6 : decode cX3_darkens 6 = .ok (.getfield 19, 3) := by decide +kernel
theorem dX3_darkens_9 : decode cX3_darkens 9 = .ok (.iload_n 1, 1) := by decide +kernel
theorem dX3_darkens_10 : decode cX3_darkens 10 = .ok (.iaload, 1) := by decide +kernel
theorem dX3_darkens_11 : decode cX3_darkens 11 = .ok (.iconst 2, 1) := by decide +kernel
theorem dX3_darkens_12 : decode cX3_darkens 12 = .ok (.if_icmp .ne 7, 3) := by decide +kernel
theorem dX3_darkens_15 : decode cX3_darkens 15 = .ok (.iconst 2, 1) := by decide +kernel
theorem dX3_darkens_16 : decode cX3_darkens 16 = .ok (.goto 4, 3) := by decide +kernel
theorem dX3_darkens_19 : decode cX3_darkens 19 = .ok (.iconst 0, 1) := by decide +kernel
theorem dX3_darkens_20 : decode cX3_darkens 20 = .ok (.iastore, 1) := by decide +kernel
theorem dX3_darkens_21 : decode cX3_darkens 21 = .ok (.return_, 1) := by decide +kernel
set_option maxRecDepth 20000 in
theorem ggX3_takeDown_X3_isLantern : GoodIn wsX3_takeDown wsX3_isLantern := goodIn_r _ [6, 7, 8, 9, 5, 10, 21, 22, 23, 24, 25, 26, 27, 28, 29, 30, 31, 32, 33, 34, 35, 36, 37, 38, 39, 40, 41, 42] (by decide +kernel) (by decide +kernel)
set_option maxRecDepth 20000 in
theorem gX3_takeDown_X3_isLantern : GoodIn wsX3_takeDown (wsV RX3 74 RX3 yX3_isLantern wsX3_isLantern) := goodIn_app (goodIn_of _ (by decide +kernel)) ggX3_takeDown_X3_isLantern
set_option maxRecDepth 20000 in
theorem ggX3_takeDown_X3_goes : GoodIn wsX3_takeDown wsX3_goes := goodIn_r _ [14, 15, 21, 22, 23, 24, 25, 26, 27, 28, 29, 30, 31, 32, 33, 34, 35, 36, 37, 38, 39, 40, 41, 42] (by decide +kernel) (by decide +kernel)
set_option maxRecDepth 20000 in
theorem gX3_takeDown_X3_goes : GoodIn wsX3_takeDown (wsV RX3 66 RX3 yX3_goes wsX3_goes) := goodIn_app (goodIn_of _ (by decide +kernel)) ggX3_takeDown_X3_goes
set_option maxRecDepth 20000 in
theorem ggX3_takeDown_X3_darkens : GoodIn wsX3_takeDown wsX3_darkens := goodIn_r _ [19, 20, 21, 22, 23, 24, 25, 26, 27, 28, 29, 30, 31, 32, 33, 34, 35, 36, 37, 38, 39, 40, 41, 42] (by decide +kernel) (by decide +kernel)
set_option maxRecDepth 20000 in
theorem gX3_takeDown_X3_darkens : GoodIn wsX3_takeDown (wsV RX3 88 RX3 yX3_darkens wsX3_darkens) := goodIn_app (goodIn_of _ (by decide +kernel)) ggX3_takeDown_X3_darkens
theorem dX3_takeDown_0 : decode cX3_takeDown 0 = .ok (.aload_n 0, 1) := by decide +kernel
theorem dX3_takeDown_1 : decode cX3_takeDown 1 = .ok (.iload_n 1, 1) := by decide +kernel
theorem dX3_takeDown_2 : decode cX3_takeDown 2 = .ok (.invokevirtual 74, 3) := by decide +kernel
theorem dX3_takeDown_5 : decode cX3_takeDown 5 = .ok (.istore_n 2, 1) := by decide +kernel
theorem dX3_takeDown_6 : decode cX3_takeDown 6 = .ok (.aload_n 0, 1) := by decide +kernel
theorem dX3_takeDown_7 : decode cX3_takeDown 7 = .ok (.iload_n 2, 1) := by decide +kernel
theorem dX3_takeDown_8 : decode cX3_takeDown 8 = .ok (.iload_n 2, 1) := by decide +kernel
theorem dX3_takeDown_9 : decode cX3_takeDown 9 = .ok (.ifCond .eq 17, 3) := by decide +kernel
theorem dX3_takeDown_12 : decode cX3_takeDown 12 = .ok (.aload_n 0, 1) := by decide +kernel
theorem dX3_takeDown_13 : decode cX3_takeDown 13 = .ok (.getfield 25, 3) := by decide +kernel
theorem dX3_takeDown_16 : decode cX3_takeDown 16 = .ok (.iload_n 1, 1) := by decide +kernel
theorem dX3_takeDown_17 : decode cX3_takeDown 17 = .ok (.iaload, 1) := by decide +kernel
theorem dX3_takeDown_18 : decode cX3_takeDown 18 = .ok (.iconst (-1), 1) := by decide +kernel
theorem dX3_takeDown_19 : decode cX3_takeDown 19 = .ok (.if_icmp .eq 7, 3) := by decide +kernel
theorem dX3_takeDown_22 : decode cX3_takeDown 22 = .ok (.iconst 1, 1) := by decide +kernel
theorem dX3_takeDown_23 : decode cX3_takeDown 23 = .ok (.goto 4, 3) := by decide +kernel
theorem dX3_takeDown_26 : decode cX3_takeDown 26 = .ok (.iconst 0, 1) := by decide +kernel
theorem dX3_takeDown_27 : decode cX3_takeDown 27 = .ok (.iconst 1, 1) := by decide +kernel
theorem dX3_takeDown_28 : decode cX3_takeDown 28 = .ok (.invokevirtual 66, 3) := by decide +kernel
theorem dX3_takeDown_31 : decode cX3_takeDown 31 = .ok (.ifCond .ne 5, 3) := by decide +kernel
theorem dX3_takeDown_34 : decode cX3_takeDown 34 = .ok (.iconst 0, 1) := by decide +kernel
theorem dX3_takeDown_35 : decode cX3_takeDown 35 = .ok (.ireturn, 1) := by decide +kernel
theorem dX3_takeDown_36 : decode cX3_takeDown 36 = .ok (.aload_n 0, 1) := by decide +kernel
theorem dX3_takeDown_37 : decode cX3_takeDown 37 = .ok (.getfield 25, 3) := by decide +kernel
theorem dX3_takeDown_40 : decode cX3_takeDown 40 = .ok (.iload_n 1, 1) := by decide +kernel
theorem dX3_takeDown_41 : decode cX3_takeDown 41 = .ok (.iaload, 1) := by decide +kernel
theorem dX3_takeDown_42 : decode cX3_takeDown 42 = .ok (.istore_n 3, 1) := by decide +kernel
theorem dX3_takeDown_43 : decode cX3_takeDown 43 = .ok (.aload_n 0, 1) := by decide +kernel
theorem dX3_takeDown_44 : decode cX3_takeDown 44 = .ok (.getfield 25, 3) := by decide +kernel
theorem dX3_takeDown_47 : decode cX3_takeDown 47 = .ok (.iload_n 1, 1) := by decide +kernel
theorem dX3_takeDown_48 : decode cX3_takeDown 48 = .ok (.iconst (-1), 1) := by decide +kernel
theorem dX3_takeDown_49 : decode cX3_takeDown 49 = .ok (.iastore, 1) := by decide +kernel
theorem dX3_takeDown_50 : decode cX3_takeDown 50 = .ok (.aload_n 0, 1) := by decide +kernel
theorem dX3_takeDown_51 : decode cX3_takeDown 51 = .ok (.iload_n 1, 1) := by decide +kernel
theorem dX3_takeDown_52 : decode cX3_takeDown 52 = .ok (.invokevirtual 88, 3) := by decide +kernel
theorem dX3_takeDown_55 : decode cX3_takeDown 55 = .ok (.iload_n 3, 1) := by decide +kernel
theorem dX3_takeDown_56 : decode cX3_takeDown 56 = .ok (.ireturn, 1) := by decide +kernel
theorem dX3_hasPlace_0 : decode cX3_hasPlace 0 = .ok (.aload_n 0, 1) := by decide +kernel
theorem dX3_hasPlace_1 : decode cX3_hasPlace 1 = .ok (.getfield 25, 3) := by decide +kernel
theorem dX3_hasPlace_4 : decode cX3_hasPlace 4 = .ok (.iload_n 1, 1) := by decide +kernel
theorem dX3_hasPlace_5 : decode cX3_hasPlace 5 = .ok (.iaload, 1) := by decide +kernel
theorem dX3_hasPlace_6 : decode cX3_hasPlace 6 = .ok (.iconst (-1), 1) := by decide +kernel
theorem dX3_hasPlace_7 : decode cX3_hasPlace 7 = .ok (.if_icmp .eq 22, 3) := by decide +kernel
theorem dX3_hasPlace_10 : decode cX3_hasPlace 10 = .ok (.aload_n 0, 1) := by decide +kernel
theorem dX3_hasPlace_11 : decode cX3_hasPlace 11 = .ok (.getfield 37, 3) := by decide +kernel
theorem dX3_hasPlace_14 : decode cX3_hasPlace 14 = .ok (.aload_n 0, 1) := by decide +kernel
theorem dX3_hasPlace_15 : decode cX3_hasPlace 15 = .ok (.getfield 25, 3) := by decide +kernel
theorem dX3_hasPlace_18 : decode cX3_hasPlace 18 = .ok (.iload_n 1, 1) := by decide +kernel
theorem dX3_hasPlace_19 : decode cX3_hasPlace 19 = .ok (.iaload, 1) := by decide +kernel
theorem dX3_hasPlace_20 : decode cX3_hasPlace 20 = .ok (.iaload, 1) := by decide +kernel
theorem dX3_hasPlace_21 : decode cX3_hasPlace 21 = .ok (.iconst 1, 1) := by decide +kernel
theorem dX3_hasPlace_22 : decode cX3_hasPlace 22 = .ok (.if_icmp .ne 7, 3) := by decide +kernel
theorem dX3_hasPlace_25 : decode cX3_hasPlace 25 = .ok (.iconst 1, 1) := by decide +kernel
theorem dX3_hasPlace_26 : decode cX3_hasPlace 26 = .ok (.goto 4, 3) := by decide +kernel
theorem dX3_hasPlace_29 : decode cX3_hasPlace 29 = .ok (.iconst 0, 1) := by decide +kernel
theorem dX3_hasPlace_30 : decode cX3_hasPlace 30 = .ok (.ireturn, 1) := by decide +kernel
theorem dX3_place_0 : decode cX3_place 0 = .ok (.aload_n 0, 1) := by decide +kernel
theorem dX3_place_1 : decode cX3_place 1 = .ok (.getfield 40, 3) := by decide +kernel
theorem dX3_place_4 : decode cX3_place 4 = .ok (.aload_n 0, 1) := by decide +kernel
theorem dX3_place_5 : decode cX3_place 5 = .ok (.getfield 25, 3) := by decide +kernel
theorem dX3_place_8 : decode cX3_place 8 = .ok (.iload_n 1, 1) := by decide +kernel
theorem dX3_place_9 : decode cX3_place 9 = .ok (.iaload, 1) := by decide +kernel
theorem dX3_place_10 : decode cX3_place 10 = .ok (.iaload, 1) := by decide +kernel
theorem dX3_place_11 : decode cX3_place 11 = .ok (.aload_n 0, 1) := by decide +kernel
theorem dX3_place_12 : decode cX3_place 12 = .ok (.getfield 28, 3) := by decide +kernel
theorem dX3_place_15 : decode cX3_place 15 = .ok (.iload_n 1, 1) := by decide +kernel
theorem dX3_place_16 : decode cX3_place 16 = .ok (.iaload, 1) := by decide +kernel
theorem dX3_place_17 : decode cX3_place 17 = .ok (.isub, 1) := by decide +kernel
theorem dX3_place_18 : decode cX3_place 18 = .ok (.ireturn, 1) := by decide +kernel
set_option maxRecDepth 20000 in
theorem ggX3_distance_X3_place : GoodIn wsX3_distance wsX3_place := goodIn_r _ [5, 6, 7, 8, 9, 10, 11, 12, 13, 14, 15, 16, 17, 18, 19, 20, 21, 22, 23, 24, 25, 26, 27, 28, 29, 30] (by decide +kernel) (by decide +kernel)
set_option maxRecDepth 20000 in
theorem gX3_distance_X3_place : GoodIn wsX3_distance (wsV RX3 92 RX3 yX3_place wsX3_place) := goodIn_app (goodIn_of _ (by decide +kernel)) ggX3_distance_X3_place
theorem dX3_distance_0 : decode cX3_distance 0 = .ok (.aload_n 0, 1) := by decide +kernel
theorem dX3_distance_1 : decode cX3_distance 1 = .ok (.iload_n 1, 1) := by decide +kernel
theorem dX3_distance_2 : decode cX3_distance 2 = .ok (.invokevirtual 92, 3) := by decide +kernel
theorem dX3_distance_5 : decode cX3_distance 5 = .ok (.aload_n 0, 1) := by decide +kernel
theorem dX3_distance_6 : decode cX3_distance 6 = .ok (.iload_n 2, 1) := by decide +kernel
theorem dX3_distance_7 : decode cX3_distance 7 = .ok (.invokevirtual 92, 3) := by decide +kernel
theorem dX3_distance_10 : decode cX3_distance 10 = .ok (.isub, 1) := by decide +kernel
theorem dX3_distance_11 : decode cX3_distance 11 = .ok (.istore_n 3, 1) := by decide +kernel
theorem dX3_distance_12 : decode cX3_distance 12 = .ok (.iload_n 3, 1) := by decide +kernel
theorem dX3_distance_13 : decode cX3_distance 13 = .ok (.ifCond .ge 8, 3) := by decide +kernel
theorem dX3_distance_16 : decode cX3_distance 16 = .ok (.iload_n 3, 1) := by decide +kernel
theorem dX3_distance_17 : decode cX3_distance 17 = .ok (.ineg, 1) := by decide +kernel
theorem dX3_distance_18 : decode cX3_distance 18 = .ok (.goto 4, 3) := by decide +kernel
theorem dX3_distance_21 : decode cX3_distance 21 = .ok (.iload_n 3, 1) := by decide +kernel
theorem dX3_distance_22 : decode cX3_distance 22 = .ok (.ireturn, 1) := by decide +kernel
set_option maxRecDepth 20000 in
theorem ggX3_isNear_X3_distance : GoodIn wsX3_isNear wsX3_distance := goodIn_r _ [8, 9, 10, 11, 7, 12, 13, 14, 15, 16, 17, 18, 19, 20, 21, 22, 23, 24, 25, 26, 27, 28, 29, 30, 31, 32, 33, 34, 35, 36, 37] (by decide +kernel) (by decide +kernel)
set_option maxRecDepth 20000 in
theorem gX3_isNear_X3_distance : GoodIn wsX3_isNear (wsV RX3 95 RX3 yX3_distance wsX3_distance) := goodIn_app (goodIn_of _ (by decide +kernel)) ggX3_isNear_X3_distance
theorem dX3_isNear_0 : decode cX3_isNear 0 = .ok (.iconst 0, 1) := by decide +kernel
theorem dX3_isNear_1 : decode cX3_isNear 1 = .ok (.istore_n 3, 1) := by decide +kernel
theorem dX3_isNear_2 : decode cX3_isNear 2 = .ok (.iconst 0, 1) := by decide +kernel
theorem dX3_isNear_3 : decode cX3_isNear 3 = .ok (.istore 4, 2) := by decide +kernel
theorem dX3_isNear_5 : decode cX3_isNear 5 = .ok (.iload 4, 2) := by decide +kernel
theorem dX3_isNear_7 : decode cX3_isNear 7 = .ok (.iload_n 2, 1) := by decide +kernel
theorem dX3_isNear_8 : decode cX3_isNear 8 = .ok (.if_icmp .ge 65, 3) := by decide +kernel
theorem dX3_isNear_11 : decode cX3_isNear 11 = .ok (.iload_n 3, 1) := by decide +kernel
theorem dX3_isNear_12 : decode cX3_isNear 12 = .ok (.ifCond .ne 49, 3) := by decide +kernel
theorem dX3_isNear_15 : decode cX3_isNear 15 = .ok (.iload 4, 2) := by decide +kernel
theorem dX3_isNear_17 : decode cX3_isNear 17 = .ok (.iload_n 1, 1) := by decide +kernel
theorem dX3_isNear_18 : decode cX3_isNear 18 = .ok (.if_icmp .eq 47, 3) := by decide +kernel
theorem dX3_isNear_21 : decode cX3_isNear 21 = .ok (.aload_n 0, 1) := by decide +kernel
theorem dX3_isNear_22 : decode cX3_isNear 22 = .ok (.getfield 19, 3) := by decide +kernel
theorem dX3_isNear_25 : decode cX3_isNear 25 = .ok (.iload 4, 2) := by decide +kernel
theorem dX3_isNear_27 : decode cX3_isNear 27 = .ok (.iaload, 1) := by decide +kernel
theorem dX3_isNear_28 : decode cX3_isNear 28 = .ok (.iconst 1, 1) := by decide +kernel
theorem dX3_isNear_29 : decode cX3_isNear 29 = .ok (.if_icmp .ne 36, 3) := by decide +kernel
theorem dX3_isNear_32 : decode cX3_isNear 32 = .ok (.aload_n 0, 1) := by decide +kernel
theorem dX3_isNear_33 : decode cX3_isNear 33 = .ok (.iload 4, 2) := by decide +kernel
theorem dX3_isNear_35 : decode cX3_isNear 35 = .ok (.iload_n 1, 1) := by decide +kernel
theorem dX3_isNear_36 : decode cX3_isNear 36 = .ok (.invokevirtual 95, 3) := by decide +kernel
theorem dX3_isNear_39 : decode cX3_isNear 39 = .ok (.aload_n 0, 1) := by decide +kernel
theorem dX3_isNear_40 : decode cX3_isNear 40 = .ok (.getfield 16, 3) := by decide +kernel
theorem dX3_isNear_43 : decode cX3_isNear 43 = .ok (.iload 4, 2) := by decide +kernel
theorem dX3_isNear_45 : decode cX3_isNear 45 = .ok (.iaload, 1) := by decide +kernel
theorem dX3_isNear_46 : decode cX3_isNear 46 = .ok (.aload_n 0, 1) := by decide +kernel
theorem dX3_isNear_47 : decode cX3_isNear 47 = .ok (.getfield 16, 3) := by decide +kernel
theorem dX3_isNear_50 : decode cX3_isNear 50 = .ok (.iload_n 1, 1) := by decide +kernel
theorem dX3_isNear_51 : decode cX3_isNear 51 = .ok (.iaload, 1) := by decide +kernel
theorem dX3_isNear_52 : decode cX3_isNear 52 = .ok (.iadd, 1) := by decide +kernel
theorem dX3_isNear_53 : decode cX3_isNear 53 = .ok (.aload_n 0, 1) := by decide +kernel
theorem dX3_isNear_54 : decode cX3_isNear 54 = .ok (.getfield 99, 3) := by decide +kernel
theorem dX3_isNear_57 : decode cX3_isNear 57 = .ok (.iadd, 1) := by decide +kernel
theorem dX3_isNear_58 : decode cX3_isNear 58 = .ok (.if_icmp .ge 7, 3) := by decide +kernel
theorem dX3_isNear_61 : decode cX3_isNear 61 = .ok (.iconst 1, 1) := by decide +kernel
theorem dX3_isNear_62 : decode cX3_isNear 62 = .ok (.goto 4, 3) := by decide +kernel
theorem dX3_isNear_65 : decode cX3_isNear 65 = .ok (.iconst 0, 1) := by decide +kernel
theorem dX3_isNear_66 : decode cX3_isNear 66 = .ok (.istore_n 3, 1) := by decide +kernel
theorem dX3_isNear_67 : decode cX3_isNear 67 = .ok (.iinc 4 1, 3) := by decide +kernel
theorem dX3_isNear_70 : decode cX3_isNear 70 = .ok (.goto (-65), 3) := by decide +kernel
theorem dX3_isNear_73 : decode cX3_isNear 73 = .ok (.iload_n 3, 1) := by decide +kernel
theorem dX3_isNear_74 : decode cX3_isNear 74 = .ok (.ireturn, 1) := by decide +kernel
set_option maxRecDepth 20000 in
theorem ggX3_light_X3_isLantern : GoodIn wsX3_light wsX3_isLantern := goodIn_r _ [8, 2, 9, 10, 7, 11, 39, 40, 41, 42, 43, 44, 45, 46, 47, 48, 49, 50, 51, 52, 53, 54, 55, 56, 57, 58, 59, 60] (by decide +kernel) (by decide +kernel)
set_option maxRecDepth 20000 in
theorem gX3_light_X3_isLantern : GoodIn wsX3_light (wsV RX3 74 RX3 yX3_isLantern wsX3_isLantern) := goodIn_app (goodIn_of _ (by decide +kernel)) ggX3_light_X3_isLantern
set_option maxRecDepth 20000 in
theorem ggX3_light_X3_hasPlace : GoodIn wsX3_light wsX3_hasPlace := goodIn_r _ [15, 16, 17, 39, 40, 41, 42, 43, 44, 45, 46, 47, 48, 49, 50, 51, 52, 53, 54, 55, 56, 57, 58, 59, 60] (by decide +kernel) (by decide +kernel)
set_option maxRecDepth 20000 in
theorem gX3_light_X3_hasPlace : GoodIn wsX3_light (wsV RX3 102 RX3 yX3_hasPlace wsX3_hasPlace) := goodIn_app (goodIn_of _ (by decide +kernel)) ggX3_light_X3_hasPlace
set_option maxRecDepth 20000 in
theorem ggX3_light_X3_isNear : GoodIn wsX3_light wsX3_isNear := goodIn_r _ [21, 1, 22, 23, 24, 25, 26, 7, 27, 28, 29, 30, 31, 32, 16, 33, 39, 40, 41, 42, 43, 44, 45, 46, 47, 48, 49, 50, 51, 52, 53, 54, 55, 56, 57, 58, 59, 60] (by decide +kernel) (by decide +kernel)
set_option maxRecDepth 20000 in
theorem gX3_light_X3_isNear : GoodIn wsX3_light (wsV RX3 105 RX3 yX3_isNear wsX3_isNear) := goodIn_app (goodIn_of _ (by decide +kernel)) ggX3_light_X3_isNear
set_option maxRecDepth 20000 in
theorem ggX3_light_X3_goes : GoodIn wsX3_light wsX3_goes := goodIn_r _ [37, 38, 39, 40, 41, 42, 43, 44, 45, 46, 47, 48, 49, 50, 51, 52, 53, 54, 55, 56, 57, 58, 59, 60] (by decide +kernel) (by decide +kernel)
set_option maxRecDepth 20000 in
theorem gX3_light_X3_goes : GoodIn wsX3_light (wsV RX3 66 RX3 yX3_goes wsX3_goes) := goodIn_app (goodIn_of _ (by decide +kernel)) ggX3_light_X3_goes
theorem dX3_light_0 : decode cX3_light 0 = .ok (.aload_n 0, 1) := by decide +kernel
theorem dX3_light_1 : decode cX3_light 1 = .ok (.iload_n 1, 1) := by decide +kernel
theorem dX3_light_2 : decode cX3_light 2 = .ok (.invokevirtual 74, 3) := by decide +kernel
theorem dX3_light_5 : decode cX3_light 5 = .ok (.istore_n 2, 1) := by decide +kernel
theorem dX3_light_6 : decode cX3_light 6 = .ok (.iload_n 2, 1) := by decide +kernel
theorem dX3_light_7 : decode cX3_light 7 = .ok (.ifCond .eq 36, 3) := by decide +kernel
theorem dX3_light_10 : decode cX3_light 10 = .ok (.aload_n 0, 1) := by decide +kernel
theorem dX3_light_11 : decode cX3_light 11 = .ok (.iload_n 1, 1) := by decide +kernel
theorem dX3_light_12 : decode cX3_light 12 = .ok (.invokevirtual 102, 3) := by decide +kernel
theorem dX3_light_15 : decode cX3_light 15 = .ok (.ifCond .eq 28, 3) := by decide +kernel
theorem dX3_light_18 : decode cX3_light 18 = .ok (.aload_n 0, 1) := by decide +kernel
theorem dX3_light_19 : decode cX3_light 19 = .ok (.getfield 19, 3) := by decide +kernel
theorem dX3_light_22 : decode cX3_light 22 = .ok (.iload_n 1, 1) := by decide +kernel
theorem dX3_light_23 : decode cX3_light 23 = .ok (.iaload, 1) := by decide +kernel
theorem dX3_light_24 : decode cX3_light 24 = .ok (.ifCond .ne 19, 3) := by decide +kernel
theorem dX3_light_27 : decode cX3_light 27 = .ok (.aload_n 0, 1) := by decide +kernel
theorem dX3_light_28 : decode cX3_light 28 = .ok (.iload_n 1, 1) := by decide +kernel
theorem dX3_light_29 : decode cX3_light 29 = .ok (.aload_n 0, 1) := by decide +kernel
theorem dX3_light_30 : decode cX3_light 30 = .ok (.getfield 56, 3) := by decide +kernel
theorem dX3_light_33 : decode cX3_light 33 = .ok (.invokevirtual 105, 3) := by decide +kernel
theorem dX3_light_36 : decode cX3_light 36 = .ok (.ifCond .ne 7, 3) := by decide +kernel
theorem dX3_light_39 : decode cX3_light 39 = .ok (.iconst 1, 1) := by decide +kernel
theorem dX3_light_40 : decode cX3_light 40 = .ok (.goto 4, 3) := by decide +kernel
theorem dX3_light_43 : decode cX3_light 43 = .ok (.iconst 0, 1) := by decide +kernel
theorem dX3_light_44 : decode cX3_light 44 = .ok (.istore_n 3, 1) := by decide +kernel
theorem dX3_light_45 : decode cX3_light 45 = .ok (.aload_n 0, 1) := by decide +kernel
theorem dX3_light_46 : decode cX3_light 46 = .ok (.iload_n 2, 1) := by decide +kernel
theorem dX3_light_47 : decode cX3_light 47 = .ok (.iload_n 3, 1) := by decide +kernel
theorem dX3_light_48 : decode cX3_light 48 = .ok (.iconst 1, 1) := by decide +kernel
theorem dX3_light_49 : decode cX3_light 49 = .ok (.invokevirtual 66, 3) := by decide +kernel
theorem dX3_light_52 : decode cX3_light 52 = .ok (.ifCond .ne 5, 3) := by decide +kernel
theorem dX3_light_55 : decode cX3_light 55 = .ok (.iconst 0, 1) := by decide +kernel
theorem dX3_light_56 : decode cX3_light 56 = .ok (.ireturn, 1) := by decide +kernel
theorem dX3_light_57 : decode cX3_light 57 = .ok (.aload_n 0, 1) := by decide +kernel
theorem dX3_light_58 : decode cX3_light 58 = .ok (.getfield 19, 3) := by decide +kernel
theorem dX3_light_61 : decode cX3_light 61 = .ok (.iload_n 1, 1) := by decide +kernel
theorem dX3_light_62 : decode cX3_light 62 = .ok (.iconst 1, 1) := by decide +kernel
theorem dX3_light_63 : decode cX3_light 63 = .ok (.iastore, 1) := by decide +kernel
theorem dX3_light_64 : decode cX3_light 64 = .ok (.aload_n 0, 1) := by decide +kernel
theorem dX3_light_65 : decode cX3_light 65 = .ok (.getfield 22, 3) := by decide +kernel
theorem dX3_light_68 : decode cX3_light 68 = .ok (.iload_n 1, 1) := by decide +kernel
theorem dX3_light_69 : decode cX3_light 69 = .ok (.iaload, 1) := by decide +kernel
theorem dX3_light_70 : decode cX3_light 70 = .ok (.ireturn, 1) := by decide +kernel
set_option maxRecDepth 20000 in
theorem ggX3_putOut_X3_isLantern : GoodIn wsX3_putOut wsX3_isLantern := goodIn_r _ [7, 8, 9, 10, 6, 11, 17, 18, 19, 20, 21, 22, 23, 24, 25, 26, 27, 28, 29, 30, 31, 32, 33, 34, 35, 36, 37, 38] (by decide +kernel) (by decide +kernel)
set_option maxRecDepth 20000 in
theorem gX3_putOut_X3_isLantern : GoodIn wsX3_putOut (wsV RX3 74 RX3 yX3_isLantern wsX3_isLantern) := goodIn_app (goodIn_of _ (by decide +kernel)) ggX3_putOut_X3_isLantern
set_option maxRecDepth 20000 in
theorem ggX3_putOut_X3_goes : GoodIn wsX3_putOut wsX3_goes := goodIn_r _ [15, 16, 17, 18, 19, 20, 21, 22, 23, 24, 25, 26, 27, 28, 29, 30, 31, 32, 33, 34, 35, 36, 37, 38] (by decide +kernel) (by decide +kernel)
set_option maxRecDepth 20000 in
theorem gX3_putOut_X3_goes : GoodIn wsX3_putOut (wsV RX3 66 RX3 yX3_goes wsX3_goes) := goodIn_app (goodIn_of _ (by decide +kernel)) ggX3_putOut_X3_goes
theorem dX3_putOut_0 : decode cX3_putOut 0 = .ok (.aload_n 0, 1) := by decide +kernel
theorem dX3_putOut_1 : decode cX3_putOut 1 = .ok (.iload_n 1, 1) := by decide +kernel
theorem dX3_putOut_2 : decode cX3_putOut 2 = .ok (.invokevirtual 74, 3) := by decide +kernel
theorem dX3_putOut_5 : decode cX3_putOut 5 = .ok (.istore_n 2, 1) := by decide +kernel
theorem dX3_putOut_6 : decode cX3_putOut 6 = .ok (.aload_n 0, 1) := by decide +kernel
theorem dX3_putOut_7 : decode cX3_putOut 7 = .ok (.iload_n 2, 1) := by decide +kernel
theorem dX3_putOut_8 : decode cX3_putOut 8 = .ok (.iload_n 2, 1) := by decide +kernel
theorem dX3_putOut_9 : decode cX3_putOut 9 = .ok (.ifCond .eq 17, 3) := by decide +kernel
theorem dX3_putOut_12 : decode cX3_putOut 12 = .ok (.aload_n 0, 1) := by decide +kernel
theorem dX3_putOut_13 : decode cX3_putOut 13 = .ok (.getfield 19, 3) := by decide +kernel
theorem dX3_putOut_16 : decode cX3_putOut 16 = .ok (.iload_n 1, 1) := by decide +kernel
theorem dX3_putOut_17 : decode cX3_putOut 17 = .ok (.iaload, 1) := by decide +kernel
theorem dX3_putOut_18 : decode cX3_putOut 18 = .ok (.iconst 1, 1) := by decide +kernel
theorem dX3_putOut_19 : decode cX3_putOut 19 = .ok (.if_icmp .ne 7, 3) := by decide +kernel
theorem dX3_putOut_22 : decode cX3_putOut 22 = .ok (.iconst 1, 1) := by decide +kernel
theorem dX3_putOut_23 : decode cX3_putOut 23 = .ok (.goto 4, 3) := by decide +kernel
theorem dX3_putOut_26 : decode cX3_putOut 26 = .ok (.iconst 0, 1) := by decide +kernel
theorem dX3_putOut_27 : decode cX3_putOut 27 = .ok (.iconst 1, 1) := by decide +kernel
theorem dX3_putOut_28 : decode cX3_putOut 28 = .ok (.invokevirtual 66, 3) := by decide +kernel
theorem dX3_putOut_31 : decode cX3_putOut 31 = .ok (.ifCond .ne 5, 3) := by decide +kernel
theorem dX3_putOut_34 : decode cX3_putOut 34 = .ok (.iconst 0, 1) := by decide +kernel
theorem dX3_putOut_35 : decode cX3_putOut 35 = .ok (.ireturn, 1) := by decide +kernel
theorem dX3_putOut_36 : decode cX3_putOut 36 = .ok (.aload_n 0, 1) := by decide +kernel
theorem dX3_putOut_37 : decode cX3_putOut 37 = .ok (.getfield 19, 3) := by decide +kernel
theorem dX3_putOut_40 : decode cX3_putOut 40 = .ok (.iload_n 1, 1) := by decide +kernel
theorem dX3_putOut_41 : decode cX3_putOut 41 = .ok (.iconst 0, 1) := by decide +kernel
theorem dX3_putOut_42 : decode cX3_putOut 42 = .ok (.iastore, 1) := by decide +kernel
theorem dX3_putOut_43 : decode cX3_putOut 43 = .ok (.aload_n 0, 1) := by decide +kernel
theorem dX3_putOut_44 : decode cX3_putOut 44 = .ok (.getfield 22, 3) := by decide +kernel
theorem dX3_putOut_47 : decode cX3_putOut 47 = .ok (.iload_n 1, 1) := by decide +kernel
theorem dX3_putOut_48 : decode cX3_putOut 48 = .ok (.iaload, 1) := by decide +kernel
theorem dX3_putOut_49 : decode cX3_putOut 49 = .ok (.ireturn, 1) := by decide +kernel
set_option maxRecDepth 20000 in
theorem ggX3_build_X3_in : GoodIn wsX3_build wsX3_in := goodIn_r _ [7] (by decide +kernel) (by decide +kernel)
set_option maxRecDepth 20000 in
theorem gX3_build_X3_in : GoodIn wsX3_build (va_wsS RX3 59 yX3_in wsX3_in) := goodIn_app (goodIn_of _ (by decide +kernel)) ggX3_build_X3_in
set_option maxRecDepth 20000 in
theorem ggX3_build_X3_goes : GoodIn wsX3_build wsX3_goes := goodIn_r _ [11, 12, 13, 14, 15, 16, 17, 18, 19, 20, 21, 22, 23, 24, 25, 26, 27, 28, 29, 30, 31, 32, 33, 34] (by decide +kernel) (by decide +kernel)
set_option maxRecDepth 20000 in
theorem gX3_build_X3_goes : GoodIn wsX3_build (wsV RX3 66 RX3 yX3_goes wsX3_goes) := goodIn_app (goodIn_of _ (by decide +kernel)) ggX3_build_X3_goes
theorem dX3_build_0 : decode cX3_build 0 = .ok (.aload_n 0, 1) := by decide +kernel
theorem dX3_build_1 : decode cX3_build 1 = .ok (.iload_n 1, 1) := by decide +kernel
theorem dX3_build_2 : decode cX3_build 2 = .ok (.iconst 1, 1) := by decide +kernel
theorem dX3_build_3 : decode cX3_build 3 = .ok (.bipush 9, 2) := by decide +kernel
theorem dX3_build_5 : decode cX3_build 5 = .ok (.invokestatic 59, 3) := by decide +kernel
theorem dX3_build_8 : decode cX3_build 8 = .ok (.ifCond .eq 19, 3) := by decide +kernel
theorem dX3_build_11 : decode cX3_build 11 = .ok (.iload_n 2, 1) := by decide +kernel
theorem dX3_build_12 : decode cX3_build 12 = .ok (.bipush 100, 2) := by decide +kernel
theorem dX3_build_14 : decode cX3_build 14 = .ok (.sipush 9999, 3) := by decide +kernel
theorem dX3_build_17 : decode cX3_build 17 = .ok (.invokestatic 59, 3) := by decide +kernel
theorem dX3_build_20 : decode cX3_build 20 = .ok (.ifCond .eq 7, 3) := by decide +kernel
theorem dX3_build_23 : decode cX3_build 23 = .ok (.iconst 1, 1) := by decide +kernel
theorem dX3_build_24 : decode cX3_build 24 = .ok (.goto 4, 3) := by decide +kernel
theorem dX3_build_27 : decode cX3_build 27 = .ok (.iconst 0, 1) := by decide +kernel
theorem dX3_build_28 : decode cX3_build 28 = .ok (.aload_n 0, 1) := by decide +kernel
theorem dX3_build_29 : decode cX3_build 29 = .ok (.getfield 63, 3) := by decide +kernel
theorem dX3_build_32 : decode cX3_build 32 = .ok (.bipush 8, 2) := by decide +kernel
theorem dX3_build_34 : decode cX3_build 34 = .ok (.if_icmp .ge 7, 3) := by decide +kernel
theorem dX3_build_37 : decode cX3_build 37 = .ok (.iconst 1, 1) := by decide +kernel
theorem dX3_build_38 : decode cX3_build 38 = .ok (.goto 4, 3) := by decide +kernel
theorem dX3_build_41 : decode cX3_build 41 = .ok (.iconst 0, 1) := by decide +kernel
theorem dX3_build_42 : decode cX3_build 42 = .ok (.iconst 1, 1) := by decide +kernel
theorem dX3_build_43 : decode cX3_build 43 = .ok (.invokevirtual 66, 3) := by decide +kernel
theorem dX3_build_46 : decode cX3_build 46 = .ok (.ifCond .ne 5, 3) := by decide +kernel
theorem dX3_build_49 : decode cX3_build 49 = .ok (.iconst 0, 1) := by decide +kernel
theorem dX3_build_50 : decode cX3_build 50 = .ok (.ireturn, 1) := by decide +kernel
theorem dX3_build_51 : decode cX3_build 51 = .ok (.aload_n 0, 1) := by decide +kernel
theorem dX3_build_52 : decode cX3_build 52 = .ok (.getfield 31, 3) := by decide +kernel
theorem dX3_build_55 : decode cX3_build 55 = .ok (.aload_n 0, 1) := by decide +kernel
theorem dX3_build_56 : decode cX3_build 56 = .ok (.getfield 63, 3) := by decide +kernel
theorem dX3_build_59 : decode cX3_build 59 = .ok (.iload_n 1, 1) := by decide +kernel
theorem dX3_build_60 : decode cX3_build 60 = .ok (.iastore, 1) := by decide +kernel
theorem dX3_build_61 : decode cX3_build 61 = .ok (.aload_n 0, 1) := by decide +kernel
theorem dX3_build_62 : decode cX3_build 62 = .ok (.getfield 34, 3) := by decide +kernel
theorem dX3_build_65 : decode cX3_build 65 = .ok (.aload_n 0, 1) := by decide +kernel
theorem dX3_build_66 : decode cX3_build 66 = .ok (.getfield 63, 3) := by decide +kernel
theorem dX3_build_69 : decode cX3_build 69 = .ok (.iload_n 2, 1) := by decide +kernel
theorem dX3_build_70 : decode cX3_build 70 = .ok (.iastore, 1) := by decide +kernel
theorem dX3_build_71 : decode cX3_build 71 = .ok (.aload_n 0, 1) := by decide +kernel
theorem dX3_build_72 : decode cX3_build 72 = .ok (.dup, 1) := by decide +kernel
theorem dX3_build_73 : decode cX3_build 73 = .ok (.getfield 63, 3) := by decide +kernel
theorem dX3_build_76 : decode cX3_build 76 = .ok (.iconst 1, 1) := by decide +kernel
theorem dX3_build_77 : decode cX3_build 77 = .ok (.iadd, 1) := by decide +kernel
theorem dX3_build_78 : decode cX3_build 78 = .ok (.putfield 63, 3) := by decide +kernel
theorem dX3_build_81 : decode cX3_build 81 = .ok (.aload_n 0, 1) := by decide +kernel
theorem dX3_build_82 : decode cX3_build 82 = .ok (.getfield 63, 3) := by decide +kernel
theorem dX3_build_85 : decode cX3_build 85 = .ok (.iconst 1, 1) := by decide +kernel
theorem dX3_build_86 : decode cX3_build 86 = .ok (.isub, 1) := by decide +kernel
theorem dX3_build_87 : decode cX3_build 87 = .ok (.ireturn, 1) := by decide +kernel
theorem dX3_rearmost_0 : decode cX3_rearmost 0 = .ok (.iconst (-1), 1) := by decide +kernel
theorem dX3_rearmost_1 : decode cX3_rearmost 1 = .ok (.istore_n 1, 1) := by decide +kernel
theorem dX3_rearmost_2 : decode cX3_rearmost 2 = .ok (.iconst 0, 1) := by decide +kernel
theorem dX3_rearmost_3 : decode cX3_rearmost 3 = .ok (.istore_n 2, 1) := by decide +kernel
theorem dX3_rearmost_4 : decode cX3_rearmost 4 = .ok (.iload_n 2, 1) := by decide +kernel
theorem dX3_rearmost_5 : decode cX3_rearmost 5 = .ok (.aload_n 0, 1) := by decide +kernel
theorem dX3_rearmost_6 : decode cX3_rearmost 6 = .ok (.getfield 108, 3) := by decide +kernel
theorem dX3_rearmost_9 : decode cX3_rearmost 9 = .ok (.if_icmp .ge 35, 3) := by decide +kernel
theorem dX3_rearmost_12 : decode cX3_rearmost 12 = .ok (.aload_n 0, 1) := by decide +kernel
theorem dX3_rearmost_13 : decode cX3_rearmost 13 = .ok (.getfield 37, 3) := by decide +kernel
theorem dX3_rearmost_16 : decode cX3_rearmost 16 = .ok (.aload_n 0, 1) := by decide +kernel
theorem dX3_rearmost_17 : decode cX3_rearmost 17 = .ok (.getfield 43, 3) := by decide +kernel
theorem dX3_rearmost_20 : decode cX3_rearmost 20 = .ok (.iload_n 2, 1) := by decide +kernel
theorem dX3_rearmost_21 : decode cX3_rearmost 21 = .ok (.iaload, 1) := by decide +kernel
theorem dX3_rearmost_22 : decode cX3_rearmost 22 = .ok (.iaload, 1) := by decide +kernel
theorem dX3_rearmost_23 : decode cX3_rearmost 23 = .ok (.iconst 1, 1) := by decide +kernel
theorem dX3_rearmost_24 : decode cX3_rearmost 24 = .ok (.if_icmp .ne 12, 3) := by decide +kernel
theorem dX3_rearmost_27 : decode cX3_rearmost 27 = .ok (.aload_n 0, 1) := by decide +kernel
theorem dX3_rearmost_28 : decode cX3_rearmost 28 = .ok (.getfield 43, 3) := by decide +kernel
theorem dX3_rearmost_31 : decode cX3_rearmost 31 = .ok (.iload_n 2, 1) := by decide +kernel
theorem dX3_rearmost_32 : decode cX3_rearmost 32 = .ok (.iaload, 1) := by decide +kernel
theorem dX3_rearmost_33 : decode cX3_rearmost 33 = .ok (.goto 4, 3) := by decide +kernel
theorem dX3_rearmost_36 : decode cX3_rearmost 36 = .ok (.iload_n 1, 1) := by decide +kernel
theorem dX3_rearmost_37 : decode cX3_rearmost 37 = .ok (.istore_n 1, 1) := by decide +kernel
theorem dX3_rearmost_38 : decode cX3_rearmost 38 = .ok (.iinc 2 1, 3) := by decide +kernel
theorem dX3_rearmost_41 : decode cX3_rearmost 41 = .ok (.goto (-37), 3) := by decide +kernel
theorem dX3_rearmost_44 : decode cX3_rearmost 44 = .ok (.iload_n 1, 1) := by decide +kernel
theorem dX3_rearmost_45 : decode cX3_rearmost 45 = .ok (.ireturn, 1) := by decide +kernel
theorem dX3_afloat_0 : decode cX3_afloat 0 = .ok (.iconst 0, 1) := by decide +kernel
theorem dX3_afloat_1 : decode cX3_afloat 1 = .ok (.istore_n 1, 1) := by decide +kernel
theorem dX3_afloat_2 : decode cX3_afloat 2 = .ok (.iconst 0, 1) := by decide +kernel
theorem dX3_afloat_3 : decode cX3_afloat 3 = .ok (.istore_n 2, 1) := by decide +kernel
theorem dX3_afloat_4 : decode cX3_afloat 4 = .ok (.iload_n 2, 1) := by decide +kernel
theorem dX3_afloat_5 : decode cX3_afloat 5 = .ok (.aload_n 0, 1) := by decide +kernel
theorem dX3_afloat_6 : decode cX3_afloat 6 = .ok (.getfield 63, 3) := by decide +kernel
theorem dX3_afloat_9 : decode cX3_afloat 9 = .ok (.if_icmp .ge 27, 3) := by decide +kernel
theorem dX3_afloat_12 : decode cX3_afloat 12 = .ok (.iload_n 1, 1) := by decide +kernel
theorem dX3_afloat_13 : decode cX3_afloat 13 = .ok (.aload_n 0, 1) := by decide +kernel
theorem dX3_afloat_14 : decode cX3_afloat 14 = .ok (.getfield 37, 3) := by decide +kernel
theorem dX3_afloat_17 : decode cX3_afloat 17 = .ok (.iload_n 2, 1) := by decide +kernel
theorem dX3_afloat_18 : decode cX3_afloat 18 = .ok (.iaload, 1) := by decide +kernel
theorem dX3_afloat_19 : decode cX3_afloat 19 = .ok (.iconst 1, 1) := by decide +kernel
theorem dX3_afloat_20 : decode cX3_afloat 20 = .ok (.if_icmp .ne 7, 3) := by decide +kernel
theorem dX3_afloat_23 : decode cX3_afloat 23 = .ok (.iconst 1, 1) := by decide +kernel
theorem dX3_afloat_24 : decode cX3_afloat 24 = .ok (.goto 4, 3) := by decide +kernel
theorem dX3_afloat_27 : decode cX3_afloat 27 = .ok (.iconst 0, 1) := by decide +kernel
theorem dX3_afloat_28 : decode cX3_afloat 28 = .ok (.iadd, 1) := by decide +kernel
theorem dX3_afloat_29 : decode cX3_afloat 29 = .ok (.istore_n 1, 1) := by decide +kernel
theorem dX3_afloat_30 : decode cX3_afloat 30 = .ok (.iinc 2 1, 3) := by decide +kernel
theorem dX3_afloat_33 : decode cX3_afloat 33 = .ok (.goto (-29), 3) := by decide +kernel
theorem dX3_afloat_36 : decode cX3_afloat 36 = .ok (.iload_n 1, 1) := by decide +kernel
theorem dX3_afloat_37 : decode cX3_afloat 37 = .ok (.ireturn, 1) := by decide +kernel
set_option maxRecDepth 20000 in
theorem ggX3_launch_X3_isFloat : GoodIn wsX3_launch wsX3_isFloat := goodIn_r _ [10, 11, 12, 13, 9, 14, 28, 29, 30, 31, 32, 33, 34, 35, 36, 37, 38, 39, 40, 41, 42, 43, 44, 45, 46, 47, 48, 49] (by decide +kernel) (by decide +kernel)
set_option maxRecDepth 20000 in
theorem gX3_launch_X3_isFloat : GoodIn wsX3_launch (wsV RX3 78 RX3 yX3_isFloat wsX3_isFloat) := goodIn_app (goodIn_of _ (by decide +kernel)) ggX3_launch_X3_isFloat
set_option maxRecDepth 20000 in
theorem ggX3_launch_X3_rearmost : GoodIn wsX3_launch wsX3_rearmost := goodIn_r _ [18, 5, 1, 4, 28, 29, 30, 31, 32, 33, 34, 35, 36, 37, 38, 39, 40, 41, 42, 43, 44, 45, 46, 47, 48, 49] (by decide +kernel) (by decide +kernel)
set_option maxRecDepth 20000 in
theorem gX3_launch_X3_rearmost : GoodIn wsX3_launch (wsV RX3 111 RX3 yX3_rearmost wsX3_rearmost) := goodIn_app (goodIn_of _ (by decide +kernel)) ggX3_launch_X3_rearmost
set_option maxRecDepth 20000 in
theorem ggX3_launch_X3_goes : GoodIn wsX3_launch wsX3_goes := goodIn_r _ [22, 23, 28, 29, 30, 31, 32, 33, 34, 35, 36, 37, 38, 39, 40, 41, 42, 43, 44, 45, 46, 47, 48, 49] (by decide +kernel) (by decide +kernel)
set_option maxRecDepth 20000 in
theorem gX3_launch_X3_goes : GoodIn wsX3_launch (wsV RX3 66 RX3 yX3_goes wsX3_goes) := goodIn_app (goodIn_of _ (by decide +kernel)) ggX3_launch_X3_goes
set_option maxRecDepth 20000 in
theorem ggX3_launch_X3_afloat : GoodIn wsX3_launch wsX3_afloat := goodIn_r _ [27, 11, 1, 28, 29, 30, 31, 32, 33, 34, 35, 36, 37, 38, 39, 40, 41, 42, 43, 44, 45, 46, 47, 48, 49] (by decide +kernel) (by decide +kernel)
set_option maxRecDepth 20000 in
theorem gX3_launch_X3_afloat : GoodIn wsX3_launch (wsV RX3 115 RX3 yX3_afloat wsX3_afloat) := goodIn_app (goodIn_of _ (by decide +kernel)) ggX3_launch_X3_afloat
theorem dX3_launch_0 : decode cX3_launch 0 = .ok (.aload_n 0, 1) := by decide +kernel
theorem dX3_launch_1 : decode cX3_launch 1 = .ok (.iload_n 1, 1) := by decide +kernel
theorem dX3_launch_2 : decode cX3_launch 2 = .ok (.invokevirtual 78, 3) := by decide +kernel
theorem dX3_launch_5 : decode cX3_launch 5 = .ok (.istore_n 2, 1) := by decide +kernel
theorem dX3_launch_6 : decode cX3_launch 6 = .ok (.aload_n 0, 1) := by decide +kernel
theorem dX3_launch_7 : decode cX3_launch 7 = .ok (.invokevirtual 111, 3) := by decide +kernel
theorem dX3_launch_10 : decode cX3_launch 10 = .ok (.istore_n 3, 1) := by decide +kernel
theorem dX3_launch_11 : decode cX3_launch 11 = .ok (.iload_n 2, 1) := by decide +kernel
theorem dX3_launch_12 : decode cX3_launch 12 = .ok (.ifCond .eq 40, 3) := by decide +kernel
theorem dX3_launch_15 : decode cX3_launch 15 = .ok (.aload_n 0, 1) := by decide +kernel
theorem dX3_launch_16 : decode cX3_launch 16 = .ok (.getfield 37, 3) := by decide +kernel
theorem dX3_launch_19 : decode cX3_launch 19 = .ok (.iload_n 1, 1) := by decide +kernel
theorem dX3_launch_20 : decode cX3_launch 20 = .ok (.iaload, 1) := by decide +kernel
theorem dX3_launch_21 : decode cX3_launch 21 = .ok (.ifCond .ne 31, 3) := by decide +kernel
theorem dX3_launch_24 : decode cX3_launch 24 = .ok (.iload_n 3, 1) := by decide +kernel
theorem dX3_launch_25 : decode cX3_launch 25 = .ok (.iconst (-1), 1) := by decide +kernel
theorem dX3_launch_26 : decode cX3_launch 26 = .ok (.if_icmp .eq 22, 3) := by decide +kernel
theorem dX3_launch_29 : decode cX3_launch 29 = .ok (.aload_n 0, 1) := by decide +kernel
theorem dX3_launch_30 : decode cX3_launch 30 = .ok (.getfield 40, 3) := by decide +kernel
theorem dX3_launch_33 : decode cX3_launch 33 = .ok (.iload_n 3, 1) := by decide +kernel
theorem dX3_launch_34 : decode cX3_launch 34 = .ok (.iaload, 1) := by decide +kernel
theorem dX3_launch_35 : decode cX3_launch 35 = .ok (.bipush 9, 2) := by decide +kernel
theorem dX3_launch_37 : decode cX3_launch 37 = .ok (.isub, 1) := by decide +kernel
theorem dX3_launch_38 : decode cX3_launch 38 = .ok (.bipush 9, 2) := by decide +kernel
theorem dX3_launch_40 : decode cX3_launch 40 = .ok (.aload_n 0, 1) := by decide +kernel
theorem dX3_launch_41 : decode cX3_launch 41 = .ok (.getfield 46, 3) := by decide +kernel
theorem dX3_launch_44 : decode cX3_launch 44 = .ok (.iadd, 1) := by decide +kernel
theorem dX3_launch_45 : decode cX3_launch 45 = .ok (.if_icmp .lt 7, 3) := by decide +kernel
theorem dX3_launch_48 : decode cX3_launch 48 = .ok (.iconst 1, 1) := by decide +kernel
theorem dX3_launch_49 : decode cX3_launch 49 = .ok (.goto 4, 3) := by decide +kernel
theorem dX3_launch_52 : decode cX3_launch 52 = .ok (.iconst 0, 1) := by decide +kernel
theorem dX3_launch_53 : decode cX3_launch 53 = .ok (.istore 4, 2) := by decide +kernel
theorem dX3_launch_55 : decode cX3_launch 55 = .ok (.aload_n 0, 1) := by decide +kernel
theorem dX3_launch_56 : decode cX3_launch 56 = .ok (.iload_n 2, 1) := by decide +kernel
theorem dX3_launch_57 : decode cX3_launch 57 = .ok (.iload 4, 2) := by decide +kernel
theorem dX3_launch_59 : decode cX3_launch 59 = .ok (.iconst 1, 1) := by decide +kernel
theorem dX3_launch_60 : decode cX3_launch 60 = .ok (.invokevirtual 66, 3) := by decide +kernel
theorem dX3_launch_63 : decode cX3_launch 63 = .ok (.ifCond .ne 5, 3) := by decide +kernel
theorem dX3_launch_66 : decode cX3_launch 66 = .ok (.iconst 0, 1) := by decide +kernel
theorem dX3_launch_67 : decode cX3_launch 67 = .ok (.ireturn, 1) := by decide +kernel
theorem dX3_launch_68 : decode cX3_launch 68 = .ok (.aload_n 0, 1) := by decide +kernel
theorem dX3_launch_69 : decode cX3_launch 69 = .ok (.getfield 37, 3) := by decide +kernel
theorem dX3_launch_72 : decode cX3_launch 72 = .ok (.iload_n 1, 1) := by decide +kernel
theorem dX3_launch_73 : decode cX3_launch 73 = .ok (.iconst 1, 1) := by decide +kernel
theorem dX3_launch_74 : decode cX3_launch 74 = .ok (.iastore, 1) := by decide +kernel
theorem dX3_launch_75 : decode cX3_launch 75 = .ok (.aload_n 0, 1) := by decide +kernel
theorem dX3_launch_76 : decode cX3_launch 76 = .ok (.getfield 40, 3) := by decide +kernel
theorem dX3_launch_79 : decode cX3_launch 79 = .ok (.iload_n 1, 1) := by decide +kernel
theorem dX3_launch_80 : decode cX3_launch 80 = .ok (.bipush 9, 2) := by decide +kernel
theorem dX3_launch_82 : decode cX3_launch 82 = .ok (.iastore, 1) := by decide +kernel
theorem dX3_launch_83 : decode cX3_launch 83 = .ok (.aload_n 0, 1) := by decide +kernel
theorem dX3_launch_84 : decode cX3_launch 84 = .ok (.getfield 43, 3) := by decide +kernel
theorem dX3_launch_87 : decode cX3_launch 87 = .ok (.aload_n 0, 1) := by decide +kernel
theorem dX3_launch_88 : decode cX3_launch 88 = .ok (.getfield 108, 3) := by decide +kernel
theorem dX3_launch_91 : decode cX3_launch 91 = .ok (.iload_n 1, 1) := by decide +kernel
theorem dX3_launch_92 : decode cX3_launch 92 = .ok (.iastore, 1) := by decide +kernel
theorem dX3_launch_93 : decode cX3_launch 93 = .ok (.aload_n 0, 1) := by decide +kernel
theorem dX3_launch_94 : decode cX3_launch 94 = .ok (.dup, 1) := by decide +kernel
theorem dX3_launch_95 : decode cX3_launch 95 = .ok (.getfield 108, 3) := by decide +kernel
theorem dX3_launch_98 : decode cX3_launch 98 = .ok (.iconst 1, 1) := by decide +kernel
theorem dX3_launch_99 : decode cX3_launch 99 = .ok (.iadd, 1) := by decide +kernel
theorem dX3_launch_100 : decode cX3_launch 100 = .ok (.putfield 108, 3) := by decide +kernel
theorem dX3_launch_103 : decode cX3_launch 103 = .ok (.aload_n 0, 1) := by decide +kernel
theorem dX3_launch_104 : decode cX3_launch 104 = .ok (.invokevirtual 115, 3) := by decide +kernel
theorem dX3_launch_107 : decode cX3_launch 107 = .ok (.ireturn, 1) := by decide +kernel
set_option maxRecDepth 20000 in
theorem ggX3_setRules_X3_in : GoodIn wsX3_setRules wsX3_in := goodIn_r _ [6] (by decide +kernel) (by decide +kernel)
set_option maxRecDepth 20000 in
theorem gX3_setRules_X3_in : GoodIn wsX3_setRules (va_wsS RX3 59 yX3_in wsX3_in) := goodIn_app (goodIn_of _ (by decide +kernel)) ggX3_setRules_X3_in
end
section
set_option maxRecDepth 20000 in
theorem ggX3_setRules_X3_goes : GoodIn wsX3_setRules wsX3_goes := goodIn_r _ [10, 11, 12, 13, 14, 15, 16, 17, 18, 19, 20, 21, 22, 23, 24, 25, 26, 27, 28, 29, 30, 31, 32, 33] (by decide +kernel) (by decide +kernel)
set_option maxRecDepth 20000 in
theorem gX3_setRules_X3_goes : GoodIn wsX3_setRules (wsV RX3 66 RX3 yX3_goes wsX3_goes) := goodIn_app (goodIn_of _ (by decide +kernel)) ggX3_setRules_X3_goes
theorem dX3_setRules_0 : decode cX3_setRules 0 = .ok (.aload_n 0, 1) := by decide +kernel
theorem dX3_setRules_1 : decode cX3_setRules 1 = .ok (.iload_n 1, 1) := by decide +kernel
theorem dX3_setRules_2 : decode cX3_setRules 2 = .ok (.iconst 1, 1) := by decide +kernel
theorem dX3_setRules_3 : decode cX3_setRules 3 = .ok (.bipush 20, 2) := by decide +kernel
theorem dX3_setRules_5 : decode cX3_setRules 5 = .ok (.invokestatic 59, 3) := by decide +kernel
theorem dX3_setRules_8 : decode cX3_setRules 8 = .ok (.ifCond .eq 17, 3) := by decide +kernel
theorem dX3_setRules_11 : decode cX3_setRules 11 = .ok (.iload_n 2, 1) := by decide +kernel
theorem dX3_setRules_12 : decode cX3_setRules 12 = .ok (.iconst 0, 1) := by decide +kernel
theorem dX3_setRules_13 : decode cX3_setRules 13 = .ok (.bipush 9, 2) := by decide +kernel
theorem dX3_setRules_15 : decode cX3_setRules 15 = .ok (.invokestatic 59, 3) := by decide +kernel
theorem dX3_setRules_18 : decode cX3_setRules 18 = .ok (.ifCond .eq 7, 3) := by decide +kernel
theorem dX3_setRules_21 : decode cX3_setRules 21 = .ok (.iconst 1, 1) := by decide +kernel
theorem dX3_setRules_22 : decode cX3_setRules 22 = .ok (.goto 4, 3) := by decide +kernel
theorem dX3_setRules_25 : decode cX3_setRules 25 = .ok (.iconst 0, 1) := by decide +kernel
theorem dX3_setRules_26 : decode cX3_setRules 26 = .ok (.iconst 1, 1) := by decide +kernel
theorem dX3_setRules_27 : decode cX3_setRules 27 = .ok (.iconst 1, 1) := by decide +kernel
theorem dX3_setRules_28 : decode cX3_setRules 28 = .ok (.invokevirtual 66, 3) := by decide +kernel
theorem dX3_setRules_31 : decode cX3_setRules 31 = .ok (.ifCond .ne 5, 3) := by decide +kernel
theorem dX3_setRules_34 : decode cX3_setRules 34 = .ok (.iconst 0, 1) := by decide +kernel
theorem dX3_setRules_35 : decode cX3_setRules 35 = .ok (.ireturn, 1) := by decide +kernel
theorem dX3_setRules_36 : decode cX3_setRules 36 = .ok (.aload_n 0, 1) := by decide +kernel
theorem dX3_setRules_37 : decode cX3_setRules 37 = .ok (.getfield 46, 3) := by decide +kernel
theorem dX3_setRules_40 : decode cX3_setRules 40 = .ok (.istore_n 3, 1) := by decide +kernel
theorem dX3_setRules_41 : decode cX3_setRules 41 = .ok (.aload_n 0, 1) := by decide +kernel
theorem dX3_setRules_42 : decode cX3_setRules 42 = .ok (.iload_n 1, 1) := by decide +kernel
theorem dX3_setRules_43 : decode cX3_setRules 43 = .ok (.putfield 46, 3) := by decide +kernel
theorem dX3_setRules_46 : decode cX3_setRules 46 = .ok (.aload_n 0, 1) := by decide +kernel
theorem dX3_setRules_47 : decode cX3_setRules 47 = .ok (.iload_n 2, 1) := by decide +kernel
theorem dX3_setRules_48 : decode cX3_setRules 48 = .ok (.putfield 99, 3) := by decide +kernel
theorem dX3_setRules_51 : decode cX3_setRules 51 = .ok (.iload_n 3, 1) := by decide +kernel
theorem dX3_setRules_52 : decode cX3_setRules 52 = .ok (.ireturn, 1) := by decide +kernel
set_option maxRecDepth 20000 in
theorem ggX3_setGust_X3_in : GoodIn wsX3_setGust wsX3_in := goodIn_r _ [5] (by decide +kernel) (by decide +kernel)
set_option maxRecDepth 20000 in
theorem gX3_setGust_X3_in : GoodIn wsX3_setGust (va_wsS RX3 59 yX3_in wsX3_in) := goodIn_app (goodIn_of _ (by decide +kernel)) ggX3_setGust_X3_in
set_option maxRecDepth 20000 in
theorem ggX3_setGust_X3_goes : GoodIn wsX3_setGust wsX3_goes := goodIn_r _ [9, 10, 11, 12, 13, 14, 15, 16, 17, 18, 19, 20, 21, 22, 23, 24, 25, 26, 27, 28, 29, 30, 31, 32] (by decide +kernel) (by decide +kernel)
set_option maxRecDepth 20000 in
theorem gX3_setGust_X3_goes : GoodIn wsX3_setGust (wsV RX3 66 RX3 yX3_goes wsX3_goes) := goodIn_app (goodIn_of _ (by decide +kernel)) ggX3_setGust_X3_goes
theorem dX3_setGust_0 : decode cX3_setGust 0 = .ok (.aload_n 0, 1) := by decide +kernel
theorem dX3_setGust_1 : decode cX3_setGust 1 = .ok (.iload_n 1, 1) := by decide +kernel
theorem dX3_setGust_2 : decode cX3_setGust 2 = .ok (.iconst 1, 1) := by decide +kernel
theorem dX3_setGust_3 : decode cX3_setGust 3 = .ok (.sipush 400, 3) := by decide +kernel
theorem dX3_setGust_6 : decode cX3_setGust 6 = .ok (.invokestatic 59, 3) := by decide +kernel
theorem dX3_setGust_9 : decode cX3_setGust 9 = .ok (.ifCond .eq 17, 3) := by decide +kernel
theorem dX3_setGust_12 : decode cX3_setGust 12 = .ok (.iload_n 2, 1) := by decide +kernel
theorem dX3_setGust_13 : decode cX3_setGust 13 = .ok (.iconst 0, 1) := by decide +kernel
theorem dX3_setGust_14 : decode cX3_setGust 14 = .ok (.bipush 9, 2) := by decide +kernel
theorem dX3_setGust_16 : decode cX3_setGust 16 = .ok (.invokestatic 59, 3) := by decide +kernel
theorem dX3_setGust_19 : decode cX3_setGust 19 = .ok (.ifCond .eq 7, 3) := by decide +kernel
theorem dX3_setGust_22 : decode cX3_setGust 22 = .ok (.iconst 1, 1) := by decide +kernel
theorem dX3_setGust_23 : decode cX3_setGust 23 = .ok (.goto 4, 3) := by decide +kernel
theorem dX3_setGust_26 : decode cX3_setGust 26 = .ok (.iconst 0, 1) := by decide +kernel
theorem dX3_setGust_27 : decode cX3_setGust 27 = .ok (.iconst 1, 1) := by decide +kernel
theorem dX3_setGust_28 : decode cX3_setGust 28 = .ok (.iconst 1, 1) := by decide +kernel
theorem dX3_setGust_29 : decode cX3_setGust 29 = .ok (.invokevirtual 66, 3) := by decide +kernel
theorem dX3_setGust_32 : decode cX3_setGust 32 = .ok (.ifCond .ne 5, 3) := by decide +kernel
theorem dX3_setGust_35 : decode cX3_setGust 35 = .ok (.iconst 0, 1) := by decide +kernel
theorem dX3_setGust_36 : decode cX3_setGust 36 = .ok (.ireturn, 1) := by decide +kernel
theorem dX3_setGust_37 : decode cX3_setGust 37 = .ok (.aload_n 0, 1) := by decide +kernel
theorem dX3_setGust_38 : decode cX3_setGust 38 = .ok (.getfield 50, 3) := by decide +kernel
theorem dX3_setGust_41 : decode cX3_setGust 41 = .ok (.iload_n 1, 1) := by decide +kernel
theorem dX3_setGust_42 : decode cX3_setGust 42 = .ok (.iaload, 1) := by decide +kernel
theorem dX3_setGust_43 : decode cX3_setGust 43 = .ok (.istore_n 3, 1) := by decide +kernel
theorem dX3_setGust_44 : decode cX3_setGust 44 = .ok (.aload_n 0, 1) := by decide +kernel
theorem dX3_setGust_45 : decode cX3_setGust 45 = .ok (.getfield 50, 3) := by decide +kernel
theorem dX3_setGust_48 : decode cX3_setGust 48 = .ok (.iload_n 1, 1) := by decide +kernel
theorem dX3_setGust_49 : decode cX3_setGust 49 = .ok (.iload_n 2, 1) := by decide +kernel
theorem dX3_setGust_50 : decode cX3_setGust 50 = .ok (.iastore, 1) := by decide +kernel
theorem dX3_setGust_51 : decode cX3_setGust 51 = .ok (.iload_n 3, 1) := by decide +kernel
theorem dX3_setGust_52 : decode cX3_setGust 52 = .ok (.ireturn, 1) := by decide +kernel
set_option maxRecDepth 20000 in
theorem ggX3_floatsMove_X3_darkens : GoodIn wsX3_floatsMove wsX3_darkens := goodIn_r _ [14, 15, 16, 17, 18, 19, 20, 21, 22, 23, 24, 25, 26, 27, 28, 29, 30, 31, 32, 33, 34, 35, 36, 37] (by decide +kernel) (by decide +kernel)
set_option maxRecDepth 20000 in
theorem gX3_floatsMove_X3_darkens : GoodIn wsX3_floatsMove (wsV RX3 88 RX3 yX3_darkens wsX3_darkens) := goodIn_app (goodIn_of _ (by decide +kernel)) ggX3_floatsMove_X3_darkens
theorem dX3_floatsMove_0 : decode cX3_floatsMove 0 = .ok (.iconst (-1), 1) := by decide +kernel
theorem dX3_floatsMove_1 : decode cX3_floatsMove 1 = .ok (.istore_n 1, 1) := by decide +kernel
theorem dX3_floatsMove_2 : decode cX3_floatsMove 2 = .ok (.iconst 0, 1) := by decide +kernel
theorem dX3_floatsMove_3 : decode cX3_floatsMove 3 = .ok (.istore_n 2, 1) := by decide +kernel
theorem dX3_floatsMove_4 : decode cX3_floatsMove 4 = .ok (.iload_n 2, 1) := by decide +kernel
theorem dX3_floatsMove_5 : decode cX3_floatsMove 5 = .ok (.aload_n 0, 1) := by decide +kernel
theorem dX3_floatsMove_6 : decode cX3_floatsMove 6 = .ok (.getfield 108, 3) := by decide +kernel
theorem dX3_floatsMove_9 : decode cX3_floatsMove 9 = .ok (.if_icmp .ge 113, 3) := by decide +kernel
theorem dX3_floatsMove_12 : decode cX3_floatsMove 12 = .ok (.aload_n 0, 1) := by decide +kernel
theorem dX3_floatsMove_13 : decode cX3_floatsMove 13 = .ok (.getfield 43, 3) := by decide +kernel
theorem dX3_floatsMove_16 : decode cX3_floatsMove 16 = .ok (.iload_n 2, 1) := by decide +kernel
theorem dX3_floatsMove_17 : decode cX3_floatsMove 17 = .ok (.iaload, 1) := by decide +kernel
theorem dX3_floatsMove_18 : decode cX3_floatsMove 18 = .ok (.istore_n 3, 1) := by decide +kernel
theorem dX3_floatsMove_19 : decode cX3_floatsMove 19 = .ok (.aload_n 0, 1) := by decide +kernel
theorem dX3_floatsMove_20 : decode cX3_floatsMove 20 = .ok (.getfield 37, 3) := by decide +kernel
theorem dX3_floatsMove_23 : decode cX3_floatsMove 23 = .ok (.iload_n 3, 1) := by decide +kernel
theorem dX3_floatsMove_24 : decode cX3_floatsMove 24 = .ok (.iaload, 1) := by decide +kernel
theorem dX3_floatsMove_25 : decode cX3_floatsMove 25 = .ok (.iconst 1, 1) := by decide +kernel
theorem dX3_floatsMove_26 : decode cX3_floatsMove 26 = .ok (.if_icmp .ne 90, 3) := by decide +kernel
theorem dX3_floatsMove_29 : decode cX3_floatsMove 29 = .ok (.aload_n 0, 1) := by decide +kernel
theorem dX3_floatsMove_30 : decode cX3_floatsMove 30 = .ok (.getfield 40, 3) := by decide +kernel
theorem dX3_floatsMove_33 : decode cX3_floatsMove 33 = .ok (.iload_n 3, 1) := by decide +kernel
theorem dX3_floatsMove_34 : decode cX3_floatsMove 34 = .ok (.iaload, 1) := by decide +kernel
theorem dX3_floatsMove_35 : decode cX3_floatsMove 35 = .ok (.aload_n 0, 1) := by decide +kernel
theorem dX3_floatsMove_36 : decode cX3_floatsMove 36 = .ok (.getfield 31, 3) := by decide +kernel
theorem dX3_floatsMove_39 : decode cX3_floatsMove 39 = .ok (.iload_n 3, 1) := by decide +kernel
theorem dX3_floatsMove_40 : decode cX3_floatsMove 40 = .ok (.iaload, 1) := by decide +kernel
theorem dX3_floatsMove_41 : decode cX3_floatsMove 41 = .ok (.iadd, 1) := by decide +kernel
theorem dX3_floatsMove_42 : decode cX3_floatsMove 42 = .ok (.istore 4, 2) := by decide +kernel
theorem dX3_floatsMove_44 : decode cX3_floatsMove 44 = .ok (.iload_n 1, 1) := by decide +kernel
theorem dX3_floatsMove_45 : decode cX3_floatsMove 45 = .ok (.iconst (-1), 1) := by decide +kernel
theorem dX3_floatsMove_46 : decode cX3_floatsMove 46 = .ok (.if_icmp .ne 8, 3) := by decide +kernel
theorem dX3_floatsMove_49 : decode cX3_floatsMove 49 = .ok (.iload 4, 2) := by decide +kernel
theorem dX3_floatsMove_51 : decode cX3_floatsMove 51 = .ok (.goto 17, 3) := by decide +kernel
theorem dX3_floatsMove_54 : decode cX3_floatsMove 54 = .ok (.aload_n 0, 1) := by decide +kernel
theorem dX3_floatsMove_55 : decode cX3_floatsMove 55 = .ok (.getfield 40, 3) := by decide +kernel
theorem dX3_floatsMove_58 : decode cX3_floatsMove 58 = .ok (.iload_n 1, 1) := by decide +kernel
theorem dX3_floatsMove_59 : decode cX3_floatsMove 59 = .ok (.iaload, 1) := by decide +kernel
theorem dX3_floatsMove_60 : decode cX3_floatsMove 60 = .ok (.bipush 9, 2) := by decide +kernel
theorem dX3_floatsMove_62 : decode cX3_floatsMove 62 = .ok (.isub, 1) := by decide +kernel
theorem dX3_floatsMove_63 : decode cX3_floatsMove 63 = .ok (.aload_n 0, 1) := by decide +kernel
theorem dX3_floatsMove_64 : decode cX3_floatsMove 64 = .ok (.getfield 46, 3) := by decide +kernel
theorem dX3_floatsMove_67 : decode cX3_floatsMove 67 = .ok (.isub, 1) := by decide +kernel
theorem dX3_floatsMove_68 : decode cX3_floatsMove 68 = .ok (.istore 5, 2) := by decide +kernel
theorem dX3_floatsMove_70 : decode cX3_floatsMove 70 = .ok (.iload 4, 2) := by decide +kernel
theorem dX3_floatsMove_72 : decode cX3_floatsMove 72 = .ok (.iload 5, 2) := by decide +kernel
theorem dX3_floatsMove_74 : decode cX3_floatsMove 74 = .ok (.if_icmp .ge 8, 3) := by decide +kernel
theorem dX3_floatsMove_77 : decode cX3_floatsMove 77 = .ok (.iload 4, 2) := by decide +kernel
theorem dX3_floatsMove_79 : decode cX3_floatsMove 79 = .ok (.goto 5, 3) := by decide +kernel
theorem dX3_floatsMove_82 : decode cX3_floatsMove 82 = .ok (.iload 5, 2) := by decide +kernel
theorem dX3_floatsMove_84 : decode cX3_floatsMove 84 = .ok (.istore 4, 2) := by decide +kernel
theorem dX3_floatsMove_86 : decode cX3_floatsMove 86 = .ok (.aload_n 0, 1) := by decide +kernel
theorem dX3_floatsMove_87 : decode cX3_floatsMove 87 = .ok (.getfield 40, 3) := by decide +kernel
theorem dX3_floatsMove_90 : decode cX3_floatsMove 90 = .ok (.iload_n 3, 1) := by decide +kernel
theorem dX3_floatsMove_91 : decode cX3_floatsMove 91 = .ok (.iload 4, 2) := by decide +kernel
theorem dX3_floatsMove_93 : decode cX3_floatsMove 93 = .ok (.aload_n 0, 1) := by decide +kernel
theorem dX3_floatsMove_94 : decode cX3_floatsMove 94 = .ok (.getfield 40, 3) := by decide +kernel
theorem dX3_floatsMove_97 : decode cX3_floatsMove 97 = .ok (.iload_n 3, 1) := by decide +kernel
theorem dX3_floatsMove_98 : decode cX3_floatsMove 98 = .ok (.iaload, 1) := by decide +kernel
theorem dX3_floatsMove_99 : decode cX3_floatsMove 99 = .ok (.if_icmp .le 8, 3) := by decide +kernel
theorem dX3_floatsMove_102 : decode cX3_floatsMove 102 = .ok (.iload 4, 2) := by decide +kernel
theorem dX3_floatsMove_104 : decode cX3_floatsMove 104 = .ok (.goto 9, 3) := by decide +kernel
theorem dX3_floatsMove_107 : decode cX3_floatsMove 107 = .ok (.aload_n 0, 1) := by decide +kernel
theorem dX3_floatsMove_108 : decode cX3_floatsMove 108 = .ok (.getfield 40, 3) := by decide +kernel
theorem dX3_floatsMove_111 : decode cX3_floatsMove 111 = .ok (.iload_n 3, 1) := by decide +kernel
theorem dX3_floatsMove_112 : decode cX3_floatsMove 112 = .ok (.iaload, 1) := by decide +kernel
theorem dX3_floatsMove_113 : decode cX3_floatsMove 113 = .ok (.iastore, 1) := by decide +kernel
theorem dX3_floatsMove_114 : decode cX3_floatsMove 114 = .ok (.iload_n 3, 1) := by decide +kernel
theorem dX3_floatsMove_115 : decode cX3_floatsMove 115 = .ok (.istore_n 1, 1) := by decide +kernel
theorem dX3_floatsMove_116 : decode cX3_floatsMove 116 = .ok (.iinc 2 1, 3) := by decide +kernel
theorem dX3_floatsMove_119 : decode cX3_floatsMove 119 = .ok (.goto (-115), 3) := by decide +kernel
theorem dX3_floatsMove_122 : decode cX3_floatsMove 122 = .ok (.iconst 0, 1) := by decide +kernel
theorem dX3_floatsMove_123 : decode cX3_floatsMove 123 = .ok (.istore_n 2, 1) := by decide +kernel
theorem dX3_floatsMove_124 : decode cX3_floatsMove 124 = .ok (.iload_n 2, 1) := by decide +kernel
theorem dX3_floatsMove_125 : decode cX3_floatsMove 125 = .ok (.aload_n 0, 1) := by decide +kernel
theorem dX3_floatsMove_126 : decode cX3_floatsMove 126 = .ok (.getfield 63, 3) := by decide +kernel
theorem dX3_floatsMove_129 : decode cX3_floatsMove 129 = .ok (.if_icmp .ge 69, 3) := by decide +kernel
theorem dX3_floatsMove_132 : decode cX3_floatsMove 132 = .ok (.aload_n 0, 1) := by decide +kernel
theorem dX3_floatsMove_133 : decode cX3_floatsMove 133 = .ok (.getfield 37, 3) := by decide +kernel
theorem dX3_floatsMove_136 : decode cX3_floatsMove 136 = .ok (.iload_n 2, 1) := by decide +kernel
theorem dX3_floatsMove_137 : decode cX3_floatsMove 137 = .ok (.iaload, 1) := by decide +kernel
theorem dX3_floatsMove_138 : decode cX3_floatsMove 138 = .ok (.iconst 1, 1) := by decide +kernel
theorem dX3_floatsMove_139 : decode cX3_floatsMove 139 = .ok (.if_icmp .ne 53, 3) := by decide +kernel
theorem dX3_floatsMove_142 : decode cX3_floatsMove 142 = .ok (.aload_n 0, 1) := by decide +kernel
theorem dX3_floatsMove_143 : decode cX3_floatsMove 143 = .ok (.getfield 40, 3) := by decide +kernel
theorem dX3_floatsMove_146 : decode cX3_floatsMove 146 = .ok (.iload_n 2, 1) := by decide +kernel
theorem dX3_floatsMove_147 : decode cX3_floatsMove 147 = .ok (.iaload, 1) := by decide +kernel
theorem dX3_floatsMove_148 : decode cX3_floatsMove 148 = .ok (.sipush 500, 3) := by decide +kernel
theorem dX3_floatsMove_151 : decode cX3_floatsMove 151 = .ok (.if_icmp .lt 41, 3) := by decide +kernel
theorem dX3_floatsMove_154 : decode cX3_floatsMove 154 = .ok (.aload_n 0, 1) := by decide +kernel
theorem dX3_floatsMove_155 : decode cX3_floatsMove 155 = .ok (.getfield 37, 3) := by decide +kernel
theorem dX3_floatsMove_158 : decode cX3_floatsMove 158 = .ok (.iload_n 2, 1) := by decide +kernel
theorem dX3_floatsMove_159 : decode cX3_floatsMove 159 = .ok (.iconst 2, 1) := by decide +kernel
theorem dX3_floatsMove_160 : decode cX3_floatsMove 160 = .ok (.iastore, 1) := by decide +kernel
theorem dX3_floatsMove_161 : decode cX3_floatsMove 161 = .ok (.iconst 0, 1) := by decide +kernel
theorem dX3_floatsMove_162 : decode cX3_floatsMove 162 = .ok (.istore_n 3, 1) := by decide +kernel
theorem dX3_floatsMove_163 : decode cX3_floatsMove 163 = .ok (.iload_n 3, 1) := by decide +kernel
theorem dX3_floatsMove_164 : decode cX3_floatsMove 164 = .ok (.aload_n 0, 1) := by decide +kernel
theorem dX3_floatsMove_165 : decode cX3_floatsMove 165 = .ok (.getfield 56, 3) := by decide +kernel
theorem dX3_floatsMove_168 : decode cX3_floatsMove 168 = .ok (.if_icmp .ge 24, 3) := by decide +kernel
theorem dX3_floatsMove_171 : decode cX3_floatsMove 171 = .ok (.aload_n 0, 1) := by decide +kernel
theorem dX3_floatsMove_172 : decode cX3_floatsMove 172 = .ok (.getfield 25, 3) := by decide +kernel
theorem dX3_floatsMove_175 : decode cX3_floatsMove 175 = .ok (.iload_n 3, 1) := by decide +kernel
theorem dX3_floatsMove_176 : decode cX3_floatsMove 176 = .ok (.iaload, 1) := by decide +kernel
theorem dX3_floatsMove_177 : decode cX3_floatsMove 177 = .ok (.iload_n 2, 1) := by decide +kernel
theorem dX3_floatsMove_178 : decode cX3_floatsMove 178 = .ok (.if_icmp .ne 8, 3) := by decide +kernel
theorem dX3_floatsMove_181 : decode cX3_floatsMove 181 = .ok (.aload_n 0, 1) := by decide +kernel
theorem dX3_floatsMove_182 : decode cX3_floatsMove 182 = .ok (.iload_n 3, 1) := by decide +kernel
theorem dX3_floatsMove_183 : decode cX3_floatsMove 183 = .ok (.invokevirtual 88, 3) := by decide +kernel
theorem dX3_floatsMove_186 : decode cX3_floatsMove 186 = .ok (.iinc 3 1, 3) := by decide +kernel
theorem dX3_floatsMove_189 : decode cX3_floatsMove 189 = .ok (.goto (-26), 3) := by decide +kernel
theorem dX3_floatsMove_192 : decode cX3_floatsMove 192 = .ok (.iinc 2 1, 3) := by decide +kernel
theorem dX3_floatsMove_195 : decode cX3_floatsMove 195 = .ok (.goto (-71), 3) := by decide +kernel
theorem dX3_floatsMove_198 : decode cX3_floatsMove 198 = .ok (.return_, 1) := by decide +kernel
set_option maxRecDepth 20000 in
theorem ggX3_burns_X3_isNear : GoodIn wsX3_burns wsX3_isNear := goodIn_r _ [14, 4, 15, 16, 17, 18, 19, 13, 20, 21, 22, 23, 24, 25, 26, 27, 28, 29, 30, 31, 32, 33, 34, 35, 36, 37, 38, 39, 40, 41, 42, 43, 44, 45, 46, 47, 48, 49] (by decide +kernel) (by decide +kernel)
set_option maxRecDepth 20000 in
theorem gX3_burns_X3_isNear : GoodIn wsX3_burns (wsV RX3 105 RX3 yX3_isNear wsX3_isNear) := goodIn_app (goodIn_of _ (by decide +kernel)) ggX3_burns_X3_isNear
theorem dX3_burns_0 : decode cX3_burns 0 = .ok (.aload_n 0, 1) := by decide +kernel
theorem dX3_burns_1 : decode cX3_burns 1 = .ok (.getfield 118, 3) := by decide +kernel
theorem dX3_burns_4 : decode cX3_burns 4 = .ok (.sipush 400, 3) := by decide +kernel
theorem dX3_burns_7 : decode cX3_burns 7 = .ok (.if_icmp .gt 15, 3) := by decide +kernel
theorem dX3_burns_10 : decode cX3_burns 10 = .ok (.aload_n 0, 1) := by decide +kernel
theorem dX3_burns_11 : decode cX3_burns 11 = .ok (.getfield 50, 3) := by decide +kernel
theorem dX3_burns_14 : decode cX3_burns 14 = .ok (.aload_n 0, 1) := by decide +kernel
theorem dX3_burns_15 : decode cX3_burns 15 = .ok (.getfield 118, 3) := by decide +kernel
theorem dX3_burns_18 : decode cX3_burns 18 = .ok (.iaload, 1) := by decide +kernel
theorem dX3_burns_19 : decode cX3_burns 19 = .ok (.goto 4, 3) := by decide +kernel
theorem dX3_burns_22 : decode cX3_burns 22 = .ok (.iconst 0, 1) := by decide +kernel
theorem dX3_burns_23 : decode cX3_burns 23 = .ok (.istore_n 1, 1) := by decide +kernel
theorem dX3_burns_24 : decode cX3_burns 24 = .ok (.iconst 0, 1) := by decide +kernel
theorem dX3_burns_25 : decode cX3_burns 25 = .ok (.istore_n 2, 1) := by decide +kernel
theorem dX3_burns_26 : decode cX3_burns 26 = .ok (.iload_n 2, 1) := by decide +kernel
theorem dX3_burns_27 : decode cX3_burns 27 = .ok (.aload_n 0, 1) := by decide +kernel
theorem dX3_burns_28 : decode cX3_burns 28 = .ok (.getfield 56, 3) := by decide +kernel
theorem dX3_burns_31 : decode cX3_burns 31 = .ok (.if_icmp .ge 55, 3) := by decide +kernel
theorem dX3_burns_34 : decode cX3_burns 34 = .ok (.aload_n 0, 1) := by decide +kernel
theorem dX3_burns_35 : decode cX3_burns 35 = .ok (.getfield 19, 3) := by decide +kernel
theorem dX3_burns_38 : decode cX3_burns 38 = .ok (.iload_n 2, 1) := by decide +kernel
theorem dX3_burns_39 : decode cX3_burns 39 = .ok (.iaload, 1) := by decide +kernel
theorem dX3_burns_40 : decode cX3_burns 40 = .ok (.iconst 1, 1) := by decide +kernel
theorem dX3_burns_41 : decode cX3_burns 41 = .ok (.if_icmp .ne 39, 3) := by decide +kernel
theorem dX3_burns_44 : decode cX3_burns 44 = .ok (.aload_n 0, 1) := by decide +kernel
theorem dX3_burns_45 : decode cX3_burns 45 = .ok (.getfield 13, 3) := by decide +kernel
theorem dX3_burns_48 : decode cX3_burns 48 = .ok (.iload_n 2, 1) := by decide +kernel
theorem dX3_burns_49 : decode cX3_burns 49 = .ok (.iaload, 1) := by decide +kernel
theorem dX3_burns_50 : decode cX3_burns 50 = .ok (.aload_n 0, 1) := by decide +kernel
theorem dX3_burns_51 : decode cX3_burns 51 = .ok (.getfield 7, 3) := by decide +kernel
theorem dX3_burns_54 : decode cX3_burns 54 = .ok (.iload_n 2, 1) := by decide +kernel
theorem dX3_burns_55 : decode cX3_burns 55 = .ok (.iaload, 1) := by decide +kernel
theorem dX3_burns_56 : decode cX3_burns 56 = .ok (.iconst 3, 1) := by decide +kernel
theorem dX3_burns_57 : decode cX3_burns 57 = .ok (.idiv, 1) := by decide +kernel
theorem dX3_burns_58 : decode cX3_burns 58 = .ok (.iadd, 1) := by decide +kernel
theorem dX3_burns_59 : decode cX3_burns 59 = .ok (.iload_n 1, 1) := by decide +kernel
theorem dX3_burns_60 : decode cX3_burns 60 = .ok (.if_icmp .ge 20, 3) := by decide +kernel
theorem dX3_burns_63 : decode cX3_burns 63 = .ok (.aload_n 0, 1) := by decide +kernel
theorem dX3_burns_64 : decode cX3_burns 64 = .ok (.getfield 19, 3) := by decide +kernel
theorem dX3_burns_67 : decode cX3_burns 67 = .ok (.iload_n 2, 1) := by decide +kernel
theorem dX3_burns_68 : decode cX3_burns 68 = .ok (.iconst 0, 1) := by decide +kernel
theorem dX3_burns_69 : decode cX3_burns 69 = .ok (.iastore, 1) := by decide +kernel
theorem dX3_burns_70 : decode cX3_burns 70 = .ok (.aload_n 0, 1) := by decide +kernel
theorem dX3_burns_71 : decode cX3_burns 71 = .ok (.dup, 1) := by decide +kernel
theorem dX3_burns_72 : decode cX3_burns 72 = .ok (.getfield 121, 3) := by decide +kernel
theorem dX3_burns_75 : decode cX3_burns 75 = .ok (.iconst 1, 1) := by decide +kernel
theorem dX3_burns_76 : decode cX3_burns 76 = .ok (.iadd, 1) := by decide +kernel
theorem dX3_burns_77 : decode cX3_burns 77 = .ok (.putfield 121, 3) := by decide +kernel
theorem dX3_burns_80 : decode cX3_burns 80 = .ok (.iinc 2 1, 3) := by decide +kernel
theorem dX3_burns_83 : decode cX3_burns 83 = .ok (.goto (-57), 3) := by decide +kernel
theorem dX3_burns_86 : decode cX3_burns 86 = .ok (.iconst 0, 1) := by decide +kernel
theorem dX3_burns_87 : decode cX3_burns 87 = .ok (.istore_n 2, 1) := by decide +kernel
theorem dX3_burns_88 : decode cX3_burns 88 = .ok (.iload_n 2, 1) := by decide +kernel
theorem dX3_burns_89 : decode cX3_burns 89 = .ok (.aload_n 0, 1) := by decide +kernel
theorem dX3_burns_90 : decode cX3_burns 90 = .ok (.getfield 56, 3) := by decide +kernel
theorem dX3_burns_93 : decode cX3_burns 93 = .ok (.if_icmp .ge 49, 3) := by decide +kernel
theorem dX3_burns_96 : decode cX3_burns 96 = .ok (.aload_n 0, 1) := by decide +kernel
theorem dX3_burns_97 : decode cX3_burns 97 = .ok (.getfield 19, 3) := by decide +kernel
theorem dX3_burns_100 : decode cX3_burns 100 = .ok (.iload_n 2, 1) := by decide +kernel
theorem dX3_burns_101 : decode cX3_burns 101 = .ok (.iaload, 1) := by decide +kernel
theorem dX3_burns_102 : decode cX3_burns 102 = .ok (.iconst 1, 1) := by decide +kernel
theorem dX3_burns_103 : decode cX3_burns 103 = .ok (.if_icmp .ne 33, 3) := by decide +kernel
theorem dX3_burns_106 : decode cX3_burns 106 = .ok (.aload_n 0, 1) := by decide +kernel
theorem dX3_burns_107 : decode cX3_burns 107 = .ok (.getfield 22, 3) := by decide +kernel
theorem dX3_burns_110 : decode cX3_burns 110 = .ok (.iload_n 2, 1) := by decide +kernel
theorem dX3_burns_111 : decode cX3_burns 111 = .ok (.dup2, 1) := by decide +kernel
theorem dX3_burns_112 : decode cX3_burns 112 = .ok (.iaload, 1) := by decide +kernel
theorem dX3_burns_113 : decode cX3_burns 113 = .ok (.iconst 1, 1) := by decide +kernel
theorem dX3_burns_114 : decode cX3_burns 114 = .ok (.isub, 1) := by decide +kernel
theorem dX3_burns_115 : decode cX3_burns 115 = .ok (.iastore, 1) := by decide +kernel
theorem dX3_burns_116 : decode cX3_burns 116 = .ok (.aload_n 0, 1) := by decide +kernel
theorem dX3_burns_117 : decode cX3_burns 117 = .ok (.getfield 19, 3) := by decide +kernel
theorem dX3_burns_120 : decode cX3_burns 120 = .ok (.iload_n 2, 1) := by decide +kernel
theorem dX3_burns_121 : decode cX3_burns 121 = .ok (.aload_n 0, 1) := by decide +kernel
theorem dX3_burns_122 : decode cX3_burns 122 = .ok (.getfield 22, 3) := by decide +kernel
theorem dX3_burns_125 : decode cX3_burns 125 = .ok (.iload_n 2, 1) := by decide +kernel
theorem dX3_burns_126 : decode cX3_burns 126 = .ok (.iaload, 1) := by decide +kernel
theorem dX3_burns_127 : decode cX3_burns 127 = .ok (.ifCond .ne 7, 3) := by decide +kernel
theorem dX3_burns_130 : decode cX3_burns 130 = .ok (.iconst 2, 1) := by decide +kernel
theorem dX3_burns_131 : decode cX3_burns 131 = .ok (.goto 4, 3) := by decide +kernel
theorem dX3_burns_134 : decode cX3_burns 134 = .ok (.iconst 1, 1) := by decide +kernel
theorem dX3_burns_135 : decode cX3_burns 135 = .ok (.iastore, 1) := by decide +kernel
theorem dX3_burns_136 : decode cX3_burns 136 = .ok (.iinc 2 1, 3) := by decide +kernel
theorem dX3_burns_139 : decode cX3_burns 139 = .ok (.goto (-51), 3) := by decide +kernel
theorem dX3_burns_142 : decode cX3_burns 142 = .ok (.iconst 0, 1) := by decide +kernel
theorem dX3_burns_143 : decode cX3_burns 143 = .ok (.istore_n 2, 1) := by decide +kernel
theorem dX3_burns_144 : decode cX3_burns 144 = .ok (.iload_n 2, 1) := by decide +kernel
theorem dX3_burns_145 : decode cX3_burns 145 = .ok (.aload_n 0, 1) := by decide +kernel
theorem dX3_burns_146 : decode cX3_burns 146 = .ok (.getfield 56, 3) := by decide +kernel
theorem dX3_burns_149 : decode cX3_burns 149 = .ok (.if_icmp .ge 45, 3) := by decide +kernel
theorem dX3_burns_152 : decode cX3_burns 152 = .ok (.aload_n 0, 1) := by decide +kernel
theorem dX3_burns_153 : decode cX3_burns 153 = .ok (.getfield 19, 3) := by decide +kernel
theorem dX3_burns_156 : decode cX3_burns 156 = .ok (.iload_n 2, 1) := by decide +kernel
theorem dX3_burns_157 : decode cX3_burns 157 = .ok (.iaload, 1) := by decide +kernel
theorem dX3_burns_158 : decode cX3_burns 158 = .ok (.iconst 1, 1) := by decide +kernel
theorem dX3_burns_159 : decode cX3_burns 159 = .ok (.if_icmp .ne 29, 3) := by decide +kernel
theorem dX3_burns_162 : decode cX3_burns 162 = .ok (.aload_n 0, 1) := by decide +kernel
theorem dX3_burns_163 : decode cX3_burns 163 = .ok (.iload_n 2, 1) := by decide +kernel
theorem dX3_burns_164 : decode cX3_burns 164 = .ok (.iload_n 2, 1) := by decide +kernel
theorem dX3_burns_165 : decode cX3_burns 165 = .ok (.invokevirtual 105, 3) := by decide +kernel
theorem dX3_burns_168 : decode cX3_burns 168 = .ok (.ifCond .eq 20, 3) := by decide +kernel
theorem dX3_burns_171 : decode cX3_burns 171 = .ok (.aload_n 0, 1) := by decide +kernel
theorem dX3_burns_172 : decode cX3_burns 172 = .ok (.getfield 19, 3) := by decide +kernel
theorem dX3_burns_175 : decode cX3_burns 175 = .ok (.iload_n 2, 1) := by decide +kernel
theorem dX3_burns_176 : decode cX3_burns 176 = .ok (.iconst 0, 1) := by decide +kernel
theorem dX3_burns_177 : decode cX3_burns 177 = .ok (.iastore, 1) := by decide +kernel
theorem dX3_burns_178 : decode cX3_burns 178 = .ok (.aload_n 0, 1) := by decide +kernel
theorem dX3_burns_179 : decode cX3_burns 179 = .ok (.dup, 1) := by decide +kernel
theorem dX3_burns_180 : decode cX3_burns 180 = .ok (.getfield 124, 3) := by decide +kernel
theorem dX3_burns_183 : decode cX3_burns 183 = .ok (.iconst 1, 1) := by decide +kernel
theorem dX3_burns_184 : decode cX3_burns 184 = .ok (.iadd, 1) := by decide +kernel
theorem dX3_burns_185 : decode cX3_burns 185 = .ok (.putfield 124, 3) := by decide +kernel
theorem dX3_burns_188 : decode cX3_burns 188 = .ok (.iinc 2 1, 3) := by decide +kernel
theorem dX3_burns_191 : decode cX3_burns 191 = .ok (.goto (-47), 3) := by decide +kernel
theorem dX3_burns_194 : decode cX3_burns 194 = .ok (.return_, 1) := by decide +kernel
theorem dX3_lit_0 : decode cX3_lit 0 = .ok (.iconst 0, 1) := by decide +kernel
theorem dX3_lit_1 : decode cX3_lit 1 = .ok (.istore_n 1, 1) := by decide +kernel
theorem dX3_lit_2 : decode cX3_lit 2 = .ok (.iconst 0, 1) := by decide +kernel
theorem dX3_lit_3 : decode cX3_lit 3 = .ok (.istore_n 2, 1) := by decide +kernel
theorem dX3_lit_4 : decode cX3_lit 4 = .ok (.iload_n 2, 1) := by decide +kernel
theorem dX3_lit_5 : decode cX3_lit 5 = .ok (.aload_n 0, 1) := by decide +kernel
theorem dX3_lit_6 : decode cX3_lit 6 = .ok (.getfield 56, 3) := by decide +kernel
theorem dX3_lit_9 : decode cX3_lit 9 = .ok (.if_icmp .ge 27, 3) := by decide +kernel
theorem dX3_lit_12 : decode cX3_lit 12 = .ok (.iload_n 1, 1) := by decide +kernel
theorem dX3_lit_13 : decode cX3_lit 13 = .ok (.aload_n 0, 1) := by decide +kernel
theorem dX3_lit_14 : decode cX3_lit 14 = .ok (.getfield 19, 3) := by decide +kernel
theorem dX3_lit_17 : decode cX3_lit 17 = .ok (.iload_n 2, 1) := by decide +kernel
theorem dX3_lit_18 : decode cX3_lit 18 = .ok (.iaload, 1) := by decide +kernel
theorem dX3_lit_19 : decode cX3_lit 19 = .ok (.iconst 1, 1) := by decide +kernel
theorem dX3_lit_20 : decode cX3_lit 20 = .ok (.if_icmp .ne 7, 3) := by decide +kernel
theorem dX3_lit_23 : decode cX3_lit 23 = .ok (.iconst 1, 1) := by decide +kernel
theorem dX3_lit_24 : decode cX3_lit 24 = .ok (.goto 4, 3) := by decide +kernel
theorem dX3_lit_27 : decode cX3_lit 27 = .ok (.iconst 0, 1) := by decide +kernel
theorem dX3_lit_28 : decode cX3_lit 28 = .ok (.iadd, 1) := by decide +kernel
theorem dX3_lit_29 : decode cX3_lit 29 = .ok (.istore_n 1, 1) := by decide +kernel
theorem dX3_lit_30 : decode cX3_lit 30 = .ok (.iinc 2 1, 3) := by decide +kernel
theorem dX3_lit_33 : decode cX3_lit 33 = .ok (.goto (-29), 3) := by decide +kernel
theorem dX3_lit_36 : decode cX3_lit 36 = .ok (.iload_n 1, 1) := by decide +kernel
theorem dX3_lit_37 : decode cX3_lit 37 = .ok (.ireturn, 1) := by decide +kernel
set_option maxRecDepth 20000 in
theorem ggX3_pass_X3_in : GoodIn wsX3_pass wsX3_in := goodIn_r _ [5] (by decide +kernel) (by decide +kernel)
set_option maxRecDepth 20000 in
theorem gX3_pass_X3_in : GoodIn wsX3_pass (va_wsS RX3 59 yX3_in wsX3_in) := goodIn_app (goodIn_of _ (by decide +kernel)) ggX3_pass_X3_in
set_option maxRecDepth 20000 in
theorem ggX3_pass_X3_goes : GoodIn wsX3_pass wsX3_goes := goodIn_r _ [9, 10, 58, 59, 60, 61, 62, 63, 64, 65, 66, 67, 68, 69, 70, 71, 72, 73, 74, 75, 76, 77, 78, 79] (by decide +kernel) (by decide +kernel)
set_option maxRecDepth 20000 in
theorem gX3_pass_X3_goes : GoodIn wsX3_pass (wsV RX3 66 RX3 yX3_goes wsX3_goes) := goodIn_app (goodIn_of _ (by decide +kernel)) ggX3_pass_X3_goes
set_option maxRecDepth 20000 in
theorem ggX3_pass_X3_lit : GoodIn wsX3_pass wsX3_lit := goodIn_r _ [14, 15, 16, 58, 59, 60, 61, 62, 63, 64, 65, 66, 67, 68, 69, 70, 71, 72, 73, 74, 75, 76, 77, 78, 79] (by decide +kernel) (by decide +kernel)
set_option maxRecDepth 20000 in
theorem gX3_pass_X3_lit : GoodIn wsX3_pass (wsV RX3 127 RX3 yX3_lit wsX3_lit) := goodIn_app (goodIn_of _ (by decide +kernel)) ggX3_pass_X3_lit
set_option maxRecDepth 20000 in
theorem ggX3_pass_X3_floatsMove : GoodIn wsX3_pass wsX3_floatsMove := goodIn_r _ [20, 21, 22, 23, 24, 25, 26, 27, 15, 28, 29, 30, 31, 4, 32, 16, 58, 59, 60, 61, 62, 63, 64, 65, 66, 67, 68, 69, 70, 71, 72, 73, 74, 75, 76, 77, 78, 79] (by decide +kernel) (by decide +kernel)
set_option maxRecDepth 20000 in
theorem gX3_pass_X3_floatsMove : GoodIn wsX3_pass (wsV RX3 130 RX3 yX3_floatsMove wsX3_floatsMove) := goodIn_app (goodIn_of _ (by decide +kernel)) ggX3_pass_X3_floatsMove
set_option maxRecDepth 20000 in
theorem ggX3_pass_X3_burns : GoodIn wsX3_pass wsX3_burns := goodIn_r _ [36, 1, 37, 15, 16, 38, 39, 40, 41, 42, 43, 44, 45, 4, 46, 47, 48, 49, 50, 51, 52, 53, 54, 55, 56, 24, 28, 57, 58, 59, 60, 61, 62, 63, 64, 65, 66, 67, 68, 69, 70, 71, 72, 73, 74, 75, 76, 77, 78, 79] (by decide +kernel) (by decide +kernel)
set_option maxRecDepth 20000 in
theorem gX3_pass_X3_burns : GoodIn wsX3_pass (wsV RX3 133 RX3 yX3_burns wsX3_burns) := goodIn_app (goodIn_of _ (by decide +kernel)) ggX3_pass_X3_burns
theorem dX3_pass_0 : decode cX3_pass 0 = .ok (.aload_n 0, 1) := by decide +kernel
theorem dX3_pass_1 : decode cX3_pass 1 = .ok (.iload_n 1, 1) := by decide +kernel
theorem dX3_pass_2 : decode cX3_pass 2 = .ok (.iconst 1, 1) := by decide +kernel
theorem dX3_pass_3 : decode cX3_pass 3 = .ok (.bipush 60, 2) := by decide +kernel
theorem dX3_pass_5 : decode cX3_pass 5 = .ok (.invokestatic 59, 3) := by decide +kernel
theorem dX3_pass_8 : decode cX3_pass 8 = .ok (.iconst 1, 1) := by decide +kernel
theorem dX3_pass_9 : decode cX3_pass 9 = .ok (.iconst 1, 1) := by decide +kernel
theorem dX3_pass_10 : decode cX3_pass 10 = .ok (.invokevirtual 66, 3) := by decide +kernel
theorem dX3_pass_13 : decode cX3_pass 13 = .ok (.ifCond .ne 5, 3) := by decide +kernel
theorem dX3_pass_16 : decode cX3_pass 16 = .ok (.iconst 0, 1) := by decide +kernel
theorem dX3_pass_17 : decode cX3_pass 17 = .ok (.ireturn, 1) := by decide +kernel
theorem dX3_pass_18 : decode cX3_pass 18 = .ok (.aload_n 0, 1) := by decide +kernel
theorem dX3_pass_19 : decode cX3_pass 19 = .ok (.invokevirtual 127, 3) := by decide +kernel
theorem dX3_pass_22 : decode cX3_pass 22 = .ok (.istore_n 2, 1) := by decide +kernel
theorem dX3_pass_23 : decode cX3_pass 23 = .ok (.iconst 0, 1) := by decide +kernel
theorem dX3_pass_24 : decode cX3_pass 24 = .ok (.istore_n 3, 1) := by decide +kernel
theorem dX3_pass_25 : decode cX3_pass 25 = .ok (.iload_n 3, 1) := by decide +kernel
theorem dX3_pass_26 : decode cX3_pass 26 = .ok (.iload_n 1, 1) := by decide +kernel
theorem dX3_pass_27 : decode cX3_pass 27 = .ok (.if_icmp .ge 27, 3) := by decide +kernel
theorem dX3_pass_30 : decode cX3_pass 30 = .ok (.aload_n 0, 1) := by decide +kernel
theorem dX3_pass_31 : decode cX3_pass 31 = .ok (.dup, 1) := by decide +kernel
theorem dX3_pass_32 : decode cX3_pass 32 = .ok (.getfield 118, 3) := by decide +kernel
theorem dX3_pass_35 : decode cX3_pass 35 = .ok (.iconst 1, 1) := by decide +kernel
theorem dX3_pass_36 : decode cX3_pass 36 = .ok (.iadd, 1) := by decide +kernel
theorem dX3_pass_37 : decode cX3_pass 37 = .ok (.putfield 118, 3) := by decide +kernel
theorem dX3_pass_40 : decode cX3_pass 40 = .ok (.aload_n 0, 1) := by decide +kernel
theorem dX3_pass_41 : decode cX3_pass 41 = .ok (.invokevirtual 130, 3) := by decide +kernel
theorem dX3_pass_44 : decode cX3_pass 44 = .ok (.aload_n 0, 1) := by decide +kernel
theorem dX3_pass_45 : decode cX3_pass 45 = .ok (.invokevirtual 133, 3) := by decide +kernel
theorem dX3_pass_48 : decode cX3_pass 48 = .ok (.iinc 3 1, 3) := by decide +kernel
theorem dX3_pass_51 : decode cX3_pass 51 = .ok (.goto (-26), 3) := by decide +kernel
theorem dX3_pass_54 : decode cX3_pass 54 = .ok (.iload_n 2, 1) := by decide +kernel
theorem dX3_pass_55 : decode cX3_pass 55 = .ok (.aload_n 0, 1) := by decide +kernel
theorem dX3_pass_56 : decode cX3_pass 56 = .ok (.invokevirtual 127, 3) := by decide +kernel
theorem dX3_pass_59 : decode cX3_pass 59 = .ok (.isub, 1) := by decide +kernel
theorem dX3_pass_60 : decode cX3_pass 60 = .ok (.ireturn, 1) := by decide +kernel
theorem dX3_time_0 : decode cX3_time 0 = .ok (.aload_n 0, 1) := by decide +kernel
theorem dX3_time_1 : decode cX3_time 1 = .ok (.iconst 0, 1) := by decide +kernel
theorem dX3_time_2 : decode cX3_time 2 = .ok (.putfield 53, 3) := by decide +kernel
theorem dX3_time_5 : decode cX3_time 5 = .ok (.aload_n 0, 1) := by decide +kernel
theorem dX3_time_6 : decode cX3_time 6 = .ok (.getfield 118, 3) := by decide +kernel
theorem dX3_time_9 : decode cX3_time 9 = .ok (.ireturn, 1) := by decide +kernel
theorem dX3_lanterns_0 : decode cX3_lanterns 0 = .ok (.aload_n 0, 1) := by decide +kernel
theorem dX3_lanterns_1 : decode cX3_lanterns 1 = .ok (.iconst 0, 1) := by decide +kernel
theorem dX3_lanterns_2 : decode cX3_lanterns 2 = .ok (.putfield 53, 3) := by decide +kernel
theorem dX3_lanterns_5 : decode cX3_lanterns 5 = .ok (.aload_n 0, 1) := by decide +kernel
theorem dX3_lanterns_6 : decode cX3_lanterns 6 = .ok (.getfield 56, 3) := by decide +kernel
theorem dX3_lanterns_9 : decode cX3_lanterns 9 = .ok (.ireturn, 1) := by decide +kernel
set_option maxRecDepth 20000 in
theorem ggX3_stateOf_X3_isLantern : GoodIn wsX3_stateOf wsX3_isLantern := goodIn_r _ [6, 7, 8, 9, 5, 10, 16, 17, 18, 19, 20, 21, 22, 23, 24, 25, 26, 27, 28, 29, 30, 31, 32, 33, 34, 35, 36, 37] (by decide +kernel) (by decide +kernel)
set_option maxRecDepth 20000 in
theorem gX3_stateOf_X3_isLantern : GoodIn wsX3_stateOf (wsV RX3 74 RX3 yX3_isLantern wsX3_isLantern) := goodIn_app (goodIn_of _ (by decide +kernel)) ggX3_stateOf_X3_isLantern
set_option maxRecDepth 20000 in
theorem ggX3_stateOf_X3_goes : GoodIn wsX3_stateOf wsX3_goes := goodIn_r _ [14, 15, 16, 17, 18, 19, 20, 21, 22, 23, 24, 25, 26, 27, 28, 29, 30, 31, 32, 33, 34, 35, 36, 37] (by decide +kernel) (by decide +kernel)
set_option maxRecDepth 20000 in
theorem gX3_stateOf_X3_goes : GoodIn wsX3_stateOf (wsV RX3 66 RX3 yX3_goes wsX3_goes) := goodIn_app (goodIn_of _ (by decide +kernel)) ggX3_stateOf_X3_goes
theorem dX3_stateOf_0 : decode cX3_stateOf 0 = .ok (.aload_n 0, 1) := by decide +kernel
theorem dX3_stateOf_1 : decode cX3_stateOf 1 = .ok (.aload_n 0, 1) := by decide +kernel
theorem dX3_stateOf_2 : decode cX3_stateOf 2 = .ok (.iload_n 1, 1) := by decide +kernel
theorem dX3_stateOf_3 : decode cX3_stateOf 3 = .ok (.invokevirtual 74, 3) := by decide +kernel
theorem dX3_stateOf_6 : decode cX3_stateOf 6 = .ok (.iconst 1, 1) := by decide +kernel
theorem dX3_stateOf_7 : decode cX3_stateOf 7 = .ok (.iconst 1, 1) := by decide +kernel
theorem dX3_stateOf_8 : decode cX3_stateOf 8 = .ok (.invokevirtual 66, 3) := by decide +kernel
theorem dX3_stateOf_11 : decode cX3_stateOf 11 = .ok (.ifCond .eq 12, 3) := by decide +kernel
theorem dX3_stateOf_14 : decode cX3_stateOf 14 = .ok (.aload_n 0, 1) := by decide +kernel
theorem dX3_stateOf_15 : decode cX3_stateOf 15 = .ok (.getfield 19, 3) := by decide +kernel
theorem dX3_stateOf_18 : decode cX3_stateOf 18 = .ok (.iload_n 1, 1) := by decide +kernel
theorem dX3_stateOf_19 : decode cX3_stateOf 19 = .ok (.iaload, 1) := by decide +kernel
theorem dX3_stateOf_20 : decode cX3_stateOf 20 = .ok (.goto 4, 3) := by decide +kernel
theorem dX3_stateOf_23 : decode cX3_stateOf 23 = .ok (.iconst 0, 1) := by decide +kernel
theorem dX3_stateOf_24 : decode cX3_stateOf 24 = .ok (.ireturn, 1) := by decide +kernel
set_option maxRecDepth 20000 in
theorem ggX3_left_X3_isLantern : GoodIn wsX3_left wsX3_isLantern := goodIn_r _ [6, 7, 8, 9, 5, 10, 16, 17, 18, 19, 20, 21, 22, 23, 24, 25, 26, 27, 28, 29, 30, 31, 32, 33, 34, 35, 36, 37] (by decide +kernel) (by decide +kernel)
set_option maxRecDepth 20000 in
theorem gX3_left_X3_isLantern : GoodIn wsX3_left (wsV RX3 74 RX3 yX3_isLantern wsX3_isLantern) := goodIn_app (goodIn_of _ (by decide +kernel)) ggX3_left_X3_isLantern
set_option maxRecDepth 20000 in
theorem ggX3_left_X3_goes : GoodIn wsX3_left wsX3_goes := goodIn_r _ [14, 15, 16, 17, 18, 19, 20, 21, 22, 23, 24, 25, 26, 27, 28, 29, 30, 31, 32, 33, 34, 35, 36, 37] (by decide +kernel) (by decide +kernel)
set_option maxRecDepth 20000 in
theorem gX3_left_X3_goes : GoodIn wsX3_left (wsV RX3 66 RX3 yX3_goes wsX3_goes) := goodIn_app (goodIn_of _ (by decide +kernel)) ggX3_left_X3_goes
theorem dX3_left_0 : decode cX3_left 0 = .ok (.aload_n 0, 1) := by decide +kernel
theorem dX3_left_1 : decode cX3_left 1 = .ok (.aload_n 0, 1) := by decide +kernel
theorem dX3_left_2 : decode cX3_left 2 = .ok (.iload_n 1, 1) := by decide +kernel
theorem dX3_left_3 : decode cX3_left 3 = .ok (.invokevirtual 74, 3) := by decide +kernel
theorem dX3_left_6 : decode cX3_left 6 = .ok (.iconst 1, 1) := by decide +kernel
theorem dX3_left_7 : decode cX3_left 7 = .ok (.iconst 1, 1) := by decide +kernel
theorem dX3_left_8 : decode cX3_left 8 = .ok (.invokevirtual 66, 3) := by decide +kernel
theorem dX3_left_11 : decode cX3_left 11 = .ok (.ifCond .eq 12, 3) := by decide +kernel
theorem dX3_left_14 : decode cX3_left 14 = .ok (.aload_n 0, 1) := by decide +kernel
theorem dX3_left_15 : decode cX3_left 15 = .ok (.getfield 22, 3) := by decide +kernel
theorem dX3_left_18 : decode cX3_left 18 = .ok (.iload_n 1, 1) := by decide +kernel
theorem dX3_left_19 : decode cX3_left 19 = .ok (.iaload, 1) := by decide +kernel
theorem dX3_left_20 : decode cX3_left 20 = .ok (.goto 4, 3) := by decide +kernel
theorem dX3_left_23 : decode cX3_left 23 = .ok (.iconst 0, 1) := by decide +kernel
theorem dX3_left_24 : decode cX3_left 24 = .ok (.ireturn, 1) := by decide +kernel
set_option maxRecDepth 20000 in
theorem ggX3_placeOf_X3_isLantern : GoodIn wsX3_placeOf wsX3_isLantern := goodIn_r _ [5, 6, 7, 8, 4, 9, 27, 28, 29, 30, 31, 32, 33, 34, 35, 36, 37, 38, 39, 40, 41, 42, 43, 44, 45, 46, 47, 48] (by decide +kernel) (by decide +kernel)
set_option maxRecDepth 20000 in
theorem gX3_placeOf_X3_isLantern : GoodIn wsX3_placeOf (wsV RX3 74 RX3 yX3_isLantern wsX3_isLantern) := goodIn_app (goodIn_of _ (by decide +kernel)) ggX3_placeOf_X3_isLantern
set_option maxRecDepth 20000 in
theorem ggX3_placeOf_X3_goes : GoodIn wsX3_placeOf wsX3_goes := goodIn_r _ [13, 14, 27, 28, 29, 30, 31, 32, 33, 34, 35, 36, 37, 38, 39, 40, 41, 42, 43, 44, 45, 46, 47, 48] (by decide +kernel) (by decide +kernel)
set_option maxRecDepth 20000 in
theorem gX3_placeOf_X3_goes : GoodIn wsX3_placeOf (wsV RX3 66 RX3 yX3_goes wsX3_goes) := goodIn_app (goodIn_of _ (by decide +kernel)) ggX3_placeOf_X3_goes
set_option maxRecDepth 20000 in
theorem ggX3_placeOf_X3_hasPlace : GoodIn wsX3_placeOf wsX3_hasPlace := goodIn_r _ [18, 19, 20, 27, 28, 29, 30, 31, 32, 33, 34, 35, 36, 37, 38, 39, 40, 41, 42, 43, 44, 45, 46, 47, 48] (by decide +kernel) (by decide +kernel)
set_option maxRecDepth 20000 in
theorem gX3_placeOf_X3_hasPlace : GoodIn wsX3_placeOf (wsV RX3 102 RX3 yX3_hasPlace wsX3_hasPlace) := goodIn_app (goodIn_of _ (by decide +kernel)) ggX3_placeOf_X3_hasPlace
set_option maxRecDepth 20000 in
theorem ggX3_placeOf_X3_place : GoodIn wsX3_placeOf wsX3_place := goodIn_r _ [24, 25, 19, 26, 27, 28, 29, 30, 31, 32, 33, 34, 35, 36, 37, 38, 39, 40, 41, 42, 43, 44, 45, 46, 47, 48] (by decide +kernel) (by decide +kernel)
set_option maxRecDepth 20000 in
theorem gX3_placeOf_X3_place : GoodIn wsX3_placeOf (wsV RX3 92 RX3 yX3_place wsX3_place) := goodIn_app (goodIn_of _ (by decide +kernel)) ggX3_placeOf_X3_place
theorem dX3_placeOf_0 : decode cX3_placeOf 0 = .ok (.aload_n 0, 1) := by decide +kernel
theorem dX3_placeOf_1 : decode cX3_placeOf 1 = .ok (.aload_n 0, 1) := by decide +kernel
theorem dX3_placeOf_2 : decode cX3_placeOf 2 = .ok (.iload_n 1, 1) := by decide +kernel
theorem dX3_placeOf_3 : decode cX3_placeOf 3 = .ok (.invokevirtual 74, 3) := by decide +kernel
theorem dX3_placeOf_6 : decode cX3_placeOf 6 = .ok (.iconst 1, 1) := by decide +kernel
theorem dX3_placeOf_7 : decode cX3_placeOf 7 = .ok (.iconst 1, 1) := by decide +kernel
theorem dX3_placeOf_8 : decode cX3_placeOf 8 = .ok (.invokevirtual 66, 3) := by decide +kernel
theorem dX3_placeOf_11 : decode cX3_placeOf 11 = .ok (.ifCond .eq 23, 3) := by decide +kernel
theorem dX3_placeOf_14 : decode cX3_placeOf 14 = .ok (.aload_n 0, 1) := by decide +kernel
theorem dX3_placeOf_15 : decode cX3_placeOf 15 = .ok (.iload_n 1, 1) := by decide +kernel
theorem dX3_placeOf_16 : decode cX3_placeOf 16 = .ok (.invokevirtual 102, 3) := by decide +kernel
theorem dX3_placeOf_19 : decode cX3_placeOf 19 = .ok (.ifCond .eq 11, 3) := by decide +kernel
theorem dX3_placeOf_22 : decode cX3_placeOf 22 = .ok (.aload_n 0, 1) := by decide +kernel
theorem dX3_placeOf_23 : decode cX3_placeOf 23 = .ok (.iload_n 1, 1) := by decide +kernel
theorem dX3_placeOf_24 : decode cX3_placeOf 24 = .ok (.invokevirtual 92, 3) := by decide +kernel
theorem dX3_placeOf_27 : decode cX3_placeOf 27 = .ok (.goto 8, 3) := by decide +kernel
theorem dX3_placeOf_30 : decode cX3_placeOf 30 = .ok (.iconst (-1), 1) := by decide +kernel
theorem dX3_placeOf_31 : decode cX3_placeOf 31 = .ok (.goto 4, 3) := by decide +kernel
theorem dX3_placeOf_34 : decode cX3_placeOf 34 = .ok (.iconst 0, 1) := by decide +kernel
theorem dX3_placeOf_35 : decode cX3_placeOf 35 = .ok (.ireturn, 1) := by decide +kernel
set_option maxRecDepth 20000 in
theorem ggX3_nearest_X3_isLantern : GoodIn wsX3_nearest wsX3_isLantern := goodIn_r _ [7, 1, 8, 9, 6, 10, 32, 33, 34, 35, 36, 37, 38, 39, 40, 41, 42, 43, 44, 45, 46, 47, 48, 49, 50, 51, 52, 53] (by decide +kernel) (by decide +kernel)
set_option maxRecDepth 20000 in
theorem gX3_nearest_X3_isLantern : GoodIn wsX3_nearest (wsV RX3 74 RX3 yX3_isLantern wsX3_isLantern) := goodIn_app (goodIn_of _ (by decide +kernel)) ggX3_nearest_X3_isLantern
set_option maxRecDepth 20000 in
theorem ggX3_nearest_X3_goes : GoodIn wsX3_nearest wsX3_goes := goodIn_r _ [14, 15, 32, 33, 34, 35, 36, 37, 38, 39, 40, 41, 42, 43, 44, 45, 46, 47, 48, 49, 50, 51, 52, 53] (by decide +kernel) (by decide +kernel)
set_option maxRecDepth 20000 in
theorem gX3_nearest_X3_goes : GoodIn wsX3_nearest (wsV RX3 66 RX3 yX3_goes wsX3_goes) := goodIn_app (goodIn_of _ (by decide +kernel)) ggX3_nearest_X3_goes
set_option maxRecDepth 20000 in
theorem ggX3_nearest_X3_hasPlace : GoodIn wsX3_nearest wsX3_hasPlace := goodIn_r _ [19, 20, 21, 32, 33, 34, 35, 36, 37, 38, 39, 40, 41, 42, 43, 44, 45, 46, 47, 48, 49, 50, 51, 52, 53] (by decide +kernel) (by decide +kernel)
set_option maxRecDepth 20000 in
theorem gX3_nearest_X3_hasPlace : GoodIn wsX3_nearest (wsV RX3 102 RX3 yX3_hasPlace wsX3_hasPlace) := goodIn_app (goodIn_of _ (by decide +kernel)) ggX3_nearest_X3_hasPlace
set_option maxRecDepth 20000 in
theorem ggX3_nearest_X3_distance : GoodIn wsX3_nearest wsX3_distance := goodIn_r _ [25, 26, 27, 28, 6, 29, 30, 20, 31, 32, 33, 34, 35, 36, 37, 38, 39, 40, 41, 42, 43, 44, 45, 46, 47, 48, 49, 50, 51, 52, 53] (by decide +kernel) (by decide +kernel)
set_option maxRecDepth 20000 in
theorem gX3_nearest_X3_distance : GoodIn wsX3_nearest (wsV RX3 95 RX3 yX3_distance wsX3_distance) := goodIn_app (goodIn_of _ (by decide +kernel)) ggX3_nearest_X3_distance
theorem dX3_nearest_0 : decode cX3_nearest 0 = .ok (.aload_n 0, 1) := by decide +kernel
theorem dX3_nearest_1 : decode cX3_nearest 1 = .ok (.aload_n 0, 1) := by decide +kernel
theorem dX3_nearest_2 : decode cX3_nearest 2 = .ok (.iload_n 1, 1) := by decide +kernel
theorem dX3_nearest_3 : decode cX3_nearest 3 = .ok (.invokevirtual 74, 3) := by decide +kernel
theorem dX3_nearest_6 : decode cX3_nearest 6 = .ok (.iconst 1, 1) := by decide +kernel
theorem dX3_nearest_7 : decode cX3_nearest 7 = .ok (.iconst 1, 1) := by decide +kernel
theorem dX3_nearest_8 : decode cX3_nearest 8 = .ok (.invokevirtual 66, 3) := by decide +kernel
theorem dX3_nearest_11 : decode cX3_nearest 11 = .ok (.ifCond .ne 5, 3) := by decide +kernel
theorem dX3_nearest_14 : decode cX3_nearest 14 = .ok (.iconst 0, 1) := by decide +kernel
theorem dX3_nearest_15 : decode cX3_nearest 15 = .ok (.ireturn, 1) := by decide +kernel
theorem dX3_nearest_16 : decode cX3_nearest 16 = .ok (.iconst (-1), 1) := by decide +kernel
theorem dX3_nearest_17 : decode cX3_nearest 17 = .ok (.istore_n 2, 1) := by decide +kernel
theorem dX3_nearest_18 : decode cX3_nearest 18 = .ok (.iconst 0, 1) := by decide +kernel
theorem dX3_nearest_19 : decode cX3_nearest 19 = .ok (.istore_n 3, 1) := by decide +kernel
theorem dX3_nearest_20 : decode cX3_nearest 20 = .ok (.iload_n 3, 1) := by decide +kernel
theorem dX3_nearest_21 : decode cX3_nearest 21 = .ok (.aload_n 0, 1) := by decide +kernel
theorem dX3_nearest_22 : decode cX3_nearest 22 = .ok (.getfield 56, 3) := by decide +kernel
theorem dX3_nearest_25 : decode cX3_nearest 25 = .ok (.if_icmp .ge 58, 3) := by decide +kernel
theorem dX3_nearest_28 : decode cX3_nearest 28 = .ok (.aload_n 0, 1) := by decide +kernel
theorem dX3_nearest_29 : decode cX3_nearest 29 = .ok (.iload_n 1, 1) := by decide +kernel
theorem dX3_nearest_30 : decode cX3_nearest 30 = .ok (.invokevirtual 102, 3) := by decide +kernel
theorem dX3_nearest_33 : decode cX3_nearest 33 = .ok (.ifCond .eq 50, 3) := by decide +kernel
theorem dX3_nearest_36 : decode cX3_nearest 36 = .ok (.iload_n 3, 1) := by decide +kernel
theorem dX3_nearest_37 : decode cX3_nearest 37 = .ok (.iload_n 1, 1) := by decide +kernel
theorem dX3_nearest_38 : decode cX3_nearest 38 = .ok (.if_icmp .eq 39, 3) := by decide +kernel
theorem dX3_nearest_41 : decode cX3_nearest 41 = .ok (.aload_n 0, 1) := by decide +kernel
theorem dX3_nearest_42 : decode cX3_nearest 42 = .ok (.getfield 19, 3) := by decide +kernel
theorem dX3_nearest_45 : decode cX3_nearest 45 = .ok (.iload_n 3, 1) := by decide +kernel
theorem dX3_nearest_46 : decode cX3_nearest 46 = .ok (.iaload, 1) := by decide +kernel
theorem dX3_nearest_47 : decode cX3_nearest 47 = .ok (.iconst 1, 1) := by decide +kernel
theorem dX3_nearest_48 : decode cX3_nearest 48 = .ok (.if_icmp .ne 29, 3) := by decide +kernel
theorem dX3_nearest_51 : decode cX3_nearest 51 = .ok (.aload_n 0, 1) := by decide +kernel
theorem dX3_nearest_52 : decode cX3_nearest 52 = .ok (.iload_n 3, 1) := by decide +kernel
theorem dX3_nearest_53 : decode cX3_nearest 53 = .ok (.iload_n 1, 1) := by decide +kernel
theorem dX3_nearest_54 : decode cX3_nearest 54 = .ok (.invokevirtual 95, 3) := by decide +kernel
theorem dX3_nearest_57 : decode cX3_nearest 57 = .ok (.istore 4, 2) := by decide +kernel
theorem dX3_nearest_59 : decode cX3_nearest 59 = .ok (.iload_n 2, 1) := by decide +kernel
theorem dX3_nearest_60 : decode cX3_nearest 60 = .ok (.iconst (-1), 1) := by decide +kernel
theorem dX3_nearest_61 : decode cX3_nearest 61 = .ok (.if_icmp .eq 9, 3) := by decide +kernel
theorem dX3_nearest_64 : decode cX3_nearest 64 = .ok (.iload 4, 2) := by decide +kernel
theorem dX3_nearest_66 : decode cX3_nearest 66 = .ok (.iload_n 2, 1) := by decide +kernel
theorem dX3_nearest_67 : decode cX3_nearest 67 = .ok (.if_icmp .ge 8, 3) := by decide +kernel
theorem dX3_nearest_70 : decode cX3_nearest 70 = .ok (.iload 4, 2) := by decide +kernel
theorem dX3_nearest_72 : decode cX3_nearest 72 = .ok (.goto 4, 3) := by decide +kernel
theorem dX3_nearest_75 : decode cX3_nearest 75 = .ok (.iload_n 2, 1) := by decide +kernel
theorem dX3_nearest_76 : decode cX3_nearest 76 = .ok (.istore_n 2, 1) := by decide +kernel
theorem dX3_nearest_77 : decode cX3_nearest 77 = .ok (.iinc 3 1, 3) := by decide +kernel
theorem dX3_nearest_80 : decode cX3_nearest 80 = .ok (.goto (-60), 3) := by decide +kernel
theorem dX3_nearest_83 : decode cX3_nearest 83 = .ok (.iload_n 2, 1) := by decide +kernel
theorem dX3_nearest_84 : decode cX3_nearest 84 = .ok (.ireturn, 1) := by decide +kernel
set_option maxRecDepth 20000 in
theorem ggX3_nearestOfAll_X3_nearest : GoodIn wsX3_nearestOfAll wsX3_nearest := goodIn_r _ [5, 6, 7, 8, 9, 10, 4, 11, 12, 13, 14, 15, 16, 17, 18, 19, 20, 21, 22, 23, 24, 25, 26, 27, 28, 29, 30, 31, 32, 33, 34, 35, 36, 37, 38, 39, 40, 41, 42, 43, 44, 45, 46, 47, 48, 49, 50, 51, 52, 53, 54, 55, 56, 57] (by decide +kernel) (by decide +kernel)
set_option maxRecDepth 20000 in
theorem gX3_nearestOfAll_X3_nearest : GoodIn wsX3_nearestOfAll (wsV RX3 136 RX3 yX3_nearest wsX3_nearest) := goodIn_app (goodIn_of _ (by decide +kernel)) ggX3_nearestOfAll_X3_nearest
theorem dX3_nearestOfAll_0 : decode cX3_nearestOfAll 0 = .ok (.aload_n 0, 1) := by decide +kernel
theorem dX3_nearestOfAll_1 : decode cX3_nearestOfAll 1 = .ok (.iload_n 1, 1) := by decide +kernel
theorem dX3_nearestOfAll_2 : decode cX3_nearestOfAll 2 = .ok (.invokevirtual 136, 3) := by decide +kernel
theorem dX3_nearestOfAll_5 : decode cX3_nearestOfAll 5 = .ok (.ireturn, 1) := by decide +kernel
theorem dX3_blownOut_0 : decode cX3_blownOut 0 = .ok (.aload_n 0, 1) := by decide +kernel
theorem dX3_blownOut_1 : decode cX3_blownOut 1 = .ok (.iconst 0, 1) := by decide +kernel
theorem dX3_blownOut_2 : decode cX3_blownOut 2 = .ok (.putfield 53, 3) := by decide +kernel
theorem dX3_blownOut_5 : decode cX3_blownOut 5 = .ok (.aload_n 0, 1) := by decide +kernel
theorem dX3_blownOut_6 : decode cX3_blownOut 6 = .ok (.getfield 121, 3) := by decide +kernel
theorem dX3_blownOut_9 : decode cX3_blownOut 9 = .ok (.ireturn, 1) := by decide +kernel
theorem dX3_ordered_0 : decode cX3_ordered 0 = .ok (.aload_n 0, 1) := by decide +kernel
theorem dX3_ordered_1 : decode cX3_ordered 1 = .ok (.iconst 0, 1) := by decide +kernel
theorem dX3_ordered_2 : decode cX3_ordered 2 = .ok (.putfield 53, 3) := by decide +kernel
theorem dX3_ordered_5 : decode cX3_ordered 5 = .ok (.aload_n 0, 1) := by decide +kernel
theorem dX3_ordered_6 : decode cX3_ordered 6 = .ok (.getfield 124, 3) := by decide +kernel
theorem dX3_ordered_9 : decode cX3_ordered 9 = .ok (.ireturn, 1) := by decide +kernel
set_option maxRecDepth 20000 in
theorem ggX3_sortOf_X3_isFloat : GoodIn wsX3_sortOf wsX3_isFloat := goodIn_r _ [6, 7, 8, 9, 5, 10, 16, 17, 18, 19, 20, 21, 22, 23, 24, 25, 26, 27, 28, 29, 30, 31, 32, 33, 34, 35, 36, 37] (by decide +kernel) (by decide +kernel)
set_option maxRecDepth 20000 in
theorem gX3_sortOf_X3_isFloat : GoodIn wsX3_sortOf (wsV RX3 78 RX3 yX3_isFloat wsX3_isFloat) := goodIn_app (goodIn_of _ (by decide +kernel)) ggX3_sortOf_X3_isFloat
set_option maxRecDepth 20000 in
theorem ggX3_sortOf_X3_goes : GoodIn wsX3_sortOf wsX3_goes := goodIn_r _ [14, 15, 16, 17, 18, 19, 20, 21, 22, 23, 24, 25, 26, 27, 28, 29, 30, 31, 32, 33, 34, 35, 36, 37] (by decide +kernel) (by decide +kernel)
set_option maxRecDepth 20000 in
theorem gX3_sortOf_X3_goes : GoodIn wsX3_sortOf (wsV RX3 66 RX3 yX3_goes wsX3_goes) := goodIn_app (goodIn_of _ (by decide +kernel)) ggX3_sortOf_X3_goes
theorem dX3_sortOf_0 : decode cX3_sortOf 0 = .ok (.aload_n 0, 1) := by decide +kernel
theorem dX3_sortOf_1 : decode cX3_sortOf 1 = .ok (.aload_n 0, 1) := by decide +kernel
theorem dX3_sortOf_2 : decode cX3_sortOf 2 = .ok (.iload_n 1, 1) := by decide +kernel
theorem dX3_sortOf_3 : decode cX3_sortOf 3 = .ok (.invokevirtual 78, 3) := by decide +kernel
theorem dX3_sortOf_6 : decode cX3_sortOf 6 = .ok (.iconst 1, 1) := by decide +kernel
theorem dX3_sortOf_7 : decode cX3_sortOf 7 = .ok (.iconst 1, 1) := by decide +kernel
theorem dX3_sortOf_8 : decode cX3_sortOf 8 = .ok (.invokevirtual 66, 3) := by decide +kernel
theorem dX3_sortOf_11 : decode cX3_sortOf 11 = .ok (.ifCond .eq 12, 3) := by decide +kernel
theorem dX3_sortOf_14 : decode cX3_sortOf 14 = .ok (.aload_n 0, 1) := by decide +kernel
theorem dX3_sortOf_15 : decode cX3_sortOf 15 = .ok (.getfield 37, 3) := by decide +kernel
theorem dX3_sortOf_18 : decode cX3_sortOf 18 = .ok (.iload_n 1, 1) := by decide +kernel
theorem dX3_sortOf_19 : decode cX3_sortOf 19 = .ok (.iaload, 1) := by decide +kernel
theorem dX3_sortOf_20 : decode cX3_sortOf 20 = .ok (.goto 4, 3) := by decide +kernel
theorem dX3_sortOf_23 : decode cX3_sortOf 23 = .ok (.iconst 0, 1) := by decide +kernel
theorem dX3_sortOf_24 : decode cX3_sortOf 24 = .ok (.ireturn, 1) := by decide +kernel
set_option maxRecDepth 20000 in
theorem ggX3_front_X3_isFloat : GoodIn wsX3_front wsX3_isFloat := goodIn_r _ [7, 8, 9, 10, 6, 11, 17, 18, 19, 20, 21, 22, 23, 24, 25, 26, 27, 28, 29, 30, 31, 32, 33, 34, 35, 36, 37, 38] (by decide +kernel) (by decide +kernel)
set_option maxRecDepth 20000 in
theorem gX3_front_X3_isFloat : GoodIn wsX3_front (wsV RX3 78 RX3 yX3_isFloat wsX3_isFloat) := goodIn_app (goodIn_of _ (by decide +kernel)) ggX3_front_X3_isFloat
set_option maxRecDepth 20000 in
theorem ggX3_front_X3_goes : GoodIn wsX3_front wsX3_goes := goodIn_r _ [15, 16, 17, 18, 19, 20, 21, 22, 23, 24, 25, 26, 27, 28, 29, 30, 31, 32, 33, 34, 35, 36, 37, 38] (by decide +kernel) (by decide +kernel)
set_option maxRecDepth 20000 in
theorem gX3_front_X3_goes : GoodIn wsX3_front (wsV RX3 66 RX3 yX3_goes wsX3_goes) := goodIn_app (goodIn_of _ (by decide +kernel)) ggX3_front_X3_goes
theorem dX3_front_0 : decode cX3_front 0 = .ok (.aload_n 0, 1) := by decide +kernel
theorem dX3_front_1 : decode cX3_front 1 = .ok (.aload_n 0, 1) := by decide +kernel
theorem dX3_front_2 : decode cX3_front 2 = .ok (.iload_n 1, 1) := by decide +kernel
theorem dX3_front_3 : decode cX3_front 3 = .ok (.invokevirtual 78, 3) := by decide +kernel
theorem dX3_front_6 : decode cX3_front 6 = .ok (.iconst 1, 1) := by decide +kernel
theorem dX3_front_7 : decode cX3_front 7 = .ok (.iconst 1, 1) := by decide +kernel
theorem dX3_front_8 : decode cX3_front 8 = .ok (.invokevirtual 66, 3) := by decide +kernel
theorem dX3_front_11 : decode cX3_front 11 = .ok (.ifCond .eq 26, 3) := by decide +kernel
theorem dX3_front_14 : decode cX3_front 14 = .ok (.aload_n 0, 1) := by decide +kernel
theorem dX3_front_15 : decode cX3_front 15 = .ok (.getfield 37, 3) := by decide +kernel
theorem dX3_front_18 : decode cX3_front 18 = .ok (.iload_n 1, 1) := by decide +kernel
theorem dX3_front_19 : decode cX3_front 19 = .ok (.iaload, 1) := by decide +kernel
theorem dX3_front_20 : decode cX3_front 20 = .ok (.iconst 1, 1) := by decide +kernel
theorem dX3_front_21 : decode cX3_front 21 = .ok (.if_icmp .ne 12, 3) := by decide +kernel
theorem dX3_front_24 : decode cX3_front 24 = .ok (.aload_n 0, 1) := by decide +kernel
theorem dX3_front_25 : decode cX3_front 25 = .ok (.getfield 40, 3) := by decide +kernel
theorem dX3_front_28 : decode cX3_front 28 = .ok (.iload_n 1, 1) := by decide +kernel
theorem dX3_front_29 : decode cX3_front 29 = .ok (.iaload, 1) := by decide +kernel
theorem dX3_front_30 : decode cX3_front 30 = .ok (.goto 8, 3) := by decide +kernel
theorem dX3_front_33 : decode cX3_front 33 = .ok (.iconst (-1), 1) := by decide +kernel
theorem dX3_front_34 : decode cX3_front 34 = .ok (.goto 4, 3) := by decide +kernel
theorem dX3_front_37 : decode cX3_front 37 = .ok (.iconst 0, 1) := by decide +kernel
theorem dX3_front_38 : decode cX3_front 38 = .ok (.ireturn, 1) := by decide +kernel
set_option maxRecDepth 20000 in
theorem ggX3_load_X3_isFloat : GoodIn wsX3_load wsX3_isFloat := goodIn_r _ [5, 6, 7, 8, 4, 9, 28, 29, 30, 31, 32, 33, 34, 35, 36, 37, 38, 39, 40, 41, 42, 43, 44, 45, 46, 47, 48, 49] (by decide +kernel) (by decide +kernel)
set_option maxRecDepth 20000 in
theorem gX3_load_X3_isFloat : GoodIn wsX3_load (wsV RX3 78 RX3 yX3_isFloat wsX3_isFloat) := goodIn_app (goodIn_of _ (by decide +kernel)) ggX3_load_X3_isFloat
set_option maxRecDepth 20000 in
theorem ggX3_load_X3_goes : GoodIn wsX3_load wsX3_goes := goodIn_r _ [13, 14, 28, 29, 30, 31, 32, 33, 34, 35, 36, 37, 38, 39, 40, 41, 42, 43, 44, 45, 46, 47, 48, 49] (by decide +kernel) (by decide +kernel)
set_option maxRecDepth 20000 in
theorem gX3_load_X3_goes : GoodIn wsX3_load (wsV RX3 66 RX3 yX3_goes wsX3_goes) := goodIn_app (goodIn_of _ (by decide +kernel)) ggX3_load_X3_goes
set_option maxRecDepth 20000 in
theorem ggX3_load_X3_loadOf : GoodIn wsX3_load wsX3_loadOf := goodIn_r _ [18, 19, 20, 21, 22, 23, 4, 24, 25, 26, 27, 28, 29, 30, 31, 32, 33, 34, 35, 36, 37, 38, 39, 40, 41, 42, 43, 44, 45, 46, 47, 48, 49] (by decide +kernel) (by decide +kernel)
set_option maxRecDepth 20000 in
theorem gX3_load_X3_loadOf : GoodIn wsX3_load (wsV RX3 81 RX3 yX3_loadOf wsX3_loadOf) := goodIn_app (goodIn_of _ (by decide +kernel)) ggX3_load_X3_loadOf
theorem dX3_load_0 : decode cX3_load 0 = .ok (.aload_n 0, 1) := by decide +kernel
theorem dX3_load_1 : decode cX3_load 1 = .ok (.aload_n 0, 1) := by decide +kernel
theorem dX3_load_2 : decode cX3_load 2 = .ok (.iload_n 1, 1) := by decide +kernel
theorem dX3_load_3 : decode cX3_load 3 = .ok (.invokevirtual 78, 3) := by decide +kernel
theorem dX3_load_6 : decode cX3_load 6 = .ok (.iconst 1, 1) := by decide +kernel
theorem dX3_load_7 : decode cX3_load 7 = .ok (.iconst 1, 1) := by decide +kernel
theorem dX3_load_8 : decode cX3_load 8 = .ok (.invokevirtual 66, 3) := by decide +kernel
theorem dX3_load_11 : decode cX3_load 11 = .ok (.ifCond .eq 11, 3) := by decide +kernel
theorem dX3_load_14 : decode cX3_load 14 = .ok (.aload_n 0, 1) := by decide +kernel
theorem dX3_load_15 : decode cX3_load 15 = .ok (.iload_n 1, 1) := by decide +kernel
theorem dX3_load_16 : decode cX3_load 16 = .ok (.invokevirtual 81, 3) := by decide +kernel
theorem dX3_load_19 : decode cX3_load 19 = .ok (.goto 4, 3) := by decide +kernel
theorem dX3_load_22 : decode cX3_load 22 = .ok (.iconst 0, 1) := by decide +kernel
theorem dX3_load_23 : decode cX3_load 23 = .ok (.ireturn, 1) := by decide +kernel
theorem dX3_alike_0 : decode cX3_alike 0 = .ok (.iconst 0, 1) := by decide +kernel
theorem dX3_alike_1 : decode cX3_alike 1 = .ok (.istore_n 3, 1) := by decide +kernel
theorem dX3_alike_2 : decode cX3_alike 2 = .ok (.iconst 0, 1) := by decide +kernel
theorem dX3_alike_3 : decode cX3_alike 3 = .ok (.istore 4, 2) := by decide +kernel
theorem dX3_alike_5 : decode cX3_alike 5 = .ok (.iload 4, 2) := by decide +kernel
theorem dX3_alike_7 : decode cX3_alike 7 = .ok (.aload_n 0, 1) := by decide +kernel
theorem dX3_alike_8 : decode cX3_alike 8 = .ok (.getfield 56, 3) := by decide +kernel
theorem dX3_alike_11 : decode cX3_alike 11 = .ok (.if_icmp .ge 47, 3) := by decide +kernel
theorem dX3_alike_14 : decode cX3_alike 14 = .ok (.iload_n 3, 1) := by decide +kernel
theorem dX3_alike_15 : decode cX3_alike 15 = .ok (.aload_n 0, 1) := by decide +kernel
theorem dX3_alike_16 : decode cX3_alike 16 = .ok (.getfield 25, 3) := by decide +kernel
theorem dX3_alike_19 : decode cX3_alike 19 = .ok (.iload 4, 2) := by decide +kernel
theorem dX3_alike_21 : decode cX3_alike 21 = .ok (.iaload, 1) := by decide +kernel
theorem dX3_alike_22 : decode cX3_alike 22 = .ok (.iload_n 1, 1) := by decide +kernel
theorem dX3_alike_23 : decode cX3_alike 23 = .ok (.if_icmp .ne 26, 3) := by decide +kernel
theorem dX3_alike_26 : decode cX3_alike 26 = .ok (.aload_n 0, 1) := by decide +kernel
theorem dX3_alike_27 : decode cX3_alike 27 = .ok (.getfield 19, 3) := by decide +kernel
theorem dX3_alike_30 : decode cX3_alike 30 = .ok (.iload 4, 2) := by decide +kernel
theorem dX3_alike_32 : decode cX3_alike 32 = .ok (.iaload, 1) := by decide +kernel
theorem dX3_alike_33 : decode cX3_alike 33 = .ok (.iconst 1, 1) := by decide +kernel
theorem dX3_alike_34 : decode cX3_alike 34 = .ok (.if_icmp .ne 15, 3) := by decide +kernel
theorem dX3_alike_37 : decode cX3_alike 37 = .ok (.iconst 1, 1) := by decide +kernel
theorem dX3_alike_38 : decode cX3_alike 38 = .ok (.aload_n 0, 1) := by decide +kernel
theorem dX3_alike_39 : decode cX3_alike 39 = .ok (.getfield 28, 3) := by decide +kernel
theorem dX3_alike_42 : decode cX3_alike 42 = .ok (.iload 4, 2) := by decide +kernel
theorem dX3_alike_44 : decode cX3_alike 44 = .ok (.iaload, 1) := by decide +kernel
theorem dX3_alike_45 : decode cX3_alike 45 = .ok (.ishl, 1) := by decide +kernel
theorem dX3_alike_46 : decode cX3_alike 46 = .ok (.goto 4, 3) := by decide +kernel
theorem dX3_alike_49 : decode cX3_alike 49 = .ok (.iconst 0, 1) := by decide +kernel
theorem dX3_alike_50 : decode cX3_alike 50 = .ok (.ior, 1) := by decide +kernel
theorem dX3_alike_51 : decode cX3_alike 51 = .ok (.istore_n 3, 1) := by decide +kernel
theorem dX3_alike_52 : decode cX3_alike 52 = .ok (.iinc 4 1, 3) := by decide +kernel
theorem dX3_alike_55 : decode cX3_alike 55 = .ok (.goto (-50), 3) := by decide +kernel
theorem dX3_alike_58 : decode cX3_alike 58 = .ok (.iconst 0, 1) := by decide +kernel
theorem dX3_alike_59 : decode cX3_alike 59 = .ok (.istore 4, 2) := by decide +kernel
theorem dX3_alike_61 : decode cX3_alike 61 = .ok (.iconst 0, 1) := by decide +kernel
theorem dX3_alike_62 : decode cX3_alike 62 = .ok (.istore 5, 2) := by decide +kernel
theorem dX3_alike_64 : decode cX3_alike 64 = .ok (.iload 5, 2) := by decide +kernel
theorem dX3_alike_66 : decode cX3_alike 66 = .ok (.bipush 10, 2) := by decide +kernel
theorem dX3_alike_68 : decode cX3_alike 68 = .ok (.if_icmp .ge 34, 3) := by decide +kernel
theorem dX3_alike_71 : decode cX3_alike 71 = .ok (.iload 4, 2) := by decide +kernel
theorem dX3_alike_73 : decode cX3_alike 73 = .ok (.iload_n 3, 1) := by decide +kernel
theorem dX3_alike_74 : decode cX3_alike 74 = .ok (.iload 5, 2) := by decide +kernel
theorem dX3_alike_76 : decode cX3_alike 76 = .ok (.ishr, 1) := by decide +kernel
theorem dX3_alike_77 : decode cX3_alike 77 = .ok (.iconst 1, 1) := by decide +kernel
theorem dX3_alike_78 : decode cX3_alike 78 = .ok (.iand, 1) := by decide +kernel
theorem dX3_alike_79 : decode cX3_alike 79 = .ok (.iload_n 2, 1) := by decide +kernel
theorem dX3_alike_80 : decode cX3_alike 80 = .ok (.iload 5, 2) := by decide +kernel
theorem dX3_alike_82 : decode cX3_alike 82 = .ok (.ishr, 1) := by decide +kernel
theorem dX3_alike_83 : decode cX3_alike 83 = .ok (.iconst 1, 1) := by decide +kernel
theorem dX3_alike_84 : decode cX3_alike 84 = .ok (.iand, 1) := by decide +kernel
theorem dX3_alike_85 : decode cX3_alike 85 = .ok (.if_icmp .ne 7, 3) := by decide +kernel
theorem dX3_alike_88 : decode cX3_alike 88 = .ok (.iconst 1, 1) := by decide +kernel
theorem dX3_alike_89 : decode cX3_alike 89 = .ok (.goto 4, 3) := by decide +kernel
theorem dX3_alike_92 : decode cX3_alike 92 = .ok (.iconst 0, 1) := by decide +kernel
theorem dX3_alike_93 : decode cX3_alike 93 = .ok (.iadd, 1) := by decide +kernel
theorem dX3_alike_94 : decode cX3_alike 94 = .ok (.istore 4, 2) := by decide +kernel
theorem dX3_alike_96 : decode cX3_alike 96 = .ok (.iinc 5 1, 3) := by decide +kernel
theorem dX3_alike_99 : decode cX3_alike 99 = .ok (.goto (-35), 3) := by decide +kernel
theorem dX3_alike_102 : decode cX3_alike 102 = .ok (.iload 4, 2) := by decide +kernel
theorem dX3_alike_104 : decode cX3_alike 104 = .ok (.ireturn, 1) := by decide +kernel
set_option maxRecDepth 20000 in
theorem ggX3_likeness_X3_isFloat : GoodIn wsX3_likeness wsX3_isFloat := goodIn_r _ [5, 6, 7, 8, 4, 9, 23, 24, 25, 26, 27, 28, 29, 30, 31, 32, 33, 34, 35, 36, 37, 38, 39, 40, 41, 42, 43, 44] (by decide +kernel) (by decide +kernel)
set_option maxRecDepth 20000 in
theorem gX3_likeness_X3_isFloat : GoodIn wsX3_likeness (wsV RX3 78 RX3 yX3_isFloat wsX3_isFloat) := goodIn_app (goodIn_of _ (by decide +kernel)) ggX3_likeness_X3_isFloat
set_option maxRecDepth 20000 in
theorem ggX3_likeness_X3_in : GoodIn wsX3_likeness wsX3_in := goodIn_r _ [9] (by decide +kernel) (by decide +kernel)
set_option maxRecDepth 20000 in
theorem gX3_likeness_X3_in : GoodIn wsX3_likeness (va_wsS RX3 59 yX3_in wsX3_in) := goodIn_app (goodIn_of _ (by decide +kernel)) ggX3_likeness_X3_in
set_option maxRecDepth 20000 in
theorem ggX3_likeness_X3_goes : GoodIn wsX3_likeness wsX3_goes := goodIn_r _ [13, 14, 23, 24, 25, 26, 27, 28, 29, 30, 31, 32, 33, 34, 35, 36, 37, 38, 39, 40, 41, 42, 43, 44] (by decide +kernel) (by decide +kernel)
set_option maxRecDepth 20000 in
theorem gX3_likeness_X3_goes : GoodIn wsX3_likeness (wsV RX3 66 RX3 yX3_goes wsX3_goes) := goodIn_app (goodIn_of _ (by decide +kernel)) ggX3_likeness_X3_goes
set_option maxRecDepth 20000 in
theorem ggX3_likeness_X3_alike : GoodIn wsX3_likeness wsX3_alike := goodIn_r _ [18, 19, 20, 21, 22, 23, 24, 25, 26, 27, 28, 29, 30, 31, 32, 33, 34, 35, 36, 37, 38, 39, 40, 41, 42, 43, 44] (by decide +kernel) (by decide +kernel)
set_option maxRecDepth 20000 in
theorem gX3_likeness_X3_alike : GoodIn wsX3_likeness (wsV RX3 139 RX3 yX3_alike wsX3_alike) := goodIn_app (goodIn_of _ (by decide +kernel)) ggX3_likeness_X3_alike
theorem dX3_likeness_0 : decode cX3_likeness 0 = .ok (.aload_n 0, 1) := by decide +kernel
theorem dX3_likeness_1 : decode cX3_likeness 1 = .ok (.aload_n 0, 1) := by decide +kernel
theorem dX3_likeness_2 : decode cX3_likeness 2 = .ok (.iload_n 1, 1) := by decide +kernel
theorem dX3_likeness_3 : decode cX3_likeness 3 = .ok (.invokevirtual 78, 3) := by decide +kernel
theorem dX3_likeness_6 : decode cX3_likeness 6 = .ok (.iload_n 2, 1) := by decide +kernel
theorem dX3_likeness_7 : decode cX3_likeness 7 = .ok (.iconst 0, 1) := by decide +kernel
theorem dX3_likeness_8 : decode cX3_likeness 8 = .ok (.sipush 1023, 3) := by decide +kernel
theorem dX3_likeness_11 : decode cX3_likeness 11 = .ok (.invokestatic 59, 3) := by decide +kernel
theorem dX3_likeness_14 : decode cX3_likeness 14 = .ok (.iconst 1, 1) := by decide +kernel
theorem dX3_likeness_15 : decode cX3_likeness 15 = .ok (.invokevirtual 66, 3) := by decide +kernel
theorem dX3_likeness_18 : decode cX3_likeness 18 = .ok (.ifCond .eq 12, 3) := by decide +kernel
theorem dX3_likeness_21 : decode cX3_likeness 21 = .ok (.aload_n 0, 1) := by decide +kernel
theorem dX3_likeness_22 : decode cX3_likeness 22 = .ok (.iload_n 1, 1) := by decide +kernel
theorem dX3_likeness_23 : decode cX3_likeness 23 = .ok (.iload_n 2, 1) := by decide +kernel
theorem dX3_likeness_24 : decode cX3_likeness 24 = .ok (.invokevirtual 139, 3) := by decide +kernel
theorem dX3_likeness_27 : decode cX3_likeness 27 = .ok (.goto 4, 3) := by decide +kernel
theorem dX3_likeness_30 : decode cX3_likeness 30 = .ok (.iconst 0, 1) := by decide +kernel
theorem dX3_likeness_31 : decode cX3_likeness 31 = .ok (.ireturn, 1) := by decide +kernel
set_option maxRecDepth 20000 in
theorem ggX3_prize_X3_in : GoodIn wsX3_prize wsX3_in := goodIn_r _ [7] (by decide +kernel) (by decide +kernel)
set_option maxRecDepth 20000 in
theorem gX3_prize_X3_in : GoodIn wsX3_prize (va_wsS RX3 59 yX3_in wsX3_in) := goodIn_app (goodIn_of _ (by decide +kernel)) ggX3_prize_X3_in
set_option maxRecDepth 20000 in
theorem ggX3_prize_X3_goes : GoodIn wsX3_prize wsX3_goes := goodIn_r _ [11, 12, 21, 22, 23, 24, 25, 26, 27, 28, 29, 30, 31, 32, 33, 34, 35, 36, 37, 38, 39, 40, 41, 42] (by decide +kernel) (by decide +kernel)
set_option maxRecDepth 20000 in
theorem gX3_prize_X3_goes : GoodIn wsX3_prize (wsV RX3 66 RX3 yX3_goes wsX3_goes) := goodIn_app (goodIn_of _ (by decide +kernel)) ggX3_prize_X3_goes
set_option maxRecDepth 20000 in
theorem ggX3_prize_X3_alike : GoodIn wsX3_prize wsX3_alike := goodIn_r _ [16, 17, 18, 19, 20, 21, 22, 23, 24, 25, 26, 27, 28, 29, 30, 31, 32, 33, 34, 35, 36, 37, 38, 39, 40, 41, 42] (by decide +kernel) (by decide +kernel)
set_option maxRecDepth 20000 in
theorem gX3_prize_X3_alike : GoodIn wsX3_prize (wsV RX3 139 RX3 yX3_alike wsX3_alike) := goodIn_app (goodIn_of _ (by decide +kernel)) ggX3_prize_X3_alike
theorem dX3_prize_0 : decode cX3_prize 0 = .ok (.aload_n 0, 1) := by decide +kernel
theorem dX3_prize_1 : decode cX3_prize 1 = .ok (.iload_n 1, 1) := by decide +kernel
theorem dX3_prize_2 : decode cX3_prize 2 = .ok (.iconst 0, 1) := by decide +kernel
theorem dX3_prize_3 : decode cX3_prize 3 = .ok (.sipush 1023, 3) := by decide +kernel
theorem dX3_prize_6 : decode cX3_prize 6 = .ok (.invokestatic 59, 3) := by decide +kernel
theorem dX3_prize_9 : decode cX3_prize 9 = .ok (.iconst 1, 1) := by decide +kernel
theorem dX3_prize_10 : decode cX3_prize 10 = .ok (.iconst 1, 1) := by decide +kernel
theorem dX3_prize_11 : decode cX3_prize 11 = .ok (.invokevirtual 66, 3) := by decide +kernel
theorem dX3_prize_14 : decode cX3_prize 14 = .ok (.ifCond .ne 5, 3) := by decide +kernel
theorem dX3_prize_17 : decode cX3_prize 17 = .ok (.iconst 0, 1) := by decide +kernel
theorem dX3_prize_18 : decode cX3_prize 18 = .ok (.ireturn, 1) := by decide +kernel
theorem dX3_prize_19 : decode cX3_prize 19 = .ok (.iconst (-1), 1) := by decide +kernel
theorem dX3_prize_20 : decode cX3_prize 20 = .ok (.istore_n 2, 1) := by decide +kernel
theorem dX3_prize_21 : decode cX3_prize 21 = .ok (.iconst 0, 1) := by decide +kernel
theorem dX3_prize_22 : decode cX3_prize 22 = .ok (.istore_n 3, 1) := by decide +kernel
theorem dX3_prize_23 : decode cX3_prize 23 = .ok (.iload_n 3, 1) := by decide +kernel
theorem dX3_prize_24 : decode cX3_prize 24 = .ok (.aload_n 0, 1) := by decide +kernel
theorem dX3_prize_25 : decode cX3_prize 25 = .ok (.getfield 108, 3) := by decide +kernel
theorem dX3_prize_28 : decode cX3_prize 28 = .ok (.if_icmp .ge 72, 3) := by decide +kernel
theorem dX3_prize_31 : decode cX3_prize 31 = .ok (.iload_n 2, 1) := by decide +kernel
theorem dX3_prize_32 : decode cX3_prize 32 = .ok (.iconst (-1), 1) := by decide +kernel
theorem dX3_prize_33 : decode cX3_prize 33 = .ok (.if_icmp .eq 23, 3) := by decide +kernel
theorem dX3_prize_36 : decode cX3_prize 36 = .ok (.aload_n 0, 1) := by decide +kernel
theorem dX3_prize_37 : decode cX3_prize 37 = .ok (.aload_n 0, 1) := by decide +kernel
theorem dX3_prize_38 : decode cX3_prize 38 = .ok (.getfield 43, 3) := by decide +kernel
theorem dX3_prize_41 : decode cX3_prize 41 = .ok (.iload_n 3, 1) := by decide +kernel
theorem dX3_prize_42 : decode cX3_prize 42 = .ok (.iaload, 1) := by decide +kernel
theorem dX3_prize_43 : decode cX3_prize 43 = .ok (.iload_n 1, 1) := by decide +kernel
theorem dX3_prize_44 : decode cX3_prize 44 = .ok (.invokevirtual 139, 3) := by decide +kernel
theorem dX3_prize_47 : decode cX3_prize 47 = .ok (.aload_n 0, 1) := by decide +kernel
theorem dX3_prize_48 : decode cX3_prize 48 = .ok (.iload_n 2, 1) := by decide +kernel
theorem dX3_prize_49 : decode cX3_prize 49 = .ok (.iload_n 1, 1) := by decide +kernel
theorem dX3_prize_50 : decode cX3_prize 50 = .ok (.invokevirtual 139, 3) := by decide +kernel
theorem dX3_prize_53 : decode cX3_prize 53 = .ok (.if_icmp .le 7, 3) := by decide +kernel
theorem dX3_prize_56 : decode cX3_prize 56 = .ok (.iconst 1, 1) := by decide +kernel
theorem dX3_prize_57 : decode cX3_prize 57 = .ok (.goto 4, 3) := by decide +kernel
theorem dX3_prize_60 : decode cX3_prize 60 = .ok (.iconst 0, 1) := by decide +kernel
theorem dX3_prize_61 : decode cX3_prize 61 = .ok (.istore 4, 2) := by decide +kernel
theorem dX3_prize_63 : decode cX3_prize 63 = .ok (.aload_n 0, 1) := by decide +kernel
theorem dX3_prize_64 : decode cX3_prize 64 = .ok (.getfield 37, 3) := by decide +kernel
theorem dX3_prize_67 : decode cX3_prize 67 = .ok (.aload_n 0, 1) := by decide +kernel
theorem dX3_prize_68 : decode cX3_prize 68 = .ok (.getfield 43, 3) := by decide +kernel
end
section
theorem dX3_prize_71 : decode cX3_prize 71 = .ok (.iload_n 3, 1) := by decide +kernel
theorem dX3_prize_72 : decode cX3_prize 72 = .ok (.iaload, 1) := by decide +kernel
theorem dX3_prize_73 : decode cX3_prize 73 = .ok (.iaload, 1) := by decide +kernel
theorem dX3_prize_74 : decode cX3_prize 74 = .ok (.iconst 1, 1) := by decide +kernel
theorem dX3_prize_75 : decode cX3_prize 75 = .ok (.if_icmp .ne 17, 3) := by decide +kernel
theorem dX3_prize_78 : decode cX3_prize 78 = .ok (.iload 4, 2) := by decide +kernel
theorem dX3_prize_80 : decode cX3_prize 80 = .ok (.ifCond .eq 12, 3) := by decide +kernel
theorem dX3_prize_83 : decode cX3_prize 83 = .ok (.aload_n 0, 1) := by decide +kernel
theorem dX3_prize_84 : decode cX3_prize 84 = .ok (.getfield 43, 3) := by decide +kernel
theorem dX3_prize_87 : decode cX3_prize 87 = .ok (.iload_n 3, 1) := by decide +kernel
theorem dX3_prize_88 : decode cX3_prize 88 = .ok (.iaload, 1) := by decide +kernel
theorem dX3_prize_89 : decode cX3_prize 89 = .ok (.goto 4, 3) := by decide +kernel
theorem dX3_prize_92 : decode cX3_prize 92 = .ok (.iload_n 2, 1) := by decide +kernel
theorem dX3_prize_93 : decode cX3_prize 93 = .ok (.istore_n 2, 1) := by decide +kernel
theorem dX3_prize_94 : decode cX3_prize 94 = .ok (.iinc 3 1, 3) := by decide +kernel
theorem dX3_prize_97 : decode cX3_prize 97 = .ok (.goto (-74), 3) := by decide +kernel
theorem dX3_prize_100 : decode cX3_prize 100 = .ok (.iload_n 2, 1) := by decide +kernel
theorem dX3_prize_101 : decode cX3_prize 101 = .ok (.ireturn, 1) := by decide +kernel
theorem dJ9_max_7cf53_0 : decode cJ9_max_7cf53 0 = .ok (.iload_n 0, 1) := by decide +kernel
theorem dJ9_max_7cf53_1 : decode cJ9_max_7cf53 1 = .ok (.iload_n 1, 1) := by decide +kernel
theorem dJ9_max_7cf53_2 : decode cJ9_max_7cf53 2 = .ok (.if_icmp .lt 7, 3) := by decide +kernel
theorem dJ9_max_7cf53_5 : decode cJ9_max_7cf53 5 = .ok (.iload_n 0, 1) := by decide +kernel
theorem dJ9_max_7cf53_6 : decode cJ9_max_7cf53 6 = .ok (.goto 4, 3) := by decide +kernel
theorem dJ9_max_7cf53_9 : decode cJ9_max_7cf53 9 = .ok (.iload_n 1, 1) := by decide +kernel
theorem dJ9_max_7cf53_10 : decode cJ9_max_7cf53 10 = .ok (.ireturn, 1) := by decide +kernel
theorem dJ9_min_7cf53_0 : decode cJ9_min_7cf53 0 = .ok (.iload_n 0, 1) := by decide +kernel
theorem dJ9_min_7cf53_1 : decode cJ9_min_7cf53 1 = .ok (.iload_n 1, 1) := by decide +kernel
theorem dJ9_min_7cf53_2 : decode cJ9_min_7cf53 2 = .ok (.if_icmp .gt 7, 3) := by decide +kernel
theorem dJ9_min_7cf53_5 : decode cJ9_min_7cf53 5 = .ok (.iload_n 0, 1) := by decide +kernel
theorem dJ9_min_7cf53_6 : decode cJ9_min_7cf53 6 = .ok (.goto 4, 3) := by decide +kernel
theorem dJ9_min_7cf53_9 : decode cJ9_min_7cf53 9 = .ok (.iload_n 1, 1) := by decide +kernel
theorem dJ9_min_7cf53_10 : decode cJ9_min_7cf53 10 = .ok (.ireturn, 1) := by decide +kernel
abbrev vwCl : List vw_C := [(RX0, TX0, 7), (RX1, TX1, 7), (RX2, TX2, 12), (RX3, TX3, 22)]
end
section
section JL
abbrev St : Type := Nat → Nat → Int32
/-- locals, the first that is listed counts; all of one slot -/
def lget : List (Nat × Value) → Nat → Option Value
  | [], _ => none
  | (j, v) :: r, i => if j = i then some v else lget r i
def lk (ls : Array Slot) (n : Nat) (lv : List (Nat × Value)) : Prop := ls.size = n ∧ lv_wf ls ∧ ∀ (i : Nat) (v : Value), lget lv i = some v → v.category = 1 ∧ ls[i]? = some (.val v)
theorem lget_mem : ∀ {lv : List (Nat × Value)} {i : Nat} {v : Value}, lget lv i = some v → (i, v) ∈ lv
  | [], _, _, h => by cases h
  | (j, w) :: r, i, v, h => by
    unfold lget at h
    split at h
    · next e => cases h; subst e; exact List.mem_cons_self
    · exact List.mem_cons_of_mem _ (lget_mem h)
theorem lk_of {ls : Array Slot} {n : Nat} {lv : List (Nat × Value)} (h : lv_has ls n lv) (hc : ∀ q ∈ lv, q.2.category = 1) : lk ls n lv := ⟨h.1, h.2.1, fun i v hg => ⟨hc _ (lget_mem hg), h.2.2 _ (lget_mem hg)⟩⟩
theorem lk_at {ls : Array Slot} {n : Nat} {lv : List (Nat × Value)} (h : lk ls n lv) {i : Nat} {v : Value} (hg : lget lv i = some v) : ls[i]? = some (.val v) := (h.2.2 i v hg).2
theorem lk_store {ls : Array Slot} {n : Nat} {lv : List (Nat × Value)} {i : Nat} {v : Value} (h : lk ls n lv) (hi : i < n) (hc : v.category = 1) : ∃ ls', storeLocals ls i v = some ls' ∧ lk ls' n ((i, v) :: lv) := by
  obtain ⟨ls', e, h'⟩ := lv_store1 (l := []) (v := v) ⟨h.1, h.2.1, fun q hq => by cases hq⟩ hi hc
  refine ⟨ls', e, h'.1, h'.2.1, fun j w hj => ?_⟩
  unfold lget at hj
  split at hj
  · next e2 => cases hj; subst e2; exact ⟨hc, h'.2.2 _ List.mem_cons_self⟩
  · next e2 =>
    obtain ⟨h1, h2⟩ := h.2.2 j w hj
    refine ⟨h1, ?_⟩
    obtain ⟨ls2, e3, h3⟩ := lv_store1 (l := [(j, w)]) (v := v) ⟨h.1, h.2.1, fun q hq => by rw [List.mem_singleton.mp hq]; exact h2⟩ hi hc
    have e4 : ls2 = ls' := Option.some.inj (e3.symm.trans e)
    subst e4
    refine h3.2.2 (j, w) (List.mem_cons_of_mem _ (List.mem_filter.mpr ⟨List.mem_singleton.mpr rfl, ?_⟩))
    have n1 : ¬ j = i := fun q => e2 q.symm
    simp [n1, h1]
/-- fewer locals -/
def lsub : List (Nat × Value) → List (Nat × Value) → Prop
  | [], _ => True
  | (i, v) :: r, lv => lget lv i = some v ∧ lsub r lv
theorem lsub_get : ∀ {l1 lv : List (Nat × Value)} {i : Nat} {v : Value}, lsub l1 lv → lget l1 i = some v → lget lv i = some v
  | [], _, _, _, _, h => by cases h
  | (j, w) :: r, lv, i, v, hs, h => by
    unfold lget at h
    split at h
    · next e => cases h; subst e; exact hs.1
    · exact lsub_get hs.2 h
theorem lk_sub {ls : Array Slot} {n : Nat} {l1 lv : List (Nat × Value)} (h : lk ls n lv) (hs : lsub l1 lv) : lk ls n l1 := ⟨h.1, h.2.1, fun i v hg => h.2.2 i v (lsub_get hs hg)⟩
/-- the three classes that are thrown -/
def xeE : List String := ["java/lang/IllegalArgumentException", "java/lang/IllegalStateException", "java/lang/IndexOutOfBoundsException"]
def xeS : List (Nat × String) := [(59, "ribs, paper or candle is out of range"), (66, "24 lanterns were made"), (82, "no such slot"), (88, "the slot has a lantern"), (97, "the lantern hangs on a float, or the float is gone"), (107, "the float would have more load than it bears"), (113, "the lantern hangs on no float"), (135, "the lantern cannot be lit"), (140, "the lantern is not lit"), (142, "speed or bears is out of range"), (144, "8 floats were built"), (151, "the float is not ashore, or the last is too near"), (162, "gap or base is out of range"), (164, "minute or strength is out of range"), (166, "minutes is out of range"), (192, "figure is out of range"), (198, "no such lantern"), (200, "no such float")]
/-- what a throw, and a call of a nest mate's private method, need of the start: nothing below B is written -/
def xe (B : Nat) (U : State) : Prop := vx_Zq Bundle.tN "UNASSIGNED_STACK" Bundle.steD (fun q => B ≤ q) U U.heap ∧ vx_Zq Bundle.tN "SUPPRESSED_SENTINEL" Bundle.listD (fun q => B ≤ q) U U.heap ∧ (∀ E ∈ xeE, va_Nw (.castable E E) U) ∧ va_Nw (.methodLinkNest RX1 36 yX2_within RX2) U ∧ va_Nw (.methodLinkNest RX1 73 yX2_nearer RX2) U ∧ (∀ q ∈ xeS, ∃ sa : Nat, vk_R RX2 q.1 q.2 sa U) ∧ va_AO RX0 U ∧ va_AO RX1 U
theorem xe.same {B : Nat} {u U : State} (hv : U.vm = u.vm) (hh : U.heap = u.heap) (h : xe B u) : xe B U := by
  have ha : u.vm.Alike U.vm := by rw [hv]; exact Vm.Alike.refl _
  refine ⟨by rw [hh]; exact vx_Zq.moved ha h.1, by rw [hh]; exact vx_Zq.moved ha h.2.1, fun E hE => va_Nw.same rfl hv.symm (h.2.2.1 E hE), va_Nw.same rfl hv.symm h.2.2.2.1, va_Nw.same rfl hv.symm h.2.2.2.2.1, fun q hq => ?_, h.2.2.2.2.2.2.1.moved ha, h.2.2.2.2.2.2.2.moved ha⟩
  obtain ⟨sa, z⟩ := h.2.2.2.2.2.1 q hq
  exact ⟨sa, vk_R.same hv z⟩
theorem xe.moved {B : Nat} {s U : State} (hW : s.WarmedH U.vm) (hk : ∀ q : Nat, q < s.heap.size → ¬ B ≤ q → U.heap[q]? = s.heap[q]?) (h : xe B s) : xe B U := by
  refine ⟨vx_Zq.moved hW.alike (h.1.kept hk), vx_Zq.moved hW.alike (h.2.1.kept hk), fun E hE => va_Nw.warmC hW (h.2.2.1 E hE), va_Nw.warmM hW h.2.2.2.1, va_Nw.warmM hW h.2.2.2.2.1, fun q hq => ?_, h.2.2.2.2.2.2.1.moved hW.alike, h.2.2.2.2.2.2.2.moved hW.alike⟩
  obtain ⟨sa, z⟩ := h.2.2.2.2.2.1 q hq
  exact ⟨sa, vk_R.warm hW z⟩
/-- the machine at pc with these locals and this stack, in ANY heap that holds the world ws, comes to Q -/
def jj (p : Program) (l : Launch) (e : Env) (R : Room) (s : State) (m : MethodId) (args : Array Value) (below : List Frame) (meth : Method) (c : Code) (Q : State → Prop) (D : va_G) (cl : List vw_C) (tys : List (ClassId × FieldType)) (A : Nat → Prop) (n : Nat) (ws : va_W) (k w pc : Nat) (lv : List (Nat × Value)) (st : List Value) : Prop :=
  ∀ (H : Heap) (locs : List Loc) (ls : Array Slot), va_P D cl ws H → va_D A ws → va_S A s.heap H locs → lk ls n lv → W p l e R s m args below meth c H locs k w Q (F0 m pc ls st)
/-- what holds all along a method -/
def jc (p : Program) (s : State) (m : MethodId) (args : Array Value) (c : Code) (D : va_G) (cl : List vw_C) (tys : List (ClassId × FieldType)) (A : Nat → Prop) (n : Nat) (cc : ByteArray) (own : String) (Ts : List Cond) : Prop :=
  p.tables.exec = Jvm.exec ∧ c.code = cc ∧ c.maxLocals = n ∧ s.vm.findClass own = some m.cls ∧ (∀ w ∈ Ts, w.before args s = true) ∧ va_K D cl tys s ∧ (∀ q, s.heap.size ≤ q → A q) ∧ ∃ B : Nat, B ≤ s.heap.size ∧ (∀ q, A q → B ≤ q) ∧ xe B s
variable {p : Program} {l : Launch} {e : Env} {R : Room} {s : State} {m : MethodId} {args : Array Value} {below : List Frame} {meth : Method} {c : Code} {Q : State → Prop} {D : va_G} {cl : List vw_C} {tys : List (ClassId × FieldType)} {A : Nat → Prop} {n : Nat} {cc : ByteArray} {own : String} {Ts : List Cond} {ws : va_W} {k w pc : Nat} {lv : List (Nat × Value)} {st : List Value}
theorem jj_to {l1 : List (Nat × Value)} (h : jj p l e R s m args below meth c Q D cl tys A n ws k w pc l1 st) (hs : lsub l1 lv) : jj p l e R s m args below meth c Q D cl tys A n ws k w pc lv st := fun H locs ls hP hD hS hl => h H locs ls hP hD hS (lk_sub hl hs)
theorem jj_wide {k1 w1 : Nat} (h1 : k ≤ k1) (h2 : w ≤ w1) (h : jj p l e R s m args below meth c Q D cl tys A n ws k1 w1 pc lv st) : jj p l e R s m args below meth c Q D cl tys A n ws k w pc lv st := fun H locs ls hP hD hS hl => W.widen h1 h2 (h H locs ls hP hD hS hl)
theorem jj_ws {ws1 : va_W} (e1 : ws = ws1) (h : jj p l e R s m args below meth c Q D cl tys A n ws1 k w pc lv st) : jj p l e R s m args below meth c Q D cl tys A n ws k w pc lv st := by subst e1; exact h
theorem j_iconst (h : jc p s m args c D cl tys A n cc own Ts) {x : Int} {v : Int32} (hd : decode cc pc = .ok (.iconst x, 1)) (hv : Int32.ofInt x = v) (kk : jj p l e R s m args below meth c Q D cl tys A n ws k w (pc + 1) lv (.int v :: st)) : jj p l e R s m args below meth c Q D cl tys A n ws k w pc lv (st) := by
  intro H locs ls hP hD hS hl
  exact lv_iconst h.1 h.2.1 hd hv (kk H locs ls hP hD hS hl)
theorem j_bipush (h : jc p s m args c D cl tys A n cc own Ts) {x : Int} {v : Int32} (hd : decode cc pc = .ok (.bipush x, 2)) (hv : (Int8.ofInt x).toInt32 = v) (kk : jj p l e R s m args below meth c Q D cl tys A n ws k w (pc + 2) lv (.int v :: st)) : jj p l e R s m args below meth c Q D cl tys A n ws k w pc lv (st) := by
  intro H locs ls hP hD hS hl
  exact lv_bipush h.1 h.2.1 hd hv (kk H locs ls hP hD hS hl)
theorem j_sipush (h : jc p s m args c D cl tys A n cc own Ts) {x : Int} {v : Int32} (hd : decode cc pc = .ok (.sipush x, 3)) (hv : (Int16.ofInt x).toInt32 = v) (kk : jj p l e R s m args below meth c Q D cl tys A n ws k w (pc + 3) lv (.int v :: st)) : jj p l e R s m args below meth c Q D cl tys A n ws k w pc lv (st) := by
  intro H locs ls hP hD hS hl
  exact lv_sipush h.1 h.2.1 hd hv (kk H locs ls hP hD hS hl)
theorem j_iload_n (h : jc p s m args c D cl tys A n cc own Ts) {i : Fin 4} {x : Int32} (hd : decode cc pc = .ok (.iload_n i, 1)) (hg : lget lv i = some (.int x)) (kk : jj p l e R s m args below meth c Q D cl tys A n ws k w (pc + 1) lv (.int x :: st)) : jj p l e R s m args below meth c Q D cl tys A n ws k w pc lv (st) := by
  intro H locs ls hP hD hS hl
  exact lv_iload_n h.1 h.2.1 hd rfl (lk_at hl hg) (kk H locs ls hP hD hS hl)
theorem j_iload (h : jc p s m args c D cl tys A n cc own Ts) {i : Nat} {x : Int32} (hd : decode cc pc = .ok (.iload i, 2)) (hg : lget lv i = some (.int x)) (kk : jj p l e R s m args below meth c Q D cl tys A n ws k w (pc + 2) lv (.int x :: st)) : jj p l e R s m args below meth c Q D cl tys A n ws k w pc lv (st) := by
  intro H locs ls hP hD hS hl
  exact lv_iload h.1 h.2.1 hd (lk_at hl hg) (kk H locs ls hP hD hS hl)
theorem j_aload_n (h : jc p s m args c D cl tys A n cc own Ts) {i : Fin 4} {v : Value} (hd : decode cc pc = .ok (.aload_n i, 1)) (hg : lget lv i = some v) (hv : v = .null ∨ ∃ a, v = .ref a) (kk : jj p l e R s m args below meth c Q D cl tys A n ws k w (pc + 1) lv (v :: st)) : jj p l e R s m args below meth c Q D cl tys A n ws k w pc lv st := by
  intro H locs ls hP hD hS hl
  rcases hv with rfl | ⟨a, rfl⟩
  · exact lv_aload_nN h.1 h.2.1 hd rfl (lk_at hl hg) (kk H locs ls hP hD hS hl)
  · exact lv_aload_n h.1 h.2.1 hd rfl (lk_at hl hg) (kk H locs ls hP hD hS hl)
theorem j_aload_nR (h : jc p s m args c D cl tys A n cc own Ts) {i : Fin 4} {a : Nat} (hd : decode cc pc = .ok (.aload_n i, 1)) (hg : lget lv i = some (.ref a)) (kk : jj p l e R s m args below meth c Q D cl tys A n ws k w (pc + 1) lv (.ref a :: st)) : jj p l e R s m args below meth c Q D cl tys A n ws k w pc lv st := j_aload_n h hd hg (Or.inr ⟨a, rfl⟩) kk
theorem j_aload (h : jc p s m args c D cl tys A n cc own Ts) {i : Nat} {v : Value} (hd : decode cc pc = .ok (.aload i, 2)) (hg : lget lv i = some v) (hv : v = .null ∨ ∃ a, v = .ref a) (kk : jj p l e R s m args below meth c Q D cl tys A n ws k w (pc + 2) lv (v :: st)) : jj p l e R s m args below meth c Q D cl tys A n ws k w pc lv st := by
  intro H locs ls hP hD hS hl
  rcases hv with rfl | ⟨a, rfl⟩
  · exact lv_aloadN h.1 h.2.1 hd (lk_at hl hg) (kk H locs ls hP hD hS hl)
  · exact lv_aload h.1 h.2.1 hd (lk_at hl hg) (kk H locs ls hP hD hS hl)
theorem j_aloadR (h : jc p s m args c D cl tys A n cc own Ts) {i : Nat} {a : Nat} (hd : decode cc pc = .ok (.aload i, 2)) (hg : lget lv i = some (.ref a)) (kk : jj p l e R s m args below meth c Q D cl tys A n ws k w (pc + 2) lv (.ref a :: st)) : jj p l e R s m args below meth c Q D cl tys A n ws k w pc lv st := j_aload h hd hg (Or.inr ⟨a, rfl⟩) kk
theorem j_iadd (h : jc p s m args c D cl tys A n cc own Ts) {x y : Int32} (hd : decode cc pc = .ok (.iadd, 1)) (kk : jj p l e R s m args below meth c Q D cl tys A n ws k w (pc + 1) lv (.int (x + y) :: st)) : jj p l e R s m args below meth c Q D cl tys A n ws k w pc lv (.int y :: .int x :: st) := by
  intro H locs ls hP hD hS hl
  exact lv_iadd h.1 h.2.1 hd (kk H locs ls hP hD hS hl)
theorem j_isub (h : jc p s m args c D cl tys A n cc own Ts) {x y : Int32} (hd : decode cc pc = .ok (.isub, 1)) (kk : jj p l e R s m args below meth c Q D cl tys A n ws k w (pc + 1) lv (.int (x - y) :: st)) : jj p l e R s m args below meth c Q D cl tys A n ws k w pc lv (.int y :: .int x :: st) := by
  intro H locs ls hP hD hS hl
  exact lv_isub h.1 h.2.1 hd (kk H locs ls hP hD hS hl)
theorem j_imul (h : jc p s m args c D cl tys A n cc own Ts) {x y : Int32} (hd : decode cc pc = .ok (.imul, 1)) (kk : jj p l e R s m args below meth c Q D cl tys A n ws k w (pc + 1) lv (.int (x * y) :: st)) : jj p l e R s m args below meth c Q D cl tys A n ws k w pc lv (.int y :: .int x :: st) := by
  intro H locs ls hP hD hS hl
  exact lv_imul h.1 h.2.1 hd (kk H locs ls hP hD hS hl)
theorem j_iand (h : jc p s m args c D cl tys A n cc own Ts) {x y : Int32} (hd : decode cc pc = .ok (.iand, 1)) (kk : jj p l e R s m args below meth c Q D cl tys A n ws k w (pc + 1) lv (.int (x &&& y) :: st)) : jj p l e R s m args below meth c Q D cl tys A n ws k w pc lv (.int y :: .int x :: st) := by
  intro H locs ls hP hD hS hl
  exact lv_iand h.1 h.2.1 hd (kk H locs ls hP hD hS hl)
theorem j_ior (h : jc p s m args c D cl tys A n cc own Ts) {x y : Int32} (hd : decode cc pc = .ok (.ior, 1)) (kk : jj p l e R s m args below meth c Q D cl tys A n ws k w (pc + 1) lv (.int (x ||| y) :: st)) : jj p l e R s m args below meth c Q D cl tys A n ws k w pc lv (.int y :: .int x :: st) := by
  intro H locs ls hP hD hS hl
  exact lv_ior h.1 h.2.1 hd (kk H locs ls hP hD hS hl)
theorem j_ishl (h : jc p s m args c D cl tys A n cc own Ts) {x y : Int32} (hd : decode cc pc = .ok (.ishl, 1)) (kk : jj p l e R s m args below meth c Q D cl tys A n ws k w (pc + 1) lv (.int (x <<< (y &&& 31)) :: st)) : jj p l e R s m args below meth c Q D cl tys A n ws k w pc lv (.int y :: .int x :: st) := by
  intro H locs ls hP hD hS hl
  exact lv_ishl h.1 h.2.1 hd (kk H locs ls hP hD hS hl)
theorem j_ishr (h : jc p s m args c D cl tys A n cc own Ts) {x y : Int32} (hd : decode cc pc = .ok (.ishr, 1)) (kk : jj p l e R s m args below meth c Q D cl tys A n ws k w (pc + 1) lv (.int (x >>> (y &&& 31)) :: st)) : jj p l e R s m args below meth c Q D cl tys A n ws k w pc lv (.int y :: .int x :: st) := by
  intro H locs ls hP hD hS hl
  exact lv_ishr h.1 h.2.1 hd (kk H locs ls hP hD hS hl)
theorem j_ineg (h : jc p s m args c D cl tys A n cc own Ts) {x : Int32} (hd : decode cc pc = .ok (.ineg, 1)) (kk : jj p l e R s m args below meth c Q D cl tys A n ws k w (pc + 1) lv (.int (-x) :: st)) : jj p l e R s m args below meth c Q D cl tys A n ws k w pc lv (.int x :: st) := by
  intro H locs ls hP hD hS hl
  exact lv_ineg h.1 h.2.1 hd (kk H locs ls hP hD hS hl)
theorem j_idiv (h : jc p s m args c D cl tys A n cc own Ts) {x y : Int32} (hd : decode cc pc = .ok (.idiv, 1)) (hy : y ≠ 0) (kk : jj p l e R s m args below meth c Q D cl tys A n ws k w (pc + 1) lv (.int (x / y) :: st)) : jj p l e R s m args below meth c Q D cl tys A n ws k w pc lv (.int y :: .int x :: st) := by
  intro H locs ls hP hD hS hl
  exact lv_idiv h.1 h.2.1 hd hy (kk H locs ls hP hD hS hl)
theorem j_dup (h : jc p s m args c D cl tys A n cc own Ts) {v : Value} (hd : decode cc pc = .ok (.dup, 1)) (hv : v.category = 1) (kk : jj p l e R s m args below meth c Q D cl tys A n ws k w (pc + 1) lv (v :: v :: st)) : jj p l e R s m args below meth c Q D cl tys A n ws k w pc lv (v :: st) := by
  intro H locs ls hP hD hS hl
  exact lv_dup h.1 h.2.1 hd hv (kk H locs ls hP hD hS hl)
theorem j_pop (h : jc p s m args c D cl tys A n cc own Ts) {v : Value} (hd : decode cc pc = .ok (.pop, 1)) (hv : v.category = 1) (kk : jj p l e R s m args below meth c Q D cl tys A n ws k w (pc + 1) lv (st)) : jj p l e R s m args below meth c Q D cl tys A n ws k w pc lv (v :: st) := by
  intro H locs ls hP hD hS hl
  exact lv_pop h.1 h.2.1 hd hv (kk H locs ls hP hD hS hl)
theorem j_dup_x1 (h : jc p s m args c D cl tys A n cc own Ts) {v u : Value} (hd : decode cc pc = .ok (.dup_x1, 1)) (hv : v.category = 1) (hu : u.category = 1) (kk : jj p l e R s m args below meth c Q D cl tys A n ws k w (pc + 1) lv (v :: u :: v :: st)) : jj p l e R s m args below meth c Q D cl tys A n ws k w pc lv (v :: u :: st) := by
  intro H locs ls hP hD hS hl
  exact lv_dup_x1 h.1 h.2.1 hd hv hu (kk H locs ls hP hD hS hl)
theorem j_dup2 (h : jc p s m args c D cl tys A n cc own Ts) {v u : Value} (hd : decode cc pc = .ok (.dup2, 1)) (hv : v.category = 1) (hu : u.category = 1) (kk : jj p l e R s m args below meth c Q D cl tys A n ws k w (pc + 1) lv (v :: u :: v :: u :: st)) : jj p l e R s m args below meth c Q D cl tys A n ws k w pc lv (v :: u :: st) := by
  intro H locs ls hP hD hS hl
  exact lv_dup2_11 h.1 h.2.1 hd hv hu (kk H locs ls hP hD hS hl)
theorem j_null (h : jc p s m args c D cl tys A n cc own Ts)  (hd : decode cc pc = .ok (.aconst_null, 1)) (kk : jj p l e R s m args below meth c Q D cl tys A n ws k w (pc + 1) lv (.null :: st)) : jj p l e R s m args below meth c Q D cl tys A n ws k w pc lv (st) := by
  intro H locs ls hP hD hS hl
  exact lv_null h.1 h.2.1 hd (kk H locs ls hP hD hS hl)
theorem j_goto (h : jc p s m args c D cl tys A n cc own Ts) {off : Int} {tgt : Nat} (hd : decode cc pc = .ok (.goto off, 3)) (ht : (pc : Int) + off = (tgt : Int)) (kk : jj p l e R s m args below meth c Q D cl tys A n ws k w (tgt) lv (st)) : jj p l e R s m args below meth c Q D cl tys A n ws k w pc lv (st) := by
  intro H locs ls hP hD hS hl
  exact lv_goto h.1 h.2.1 hd ht (kk H locs ls hP hD hS hl)
theorem j_icmp_eq (h : jc p s m args c D cl tys A n cc own Ts) {x y : Int32} {off : Int} {tgt : Nat} (hd : decode cc pc = .ok (.if_icmp .eq off, 3)) (ht : (pc : Int) + off = (tgt : Int)) (kt : x = y → jj p l e R s m args below meth c Q D cl tys A n ws k w tgt lv st) (kf : ¬ x = y → jj p l e R s m args below meth c Q D cl tys A n ws k w (pc + 3) lv st) : jj p l e R s m args below meth c Q D cl tys A n ws k w pc lv (.int y :: .int x :: st) := by
  intro H locs ls hP hD hS hl
  exact lv_icmp_eq h.1 h.2.1 hd ht (fun q => kt q H locs ls hP hD hS hl) (fun q => kf q H locs ls hP hD hS hl)
theorem j_if_eq (h : jc p s m args c D cl tys A n cc own Ts) {x : Int32} {off : Int} {tgt : Nat} (hd : decode cc pc = .ok (.ifCond .eq off, 3)) (ht : (pc : Int) + off = (tgt : Int)) (kt : x = 0 → jj p l e R s m args below meth c Q D cl tys A n ws k w tgt lv st) (kf : ¬ x = 0 → jj p l e R s m args below meth c Q D cl tys A n ws k w (pc + 3) lv st) : jj p l e R s m args below meth c Q D cl tys A n ws k w pc lv (.int x :: st) := by
  intro H locs ls hP hD hS hl
  exact lv_if_eq h.1 h.2.1 hd ht (fun q => kt q H locs ls hP hD hS hl) (fun q => kf q H locs ls hP hD hS hl)
theorem j_icmp_ne (h : jc p s m args c D cl tys A n cc own Ts) {x y : Int32} {off : Int} {tgt : Nat} (hd : decode cc pc = .ok (.if_icmp .ne off, 3)) (ht : (pc : Int) + off = (tgt : Int)) (kt : ¬ x = y → jj p l e R s m args below meth c Q D cl tys A n ws k w tgt lv st) (kf : x = y → jj p l e R s m args below meth c Q D cl tys A n ws k w (pc + 3) lv st) : jj p l e R s m args below meth c Q D cl tys A n ws k w pc lv (.int y :: .int x :: st) := by
  intro H locs ls hP hD hS hl
  exact lv_icmp_ne h.1 h.2.1 hd ht (fun q => kt q H locs ls hP hD hS hl) (fun q => kf q H locs ls hP hD hS hl)
theorem j_if_ne (h : jc p s m args c D cl tys A n cc own Ts) {x : Int32} {off : Int} {tgt : Nat} (hd : decode cc pc = .ok (.ifCond .ne off, 3)) (ht : (pc : Int) + off = (tgt : Int)) (kt : ¬ x = 0 → jj p l e R s m args below meth c Q D cl tys A n ws k w tgt lv st) (kf : x = 0 → jj p l e R s m args below meth c Q D cl tys A n ws k w (pc + 3) lv st) : jj p l e R s m args below meth c Q D cl tys A n ws k w pc lv (.int x :: st) := by
  intro H locs ls hP hD hS hl
  exact lv_if_ne h.1 h.2.1 hd ht (fun q => kt q H locs ls hP hD hS hl) (fun q => kf q H locs ls hP hD hS hl)
theorem j_icmp_lt (h : jc p s m args c D cl tys A n cc own Ts) {x y : Int32} {off : Int} {tgt : Nat} (hd : decode cc pc = .ok (.if_icmp .lt off, 3)) (ht : (pc : Int) + off = (tgt : Int)) (kt : x < y → jj p l e R s m args below meth c Q D cl tys A n ws k w tgt lv st) (kf : ¬ x < y → jj p l e R s m args below meth c Q D cl tys A n ws k w (pc + 3) lv st) : jj p l e R s m args below meth c Q D cl tys A n ws k w pc lv (.int y :: .int x :: st) := by
  intro H locs ls hP hD hS hl
  exact lv_icmp_lt h.1 h.2.1 hd ht (fun q => kt q H locs ls hP hD hS hl) (fun q => kf q H locs ls hP hD hS hl)
theorem j_if_lt (h : jc p s m args c D cl tys A n cc own Ts) {x : Int32} {off : Int} {tgt : Nat} (hd : decode cc pc = .ok (.ifCond .lt off, 3)) (ht : (pc : Int) + off = (tgt : Int)) (kt : x < 0 → jj p l e R s m args below meth c Q D cl tys A n ws k w tgt lv st) (kf : ¬ x < 0 → jj p l e R s m args below meth c Q D cl tys A n ws k w (pc + 3) lv st) : jj p l e R s m args below meth c Q D cl tys A n ws k w pc lv (.int x :: st) := by
  intro H locs ls hP hD hS hl
  exact lv_if_lt h.1 h.2.1 hd ht (fun q => kt q H locs ls hP hD hS hl) (fun q => kf q H locs ls hP hD hS hl)
theorem j_icmp_ge (h : jc p s m args c D cl tys A n cc own Ts) {x y : Int32} {off : Int} {tgt : Nat} (hd : decode cc pc = .ok (.if_icmp .ge off, 3)) (ht : (pc : Int) + off = (tgt : Int)) (kt : y ≤ x → jj p l e R s m args below meth c Q D cl tys A n ws k w tgt lv st) (kf : ¬ y ≤ x → jj p l e R s m args below meth c Q D cl tys A n ws k w (pc + 3) lv st) : jj p l e R s m args below meth c Q D cl tys A n ws k w pc lv (.int y :: .int x :: st) := by
  intro H locs ls hP hD hS hl
  exact lv_icmp_ge h.1 h.2.1 hd ht (fun q => kt q H locs ls hP hD hS hl) (fun q => kf q H locs ls hP hD hS hl)
theorem j_if_ge (h : jc p s m args c D cl tys A n cc own Ts) {x : Int32} {off : Int} {tgt : Nat} (hd : decode cc pc = .ok (.ifCond .ge off, 3)) (ht : (pc : Int) + off = (tgt : Int)) (kt : 0 ≤ x → jj p l e R s m args below meth c Q D cl tys A n ws k w tgt lv st) (kf : ¬ 0 ≤ x → jj p l e R s m args below meth c Q D cl tys A n ws k w (pc + 3) lv st) : jj p l e R s m args below meth c Q D cl tys A n ws k w pc lv (.int x :: st) := by
  intro H locs ls hP hD hS hl
  exact lv_if_ge h.1 h.2.1 hd ht (fun q => kt q H locs ls hP hD hS hl) (fun q => kf q H locs ls hP hD hS hl)
theorem j_icmp_gt (h : jc p s m args c D cl tys A n cc own Ts) {x y : Int32} {off : Int} {tgt : Nat} (hd : decode cc pc = .ok (.if_icmp .gt off, 3)) (ht : (pc : Int) + off = (tgt : Int)) (kt : y < x → jj p l e R s m args below meth c Q D cl tys A n ws k w tgt lv st) (kf : ¬ y < x → jj p l e R s m args below meth c Q D cl tys A n ws k w (pc + 3) lv st) : jj p l e R s m args below meth c Q D cl tys A n ws k w pc lv (.int y :: .int x :: st) := by
  intro H locs ls hP hD hS hl
  exact lv_icmp_gt h.1 h.2.1 hd ht (fun q => kt q H locs ls hP hD hS hl) (fun q => kf q H locs ls hP hD hS hl)
theorem j_if_gt (h : jc p s m args c D cl tys A n cc own Ts) {x : Int32} {off : Int} {tgt : Nat} (hd : decode cc pc = .ok (.ifCond .gt off, 3)) (ht : (pc : Int) + off = (tgt : Int)) (kt : 0 < x → jj p l e R s m args below meth c Q D cl tys A n ws k w tgt lv st) (kf : ¬ 0 < x → jj p l e R s m args below meth c Q D cl tys A n ws k w (pc + 3) lv st) : jj p l e R s m args below meth c Q D cl tys A n ws k w pc lv (.int x :: st) := by
  intro H locs ls hP hD hS hl
  exact lv_if_gt h.1 h.2.1 hd ht (fun q => kt q H locs ls hP hD hS hl) (fun q => kf q H locs ls hP hD hS hl)
theorem j_icmp_le (h : jc p s m args c D cl tys A n cc own Ts) {x y : Int32} {off : Int} {tgt : Nat} (hd : decode cc pc = .ok (.if_icmp .le off, 3)) (ht : (pc : Int) + off = (tgt : Int)) (kt : x ≤ y → jj p l e R s m args below meth c Q D cl tys A n ws k w tgt lv st) (kf : ¬ x ≤ y → jj p l e R s m args below meth c Q D cl tys A n ws k w (pc + 3) lv st) : jj p l e R s m args below meth c Q D cl tys A n ws k w pc lv (.int y :: .int x :: st) := by
  intro H locs ls hP hD hS hl
  exact lv_icmp_le h.1 h.2.1 hd ht (fun q => kt q H locs ls hP hD hS hl) (fun q => kf q H locs ls hP hD hS hl)
theorem j_if_le (h : jc p s m args c D cl tys A n cc own Ts) {x : Int32} {off : Int} {tgt : Nat} (hd : decode cc pc = .ok (.ifCond .le off, 3)) (ht : (pc : Int) + off = (tgt : Int)) (kt : x ≤ 0 → jj p l e R s m args below meth c Q D cl tys A n ws k w tgt lv st) (kf : ¬ x ≤ 0 → jj p l e R s m args below meth c Q D cl tys A n ws k w (pc + 3) lv st) : jj p l e R s m args below meth c Q D cl tys A n ws k w pc lv (.int x :: st) := by
  intro H locs ls hP hD hS hl
  exact lv_if_le h.1 h.2.1 hd ht (fun q => kt q H locs ls hP hD hS hl) (fun q => kf q H locs ls hP hD hS hl)
theorem j_ifnullN (h : jc p s m args c D cl tys A n cc own Ts) {off : Int} {tgt : Nat} (hd : decode cc pc = .ok (.ifnull off, 3)) (ht : (pc : Int) + off = (tgt : Int)) (kk : jj p l e R s m args below meth c Q D cl tys A n ws k w tgt lv st) : jj p l e R s m args below meth c Q D cl tys A n ws k w pc lv (.null :: st) := by
  intro H locs ls hP hD hS hl
  exact lv_ifnullN h.1 h.2.1 hd ht (kk H locs ls hP hD hS hl)
theorem j_ifnonnullR (h : jc p s m args c D cl tys A n cc own Ts) {a : Nat} {off : Int} {tgt : Nat} (hd : decode cc pc = .ok (.ifnonnull off, 3)) (ht : (pc : Int) + off = (tgt : Int)) (kk : jj p l e R s m args below meth c Q D cl tys A n ws k w tgt lv st) : jj p l e R s m args below meth c Q D cl tys A n ws k w pc lv (.ref a :: st) := by
  intro H locs ls hP hD hS hl
  exact lv_ifnonnull h.1 h.2.1 hd ht (kk H locs ls hP hD hS hl)
theorem j_ifnullR (h : jc p s m args c D cl tys A n cc own Ts) {a : Nat} {off : Int} (hd : decode cc pc = .ok (.ifnull off, 3)) (kk : jj p l e R s m args below meth c Q D cl tys A n ws k w (pc + 3) lv st) : jj p l e R s m args below meth c Q D cl tys A n ws k w pc lv (.ref a :: st) := by
  intro H locs ls hP hD hS hl
  exact lv_ifnull h.1 h.2.1 hd (kk H locs ls hP hD hS hl)
theorem j_ifnonnullN (h : jc p s m args c D cl tys A n cc own Ts) {off : Int} (hd : decode cc pc = .ok (.ifnonnull off, 3)) (kk : jj p l e R s m args below meth c Q D cl tys A n ws k w (pc + 3) lv st) : jj p l e R s m args below meth c Q D cl tys A n ws k w pc lv (.null :: st) := by
  intro H locs ls hP hD hS hl
  exact lv_ifnonnullN h.1 h.2.1 hd (kk H locs ls hP hD hS hl)
theorem j_istore_n (h : jc p s m args c D cl tys A n cc own Ts) {i4 : Fin 4} (i : Nat) {x : Int32} (hd : decode cc pc = .ok (.istore_n i4, 1)) (hi4 : (i4 : Nat) = i) (hn : i < n) (kk : jj p l e R s m args below meth c Q D cl tys A n ws k w (pc + 1) ((i, .int x) :: lv) st) : jj p l e R s m args below meth c Q D cl tys A n ws k w pc lv (.int x :: st) := by
  intro H locs ls hP hD hS hl T hT X
  have hexec := h.1
  have hb := h.2.1
  subst hi4
  obtain ⟨ls', e', h'⟩ := lk_store (v := .int x) hl hn rfl
  obtain ⟨t, a, b⟩ := kk H locs ls' hP hD hS h' T hT X
  refine ⟨t, ?_, b⟩
  jvm_step X.here [X.here.top, ↓top_set X.here.top, hexec, hb, hd, e']
  exact a
theorem j_istore (h : jc p s m args c D cl tys A n cc own Ts) {i : Nat} {x : Int32} (hd : decode cc pc = .ok (.istore i, 2)) (hn : i < n) (kk : jj p l e R s m args below meth c Q D cl tys A n ws k w (pc + 2) ((i, .int x) :: lv) st) : jj p l e R s m args below meth c Q D cl tys A n ws k w pc lv (.int x :: st) := by
  intro H locs ls hP hD hS hl T hT X
  have hexec := h.1
  have hb := h.2.1

  obtain ⟨ls', e', h'⟩ := lk_store (v := .int x) hl hn rfl
  obtain ⟨t, a, b⟩ := kk H locs ls' hP hD hS h' T hT X
  refine ⟨t, ?_, b⟩
  jvm_step X.here [X.here.top, ↓top_set X.here.top, hexec, hb, hd, e']
  exact a
theorem j_astore_nR (h : jc p s m args c D cl tys A n cc own Ts) {i4 : Fin 4} (i : Nat) {a : Nat} (hd : decode cc pc = .ok (.astore_n i4, 1)) (hi4 : (i4 : Nat) = i) (hn : i < n) (kk : jj p l e R s m args below meth c Q D cl tys A n ws k w (pc + 1) ((i, .ref a) :: lv) st) : jj p l e R s m args below meth c Q D cl tys A n ws k w pc lv (.ref a :: st) := by
  intro H locs ls hP hD hS hl T hT X
  have hexec := h.1
  have hb := h.2.1
  subst hi4
  obtain ⟨ls', e', h'⟩ := lk_store (v := .ref a) hl hn rfl
  obtain ⟨t, a1, b⟩ := kk H locs ls' hP hD hS h' T hT X
  refine ⟨t, ?_, b⟩
  jvm_step X.here [X.here.top, ↓top_set X.here.top, hexec, hb, hd, e', Value.isRef]
  exact a1
theorem j_astore_nN (h : jc p s m args c D cl tys A n cc own Ts) {i4 : Fin 4} (i : Nat) (hd : decode cc pc = .ok (.astore_n i4, 1)) (hi4 : (i4 : Nat) = i) (hn : i < n) (kk : jj p l e R s m args below meth c Q D cl tys A n ws k w (pc + 1) ((i, .null) :: lv) st) : jj p l e R s m args below meth c Q D cl tys A n ws k w pc lv (.null :: st) := by
  intro H locs ls hP hD hS hl T hT X
  have hexec := h.1
  have hb := h.2.1
  subst hi4
  obtain ⟨ls', e', h'⟩ := lk_store (v := .null) hl hn rfl
  obtain ⟨t, a1, b⟩ := kk H locs ls' hP hD hS h' T hT X
  refine ⟨t, ?_, b⟩
  jvm_step X.here [X.here.top, ↓top_set X.here.top, hexec, hb, hd, e', Value.isRef]
  exact a1
theorem j_astoreR (h : jc p s m args c D cl tys A n cc own Ts) {i : Nat} {a : Nat} (hd : decode cc pc = .ok (.astore i, 2)) (hn : i < n) (kk : jj p l e R s m args below meth c Q D cl tys A n ws k w (pc + 2) ((i, .ref a) :: lv) st) : jj p l e R s m args below meth c Q D cl tys A n ws k w pc lv (.ref a :: st) := by
  intro H locs ls hP hD hS hl T hT X
  have hexec := h.1
  have hb := h.2.1

  obtain ⟨ls', e', h'⟩ := lk_store (v := .ref a) hl hn rfl
  obtain ⟨t, a1, b⟩ := kk H locs ls' hP hD hS h' T hT X
  refine ⟨t, ?_, b⟩
  jvm_step X.here [X.here.top, ↓top_set X.here.top, hexec, hb, hd, e', Value.isRef]
  exact a1
theorem j_astoreN (h : jc p s m args c D cl tys A n cc own Ts) {i : Nat} (hd : decode cc pc = .ok (.astore i, 2)) (hn : i < n) (kk : jj p l e R s m args below meth c Q D cl tys A n ws k w (pc + 2) ((i, .null) :: lv) st) : jj p l e R s m args below meth c Q D cl tys A n ws k w pc lv (.null :: st) := by
  intro H locs ls hP hD hS hl T hT X
  have hexec := h.1
  have hb := h.2.1

  obtain ⟨ls', e', h'⟩ := lk_store (v := .null) hl hn rfl
  obtain ⟨t, a1, b⟩ := kk H locs ls' hP hD hS h' T hT X
  refine ⟨t, ?_, b⟩
  jvm_step X.here [X.here.top, ↓top_set X.here.top, hexec, hb, hd, e', Value.isRef]
  exact a1
theorem j_iinc (h : jc p s m args c D cl tys A n cc own Ts) {i : Nat} {z : Int} {x v : Int32} (hd : decode cc pc = .ok (.iinc i z, 3)) (hg : lget lv i = some (.int x)) (hv : x + Int32.ofInt z = v) (hn : i < n) (kk : jj p l e R s m args below meth c Q D cl tys A n ws k w (pc + 3) ((i, .int v) :: lv) st) : jj p l e R s m args below meth c Q D cl tys A n ws k w pc lv st := by
  intro H locs ls hP hD hS hl T hT X
  have hexec := h.1
  have hb := h.2.1
  subst hv
  have hg' := lk_at hl hg
  obtain ⟨ls', e', h'⟩ := lk_store (v := .int (x + Int32.ofInt z)) hl hn rfl
  obtain ⟨t, a, b⟩ := kk H locs ls' hP hD hS h' T hT X
  refine ⟨t, ?_, b⟩
  jvm_step X.here [X.here.top, ↓top_set X.here.top, hexec, hb, hd, hg', e']
  exact a
theorem j_get (h : jc p s m args c D cl tys A n cc own Ts) {ref C : String} {T : u_T} {N ci index a : Nat} {fs : List Value} {v : Value} (q0 : Nat) (i : Nat) (hd : decode cc pc = .ok (.getfield index, 3)) (hin : ∀ x ∈ u_ws C T N, x ∈ Ts) (hc : cl[ci]? = some (C, T, N)) (hi : i < N) (hlink : Cond.fieldLink own index ref (T i).2.1 (T i).2.2.1 ∈ Ts) (hsame : ∀ x, s.fieldFound? (T i).1 (T i).2.1 (T i).2.2.1 = some x → s.fieldFound? ref (T i).2.1 (T i).2.2.1 = some x) (he : ws[q0]? = some (a, .inr (ci, fs))) (hv : fs[i]? = some v) (kk : jj p l e R s m args below meth c Q D cl tys A n ws k w (pc + 3) lv (v :: st)) : jj p l e R s m args below meth c Q D cl tys A n ws k w pc lv (.ref a :: st) := by
  intro H locs ls hP hD hS hl
  exact va_get h.1 h.2.1 h.2.2.2.2.1 hin h.2.2.2.1 h.2.2.2.2.2.1 hP q0 he hc i hi (h.2.2.2.2.1 _ hlink) hsame hv hd (kk H locs ls hP hD hS hl)
theorem j_put (h : jc p s m args c D cl tys A n cc own Ts) {ref C : String} {T : u_T} {N ci index a : Nat} {fs : List Value} {v : Value} {ty : FieldType} (q0 : Nat) (i : Nat) (ty0 : Nat → FieldType) (hty : ∀ j, j < N → parseFieldDescriptor (T j).2.2.1 = some (ty0 j)) (hnm : ∀ x, x < N → ∀ y, y < N → x ≠ y → (T x).2.1 ≠ (T y).2.1) (hd : decode cc pc = .ok (.putfield index, 3)) (hin : ∀ x ∈ u_ws C T N, x ∈ Ts) (hc : cl[ci]? = some (C, T, N)) (hi : i < N) (hlink : Cond.fieldLink own index ref (T i).2.1 (T i).2.2.1 ∈ Ts) (hsame : ∀ x, s.fieldFound? (T i).1 (T i).2.1 (T i).2.2.1 = some x → s.fieldFound? ref (T i).2.1 (T i).2.2.1 = some x) (hfin : (T i).2.2.2 = false) (hpd : parseFieldDescriptor (T i).2.2.1 = some ty) (hna : narrow ty v = v) (hfit : fits ty v = true) (he : ws[q0]? = some (a, .inr (ci, fs))) (hfl : i < fs.length) (kk : jj p l e R s m args below meth c Q D cl tys A n (ws.set q0 (a, .inr (ci, fs.set i v))) k w (pc + 3) lv st) : jj p l e R s m args below meth c Q D cl tys A n ws k w pc lv (v :: .ref a :: st) := by
  intro H locs ls hP hD hS hl
  exact va_put h.1 h.2.1 h.2.2.2.2.1 hin ty0 hty hnm h.2.2.2.1 h.2.2.2.2.2.1 hP hD hS q0 he hc i hi (h.2.2.2.2.1 _ hlink) hsame hfin hpd hna hfit hfl hd (fun H1 locs1 hP1 hD1 hS1 => kk H1 locs1 ls hP1 hD1 hS1 hl)
theorem j_iald (h : jc p s m args c D cl tys A n cc own Ts) {a : Nat} {cA : ClassId} {z : Nat} {f : Nat → Int32} (q0 t0 : Nat) {i : Int32} (hd : decode cc pc = .ok (.iaload, 1)) (he : ws[q0]? = some (a, .inl (cA, z, .inl f))) (ht : tys[t0]? = some (cA, .int)) (hin : vp_in i z) (kk : jj p l e R s m args below meth c Q D cl tys A n ws k w (pc + 1) lv (.int (f i.toNatClampNeg) :: st)) : jj p l e R s m args below meth c Q D cl tys A n ws k w pc lv (.int i :: .ref a :: st) := by
  intro H locs ls hP hD hS hl
  exact va_iald h.1 h.2.1 h.2.2.2.2.2.1 hP q0 t0 he ht hin hd (kk H locs ls hP hD hS hl)
theorem j_iast (h : jc p s m args c D cl tys A n cc own Ts) {a : Nat} {cA : ClassId} {z : Nat} {f : Nat → Int32} (q0 t0 : Nat) {i x : Int32} (hd : decode cc pc = .ok (.iastore, 1)) (he : ws[q0]? = some (a, .inl (cA, z, .inl f))) (ht : tys[t0]? = some (cA, .int)) (hin : vp_in i z) (kk : jj p l e R s m args below meth c Q D cl tys A n (ws.set q0 (a, .inl (cA, z, .inl (upd f i.toNatClampNeg x)))) k w (pc + 1) lv st) : jj p l e R s m args below meth c Q D cl tys A n ws k w pc lv (.int x :: .int i :: .ref a :: st) := by
  intro H locs ls hP hD hS hl
  exact va_iast h.1 h.2.1 h.2.2.2.2.2.1 hP hD hS q0 t0 he ht hin hd (fun H1 locs1 hP1 hD1 hS1 => kk H1 locs1 ls hP1 hD1 hS1 hl)
theorem j_aaldq (h : jc p s m args c D cl tys A n cc own Ts) {a : Nat} {cA : ClassId} {C : String} {z : Nat} {f : Nat → Option Nat} (q0 t0 : Nat) {i : Int32} (hd : decode cc pc = .ok (.aaload, 1)) (he : ws[q0]? = some (a, .inl (cA, z, .inr (.inr (.inr (.inr f)))))) (ht : tys[t0]? = some (cA, .object C)) (hin : vp_in i z) (kk : jj p l e R s m args below meth c Q D cl tys A n ws k w (pc + 1) lv (va_rf (f i.toNatClampNeg) :: st)) : jj p l e R s m args below meth c Q D cl tys A n ws k w pc lv (.int i :: .ref a :: st) := by
  intro H locs ls hP hD hS hl
  exact va_aldq h.1 h.2.1 h.2.2.2.2.2.1 hP q0 t0 he ht hin hd (kk H locs ls hP hD hS hl)
theorem j_aast (h : jc p s m args c D cl tys A n cc own Ts) {a v : Nat} {cA : ClassId} {r : vw_C} {z ci : Nat} {vs : List Value} {f : Nat → Option Nat} (q0 t0 qk : Nat) {i : Int32} (hd : decode cc pc = .ok (.aastore, 1)) (he : ws[q0]? = some (a, .inl (cA, z, .inr (.inr (.inr (.inr f)))))) (ht : tys[t0]? = some (cA, .object r.1)) (hv : ws[qk]? = some (v, .inr (ci, vs))) (hc : cl[ci]? = some r) (hin : vp_in i z) (kk : jj p l e R s m args below meth c Q D cl tys A n (ws.set q0 (a, .inl (cA, z, .inr (.inr (.inr (.inr (va_up f i.toNatClampNeg (some v)))))))) k w (pc + 1) lv st) : jj p l e R s m args below meth c Q D cl tys A n ws k w pc lv (.ref v :: .int i :: .ref a :: st) := by
  intro H locs ls hP hD hS hl
  exact va_astq h.1 h.2.1 h.2.2.2.2.2.1 hP hD hS q0 t0 qk ci he ht hv hc hin hd (fun H1 locs1 hP1 hD1 hS1 => kk H1 locs1 ls hP1 hD1 hS1 hl)
theorem j_aastN (h : jc p s m args c D cl tys A n cc own Ts) {a : Nat} {cA : ClassId} {C : String} {z : Nat} {f : Nat → Option Nat} (q0 t0 : Nat) {i : Int32} (hd : decode cc pc = .ok (.aastore, 1)) (he : ws[q0]? = some (a, .inl (cA, z, .inr (.inr (.inr (.inr f)))))) (ht : tys[t0]? = some (cA, .object C)) (hin : vp_in i z) (kk : jj p l e R s m args below meth c Q D cl tys A n (ws.set q0 (a, .inl (cA, z, .inr (.inr (.inr (.inr (va_up f i.toNatClampNeg none))))))) k w (pc + 1) lv st) : jj p l e R s m args below meth c Q D cl tys A n ws k w pc lv (.null :: .int i :: .ref a :: st) := by
  intro H locs ls hP hD hS hl
  exact va_astqN h.1 h.2.1 h.2.2.2.2.2.1 hP hD hS q0 t0 he ht hin hd (fun H1 locs1 hP1 hD1 hS1 => kk H1 locs1 ls hP1 hD1 hS1 hl)
theorem j_alen (h : jc p s m args c D cl tys A n cc own Ts) {a : Nat} {cA : ClassId} {x : vp_A} {ty : FieldType} {v : Int32} (q0 t0 : Nat) (hd : decode cc pc = .ok (.arraylength, 1)) (he : ws[q0]? = some (a, .inl (cA, x))) (ht : tys[t0]? = some (cA, ty)) (hv : Int32.ofNat x.1 = v) (kk : jj p l e R s m args below meth c Q D cl tys A n ws k w (pc + 1) lv (.int v :: st)) : jj p l e R s m args below meth c Q D cl tys A n ws k w pc lv (.ref a :: st) := by
  intro H locs ls hP hD hS hl
  exact va_alen h.1 h.2.1 h.2.2.2.2.2.1 hP q0 t0 he ht hv hd (kk H locs ls hP hD hS hl)
theorem j_acmp_eq (h : jc p s m args c D cl tys A n cc own Ts) {a b : Nat} {x y : va_E} (q1 q2 : Nat) {off : Int} {tgt : Nat} (hd : decode cc pc = .ok (.if_acmp .eq off, 3)) (ht : (pc : Int) + off = (tgt : Int)) (h1 : ws[q1]? = some (a, x)) (h2 : ws[q2]? = some (b, y)) (kt : q1 = q2 → jj p l e R s m args below meth c Q D cl tys A n ws k w tgt lv st) (kf : ¬ q1 = q2 → jj p l e R s m args below meth c Q D cl tys A n ws k w (pc + 3) lv st) : jj p l e R s m args below meth c Q D cl tys A n ws k w pc lv (.ref b :: .ref a :: st) := by
  intro H locs ls hP hD hS hl
  have key : (some a = some b) ↔ q1 = q2 := ⟨fun z => hD.1 q1 q2 _ _ h1 h2 (Option.some.inj z), fun z => by subst z; rw [h1] at h2; cases h2; rfl⟩
  exact lv_acmp_eq (rx := some a) (ry := some b) h.1 h.2.1 hd ht (fun z => kt (by first | exact key.mp z | exact fun u => z (key.mpr u)) H locs ls hP hD hS hl) (fun z => kf (by first | exact key.mp z | exact fun u => z (key.mpr u)) H locs ls hP hD hS hl)
theorem j_acmp_ne (h : jc p s m args c D cl tys A n cc own Ts) {a b : Nat} {x y : va_E} (q1 q2 : Nat) {off : Int} {tgt : Nat} (hd : decode cc pc = .ok (.if_acmp .ne off, 3)) (ht : (pc : Int) + off = (tgt : Int)) (h1 : ws[q1]? = some (a, x)) (h2 : ws[q2]? = some (b, y)) (kt : ¬ q1 = q2 → jj p l e R s m args below meth c Q D cl tys A n ws k w tgt lv st) (kf : q1 = q2 → jj p l e R s m args below meth c Q D cl tys A n ws k w (pc + 3) lv st) : jj p l e R s m args below meth c Q D cl tys A n ws k w pc lv (.ref b :: .ref a :: st) := by
  intro H locs ls hP hD hS hl
  have key : (some a = some b) ↔ q1 = q2 := ⟨fun z => hD.1 q1 q2 _ _ h1 h2 (Option.some.inj z), fun z => by subst z; rw [h1] at h2; cases h2; rfl⟩
  exact lv_acmp_ne (rx := some a) (ry := some b) h.1 h.2.1 hd ht (fun z => kt (by first | exact key.mp z | exact fun u => z (key.mpr u)) H locs ls hP hD hS hl) (fun z => kf (by first | exact key.mp z | exact fun u => z (key.mpr u)) H locs ls hP hD hS hl)
/-- contracts of methods that answer in the same world's cells -/
def ctP (D : va_G) (cl : List vw_C) (tys : List (ClassId × FieldType)) (ws : va_W) (B sz : Nat) (U : State) : Prop := U.heap.size = sz ∧ va_P D cl ws U.heap ∧ va_K D cl tys U ∧ va_D (fun q => B ≤ q) ws ∧ B ≤ sz ∧ xe B U
def ctB (D : va_G) (cl : List vw_C) (tys : List (ClassId × FieldType)) (A : Nat → Prop) (ws' : va_W) (t : State) : Prop := va_P D cl ws' t.heap ∧ va_K D cl tys t ∧ va_D A ws'
def ctI (l : Launch) (D : va_G) (cl : List vw_C) (tys : List (ClassId × FieldType)) (y : MethodName) (wd : List Cond) (rm : Room) (av : List Value) (ws : va_W) (post : Int32 → va_W → Prop) (mc ms : Nat) : Prop := ∀ B sz : Nat, Met l y wd rm (va_Pc av (ctP D cl tys ws B sz)) (va_Qi post (ctB D cl tys (va_A ws sz)) (va_A ws sz)) mc ms (va_A ws sz)
def ctV (l : Launch) (D : va_G) (cl : List vw_C) (tys : List (ClassId × FieldType)) (y : MethodName) (wd : List Cond) (rm : Room) (av : List Value) (ws : va_W) (post : va_W → Prop) (mc ms : Nat) : Prop := ∀ B sz : Nat, Met l y wd rm (va_Pc av (ctP D cl tys ws B sz)) (va_Qv post (ctB D cl tys (va_A ws sz)) (va_A ws sz)) mc ms (va_A ws sz)
def ctQ (l : Launch) (D : va_G) (cl : List vw_C) (tys : List (ClassId × FieldType)) (y : MethodName) (wd : List Cond) (rm : Room) (av : List Value) (ws : va_W) (post : Option Nat → va_W → Prop) (mc ms : Nat) : Prop := ∀ B sz : Nat, Met l y wd rm (va_Pc av (ctP D cl tys ws B sz)) (va_Qq post (ctB D cl tys (va_A ws sz)) (va_A ws sz)) mc ms (va_A ws sz)
theorem ctP_blind {av : List Value} {B sz : Nat} : FrameBlind (va_Pc av (ctP D cl tys ws B sz)) := fun a U g mk q => ⟨q.1, q.2.1, q.2.2.1, va_K.moved (u := U) (U := U.calling g mk a) (Vm.Alike.refl U.vm) q.2.2.2.1, q.2.2.2.2.1, q.2.2.2.2.2.1, xe.same (U := U.calling g mk a) rfl rfl q.2.2.2.2.2.2⟩
theorem jA {H0 H : Heap} {locs : List Loc} (hD : va_D A ws) (hS : va_S A H0 H locs) (hA : ∀ q, H0.size ≤ q → A q) : ∀ q, va_A ws H.size q → A q := fun q h => h.elim (fun ⟨k, e, h⟩ => hD.2 k (q, e) h) (fun h => hA q (Nat.le_trans hS.1 h))
theorem jpre {H : Heap} {av : List Value} {B : Nat} {locs : List Loc} (hK : va_K D cl tys s) (hP : va_P D cl ws H) (hD : va_D A ws) (hS : va_S A s.heap H locs) (hB : B ≤ s.heap.size) (hAB : ∀ q, A q → B ≤ q) (hx : xe B s) : ∀ U : State, U.heap = H → s.WarmedH U.vm → va_Pc av (ctP D cl tys ws B H.size) av.toArray U := fun U hU hW => ⟨rfl, by rw [hU], by rw [hU]; exact hP, va_K.moved hW.alike hK, hD.weaken (fun _ q _ z => hAB q.1 z), Nat.le_trans hB hS.1, xe.moved hW (fun q h1 h2 => by rw [hU]; exact hS.2.1 q h1 (fun z => h2 (hAB q z))) hx⟩
theorem j_callVI (h : jc p s m args c D cl tys A n cc own Ts) {vc : vw_C} {b ci : Nat} {fs : List Value} {index maxL mc ms nn : Nat} {y : MethodName} {bytes : ByteArray} {ret : Option FieldType} {wd : List Cond} {rm : Room} {As rest : List Value} {post : Int32 → va_W → Prop} (hd : decode cc pc = .ok (.invokevirtual index, 3)) (hM : ctI l D cl tys y wd rm (.ref b :: As) ws post mc ms) (cw : CallW R s args own vc.1 index y bytes maxL ret wd rm mc ms nn) (q0 : Nat) (hrc : ws[q0]? = some (b, .inr (ci, fs))) (hc : cl[ci]? = some vc) (hn : As.length = nn) (hst : st = As.reverse ++ .ref b :: rest) (hcat : (rest.map fun v => v.category).sum ≤ 8) (hf : k + mc ≤ R.cells ∧ w + ms ≤ R.slots) (kk : ∀ (r : Int32) (u : va_W), post r u → jj p l e R s m args below meth c Q D cl tys A n u (k + mc) (w + ms) (pc + 3) lv (.int r :: rest)) : jj p l e R s m args below meth c Q D cl tys A n ws k w pc lv st := by
  intro H locs ls hP hD hS hl
  have hA := jA hD hS h.2.2.2.2.2.2.1
  obtain ⟨B, hB0, hAB, hxe⟩ := h.2.2.2.2.2.2.2
  refine va_calli (va_runV (As := As) (rest := rest) ⟨h.1, h.2.1, h.2.2.1, h.2.2.2.1, h.2.2.2.2.1⟩ (hM B H.size) cw ⟨ctP_blind, va_recv h.2.2.2.2.2.1 hP (q := vc) hc hrc, jpre h.2.2.2.2.2.1 hP hD hS hB0 hAB hxe⟩ rfl hn hl.1 hst (lv_room hcat) hd hf) hS (fun q _ z => hA q z) hA (fun r u t H1 locs1 ht hvm hw hB hz1 hk1 hS1 => ?_)
  obtain ⟨hP1, hK1, hD1⟩ := hB
  rw [ht] at hP1
  exact kk r u hw H1 locs1 ls hP1 (hD1.weaken (fun _ q _ z => hA q.1 z)) hS1 hl
theorem j_callSI (h : jc p s m args c D cl tys A n cc own Ts) {index maxL mc ms nn : Nat} {y : MethodName} {bytes : ByteArray} {ret : Option FieldType} {wd : List Cond} {rm : Room} {As rest : List Value} {post : Int32 → va_W → Prop} (hd : decode cc pc = .ok (.invokestatic index, 3)) (hM : ctI l D cl tys y wd rm As ws post mc ms) (cw : CallB R s args own index y bytes maxL ret wd rm mc ms nn ∧ (Cond.static y).before args s = true) (hn : As.length = nn) (hst : st = As.reverse ++ rest) (hcat : (rest.map fun v => v.category).sum ≤ 8) (hf : k + mc ≤ R.cells ∧ w + ms ≤ R.slots) (kk : ∀ (r : Int32) (u : va_W), post r u → jj p l e R s m args below meth c Q D cl tys A n u (k + mc) (w + ms) (pc + 3) lv (.int r :: rest)) : jj p l e R s m args below meth c Q D cl tys A n ws k w pc lv st := by
  intro H locs ls hP hD hS hl
  have hA := jA hD hS h.2.2.2.2.2.2.1
  obtain ⟨B, hB0, hAB, hxe⟩ := h.2.2.2.2.2.2.2
  refine va_calli (va_runS (As := As) (rest := rest) ⟨h.1, h.2.1, h.2.2.1, h.2.2.2.1, h.2.2.2.2.1⟩ (hM B H.size) cw ⟨ctP_blind, jpre h.2.2.2.2.2.1 hP hD hS hB0 hAB hxe⟩ rfl hn hl.1 hst (lv_room hcat) hd hf) hS (fun q _ z => hA q z) hA (fun r u t H1 locs1 ht hvm hw hB hz1 hk1 hS1 => ?_)
  obtain ⟨hP1, hK1, hD1⟩ := hB
  rw [ht] at hP1
  exact kk r u hw H1 locs1 ls hP1 (hD1.weaken (fun _ q _ z => hA q.1 z)) hS1 hl
theorem j_callVV (h : jc p s m args c D cl tys A n cc own Ts) {vc : vw_C} {b ci : Nat} {fs : List Value} {index maxL mc ms nn : Nat} {y : MethodName} {bytes : ByteArray} {ret : Option FieldType} {wd : List Cond} {rm : Room} {As rest : List Value} {post : va_W → Prop} (hd : decode cc pc = .ok (.invokevirtual index, 3)) (hM : ctV l D cl tys y wd rm (.ref b :: As) ws post mc ms) (cw : CallW R s args own vc.1 index y bytes maxL ret wd rm mc ms nn) (q0 : Nat) (hrc : ws[q0]? = some (b, .inr (ci, fs))) (hc : cl[ci]? = some vc) (hn : As.length = nn) (hst : st = As.reverse ++ .ref b :: rest) (hcat : (rest.map fun v => v.category).sum ≤ 8) (hf : k + mc ≤ R.cells ∧ w + ms ≤ R.slots) (kk : ∀ (u : va_W), post u → jj p l e R s m args below meth c Q D cl tys A n u (k + mc) (w + ms) (pc + 3) lv (rest)) : jj p l e R s m args below meth c Q D cl tys A n ws k w pc lv st := by
  intro H locs ls hP hD hS hl
  have hA := jA hD hS h.2.2.2.2.2.2.1
  obtain ⟨B, hB0, hAB, hxe⟩ := h.2.2.2.2.2.2.2
  refine va_callv (va_runV (As := As) (rest := rest) ⟨h.1, h.2.1, h.2.2.1, h.2.2.2.1, h.2.2.2.2.1⟩ (hM B H.size) cw ⟨ctP_blind, va_recv h.2.2.2.2.2.1 hP (q := vc) hc hrc, jpre h.2.2.2.2.2.1 hP hD hS hB0 hAB hxe⟩ rfl hn hl.1 hst (lv_room hcat) hd hf) hS (fun q _ z => hA q z) hA (fun u t H1 locs1 ht hvm hw hB hz1 hk1 hS1 => ?_)
  obtain ⟨hP1, hK1, hD1⟩ := hB
  rw [ht] at hP1
  exact kk u hw H1 locs1 ls hP1 (hD1.weaken (fun _ q _ z => hA q.1 z)) hS1 hl
theorem j_callSV (h : jc p s m args c D cl tys A n cc own Ts) {index maxL mc ms nn : Nat} {y : MethodName} {bytes : ByteArray} {ret : Option FieldType} {wd : List Cond} {rm : Room} {As rest : List Value} {post : va_W → Prop} (hd : decode cc pc = .ok (.invokestatic index, 3)) (hM : ctV l D cl tys y wd rm As ws post mc ms) (cw : CallB R s args own index y bytes maxL ret wd rm mc ms nn ∧ (Cond.static y).before args s = true) (hn : As.length = nn) (hst : st = As.reverse ++ rest) (hcat : (rest.map fun v => v.category).sum ≤ 8) (hf : k + mc ≤ R.cells ∧ w + ms ≤ R.slots) (kk : ∀ (u : va_W), post u → jj p l e R s m args below meth c Q D cl tys A n u (k + mc) (w + ms) (pc + 3) lv (rest)) : jj p l e R s m args below meth c Q D cl tys A n ws k w pc lv st := by
  intro H locs ls hP hD hS hl
  have hA := jA hD hS h.2.2.2.2.2.2.1
  obtain ⟨B, hB0, hAB, hxe⟩ := h.2.2.2.2.2.2.2
  refine va_callv (va_runS (As := As) (rest := rest) ⟨h.1, h.2.1, h.2.2.1, h.2.2.2.1, h.2.2.2.2.1⟩ (hM B H.size) cw ⟨ctP_blind, jpre h.2.2.2.2.2.1 hP hD hS hB0 hAB hxe⟩ rfl hn hl.1 hst (lv_room hcat) hd hf) hS (fun q _ z => hA q z) hA (fun u t H1 locs1 ht hvm hw hB hz1 hk1 hS1 => ?_)
  obtain ⟨hP1, hK1, hD1⟩ := hB
  rw [ht] at hP1
  exact kk u hw H1 locs1 ls hP1 (hD1.weaken (fun _ q _ z => hA q.1 z)) hS1 hl
theorem j_callVQ (h : jc p s m args c D cl tys A n cc own Ts) {vc : vw_C} {b ci : Nat} {fs : List Value} {index maxL mc ms nn : Nat} {y : MethodName} {bytes : ByteArray} {ret : Option FieldType} {wd : List Cond} {rm : Room} {As rest : List Value} {post : Option Nat → va_W → Prop} (hd : decode cc pc = .ok (.invokevirtual index, 3)) (hM : ctQ l D cl tys y wd rm (.ref b :: As) ws post mc ms) (cw : CallW R s args own vc.1 index y bytes maxL ret wd rm mc ms nn) (q0 : Nat) (hrc : ws[q0]? = some (b, .inr (ci, fs))) (hc : cl[ci]? = some vc) (hn : As.length = nn) (hst : st = As.reverse ++ .ref b :: rest) (hcat : (rest.map fun v => v.category).sum ≤ 8) (hf : k + mc ≤ R.cells ∧ w + ms ≤ R.slots) (kk : ∀ (r : Option Nat) (u : va_W), post r u → jj p l e R s m args below meth c Q D cl tys A n u (k + mc) (w + ms) (pc + 3) lv (va_rf r :: rest)) : jj p l e R s m args below meth c Q D cl tys A n ws k w pc lv st := by
  intro H locs ls hP hD hS hl
  have hA := jA hD hS h.2.2.2.2.2.2.1
  obtain ⟨B, hB0, hAB, hxe⟩ := h.2.2.2.2.2.2.2
  refine va_callq (va_runV (As := As) (rest := rest) ⟨h.1, h.2.1, h.2.2.1, h.2.2.2.1, h.2.2.2.2.1⟩ (hM B H.size) cw ⟨ctP_blind, va_recv h.2.2.2.2.2.1 hP (q := vc) hc hrc, jpre h.2.2.2.2.2.1 hP hD hS hB0 hAB hxe⟩ rfl hn hl.1 hst (lv_room hcat) hd hf) hS (fun q _ z => hA q z) hA (fun r u t H1 locs1 ht hvm hw hB hz1 hk1 hS1 => ?_)
  obtain ⟨hP1, hK1, hD1⟩ := hB
  rw [ht] at hP1
  exact kk r u hw H1 locs1 ls hP1 (hD1.weaken (fun _ q _ z => hA q.1 z)) hS1 hl
theorem j_callSQ (h : jc p s m args c D cl tys A n cc own Ts) {index maxL mc ms nn : Nat} {y : MethodName} {bytes : ByteArray} {ret : Option FieldType} {wd : List Cond} {rm : Room} {As rest : List Value} {post : Option Nat → va_W → Prop} (hd : decode cc pc = .ok (.invokestatic index, 3)) (hM : ctQ l D cl tys y wd rm As ws post mc ms) (cw : CallB R s args own index y bytes maxL ret wd rm mc ms nn ∧ (Cond.static y).before args s = true) (hn : As.length = nn) (hst : st = As.reverse ++ rest) (hcat : (rest.map fun v => v.category).sum ≤ 8) (hf : k + mc ≤ R.cells ∧ w + ms ≤ R.slots) (kk : ∀ (r : Option Nat) (u : va_W), post r u → jj p l e R s m args below meth c Q D cl tys A n u (k + mc) (w + ms) (pc + 3) lv (va_rf r :: rest)) : jj p l e R s m args below meth c Q D cl tys A n ws k w pc lv st := by
  intro H locs ls hP hD hS hl
  have hA := jA hD hS h.2.2.2.2.2.2.1
  obtain ⟨B, hB0, hAB, hxe⟩ := h.2.2.2.2.2.2.2
  refine va_callq (va_runS (As := As) (rest := rest) ⟨h.1, h.2.1, h.2.2.1, h.2.2.2.1, h.2.2.2.2.1⟩ (hM B H.size) cw ⟨ctP_blind, jpre h.2.2.2.2.2.1 hP hD hS hB0 hAB hxe⟩ rfl hn hl.1 hst (lv_room hcat) hd hf) hS (fun q _ z => hA q z) hA (fun r u t H1 locs1 ht hvm hw hB hz1 hk1 hS1 => ?_)
  obtain ⟨hP1, hK1, hD1⟩ := hB
  rw [ht] at hP1
  exact kk r u hw H1 locs1 ls hP1 (hD1.weaken (fun _ q _ z => hA q.1 z)) hS1 hl
theorem j_iret {ws0 : va_W} {sz mc ms : Nat} {post : Int32 → va_W → Prop} {v : Int32} (h : jc p s m args c D cl tys (va_A ws0 sz) n cc own Ts) (hr : meth.sig.returnType = some .int) (hlk : meth.locks = false) (hd : decode cc pc = .ok (.ireturn, 1)) (hk : k ≤ mc) (hw : w ≤ ms) (hp : post v ws) : jj p l e R s m args below meth c (MQ below (va_Qi post (ctB D cl tys (va_A ws0 sz)) (va_A ws0 sz)) args s mc ms (va_A ws0 sz)) D cl tys (va_A ws0 sz) n ws k w pc lv [.int v] := by
  intro H locs ls hP hD hS hl
  exact W.widen hk hw (W.iret h.1 h.2.1 hr (fun t ht hW => ⟨⟨v, ws, rfl, hp, by rw [ht]; exact hP, va_K.moved hW.alike h.2.2.2.2.2.1, hD⟩, hS.F ht⟩) hS.2.2 hd hlk)
theorem j_zret {ws0 : va_W} {sz mc ms : Nat} {post : Int32 → va_W → Prop} {v : Int32} (h : jc p s m args c D cl tys (va_A ws0 sz) n cc own Ts) (hr : meth.sig.returnType = some .boolean) (hlk : meth.locks = false) (hd : decode cc pc = .ok (.ireturn, 1)) (hv : v = 0 ∨ v = 1) (hk : k ≤ mc) (hw : w ≤ ms) (hp : post v ws) : jj p l e R s m args below meth c (MQ below (va_Qi post (ctB D cl tys (va_A ws0 sz)) (va_A ws0 sz)) args s mc ms (va_A ws0 sz)) D cl tys (va_A ws0 sz) n ws k w pc lv [.int v] := by
  intro H locs ls hP hD hS hl
  exact W.widen hk hw (W.zret h.1 h.2.1 hr (by rcases hv with rfl | rfl <;> rfl) (fun t ht hW => ⟨⟨v, ws, rfl, hp, by rw [ht]; exact hP, va_K.moved hW.alike h.2.2.2.2.2.1, hD⟩, hS.F ht⟩) hS.2.2 hd hlk)
theorem j_vret {ws0 : va_W} {sz mc ms : Nat} {post : va_W → Prop} (h : jc p s m args c D cl tys (va_A ws0 sz) n cc own Ts) (hr : meth.sig.returnType = none) (hlk : meth.locks = false) (hd : decode cc pc = .ok (.return_, 1)) (hk : k ≤ mc) (hw : w ≤ ms) (hp : post ws) : jj p l e R s m args below meth c (MQ below (va_Qv post (ctB D cl tys (va_A ws0 sz)) (va_A ws0 sz)) args s mc ms (va_A ws0 sz)) D cl tys (va_A ws0 sz) n ws k w pc lv [] := by
  intro H locs ls hP hD hS hl
  exact W.widen hk hw (W.vret h.1 h.2.1 hr (fun t ht hW => ⟨⟨ws, rfl, hp, by rw [ht]; exact hP, va_K.moved hW.alike h.2.2.2.2.2.1, hD⟩, hS.F ht⟩) hS.2.2 hd hlk)
theorem j_qret {ws0 : va_W} {sz mc ms : Nat} {post : Option Nat → va_W → Prop} {v : Option Nat} {C : String} (h : jc p s m args c D cl tys (va_A ws0 sz) n cc own Ts) (hr : meth.sig.returnType = some (.object C)) (hlk : meth.locks = false) (hd : decode cc pc = .ok (.areturn, 1)) (hk : k ≤ mc) (hw : w ≤ ms) (hp : post v ws) : jj p l e R s m args below meth c (MQ below (va_Qq post (ctB D cl tys (va_A ws0 sz)) (va_A ws0 sz)) args s mc ms (va_A ws0 sz)) D cl tys (va_A ws0 sz) n ws k w pc lv [va_rf v] := by
  intro H locs ls hP hD hS hl
  exact W.widen hk hw (W.aret h.1 h.2.1 hr (Or.inl ⟨_, rfl⟩) (va_rf_or v) (fun t ht hW => ⟨⟨v, ws, rfl, hp, by rw [ht]; exact hP, va_K.moved hW.alike h.2.2.2.2.2.1, hD⟩, hS.F ht⟩) hS.2.2 hd hlk)
theorem lv_args_in : ∀ {av : List Value} {i : Nat} {q : Nat × Value}, q ∈ lv_args i av → q.2 ∈ av
  | [], _, _, h => by cases h
  | v :: vs, i, q, h => by
    rcases List.mem_cons.mp h with e | h
    · rw [e]; exact List.mem_cons_self
    · exact List.mem_cons_of_mem _ (lv_args_in h)
theorem ctI_of {y : MethodName} {wd ws' : List Cond} {rm : Room} {av : List Value} {ws0 : va_W} {post : Int32 → va_W → Prop} {mc ms maxL : Nat} {ret : Option FieldType} {cc : ByteArray} {own : String} (hy : plainName y.cls = true) (ho : y.cls = own) (hw : wd = Cond.code y cc maxL ret :: ws') (hln : (lg_sl av).length ≤ maxL) (hcat : ∀ v ∈ av, v.category = 1) (lv0 : List (Nat × Value)) (hlv : lv_args 0 av = lv0)
    (body : ∀ (p : Program) (e : Env) (s : State) (m : MethodId) (args : Array Value) (below : List Frame) (meth : Method) (c : Code) (sz : Nat), jc p s m args c D cl tys (va_A ws0 sz) maxL cc own wd → meth.sig.returnType = ret → meth.locks = false → meth.name = y.name → jj p l e (headSpec wd rm).room s m args below meth c (MQ below (va_Qi post (ctB D cl tys (va_A ws0 sz)) (va_A ws0 sz)) args s mc ms (va_A ws0 sz)) D cl tys (va_A ws0 sz) maxL ws0 0 0 0 lv0 []) : ctI l D cl tys y wd rm av ws0 post mc ms := by
  subst hlv
  subst ho
  intro B0 sz
  refine Met.ofW (cc := cc) (maxL := maxL) (ret := ret) hy hw ?_
  intro p e s m args below meth c s₁ B hml hv
  obtain ⟨rfl, hsz, hP, hK, hD0, hBs, hxe⟩ := hv
  subst hsz
  have hl := lv_entry av hln
  rw [lg_entry_eq]
  refine body p e s m av.toArray below meth c s.heap.size ⟨B.exec, B.bytes, hml, findClass_of_methodNamed B.named, atoms_spec (ws := wd) B.pre, hK, fun q hq => Or.inr hq, B0, hBs, fun q z => z.elim (fun ⟨k, e, h⟩ => hD0.2 k (q, e) h) (fun z => Nat.le_trans hBs z), hxe⟩ B.returns B.notSynchronized (name_of_methodNamed B.named B.method).1 s.heap [] _ hP hD0.self va_S.rf (lk_of hl ?_)
  intro q hq
  exact hcat _ (lv_args_in hq)
theorem ctV_of {y : MethodName} {wd ws' : List Cond} {rm : Room} {av : List Value} {ws0 : va_W} {post : va_W → Prop} {mc ms maxL : Nat} {ret : Option FieldType} {cc : ByteArray} {own : String} (hy : plainName y.cls = true) (ho : y.cls = own) (hw : wd = Cond.code y cc maxL ret :: ws') (hln : (lg_sl av).length ≤ maxL) (hcat : ∀ v ∈ av, v.category = 1) (lv0 : List (Nat × Value)) (hlv : lv_args 0 av = lv0)
    (body : ∀ (p : Program) (e : Env) (s : State) (m : MethodId) (args : Array Value) (below : List Frame) (meth : Method) (c : Code) (sz : Nat), jc p s m args c D cl tys (va_A ws0 sz) maxL cc own wd → meth.sig.returnType = ret → meth.locks = false → meth.name = y.name → jj p l e (headSpec wd rm).room s m args below meth c (MQ below (va_Qv post (ctB D cl tys (va_A ws0 sz)) (va_A ws0 sz)) args s mc ms (va_A ws0 sz)) D cl tys (va_A ws0 sz) maxL ws0 0 0 0 lv0 []) : ctV l D cl tys y wd rm av ws0 post mc ms := by
  subst hlv
  subst ho
  intro B0 sz
  refine Met.ofW (cc := cc) (maxL := maxL) (ret := ret) hy hw ?_
  intro p e s m args below meth c s₁ B hml hv
  obtain ⟨rfl, hsz, hP, hK, hD0, hBs, hxe⟩ := hv
  subst hsz
  have hl := lv_entry av hln
  rw [lg_entry_eq]
  refine body p e s m av.toArray below meth c s.heap.size ⟨B.exec, B.bytes, hml, findClass_of_methodNamed B.named, atoms_spec (ws := wd) B.pre, hK, fun q hq => Or.inr hq, B0, hBs, fun q z => z.elim (fun ⟨k, e, h⟩ => hD0.2 k (q, e) h) (fun z => Nat.le_trans hBs z), hxe⟩ B.returns B.notSynchronized (name_of_methodNamed B.named B.method).1 s.heap [] _ hP hD0.self va_S.rf (lk_of hl ?_)
  intro q hq
  exact hcat _ (lv_args_in hq)
theorem ctQ_of {y : MethodName} {wd ws' : List Cond} {rm : Room} {av : List Value} {ws0 : va_W} {post : Option Nat → va_W → Prop} {mc ms maxL : Nat} {ret : Option FieldType} {cc : ByteArray} {own : String} (hy : plainName y.cls = true) (ho : y.cls = own) (hw : wd = Cond.code y cc maxL ret :: ws') (hln : (lg_sl av).length ≤ maxL) (hcat : ∀ v ∈ av, v.category = 1) (lv0 : List (Nat × Value)) (hlv : lv_args 0 av = lv0)
    (body : ∀ (p : Program) (e : Env) (s : State) (m : MethodId) (args : Array Value) (below : List Frame) (meth : Method) (c : Code) (sz : Nat), jc p s m args c D cl tys (va_A ws0 sz) maxL cc own wd → meth.sig.returnType = ret → meth.locks = false → meth.name = y.name → jj p l e (headSpec wd rm).room s m args below meth c (MQ below (va_Qq post (ctB D cl tys (va_A ws0 sz)) (va_A ws0 sz)) args s mc ms (va_A ws0 sz)) D cl tys (va_A ws0 sz) maxL ws0 0 0 0 lv0 []) : ctQ l D cl tys y wd rm av ws0 post mc ms := by
  subst hlv
  subst ho
  intro B0 sz
  refine Met.ofW (cc := cc) (maxL := maxL) (ret := ret) hy hw ?_
  intro p e s m args below meth c s₁ B hml hv
  obtain ⟨rfl, hsz, hP, hK, hD0, hBs, hxe⟩ := hv
  subst hsz
  have hl := lv_entry av hln
  rw [lg_entry_eq]
  refine body p e s m av.toArray below meth c s.heap.size ⟨B.exec, B.bytes, hml, findClass_of_methodNamed B.named, atoms_spec (ws := wd) B.pre, hK, fun q hq => Or.inr hq, B0, hBs, fun q z => z.elim (fun ⟨k, e, h⟩ => hD0.2 k (q, e) h) (fun z => Nat.le_trans hBs z), hxe⟩ B.returns B.notSynchronized (name_of_methodNamed B.named B.method).1 s.heap [] _ hP hD0.self va_S.rf (lk_of hl ?_)
  intro q hq
  exact hcat _ (lv_args_in hq)
theorem j_putF (h : jc p s m args c D cl tys A n cc own Ts) {ref C : String} {T : u_T} {N ci index a : Nat} {fs : List Value} {v : Value} {ty : FieldType} (q0 : Nat) (i : Nat) (ty0 : Nat → FieldType) (hty : ∀ j, j < N → parseFieldDescriptor (T j).2.2.1 = some (ty0 j)) (hnm : ∀ x, x < N → ∀ y, y < N → x ≠ y → (T x).2.1 ≠ (T y).2.1) (hd : decode cc pc = .ok (.putfield index, 3)) (hin : ∀ x ∈ u_ws C T N, x ∈ Ts) (hc : cl[ci]? = some (C, T, N)) (hi : i < N) (hlink : Cond.fieldLink own index ref (T i).2.1 (T i).2.2.1 ∈ Ts) (hsame : ∀ x, s.fieldFound? (T i).1 (T i).2.1 (T i).2.2.1 = some x → s.fieldFound? ref (T i).2.1 (T i).2.2.1 = some x) (hfin : (T i).2.2.2 = true) (hin2 : meth.name = "<init>") (hdecl : (T i).1 = own) (hpd : parseFieldDescriptor (T i).2.2.1 = some ty) (hna : narrow ty v = v) (hfit : fits ty v = true) (he : ws[q0]? = some (a, .inr (ci, fs))) (hfl : i < fs.length) (kk : jj p l e R s m args below meth c Q D cl tys A n (ws.set q0 (a, .inr (ci, fs.set i v))) k w (pc + 3) lv st) : jj p l e R s m args below meth c Q D cl tys A n ws k w pc lv (v :: .ref a :: st) := by
  intro H locs ls hP hD hS hl
  exact va_putF h.1 h.2.1 h.2.2.2.2.1 hin ty0 hty hnm h.2.2.2.1 h.2.2.2.2.2.1 hP hD hS q0 he hc i hi (h.2.2.2.2.1 _ hlink) hsame hfin hin2 hdecl hpd hna hfit hfl hd (fun H1 locs1 hP1 hD1 hS1 => kk H1 locs1 ls hP1 hD1 hS1 hl)
theorem j_objInit (h : jc p s m args c D cl tys A n cc own Ts) {index a : Nat} (hlink : Cond.methodLink own index objectInit ∈ Ts) (hinst : Cond.instanceMethod objectInit ∈ Ts) (hcode : Cond.code objectInit ⟨#[0xb1]⟩ 1 none ∈ Ts) (hd : decode cc pc = .ok (.invokespecial index, 3)) (hfr : 1 ≤ R.frames) (hlo : 2 * 0 + (st.map fun v => v.category).sum + 12 ≤ R.locals) (kk : jj p l e R s m args below meth c Q D cl tys A n ws k w (pc + 3) lv st) : jj p l e R s m args below meth c Q D cl tys A n ws k w pc lv (.ref a :: st) := by
  intro H locs ls hP hD hS hl
  exact W.objInit h.1 h.2.1 h.2.2.2.1 (h.2.2.2.2.1 _ hlink) (h.2.2.2.2.1 _ hinst) (h.2.2.2.2.1 _ hcode) rfl (by rw [h.2.2.1]; exact hl.1) rfl hd hfr hlo (kk H locs ls hP hD hS hl)
theorem jK0 {cA cB : ClassId} {ty : FieldType} {U : State} (h1 : va_RA U cA ty) (h2 : va_RA U cB ty) : cA = cB := by
  cases ty with
  | object C =>
    obtain ⟨_, _, -, -, -, e1⟩ := h1
    obtain ⟨_, _, -, -, -, e2⟩ := h2
    exact Option.some.inj (e1.symm.trans e2)
  | _ => exact Option.some.inj ((show U.vm.findClass _ = some cA from h1).symm.trans h2)
theorem j_newa (h : jc p s m args c D cl tys A n cc own Ts) {atype : ArrayType} {ty : FieldType} (hty : newarray.typeOf atype = ty) (harr : Cond.arrayClass (newarray.typeOf atype) ∈ Ts) (t0 : Nat) {cA : ClassId} (ht : tys[t0]? = some (cA, ty)) {i : Int32} {N' : Nat} {a0 : vp_A} (ha : ∀ cA : ClassId, vp_cell cA a0 = arrV cA N' (fun _ => defaultValue ty)) (hn : ¬ i < 0) (hN : i.toNatClampNeg = N') (hbytes : N' * componentBytes ty ≤ 536870912) (hcells : k + 1 ≤ R.cells) (hslots : w + N' ≤ R.slots) (hd : decode cc pc = .ok (.newarray atype, 2)) (kk : ∀ q : Nat, jj p l e R s m args below meth c Q D cl tys A n (ws ++ [(q, .inl (cA, a0))]) (k + 1) (w + N') (pc + 2) lv (.ref q :: st)) : jj p l e R s m args below meth c Q D cl tys A n ws k w pc lv (.int i :: st) := by
  intro H locs ls hP hD hS hl
  refine va_newa h.1 h.2.1 (h.2.2.2.2.1 _ harr) hty h.2.2.2.2.2.1 hP hD hS h.2.2.2.2.2.2.1 ha hn hN hbytes hcells hslots hd (fun q cB H1 hK1 hP1 hD1 hS1 => ?_)
  obtain rfl : cB = cA := jK0 (hK1.2 tys.length (cB, ty) (by rw [List.getElem?_append_right (Nat.le_refl _), Nat.sub_self]; rfl)).2 (h.2.2.2.2.2.1.2 t0 _ ht).2
  exact kk q H1 locs ls hP1 hD1 hS1 hl
theorem j_newq (h : jc p s m args c D cl tys A n cc own Ts) {C : String} {index : Nat} (hlink : Cond.classLink own index C ∈ Ts) (hover : va_AO C s) (t0 : Nat) {cA : ClassId} (ht : tys[t0]? = some (cA, .object C)) {i : Int32} {N' : Nat} (hn : ¬ i < 0) (hN : i.toNatClampNeg = N') (hbytes : N' * 4 ≤ 536870912) (hcells : k + 1 ≤ R.cells) (hslots : w + N' ≤ R.slots) (hd : decode cc pc = .ok (.anewarray index, 3)) (kk : ∀ q : Nat, jj p l e R s m args below meth c Q D cl tys A n (ws ++ [(q, .inl (cA, N', .inr (.inr (.inr (.inr (fun _ => none))))))]) (k + 1) (w + N') (pc + 3) lv (.ref q :: st)) : jj p l e R s m args below meth c Q D cl tys A n ws k w pc lv (.int i :: st) := by
  intro H locs ls hP hD hS hl
  refine va_newq h.1 h.2.1 h.2.2.2.1 (h.2.2.2.2.1 _ hlink) hover h.2.2.2.2.2.1 hP hD hS h.2.2.2.2.2.2.1 hn hN hbytes hcells hslots hd (fun q cB H1 hK1 hP1 hD1 hS1 => ?_)
  obtain rfl : cB = cA := jK0 (hK1.2 tys.length (cB, .object C) (by rw [List.getElem?_append_right (Nat.le_refl _), Nat.sub_self]; rfl)).2 (h.2.2.2.2.2.1.2 t0 _ ht).2
  exact kk q H1 locs ls hP1 hD1 hS1 hl
theorem j_new (h : jc p s m args c D cl tys A n cc own Ts) {C : String} {T : u_T} {N ci index : Nat} (hin : ∀ x ∈ u_ws C T N, x ∈ Ts) (ty : Nat → FieldType) (hty : ∀ k, k < N → parseFieldDescriptor (T k).2.2.1 = some (ty k)) (hcl : Cond.classLink own index C ∈ Ts) (hinst : Cond.instantiable C N ∈ Ts) (hini : Cond.initialized C ∈ Ts) (hc : cl[ci]? = some (C, T, N)) {fs : List Value} (hfs : ∀ j, j < N → defaultValue (ty j) = vp_V fs j) (hcells : k + 1 ≤ R.cells) (hslots : w + N ≤ R.slots) (hd : decode cc pc = .ok (.new index, 3)) (kk : ∀ q : Nat, jj p l e R s m args below meth c Q D cl tys A n (ws ++ [(q, .inr (ci, fs))]) (k + 1) (w + N) (pc + 3) lv (.ref q :: st)) : jj p l e R s m args below meth c Q D cl tys A n ws k w pc lv st := by
  intro H locs ls hP hD hS hl
  exact va_new h.1 h.2.1 h.2.2.2.2.1 hin ty hty h.2.2.2.1 (h.2.2.2.2.1 _ hcl) (h.2.2.2.2.1 _ hinst) (h.2.2.2.2.1 _ hini) h.2.2.2.2.2.1 hP hD hS h.2.2.2.2.2.2.1 hc hfs hcells hslots hd (fun q H1 hP1 hD1 hS1 => kk q H1 locs ls hP1 hD1 hS1 hl)
/-- the frame rule: a callee that has the last part of the world -/
theorem jframe {A0 : Nat → Prop} {D : va_G} {cl : List vw_C} {wr wc w1 : va_W} {H H1 : Heap} (hP : va_P D cl (wr ++ wc) H) (hD : va_D A0 (wr ++ wc)) (hk : ∀ q : Nat, q < H.size → ¬ va_A wc H.size q → H1[q]? = H[q]?) (hF : ∀ q, va_A wc H.size q → A0 q) (hP1 : va_P D cl w1 H1) (hD1 : va_D (va_A wc H.size) w1) : va_P D cl (wr ++ w1) H1 ∧ va_D A0 (wr ++ w1) := by
  have hl : ∀ (i : Nat) (q : Nat × va_E), wr[i]? = some q → (wr ++ wc)[i]? = some q := fun i q h => by rw [List.getElem?_append_left (List.getElem?_eq_some_iff.mp h).1]; exact h
  have hr : ∀ (i : Nat) (q : Nat × va_E), wc[i]? = some q → (wr ++ wc)[wr.length + i]? = some q := fun i q h => by rw [List.getElem?_append_right (by omega), Nat.add_sub_cancel_left]; exact h
  have apart : ∀ (i : Nat) (q : Nat × va_E), wr[i]? = some q → q.1 < H.size ∧ ¬ va_A wc H.size q.1 := by
    intro i q h
    have h1 := (hP i q (hl i q h)).lt
    refine ⟨h1, fun z => ?_⟩
    rcases z with ⟨j, e, z⟩ | z
    · have h2 := hD.1 i (wr.length + j) q (q.1, e) (hl i q h) (hr j _ z) rfl
      have h3 := (List.getElem?_eq_some_iff.mp h).1
      omega
    · omega
  have hDr : va_D A0 wr := ⟨fun i j x y hx hy e => hD.1 i j x y (hl i x hx) (hl j y hy) e, fun i q h => hD.2 i q (hl i q h)⟩
  refine ⟨va_P.app (fun i q h => ?_) hP1, va_D.app hDr (hD1.weaken (fun i q _ z => hF q.1 z)) (fun i j x y hx hy e => ?_)⟩
  · obtain ⟨g1, g2⟩ := apart i q h
    exact (hP i q (hl i q h)).kept (hk q.1 g1 g2)
  · exact (apart i x hx).2 (by rw [e]; exact hD1.2 j y hy)
theorem jsubP {D : va_G} {cl : List vw_C} {wr wc : va_W} {H : Heap} (hP : va_P D cl (wr ++ wc) H) : va_P D cl wc H := fun i q h => hP (wr.length + i) q (by rw [List.getElem?_append_right (by omega), Nat.add_sub_cancel_left]; exact h)
theorem jsubD {A : Nat → Prop} {wr wc : va_W} (hD : va_D A (wr ++ wc)) : va_D A wc := ⟨fun i j x y hx hy e => by
    have := hD.1 (wr.length + i) (wr.length + j) x y (by rw [List.getElem?_append_right (by omega), Nat.add_sub_cancel_left]; exact hx) (by rw [List.getElem?_append_right (by omega), Nat.add_sub_cancel_left]; exact hy) e
    omega, fun i q h => hD.2 (wr.length + i) q (by rw [List.getElem?_append_right (by omega), Nat.add_sub_cancel_left]; exact h)⟩
theorem j_callIF (h : jc p s m args c D cl tys A n cc own Ts) {b : Nat} {wr wc : va_W} {index maxL mc ms nn : Nat} {y : MethodName} {bytes : ByteArray} {wd : List Cond} {rm : Room} {As rest : List Value} {post : va_W → Prop} (hd : decode cc pc = .ok (.invokespecial index, 3)) (hM : ctV l D cl tys y wd rm (.ref b :: As) wc post mc ms) (cw : CallB R s args own index y bytes maxL none wd rm mc ms nn ∧ y.name = "<init>" ∧ (Cond.instanceMethod y).before args s = true) (hn : As.length = nn) (hst : st = As.reverse ++ .ref b :: rest) (hcat : (rest.map fun v => v.category).sum ≤ 8) (hf : k + mc ≤ R.cells ∧ w + ms ≤ R.slots) (kk : ∀ u : va_W, post u → jj p l e R s m args below meth c Q D cl tys A n (wr ++ u) (k + mc) (w + ms) (pc + 3) lv rest) : jj p l e R s m args below meth c Q D cl tys A n (wr ++ wc) k w pc lv st := by
  intro H locs ls hP hD hS hl
  have hPc := jsubP hP
  have hDc := jsubD hD
  have hA := jA hDc hS h.2.2.2.2.2.2.1
  obtain ⟨B, hB0, hAB, hxe⟩ := h.2.2.2.2.2.2.2
  refine va_callv (va_runI (As := As) (rest := rest) ⟨h.1, h.2.1, h.2.2.1, h.2.2.2.1, h.2.2.2.2.1⟩ (hM B H.size) cw ⟨ctP_blind, jpre h.2.2.2.2.2.1 hPc hDc hS hB0 hAB hxe⟩ rfl hn hl.1 hst (lv_room hcat) hd hf) hS (fun q _ z => hA q z) hA (fun u t H1 locs1 ht hvm hw hB hz1 hk1 hS1 => ?_)
  obtain ⟨hP1, hK1, hD1⟩ := hB
  rw [ht] at hP1
  obtain ⟨hP2, hD2⟩ := jframe hP hD hk1 hA hP1 hD1
  exact kk u hw H1 locs1 ls hP2 hD2 hS1 hl
theorem jj_cut (pcJ : Nat) (lvJ : List (Nat × Value)) (stJ : List Value) (I : Int32 → Prop) (hj : ∀ v : Int32, I v → jj p l e R s m args below meth c Q D cl tys A n ws k w pcJ lvJ (.int v :: stJ)) (kk : (∀ v : Int32, I v → ∀ lv' : List (Nat × Value), lsub lvJ lv' → jj p l e R s m args below meth c Q D cl tys A n ws k w pcJ lv' (.int v :: stJ)) → jj p l e R s m args below meth c Q D cl tys A n ws k w pc lv st) : jj p l e R s m args below meth c Q D cl tys A n ws k w pc lv st := kk (fun v hv lv' hl => jj_to (hj v hv) hl)
theorem jj_loop {σ : Type} (lvf : σ → List (Nat × Value)) (wsf : σ → va_W) (I : σ → Prop) (μ : σ → Nat) (s0 : σ) (hlv : lsub (lvf s0) lv) (hws : ws = wsf s0) (h0 : I s0)
    (hs : ∀ x : σ, I x → (∀ y : σ, I y → μ y < μ x → ∀ lv' : List (Nat × Value), lsub (lvf y) lv' → jj p l e R s m args below meth c Q D cl tys A n (wsf y) k w pc lv' st) → jj p l e R s m args below meth c Q D cl tys A n (wsf x) k w pc (lvf x) st) : jj p l e R s m args below meth c Q D cl tys A n ws k w pc lv st := by
  subst hws
  have key : ∀ (b : Nat) (x : σ), μ x < b → I x → jj p l e R s m args below meth c Q D cl tys A n (wsf x) k w pc (lvf x) st := by
    intro b
    induction b with
    | zero => intro x hx; omega
    | succ b ih => exact fun x hx hi => hs x hi (fun y hy hm lv' hl' => jj_to (ih y (by omega) hy) hl')
  exact jj_to (key _ s0 (Nat.lt_succ_self _) h0) hlv
end JL
end
section
/-! numbers of the model and of the class, by field and place: f j k -/
def up2 (f : St) (j k : Nat) (v : Int32) : St := fun a b => if a = j then (if b = k then v else f a b) else f a b
theorem up2_self (f : St) (j k : Nat) (v : Int32) : up2 f j k v j k = v := by simp [up2]
theorem up2_fld (f : St) {j a : Nat} (k : Nat) (v : Int32) (h : a ≠ j) : up2 f j k v a = f a := by funext b; simp [up2, h]
theorem up2_ne (f : St) (j : Nat) {k b : Nat} (v : Int32) (h : b ≠ k) : up2 f j k v j b = f j b := by simp [up2, h]
def bi (b : Bool) : Int32 := if b = true then 1 else 0
theorem bi_t : bi true = 1 := rfl
theorem bi_f : bi false = 0 := rfl
theorem bi_or (b : Bool) : bi b = 0 ∨ bi b = 1 := by cases b <;> simp [bi]
theorem bi_0 {b : Bool} : bi b = 0 ↔ b = false := by cases b <;> simp [bi]
theorem bi_n0 {b : Bool} : ¬ bi b = 0 ↔ b = true := by cases b <;> simp [bi]
theorem bi_dec {c : Prop} [Decidable c] : bi (decide c) = if c then 1 else 0 := by by_cases h : c <;> simp [bi, h]
/-- the number of the exception that a call of the model throws -/
def gl (a b c : Int32) : Int32 := if a = 0 then 1 else if b = 0 then 2 else if c = 0 then 3 else 0
def inB (v a b : Int32) : Bool := decide (a ≤ v ∧ v ≤ b)
def pl (f : St) (k : Nat) : Int32 := f 11 (f 5 k).toNatClampNeg - f 6 k
def ds (f : St) (j k : Nat) : Int32 := if pl f j - pl f k < 0 then -(pl f j - pl f k) else pl f j - pl f k
def wt (f : St) (k : Nat) : Int32 := 20 * f 0 k + 30 * f 1 k + 50 * f 2 k
def ldS (f : St) (x : Int32) : Nat → Int32
  | 0 => 0
  | k + 1 => ldS f x k + (if f 5 k = x then wt f k else 0)
def tkB (f : St) (x s : Int32) : Nat → Bool
  | 0 => false
  | k + 1 => tkB f x s k || (decide (f 5 k = x) && decide (f 6 k = s))
def hpB (f : St) (k : Nat) : Bool := decide (f 5 k ≠ -1) && decide (f 10 (f 5 k).toNatClampNeg = 1)
def nearT (f : St) (x k : Nat) : Bool := decide (k ≠ x) && decide (f 3 k = 1) && decide (ds f k x < f 2 k + f 2 x + f 16 0)
def nearB (f : St) (x : Nat) : Nat → Bool
  | 0 => false
  | k + 1 => nearB f x k || nearT f x k
def ltS (f : St) : Nat → Int32
  | 0 => 0
  | k + 1 => ltS f k + (if f 3 k = 1 then 1 else 0)
def afS (f : St) : Nat → Int32
  | 0 => 0
  | k + 1 => afS f k + (if f 10 k = 1 then 1 else 0)
def rmS (f : St) : Nat → Int32
  | 0 => -1
  | i + 1 => if f 10 (f 12 i).toNatClampNeg = 1 then f 12 i else rmS f i
theorem rmS_in {f : St} {q : Nat} (ho : ∀ i, i < q → ∃ r, r < 8 ∧ f 12 i = nI r) : rmS f q = -1 ∨ ∃ r, r < 8 ∧ rmS f q = nI r := by
  induction q with
  | zero => exact Or.inl rfl
  | succ q ih =>
    unfold rmS
    split
    · exact Or.inr (ho q (by omega))
    · exact ih (fun i hi => ho i (by omega))
def setS (f : St) (x : Int32) : Nat → Int32
  | 0 => 0
  | k + 1 => setS f x k ||| (if f 5 k = x ∧ f 3 k = 1 then 1 <<< (f 6 k &&& 31) else 0)
def alS (a b : Int32) : Nat → Int32
  | 0 => 0
  | k + 1 => alS a b k + (if (a >>> (nI k &&& 31)) &&& 1 = (b >>> (nI k &&& 31)) &&& 1 then 1 else 0)
def lkS (f : St) (n : Nat) (x g : Int32) : Int32 := alS (setS f x n) g 10
def prS (f : St) (n : Nat) (g : Int32) : Nat → Int32
  | 0 => -1
  | i + 1 => if f 10 (f 12 i).toNatClampNeg = 1 ∧ (prS f n g i = -1 ∨ lkS f n (prS f n g i) g < lkS f n (f 12 i) g) then f 12 i else prS f n g i
theorem prS_t {f : St} {n : Nat} {g : Int32} {i : Nat} (h1 : f 10 (f 12 i).toNatClampNeg = 1) (h2 : prS f n g i = -1 ∨ lkS f n (prS f n g i) g < lkS f n (f 12 i) g) : prS f n g (i + 1) = f 12 i := by rw [prS, if_pos ⟨h1, h2⟩]
theorem prS_f1 {f : St} {n : Nat} {g : Int32} {i : Nat} (h1 : ¬ f 10 (f 12 i).toNatClampNeg = 1) : prS f n g (i + 1) = prS f n g i := by rw [prS, if_neg (fun z => h1 z.1)]
theorem prS_f2 {f : St} {n : Nat} {g : Int32} {i : Nat} (h2 : ¬ (prS f n g i = -1 ∨ lkS f n (prS f n g i) g < lkS f n (f 12 i) g)) : prS f n g (i + 1) = prS f n g i := by rw [prS, if_neg (fun z => h2 z.2)]
def nrS (f : St) (x : Nat) : Nat → Int32
  | 0 => -1
  | k + 1 => if k ≠ x ∧ f 3 k = 1 then (if nrS f x k = -1 ∨ ds f k x < nrS f x k then ds f k x else nrS f x k) else nrS f x k
def isL (f : St) (x : Int32) : Bool := inB x 0 (f 7 0 - 1)
def isF (f : St) (x : Int32) : Bool := inB x 0 (f 14 0 - 1)
theorem gl_iff {A B C : Bool} : gl (bi A) (bi B) (bi C) = 0 ↔ A = true ∧ B = true ∧ C = true := by cases A <;> cases B <;> cases C <;> decide
theorem gl_1 {A : Bool} : gl (bi A) 1 1 = 0 ↔ A = true := by cases A <;> decide
theorem gl_2 {A B : Bool} : gl (bi A) (bi B) 1 = 0 ↔ A = true ∧ B = true := by cases A <;> cases B <;> decide
theorem inB_iff {v a b : Int32} : inB v a b = true ↔ a ≤ v ∧ v ≤ b := by simp [inB]
theorem inB_ix {x : Int32} {n : Nat} (hn : n < 2 ^ 30) (h : inB x 0 (nI n - 1) = true) : ∃ a, a < n ∧ x = nI a := by
  obtain ⟨h1, h2⟩ := inB_iff.mp h
  obtain ⟨j, hj, rfl⟩ := nI_of (Int32.not_lt.mpr h1)
  refine ⟨j, ?_, rfl⟩
  rw [Int32.le_iff_toInt_le, nI_toInt hj, show nI n - 1 = nI n - nI 1 from rfl, pk_sub_toInt (by omega) (by decide)] at h2
  omega
theorem ix_inB {a n : Nat} (hn : n < 2 ^ 30) (h : a < n) : inB (nI a) 0 (nI n - 1) = true := by
  refine inB_iff.mpr ⟨nI_pos' (by omega), ?_⟩
  rw [Int32.le_iff_toInt_le, nI_toInt (by omega), show nI n - 1 = nI n - nI 1 from rfl, pk_sub_toInt (by omega) (by decide)]
  omega
theorem inB_1 {x : Int32} {m : Nat} (hm : m < 2 ^ 30) (h : inB x 1 (nI m) = true) : ∃ a, 1 ≤ a ∧ a ≤ m ∧ x = nI a := by
  obtain ⟨h1, h2⟩ := inB_iff.mp h
  have h0 : ¬ x < 0 := fun z => by
    have e1 := Int32.lt_iff_toInt_lt.mp z
    have e2 := Int32.le_iff_toInt_le.mp h1
    have e3 : (1 : Int32).toInt = 1 := rfl
    have e4 : (0 : Int32).toInt = 0 := rfl
    omega
  obtain ⟨j, hj, rfl⟩ := nI_of h0
  refine ⟨j, ?_, (nI_leI (by omega) (by omega)).mp h2, rfl⟩
  exact (nI_leI (a := 1) (by decide) hj).mp h1
theorem pk_addsub (x y : Int32) : x + y - y = x := by simp
def tL (f : St) (x : Int32) : Int32 := gl (bi (isL f x)) 1 1
def tF (f : St) (x : Int32) : Int32 := gl (bi (isF f x)) 1 1
def tMake (f : St) (a b c : Int32) : Int32 := gl (bi (inB a 4 12 && inB b 0 3 && inB c 1 4)) (bi (decide (f 7 0 < 24))) 1
def okHang (f : St) (n : Nat) (l r s : Int32) : Bool := (isL f l && isF f r && inB s 0 9) && decide (f 5 l.toNatClampNeg = -1) && decide (f 10 r.toNatClampNeg ≠ 2) && decide (ldS f r n + wt f l.toNatClampNeg ≤ f 9 r.toNatClampNeg)
def tHang (f : St) (n : Nat) (l r s : Int32) : Int32 := gl (bi (isL f l && isF f r && inB s 0 9)) (bi ((isL f l && isF f r && inB s 0 9) && !tkB f r s n)) (bi (okHang f n l r s))
def tTake (f : St) (l : Int32) : Int32 := gl (bi (isL f l)) (bi (isL f l && decide (f 5 l.toNatClampNeg ≠ -1))) 1
def tLight (f : St) (n : Nat) (l : Int32) : Int32 := gl (bi (isL f l)) (bi (isL f l && hpB f l.toNatClampNeg && decide (f 3 l.toNatClampNeg = 0) && !nearB f l.toNatClampNeg n)) 1
def tPutOut (f : St) (l : Int32) : Int32 := gl (bi (isL f l)) (bi (isL f l && decide (f 3 l.toNatClampNeg = 1))) 1
def tBuild (f : St) (a b : Int32) : Int32 := gl (bi (inB a 1 9 && inB b 100 9999)) (bi (decide (f 14 0 < 8))) 1
def tLaunch (f : St) (q : Nat) (r : Int32) : Int32 := gl (bi (isF f r)) (bi (isF f r && decide (f 10 r.toNatClampNeg = 0) && (decide (rmS f q = -1) || decide (9 + f 15 0 ≤ f 11 (rmS f q).toNatClampNeg - 9)))) 1
def tRules (a b : Int32) : Int32 := gl (bi (inB a 1 20 && inB b 0 9)) 1 1
def tGust (a b : Int32) : Int32 := gl (bi (inB a 1 400 && inB b 0 9)) 1 1
def tPass (a : Int32) : Int32 := gl (bi (inB a 1 60)) 1 1
def tLike (f : St) (r g : Int32) : Int32 := gl (bi (isF f r)) (bi (inB g 0 1023)) 1
def tPrize (g : Int32) : Int32 := gl (bi (inB g 0 1023)) 1 1
def dkF (f : St) (k : Nat) : St := up2 f 3 k (if f 3 k = 2 then 2 else 0)
/-! a minute -/
def moveF (g : St) (a : Int32) (r : Nat) : Int32 :=
  if g 11 r < (if g 11 r + g 8 r < (if a = -1 then g 11 r + g 8 r else g 11 a.toNatClampNeg - 9 - g 15 0) then g 11 r + g 8 r else (if a = -1 then g 11 r + g 8 r else g 11 a.toNatClampNeg - 9 - g 15 0)) then (if g 11 r + g 8 r < (if a = -1 then g 11 r + g 8 r else g 11 a.toNatClampNeg - 9 - g 15 0) then g 11 r + g 8 r else (if a = -1 then g 11 r + g 8 r else g 11 a.toNatClampNeg - 9 - g 15 0)) else g 11 r
def mvF (f : St) : Nat → St × Int32
  | 0 => (f, -1)
  | i + 1 => if f 10 (f 12 i).toNatClampNeg = 1 then (up2 (mvF f i).1 11 (f 12 i).toNatClampNeg (moveF (mvF f i).1 (mvF f i).2 (f 12 i).toNatClampNeg), f 12 i) else mvF f i
theorem mvF_s {f : St} {i : Nat} (h : f 10 (f 12 i).toNatClampNeg = 1) : mvF f (i + 1) = (up2 (mvF f i).1 11 (f 12 i).toNatClampNeg (moveF (mvF f i).1 (mvF f i).2 (f 12 i).toNatClampNeg), f 12 i) := by rw [mvF, if_pos h]
theorem mvF_n {f : St} {i : Nat} (h : ¬ f 10 (f 12 i).toNatClampNeg = 1) : mvF f (i + 1) = mvF f i := by rw [mvF, if_neg h]
theorem mvF_k (f : St) (i : Nat) {k : Nat} (h : k ≠ 11) : (mvF f i).1 k = f k := by
  induction i with
  | zero => rfl
  | succ i ih =>
    rw [mvF]
    split
    · show up2 (mvF f i).1 11 _ _ k = f k
      rw [up2_fld _ _ _ h]; exact ih
    · exact ih
theorem mvF_in {f : St} {q i : Nat} (ho : ∀ i, i < q → ∃ r, r < 8 ∧ f 12 i = nI r) (hi : i ≤ q) : (mvF f i).2 = -1 ∨ ∃ r, r < 8 ∧ (mvF f i).2 = nI r := by
  induction i with
  | zero => exact Or.inl rfl
  | succ i ih =>
    rw [mvF]
    split
    · exact Or.inr (ho i (by omega))
    · exact ih (by omega)
def dkL (g : St) (x : Int32) : Nat → St
  | 0 => g
  | j + 1 => if g 5 j = x then dkF (dkL g x j) j else dkL g x j
def gnF (g : St) (n : Nat) : Nat → St
  | 0 => g
  | k + 1 => if (gnF g n k) 10 k = 1 ∧ 500 ≤ (gnF g n k) 11 k then dkL (up2 (gnF g n k) 10 k 2) (nI k) n else gnF g n k
def blF (g : St) (gu : Int32) : Nat → St
  | 0 => g
  | k + 1 => if (blF g gu k) 3 k = 1 ∧ (blF g gu k) 1 k + (blF g gu k) 0 k / 3 < gu then up2 (up2 (blF g gu k) 3 k 0) 19 0 ((blF g gu k) 19 0 + 1) else blF g gu k
def buF (g : St) : Nat → St
  | 0 => g
  | k + 1 => if (buF g k) 3 k = 1 then up2 (up2 (buF g k) 4 k ((buF g k) 4 k - 1)) 3 k (if (buF g k) 4 k - 1 = 0 then 2 else 1) else buF g k
def maF (g : St) : Nat → St
  | 0 => g
  | k + 1 => if (maF g k) 3 k = 1 ∧ nearB (maF g k) k k = true then up2 (up2 (maF g k) 3 k 0) 20 0 ((maF g k) 20 0 + 1) else maF g k
def guF (f : St) (tm : Nat) : Int32 := if tm ≤ 400 then f 17 tm else 0
def brF (f : St) (n tm : Nat) : St := maF (buF (blF f (guF f tm) n) n) n
def fmF (f : St) (n b q : Nat) : St := gnF (mvF f q).1 n b
def minF (f : St) (n b q tm : Nat) : St := brF (fmF (up2 f 18 0 (nI (tm + 1))) n b q) n (tm + 1)
def passF (f : St) (n b q tm : Nat) : Nat → St
  | 0 => f
  | k + 1 => minF (passF f n b q tm k) n b q (tm + k)
/-- lit ones were lit, hanging ones hang as they did, the numbers of things stay -/
def dec (g f : St) : Prop := (∀ k, g 3 k = 1 → f 3 k = 1) ∧ g 5 = f 5 ∧ g 7 = f 7 ∧ g 14 = f 14 ∧ g 13 = f 13 ∧ g 12 = f 12 ∧ g 6 = f 6 ∧ g 0 = f 0 ∧ g 1 = f 1 ∧ g 2 = f 2 ∧ g 8 = f 8 ∧ g 9 = f 9 ∧ g 15 = f 15 ∧ g 16 = f 16 ∧ g 17 = f 17
theorem dec.rf (f : St) : dec f f := ⟨fun _ h => h, rfl, rfl, rfl, rfl, rfl, rfl, rfl, rfl, rfl, rfl, rfl, rfl, rfl, rfl⟩
theorem dec.tr {h g f : St} (a : dec h g) (b : dec g f) : dec h f := ⟨fun k z => b.1 k (a.1 k z), a.2.1.trans b.2.1, a.2.2.1.trans b.2.2.1, a.2.2.2.1.trans b.2.2.2.1, a.2.2.2.2.1.trans b.2.2.2.2.1, a.2.2.2.2.2.1.trans b.2.2.2.2.2.1, a.2.2.2.2.2.2.1.trans b.2.2.2.2.2.2.1, a.2.2.2.2.2.2.2.1.trans b.2.2.2.2.2.2.2.1, a.2.2.2.2.2.2.2.2.1.trans b.2.2.2.2.2.2.2.2.1, a.2.2.2.2.2.2.2.2.2.1.trans b.2.2.2.2.2.2.2.2.2.1, a.2.2.2.2.2.2.2.2.2.2.1.trans b.2.2.2.2.2.2.2.2.2.2.1, a.2.2.2.2.2.2.2.2.2.2.2.1.trans b.2.2.2.2.2.2.2.2.2.2.2.1, a.2.2.2.2.2.2.2.2.2.2.2.2.1.trans b.2.2.2.2.2.2.2.2.2.2.2.2.1, a.2.2.2.2.2.2.2.2.2.2.2.2.2.1.trans b.2.2.2.2.2.2.2.2.2.2.2.2.2.1, a.2.2.2.2.2.2.2.2.2.2.2.2.2.2.trans b.2.2.2.2.2.2.2.2.2.2.2.2.2.2⟩
theorem dec.up (f : St) {j : Nat} (k : Nat) (v : Int32) (hj : j = 4 ∨ j = 10 ∨ j = 11 ∨ j = 18 ∨ j = 19 ∨ j = 20) : dec (up2 f j k v) f := by
  have key : ∀ a, a ≠ j → up2 f j k v a = f a := fun a h => up2_fld f k v h
  refine ⟨fun x h => by rw [key 3 (by omega)] at h; exact h, key _ (by omega), key _ (by omega), key _ (by omega), key _ (by omega), key _ (by omega), key _ (by omega), key _ (by omega), key _ (by omega), key _ (by omega), key _ (by omega), key _ (by omega), key _ (by omega), key _ (by omega), key _ (by omega)⟩
theorem dec.up3 (f : St) (k : Nat) (v : Int32) (hv : v = 1 → f 3 k = 1) : dec (up2 f 3 k v) f := by
  refine ⟨fun x h => ?_, rfl, rfl, rfl, rfl, rfl, rfl, rfl, rfl, rfl, rfl, rfl, rfl, rfl, rfl⟩
  by_cases hx : x = k
  · subst hx; rw [up2_self] at h; exact hv h
  · rw [up2_ne _ _ _ hx] at h; exact h
theorem dec.dk (f : St) (k : Nat) : dec (dkF f k) f := dec.up3 f k _ (fun h => by split at h <;> exact absurd h (by decide))
theorem dec.dkl (g : St) (x : Int32) (j : Nat) : dec (dkL g x j) g := by
  induction j with
  | zero => exact dec.rf g
  | succ j ih => rw [dkL]; split; exact (dec.dk _ _).tr ih; exact ih
theorem dec.gn (g : St) (n k : Nat) : dec (gnF g n k) g := by
  induction k with
  | zero => exact dec.rf g
  | succ k ih => rw [gnF]; split; exact ((dec.dkl _ _ _).tr (dec.up _ _ _ (by omega))).tr ih; exact ih
theorem dec.mv (f : St) (i : Nat) : dec (mvF f i).1 f := by
  induction i with
  | zero => exact dec.rf f
  | succ i ih => rw [mvF]; split; exact (dec.up _ _ _ (by omega)).tr ih; exact ih
theorem dec.bl (g : St) (gu : Int32) (k : Nat) : dec (blF g gu k) g := by
  induction k with
  | zero => exact dec.rf g
  | succ k ih => rw [blF]; split; exact ((dec.up _ _ _ (by omega)).tr (dec.up3 _ _ _ (fun h => absurd h (by decide)))).tr ih; exact ih
theorem dec.bu (g : St) (k : Nat) : dec (buF g k) g := by
  induction k with
  | zero => exact dec.rf g
  | succ k ih => 
    rw [buF]; split
    next h => exact ((dec.up3 _ _ _ (fun _ => by rw [up2_fld _ _ _ (by decide)]; exact h)).tr (dec.up _ _ _ (by omega))).tr ih
    exact ih
theorem dec.ma (g : St) (k : Nat) : dec (maF g k) g := by
  induction k with
  | zero => exact dec.rf g
  | succ k ih => rw [maF]; split; exact ((dec.up _ _ _ (by omega)).tr (dec.up3 _ _ _ (fun h => absurd h (by decide)))).tr ih; exact ih
theorem dec.br (f : St) (n tm : Nat) : dec (brF f n tm) f := (dec.ma _ _).tr ((dec.bu _ _).tr (dec.bl _ _ _))
theorem dec.fm (f : St) (n b q : Nat) : dec (fmF f n b q) f := (dec.gn _ _ _).tr (dec.mv _ _)
theorem dec.min (f : St) (n b q tm : Nat) : dec (minF f n b q tm) f := (dec.br _ _ _).tr ((dec.fm _ _ _ _).tr (dec.up _ _ _ (by omega)))
theorem dec.pass (f : St) (n b q tm k : Nat) : dec (passF f n b q tm k) f := by
  induction k with
  | zero => exact dec.rf f
  | succ k ih => exact (dec.min _ _ _ _ _).tr ih
/-- lit ones hang on a float -/
def LT (f : St) (n : Nat) : Prop := ∀ k, k < n → f 3 k = 1 → ∃ r, r < 8 ∧ f 5 k = nI r
theorem LT.dec {g f : St} {n : Nat} (h : LT f n) (d : dec g f) : LT g n := fun k hk z => by rw [d.2.1]; exact h k hk (d.1 k z)
/-- the time passes in the first step of a minute alone -/
theorem k18_dkL (g : St) (x : Int32) (j : Nat) : dkL g x j 18 = g 18 := by
  induction j with
  | zero => rfl
  | succ j ih => rw [dkL]; split; exact ih; exact ih
theorem k18_gn (g : St) (n k : Nat) : gnF g n k 18 = g 18 := by
  induction k with
  | zero => rfl
  | succ k ih => rw [gnF]; split; rw [k18_dkL]; exact ih; exact ih
theorem k18_bl (g : St) (gu : Int32) (k : Nat) : blF g gu k 18 = g 18 := by
  induction k with
  | zero => rfl
  | succ k ih => rw [blF]; split; exact ih; exact ih
theorem k18_bu (g : St) (k : Nat) : buF g k 18 = g 18 := by
  induction k with
  | zero => rfl
  | succ k ih => rw [buF]; split; exact ih; exact ih
theorem k18_ma (g : St) (k : Nat) : maF g k 18 = g 18 := by
  induction k with
  | zero => rfl
  | succ k ih => rw [maF]; split; exact ih; exact ih
theorem k18_min (f : St) (n b q tm : Nat) : minF f n b q tm 18 0 = nI (tm + 1) := by
  simp only [minF, brF, fmF]
  rw [k18_ma, k18_bu, k18_bl, k18_gn, mvF_k _ _ (by decide)]
  rfl
theorem k18_pass {f : St} {n b q tm : Nat} (h : f 18 0 = nI tm) (k : Nat) : passF f n b q tm k 18 0 = nI (tm + k) := by
  cases k with
  | zero => exact h
  | succ k => exact k18_min _ _ _ _ _
end
section
section MW
abbrev tyW (cI cL cR : ClassId) : List (ClassId × FieldType) := [(cI, .int), (cL, .object "Festoon$Lantern"), (cR, .object "Festoon$Raft")]
def wM (cI : ClassId) (ad : Nat → Nat) (f : St) (t : Int32) : va_W := [(ad 0, .inr (3, [.ref (ad 1), .ref (ad 2), .ref (ad 3), .ref (ad 4), .ref (ad 5), .ref (ad 6), .ref (ad 7), .int (f 7 0), .ref (ad 8), .ref (ad 9), .ref (ad 10), .ref (ad 11), .ref (ad 12), .int (f 13 0), .int (f 14 0), .int (f 15 0), .int (f 16 0), .ref (ad 13), .int (f 18 0), .int (f 19 0), .int (f 20 0), .int t])), (ad 1, .inl (cI, 24, .inl (f 0))), (ad 2, .inl (cI, 24, .inl (f 1))), (ad 3, .inl (cI, 24, .inl (f 2))), (ad 4, .inl (cI, 24, .inl (f 3))), (ad 5, .inl (cI, 24, .inl (f 4))), (ad 6, .inl (cI, 24, .inl (f 5))), (ad 7, .inl (cI, 24, .inl (f 6))), (ad 8, .inl (cI, 8, .inl (f 8))), (ad 9, .inl (cI, 8, .inl (f 9))), (ad 10, .inl (cI, 8, .inl (f 10))), (ad 11, .inl (cI, 8, .inl (f 11))), (ad 12, .inl (cI, 8, .inl (f 12))), (ad 13, .inl (cI, 401, .inl (f 17)))]
variable {p : Program} {l : Launch} {e : Env} {R : Room} {s : State} {m : MethodId} {args : Array Value} {below : List Frame} {meth : Method} {c : Code} {Q : State → Prop} {D : va_G} {cI cL cR : ClassId} {A : Nat → Prop} {n : Nat} {cc : ByteArray} {Ts : List Cond} {k w pc : Nat} {lv : List (Nat × Value)} {st : List Value} {ad : Nat → Nat} {f : St} {t : Int32}

theorem m_get0 (h : jc p s m args c D vwCl (tyW cI cL cR) A n cc RX3 Ts) (hin : ∀ x ∈ wsX30, x ∈ Ts) (hlink : Cond.fieldLink RX3 7 "FestoonModel" "ribs" "[I" ∈ Ts) (hd : decode cc pc = .ok (.getfield 7, 3)) (kk : jj p l e R s m args below meth c Q D vwCl (tyW cI cL cR) A n (wM cI ad f t) k w (pc + 3) lv (.ref (ad 1) :: st)) : jj p l e R s m args below meth c Q D vwCl (tyW cI cL cR) A n (wM cI ad f t) k w pc lv (.ref (ad 0) :: st) := j_get (ref := "FestoonModel") h 0 0 hd hin rfl (by decide) hlink (fun _ h9 => h9) rfl rfl kk
theorem m_ald0 {i : Int32} {b : Nat} (h : jc p s m args c D vwCl (tyW cI cL cR) A n cc RX3 Ts) (hd : decode cc pc = .ok (.iaload, 1)) (hi : i = nI b) (hb : b < 24) (kk : jj p l e R s m args below meth c Q D vwCl (tyW cI cL cR) A n (wM cI ad f t) k w (pc + 1) lv (.int (f 0 b) :: st)) : jj p l e R s m args below meth c Q D vwCl (tyW cI cL cR) A n (wM cI ad f t) k w pc lv (.int i :: .ref (ad 1) :: st) := by
  subst hi
  refine j_iald h 1 0 hd rfl rfl (vp_in_nI hb (by decide)) ?_
  rw [nI_clamp (by omega)]
  exact kk
theorem m_ast0 {i v : Int32} {b : Nat} (h : jc p s m args c D vwCl (tyW cI cL cR) A n cc RX3 Ts) (hd : decode cc pc = .ok (.iastore, 1)) (hi : i = nI b) (hb : b < 24) (kk : jj p l e R s m args below meth c Q D vwCl (tyW cI cL cR) A n (wM cI ad (up2 f 0 b v) t) k w (pc + 1) lv st) : jj p l e R s m args below meth c Q D vwCl (tyW cI cL cR) A n (wM cI ad f t) k w pc lv (.int v :: .int i :: .ref (ad 1) :: st) := by
  subst hi
  refine j_iast h 1 0 hd rfl rfl (vp_in_nI hb (by decide)) ?_
  rw [nI_clamp (by omega)]
  exact kk
theorem m_get1 (h : jc p s m args c D vwCl (tyW cI cL cR) A n cc RX3 Ts) (hin : ∀ x ∈ wsX30, x ∈ Ts) (hlink : Cond.fieldLink RX3 13 "FestoonModel" "papers" "[I" ∈ Ts) (hd : decode cc pc = .ok (.getfield 13, 3)) (kk : jj p l e R s m args below meth c Q D vwCl (tyW cI cL cR) A n (wM cI ad f t) k w (pc + 3) lv (.ref (ad 2) :: st)) : jj p l e R s m args below meth c Q D vwCl (tyW cI cL cR) A n (wM cI ad f t) k w pc lv (.ref (ad 0) :: st) := j_get (ref := "FestoonModel") h 0 1 hd hin rfl (by decide) hlink (fun _ h9 => h9) rfl rfl kk
theorem m_ald1 {i : Int32} {b : Nat} (h : jc p s m args c D vwCl (tyW cI cL cR) A n cc RX3 Ts) (hd : decode cc pc = .ok (.iaload, 1)) (hi : i = nI b) (hb : b < 24) (kk : jj p l e R s m args below meth c Q D vwCl (tyW cI cL cR) A n (wM cI ad f t) k w (pc + 1) lv (.int (f 1 b) :: st)) : jj p l e R s m args below meth c Q D vwCl (tyW cI cL cR) A n (wM cI ad f t) k w pc lv (.int i :: .ref (ad 2) :: st) := by
  subst hi
  refine j_iald h 2 0 hd rfl rfl (vp_in_nI hb (by decide)) ?_
  rw [nI_clamp (by omega)]
  exact kk
theorem m_ast1 {i v : Int32} {b : Nat} (h : jc p s m args c D vwCl (tyW cI cL cR) A n cc RX3 Ts) (hd : decode cc pc = .ok (.iastore, 1)) (hi : i = nI b) (hb : b < 24) (kk : jj p l e R s m args below meth c Q D vwCl (tyW cI cL cR) A n (wM cI ad (up2 f 1 b v) t) k w (pc + 1) lv st) : jj p l e R s m args below meth c Q D vwCl (tyW cI cL cR) A n (wM cI ad f t) k w pc lv (.int v :: .int i :: .ref (ad 2) :: st) := by
  subst hi
  refine j_iast h 2 0 hd rfl rfl (vp_in_nI hb (by decide)) ?_
  rw [nI_clamp (by omega)]
  exact kk
theorem m_get2 (h : jc p s m args c D vwCl (tyW cI cL cR) A n cc RX3 Ts) (hin : ∀ x ∈ wsX30, x ∈ Ts) (hlink : Cond.fieldLink RX3 16 "FestoonModel" "candles" "[I" ∈ Ts) (hd : decode cc pc = .ok (.getfield 16, 3)) (kk : jj p l e R s m args below meth c Q D vwCl (tyW cI cL cR) A n (wM cI ad f t) k w (pc + 3) lv (.ref (ad 3) :: st)) : jj p l e R s m args below meth c Q D vwCl (tyW cI cL cR) A n (wM cI ad f t) k w pc lv (.ref (ad 0) :: st) := j_get (ref := "FestoonModel") h 0 2 hd hin rfl (by decide) hlink (fun _ h9 => h9) rfl rfl kk
theorem m_ald2 {i : Int32} {b : Nat} (h : jc p s m args c D vwCl (tyW cI cL cR) A n cc RX3 Ts) (hd : decode cc pc = .ok (.iaload, 1)) (hi : i = nI b) (hb : b < 24) (kk : jj p l e R s m args below meth c Q D vwCl (tyW cI cL cR) A n (wM cI ad f t) k w (pc + 1) lv (.int (f 2 b) :: st)) : jj p l e R s m args below meth c Q D vwCl (tyW cI cL cR) A n (wM cI ad f t) k w pc lv (.int i :: .ref (ad 3) :: st) := by
  subst hi
  refine j_iald h 3 0 hd rfl rfl (vp_in_nI hb (by decide)) ?_
  rw [nI_clamp (by omega)]
  exact kk
theorem m_ast2 {i v : Int32} {b : Nat} (h : jc p s m args c D vwCl (tyW cI cL cR) A n cc RX3 Ts) (hd : decode cc pc = .ok (.iastore, 1)) (hi : i = nI b) (hb : b < 24) (kk : jj p l e R s m args below meth c Q D vwCl (tyW cI cL cR) A n (wM cI ad (up2 f 2 b v) t) k w (pc + 1) lv st) : jj p l e R s m args below meth c Q D vwCl (tyW cI cL cR) A n (wM cI ad f t) k w pc lv (.int v :: .int i :: .ref (ad 3) :: st) := by
  subst hi
  refine j_iast h 3 0 hd rfl rfl (vp_in_nI hb (by decide)) ?_
  rw [nI_clamp (by omega)]
  exact kk
theorem m_get3 (h : jc p s m args c D vwCl (tyW cI cL cR) A n cc RX3 Ts) (hin : ∀ x ∈ wsX30, x ∈ Ts) (hlink : Cond.fieldLink RX3 19 "FestoonModel" "states" "[I" ∈ Ts) (hd : decode cc pc = .ok (.getfield 19, 3)) (kk : jj p l e R s m args below meth c Q D vwCl (tyW cI cL cR) A n (wM cI ad f t) k w (pc + 3) lv (.ref (ad 4) :: st)) : jj p l e R s m args below meth c Q D vwCl (tyW cI cL cR) A n (wM cI ad f t) k w pc lv (.ref (ad 0) :: st) := j_get (ref := "FestoonModel") h 0 3 hd hin rfl (by decide) hlink (fun _ h9 => h9) rfl rfl kk
theorem m_ald3 {i : Int32} {b : Nat} (h : jc p s m args c D vwCl (tyW cI cL cR) A n cc RX3 Ts) (hd : decode cc pc = .ok (.iaload, 1)) (hi : i = nI b) (hb : b < 24) (kk : jj p l e R s m args below meth c Q D vwCl (tyW cI cL cR) A n (wM cI ad f t) k w (pc + 1) lv (.int (f 3 b) :: st)) : jj p l e R s m args below meth c Q D vwCl (tyW cI cL cR) A n (wM cI ad f t) k w pc lv (.int i :: .ref (ad 4) :: st) := by
  subst hi
  refine j_iald h 4 0 hd rfl rfl (vp_in_nI hb (by decide)) ?_
  rw [nI_clamp (by omega)]
  exact kk
theorem m_ast3 {i v : Int32} {b : Nat} (h : jc p s m args c D vwCl (tyW cI cL cR) A n cc RX3 Ts) (hd : decode cc pc = .ok (.iastore, 1)) (hi : i = nI b) (hb : b < 24) (kk : jj p l e R s m args below meth c Q D vwCl (tyW cI cL cR) A n (wM cI ad (up2 f 3 b v) t) k w (pc + 1) lv st) : jj p l e R s m args below meth c Q D vwCl (tyW cI cL cR) A n (wM cI ad f t) k w pc lv (.int v :: .int i :: .ref (ad 4) :: st) := by
  subst hi
  refine j_iast h 4 0 hd rfl rfl (vp_in_nI hb (by decide)) ?_
  rw [nI_clamp (by omega)]
  exact kk
theorem m_get4 (h : jc p s m args c D vwCl (tyW cI cL cR) A n cc RX3 Ts) (hin : ∀ x ∈ wsX30, x ∈ Ts) (hlink : Cond.fieldLink RX3 22 "FestoonModel" "lefts" "[I" ∈ Ts) (hd : decode cc pc = .ok (.getfield 22, 3)) (kk : jj p l e R s m args below meth c Q D vwCl (tyW cI cL cR) A n (wM cI ad f t) k w (pc + 3) lv (.ref (ad 5) :: st)) : jj p l e R s m args below meth c Q D vwCl (tyW cI cL cR) A n (wM cI ad f t) k w pc lv (.ref (ad 0) :: st) := j_get (ref := "FestoonModel") h 0 4 hd hin rfl (by decide) hlink (fun _ h9 => h9) rfl rfl kk
theorem m_ald4 {i : Int32} {b : Nat} (h : jc p s m args c D vwCl (tyW cI cL cR) A n cc RX3 Ts) (hd : decode cc pc = .ok (.iaload, 1)) (hi : i = nI b) (hb : b < 24) (kk : jj p l e R s m args below meth c Q D vwCl (tyW cI cL cR) A n (wM cI ad f t) k w (pc + 1) lv (.int (f 4 b) :: st)) : jj p l e R s m args below meth c Q D vwCl (tyW cI cL cR) A n (wM cI ad f t) k w pc lv (.int i :: .ref (ad 5) :: st) := by
  subst hi
  refine j_iald h 5 0 hd rfl rfl (vp_in_nI hb (by decide)) ?_
  rw [nI_clamp (by omega)]
  exact kk
theorem m_ast4 {i v : Int32} {b : Nat} (h : jc p s m args c D vwCl (tyW cI cL cR) A n cc RX3 Ts) (hd : decode cc pc = .ok (.iastore, 1)) (hi : i = nI b) (hb : b < 24) (kk : jj p l e R s m args below meth c Q D vwCl (tyW cI cL cR) A n (wM cI ad (up2 f 4 b v) t) k w (pc + 1) lv st) : jj p l e R s m args below meth c Q D vwCl (tyW cI cL cR) A n (wM cI ad f t) k w pc lv (.int v :: .int i :: .ref (ad 5) :: st) := by
  subst hi
  refine j_iast h 5 0 hd rfl rfl (vp_in_nI hb (by decide)) ?_
  rw [nI_clamp (by omega)]
  exact kk
theorem m_get5 (h : jc p s m args c D vwCl (tyW cI cL cR) A n cc RX3 Ts) (hin : ∀ x ∈ wsX30, x ∈ Ts) (hlink : Cond.fieldLink RX3 25 "FestoonModel" "hangsOn" "[I" ∈ Ts) (hd : decode cc pc = .ok (.getfield 25, 3)) (kk : jj p l e R s m args below meth c Q D vwCl (tyW cI cL cR) A n (wM cI ad f t) k w (pc + 3) lv (.ref (ad 6) :: st)) : jj p l e R s m args below meth c Q D vwCl (tyW cI cL cR) A n (wM cI ad f t) k w pc lv (.ref (ad 0) :: st) := j_get (ref := "FestoonModel") h 0 5 hd hin rfl (by decide) hlink (fun _ h9 => h9) rfl rfl kk
theorem m_ald5 {i : Int32} {b : Nat} (h : jc p s m args c D vwCl (tyW cI cL cR) A n cc RX3 Ts) (hd : decode cc pc = .ok (.iaload, 1)) (hi : i = nI b) (hb : b < 24) (kk : jj p l e R s m args below meth c Q D vwCl (tyW cI cL cR) A n (wM cI ad f t) k w (pc + 1) lv (.int (f 5 b) :: st)) : jj p l e R s m args below meth c Q D vwCl (tyW cI cL cR) A n (wM cI ad f t) k w pc lv (.int i :: .ref (ad 6) :: st) := by
  subst hi
  refine j_iald h 6 0 hd rfl rfl (vp_in_nI hb (by decide)) ?_
  rw [nI_clamp (by omega)]
  exact kk
theorem m_ast5 {i v : Int32} {b : Nat} (h : jc p s m args c D vwCl (tyW cI cL cR) A n cc RX3 Ts) (hd : decode cc pc = .ok (.iastore, 1)) (hi : i = nI b) (hb : b < 24) (kk : jj p l e R s m args below meth c Q D vwCl (tyW cI cL cR) A n (wM cI ad (up2 f 5 b v) t) k w (pc + 1) lv st) : jj p l e R s m args below meth c Q D vwCl (tyW cI cL cR) A n (wM cI ad f t) k w pc lv (.int v :: .int i :: .ref (ad 6) :: st) := by
  subst hi
  refine j_iast h 6 0 hd rfl rfl (vp_in_nI hb (by decide)) ?_
  rw [nI_clamp (by omega)]
  exact kk
theorem m_get6 (h : jc p s m args c D vwCl (tyW cI cL cR) A n cc RX3 Ts) (hin : ∀ x ∈ wsX30, x ∈ Ts) (hlink : Cond.fieldLink RX3 28 "FestoonModel" "slots" "[I" ∈ Ts) (hd : decode cc pc = .ok (.getfield 28, 3)) (kk : jj p l e R s m args below meth c Q D vwCl (tyW cI cL cR) A n (wM cI ad f t) k w (pc + 3) lv (.ref (ad 7) :: st)) : jj p l e R s m args below meth c Q D vwCl (tyW cI cL cR) A n (wM cI ad f t) k w pc lv (.ref (ad 0) :: st) := j_get (ref := "FestoonModel") h 0 6 hd hin rfl (by decide) hlink (fun _ h9 => h9) rfl rfl kk
theorem m_ald6 {i : Int32} {b : Nat} (h : jc p s m args c D vwCl (tyW cI cL cR) A n cc RX3 Ts) (hd : decode cc pc = .ok (.iaload, 1)) (hi : i = nI b) (hb : b < 24) (kk : jj p l e R s m args below meth c Q D vwCl (tyW cI cL cR) A n (wM cI ad f t) k w (pc + 1) lv (.int (f 6 b) :: st)) : jj p l e R s m args below meth c Q D vwCl (tyW cI cL cR) A n (wM cI ad f t) k w pc lv (.int i :: .ref (ad 7) :: st) := by
  subst hi
  refine j_iald h 7 0 hd rfl rfl (vp_in_nI hb (by decide)) ?_
  rw [nI_clamp (by omega)]
  exact kk
theorem m_ast6 {i v : Int32} {b : Nat} (h : jc p s m args c D vwCl (tyW cI cL cR) A n cc RX3 Ts) (hd : decode cc pc = .ok (.iastore, 1)) (hi : i = nI b) (hb : b < 24) (kk : jj p l e R s m args below meth c Q D vwCl (tyW cI cL cR) A n (wM cI ad (up2 f 6 b v) t) k w (pc + 1) lv st) : jj p l e R s m args below meth c Q D vwCl (tyW cI cL cR) A n (wM cI ad f t) k w pc lv (.int v :: .int i :: .ref (ad 7) :: st) := by
  subst hi
  refine j_iast h 7 0 hd rfl rfl (vp_in_nI hb (by decide)) ?_
  rw [nI_clamp (by omega)]
  exact kk
theorem m_get7 (h : jc p s m args c D vwCl (tyW cI cL cR) A n cc RX3 Ts) (hin : ∀ x ∈ wsX30, x ∈ Ts) (hlink : Cond.fieldLink RX3 56 "FestoonModel" "lanterns" "I" ∈ Ts) (hd : decode cc pc = .ok (.getfield 56, 3)) (kk : jj p l e R s m args below meth c Q D vwCl (tyW cI cL cR) A n (wM cI ad f t) k w (pc + 3) lv (.int (f 7 0) :: st)) : jj p l e R s m args below meth c Q D vwCl (tyW cI cL cR) A n (wM cI ad f t) k w pc lv (.ref (ad 0) :: st) := j_get (ref := "FestoonModel") h 0 7 hd hin rfl (by decide) hlink (fun _ h9 => h9) rfl rfl kk
theorem m_put7 {v : Int32} (h : jc p s m args c D vwCl (tyW cI cL cR) A n cc RX3 Ts) (hin : ∀ x ∈ wsX30, x ∈ Ts) (hlink : Cond.fieldLink RX3 56 "FestoonModel" "lanterns" "I" ∈ Ts) (hd : decode cc pc = .ok (.putfield 56, 3)) (kk : jj p l e R s m args below meth c Q D vwCl (tyW cI cL cR) A n (wM cI ad (up2 f 7 0 v) t) k w (pc + 3) lv st) : jj p l e R s m args below meth c Q D vwCl (tyW cI cL cR) A n (wM cI ad f t) k w pc lv (.int v :: .ref (ad 0) :: st) := j_put (ref := "FestoonModel") (ty := .int) h 0 7 tyX3 tyX3_ok nmX3 hd hin rfl (by decide) hlink (fun _ h9 => h9) rfl rfl rfl rfl rfl (Nat.le_of_ble_eq_true rfl) kk
theorem m_get8 (h : jc p s m args c D vwCl (tyW cI cL cR) A n cc RX3 Ts) (hin : ∀ x ∈ wsX30, x ∈ Ts) (hlink : Cond.fieldLink RX3 31 "FestoonModel" "speeds" "[I" ∈ Ts) (hd : decode cc pc = .ok (.getfield 31, 3)) (kk : jj p l e R s m args below meth c Q D vwCl (tyW cI cL cR) A n (wM cI ad f t) k w (pc + 3) lv (.ref (ad 8) :: st)) : jj p l e R s m args below meth c Q D vwCl (tyW cI cL cR) A n (wM cI ad f t) k w pc lv (.ref (ad 0) :: st) := j_get (ref := "FestoonModel") h 0 8 hd hin rfl (by decide) hlink (fun _ h9 => h9) rfl rfl kk
theorem m_ald8 {i : Int32} {b : Nat} (h : jc p s m args c D vwCl (tyW cI cL cR) A n cc RX3 Ts) (hd : decode cc pc = .ok (.iaload, 1)) (hi : i = nI b) (hb : b < 8) (kk : jj p l e R s m args below meth c Q D vwCl (tyW cI cL cR) A n (wM cI ad f t) k w (pc + 1) lv (.int (f 8 b) :: st)) : jj p l e R s m args below meth c Q D vwCl (tyW cI cL cR) A n (wM cI ad f t) k w pc lv (.int i :: .ref (ad 8) :: st) := by
  subst hi
  refine j_iald h 8 0 hd rfl rfl (vp_in_nI hb (by decide)) ?_
  rw [nI_clamp (by omega)]
  exact kk
theorem m_ast8 {i v : Int32} {b : Nat} (h : jc p s m args c D vwCl (tyW cI cL cR) A n cc RX3 Ts) (hd : decode cc pc = .ok (.iastore, 1)) (hi : i = nI b) (hb : b < 8) (kk : jj p l e R s m args below meth c Q D vwCl (tyW cI cL cR) A n (wM cI ad (up2 f 8 b v) t) k w (pc + 1) lv st) : jj p l e R s m args below meth c Q D vwCl (tyW cI cL cR) A n (wM cI ad f t) k w pc lv (.int v :: .int i :: .ref (ad 8) :: st) := by
  subst hi
  refine j_iast h 8 0 hd rfl rfl (vp_in_nI hb (by decide)) ?_
  rw [nI_clamp (by omega)]
  exact kk
theorem m_get9 (h : jc p s m args c D vwCl (tyW cI cL cR) A n cc RX3 Ts) (hin : ∀ x ∈ wsX30, x ∈ Ts) (hlink : Cond.fieldLink RX3 34 "FestoonModel" "bears" "[I" ∈ Ts) (hd : decode cc pc = .ok (.getfield 34, 3)) (kk : jj p l e R s m args below meth c Q D vwCl (tyW cI cL cR) A n (wM cI ad f t) k w (pc + 3) lv (.ref (ad 9) :: st)) : jj p l e R s m args below meth c Q D vwCl (tyW cI cL cR) A n (wM cI ad f t) k w pc lv (.ref (ad 0) :: st) := j_get (ref := "FestoonModel") h 0 9 hd hin rfl (by decide) hlink (fun _ h9 => h9) rfl rfl kk
theorem m_ald9 {i : Int32} {b : Nat} (h : jc p s m args c D vwCl (tyW cI cL cR) A n cc RX3 Ts) (hd : decode cc pc = .ok (.iaload, 1)) (hi : i = nI b) (hb : b < 8) (kk : jj p l e R s m args below meth c Q D vwCl (tyW cI cL cR) A n (wM cI ad f t) k w (pc + 1) lv (.int (f 9 b) :: st)) : jj p l e R s m args below meth c Q D vwCl (tyW cI cL cR) A n (wM cI ad f t) k w pc lv (.int i :: .ref (ad 9) :: st) := by
  subst hi
  refine j_iald h 9 0 hd rfl rfl (vp_in_nI hb (by decide)) ?_
  rw [nI_clamp (by omega)]
  exact kk
theorem m_ast9 {i v : Int32} {b : Nat} (h : jc p s m args c D vwCl (tyW cI cL cR) A n cc RX3 Ts) (hd : decode cc pc = .ok (.iastore, 1)) (hi : i = nI b) (hb : b < 8) (kk : jj p l e R s m args below meth c Q D vwCl (tyW cI cL cR) A n (wM cI ad (up2 f 9 b v) t) k w (pc + 1) lv st) : jj p l e R s m args below meth c Q D vwCl (tyW cI cL cR) A n (wM cI ad f t) k w pc lv (.int v :: .int i :: .ref (ad 9) :: st) := by
  subst hi
  refine j_iast h 9 0 hd rfl rfl (vp_in_nI hb (by decide)) ?_
  rw [nI_clamp (by omega)]
  exact kk
theorem m_get10 (h : jc p s m args c D vwCl (tyW cI cL cR) A n cc RX3 Ts) (hin : ∀ x ∈ wsX30, x ∈ Ts) (hlink : Cond.fieldLink RX3 37 "FestoonModel" "sorts" "[I" ∈ Ts) (hd : decode cc pc = .ok (.getfield 37, 3)) (kk : jj p l e R s m args below meth c Q D vwCl (tyW cI cL cR) A n (wM cI ad f t) k w (pc + 3) lv (.ref (ad 10) :: st)) : jj p l e R s m args below meth c Q D vwCl (tyW cI cL cR) A n (wM cI ad f t) k w pc lv (.ref (ad 0) :: st) := j_get (ref := "FestoonModel") h 0 10 hd hin rfl (by decide) hlink (fun _ h9 => h9) rfl rfl kk
theorem m_ald10 {i : Int32} {b : Nat} (h : jc p s m args c D vwCl (tyW cI cL cR) A n cc RX3 Ts) (hd : decode cc pc = .ok (.iaload, 1)) (hi : i = nI b) (hb : b < 8) (kk : jj p l e R s m args below meth c Q D vwCl (tyW cI cL cR) A n (wM cI ad f t) k w (pc + 1) lv (.int (f 10 b) :: st)) : jj p l e R s m args below meth c Q D vwCl (tyW cI cL cR) A n (wM cI ad f t) k w pc lv (.int i :: .ref (ad 10) :: st) := by
  subst hi
  refine j_iald h 10 0 hd rfl rfl (vp_in_nI hb (by decide)) ?_
  rw [nI_clamp (by omega)]
  exact kk
theorem m_ast10 {i v : Int32} {b : Nat} (h : jc p s m args c D vwCl (tyW cI cL cR) A n cc RX3 Ts) (hd : decode cc pc = .ok (.iastore, 1)) (hi : i = nI b) (hb : b < 8) (kk : jj p l e R s m args below meth c Q D vwCl (tyW cI cL cR) A n (wM cI ad (up2 f 10 b v) t) k w (pc + 1) lv st) : jj p l e R s m args below meth c Q D vwCl (tyW cI cL cR) A n (wM cI ad f t) k w pc lv (.int v :: .int i :: .ref (ad 10) :: st) := by
  subst hi
  refine j_iast h 10 0 hd rfl rfl (vp_in_nI hb (by decide)) ?_
  rw [nI_clamp (by omega)]
  exact kk
theorem m_get11 (h : jc p s m args c D vwCl (tyW cI cL cR) A n cc RX3 Ts) (hin : ∀ x ∈ wsX30, x ∈ Ts) (hlink : Cond.fieldLink RX3 40 "FestoonModel" "fronts" "[I" ∈ Ts) (hd : decode cc pc = .ok (.getfield 40, 3)) (kk : jj p l e R s m args below meth c Q D vwCl (tyW cI cL cR) A n (wM cI ad f t) k w (pc + 3) lv (.ref (ad 11) :: st)) : jj p l e R s m args below meth c Q D vwCl (tyW cI cL cR) A n (wM cI ad f t) k w pc lv (.ref (ad 0) :: st) := j_get (ref := "FestoonModel") h 0 11 hd hin rfl (by decide) hlink (fun _ h9 => h9) rfl rfl kk
theorem m_ald11 {i : Int32} {b : Nat} (h : jc p s m args c D vwCl (tyW cI cL cR) A n cc RX3 Ts) (hd : decode cc pc = .ok (.iaload, 1)) (hi : i = nI b) (hb : b < 8) (kk : jj p l e R s m args below meth c Q D vwCl (tyW cI cL cR) A n (wM cI ad f t) k w (pc + 1) lv (.int (f 11 b) :: st)) : jj p l e R s m args below meth c Q D vwCl (tyW cI cL cR) A n (wM cI ad f t) k w pc lv (.int i :: .ref (ad 11) :: st) := by
  subst hi
  refine j_iald h 11 0 hd rfl rfl (vp_in_nI hb (by decide)) ?_
  rw [nI_clamp (by omega)]
  exact kk
theorem m_ast11 {i v : Int32} {b : Nat} (h : jc p s m args c D vwCl (tyW cI cL cR) A n cc RX3 Ts) (hd : decode cc pc = .ok (.iastore, 1)) (hi : i = nI b) (hb : b < 8) (kk : jj p l e R s m args below meth c Q D vwCl (tyW cI cL cR) A n (wM cI ad (up2 f 11 b v) t) k w (pc + 1) lv st) : jj p l e R s m args below meth c Q D vwCl (tyW cI cL cR) A n (wM cI ad f t) k w pc lv (.int v :: .int i :: .ref (ad 11) :: st) := by
  subst hi
  refine j_iast h 11 0 hd rfl rfl (vp_in_nI hb (by decide)) ?_
  rw [nI_clamp (by omega)]
  exact kk
theorem m_get12 (h : jc p s m args c D vwCl (tyW cI cL cR) A n cc RX3 Ts) (hin : ∀ x ∈ wsX30, x ∈ Ts) (hlink : Cond.fieldLink RX3 43 "FestoonModel" "order" "[I" ∈ Ts) (hd : decode cc pc = .ok (.getfield 43, 3)) (kk : jj p l e R s m args below meth c Q D vwCl (tyW cI cL cR) A n (wM cI ad f t) k w (pc + 3) lv (.ref (ad 12) :: st)) : jj p l e R s m args below meth c Q D vwCl (tyW cI cL cR) A n (wM cI ad f t) k w pc lv (.ref (ad 0) :: st) := j_get (ref := "FestoonModel") h 0 12 hd hin rfl (by decide) hlink (fun _ h9 => h9) rfl rfl kk
theorem m_ald12 {i : Int32} {b : Nat} (h : jc p s m args c D vwCl (tyW cI cL cR) A n cc RX3 Ts) (hd : decode cc pc = .ok (.iaload, 1)) (hi : i = nI b) (hb : b < 8) (kk : jj p l e R s m args below meth c Q D vwCl (tyW cI cL cR) A n (wM cI ad f t) k w (pc + 1) lv (.int (f 12 b) :: st)) : jj p l e R s m args below meth c Q D vwCl (tyW cI cL cR) A n (wM cI ad f t) k w pc lv (.int i :: .ref (ad 12) :: st) := by
  subst hi
  refine j_iald h 12 0 hd rfl rfl (vp_in_nI hb (by decide)) ?_
  rw [nI_clamp (by omega)]
  exact kk
theorem m_ast12 {i v : Int32} {b : Nat} (h : jc p s m args c D vwCl (tyW cI cL cR) A n cc RX3 Ts) (hd : decode cc pc = .ok (.iastore, 1)) (hi : i = nI b) (hb : b < 8) (kk : jj p l e R s m args below meth c Q D vwCl (tyW cI cL cR) A n (wM cI ad (up2 f 12 b v) t) k w (pc + 1) lv st) : jj p l e R s m args below meth c Q D vwCl (tyW cI cL cR) A n (wM cI ad f t) k w pc lv (.int v :: .int i :: .ref (ad 12) :: st) := by
  subst hi
  refine j_iast h 12 0 hd rfl rfl (vp_in_nI hb (by decide)) ?_
  rw [nI_clamp (by omega)]
  exact kk
theorem m_get13 (h : jc p s m args c D vwCl (tyW cI cL cR) A n cc RX3 Ts) (hin : ∀ x ∈ wsX30, x ∈ Ts) (hlink : Cond.fieldLink RX3 108 "FestoonModel" "launched" "I" ∈ Ts) (hd : decode cc pc = .ok (.getfield 108, 3)) (kk : jj p l e R s m args below meth c Q D vwCl (tyW cI cL cR) A n (wM cI ad f t) k w (pc + 3) lv (.int (f 13 0) :: st)) : jj p l e R s m args below meth c Q D vwCl (tyW cI cL cR) A n (wM cI ad f t) k w pc lv (.ref (ad 0) :: st) := j_get (ref := "FestoonModel") h 0 13 hd hin rfl (by decide) hlink (fun _ h9 => h9) rfl rfl kk
theorem m_put13 {v : Int32} (h : jc p s m args c D vwCl (tyW cI cL cR) A n cc RX3 Ts) (hin : ∀ x ∈ wsX30, x ∈ Ts) (hlink : Cond.fieldLink RX3 108 "FestoonModel" "launched" "I" ∈ Ts) (hd : decode cc pc = .ok (.putfield 108, 3)) (kk : jj p l e R s m args below meth c Q D vwCl (tyW cI cL cR) A n (wM cI ad (up2 f 13 0 v) t) k w (pc + 3) lv st) : jj p l e R s m args below meth c Q D vwCl (tyW cI cL cR) A n (wM cI ad f t) k w pc lv (.int v :: .ref (ad 0) :: st) := j_put (ref := "FestoonModel") (ty := .int) h 0 13 tyX3 tyX3_ok nmX3 hd hin rfl (by decide) hlink (fun _ h9 => h9) rfl rfl rfl rfl rfl (Nat.le_of_ble_eq_true rfl) kk
theorem m_get14 (h : jc p s m args c D vwCl (tyW cI cL cR) A n cc RX3 Ts) (hin : ∀ x ∈ wsX30, x ∈ Ts) (hlink : Cond.fieldLink RX3 63 "FestoonModel" "floats" "I" ∈ Ts) (hd : decode cc pc = .ok (.getfield 63, 3)) (kk : jj p l e R s m args below meth c Q D vwCl (tyW cI cL cR) A n (wM cI ad f t) k w (pc + 3) lv (.int (f 14 0) :: st)) : jj p l e R s m args below meth c Q D vwCl (tyW cI cL cR) A n (wM cI ad f t) k w pc lv (.ref (ad 0) :: st) := j_get (ref := "FestoonModel") h 0 14 hd hin rfl (by decide) hlink (fun _ h9 => h9) rfl rfl kk
theorem m_put14 {v : Int32} (h : jc p s m args c D vwCl (tyW cI cL cR) A n cc RX3 Ts) (hin : ∀ x ∈ wsX30, x ∈ Ts) (hlink : Cond.fieldLink RX3 63 "FestoonModel" "floats" "I" ∈ Ts) (hd : decode cc pc = .ok (.putfield 63, 3)) (kk : jj p l e R s m args below meth c Q D vwCl (tyW cI cL cR) A n (wM cI ad (up2 f 14 0 v) t) k w (pc + 3) lv st) : jj p l e R s m args below meth c Q D vwCl (tyW cI cL cR) A n (wM cI ad f t) k w pc lv (.int v :: .ref (ad 0) :: st) := j_put (ref := "FestoonModel") (ty := .int) h 0 14 tyX3 tyX3_ok nmX3 hd hin rfl (by decide) hlink (fun _ h9 => h9) rfl rfl rfl rfl rfl (Nat.le_of_ble_eq_true rfl) kk
theorem m_get15 (h : jc p s m args c D vwCl (tyW cI cL cR) A n cc RX3 Ts) (hin : ∀ x ∈ wsX30, x ∈ Ts) (hlink : Cond.fieldLink RX3 46 "FestoonModel" "gap" "I" ∈ Ts) (hd : decode cc pc = .ok (.getfield 46, 3)) (kk : jj p l e R s m args below meth c Q D vwCl (tyW cI cL cR) A n (wM cI ad f t) k w (pc + 3) lv (.int (f 15 0) :: st)) : jj p l e R s m args below meth c Q D vwCl (tyW cI cL cR) A n (wM cI ad f t) k w pc lv (.ref (ad 0) :: st) := j_get (ref := "FestoonModel") h 0 15 hd hin rfl (by decide) hlink (fun _ h9 => h9) rfl rfl kk
theorem m_put15 {v : Int32} (h : jc p s m args c D vwCl (tyW cI cL cR) A n cc RX3 Ts) (hin : ∀ x ∈ wsX30, x ∈ Ts) (hlink : Cond.fieldLink RX3 46 "FestoonModel" "gap" "I" ∈ Ts) (hd : decode cc pc = .ok (.putfield 46, 3)) (kk : jj p l e R s m args below meth c Q D vwCl (tyW cI cL cR) A n (wM cI ad (up2 f 15 0 v) t) k w (pc + 3) lv st) : jj p l e R s m args below meth c Q D vwCl (tyW cI cL cR) A n (wM cI ad f t) k w pc lv (.int v :: .ref (ad 0) :: st) := j_put (ref := "FestoonModel") (ty := .int) h 0 15 tyX3 tyX3_ok nmX3 hd hin rfl (by decide) hlink (fun _ h9 => h9) rfl rfl rfl rfl rfl (Nat.le_of_ble_eq_true rfl) kk
theorem m_get16 (h : jc p s m args c D vwCl (tyW cI cL cR) A n cc RX3 Ts) (hin : ∀ x ∈ wsX30, x ∈ Ts) (hlink : Cond.fieldLink RX3 99 "FestoonModel" "base" "I" ∈ Ts) (hd : decode cc pc = .ok (.getfield 99, 3)) (kk : jj p l e R s m args below meth c Q D vwCl (tyW cI cL cR) A n (wM cI ad f t) k w (pc + 3) lv (.int (f 16 0) :: st)) : jj p l e R s m args below meth c Q D vwCl (tyW cI cL cR) A n (wM cI ad f t) k w pc lv (.ref (ad 0) :: st) := j_get (ref := "FestoonModel") h 0 16 hd hin rfl (by decide) hlink (fun _ h9 => h9) rfl rfl kk
theorem m_put16 {v : Int32} (h : jc p s m args c D vwCl (tyW cI cL cR) A n cc RX3 Ts) (hin : ∀ x ∈ wsX30, x ∈ Ts) (hlink : Cond.fieldLink RX3 99 "FestoonModel" "base" "I" ∈ Ts) (hd : decode cc pc = .ok (.putfield 99, 3)) (kk : jj p l e R s m args below meth c Q D vwCl (tyW cI cL cR) A n (wM cI ad (up2 f 16 0 v) t) k w (pc + 3) lv st) : jj p l e R s m args below meth c Q D vwCl (tyW cI cL cR) A n (wM cI ad f t) k w pc lv (.int v :: .ref (ad 0) :: st) := j_put (ref := "FestoonModel") (ty := .int) h 0 16 tyX3 tyX3_ok nmX3 hd hin rfl (by decide) hlink (fun _ h9 => h9) rfl rfl rfl rfl rfl (Nat.le_of_ble_eq_true rfl) kk
theorem m_get17 (h : jc p s m args c D vwCl (tyW cI cL cR) A n cc RX3 Ts) (hin : ∀ x ∈ wsX30, x ∈ Ts) (hlink : Cond.fieldLink RX3 50 "FestoonModel" "gusts" "[I" ∈ Ts) (hd : decode cc pc = .ok (.getfield 50, 3)) (kk : jj p l e R s m args below meth c Q D vwCl (tyW cI cL cR) A n (wM cI ad f t) k w (pc + 3) lv (.ref (ad 13) :: st)) : jj p l e R s m args below meth c Q D vwCl (tyW cI cL cR) A n (wM cI ad f t) k w pc lv (.ref (ad 0) :: st) := j_get (ref := "FestoonModel") h 0 17 hd hin rfl (by decide) hlink (fun _ h9 => h9) rfl rfl kk
theorem m_ald17 {i : Int32} {b : Nat} (h : jc p s m args c D vwCl (tyW cI cL cR) A n cc RX3 Ts) (hd : decode cc pc = .ok (.iaload, 1)) (hi : i = nI b) (hb : b < 401) (kk : jj p l e R s m args below meth c Q D vwCl (tyW cI cL cR) A n (wM cI ad f t) k w (pc + 1) lv (.int (f 17 b) :: st)) : jj p l e R s m args below meth c Q D vwCl (tyW cI cL cR) A n (wM cI ad f t) k w pc lv (.int i :: .ref (ad 13) :: st) := by
  subst hi
  refine j_iald h 13 0 hd rfl rfl (vp_in_nI hb (by decide)) ?_
  rw [nI_clamp (by omega)]
  exact kk
theorem m_ast17 {i v : Int32} {b : Nat} (h : jc p s m args c D vwCl (tyW cI cL cR) A n cc RX3 Ts) (hd : decode cc pc = .ok (.iastore, 1)) (hi : i = nI b) (hb : b < 401) (kk : jj p l e R s m args below meth c Q D vwCl (tyW cI cL cR) A n (wM cI ad (up2 f 17 b v) t) k w (pc + 1) lv st) : jj p l e R s m args below meth c Q D vwCl (tyW cI cL cR) A n (wM cI ad f t) k w pc lv (.int v :: .int i :: .ref (ad 13) :: st) := by
  subst hi
  refine j_iast h 13 0 hd rfl rfl (vp_in_nI hb (by decide)) ?_
  rw [nI_clamp (by omega)]
  exact kk
theorem m_get18 (h : jc p s m args c D vwCl (tyW cI cL cR) A n cc RX3 Ts) (hin : ∀ x ∈ wsX30, x ∈ Ts) (hlink : Cond.fieldLink RX3 118 "FestoonModel" "time" "I" ∈ Ts) (hd : decode cc pc = .ok (.getfield 118, 3)) (kk : jj p l e R s m args below meth c Q D vwCl (tyW cI cL cR) A n (wM cI ad f t) k w (pc + 3) lv (.int (f 18 0) :: st)) : jj p l e R s m args below meth c Q D vwCl (tyW cI cL cR) A n (wM cI ad f t) k w pc lv (.ref (ad 0) :: st) := j_get (ref := "FestoonModel") h 0 18 hd hin rfl (by decide) hlink (fun _ h9 => h9) rfl rfl kk
theorem m_put18 {v : Int32} (h : jc p s m args c D vwCl (tyW cI cL cR) A n cc RX3 Ts) (hin : ∀ x ∈ wsX30, x ∈ Ts) (hlink : Cond.fieldLink RX3 118 "FestoonModel" "time" "I" ∈ Ts) (hd : decode cc pc = .ok (.putfield 118, 3)) (kk : jj p l e R s m args below meth c Q D vwCl (tyW cI cL cR) A n (wM cI ad (up2 f 18 0 v) t) k w (pc + 3) lv st) : jj p l e R s m args below meth c Q D vwCl (tyW cI cL cR) A n (wM cI ad f t) k w pc lv (.int v :: .ref (ad 0) :: st) := j_put (ref := "FestoonModel") (ty := .int) h 0 18 tyX3 tyX3_ok nmX3 hd hin rfl (by decide) hlink (fun _ h9 => h9) rfl rfl rfl rfl rfl (Nat.le_of_ble_eq_true rfl) kk
theorem m_get19 (h : jc p s m args c D vwCl (tyW cI cL cR) A n cc RX3 Ts) (hin : ∀ x ∈ wsX30, x ∈ Ts) (hlink : Cond.fieldLink RX3 121 "FestoonModel" "blown" "I" ∈ Ts) (hd : decode cc pc = .ok (.getfield 121, 3)) (kk : jj p l e R s m args below meth c Q D vwCl (tyW cI cL cR) A n (wM cI ad f t) k w (pc + 3) lv (.int (f 19 0) :: st)) : jj p l e R s m args below meth c Q D vwCl (tyW cI cL cR) A n (wM cI ad f t) k w pc lv (.ref (ad 0) :: st) := j_get (ref := "FestoonModel") h 0 19 hd hin rfl (by decide) hlink (fun _ h9 => h9) rfl rfl kk
theorem m_put19 {v : Int32} (h : jc p s m args c D vwCl (tyW cI cL cR) A n cc RX3 Ts) (hin : ∀ x ∈ wsX30, x ∈ Ts) (hlink : Cond.fieldLink RX3 121 "FestoonModel" "blown" "I" ∈ Ts) (hd : decode cc pc = .ok (.putfield 121, 3)) (kk : jj p l e R s m args below meth c Q D vwCl (tyW cI cL cR) A n (wM cI ad (up2 f 19 0 v) t) k w (pc + 3) lv st) : jj p l e R s m args below meth c Q D vwCl (tyW cI cL cR) A n (wM cI ad f t) k w pc lv (.int v :: .ref (ad 0) :: st) := j_put (ref := "FestoonModel") (ty := .int) h 0 19 tyX3 tyX3_ok nmX3 hd hin rfl (by decide) hlink (fun _ h9 => h9) rfl rfl rfl rfl rfl (Nat.le_of_ble_eq_true rfl) kk
theorem m_get20 (h : jc p s m args c D vwCl (tyW cI cL cR) A n cc RX3 Ts) (hin : ∀ x ∈ wsX30, x ∈ Ts) (hlink : Cond.fieldLink RX3 124 "FestoonModel" "ordered" "I" ∈ Ts) (hd : decode cc pc = .ok (.getfield 124, 3)) (kk : jj p l e R s m args below meth c Q D vwCl (tyW cI cL cR) A n (wM cI ad f t) k w (pc + 3) lv (.int (f 20 0) :: st)) : jj p l e R s m args below meth c Q D vwCl (tyW cI cL cR) A n (wM cI ad f t) k w pc lv (.ref (ad 0) :: st) := j_get (ref := "FestoonModel") h 0 20 hd hin rfl (by decide) hlink (fun _ h9 => h9) rfl rfl kk
theorem m_put20 {v : Int32} (h : jc p s m args c D vwCl (tyW cI cL cR) A n cc RX3 Ts) (hin : ∀ x ∈ wsX30, x ∈ Ts) (hlink : Cond.fieldLink RX3 124 "FestoonModel" "ordered" "I" ∈ Ts) (hd : decode cc pc = .ok (.putfield 124, 3)) (kk : jj p l e R s m args below meth c Q D vwCl (tyW cI cL cR) A n (wM cI ad (up2 f 20 0 v) t) k w (pc + 3) lv st) : jj p l e R s m args below meth c Q D vwCl (tyW cI cL cR) A n (wM cI ad f t) k w pc lv (.int v :: .ref (ad 0) :: st) := j_put (ref := "FestoonModel") (ty := .int) h 0 20 tyX3 tyX3_ok nmX3 hd hin rfl (by decide) hlink (fun _ h9 => h9) rfl rfl rfl rfl rfl (Nat.le_of_ble_eq_true rfl) kk
theorem m_get21 (h : jc p s m args c D vwCl (tyW cI cL cR) A n cc RX3 Ts) (hin : ∀ x ∈ wsX30, x ∈ Ts) (hlink : Cond.fieldLink RX3 53 "FestoonModel" "last" "I" ∈ Ts) (hd : decode cc pc = .ok (.getfield 53, 3)) (kk : jj p l e R s m args below meth c Q D vwCl (tyW cI cL cR) A n (wM cI ad f t) k w (pc + 3) lv (.int t :: st)) : jj p l e R s m args below meth c Q D vwCl (tyW cI cL cR) A n (wM cI ad f t) k w pc lv (.ref (ad 0) :: st) := j_get (ref := "FestoonModel") h 0 21 hd hin rfl (by decide) hlink (fun _ h9 => h9) rfl rfl kk
theorem m_put21 {v : Int32} (h : jc p s m args c D vwCl (tyW cI cL cR) A n cc RX3 Ts) (hin : ∀ x ∈ wsX30, x ∈ Ts) (hlink : Cond.fieldLink RX3 53 "FestoonModel" "last" "I" ∈ Ts) (hd : decode cc pc = .ok (.putfield 53, 3)) (kk : jj p l e R s m args below meth c Q D vwCl (tyW cI cL cR) A n (wM cI ad f v) k w (pc + 3) lv st) : jj p l e R s m args below meth c Q D vwCl (tyW cI cL cR) A n (wM cI ad f t) k w pc lv (.int v :: .ref (ad 0) :: st) := j_put (ref := "FestoonModel") (ty := .int) h 0 21 tyX3 tyX3_ok nmX3 hd hin rfl (by decide) hlink (fun _ h9 => h9) rfl rfl rfl rfl rfl (Nat.le_of_ble_eq_true rfl) kk
end MW
end
section
set_option maxHeartbeats 4000000 in
set_option maxRecDepth 100000 in
theorem c_X3_thrown {l : Launch} {D : va_G} {cI cL cR : ClassId} {ad : Nat → Nat} {f : St} {t : Int32}  : ctI l D vwCl (tyW cI cL cR) yX3_thrown wsX3_thrown { frames := 0, cells := 0, slots := 0, locals := 0 } [.ref (ad 0)] (wM cI ad f t) (fun r u => r = t ∧ u = (wM cI ad f t)) 0 0 := by
  refine ctI_of (cc := cX3_thrown) (maxL := 1) (ret := (some .int)) (by decide) rfl rfl (Nat.le_of_ble_eq_true rfl) (by simp [Value.category]) [(0, .ref (ad 0))] rfl ?_
  intro p e s m args below meth c sz h hrt hlk hnm
  have hin3 : ∀ x ∈ wsX30, x ∈ wsX3_thrown := by decide +kernel
  refine j_aload_nR h dX3_thrown_0 rfl ?_
  refine m_get21 h hin3 (by decide +kernel) dX3_thrown_1 ?_
  exact j_iret h hrt hlk dX3_thrown_4 (by decide) (by decide) (⟨rfl, rfl⟩)
set_option maxHeartbeats 4000000 in
set_option maxRecDepth 100000 in
theorem c_X3_in {l : Launch} {D : va_G} {cI cL cR : ClassId} {ws : va_W} {v a b : Int32}  : ctI l D vwCl (tyW cI cL cR) yX3_in wsX3_in { frames := 0, cells := 0, slots := 0, locals := 0 } [.int v, .int a, .int b] ws (fun r u => r = bi (inB v a b) ∧ u = ws) 0 0 := by
  refine ctI_of (cc := cX3_in) (maxL := 3) (ret := (some .boolean)) (by decide) rfl rfl (Nat.le_of_ble_eq_true rfl) (by simp [Value.category]) [(0, .int v), (1, .int a), (2, .int b)] rfl ?_
  intro p e s m args below meth c sz h hrt hlk hnm
  refine j_iload_n h dX3_in_0 rfl ?_
  refine j_iload_n h dX3_in_1 rfl ?_
  refine j_icmp_lt (tgt := 14) h dX3_in_2 (by decide) (fun c2 => ?_) (fun c2 => ?_)
  · -- t
    refine j_iconst (v := 0) h dX3_in_14 (by decide) ?_
    exact j_zret h hrt hlk dX3_in_15 (by first | exact Or.inl rfl | exact Or.inr rfl) (by decide) (by decide) (⟨by simp only [inB, bi_dec]; first | (rw [if_pos]; exact ⟨Int32.not_lt.mp c2, Int32.not_lt.mp c7⟩) | (rw [if_neg]; exact fun z => absurd z.1 (Int32.not_le.mpr c2)) | (rw [if_neg]; exact fun z => absurd z.2 (Int32.not_le.mpr c7)), rfl⟩)
  · -- f
    refine j_iload_n h dX3_in_5 rfl ?_
    refine j_iload_n h dX3_in_6 rfl ?_
    refine j_icmp_gt (tgt := 14) h dX3_in_7 (by decide) (fun c7 => ?_) (fun c7 => ?_)
    · -- t
      refine j_iconst (v := 0) h dX3_in_14 (by decide) ?_
      exact j_zret h hrt hlk dX3_in_15 (by first | exact Or.inl rfl | exact Or.inr rfl) (by decide) (by decide) (⟨by simp only [inB, bi_dec]; first | (rw [if_pos]; exact ⟨Int32.not_lt.mp c2, Int32.not_lt.mp c7⟩) | (rw [if_neg]; exact fun z => absurd z.1 (Int32.not_le.mpr c2)) | (rw [if_neg]; exact fun z => absurd z.2 (Int32.not_le.mpr c7)), rfl⟩)
    · -- f
      refine j_iconst (v := 1) h dX3_in_10 (by decide) ?_
      refine j_goto (tgt := 15) h dX3_in_11 (by decide) ?_
      exact j_zret h hrt hlk dX3_in_15 (by first | exact Or.inl rfl | exact Or.inr rfl) (by decide) (by decide) (⟨by simp only [inB, bi_dec]; first | (rw [if_pos]; exact ⟨Int32.not_lt.mp c2, Int32.not_lt.mp c7⟩) | (rw [if_neg]; exact fun z => absurd z.1 (Int32.not_le.mpr c2)) | (rw [if_neg]; exact fun z => absurd z.2 (Int32.not_le.mpr c7)), rfl⟩)
set_option maxHeartbeats 4000000 in
set_option maxRecDepth 100000 in
theorem c_X3_goes {l : Launch} {D : va_G} {cI cL cR : ClassId} {ad : Nat → Nat} {f : St} {t : Int32} {a b d : Int32}  : ctI l D vwCl (tyW cI cL cR) yX3_goes wsX3_goes { frames := 0, cells := 0, slots := 0, locals := 0 } [.ref (ad 0), .int a, .int b, .int d] (wM cI ad f t) (fun r u => r = bi (decide (gl a b d = 0)) ∧ u = wM cI ad f (gl a b d)) 0 0 := by
  refine ctI_of (cc := cX3_goes) (maxL := 4) (ret := (some .boolean)) (by decide) rfl rfl (Nat.le_of_ble_eq_true rfl) (by simp [Value.category]) [(0, .ref (ad 0)), (1, .int a), (2, .int b), (3, .int d)] rfl ?_
  intro p e s m args below meth c sz h hrt hlk hnm
  have hin3 : ∀ x ∈ wsX30, x ∈ wsX3_goes := by decide +kernel
  refine j_aload_nR h dX3_goes_0 rfl ?_
  refine j_iload_n h dX3_goes_1 rfl ?_
  refine j_if_ne (tgt := 9) h dX3_goes_2 (by decide) (fun c2 => ?_) (fun c2 => ?_)
  · -- t
    refine j_iload_n h dX3_goes_9 rfl ?_
    refine j_if_ne (tgt := 17) h dX3_goes_10 (by decide) (fun c10 => ?_) (fun c10 => ?_)
    · -- t
      refine j_iload_n h dX3_goes_17 rfl ?_
      refine j_if_eq (tgt := 25) h dX3_goes_18 (by decide) (fun c18 => ?_) (fun c18 => ?_)
      · -- t
        refine j_iconst (v := 3) h dX3_goes_25 (by decide) ?_
        refine m_put21 h hin3 (by decide +kernel) dX3_goes_26 ?_
        refine j_aload_nR h dX3_goes_29 rfl ?_
        refine m_get21 h hin3 (by decide +kernel) dX3_goes_30 ?_
        refine j_if_ne (tgt := 40) h dX3_goes_33 (by decide) (fun c33 => ?_) (fun c33 => ?_)
        · -- t
          refine j_iconst (v := 0) h dX3_goes_40 (by decide) ?_
          exact j_zret h hrt hlk dX3_goes_41 (by first | exact Or.inl rfl | exact Or.inr rfl) (by decide) (by decide) (⟨by simp_all [gl, bi], by simp_all [gl]⟩)
        · -- f
          refine j_iconst (v := 1) h dX3_goes_36 (by decide) ?_
          refine j_goto (tgt := 41) h dX3_goes_37 (by decide) ?_
          exact j_zret h hrt hlk dX3_goes_41 (by first | exact Or.inl rfl | exact Or.inr rfl) (by decide) (by decide) (⟨by simp_all [gl, bi], by simp_all [gl]⟩)
      · -- f
        refine j_iconst (v := 0) h dX3_goes_21 (by decide) ?_
        refine j_goto (tgt := 26) h dX3_goes_22 (by decide) ?_
        refine m_put21 h hin3 (by decide +kernel) dX3_goes_26 ?_
        refine j_aload_nR h dX3_goes_29 rfl ?_
        refine m_get21 h hin3 (by decide +kernel) dX3_goes_30 ?_
        refine j_if_ne (tgt := 40) h dX3_goes_33 (by decide) (fun c33 => ?_) (fun c33 => ?_)
        · -- t
          refine j_iconst (v := 0) h dX3_goes_40 (by decide) ?_
          exact j_zret h hrt hlk dX3_goes_41 (by first | exact Or.inl rfl | exact Or.inr rfl) (by decide) (by decide) (⟨by simp_all [gl, bi], by simp_all [gl]⟩)
        · -- f
          refine j_iconst (v := 1) h dX3_goes_36 (by decide) ?_
          refine j_goto (tgt := 41) h dX3_goes_37 (by decide) ?_
          exact j_zret h hrt hlk dX3_goes_41 (by first | exact Or.inl rfl | exact Or.inr rfl) (by decide) (by decide) (⟨by simp_all [gl, bi], by simp_all [gl]⟩)
    · -- f
      refine j_iconst (v := 2) h dX3_goes_13 (by decide) ?_
      refine j_goto (tgt := 26) h dX3_goes_14 (by decide) ?_
      refine m_put21 h hin3 (by decide +kernel) dX3_goes_26 ?_
      refine j_aload_nR h dX3_goes_29 rfl ?_
      refine m_get21 h hin3 (by decide +kernel) dX3_goes_30 ?_
      refine j_if_ne (tgt := 40) h dX3_goes_33 (by decide) (fun c33 => ?_) (fun c33 => ?_)
      · -- t
        refine j_iconst (v := 0) h dX3_goes_40 (by decide) ?_
        exact j_zret h hrt hlk dX3_goes_41 (by first | exact Or.inl rfl | exact Or.inr rfl) (by decide) (by decide) (⟨by simp_all [gl, bi], by simp_all [gl]⟩)
      · -- f
        refine j_iconst (v := 1) h dX3_goes_36 (by decide) ?_
        refine j_goto (tgt := 41) h dX3_goes_37 (by decide) ?_
        exact j_zret h hrt hlk dX3_goes_41 (by first | exact Or.inl rfl | exact Or.inr rfl) (by decide) (by decide) (⟨by simp_all [gl, bi], by simp_all [gl]⟩)
  · -- f
    refine j_iconst (v := 1) h dX3_goes_5 (by decide) ?_
    refine j_goto (tgt := 26) h dX3_goes_6 (by decide) ?_
    refine m_put21 h hin3 (by decide +kernel) dX3_goes_26 ?_
    refine j_aload_nR h dX3_goes_29 rfl ?_
    refine m_get21 h hin3 (by decide +kernel) dX3_goes_30 ?_
    refine j_if_ne (tgt := 40) h dX3_goes_33 (by decide) (fun c33 => ?_) (fun c33 => ?_)
    · -- t
      refine j_iconst (v := 0) h dX3_goes_40 (by decide) ?_
      exact j_zret h hrt hlk dX3_goes_41 (by first | exact Or.inl rfl | exact Or.inr rfl) (by decide) (by decide) (⟨by simp_all [gl, bi], by simp_all [gl]⟩)
    · -- f
      refine j_iconst (v := 1) h dX3_goes_36 (by decide) ?_
      refine j_goto (tgt := 41) h dX3_goes_37 (by decide) ?_
      exact j_zret h hrt hlk dX3_goes_41 (by first | exact Or.inl rfl | exact Or.inr rfl) (by decide) (by decide) (⟨by simp_all [gl, bi], by simp_all [gl]⟩)
set_option maxHeartbeats 4000000 in
set_option maxRecDepth 100000 in
theorem c_X3_isLantern {l : Launch} {D : va_G} {cI cL cR : ClassId} {ad : Nat → Nat} {f : St} {t : Int32} {x : Int32}  : ctI l D vwCl (tyW cI cL cR) yX3_isLantern wsX3_isLantern { frames := 1, cells := 0, slots := 0, locals := 22 } [.ref (ad 0), .int x] (wM cI ad f t) (fun r u => r = bi (isL f x) ∧ u = (wM cI ad f t)) 0 0 := by
  refine ctI_of (cc := cX3_isLantern) (maxL := 2) (ret := (some .boolean)) (by decide) rfl rfl (Nat.le_of_ble_eq_true rfl) (by simp [Value.category]) [(0, .ref (ad 0)), (1, .int x)] rfl ?_
  intro p e s m args below meth c sz h hrt hlk hnm
  have hin3 : ∀ x ∈ wsX30, x ∈ wsX3_isLantern := by decide +kernel
  refine j_iload_n h dX3_isLantern_0 rfl ?_
  refine j_iconst (v := 0) h dX3_isLantern_1 (by decide) ?_
  refine j_aload_nR h dX3_isLantern_2 rfl ?_
  refine m_get7 h hin3 (by decide +kernel) dX3_isLantern_3 ?_
  refine j_iconst (v := 1) h dX3_isLantern_6 (by decide) ?_
  refine j_isub h dX3_isLantern_7 ?_
  refine j_callSI h dX3_isLantern_8 (c_X3_in) (va_cwS 3 h.2.2.2.2.1 gX3_isLantern_X3_in rfl rfl rfl (by decide +kernel) ⟨Nat.le_of_ble_eq_true rfl, Nat.le_of_ble_eq_true rfl⟩) rfl rfl (Nat.le_of_ble_eq_true rfl) ⟨Nat.le_of_ble_eq_true rfl, Nat.le_of_ble_eq_true rfl⟩ (fun r8 u8 hu8 => ?_)
  obtain ⟨rfl, rfl⟩ := hu8
  exact j_zret h hrt hlk dX3_isLantern_11 (bi_or _) (by decide) (by decide) (⟨rfl, rfl⟩)
set_option maxHeartbeats 4000000 in
set_option maxRecDepth 100000 in
theorem c_X3_isFloat {l : Launch} {D : va_G} {cI cL cR : ClassId} {ad : Nat → Nat} {f : St} {t : Int32} {x : Int32}  : ctI l D vwCl (tyW cI cL cR) yX3_isFloat wsX3_isFloat { frames := 1, cells := 0, slots := 0, locals := 22 } [.ref (ad 0), .int x] (wM cI ad f t) (fun r u => r = bi (isF f x) ∧ u = (wM cI ad f t)) 0 0 := by
  refine ctI_of (cc := cX3_isFloat) (maxL := 2) (ret := (some .boolean)) (by decide) rfl rfl (Nat.le_of_ble_eq_true rfl) (by simp [Value.category]) [(0, .ref (ad 0)), (1, .int x)] rfl ?_
  intro p e s m args below meth c sz h hrt hlk hnm
  have hin3 : ∀ x ∈ wsX30, x ∈ wsX3_isFloat := by decide +kernel
  refine j_iload_n h dX3_isFloat_0 rfl ?_
  refine j_iconst (v := 0) h dX3_isFloat_1 (by decide) ?_
  refine j_aload_nR h dX3_isFloat_2 rfl ?_
  refine m_get14 h hin3 (by decide +kernel) dX3_isFloat_3 ?_
  refine j_iconst (v := 1) h dX3_isFloat_6 (by decide) ?_
  refine j_isub h dX3_isFloat_7 ?_
  refine j_callSI h dX3_isFloat_8 (c_X3_in) (va_cwS 3 h.2.2.2.2.1 gX3_isFloat_X3_in rfl rfl rfl (by decide +kernel) ⟨Nat.le_of_ble_eq_true rfl, Nat.le_of_ble_eq_true rfl⟩) rfl rfl (Nat.le_of_ble_eq_true rfl) ⟨Nat.le_of_ble_eq_true rfl, Nat.le_of_ble_eq_true rfl⟩ (fun r8 u8 hu8 => ?_)
  obtain ⟨rfl, rfl⟩ := hu8
  exact j_zret h hrt hlk dX3_isFloat_11 (bi_or _) (by decide) (by decide) (⟨rfl, rfl⟩)
set_option maxHeartbeats 4000000 in
set_option maxRecDepth 100000 in
theorem c_X3_weight {l : Launch} {D : va_G} {cI cL cR : ClassId} {ad : Nat → Nat} {f : St} {t : Int32} {a : Nat} (ha : a < 24) : ctI l D vwCl (tyW cI cL cR) yX3_weight wsX3_weight { frames := 0, cells := 0, slots := 0, locals := 0 } [.ref (ad 0), .int (nI a)] (wM cI ad f t) (fun r u => r = wt f a ∧ u = (wM cI ad f t)) 0 0 := by
  refine ctI_of (cc := cX3_weight) (maxL := 2) (ret := (some .int)) (by decide) rfl rfl (Nat.le_of_ble_eq_true rfl) (by simp [Value.category]) [(0, .ref (ad 0)), (1, .int (nI a))] rfl ?_
  intro p e s m args below meth c sz h hrt hlk hnm
  have hin3 : ∀ x ∈ wsX30, x ∈ wsX3_weight := by decide +kernel
  refine j_bipush (v := 20) h dX3_weight_0 (by decide) ?_
  refine j_aload_nR h dX3_weight_2 rfl ?_
  refine m_get0 h hin3 (by decide +kernel) dX3_weight_3 ?_
  refine j_iload_n h dX3_weight_6 rfl ?_
  refine m_ald0 h dX3_weight_7 rfl ha ?_
  refine j_imul h dX3_weight_8 ?_
  refine j_bipush (v := 30) h dX3_weight_9 (by decide) ?_
  refine j_aload_nR h dX3_weight_11 rfl ?_
  refine m_get1 h hin3 (by decide +kernel) dX3_weight_12 ?_
  refine j_iload_n h dX3_weight_15 rfl ?_
  refine m_ald1 h dX3_weight_16 rfl ha ?_
  refine j_imul h dX3_weight_17 ?_
  refine j_iadd h dX3_weight_18 ?_
  refine j_bipush (v := 50) h dX3_weight_19 (by decide) ?_
  refine j_aload_nR h dX3_weight_21 rfl ?_
  refine m_get2 h hin3 (by decide +kernel) dX3_weight_22 ?_
  refine j_iload_n h dX3_weight_25 rfl ?_
  refine m_ald2 h dX3_weight_26 rfl ha ?_
  refine j_imul h dX3_weight_27 ?_
  refine j_iadd h dX3_weight_28 ?_
  exact j_iret h hrt hlk dX3_weight_29 (by decide) (by decide) (⟨rfl, rfl⟩)
set_option maxHeartbeats 4000000 in
set_option maxRecDepth 100000 in
theorem c_X3_loadOf {l : Launch} {D : va_G} {cI cL cR : ClassId} {ad : Nat → Nat} {f : St} {t : Int32} {x : Int32} {n : Nat} (hn : f 7 0 = nI n) (hn24 : n ≤ 24) : ctI l D vwCl (tyW cI cL cR) yX3_loadOf wsX3_loadOf { frames := 1, cells := 0, slots := 0, locals := 21 } [.ref (ad 0), .int x] (wM cI ad f t) (fun r u => r = ldS f x n ∧ u = (wM cI ad f t)) 0 0 := by
  refine ctI_of (cc := cX3_loadOf) (maxL := 4) (ret := (some .int)) (by decide) rfl rfl (Nat.le_of_ble_eq_true rfl) (by simp [Value.category]) [(0, .ref (ad 0)), (1, .int x)] rfl ?_
  intro p e s m args below meth c sz h hrt hlk hnm
  have hin3 : ∀ x ∈ wsX30, x ∈ wsX3_loadOf := by decide +kernel
  refine j_iconst (v := 0) h dX3_loadOf_0 (by decide) ?_
  refine j_istore_n (i := 2) h dX3_loadOf_1 rfl (by decide) ?_
  refine j_iconst (v := 0) h dX3_loadOf_2 (by decide) ?_
  refine j_istore_n (i := 3) h dX3_loadOf_3 rfl (by decide) ?_
  refine jj_loop (fun i : Nat => [(0, .ref (ad 0)), (1, .int x), (2, .int (ldS f x i)), (3, .int (nI i))]) (fun i : Nat => (wM cI ad f t)) (fun i : Nat => i ≤ n) (fun i : Nat => n - i) 0 ⟨rfl, rfl, rfl, rfl, trivial⟩ rfl (by first | omega | decide | simp) (fun i hi ih => ?_)
  refine j_iload_n h dX3_loadOf_4 rfl ?_
  refine j_aload_nR h dX3_loadOf_5 rfl ?_
  refine m_get7 h hin3 (by decide +kernel) dX3_loadOf_6 ?_
  refine j_icmp_ge (tgt := 40) h dX3_loadOf_9 (by decide) (fun c9 => ?_) (fun c9 => ?_)
  · -- t
    rw [hn, nI_leI (by omega) (by omega)] at c9
    refine j_iload_n h dX3_loadOf_40 rfl ?_
    exact j_iret h hrt hlk dX3_loadOf_41 (by decide) (by decide) (⟨by rw [show i = n by omega], rfl⟩)
  · -- f
    rw [hn, nI_leI (by omega) (by omega)] at c9
    refine j_iload_n h dX3_loadOf_12 rfl ?_
    refine j_aload_nR h dX3_loadOf_13 rfl ?_
    refine m_get5 h hin3 (by decide +kernel) dX3_loadOf_14 ?_
    refine j_iload_n h dX3_loadOf_17 rfl ?_
    refine m_ald5 h dX3_loadOf_18 rfl (by omega) ?_
    refine j_iload_n h dX3_loadOf_19 rfl ?_
    refine j_icmp_ne (tgt := 31) h dX3_loadOf_20 (by decide) (fun c20 => ?_) (fun c20 => ?_)
    · -- t
      refine j_iconst (v := 0) h dX3_loadOf_31 (by decide) ?_
      refine j_iadd h dX3_loadOf_32 ?_
      refine j_istore_n (i := 2) h dX3_loadOf_33 rfl (by decide) ?_
      refine j_iinc h dX3_loadOf_34 rfl rfl (by decide) ?_
      refine j_goto (tgt := 4) h dX3_loadOf_37 (by decide) ?_
      exact ih (i + 1) (by omega) (by omega) _ ⟨rfl, rfl, by simp [ldS, lget, c20], by simp [lget, nI_succ], trivial⟩
    · -- f
      refine j_aload_nR h dX3_loadOf_23 rfl ?_
      refine j_iload_n h dX3_loadOf_24 rfl ?_
      refine j_callVI (vc := (RX3, TX3, 22)) h dX3_loadOf_25 (c_X3_weight (a := i) (by omega)) (cwV 1 h.2.2.2.2.1 gX3_loadOf_X3_weight rfl rfl rfl (by decide +kernel) ⟨Nat.le_of_ble_eq_true rfl, Nat.le_of_ble_eq_true rfl⟩) 0 rfl rfl rfl rfl (Nat.le_of_ble_eq_true rfl) ⟨Nat.le_of_ble_eq_true rfl, Nat.le_of_ble_eq_true rfl⟩ (fun r25 u25 hu25 => ?_)
      obtain ⟨rfl, rfl⟩ := hu25
      refine j_goto (tgt := 32) h dX3_loadOf_28 (by decide) ?_
      refine j_iadd h dX3_loadOf_32 ?_
      refine j_istore_n (i := 2) h dX3_loadOf_33 rfl (by decide) ?_
      refine j_iinc h dX3_loadOf_34 rfl rfl (by decide) ?_
      refine j_goto (tgt := 4) h dX3_loadOf_37 (by decide) ?_
      exact ih (i + 1) (by omega) (by omega) _ ⟨rfl, rfl, by simp [ldS, lget, c20], by simp [lget, nI_succ], trivial⟩
set_option maxHeartbeats 4000000 in
set_option maxRecDepth 100000 in
theorem c_X3_isTaken {l : Launch} {D : va_G} {cI cL cR : ClassId} {ad : Nat → Nat} {f : St} {t : Int32} {x y : Int32} {n : Nat} (hn : f 7 0 = nI n) (hn24 : n ≤ 24) : ctI l D vwCl (tyW cI cL cR) yX3_isTaken wsX3_isTaken { frames := 0, cells := 0, slots := 0, locals := 0 } [.ref (ad 0), .int x, .int y] (wM cI ad f t) (fun r u => r = bi (tkB f x y n) ∧ u = (wM cI ad f t)) 0 0 := by
  refine ctI_of (cc := cX3_isTaken) (maxL := 5) (ret := (some .boolean)) (by decide) rfl rfl (Nat.le_of_ble_eq_true rfl) (by simp [Value.category]) [(0, .ref (ad 0)), (1, .int x), (2, .int y)] rfl ?_
  intro p e s m args below meth c sz h hrt hlk hnm
  have hin3 : ∀ x ∈ wsX30, x ∈ wsX3_isTaken := by decide +kernel
  refine j_iconst (v := 0) h dX3_isTaken_0 (by decide) ?_
  refine j_istore_n (i := 3) h dX3_isTaken_1 rfl (by decide) ?_
  refine j_iconst (v := 0) h dX3_isTaken_2 (by decide) ?_
  refine j_istore h dX3_isTaken_3 (by decide) ?_
  refine jj_loop (fun i : Nat => [(0, .ref (ad 0)), (1, .int x), (2, .int y), (3, .int (bi (tkB f x y i))), (4, .int (nI i))]) (fun i : Nat => (wM cI ad f t)) (fun i : Nat => i ≤ n) (fun i : Nat => n - i) 0 ⟨rfl, rfl, rfl, rfl, rfl, trivial⟩ rfl (by first | omega | decide | simp) (fun i hi ih => ?_)
  refine j_iload h dX3_isTaken_5 rfl ?_
  refine j_aload_nR h dX3_isTaken_7 rfl ?_
  refine m_get7 h hin3 (by decide +kernel) dX3_isTaken_8 ?_
  refine j_icmp_ge (tgt := 52) h dX3_isTaken_11 (by decide) (fun c11 => ?_) (fun c11 => ?_)
  · -- t
    rw [hn, nI_leI (by omega) (by omega)] at c11
    refine j_iload_n h dX3_isTaken_52 rfl ?_
    exact j_zret h hrt hlk dX3_isTaken_53 (bi_or _) (by decide) (by decide) (⟨by rw [show i = n by omega], rfl⟩)
  · -- f
    rw [hn, nI_leI (by omega) (by omega)] at c11
    refine j_iload_n h dX3_isTaken_14 rfl ?_
    refine j_if_ne (tgt := 40) h dX3_isTaken_15 (by decide) (fun c15 => ?_) (fun c15 => ?_)
    · -- t
      refine j_iconst (v := 1) h dX3_isTaken_40 (by decide) ?_
      refine j_goto (tgt := 45) h dX3_isTaken_41 (by decide) ?_
      refine j_istore_n (i := 3) h dX3_isTaken_45 rfl (by decide) ?_
      refine j_iinc h dX3_isTaken_46 rfl rfl (by decide) ?_
      refine j_goto (tgt := 5) h dX3_isTaken_49 (by decide) ?_
      exact ih (i + 1) (by omega) (by omega) _ ⟨rfl, rfl, rfl, by simp_all [tkB, lget, bi], by simp [lget, nI_succ], trivial⟩
    · -- f
      refine j_aload_nR h dX3_isTaken_18 rfl ?_
      refine m_get5 h hin3 (by decide +kernel) dX3_isTaken_19 ?_
      refine j_iload h dX3_isTaken_22 rfl ?_
      refine m_ald5 h dX3_isTaken_24 rfl (by omega) ?_
      refine j_iload_n h dX3_isTaken_25 rfl ?_
      refine j_icmp_ne (tgt := 44) h dX3_isTaken_26 (by decide) (fun c26 => ?_) (fun c26 => ?_)
      · -- t
        refine j_iconst (v := 0) h dX3_isTaken_44 (by decide) ?_
        refine j_istore_n (i := 3) h dX3_isTaken_45 rfl (by decide) ?_
        refine j_iinc h dX3_isTaken_46 rfl rfl (by decide) ?_
        refine j_goto (tgt := 5) h dX3_isTaken_49 (by decide) ?_
        exact ih (i + 1) (by omega) (by omega) _ ⟨rfl, rfl, rfl, by simp_all [tkB, lget, bi], by simp [lget, nI_succ], trivial⟩
      · -- f
        refine j_aload_nR h dX3_isTaken_29 rfl ?_
        refine m_get6 h hin3 (by decide +kernel) dX3_isTaken_30 ?_
        refine j_iload h dX3_isTaken_33 rfl ?_
        refine m_ald6 h dX3_isTaken_35 rfl (by omega) ?_
        refine j_iload_n h dX3_isTaken_36 rfl ?_
        refine j_icmp_ne (tgt := 44) h dX3_isTaken_37 (by decide) (fun c37 => ?_) (fun c37 => ?_)
        · -- t
          refine j_iconst (v := 0) h dX3_isTaken_44 (by decide) ?_
          refine j_istore_n (i := 3) h dX3_isTaken_45 rfl (by decide) ?_
          refine j_iinc h dX3_isTaken_46 rfl rfl (by decide) ?_
          refine j_goto (tgt := 5) h dX3_isTaken_49 (by decide) ?_
          exact ih (i + 1) (by omega) (by omega) _ ⟨rfl, rfl, rfl, by simp_all [tkB, lget, bi], by simp [lget, nI_succ], trivial⟩
        · -- f
          refine j_iconst (v := 1) h dX3_isTaken_40 (by decide) ?_
          refine j_goto (tgt := 45) h dX3_isTaken_41 (by decide) ?_
          refine j_istore_n (i := 3) h dX3_isTaken_45 rfl (by decide) ?_
          refine j_iinc h dX3_isTaken_46 rfl rfl (by decide) ?_
          refine j_goto (tgt := 5) h dX3_isTaken_49 (by decide) ?_
          exact ih (i + 1) (by omega) (by omega) _ ⟨rfl, rfl, rfl, by simp_all [tkB, lget, bi], by simp [lget, nI_succ], trivial⟩
set_option maxHeartbeats 4000000 in
set_option maxRecDepth 100000 in
theorem c_X3_darkens {l : Launch} {D : va_G} {cI cL cR : ClassId} {ad : Nat → Nat} {f : St} {t : Int32} {a : Nat} (ha : a < 24) : ctV l D vwCl (tyW cI cL cR) yX3_darkens wsX3_darkens { frames := 0, cells := 0, slots := 0, locals := 0 } [.ref (ad 0), .int (nI a)] (wM cI ad f t) (fun u => u = wM cI ad (dkF f a) t) 0 0 := by
  refine ctV_of (cc := cX3_darkens) (maxL := 2) (ret := none) (by decide) rfl rfl (Nat.le_of_ble_eq_true rfl) (by simp [Value.category]) [(0, .ref (ad 0)), (1, .int (nI a))] rfl ?_
  intro p e s m args below meth c sz h hrt hlk hnm
  have hin3 : ∀ x ∈ wsX30, x ∈ wsX3_darkens := by decide +kernel
  refine j_aload_nR h dX3_darkens_0 rfl ?_
  refine m_get3 h hin3 (by decide +kernel) dX3_darkens_1 ?_
  refine j_iload_n h dX3_darkens_4 rfl ?_
  refine j_aload_nR h dX3_darkens_5 rfl ?_
  refine m_get3 h hin3 (by decide +kernel) dX3_darkens_6 ?_
  refine j_iload_n h dX3_darkens_9 rfl ?_
  refine m_ald3 h dX3_darkens_10 rfl ha ?_
  refine j_iconst (v := 2) h dX3_darkens_11 (by decide) ?_
  refine j_icmp_ne (tgt := 19) h dX3_darkens_12 (by decide) (fun c12 => ?_) (fun c12 => ?_)
  · -- t
    refine j_iconst (v := 0) h dX3_darkens_19 (by decide) ?_
    refine m_ast3 h dX3_darkens_20 rfl ha ?_
    exact j_vret h hrt hlk dX3_darkens_21 (by decide) (by decide) (by simp only [dkF]; first | rw [if_pos c12] | rw [if_neg c12])
  · -- f
    refine j_iconst (v := 2) h dX3_darkens_15 (by decide) ?_
    refine j_goto (tgt := 20) h dX3_darkens_16 (by decide) ?_
    refine m_ast3 h dX3_darkens_20 rfl ha ?_
    exact j_vret h hrt hlk dX3_darkens_21 (by decide) (by decide) (by simp only [dkF]; first | rw [if_pos c12] | rw [if_neg c12])
set_option maxHeartbeats 4000000 in
set_option maxRecDepth 100000 in
theorem c_X3_hasPlace {l : Launch} {D : va_G} {cI cL cR : ClassId} {ad : Nat → Nat} {f : St} {t : Int32} {a : Nat} (ha : a < 24) (hr : f 5 a = -1 ∨ ∃ r, r < 8 ∧ f 5 a = nI r) : ctI l D vwCl (tyW cI cL cR) yX3_hasPlace wsX3_hasPlace { frames := 0, cells := 0, slots := 0, locals := 0 } [.ref (ad 0), .int (nI a)] (wM cI ad f t) (fun r u => r = bi (hpB f a) ∧ u = (wM cI ad f t)) 0 0 := by
  refine ctI_of (cc := cX3_hasPlace) (maxL := 2) (ret := (some .boolean)) (by decide) rfl rfl (Nat.le_of_ble_eq_true rfl) (by simp [Value.category]) [(0, .ref (ad 0)), (1, .int (nI a))] rfl ?_
  intro p e s m args below meth c sz h hrt hlk hnm
  have hin3 : ∀ x ∈ wsX30, x ∈ wsX3_hasPlace := by decide +kernel
  refine j_aload_nR h dX3_hasPlace_0 rfl ?_
  refine m_get5 h hin3 (by decide +kernel) dX3_hasPlace_1 ?_
  refine j_iload_n h dX3_hasPlace_4 rfl ?_
  refine m_ald5 h dX3_hasPlace_5 rfl ha ?_
  refine j_iconst (v := (-1)) h dX3_hasPlace_6 (by decide) ?_
  refine j_icmp_eq (tgt := 29) h dX3_hasPlace_7 (by decide) (fun c7 => ?_) (fun c7 => ?_)
  · -- t
    refine j_iconst (v := 0) h dX3_hasPlace_29 (by decide) ?_
    exact j_zret h hrt hlk dX3_hasPlace_30 (by first | exact Or.inl rfl | exact Or.inr rfl) (by decide) (by decide) (⟨by simp_all [hpB, bi], rfl⟩)
  · -- f
    obtain ⟨r, hr8, hr⟩ := hr.resolve_left c7
    have hrc : (nI r).toNatClampNeg = r := nI_clamp (by omega)
    refine j_aload_nR h dX3_hasPlace_10 rfl ?_
    refine m_get10 h hin3 (by decide +kernel) dX3_hasPlace_11 ?_
    refine j_aload_nR h dX3_hasPlace_14 rfl ?_
    refine m_get5 h hin3 (by decide +kernel) dX3_hasPlace_15 ?_
    refine j_iload_n h dX3_hasPlace_18 rfl ?_
    refine m_ald5 h dX3_hasPlace_19 rfl ha ?_
    refine m_ald10 h dX3_hasPlace_20 hr hr8 ?_
    refine j_iconst (v := 1) h dX3_hasPlace_21 (by decide) ?_
    refine j_icmp_ne (tgt := 29) h dX3_hasPlace_22 (by decide) (fun c22 => ?_) (fun c22 => ?_)
    · -- t
      refine j_iconst (v := 0) h dX3_hasPlace_29 (by decide) ?_
      exact j_zret h hrt hlk dX3_hasPlace_30 (by first | exact Or.inl rfl | exact Or.inr rfl) (by decide) (by decide) (⟨by simp_all [hpB, bi], rfl⟩)
    · -- f
      refine j_iconst (v := 1) h dX3_hasPlace_25 (by decide) ?_
      refine j_goto (tgt := 30) h dX3_hasPlace_26 (by decide) ?_
      exact j_zret h hrt hlk dX3_hasPlace_30 (by first | exact Or.inl rfl | exact Or.inr rfl) (by decide) (by decide) (⟨by simp_all [hpB, bi], rfl⟩)
set_option maxHeartbeats 4000000 in
set_option maxRecDepth 100000 in
theorem c_X3_place {l : Launch} {D : va_G} {cI cL cR : ClassId} {ad : Nat → Nat} {f : St} {t : Int32} {a r : Nat} (ha : a < 24) (hr8 : r < 8) (hr : f 5 a = nI r) : ctI l D vwCl (tyW cI cL cR) yX3_place wsX3_place { frames := 0, cells := 0, slots := 0, locals := 0 } [.ref (ad 0), .int (nI a)] (wM cI ad f t) (fun r u => r = pl f a ∧ u = (wM cI ad f t)) 0 0 := by
  refine ctI_of (cc := cX3_place) (maxL := 2) (ret := (some .int)) (by decide) rfl rfl (Nat.le_of_ble_eq_true rfl) (by simp [Value.category]) [(0, .ref (ad 0)), (1, .int (nI a))] rfl ?_
  intro p e s m args below meth c sz h hrt hlk hnm
  have hin3 : ∀ x ∈ wsX30, x ∈ wsX3_place := by decide +kernel
  refine j_aload_nR h dX3_place_0 rfl ?_
  refine m_get11 h hin3 (by decide +kernel) dX3_place_1 ?_
  refine j_aload_nR h dX3_place_4 rfl ?_
  refine m_get5 h hin3 (by decide +kernel) dX3_place_5 ?_
  refine j_iload_n h dX3_place_8 rfl ?_
  refine m_ald5 h dX3_place_9 rfl ha ?_
  refine m_ald11 h dX3_place_10 hr hr8 ?_
  refine j_aload_nR h dX3_place_11 rfl ?_
  refine m_get6 h hin3 (by decide +kernel) dX3_place_12 ?_
  refine j_iload_n h dX3_place_15 rfl ?_
  refine m_ald6 h dX3_place_16 rfl ha ?_
  refine j_isub h dX3_place_17 ?_
  exact j_iret h hrt hlk dX3_place_18 (by decide) (by decide) (⟨by simp only [pl]; rw [hr, nI_clamp (by omega)], rfl⟩)
set_option maxHeartbeats 4000000 in
set_option maxRecDepth 100000 in
theorem c_X3_distance {l : Launch} {D : va_G} {cI cL cR : ClassId} {ad : Nat → Nat} {f : St} {t : Int32} {a r b r2 : Nat} (ha : a < 24) (hr8 : r < 8) (hr : f 5 a = nI r) (hb : b < 24) (hr28 : r2 < 8) (hr2 : f 5 b = nI r2) : ctI l D vwCl (tyW cI cL cR) yX3_distance wsX3_distance { frames := 1, cells := 0, slots := 0, locals := 21 } [.ref (ad 0), .int (nI a), .int (nI b)] (wM cI ad f t) (fun r u => r = ds f a b ∧ u = (wM cI ad f t)) 0 0 := by
  refine ctI_of (cc := cX3_distance) (maxL := 4) (ret := (some .int)) (by decide) rfl rfl (Nat.le_of_ble_eq_true rfl) (by simp [Value.category]) [(0, .ref (ad 0)), (1, .int (nI a)), (2, .int (nI b))] rfl ?_
  intro p e s m args below meth c sz h hrt hlk hnm
  have hin3 : ∀ x ∈ wsX30, x ∈ wsX3_distance := by decide +kernel
  refine j_aload_nR h dX3_distance_0 rfl ?_
  refine j_iload_n h dX3_distance_1 rfl ?_
  refine j_callVI (vc := (RX3, TX3, 22)) h dX3_distance_2 (c_X3_place (a := a) (r := r) ha hr8 hr) (cwV 1 h.2.2.2.2.1 gX3_distance_X3_place rfl rfl rfl (by decide +kernel) ⟨Nat.le_of_ble_eq_true rfl, Nat.le_of_ble_eq_true rfl⟩) 0 rfl rfl rfl rfl (Nat.le_of_ble_eq_true rfl) ⟨Nat.le_of_ble_eq_true rfl, Nat.le_of_ble_eq_true rfl⟩ (fun r2 u2 hu2 => ?_)
  obtain ⟨rfl, rfl⟩ := hu2
  refine j_aload_nR h dX3_distance_5 rfl ?_
  refine j_iload_n h dX3_distance_6 rfl ?_
  refine j_callVI (vc := (RX3, TX3, 22)) h dX3_distance_7 (c_X3_place (a := b) (r := r2) hb hr28 hr2) (cwV 1 h.2.2.2.2.1 gX3_distance_X3_place rfl rfl rfl (by decide +kernel) ⟨Nat.le_of_ble_eq_true rfl, Nat.le_of_ble_eq_true rfl⟩) 0 rfl rfl rfl rfl (Nat.le_of_ble_eq_true rfl) ⟨Nat.le_of_ble_eq_true rfl, Nat.le_of_ble_eq_true rfl⟩ (fun r7 u7 hu7 => ?_)
  obtain ⟨rfl, rfl⟩ := hu7
  refine j_isub h dX3_distance_10 ?_
  refine j_istore_n (i := 3) h dX3_distance_11 rfl (by decide) ?_
  refine j_iload_n h dX3_distance_12 rfl ?_
  refine j_if_ge (tgt := 21) h dX3_distance_13 (by decide) (fun c13 => ?_) (fun c13 => ?_)
  · -- t
    refine j_iload_n h dX3_distance_21 rfl ?_
    exact j_iret h hrt hlk dX3_distance_22 (by decide) (by decide) (⟨by simp only [ds]; first | rw [if_neg (Int32.not_lt.mpr c13)] | rw [if_pos (Int32.not_le.mp c13)], rfl⟩)
  · -- f
    refine j_iload_n h dX3_distance_16 rfl ?_
    refine j_ineg h dX3_distance_17 ?_
    refine j_goto (tgt := 22) h dX3_distance_18 (by decide) ?_
    exact j_iret h hrt hlk dX3_distance_22 (by decide) (by decide) (⟨by simp only [ds]; first | rw [if_neg (Int32.not_lt.mpr c13)] | rw [if_pos (Int32.not_le.mp c13)], rfl⟩)
set_option maxHeartbeats 4000000 in
set_option maxRecDepth 100000 in
theorem c_X3_isNear {l : Launch} {D : va_G} {cI cL cR : ClassId} {ad : Nat → Nat} {f : St} {t : Int32} {a B r : Nat} (ha : a < 24) (hB : B ≤ 24) (hr8 : r < 8) (hr : f 5 a = nI r) (hlit : ∀ k, k < B → f 3 k = 1 → ∃ r, r < 8 ∧ f 5 k = nI r) : ctI l D vwCl (tyW cI cL cR) yX3_isNear wsX3_isNear { frames := 2, cells := 0, slots := 0, locals := 44 } [.ref (ad 0), .int (nI a), .int (nI B)] (wM cI ad f t) (fun r u => r = bi (nearB f a B) ∧ u = (wM cI ad f t)) 0 0 := by
  refine ctI_of (cc := cX3_isNear) (maxL := 5) (ret := (some .boolean)) (by decide) rfl rfl (Nat.le_of_ble_eq_true rfl) (by simp [Value.category]) [(0, .ref (ad 0)), (1, .int (nI a)), (2, .int (nI B))] rfl ?_
  intro p e s m args below meth c sz h hrt hlk hnm
  have hin3 : ∀ x ∈ wsX30, x ∈ wsX3_isNear := by decide +kernel
  refine j_iconst (v := 0) h dX3_isNear_0 (by decide) ?_
  refine j_istore_n (i := 3) h dX3_isNear_1 rfl (by decide) ?_
  refine j_iconst (v := 0) h dX3_isNear_2 (by decide) ?_
  refine j_istore h dX3_isNear_3 (by decide) ?_
  refine jj_loop (fun i : Nat => [(0, .ref (ad 0)), (1, .int (nI a)), (2, .int (nI B)), (3, .int (bi (nearB f a i))), (4, .int (nI i))]) (fun i : Nat => (wM cI ad f t)) (fun i : Nat => i ≤ B) (fun i : Nat => B - i) 0 ⟨rfl, rfl, rfl, rfl, rfl, trivial⟩ rfl (by first | omega | decide | simp) (fun i hi ih => ?_)
  refine j_iload h dX3_isNear_5 rfl ?_
  refine j_iload_n h dX3_isNear_7 rfl ?_
  refine j_icmp_ge (tgt := 73) h dX3_isNear_8 (by decide) (fun c8 => ?_) (fun c8 => ?_)
  · -- t
    rw [nI_leI (by omega) (by omega)] at c8
    refine j_iload_n h dX3_isNear_73 rfl ?_
    exact j_zret h hrt hlk dX3_isNear_74 (bi_or _) (by decide) (by decide) (⟨by rw [show i = B by omega], rfl⟩)
  · -- f
    rw [nI_leI (by omega) (by omega)] at c8
    refine j_iload_n h dX3_isNear_11 rfl ?_
    refine j_if_ne (tgt := 61) h dX3_isNear_12 (by decide) (fun c12 => ?_) (fun c12 => ?_)
    · -- t
      refine j_iconst (v := 1) h dX3_isNear_61 (by decide) ?_
      refine j_goto (tgt := 66) h dX3_isNear_62 (by decide) ?_
      refine j_istore_n (i := 3) h dX3_isNear_66 rfl (by decide) ?_
      refine j_iinc h dX3_isNear_67 rfl rfl (by decide) ?_
      refine j_goto (tgt := 5) h dX3_isNear_70 (by decide) ?_
      exact ih (i + 1) (by omega) (by omega) _ ⟨rfl, rfl, rfl, by simp_all [nearB, nearT, lget, bi], by simp [lget, nI_succ], trivial⟩
    · -- f
      refine j_iload h dX3_isNear_15 rfl ?_
      refine j_iload_n h dX3_isNear_17 rfl ?_
      refine j_icmp_eq (tgt := 65) h dX3_isNear_18 (by decide) (fun c18 => ?_) (fun c18 => ?_)
      · -- t
        rw [nI_eq (by omega) (by omega)] at c18
        refine j_iconst (v := 0) h dX3_isNear_65 (by decide) ?_
        refine j_istore_n (i := 3) h dX3_isNear_66 rfl (by decide) ?_
        refine j_iinc h dX3_isNear_67 rfl rfl (by decide) ?_
        refine j_goto (tgt := 5) h dX3_isNear_70 (by decide) ?_
        exact ih (i + 1) (by omega) (by omega) _ ⟨rfl, rfl, rfl, by simp_all [nearB, nearT, lget, bi], by simp [lget, nI_succ], trivial⟩
      · -- f
        rw [nI_eq (by omega) (by omega)] at c18
        refine j_aload_nR h dX3_isNear_21 rfl ?_
        refine m_get3 h hin3 (by decide +kernel) dX3_isNear_22 ?_
        refine j_iload h dX3_isNear_25 rfl ?_
        refine m_ald3 h dX3_isNear_27 rfl (by omega) ?_
        refine j_iconst (v := 1) h dX3_isNear_28 (by decide) ?_
        refine j_icmp_ne (tgt := 65) h dX3_isNear_29 (by decide) (fun c29 => ?_) (fun c29 => ?_)
        · -- t
          refine j_iconst (v := 0) h dX3_isNear_65 (by decide) ?_
          refine j_istore_n (i := 3) h dX3_isNear_66 rfl (by decide) ?_
          refine j_iinc h dX3_isNear_67 rfl rfl (by decide) ?_
          refine j_goto (tgt := 5) h dX3_isNear_70 (by decide) ?_
          exact ih (i + 1) (by omega) (by omega) _ ⟨rfl, rfl, rfl, by simp_all [nearB, nearT, lget, bi], by simp [lget, nI_succ], trivial⟩
        · -- f
          obtain ⟨rk, hrk8, hrk⟩ := hlit i (by omega) c29
          refine j_aload_nR h dX3_isNear_32 rfl ?_
          refine j_iload h dX3_isNear_33 rfl ?_
          refine j_iload_n h dX3_isNear_35 rfl ?_
          refine j_callVI (vc := (RX3, TX3, 22)) h dX3_isNear_36 (c_X3_distance (a := i) (r := rk) (b := a) (r2 := r) (by omega) hrk8 hrk ha hr8 hr) (cwV 2 h.2.2.2.2.1 gX3_isNear_X3_distance rfl rfl rfl (by decide +kernel) ⟨Nat.le_of_ble_eq_true rfl, Nat.le_of_ble_eq_true rfl⟩) 0 rfl rfl rfl rfl (Nat.le_of_ble_eq_true rfl) ⟨Nat.le_of_ble_eq_true rfl, Nat.le_of_ble_eq_true rfl⟩ (fun r36 u36 hu36 => ?_)
          obtain ⟨rfl, rfl⟩ := hu36
          refine j_aload_nR h dX3_isNear_39 rfl ?_
          refine m_get2 h hin3 (by decide +kernel) dX3_isNear_40 ?_
          refine j_iload h dX3_isNear_43 rfl ?_
          refine m_ald2 h dX3_isNear_45 rfl (by omega) ?_
          refine j_aload_nR h dX3_isNear_46 rfl ?_
          refine m_get2 h hin3 (by decide +kernel) dX3_isNear_47 ?_
          refine j_iload_n h dX3_isNear_50 rfl ?_
          refine m_ald2 h dX3_isNear_51 rfl ha ?_
          refine j_iadd h dX3_isNear_52 ?_
          refine j_aload_nR h dX3_isNear_53 rfl ?_
          refine m_get16 h hin3 (by decide +kernel) dX3_isNear_54 ?_
          refine j_iadd h dX3_isNear_57 ?_
          refine j_icmp_ge (tgt := 65) h dX3_isNear_58 (by decide) (fun c58 => ?_) (fun c58 => ?_)
          · -- t
            refine j_iconst (v := 0) h dX3_isNear_65 (by decide) ?_
            refine j_istore_n (i := 3) h dX3_isNear_66 rfl (by decide) ?_
            refine j_iinc h dX3_isNear_67 rfl rfl (by decide) ?_
            refine j_goto (tgt := 5) h dX3_isNear_70 (by decide) ?_
            exact ih (i + 1) (by omega) (by omega) _ ⟨rfl, rfl, rfl, by simp_all [nearB, nearT, lget, bi], by simp [lget, nI_succ], trivial⟩
          · -- f
            refine j_iconst (v := 1) h dX3_isNear_61 (by decide) ?_
            refine j_goto (tgt := 66) h dX3_isNear_62 (by decide) ?_
            refine j_istore_n (i := 3) h dX3_isNear_66 rfl (by decide) ?_
            refine j_iinc h dX3_isNear_67 rfl rfl (by decide) ?_
            refine j_goto (tgt := 5) h dX3_isNear_70 (by decide) ?_
            exact ih (i + 1) (by omega) (by omega) _ ⟨rfl, rfl, rfl, by simp_all [nearB, nearT, lget, bi], by simp [lget, nI_succ], trivial⟩
set_option maxHeartbeats 4000000 in
set_option maxRecDepth 100000 in
theorem c_X3_rearmost {l : Launch} {D : va_G} {cI cL cR : ClassId} {ad : Nat → Nat} {f : St} {t : Int32} {q : Nat} (hq : f 13 0 = nI q) (hq8 : q ≤ 8) (ho : ∀ i, i < q → ∃ r, r < 8 ∧ f 12 i = nI r) : ctI l D vwCl (tyW cI cL cR) yX3_rearmost wsX3_rearmost { frames := 0, cells := 0, slots := 0, locals := 0 } [.ref (ad 0)] (wM cI ad f t) (fun r u => r = rmS f q ∧ u = (wM cI ad f t)) 0 0 := by
  refine ctI_of (cc := cX3_rearmost) (maxL := 3) (ret := (some .int)) (by decide) rfl rfl (Nat.le_of_ble_eq_true rfl) (by simp [Value.category]) [(0, .ref (ad 0))] rfl ?_
  intro p e s m args below meth c sz h hrt hlk hnm
  have hin3 : ∀ x ∈ wsX30, x ∈ wsX3_rearmost := by decide +kernel
  refine j_iconst (v := (-1)) h dX3_rearmost_0 (by decide) ?_
  refine j_istore_n (i := 1) h dX3_rearmost_1 rfl (by decide) ?_
  refine j_iconst (v := 0) h dX3_rearmost_2 (by decide) ?_
  refine j_istore_n (i := 2) h dX3_rearmost_3 rfl (by decide) ?_
  refine jj_loop (fun i : Nat => [(0, .ref (ad 0)), (1, .int (rmS f i)), (2, .int (nI i))]) (fun i : Nat => (wM cI ad f t)) (fun i : Nat => i ≤ q) (fun i : Nat => q - i) 0 ⟨rfl, rfl, rfl, trivial⟩ rfl (by first | omega | decide | simp) (fun i hi ih => ?_)
  refine j_iload_n h dX3_rearmost_4 rfl ?_
  refine j_aload_nR h dX3_rearmost_5 rfl ?_
  refine m_get13 h hin3 (by decide +kernel) dX3_rearmost_6 ?_
  refine j_icmp_ge (tgt := 44) h dX3_rearmost_9 (by decide) (fun c9 => ?_) (fun c9 => ?_)
  · -- t
    rw [hq, nI_leI (by omega) (by omega)] at c9
    refine j_iload_n h dX3_rearmost_44 rfl ?_
    exact j_iret h hrt hlk dX3_rearmost_45 (by decide) (by decide) (⟨by rw [show i = q by omega], rfl⟩)
  · -- f
    rw [hq, nI_leI (by omega) (by omega)] at c9
    obtain ⟨r, hor8, hor⟩ := ho i (by omega)
    have hrc : (nI r).toNatClampNeg = r := nI_clamp (by omega)
    refine j_aload_nR h dX3_rearmost_12 rfl ?_
    refine m_get10 h hin3 (by decide +kernel) dX3_rearmost_13 ?_
    refine j_aload_nR h dX3_rearmost_16 rfl ?_
    refine m_get12 h hin3 (by decide +kernel) dX3_rearmost_17 ?_
    refine j_iload_n h dX3_rearmost_20 rfl ?_
    refine m_ald12 h dX3_rearmost_21 rfl (by omega) ?_
    refine m_ald10 h dX3_rearmost_22 hor hor8 ?_
    refine j_iconst (v := 1) h dX3_rearmost_23 (by decide) ?_
    refine j_icmp_ne (tgt := 36) h dX3_rearmost_24 (by decide) (fun c24 => ?_) (fun c24 => ?_)
    · -- t
      refine j_iload_n h dX3_rearmost_36 rfl ?_
      refine j_istore_n (i := 1) h dX3_rearmost_37 rfl (by decide) ?_
      refine j_iinc h dX3_rearmost_38 rfl rfl (by decide) ?_
      refine j_goto (tgt := 4) h dX3_rearmost_41 (by decide) ?_
      exact ih (i + 1) (by omega) (by omega) _ ⟨rfl, by simp_all [rmS, lget, nI_clamp], by simp [lget, nI_succ], trivial⟩
    · -- f
      refine j_aload_nR h dX3_rearmost_27 rfl ?_
      refine m_get12 h hin3 (by decide +kernel) dX3_rearmost_28 ?_
      refine j_iload_n h dX3_rearmost_31 rfl ?_
      refine m_ald12 h dX3_rearmost_32 rfl (by omega) ?_
      refine j_goto (tgt := 37) h dX3_rearmost_33 (by decide) ?_
      refine j_istore_n (i := 1) h dX3_rearmost_37 rfl (by decide) ?_
      refine j_iinc h dX3_rearmost_38 rfl rfl (by decide) ?_
      refine j_goto (tgt := 4) h dX3_rearmost_41 (by decide) ?_
      exact ih (i + 1) (by omega) (by omega) _ ⟨rfl, by simp_all [rmS, lget, nI_clamp], by simp [lget, nI_succ], trivial⟩
set_option maxHeartbeats 4000000 in
set_option maxRecDepth 100000 in
theorem c_X3_afloat {l : Launch} {D : va_G} {cI cL cR : ClassId} {ad : Nat → Nat} {f : St} {t : Int32} {b : Nat} (hb : f 14 0 = nI b) (hb8 : b ≤ 8) : ctI l D vwCl (tyW cI cL cR) yX3_afloat wsX3_afloat { frames := 0, cells := 0, slots := 0, locals := 0 } [.ref (ad 0)] (wM cI ad f t) (fun r u => r = afS f b ∧ u = (wM cI ad f t)) 0 0 := by
  refine ctI_of (cc := cX3_afloat) (maxL := 3) (ret := (some .int)) (by decide) rfl rfl (Nat.le_of_ble_eq_true rfl) (by simp [Value.category]) [(0, .ref (ad 0))] rfl ?_
  intro p e s m args below meth c sz h hrt hlk hnm
  have hin3 : ∀ x ∈ wsX30, x ∈ wsX3_afloat := by decide +kernel
  refine j_iconst (v := 0) h dX3_afloat_0 (by decide) ?_
  refine j_istore_n (i := 1) h dX3_afloat_1 rfl (by decide) ?_
  refine j_iconst (v := 0) h dX3_afloat_2 (by decide) ?_
  refine j_istore_n (i := 2) h dX3_afloat_3 rfl (by decide) ?_
  refine jj_loop (fun i : Nat => [(0, .ref (ad 0)), (1, .int (afS f i)), (2, .int (nI i))]) (fun i : Nat => (wM cI ad f t)) (fun i : Nat => i ≤ b) (fun i : Nat => b - i) 0 ⟨rfl, rfl, rfl, trivial⟩ rfl (by first | omega | decide | simp) (fun i hi ih => ?_)
  refine j_iload_n h dX3_afloat_4 rfl ?_
  refine j_aload_nR h dX3_afloat_5 rfl ?_
  refine m_get14 h hin3 (by decide +kernel) dX3_afloat_6 ?_
  refine j_icmp_ge (tgt := 36) h dX3_afloat_9 (by decide) (fun c9 => ?_) (fun c9 => ?_)
  · -- t
    rw [hb, nI_leI (by omega) (by omega)] at c9
    refine j_iload_n h dX3_afloat_36 rfl ?_
    exact j_iret h hrt hlk dX3_afloat_37 (by decide) (by decide) (⟨by rw [show i = b by omega], rfl⟩)
  · -- f
    rw [hb, nI_leI (by omega) (by omega)] at c9
    refine j_iload_n h dX3_afloat_12 rfl ?_
    refine j_aload_nR h dX3_afloat_13 rfl ?_
    refine m_get10 h hin3 (by decide +kernel) dX3_afloat_14 ?_
    refine j_iload_n h dX3_afloat_17 rfl ?_
    refine m_ald10 h dX3_afloat_18 rfl (by omega) ?_
    refine j_iconst (v := 1) h dX3_afloat_19 (by decide) ?_
    refine j_icmp_ne (tgt := 27) h dX3_afloat_20 (by decide) (fun c20 => ?_) (fun c20 => ?_)
    · -- t
      refine j_iconst (v := 0) h dX3_afloat_27 (by decide) ?_
      refine j_iadd h dX3_afloat_28 ?_
      refine j_istore_n (i := 1) h dX3_afloat_29 rfl (by decide) ?_
      refine j_iinc h dX3_afloat_30 rfl rfl (by decide) ?_
      refine j_goto (tgt := 4) h dX3_afloat_33 (by decide) ?_
      exact ih (i + 1) (by omega) (by omega) _ ⟨rfl, by simp [afS, lget, c20], by simp [lget, nI_succ], trivial⟩
    · -- f
      refine j_iconst (v := 1) h dX3_afloat_23 (by decide) ?_
      refine j_goto (tgt := 28) h dX3_afloat_24 (by decide) ?_
      refine j_iadd h dX3_afloat_28 ?_
      refine j_istore_n (i := 1) h dX3_afloat_29 rfl (by decide) ?_
      refine j_iinc h dX3_afloat_30 rfl rfl (by decide) ?_
      refine j_goto (tgt := 4) h dX3_afloat_33 (by decide) ?_
      exact ih (i + 1) (by omega) (by omega) _ ⟨rfl, by simp [afS, lget, c20], by simp [lget, nI_succ], trivial⟩
set_option maxHeartbeats 4000000 in
set_option maxRecDepth 100000 in
theorem c_X3_lit {l : Launch} {D : va_G} {cI cL cR : ClassId} {ad : Nat → Nat} {f : St} {t : Int32} {n : Nat} (hn : f 7 0 = nI n) (hn24 : n ≤ 24) : ctI l D vwCl (tyW cI cL cR) yX3_lit wsX3_lit { frames := 0, cells := 0, slots := 0, locals := 0 } [.ref (ad 0)] (wM cI ad f t) (fun r u => r = ltS f n ∧ u = (wM cI ad f t)) 0 0 := by
  refine ctI_of (cc := cX3_lit) (maxL := 3) (ret := (some .int)) (by decide) rfl rfl (Nat.le_of_ble_eq_true rfl) (by simp [Value.category]) [(0, .ref (ad 0))] rfl ?_
  intro p e s m args below meth c sz h hrt hlk hnm
  have hin3 : ∀ x ∈ wsX30, x ∈ wsX3_lit := by decide +kernel
  refine j_iconst (v := 0) h dX3_lit_0 (by decide) ?_
  refine j_istore_n (i := 1) h dX3_lit_1 rfl (by decide) ?_
  refine j_iconst (v := 0) h dX3_lit_2 (by decide) ?_
  refine j_istore_n (i := 2) h dX3_lit_3 rfl (by decide) ?_
  refine jj_loop (fun i : Nat => [(0, .ref (ad 0)), (1, .int (ltS f i)), (2, .int (nI i))]) (fun i : Nat => (wM cI ad f t)) (fun i : Nat => i ≤ n) (fun i : Nat => n - i) 0 ⟨rfl, rfl, rfl, trivial⟩ rfl (by first | omega | decide | simp) (fun i hi ih => ?_)
  refine j_iload_n h dX3_lit_4 rfl ?_
  refine j_aload_nR h dX3_lit_5 rfl ?_
  refine m_get7 h hin3 (by decide +kernel) dX3_lit_6 ?_
  refine j_icmp_ge (tgt := 36) h dX3_lit_9 (by decide) (fun c9 => ?_) (fun c9 => ?_)
  · -- t
    rw [hn, nI_leI (by omega) (by omega)] at c9
    refine j_iload_n h dX3_lit_36 rfl ?_
    exact j_iret h hrt hlk dX3_lit_37 (by decide) (by decide) (⟨by rw [show i = n by omega], rfl⟩)
  · -- f
    rw [hn, nI_leI (by omega) (by omega)] at c9
    refine j_iload_n h dX3_lit_12 rfl ?_
    refine j_aload_nR h dX3_lit_13 rfl ?_
    refine m_get3 h hin3 (by decide +kernel) dX3_lit_14 ?_
    refine j_iload_n h dX3_lit_17 rfl ?_
    refine m_ald3 h dX3_lit_18 rfl (by omega) ?_
    refine j_iconst (v := 1) h dX3_lit_19 (by decide) ?_
    refine j_icmp_ne (tgt := 27) h dX3_lit_20 (by decide) (fun c20 => ?_) (fun c20 => ?_)
    · -- t
      refine j_iconst (v := 0) h dX3_lit_27 (by decide) ?_
      refine j_iadd h dX3_lit_28 ?_
      refine j_istore_n (i := 1) h dX3_lit_29 rfl (by decide) ?_
      refine j_iinc h dX3_lit_30 rfl rfl (by decide) ?_
      refine j_goto (tgt := 4) h dX3_lit_33 (by decide) ?_
      exact ih (i + 1) (by omega) (by omega) _ ⟨rfl, by simp [ltS, lget, c20], by simp [lget, nI_succ], trivial⟩
    · -- f
      refine j_iconst (v := 1) h dX3_lit_23 (by decide) ?_
      refine j_goto (tgt := 28) h dX3_lit_24 (by decide) ?_
      refine j_iadd h dX3_lit_28 ?_
      refine j_istore_n (i := 1) h dX3_lit_29 rfl (by decide) ?_
      refine j_iinc h dX3_lit_30 rfl rfl (by decide) ?_
      refine j_goto (tgt := 4) h dX3_lit_33 (by decide) ?_
      exact ih (i + 1) (by omega) (by omega) _ ⟨rfl, by simp [ltS, lget, c20], by simp [lget, nI_succ], trivial⟩
end
section
set_option maxHeartbeats 4000000 in
set_option maxRecDepth 100000 in
theorem c_X3_stateOf {l : Launch} {D : va_G} {cI cL cR : ClassId} {ad : Nat → Nat} {f : St} {t : Int32} {x : Int32} {n : Nat} (hn : f 7 0 = nI n) (hn24 : n ≤ 24)  : ctI l D vwCl (tyW cI cL cR) yX3_stateOf wsX3_stateOf { frames := 2, cells := 0, slots := 0, locals := 43 } [.ref (ad 0), .int x] (wM cI ad f t) (fun r u => u = wM cI ad f (tL f x) ∧ (tL f x = 0 → r = f 3 x.toNatClampNeg)) 0 0 := by
  refine ctI_of (cc := cX3_stateOf) (maxL := 2) (ret := (some .int)) (by decide) rfl rfl (Nat.le_of_ble_eq_true rfl) (by simp [Value.category]) [(0, .ref (ad 0)), (1, .int x)] rfl ?_
  intro p e s m args below meth c sz h hrt hlk hnm
  have hin3 : ∀ x ∈ wsX30, x ∈ wsX3_stateOf := by decide +kernel
  refine j_aload_nR h dX3_stateOf_0 rfl ?_
  refine j_aload_nR h dX3_stateOf_1 rfl ?_
  refine j_iload_n h dX3_stateOf_2 rfl ?_
  refine j_callVI (vc := (RX3, TX3, 22)) h dX3_stateOf_3 (c_X3_isLantern) (cwV 1 h.2.2.2.2.1 gX3_stateOf_X3_isLantern rfl rfl rfl (by decide +kernel) ⟨Nat.le_of_ble_eq_true rfl, Nat.le_of_ble_eq_true rfl⟩) 0 rfl rfl rfl rfl (Nat.le_of_ble_eq_true rfl) ⟨Nat.le_of_ble_eq_true rfl, Nat.le_of_ble_eq_true rfl⟩ (fun r3 u3 hu3 => ?_)
  obtain ⟨rfl, rfl⟩ := hu3
  refine j_iconst (v := 1) h dX3_stateOf_6 (by decide) ?_
  refine j_iconst (v := 1) h dX3_stateOf_7 (by decide) ?_
  refine j_callVI (vc := (RX3, TX3, 22)) h dX3_stateOf_8 (c_X3_goes) (cwV 3 h.2.2.2.2.1 gX3_stateOf_X3_goes rfl rfl rfl (by decide +kernel) ⟨Nat.le_of_ble_eq_true rfl, Nat.le_of_ble_eq_true rfl⟩) 0 rfl rfl rfl rfl (Nat.le_of_ble_eq_true rfl) ⟨Nat.le_of_ble_eq_true rfl, Nat.le_of_ble_eq_true rfl⟩ (fun r8 u8 hu8 => ?_)
  obtain ⟨rfl, rfl⟩ := hu8
  refine j_if_eq (tgt := 23) h dX3_stateOf_11 (by decide) (fun c11 => ?_) (fun c11 => ?_)
  · -- t
    have hT : ¬ tL f x = 0 := of_decide_eq_false (bi_0.mp c11)
    refine j_iconst (v := 0) h dX3_stateOf_23 (by decide) ?_
    exact j_iret h hrt hlk dX3_stateOf_24 (by decide) (by decide) (by first | exact ⟨rfl, fun z => absurd z hT⟩ | exact ⟨rfl, fun _ => by rw [hac]⟩)
  · -- f
    have hT : isL f x = true := gl_1.mp (of_decide_eq_true (bi_n0.mp c11))
    obtain ⟨a, ha, rfl⟩ := inB_ix (n := n) (by omega) (by rw [← hn]; exact hT)
    have hac : (nI a).toNatClampNeg = a := nI_clamp (by omega)
    refine j_aload_nR h dX3_stateOf_14 rfl ?_
    refine m_get3 h hin3 (by decide +kernel) dX3_stateOf_15 ?_
    refine j_iload_n h dX3_stateOf_18 rfl ?_
    refine m_ald3 h dX3_stateOf_19 rfl (by omega) ?_
    refine j_goto (tgt := 24) h dX3_stateOf_20 (by decide) ?_
    exact j_iret h hrt hlk dX3_stateOf_24 (by decide) (by decide) (by first | exact ⟨rfl, fun z => absurd z hT⟩ | exact ⟨rfl, fun _ => by rw [hac]⟩)
set_option maxHeartbeats 4000000 in
set_option maxRecDepth 100000 in
theorem c_X3_left {l : Launch} {D : va_G} {cI cL cR : ClassId} {ad : Nat → Nat} {f : St} {t : Int32} {x : Int32} {n : Nat} (hn : f 7 0 = nI n) (hn24 : n ≤ 24)  : ctI l D vwCl (tyW cI cL cR) yX3_left wsX3_left { frames := 2, cells := 0, slots := 0, locals := 43 } [.ref (ad 0), .int x] (wM cI ad f t) (fun r u => u = wM cI ad f (tL f x) ∧ (tL f x = 0 → r = f 4 x.toNatClampNeg)) 0 0 := by
  refine ctI_of (cc := cX3_left) (maxL := 2) (ret := (some .int)) (by decide) rfl rfl (Nat.le_of_ble_eq_true rfl) (by simp [Value.category]) [(0, .ref (ad 0)), (1, .int x)] rfl ?_
  intro p e s m args below meth c sz h hrt hlk hnm
  have hin3 : ∀ x ∈ wsX30, x ∈ wsX3_left := by decide +kernel
  refine j_aload_nR h dX3_left_0 rfl ?_
  refine j_aload_nR h dX3_left_1 rfl ?_
  refine j_iload_n h dX3_left_2 rfl ?_
  refine j_callVI (vc := (RX3, TX3, 22)) h dX3_left_3 (c_X3_isLantern) (cwV 1 h.2.2.2.2.1 gX3_left_X3_isLantern rfl rfl rfl (by decide +kernel) ⟨Nat.le_of_ble_eq_true rfl, Nat.le_of_ble_eq_true rfl⟩) 0 rfl rfl rfl rfl (Nat.le_of_ble_eq_true rfl) ⟨Nat.le_of_ble_eq_true rfl, Nat.le_of_ble_eq_true rfl⟩ (fun r3 u3 hu3 => ?_)
  obtain ⟨rfl, rfl⟩ := hu3
  refine j_iconst (v := 1) h dX3_left_6 (by decide) ?_
  refine j_iconst (v := 1) h dX3_left_7 (by decide) ?_
  refine j_callVI (vc := (RX3, TX3, 22)) h dX3_left_8 (c_X3_goes) (cwV 3 h.2.2.2.2.1 gX3_left_X3_goes rfl rfl rfl (by decide +kernel) ⟨Nat.le_of_ble_eq_true rfl, Nat.le_of_ble_eq_true rfl⟩) 0 rfl rfl rfl rfl (Nat.le_of_ble_eq_true rfl) ⟨Nat.le_of_ble_eq_true rfl, Nat.le_of_ble_eq_true rfl⟩ (fun r8 u8 hu8 => ?_)
  obtain ⟨rfl, rfl⟩ := hu8
  refine j_if_eq (tgt := 23) h dX3_left_11 (by decide) (fun c11 => ?_) (fun c11 => ?_)
  · -- t
    have hT : ¬ tL f x = 0 := of_decide_eq_false (bi_0.mp c11)
    refine j_iconst (v := 0) h dX3_left_23 (by decide) ?_
    exact j_iret h hrt hlk dX3_left_24 (by decide) (by decide) (by first | exact ⟨rfl, fun z => absurd z hT⟩ | exact ⟨rfl, fun _ => by rw [hac]⟩)
  · -- f
    have hT : isL f x = true := gl_1.mp (of_decide_eq_true (bi_n0.mp c11))
    obtain ⟨a, ha, rfl⟩ := inB_ix (n := n) (by omega) (by rw [← hn]; exact hT)
    have hac : (nI a).toNatClampNeg = a := nI_clamp (by omega)
    refine j_aload_nR h dX3_left_14 rfl ?_
    refine m_get4 h hin3 (by decide +kernel) dX3_left_15 ?_
    refine j_iload_n h dX3_left_18 rfl ?_
    refine m_ald4 h dX3_left_19 rfl (by omega) ?_
    refine j_goto (tgt := 24) h dX3_left_20 (by decide) ?_
    exact j_iret h hrt hlk dX3_left_24 (by decide) (by decide) (by first | exact ⟨rfl, fun z => absurd z hT⟩ | exact ⟨rfl, fun _ => by rw [hac]⟩)
set_option maxHeartbeats 4000000 in
set_option maxRecDepth 100000 in
theorem c_X3_placeOf {l : Launch} {D : va_G} {cI cL cR : ClassId} {ad : Nat → Nat} {f : St} {t : Int32} {x : Int32} {n : Nat} (hn : f 7 0 = nI n) (hn24 : n ≤ 24) (ho : ∀ k, k < n → f 5 k = -1 ∨ ∃ r, r < 8 ∧ f 5 k = nI r) : ctI l D vwCl (tyW cI cL cR) yX3_placeOf wsX3_placeOf { frames := 2, cells := 0, slots := 0, locals := 43 } [.ref (ad 0), .int x] (wM cI ad f t) (fun r u => u = wM cI ad f (tL f x) ∧ (tL f x = 0 → r = if hpB f x.toNatClampNeg = true then pl f x.toNatClampNeg else -1)) 0 0 := by
  refine ctI_of (cc := cX3_placeOf) (maxL := 2) (ret := (some .int)) (by decide) rfl rfl (Nat.le_of_ble_eq_true rfl) (by simp [Value.category]) [(0, .ref (ad 0)), (1, .int x)] rfl ?_
  intro p e s m args below meth c sz h hrt hlk hnm
  have hin3 : ∀ x ∈ wsX30, x ∈ wsX3_placeOf := by decide +kernel
  refine j_aload_nR h dX3_placeOf_0 rfl ?_
  refine j_aload_nR h dX3_placeOf_1 rfl ?_
  refine j_iload_n h dX3_placeOf_2 rfl ?_
  refine j_callVI (vc := (RX3, TX3, 22)) h dX3_placeOf_3 (c_X3_isLantern) (cwV 1 h.2.2.2.2.1 gX3_placeOf_X3_isLantern rfl rfl rfl (by decide +kernel) ⟨Nat.le_of_ble_eq_true rfl, Nat.le_of_ble_eq_true rfl⟩) 0 rfl rfl rfl rfl (Nat.le_of_ble_eq_true rfl) ⟨Nat.le_of_ble_eq_true rfl, Nat.le_of_ble_eq_true rfl⟩ (fun r3 u3 hu3 => ?_)
  obtain ⟨rfl, rfl⟩ := hu3
  refine j_iconst (v := 1) h dX3_placeOf_6 (by decide) ?_
  refine j_iconst (v := 1) h dX3_placeOf_7 (by decide) ?_
  refine j_callVI (vc := (RX3, TX3, 22)) h dX3_placeOf_8 (c_X3_goes) (cwV 3 h.2.2.2.2.1 gX3_placeOf_X3_goes rfl rfl rfl (by decide +kernel) ⟨Nat.le_of_ble_eq_true rfl, Nat.le_of_ble_eq_true rfl⟩) 0 rfl rfl rfl rfl (Nat.le_of_ble_eq_true rfl) ⟨Nat.le_of_ble_eq_true rfl, Nat.le_of_ble_eq_true rfl⟩ (fun r8 u8 hu8 => ?_)
  obtain ⟨rfl, rfl⟩ := hu8
  refine j_if_eq (tgt := 34) h dX3_placeOf_11 (by decide) (fun c11 => ?_) (fun c11 => ?_)
  · -- t
    have hT : ¬ tL f x = 0 := of_decide_eq_false (bi_0.mp c11)
    refine j_iconst (v := 0) h dX3_placeOf_34 (by decide) ?_
    exact j_iret h hrt hlk dX3_placeOf_35 (by decide) (by decide) (by first | exact ⟨rfl, fun z => absurd z hT⟩ | exact ⟨rfl, fun _ => by rw [hac]; simp_all [bi]⟩)
  · -- f
    have hT : isL f x = true := gl_1.mp (of_decide_eq_true (bi_n0.mp c11))
    obtain ⟨a, ha, rfl⟩ := inB_ix (n := n) (by omega) (by rw [← hn]; exact hT)
    have hac : (nI a).toNatClampNeg = a := nI_clamp (by omega)
    refine j_aload_nR h dX3_placeOf_14 rfl ?_
    refine j_iload_n h dX3_placeOf_15 rfl ?_
    refine j_callVI (vc := (RX3, TX3, 22)) h dX3_placeOf_16 (c_X3_hasPlace (a := a) (by omega) (ho a ha)) (cwV 1 h.2.2.2.2.1 gX3_placeOf_X3_hasPlace rfl rfl rfl (by decide +kernel) ⟨Nat.le_of_ble_eq_true rfl, Nat.le_of_ble_eq_true rfl⟩) 0 rfl rfl rfl rfl (Nat.le_of_ble_eq_true rfl) ⟨Nat.le_of_ble_eq_true rfl, Nat.le_of_ble_eq_true rfl⟩ (fun r16 u16 hu16 => ?_)
    obtain ⟨rfl, rfl⟩ := hu16
    refine j_if_eq (tgt := 30) h dX3_placeOf_19 (by decide) (fun c19 => ?_) (fun c19 => ?_)
    · -- t
      refine j_iconst (v := (-1)) h dX3_placeOf_30 (by decide) ?_
      refine j_goto (tgt := 35) h dX3_placeOf_31 (by decide) ?_
      exact j_iret h hrt hlk dX3_placeOf_35 (by decide) (by decide) (by first | exact ⟨rfl, fun z => absurd z hT⟩ | exact ⟨rfl, fun _ => by rw [hac]; simp_all [bi]⟩)
    · -- f
      have hp : hpB f a = true := bi_n0.mp c19
      obtain ⟨r, hr8, hr⟩ := (ho a ha).resolve_left (by simp only [hpB, Bool.and_eq_true, decide_eq_true_eq] at hp; exact hp.1)
      refine j_aload_nR h dX3_placeOf_22 rfl ?_
      refine j_iload_n h dX3_placeOf_23 rfl ?_
      refine j_callVI (vc := (RX3, TX3, 22)) h dX3_placeOf_24 (c_X3_place (a := a) (r := r) (by omega) hr8 hr) (cwV 1 h.2.2.2.2.1 gX3_placeOf_X3_place rfl rfl rfl (by decide +kernel) ⟨Nat.le_of_ble_eq_true rfl, Nat.le_of_ble_eq_true rfl⟩) 0 rfl rfl rfl rfl (Nat.le_of_ble_eq_true rfl) ⟨Nat.le_of_ble_eq_true rfl, Nat.le_of_ble_eq_true rfl⟩ (fun r24 u24 hu24 => ?_)
      obtain ⟨rfl, rfl⟩ := hu24
      refine j_goto (tgt := 35) h dX3_placeOf_27 (by decide) ?_
      exact j_iret h hrt hlk dX3_placeOf_35 (by decide) (by decide) (by first | exact ⟨rfl, fun z => absurd z hT⟩ | exact ⟨rfl, fun _ => by rw [hac]; simp_all [bi]⟩)
set_option maxHeartbeats 4000000 in
set_option maxRecDepth 100000 in
theorem c_X3_sortOf {l : Launch} {D : va_G} {cI cL cR : ClassId} {ad : Nat → Nat} {f : St} {t : Int32} {x : Int32} {b : Nat} (hn : f 14 0 = nI b) (hn24 : b ≤ 8)  : ctI l D vwCl (tyW cI cL cR) yX3_sortOf wsX3_sortOf { frames := 2, cells := 0, slots := 0, locals := 43 } [.ref (ad 0), .int x] (wM cI ad f t) (fun r u => u = wM cI ad f (tF f x) ∧ (tF f x = 0 → r = f 10 x.toNatClampNeg)) 0 0 := by
  refine ctI_of (cc := cX3_sortOf) (maxL := 2) (ret := (some .int)) (by decide) rfl rfl (Nat.le_of_ble_eq_true rfl) (by simp [Value.category]) [(0, .ref (ad 0)), (1, .int x)] rfl ?_
  intro p e s m args below meth c sz h hrt hlk hnm
  have hin3 : ∀ x ∈ wsX30, x ∈ wsX3_sortOf := by decide +kernel
  refine j_aload_nR h dX3_sortOf_0 rfl ?_
  refine j_aload_nR h dX3_sortOf_1 rfl ?_
  refine j_iload_n h dX3_sortOf_2 rfl ?_
  refine j_callVI (vc := (RX3, TX3, 22)) h dX3_sortOf_3 (c_X3_isFloat) (cwV 1 h.2.2.2.2.1 gX3_sortOf_X3_isFloat rfl rfl rfl (by decide +kernel) ⟨Nat.le_of_ble_eq_true rfl, Nat.le_of_ble_eq_true rfl⟩) 0 rfl rfl rfl rfl (Nat.le_of_ble_eq_true rfl) ⟨Nat.le_of_ble_eq_true rfl, Nat.le_of_ble_eq_true rfl⟩ (fun r3 u3 hu3 => ?_)
  obtain ⟨rfl, rfl⟩ := hu3
  refine j_iconst (v := 1) h dX3_sortOf_6 (by decide) ?_
  refine j_iconst (v := 1) h dX3_sortOf_7 (by decide) ?_
  refine j_callVI (vc := (RX3, TX3, 22)) h dX3_sortOf_8 (c_X3_goes) (cwV 3 h.2.2.2.2.1 gX3_sortOf_X3_goes rfl rfl rfl (by decide +kernel) ⟨Nat.le_of_ble_eq_true rfl, Nat.le_of_ble_eq_true rfl⟩) 0 rfl rfl rfl rfl (Nat.le_of_ble_eq_true rfl) ⟨Nat.le_of_ble_eq_true rfl, Nat.le_of_ble_eq_true rfl⟩ (fun r8 u8 hu8 => ?_)
  obtain ⟨rfl, rfl⟩ := hu8
  refine j_if_eq (tgt := 23) h dX3_sortOf_11 (by decide) (fun c11 => ?_) (fun c11 => ?_)
  · -- t
    have hT : ¬ tF f x = 0 := of_decide_eq_false (bi_0.mp c11)
    refine j_iconst (v := 0) h dX3_sortOf_23 (by decide) ?_
    exact j_iret h hrt hlk dX3_sortOf_24 (by decide) (by decide) (by first | exact ⟨rfl, fun z => absurd z hT⟩ | exact ⟨rfl, fun _ => by rw [hac]⟩)
  · -- f
    have hT : isF f x = true := gl_1.mp (of_decide_eq_true (bi_n0.mp c11))
    obtain ⟨a, ha, rfl⟩ := inB_ix (n := b) (by omega) (by rw [← hn]; exact hT)
    have hac : (nI a).toNatClampNeg = a := nI_clamp (by omega)
    refine j_aload_nR h dX3_sortOf_14 rfl ?_
    refine m_get10 h hin3 (by decide +kernel) dX3_sortOf_15 ?_
    refine j_iload_n h dX3_sortOf_18 rfl ?_
    refine m_ald10 h dX3_sortOf_19 rfl (by omega) ?_
    refine j_goto (tgt := 24) h dX3_sortOf_20 (by decide) ?_
    exact j_iret h hrt hlk dX3_sortOf_24 (by decide) (by decide) (by first | exact ⟨rfl, fun z => absurd z hT⟩ | exact ⟨rfl, fun _ => by rw [hac]⟩)
set_option maxHeartbeats 4000000 in
set_option maxRecDepth 100000 in
theorem c_X3_front {l : Launch} {D : va_G} {cI cL cR : ClassId} {ad : Nat → Nat} {f : St} {t : Int32} {x : Int32} {b : Nat} (hn : f 14 0 = nI b) (hn24 : b ≤ 8)  : ctI l D vwCl (tyW cI cL cR) yX3_front wsX3_front { frames := 2, cells := 0, slots := 0, locals := 43 } [.ref (ad 0), .int x] (wM cI ad f t) (fun r u => u = wM cI ad f (tF f x) ∧ (tF f x = 0 → r = if f 10 x.toNatClampNeg = 1 then f 11 x.toNatClampNeg else -1)) 0 0 := by
  refine ctI_of (cc := cX3_front) (maxL := 2) (ret := (some .int)) (by decide) rfl rfl (Nat.le_of_ble_eq_true rfl) (by simp [Value.category]) [(0, .ref (ad 0)), (1, .int x)] rfl ?_
  intro p e s m args below meth c sz h hrt hlk hnm
  have hin3 : ∀ x ∈ wsX30, x ∈ wsX3_front := by decide +kernel
  refine j_aload_nR h dX3_front_0 rfl ?_
  refine j_aload_nR h dX3_front_1 rfl ?_
  refine j_iload_n h dX3_front_2 rfl ?_
  refine j_callVI (vc := (RX3, TX3, 22)) h dX3_front_3 (c_X3_isFloat) (cwV 1 h.2.2.2.2.1 gX3_front_X3_isFloat rfl rfl rfl (by decide +kernel) ⟨Nat.le_of_ble_eq_true rfl, Nat.le_of_ble_eq_true rfl⟩) 0 rfl rfl rfl rfl (Nat.le_of_ble_eq_true rfl) ⟨Nat.le_of_ble_eq_true rfl, Nat.le_of_ble_eq_true rfl⟩ (fun r3 u3 hu3 => ?_)
  obtain ⟨rfl, rfl⟩ := hu3
  refine j_iconst (v := 1) h dX3_front_6 (by decide) ?_
  refine j_iconst (v := 1) h dX3_front_7 (by decide) ?_
  refine j_callVI (vc := (RX3, TX3, 22)) h dX3_front_8 (c_X3_goes) (cwV 3 h.2.2.2.2.1 gX3_front_X3_goes rfl rfl rfl (by decide +kernel) ⟨Nat.le_of_ble_eq_true rfl, Nat.le_of_ble_eq_true rfl⟩) 0 rfl rfl rfl rfl (Nat.le_of_ble_eq_true rfl) ⟨Nat.le_of_ble_eq_true rfl, Nat.le_of_ble_eq_true rfl⟩ (fun r8 u8 hu8 => ?_)
  obtain ⟨rfl, rfl⟩ := hu8
  refine j_if_eq (tgt := 37) h dX3_front_11 (by decide) (fun c11 => ?_) (fun c11 => ?_)
  · -- t
    have hT : ¬ tF f x = 0 := of_decide_eq_false (bi_0.mp c11)
    refine j_iconst (v := 0) h dX3_front_37 (by decide) ?_
    exact j_iret h hrt hlk dX3_front_38 (by decide) (by decide) (by first | exact ⟨rfl, fun z => absurd z hT⟩ | exact ⟨rfl, fun _ => by rw [hac]; simp_all⟩)
  · -- f
    have hT : isF f x = true := gl_1.mp (of_decide_eq_true (bi_n0.mp c11))
    obtain ⟨a, ha, rfl⟩ := inB_ix (n := b) (by omega) (by rw [← hn]; exact hT)
    have hac : (nI a).toNatClampNeg = a := nI_clamp (by omega)
    refine j_aload_nR h dX3_front_14 rfl ?_
    refine m_get10 h hin3 (by decide +kernel) dX3_front_15 ?_
    refine j_iload_n h dX3_front_18 rfl ?_
    refine m_ald10 h dX3_front_19 rfl (by omega) ?_
    refine j_iconst (v := 1) h dX3_front_20 (by decide) ?_
    refine j_icmp_ne (tgt := 33) h dX3_front_21 (by decide) (fun c21 => ?_) (fun c21 => ?_)
    · -- t
      refine j_iconst (v := (-1)) h dX3_front_33 (by decide) ?_
      refine j_goto (tgt := 38) h dX3_front_34 (by decide) ?_
      exact j_iret h hrt hlk dX3_front_38 (by decide) (by decide) (by first | exact ⟨rfl, fun z => absurd z hT⟩ | exact ⟨rfl, fun _ => by rw [hac]; simp_all⟩)
    · -- f
      refine j_aload_nR h dX3_front_24 rfl ?_
      refine m_get11 h hin3 (by decide +kernel) dX3_front_25 ?_
      refine j_iload_n h dX3_front_28 rfl ?_
      refine m_ald11 h dX3_front_29 rfl (by omega) ?_
      refine j_goto (tgt := 38) h dX3_front_30 (by decide) ?_
      exact j_iret h hrt hlk dX3_front_38 (by decide) (by decide) (by first | exact ⟨rfl, fun z => absurd z hT⟩ | exact ⟨rfl, fun _ => by rw [hac]; simp_all⟩)
set_option maxHeartbeats 4000000 in
set_option maxRecDepth 100000 in
theorem c_X3_load {l : Launch} {D : va_G} {cI cL cR : ClassId} {ad : Nat → Nat} {f : St} {t : Int32} {x : Int32} {b : Nat} {n : Nat} (hn : f 14 0 = nI b) (hn24 : b ≤ 8) (hnn : f 7 0 = nI n) (hnn24 : n ≤ 24) : ctI l D vwCl (tyW cI cL cR) yX3_load wsX3_load { frames := 2, cells := 0, slots := 0, locals := 44 } [.ref (ad 0), .int x] (wM cI ad f t) (fun r u => u = wM cI ad f (tF f x) ∧ (tF f x = 0 → r = ldS f x n)) 0 0 := by
  refine ctI_of (cc := cX3_load) (maxL := 2) (ret := (some .int)) (by decide) rfl rfl (Nat.le_of_ble_eq_true rfl) (by simp [Value.category]) [(0, .ref (ad 0)), (1, .int x)] rfl ?_
  intro p e s m args below meth c sz h hrt hlk hnm
  have hin3 : ∀ x ∈ wsX30, x ∈ wsX3_load := by decide +kernel
  refine j_aload_nR h dX3_load_0 rfl ?_
  refine j_aload_nR h dX3_load_1 rfl ?_
  refine j_iload_n h dX3_load_2 rfl ?_
  refine j_callVI (vc := (RX3, TX3, 22)) h dX3_load_3 (c_X3_isFloat) (cwV 1 h.2.2.2.2.1 gX3_load_X3_isFloat rfl rfl rfl (by decide +kernel) ⟨Nat.le_of_ble_eq_true rfl, Nat.le_of_ble_eq_true rfl⟩) 0 rfl rfl rfl rfl (Nat.le_of_ble_eq_true rfl) ⟨Nat.le_of_ble_eq_true rfl, Nat.le_of_ble_eq_true rfl⟩ (fun r3 u3 hu3 => ?_)
  obtain ⟨rfl, rfl⟩ := hu3
  refine j_iconst (v := 1) h dX3_load_6 (by decide) ?_
  refine j_iconst (v := 1) h dX3_load_7 (by decide) ?_
  refine j_callVI (vc := (RX3, TX3, 22)) h dX3_load_8 (c_X3_goes) (cwV 3 h.2.2.2.2.1 gX3_load_X3_goes rfl rfl rfl (by decide +kernel) ⟨Nat.le_of_ble_eq_true rfl, Nat.le_of_ble_eq_true rfl⟩) 0 rfl rfl rfl rfl (Nat.le_of_ble_eq_true rfl) ⟨Nat.le_of_ble_eq_true rfl, Nat.le_of_ble_eq_true rfl⟩ (fun r8 u8 hu8 => ?_)
  obtain ⟨rfl, rfl⟩ := hu8
  refine j_if_eq (tgt := 22) h dX3_load_11 (by decide) (fun c11 => ?_) (fun c11 => ?_)
  · -- t
    have hT : ¬ tF f x = 0 := of_decide_eq_false (bi_0.mp c11)
    refine j_iconst (v := 0) h dX3_load_22 (by decide) ?_
    exact j_iret h hrt hlk dX3_load_23 (by decide) (by decide) (by first | exact ⟨rfl, fun z => absurd z hT⟩ | exact ⟨rfl, fun _ => rfl⟩)
  · -- f
    have hT : isF f x = true := gl_1.mp (of_decide_eq_true (bi_n0.mp c11))
    obtain ⟨a, ha, rfl⟩ := inB_ix (n := b) (by omega) (by rw [← hn]; exact hT)
    have hac : (nI a).toNatClampNeg = a := nI_clamp (by omega)
    refine j_aload_nR h dX3_load_14 rfl ?_
    refine j_iload_n h dX3_load_15 rfl ?_
    refine j_callVI (vc := (RX3, TX3, 22)) h dX3_load_16 (c_X3_loadOf (n := n) hnn hnn24) (cwV 1 h.2.2.2.2.1 gX3_load_X3_loadOf rfl rfl rfl (by decide +kernel) ⟨Nat.le_of_ble_eq_true rfl, Nat.le_of_ble_eq_true rfl⟩) 0 rfl rfl rfl rfl (Nat.le_of_ble_eq_true rfl) ⟨Nat.le_of_ble_eq_true rfl, Nat.le_of_ble_eq_true rfl⟩ (fun r16 u16 hu16 => ?_)
    obtain ⟨rfl, rfl⟩ := hu16
    refine j_goto (tgt := 23) h dX3_load_19 (by decide) ?_
    exact j_iret h hrt hlk dX3_load_23 (by decide) (by decide) (by first | exact ⟨rfl, fun z => absurd z hT⟩ | exact ⟨rfl, fun _ => rfl⟩)
set_option maxHeartbeats 4000000 in
set_option maxRecDepth 100000 in
theorem c_X3_nearest {l : Launch} {D : va_G} {cI cL cR : ClassId} {ad : Nat → Nat} {f : St} {t : Int32} {x : Int32} {n : Nat} (hn : f 7 0 = nI n) (hn24 : n ≤ 24) (ho : ∀ k, k < n → f 5 k = -1 ∨ ∃ r, r < 8 ∧ f 5 k = nI r) (hlit : ∀ k, k < n → f 3 k = 1 → ∃ r, r < 8 ∧ f 5 k = nI r) : ctI l D vwCl (tyW cI cL cR) yX3_nearest wsX3_nearest { frames := 2, cells := 0, slots := 0, locals := 44 } [.ref (ad 0), .int x] (wM cI ad f t) (fun r u => u = wM cI ad f (tL f x) ∧ (tL f x = 0 → r = if hpB f x.toNatClampNeg = true then nrS f x.toNatClampNeg n else -1)) 0 0 := by
  refine ctI_of (cc := cX3_nearest) (maxL := 5) (ret := (some .int)) (by decide) rfl rfl (Nat.le_of_ble_eq_true rfl) (by simp [Value.category]) [(0, .ref (ad 0)), (1, .int x)] rfl ?_
  intro p e s m args below meth c sz h hrt hlk hnm
  have hin3 : ∀ x ∈ wsX30, x ∈ wsX3_nearest := by decide +kernel
  refine j_aload_nR h dX3_nearest_0 rfl ?_
  refine j_aload_nR h dX3_nearest_1 rfl ?_
  refine j_iload_n h dX3_nearest_2 rfl ?_
  refine j_callVI (vc := (RX3, TX3, 22)) h dX3_nearest_3 (c_X3_isLantern) (cwV 1 h.2.2.2.2.1 gX3_nearest_X3_isLantern rfl rfl rfl (by decide +kernel) ⟨Nat.le_of_ble_eq_true rfl, Nat.le_of_ble_eq_true rfl⟩) 0 rfl rfl rfl rfl (Nat.le_of_ble_eq_true rfl) ⟨Nat.le_of_ble_eq_true rfl, Nat.le_of_ble_eq_true rfl⟩ (fun r3 u3 hu3 => ?_)
  obtain ⟨rfl, rfl⟩ := hu3
  refine j_iconst (v := 1) h dX3_nearest_6 (by decide) ?_
  refine j_iconst (v := 1) h dX3_nearest_7 (by decide) ?_
  refine j_callVI (vc := (RX3, TX3, 22)) h dX3_nearest_8 (c_X3_goes) (cwV 3 h.2.2.2.2.1 gX3_nearest_X3_goes rfl rfl rfl (by decide +kernel) ⟨Nat.le_of_ble_eq_true rfl, Nat.le_of_ble_eq_true rfl⟩) 0 rfl rfl rfl rfl (Nat.le_of_ble_eq_true rfl) ⟨Nat.le_of_ble_eq_true rfl, Nat.le_of_ble_eq_true rfl⟩ (fun r8 u8 hu8 => ?_)
  obtain ⟨rfl, rfl⟩ := hu8
  refine j_if_ne (tgt := 16) h dX3_nearest_11 (by decide) (fun c11 => ?_) (fun c11 => ?_)
  · -- t
    have hT : isL f x = true := gl_1.mp (of_decide_eq_true (bi_n0.mp c11))
    obtain ⟨a, ha, rfl⟩ := inB_ix (n := n) (by omega) (by rw [← hn]; exact hT)
    have hac : (nI a).toNatClampNeg = a := nI_clamp (by omega)
    refine j_iconst (v := (-1)) h dX3_nearest_16 (by decide) ?_
    refine j_istore_n (i := 2) h dX3_nearest_17 rfl (by decide) ?_
    refine j_iconst (v := 0) h dX3_nearest_18 (by decide) ?_
    refine j_istore_n (i := 3) h dX3_nearest_19 rfl (by decide) ?_
    refine jj_loop (fun i : Nat => [(0, .ref (ad 0)), (1, .int (nI a)), (2, .int (nrS f a i)), (3, .int (nI i))]) (fun i : Nat => wM cI ad f (tL f (nI a))) (fun i : Nat => i ≤ n ∧ (hpB f a = true ∨ i = 0)) (fun i : Nat => n - i) 0 ⟨rfl, rfl, rfl, rfl, trivial⟩ rfl ⟨by omega, Or.inr rfl⟩ (fun i hi ih => ?_)
    obtain ⟨hi, hi0⟩ := hi
    refine j_iload_n h dX3_nearest_20 rfl ?_
    refine j_aload_nR h dX3_nearest_21 rfl ?_
    refine m_get7 h hin3 (by decide +kernel) dX3_nearest_22 ?_
    refine j_icmp_ge (tgt := 83) h dX3_nearest_25 (by decide) (fun c25 => ?_) (fun c25 => ?_)
    · -- t
      rw [hn, nI_leI (by omega) (by omega)] at c25
      refine j_iload_n h dX3_nearest_83 rfl ?_
      exact j_iret h hrt hlk dX3_nearest_84 (by decide) (by decide) (⟨rfl, fun _ => by rw [hac]; first | rw [if_neg hp, (hi0.resolve_left hp)]; rfl | (rw [show i = n by omega, if_pos (hi0.resolve_right (by omega))])⟩)
    · -- f
      rw [hn, nI_leI (by omega) (by omega)] at c25
      refine j_aload_nR h dX3_nearest_28 rfl ?_
      refine j_iload_n h dX3_nearest_29 rfl ?_
      refine j_callVI (vc := (RX3, TX3, 22)) h dX3_nearest_30 (c_X3_hasPlace (a := a) (by omega) (ho a ha)) (cwV 1 h.2.2.2.2.1 gX3_nearest_X3_hasPlace rfl rfl rfl (by decide +kernel) ⟨Nat.le_of_ble_eq_true rfl, Nat.le_of_ble_eq_true rfl⟩) 0 rfl rfl rfl rfl (Nat.le_of_ble_eq_true rfl) ⟨Nat.le_of_ble_eq_true rfl, Nat.le_of_ble_eq_true rfl⟩ (fun r30 u30 hu30 => ?_)
      obtain ⟨rfl, rfl⟩ := hu30
      refine j_if_eq (tgt := 83) h dX3_nearest_33 (by decide) (fun c33 => ?_) (fun c33 => ?_)
      · -- t
        have hp : ¬ hpB f a = true := by rw [bi_0.mp c33]; decide
        refine j_iload_n h dX3_nearest_83 rfl ?_
        exact j_iret h hrt hlk dX3_nearest_84 (by decide) (by decide) (⟨rfl, fun _ => by rw [hac]; first | rw [if_neg hp, (hi0.resolve_left hp)]; rfl | (rw [show i = n by omega, if_pos (hi0.resolve_right (by omega))])⟩)
      · -- f
        have hp : hpB f a = true := bi_n0.mp c33
        obtain ⟨r, hr8, hr⟩ := (ho a ha).resolve_left (by simp only [hpB, Bool.and_eq_true, decide_eq_true_eq] at hp; exact hp.1)
        refine j_iload_n h dX3_nearest_36 rfl ?_
        refine j_iload_n h dX3_nearest_37 rfl ?_
        refine j_icmp_eq (tgt := 77) h dX3_nearest_38 (by decide) (fun c38 => ?_) (fun c38 => ?_)
        · -- t
          rw [nI_eq (by omega) (by omega)] at c38
          refine j_iinc h dX3_nearest_77 rfl rfl (by decide) ?_
          refine j_goto (tgt := 20) h dX3_nearest_80 (by decide) ?_
          exact ih (i + 1) ⟨by omega, Or.inl hp⟩ (by omega) _ ⟨rfl, rfl, by first | (simp_all [nrS, lget]; done) | (simp [nrS, lget, c38, c48, c61, Int32.not_lt.mpr c67]; done), by simp [lget, nI_succ], trivial⟩
        · -- f
          rw [nI_eq (by omega) (by omega)] at c38
          refine j_aload_nR h dX3_nearest_41 rfl ?_
          refine m_get3 h hin3 (by decide +kernel) dX3_nearest_42 ?_
          refine j_iload_n h dX3_nearest_45 rfl ?_
          refine m_ald3 h dX3_nearest_46 rfl (by omega) ?_
          refine j_iconst (v := 1) h dX3_nearest_47 (by decide) ?_
          refine j_icmp_ne (tgt := 77) h dX3_nearest_48 (by decide) (fun c48 => ?_) (fun c48 => ?_)
          · -- t
            refine j_iinc h dX3_nearest_77 rfl rfl (by decide) ?_
            refine j_goto (tgt := 20) h dX3_nearest_80 (by decide) ?_
            exact ih (i + 1) ⟨by omega, Or.inl hp⟩ (by omega) _ ⟨rfl, rfl, by first | (simp_all [nrS, lget]; done) | (simp [nrS, lget, c38, c48, c61, Int32.not_lt.mpr c67]; done), by simp [lget, nI_succ], trivial⟩
          · -- f
            obtain ⟨rk, hrk8, hrk⟩ := hlit i (by omega) c48
            refine j_aload_nR h dX3_nearest_51 rfl ?_
            refine j_iload_n h dX3_nearest_52 rfl ?_
            refine j_iload_n h dX3_nearest_53 rfl ?_
            refine j_callVI (vc := (RX3, TX3, 22)) h dX3_nearest_54 (c_X3_distance (a := i) (r := rk) (b := a) (r2 := r) (by omega) hrk8 hrk (by omega) hr8 hr) (cwV 2 h.2.2.2.2.1 gX3_nearest_X3_distance rfl rfl rfl (by decide +kernel) ⟨Nat.le_of_ble_eq_true rfl, Nat.le_of_ble_eq_true rfl⟩) 0 rfl rfl rfl rfl (Nat.le_of_ble_eq_true rfl) ⟨Nat.le_of_ble_eq_true rfl, Nat.le_of_ble_eq_true rfl⟩ (fun r54 u54 hu54 => ?_)
            obtain ⟨rfl, rfl⟩ := hu54
            refine j_istore h dX3_nearest_57 (by decide) ?_
            refine j_iload_n h dX3_nearest_59 rfl ?_
            refine j_iconst (v := (-1)) h dX3_nearest_60 (by decide) ?_
            refine j_icmp_eq (tgt := 70) h dX3_nearest_61 (by decide) (fun c61 => ?_) (fun c61 => ?_)
            · -- t
              refine j_iload h dX3_nearest_70 rfl ?_
              refine j_goto (tgt := 76) h dX3_nearest_72 (by decide) ?_
              refine j_istore_n (i := 2) h dX3_nearest_76 rfl (by decide) ?_
              refine j_iinc h dX3_nearest_77 rfl rfl (by decide) ?_
              refine j_goto (tgt := 20) h dX3_nearest_80 (by decide) ?_
              exact ih (i + 1) ⟨by omega, Or.inl hp⟩ (by omega) _ ⟨rfl, rfl, by first | (simp_all [nrS, lget]; done) | (simp [nrS, lget, c38, c48, c61, Int32.not_lt.mpr c67]; done), by simp [lget, nI_succ], trivial⟩
            · -- f
              refine j_iload h dX3_nearest_64 rfl ?_
              refine j_iload_n h dX3_nearest_66 rfl ?_
              refine j_icmp_ge (tgt := 75) h dX3_nearest_67 (by decide) (fun c67 => ?_) (fun c67 => ?_)
              · -- t
                refine j_iload_n h dX3_nearest_75 rfl ?_
                refine j_istore_n (i := 2) h dX3_nearest_76 rfl (by decide) ?_
                refine j_iinc h dX3_nearest_77 rfl rfl (by decide) ?_
                refine j_goto (tgt := 20) h dX3_nearest_80 (by decide) ?_
                exact ih (i + 1) ⟨by omega, Or.inl hp⟩ (by omega) _ ⟨rfl, rfl, by first | (simp_all [nrS, lget]; done) | (simp [nrS, lget, c38, c48, c61, Int32.not_lt.mpr c67]; done), by simp [lget, nI_succ], trivial⟩
              · -- f
                rw [Int32.not_le] at c67
                refine j_iload h dX3_nearest_70 rfl ?_
                refine j_goto (tgt := 76) h dX3_nearest_72 (by decide) ?_
                refine j_istore_n (i := 2) h dX3_nearest_76 rfl (by decide) ?_
                refine j_iinc h dX3_nearest_77 rfl rfl (by decide) ?_
                refine j_goto (tgt := 20) h dX3_nearest_80 (by decide) ?_
                exact ih (i + 1) ⟨by omega, Or.inl hp⟩ (by omega) _ ⟨rfl, rfl, by first | (simp_all [nrS, lget]; done) | (simp [nrS, lget, c38, c48, c61, Int32.not_lt.mpr c67]; done), by simp [lget, nI_succ], trivial⟩
  · -- f
    have hT : ¬ tL f x = 0 := of_decide_eq_false (bi_0.mp c11)
    refine j_iconst (v := 0) h dX3_nearest_14 (by decide) ?_
    exact j_iret h hrt hlk dX3_nearest_15 (by decide) (by decide) (⟨rfl, fun z => absurd z hT⟩)
set_option maxHeartbeats 4000000 in
set_option maxRecDepth 100000 in
theorem c_X3_nearestOfAll {l : Launch} {D : va_G} {cI cL cR : ClassId} {ad : Nat → Nat} {f : St} {t : Int32} {x : Int32} {n : Nat} (hn : f 7 0 = nI n) (hn24 : n ≤ 24) (ho : ∀ k, k < n → f 5 k = -1 ∨ ∃ r, r < 8 ∧ f 5 k = nI r) (hlit : ∀ k, k < n → f 3 k = 1 → ∃ r, r < 8 ∧ f 5 k = nI r) : ctI l D vwCl (tyW cI cL cR) yX3_nearestOfAll wsX3_nearestOfAll { frames := 3, cells := 0, slots := 0, locals := 68 } [.ref (ad 0), .int x] (wM cI ad f t) (fun r u => u = wM cI ad f (tL f x) ∧ (tL f x = 0 → r = if hpB f x.toNatClampNeg = true then nrS f x.toNatClampNeg n else -1)) 0 0 := by
  refine ctI_of (cc := cX3_nearestOfAll) (maxL := 2) (ret := (some .int)) (by decide) rfl rfl (Nat.le_of_ble_eq_true rfl) (by simp [Value.category]) [(0, .ref (ad 0)), (1, .int x)] rfl ?_
  intro p e s m args below meth c sz h hrt hlk hnm
  have hin3 : ∀ x ∈ wsX30, x ∈ wsX3_nearestOfAll := by decide +kernel
  refine j_aload_nR h dX3_nearestOfAll_0 rfl ?_
  refine j_iload_n h dX3_nearestOfAll_1 rfl ?_
  refine j_callVI (vc := (RX3, TX3, 22)) h dX3_nearestOfAll_2 (c_X3_nearest (n := n) hn hn24 ho hlit) (cwV 1 h.2.2.2.2.1 gX3_nearestOfAll_X3_nearest rfl rfl rfl (by decide +kernel) ⟨Nat.le_of_ble_eq_true rfl, Nat.le_of_ble_eq_true rfl⟩) 0 rfl rfl rfl rfl (Nat.le_of_ble_eq_true rfl) ⟨Nat.le_of_ble_eq_true rfl, Nat.le_of_ble_eq_true rfl⟩ (fun r2 u2 hu2 => ?_)
  obtain ⟨rfl, hq2⟩ := hu2
  exact j_iret h hrt hlk dX3_nearestOfAll_5 (by decide) (by decide) (⟨rfl, hq2⟩)
set_option maxHeartbeats 4000000 in
set_option maxRecDepth 100000 in
theorem c_X3_time {l : Launch} {D : va_G} {cI cL cR : ClassId} {ad : Nat → Nat} {f : St} {t : Int32}  : ctI l D vwCl (tyW cI cL cR) yX3_time wsX3_time { frames := 0, cells := 0, slots := 0, locals := 0 } [.ref (ad 0)] (wM cI ad f t) (fun r u => r = f 18 0 ∧ u = wM cI ad f 0) 0 0 := by
  refine ctI_of (cc := cX3_time) (maxL := 1) (ret := (some .int)) (by decide) rfl rfl (Nat.le_of_ble_eq_true rfl) (by simp [Value.category]) [(0, .ref (ad 0))] rfl ?_
  intro p e s m args below meth c sz h hrt hlk hnm
  have hin3 : ∀ x ∈ wsX30, x ∈ wsX3_time := by decide +kernel
  refine j_aload_nR h dX3_time_0 rfl ?_
  refine j_iconst (v := 0) h dX3_time_1 (by decide) ?_
  refine m_put21 h hin3 (by decide +kernel) dX3_time_2 ?_
  refine j_aload_nR h dX3_time_5 rfl ?_
  refine m_get18 h hin3 (by decide +kernel) dX3_time_6 ?_
  exact j_iret h hrt hlk dX3_time_9 (by decide) (by decide) (⟨rfl, rfl⟩)
set_option maxHeartbeats 4000000 in
set_option maxRecDepth 100000 in
theorem c_X3_lanterns {l : Launch} {D : va_G} {cI cL cR : ClassId} {ad : Nat → Nat} {f : St} {t : Int32}  : ctI l D vwCl (tyW cI cL cR) yX3_lanterns wsX3_lanterns { frames := 0, cells := 0, slots := 0, locals := 0 } [.ref (ad 0)] (wM cI ad f t) (fun r u => r = f 7 0 ∧ u = wM cI ad f 0) 0 0 := by
  refine ctI_of (cc := cX3_lanterns) (maxL := 1) (ret := (some .int)) (by decide) rfl rfl (Nat.le_of_ble_eq_true rfl) (by simp [Value.category]) [(0, .ref (ad 0))] rfl ?_
  intro p e s m args below meth c sz h hrt hlk hnm
  have hin3 : ∀ x ∈ wsX30, x ∈ wsX3_lanterns := by decide +kernel
  refine j_aload_nR h dX3_lanterns_0 rfl ?_
  refine j_iconst (v := 0) h dX3_lanterns_1 (by decide) ?_
  refine m_put21 h hin3 (by decide +kernel) dX3_lanterns_2 ?_
  refine j_aload_nR h dX3_lanterns_5 rfl ?_
  refine m_get7 h hin3 (by decide +kernel) dX3_lanterns_6 ?_
  exact j_iret h hrt hlk dX3_lanterns_9 (by decide) (by decide) (⟨rfl, rfl⟩)
set_option maxHeartbeats 4000000 in
set_option maxRecDepth 100000 in
theorem c_X3_blownOut {l : Launch} {D : va_G} {cI cL cR : ClassId} {ad : Nat → Nat} {f : St} {t : Int32}  : ctI l D vwCl (tyW cI cL cR) yX3_blownOut wsX3_blownOut { frames := 0, cells := 0, slots := 0, locals := 0 } [.ref (ad 0)] (wM cI ad f t) (fun r u => r = f 19 0 ∧ u = wM cI ad f 0) 0 0 := by
  refine ctI_of (cc := cX3_blownOut) (maxL := 1) (ret := (some .int)) (by decide) rfl rfl (Nat.le_of_ble_eq_true rfl) (by simp [Value.category]) [(0, .ref (ad 0))] rfl ?_
  intro p e s m args below meth c sz h hrt hlk hnm
  have hin3 : ∀ x ∈ wsX30, x ∈ wsX3_blownOut := by decide +kernel
  refine j_aload_nR h dX3_blownOut_0 rfl ?_
  refine j_iconst (v := 0) h dX3_blownOut_1 (by decide) ?_
  refine m_put21 h hin3 (by decide +kernel) dX3_blownOut_2 ?_
  refine j_aload_nR h dX3_blownOut_5 rfl ?_
  refine m_get19 h hin3 (by decide +kernel) dX3_blownOut_6 ?_
  exact j_iret h hrt hlk dX3_blownOut_9 (by decide) (by decide) (⟨rfl, rfl⟩)
set_option maxHeartbeats 4000000 in
set_option maxRecDepth 100000 in
theorem c_X3_ordered {l : Launch} {D : va_G} {cI cL cR : ClassId} {ad : Nat → Nat} {f : St} {t : Int32}  : ctI l D vwCl (tyW cI cL cR) yX3_ordered wsX3_ordered { frames := 0, cells := 0, slots := 0, locals := 0 } [.ref (ad 0)] (wM cI ad f t) (fun r u => r = f 20 0 ∧ u = wM cI ad f 0) 0 0 := by
  refine ctI_of (cc := cX3_ordered) (maxL := 1) (ret := (some .int)) (by decide) rfl rfl (Nat.le_of_ble_eq_true rfl) (by simp [Value.category]) [(0, .ref (ad 0))] rfl ?_
  intro p e s m args below meth c sz h hrt hlk hnm
  have hin3 : ∀ x ∈ wsX30, x ∈ wsX3_ordered := by decide +kernel
  refine j_aload_nR h dX3_ordered_0 rfl ?_
  refine j_iconst (v := 0) h dX3_ordered_1 (by decide) ?_
  refine m_put21 h hin3 (by decide +kernel) dX3_ordered_2 ?_
  refine j_aload_nR h dX3_ordered_5 rfl ?_
  refine m_get20 h hin3 (by decide +kernel) dX3_ordered_6 ?_
  exact j_iret h hrt hlk dX3_ordered_9 (by decide) (by decide) (⟨rfl, rfl⟩)
end
section
set_option maxHeartbeats 4000000 in
set_option maxRecDepth 100000 in
theorem c_X3_make {l : Launch} {D : va_G} {cI cL cR : ClassId} {ad : Nat → Nat} {f : St} {t : Int32} {x y z : Int32} {n : Nat} (hn : f 7 0 = nI n) (hn24 : n ≤ 24) : ctI l D vwCl (tyW cI cL cR) yX3_make wsX3_make { frames := 1, cells := 0, slots := 0, locals := 23 } [.ref (ad 0), .int x, .int y, .int z] (wM cI ad f t) (fun r u => (¬ tMake f x y z = 0 → u = wM cI ad f (tMake f x y z)) ∧ (tMake f x y z = 0 → n < 24 ∧ r = nI n ∧ u = wM cI ad (up2 (up2 (up2 (up2 (up2 (up2 f 0 n x) 1 n y) 2 n z) 4 n (20 * z)) 5 n (-1)) 7 0 (nI (n + 1))) 0)) 0 0 := by
  refine ctI_of (cc := cX3_make) (maxL := 4) (ret := (some .int)) (by decide) rfl rfl (Nat.le_of_ble_eq_true rfl) (by simp [Value.category]) [(0, .ref (ad 0)), (1, .int x), (2, .int y), (3, .int z)] rfl ?_
  intro p e s m args below meth c sz h hrt hlk hnm
  have hin3 : ∀ x ∈ wsX30, x ∈ wsX3_make := by decide +kernel
  refine j_aload_nR h dX3_make_0 rfl ?_
  refine jj_cut 34 [(0, .ref (ad 0)), (1, .int x), (2, .int y), (3, .int z)] [.ref (ad 0)] (fun v => v = bi (inB x 4 12 && inB y 0 3 && inB z 1 4)) (fun v34 hv34 => ?_) (fun cut34 => ?_)
  · -- behind
    obtain rfl := hv34
    refine j_aload_nR h dX3_make_34 rfl ?_
    refine jj_cut 48 [(0, .ref (ad 0)), (1, .int x), (2, .int y), (3, .int z)] [.int (bi (inB x 4 12 && inB y 0 3 && inB z 1 4)), .ref (ad 0)] (fun v => v = bi (decide (f 7 0 < 24))) (fun v48 hv48 => ?_) (fun cut48 => ?_)
    · -- behind
      obtain rfl := hv48
      refine j_iconst (v := 1) h dX3_make_48 (by decide) ?_
      refine j_callVI (vc := (RX3, TX3, 22)) h dX3_make_49 (c_X3_goes) (cwV 3 h.2.2.2.2.1 gX3_make_X3_goes rfl rfl rfl (by decide +kernel) ⟨Nat.le_of_ble_eq_true rfl, Nat.le_of_ble_eq_true rfl⟩) 0 rfl rfl rfl rfl (Nat.le_of_ble_eq_true rfl) ⟨Nat.le_of_ble_eq_true rfl, Nat.le_of_ble_eq_true rfl⟩ (fun r49 u49 hu49 => ?_)
      obtain ⟨rfl, rfl⟩ := hu49
      refine j_if_ne (tgt := 57) h dX3_make_52 (by decide) (fun c52 => ?_) (fun c52 => ?_)
      · -- t
        have hT : tMake f x y z = 0 := of_decide_eq_true (bi_n0.mp c52)
        obtain ⟨hA, hB⟩ := gl_2.mp hT
        have hn2 : n < 24 := by rw [hn] at hB; exact (nI_ltI (by omega) (by decide)).mp (of_decide_eq_true hB)
        refine j_aload_nR h dX3_make_57 rfl ?_
        refine m_get0 h hin3 (by decide +kernel) dX3_make_58 ?_
        refine j_aload_nR h dX3_make_61 rfl ?_
        refine m_get7 h hin3 (by decide +kernel) dX3_make_62 ?_
        refine j_iload_n h dX3_make_65 rfl ?_
        refine m_ast0 h dX3_make_66 hn (by omega) ?_
        refine j_aload_nR h dX3_make_67 rfl ?_
        refine m_get1 h hin3 (by decide +kernel) dX3_make_68 ?_
        refine j_aload_nR h dX3_make_71 rfl ?_
        refine m_get7 h hin3 (by decide +kernel) dX3_make_72 ?_
        refine j_iload_n h dX3_make_75 rfl ?_
        refine m_ast1 h dX3_make_76 hn (by omega) ?_
        refine j_aload_nR h dX3_make_77 rfl ?_
        refine m_get2 h hin3 (by decide +kernel) dX3_make_78 ?_
        refine j_aload_nR h dX3_make_81 rfl ?_
        refine m_get7 h hin3 (by decide +kernel) dX3_make_82 ?_
        refine j_iload_n h dX3_make_85 rfl ?_
        refine m_ast2 h dX3_make_86 hn (by omega) ?_
        refine j_aload_nR h dX3_make_87 rfl ?_
        refine m_get4 h hin3 (by decide +kernel) dX3_make_88 ?_
        refine j_aload_nR h dX3_make_91 rfl ?_
        refine m_get7 h hin3 (by decide +kernel) dX3_make_92 ?_
        refine j_bipush (v := 20) h dX3_make_95 (by decide) ?_
        refine j_iload_n h dX3_make_97 rfl ?_
        refine j_imul h dX3_make_98 ?_
        refine m_ast4 h dX3_make_99 hn (by omega) ?_
        refine j_aload_nR h dX3_make_100 rfl ?_
        refine m_get5 h hin3 (by decide +kernel) dX3_make_101 ?_
        refine j_aload_nR h dX3_make_104 rfl ?_
        refine m_get7 h hin3 (by decide +kernel) dX3_make_105 ?_
        refine j_iconst (v := (-1)) h dX3_make_108 (by decide) ?_
        refine m_ast5 h dX3_make_109 hn (by omega) ?_
        refine j_aload_nR h dX3_make_110 rfl ?_
        refine j_dup h dX3_make_111 rfl ?_
        refine m_get7 h hin3 (by decide +kernel) dX3_make_112 ?_
        refine j_iconst (v := 1) h dX3_make_115 (by decide) ?_
        refine j_iadd h dX3_make_116 ?_
        refine m_put7 h hin3 (by decide +kernel) dX3_make_117 ?_
        refine j_aload_nR h dX3_make_120 rfl ?_
        refine m_get7 h hin3 (by decide +kernel) dX3_make_121 ?_
        refine j_iconst (v := 1) h dX3_make_124 (by decide) ?_
        refine j_isub h dX3_make_125 ?_
        exact j_iret h hrt hlk dX3_make_126 (by decide) (by decide) (⟨fun z => absurd hT z, fun _ => ⟨hn2, by show f 7 0 + 1 - 1 = nI n; rw [hn]; exact pk_addsub _ _, by rw [← nI_1, ← hn]; exact congrArg (wM cI ad _) hT⟩⟩)
      · -- f
        have hT : ¬ tMake f x y z = 0 := of_decide_eq_false (bi_0.mp c52)
        refine j_iconst (v := 0) h dX3_make_55 (by decide) ?_
        exact j_iret h hrt hlk dX3_make_56 (by decide) (by decide) (⟨fun _ => rfl, fun z => absurd z hT⟩)
    · -- ahead
      refine m_get7 h hin3 (by decide +kernel) dX3_make_35 ?_
      refine j_bipush (v := 24) h dX3_make_38 (by decide) ?_
      refine j_icmp_ge (tgt := 47) h dX3_make_40 (by decide) (fun c40 => ?_) (fun c40 => ?_)
      · -- t
        refine j_iconst (v := 0) h dX3_make_47 (by decide) ?_
        exact cut48 _ (by simp_all [bi, ← Int32.not_le]) _ ⟨rfl, rfl, rfl, rfl, trivial⟩
      · -- f
        refine j_iconst (v := 1) h dX3_make_43 (by decide) ?_
        refine j_goto (tgt := 48) h dX3_make_44 (by decide) ?_
        exact cut48 _ (by simp_all [bi, ← Int32.not_le]) _ ⟨rfl, rfl, rfl, rfl, trivial⟩
  · -- ahead
    refine j_iload_n h dX3_make_1 rfl ?_
    refine j_iconst (v := 4) h dX3_make_2 (by decide) ?_
    refine j_bipush (v := 12) h dX3_make_3 (by decide) ?_
    refine j_callSI h dX3_make_5 (c_X3_in) (va_cwS 3 h.2.2.2.2.1 gX3_make_X3_in rfl rfl rfl (by decide +kernel) ⟨Nat.le_of_ble_eq_true rfl, Nat.le_of_ble_eq_true rfl⟩) rfl rfl (Nat.le_of_ble_eq_true rfl) ⟨Nat.le_of_ble_eq_true rfl, Nat.le_of_ble_eq_true rfl⟩ (fun r5 u5 hu5 => ?_)
    obtain ⟨rfl, rfl⟩ := hu5
    refine j_if_eq (tgt := 33) h dX3_make_8 (by decide) (fun c8 => ?_) (fun c8 => ?_)
    · -- t
      refine j_iconst (v := 0) h dX3_make_33 (by decide) ?_
      exact cut34 _ (by simp_all [bi]) _ ⟨rfl, rfl, rfl, rfl, trivial⟩
    · -- f
      refine j_iload_n h dX3_make_11 rfl ?_
      refine j_iconst (v := 0) h dX3_make_12 (by decide) ?_
      refine j_iconst (v := 3) h dX3_make_13 (by decide) ?_
      refine j_callSI h dX3_make_14 (c_X3_in) (va_cwS 3 h.2.2.2.2.1 gX3_make_X3_in rfl rfl rfl (by decide +kernel) ⟨Nat.le_of_ble_eq_true rfl, Nat.le_of_ble_eq_true rfl⟩) rfl rfl (Nat.le_of_ble_eq_true rfl) ⟨Nat.le_of_ble_eq_true rfl, Nat.le_of_ble_eq_true rfl⟩ (fun r14 u14 hu14 => ?_)
      obtain ⟨rfl, rfl⟩ := hu14
      refine j_if_eq (tgt := 33) h dX3_make_17 (by decide) (fun c17 => ?_) (fun c17 => ?_)
      · -- t
        refine j_iconst (v := 0) h dX3_make_33 (by decide) ?_
        exact cut34 _ (by simp_all [bi]) _ ⟨rfl, rfl, rfl, rfl, trivial⟩
      · -- f
        refine j_iload_n h dX3_make_20 rfl ?_
        refine j_iconst (v := 1) h dX3_make_21 (by decide) ?_
        refine j_iconst (v := 4) h dX3_make_22 (by decide) ?_
        refine j_callSI h dX3_make_23 (c_X3_in) (va_cwS 3 h.2.2.2.2.1 gX3_make_X3_in rfl rfl rfl (by decide +kernel) ⟨Nat.le_of_ble_eq_true rfl, Nat.le_of_ble_eq_true rfl⟩) rfl rfl (Nat.le_of_ble_eq_true rfl) ⟨Nat.le_of_ble_eq_true rfl, Nat.le_of_ble_eq_true rfl⟩ (fun r23 u23 hu23 => ?_)
        obtain ⟨rfl, rfl⟩ := hu23
        refine j_if_eq (tgt := 33) h dX3_make_26 (by decide) (fun c26 => ?_) (fun c26 => ?_)
        · -- t
          refine j_iconst (v := 0) h dX3_make_33 (by decide) ?_
          exact cut34 _ (by simp_all [bi]) _ ⟨rfl, rfl, rfl, rfl, trivial⟩
        · -- f
          refine j_iconst (v := 1) h dX3_make_29 (by decide) ?_
          refine j_goto (tgt := 34) h dX3_make_30 (by decide) ?_
          exact cut34 _ (by simp_all [bi]) _ ⟨rfl, rfl, rfl, rfl, trivial⟩
set_option maxHeartbeats 4000000 in
set_option maxRecDepth 100000 in
theorem c_X3_build {l : Launch} {D : va_G} {cI cL cR : ClassId} {ad : Nat → Nat} {f : St} {t : Int32} {x y : Int32} {b : Nat} (hb : f 14 0 = nI b) (hb8 : b ≤ 8) : ctI l D vwCl (tyW cI cL cR) yX3_build wsX3_build { frames := 1, cells := 0, slots := 0, locals := 23 } [.ref (ad 0), .int x, .int y] (wM cI ad f t) (fun r u => (¬ tBuild f x y = 0 → u = wM cI ad f (tBuild f x y)) ∧ (tBuild f x y = 0 → b < 8 ∧ r = nI b ∧ u = wM cI ad (up2 (up2 (up2 f 8 b x) 9 b y) 14 0 (nI (b + 1))) 0)) 0 0 := by
  refine ctI_of (cc := cX3_build) (maxL := 3) (ret := (some .int)) (by decide) rfl rfl (Nat.le_of_ble_eq_true rfl) (by simp [Value.category]) [(0, .ref (ad 0)), (1, .int x), (2, .int y)] rfl ?_
  intro p e s m args below meth c sz h hrt hlk hnm
  have hin3 : ∀ x ∈ wsX30, x ∈ wsX3_build := by decide +kernel
  refine j_aload_nR h dX3_build_0 rfl ?_
  refine jj_cut 28 [(0, .ref (ad 0)), (1, .int x), (2, .int y)] [.ref (ad 0)] (fun v => v = bi (inB x 1 9 && inB y 100 9999)) (fun v28 hv28 => ?_) (fun cut28 => ?_)
  · -- behind
    obtain rfl := hv28
    refine j_aload_nR h dX3_build_28 rfl ?_
    refine jj_cut 42 [(0, .ref (ad 0)), (1, .int x), (2, .int y)] [.int (bi (inB x 1 9 && inB y 100 9999)), .ref (ad 0)] (fun v => v = bi (decide (f 14 0 < 8))) (fun v42 hv42 => ?_) (fun cut42 => ?_)
    · -- behind
      obtain rfl := hv42
      refine j_iconst (v := 1) h dX3_build_42 (by decide) ?_
      refine j_callVI (vc := (RX3, TX3, 22)) h dX3_build_43 (c_X3_goes) (cwV 3 h.2.2.2.2.1 gX3_build_X3_goes rfl rfl rfl (by decide +kernel) ⟨Nat.le_of_ble_eq_true rfl, Nat.le_of_ble_eq_true rfl⟩) 0 rfl rfl rfl rfl (Nat.le_of_ble_eq_true rfl) ⟨Nat.le_of_ble_eq_true rfl, Nat.le_of_ble_eq_true rfl⟩ (fun r43 u43 hu43 => ?_)
      obtain ⟨rfl, rfl⟩ := hu43
      refine j_if_ne (tgt := 51) h dX3_build_46 (by decide) (fun c46 => ?_) (fun c46 => ?_)
      · -- t
        have hT : tBuild f x y = 0 := of_decide_eq_true (bi_n0.mp c46)
        obtain ⟨hA, hB⟩ := gl_2.mp hT
        have hn2 : b < 8 := by rw [hb] at hB; exact (nI_ltI (by omega) (by decide)).mp (of_decide_eq_true hB)
        refine j_aload_nR h dX3_build_51 rfl ?_
        refine m_get8 h hin3 (by decide +kernel) dX3_build_52 ?_
        refine j_aload_nR h dX3_build_55 rfl ?_
        refine m_get14 h hin3 (by decide +kernel) dX3_build_56 ?_
        refine j_iload_n h dX3_build_59 rfl ?_
        refine m_ast8 h dX3_build_60 hb (by omega) ?_
        refine j_aload_nR h dX3_build_61 rfl ?_
        refine m_get9 h hin3 (by decide +kernel) dX3_build_62 ?_
        refine j_aload_nR h dX3_build_65 rfl ?_
        refine m_get14 h hin3 (by decide +kernel) dX3_build_66 ?_
        refine j_iload_n h dX3_build_69 rfl ?_
        refine m_ast9 h dX3_build_70 hb (by omega) ?_
        refine j_aload_nR h dX3_build_71 rfl ?_
        refine j_dup h dX3_build_72 rfl ?_
        refine m_get14 h hin3 (by decide +kernel) dX3_build_73 ?_
        refine j_iconst (v := 1) h dX3_build_76 (by decide) ?_
        refine j_iadd h dX3_build_77 ?_
        refine m_put14 h hin3 (by decide +kernel) dX3_build_78 ?_
        refine j_aload_nR h dX3_build_81 rfl ?_
        refine m_get14 h hin3 (by decide +kernel) dX3_build_82 ?_
        refine j_iconst (v := 1) h dX3_build_85 (by decide) ?_
        refine j_isub h dX3_build_86 ?_
        exact j_iret h hrt hlk dX3_build_87 (by decide) (by decide) (⟨fun z => absurd hT z, fun _ => ⟨hn2, by show f 14 0 + 1 - 1 = nI b; rw [hb]; exact pk_addsub _ _, by rw [← nI_1, ← hb]; exact congrArg (wM cI ad _) hT⟩⟩)
      · -- f
        have hT : ¬ tBuild f x y = 0 := of_decide_eq_false (bi_0.mp c46)
        refine j_iconst (v := 0) h dX3_build_49 (by decide) ?_
        exact j_iret h hrt hlk dX3_build_50 (by decide) (by decide) (⟨fun _ => rfl, fun z => absurd z hT⟩)
    · -- ahead
      refine m_get14 h hin3 (by decide +kernel) dX3_build_29 ?_
      refine j_bipush (v := 8) h dX3_build_32 (by decide) ?_
      refine j_icmp_ge (tgt := 41) h dX3_build_34 (by decide) (fun c34 => ?_) (fun c34 => ?_)
      · -- t
        refine j_iconst (v := 0) h dX3_build_41 (by decide) ?_
        exact cut42 _ (by simp_all [bi, ← Int32.not_le]) _ ⟨rfl, rfl, rfl, trivial⟩
      · -- f
        refine j_iconst (v := 1) h dX3_build_37 (by decide) ?_
        refine j_goto (tgt := 42) h dX3_build_38 (by decide) ?_
        exact cut42 _ (by simp_all [bi, ← Int32.not_le]) _ ⟨rfl, rfl, rfl, trivial⟩
  · -- ahead
    refine j_iload_n h dX3_build_1 rfl ?_
    refine j_iconst (v := 1) h dX3_build_2 (by decide) ?_
    refine j_bipush (v := 9) h dX3_build_3 (by decide) ?_
    refine j_callSI h dX3_build_5 (c_X3_in) (va_cwS 3 h.2.2.2.2.1 gX3_build_X3_in rfl rfl rfl (by decide +kernel) ⟨Nat.le_of_ble_eq_true rfl, Nat.le_of_ble_eq_true rfl⟩) rfl rfl (Nat.le_of_ble_eq_true rfl) ⟨Nat.le_of_ble_eq_true rfl, Nat.le_of_ble_eq_true rfl⟩ (fun r5 u5 hu5 => ?_)
    obtain ⟨rfl, rfl⟩ := hu5
    refine j_if_eq (tgt := 27) h dX3_build_8 (by decide) (fun c8 => ?_) (fun c8 => ?_)
    · -- t
      refine j_iconst (v := 0) h dX3_build_27 (by decide) ?_
      exact cut28 _ (by simp_all [bi]) _ ⟨rfl, rfl, rfl, trivial⟩
    · -- f
      refine j_iload_n h dX3_build_11 rfl ?_
      refine j_bipush (v := 100) h dX3_build_12 (by decide) ?_
      refine j_sipush (v := 9999) h dX3_build_14 (by decide) ?_
      refine j_callSI h dX3_build_17 (c_X3_in) (va_cwS 3 h.2.2.2.2.1 gX3_build_X3_in rfl rfl rfl (by decide +kernel) ⟨Nat.le_of_ble_eq_true rfl, Nat.le_of_ble_eq_true rfl⟩) rfl rfl (Nat.le_of_ble_eq_true rfl) ⟨Nat.le_of_ble_eq_true rfl, Nat.le_of_ble_eq_true rfl⟩ (fun r17 u17 hu17 => ?_)
      obtain ⟨rfl, rfl⟩ := hu17
      refine j_if_eq (tgt := 27) h dX3_build_20 (by decide) (fun c20 => ?_) (fun c20 => ?_)
      · -- t
        refine j_iconst (v := 0) h dX3_build_27 (by decide) ?_
        exact cut28 _ (by simp_all [bi]) _ ⟨rfl, rfl, rfl, trivial⟩
      · -- f
        refine j_iconst (v := 1) h dX3_build_23 (by decide) ?_
        refine j_goto (tgt := 28) h dX3_build_24 (by decide) ?_
        exact cut28 _ (by simp_all [bi]) _ ⟨rfl, rfl, rfl, trivial⟩
set_option maxHeartbeats 4000000 in
set_option maxRecDepth 100000 in
theorem c_X3_setRules {l : Launch} {D : va_G} {cI cL cR : ClassId} {ad : Nat → Nat} {f : St} {t : Int32} {x y : Int32}  : ctI l D vwCl (tyW cI cL cR) yX3_setRules wsX3_setRules { frames := 1, cells := 0, slots := 0, locals := 23 } [.ref (ad 0), .int x, .int y] (wM cI ad f t) (fun r u => (¬ tRules x y = 0 → u = wM cI ad f (tRules x y)) ∧ (tRules x y = 0 → r = f 15 0 ∧ u = wM cI ad (up2 (up2 f 15 0 x) 16 0 y) 0)) 0 0 := by
  refine ctI_of (cc := cX3_setRules) (maxL := 4) (ret := (some .int)) (by decide) rfl rfl (Nat.le_of_ble_eq_true rfl) (by simp [Value.category]) [(0, .ref (ad 0)), (1, .int x), (2, .int y)] rfl ?_
  intro p e s m args below meth c sz h hrt hlk hnm
  have hin3 : ∀ x ∈ wsX30, x ∈ wsX3_setRules := by decide +kernel
  refine j_aload_nR h dX3_setRules_0 rfl ?_
  refine jj_cut 26 [(0, .ref (ad 0)), (1, .int x), (2, .int y)] [.ref (ad 0)] (fun v => v = bi (inB x 1 20 && inB y 0 9)) (fun v26 hv26 => ?_) (fun cut26 => ?_)
  · -- behind
    obtain rfl := hv26
    refine j_iconst (v := 1) h dX3_setRules_26 (by decide) ?_
    refine j_iconst (v := 1) h dX3_setRules_27 (by decide) ?_
    refine j_callVI (vc := (RX3, TX3, 22)) h dX3_setRules_28 (c_X3_goes) (cwV 3 h.2.2.2.2.1 gX3_setRules_X3_goes rfl rfl rfl (by decide +kernel) ⟨Nat.le_of_ble_eq_true rfl, Nat.le_of_ble_eq_true rfl⟩) 0 rfl rfl rfl rfl (Nat.le_of_ble_eq_true rfl) ⟨Nat.le_of_ble_eq_true rfl, Nat.le_of_ble_eq_true rfl⟩ (fun r28 u28 hu28 => ?_)
    obtain ⟨rfl, rfl⟩ := hu28
    refine j_if_ne (tgt := 36) h dX3_setRules_31 (by decide) (fun c31 => ?_) (fun c31 => ?_)
    · -- t
      have hT : tRules x y = 0 := of_decide_eq_true (bi_n0.mp c31)
      refine j_aload_nR h dX3_setRules_36 rfl ?_
      refine m_get15 h hin3 (by decide +kernel) dX3_setRules_37 ?_
      refine j_istore_n (i := 3) h dX3_setRules_40 rfl (by decide) ?_
      refine j_aload_nR h dX3_setRules_41 rfl ?_
      refine j_iload_n h dX3_setRules_42 rfl ?_
      refine m_put15 h hin3 (by decide +kernel) dX3_setRules_43 ?_
      refine j_aload_nR h dX3_setRules_46 rfl ?_
      refine j_iload_n h dX3_setRules_47 rfl ?_
      refine m_put16 h hin3 (by decide +kernel) dX3_setRules_48 ?_
      refine j_iload_n h dX3_setRules_51 rfl ?_
      exact j_iret h hrt hlk dX3_setRules_52 (by decide) (by decide) (⟨fun z => absurd hT z, fun _ => ⟨rfl, congrArg (wM cI ad _) hT⟩⟩)
    · -- f
      have hT : ¬ tRules x y = 0 := of_decide_eq_false (bi_0.mp c31)
      refine j_iconst (v := 0) h dX3_setRules_34 (by decide) ?_
      exact j_iret h hrt hlk dX3_setRules_35 (by decide) (by decide) (⟨fun _ => rfl, fun z => absurd z hT⟩)
  · -- ahead
    refine j_iload_n h dX3_setRules_1 rfl ?_
    refine j_iconst (v := 1) h dX3_setRules_2 (by decide) ?_
    refine j_bipush (v := 20) h dX3_setRules_3 (by decide) ?_
    refine j_callSI h dX3_setRules_5 (c_X3_in) (va_cwS 3 h.2.2.2.2.1 gX3_setRules_X3_in rfl rfl rfl (by decide +kernel) ⟨Nat.le_of_ble_eq_true rfl, Nat.le_of_ble_eq_true rfl⟩) rfl rfl (Nat.le_of_ble_eq_true rfl) ⟨Nat.le_of_ble_eq_true rfl, Nat.le_of_ble_eq_true rfl⟩ (fun r5 u5 hu5 => ?_)
    obtain ⟨rfl, rfl⟩ := hu5
    refine j_if_eq (tgt := 25) h dX3_setRules_8 (by decide) (fun c8 => ?_) (fun c8 => ?_)
    · -- t
      refine j_iconst (v := 0) h dX3_setRules_25 (by decide) ?_
      exact cut26 _ (by simp_all [bi]) _ ⟨rfl, rfl, rfl, trivial⟩
    · -- f
      refine j_iload_n h dX3_setRules_11 rfl ?_
      refine j_iconst (v := 0) h dX3_setRules_12 (by decide) ?_
      refine j_bipush (v := 9) h dX3_setRules_13 (by decide) ?_
      refine j_callSI h dX3_setRules_15 (c_X3_in) (va_cwS 3 h.2.2.2.2.1 gX3_setRules_X3_in rfl rfl rfl (by decide +kernel) ⟨Nat.le_of_ble_eq_true rfl, Nat.le_of_ble_eq_true rfl⟩) rfl rfl (Nat.le_of_ble_eq_true rfl) ⟨Nat.le_of_ble_eq_true rfl, Nat.le_of_ble_eq_true rfl⟩ (fun r15 u15 hu15 => ?_)
      obtain ⟨rfl, rfl⟩ := hu15
      refine j_if_eq (tgt := 25) h dX3_setRules_18 (by decide) (fun c18 => ?_) (fun c18 => ?_)
      · -- t
        refine j_iconst (v := 0) h dX3_setRules_25 (by decide) ?_
        exact cut26 _ (by simp_all [bi]) _ ⟨rfl, rfl, rfl, trivial⟩
      · -- f
        refine j_iconst (v := 1) h dX3_setRules_21 (by decide) ?_
        refine j_goto (tgt := 26) h dX3_setRules_22 (by decide) ?_
        exact cut26 _ (by simp_all [bi]) _ ⟨rfl, rfl, rfl, trivial⟩
set_option maxHeartbeats 4000000 in
set_option maxRecDepth 100000 in
theorem c_X3_setGust {l : Launch} {D : va_G} {cI cL cR : ClassId} {ad : Nat → Nat} {f : St} {t : Int32} {x y : Int32}  : ctI l D vwCl (tyW cI cL cR) yX3_setGust wsX3_setGust { frames := 1, cells := 0, slots := 0, locals := 23 } [.ref (ad 0), .int x, .int y] (wM cI ad f t) (fun r u => (¬ tGust x y = 0 → u = wM cI ad f (tGust x y)) ∧ (tGust x y = 0 → ∃ a, a < 401 ∧ x = nI a ∧ 1 ≤ a ∧ r = f 17 a ∧ u = wM cI ad (up2 f 17 a y) 0)) 0 0 := by
  refine ctI_of (cc := cX3_setGust) (maxL := 4) (ret := (some .int)) (by decide) rfl rfl (Nat.le_of_ble_eq_true rfl) (by simp [Value.category]) [(0, .ref (ad 0)), (1, .int x), (2, .int y)] rfl ?_
  intro p e s m args below meth c sz h hrt hlk hnm
  have hin3 : ∀ x ∈ wsX30, x ∈ wsX3_setGust := by decide +kernel
  refine j_aload_nR h dX3_setGust_0 rfl ?_
  refine jj_cut 27 [(0, .ref (ad 0)), (1, .int x), (2, .int y)] [.ref (ad 0)] (fun v => v = bi (inB x 1 400 && inB y 0 9)) (fun v27 hv27 => ?_) (fun cut27 => ?_)
  · -- behind
    obtain rfl := hv27
    refine j_iconst (v := 1) h dX3_setGust_27 (by decide) ?_
    refine j_iconst (v := 1) h dX3_setGust_28 (by decide) ?_
    refine j_callVI (vc := (RX3, TX3, 22)) h dX3_setGust_29 (c_X3_goes) (cwV 3 h.2.2.2.2.1 gX3_setGust_X3_goes rfl rfl rfl (by decide +kernel) ⟨Nat.le_of_ble_eq_true rfl, Nat.le_of_ble_eq_true rfl⟩) 0 rfl rfl rfl rfl (Nat.le_of_ble_eq_true rfl) ⟨Nat.le_of_ble_eq_true rfl, Nat.le_of_ble_eq_true rfl⟩ (fun r29 u29 hu29 => ?_)
    obtain ⟨rfl, rfl⟩ := hu29
    refine j_if_ne (tgt := 37) h dX3_setGust_32 (by decide) (fun c32 => ?_) (fun c32 => ?_)
    · -- t
      have hT : tGust x y = 0 := of_decide_eq_true (bi_n0.mp c32)
      have hA : inB x 1 400 = true := by have z := gl_1.mp hT; simp only [Bool.and_eq_true] at z; exact z.1
      obtain ⟨a, ha1, ha, rfl⟩ := inB_1 (m := 400) (by decide) hA
      refine j_aload_nR h dX3_setGust_37 rfl ?_
      refine m_get17 h hin3 (by decide +kernel) dX3_setGust_38 ?_
      refine j_iload_n h dX3_setGust_41 rfl ?_
      refine m_ald17 h dX3_setGust_42 rfl (by omega) ?_
      refine j_istore_n (i := 3) h dX3_setGust_43 rfl (by decide) ?_
      refine j_aload_nR h dX3_setGust_44 rfl ?_
      refine m_get17 h hin3 (by decide +kernel) dX3_setGust_45 ?_
      refine j_iload_n h dX3_setGust_48 rfl ?_
      refine j_iload_n h dX3_setGust_49 rfl ?_
      refine m_ast17 h dX3_setGust_50 rfl (by omega) ?_
      refine j_iload_n h dX3_setGust_51 rfl ?_
      exact j_iret h hrt hlk dX3_setGust_52 (by decide) (by decide) (⟨fun z => absurd hT z, fun _ => ⟨a, by omega, rfl, ha1, rfl, congrArg (wM cI ad _) hT⟩⟩)
    · -- f
      have hT : ¬ tGust x y = 0 := of_decide_eq_false (bi_0.mp c32)
      refine j_iconst (v := 0) h dX3_setGust_35 (by decide) ?_
      exact j_iret h hrt hlk dX3_setGust_36 (by decide) (by decide) (⟨fun _ => rfl, fun z => absurd z hT⟩)
  · -- ahead
    refine j_iload_n h dX3_setGust_1 rfl ?_
    refine j_iconst (v := 1) h dX3_setGust_2 (by decide) ?_
    refine j_sipush (v := 400) h dX3_setGust_3 (by decide) ?_
    refine j_callSI h dX3_setGust_6 (c_X3_in) (va_cwS 3 h.2.2.2.2.1 gX3_setGust_X3_in rfl rfl rfl (by decide +kernel) ⟨Nat.le_of_ble_eq_true rfl, Nat.le_of_ble_eq_true rfl⟩) rfl rfl (Nat.le_of_ble_eq_true rfl) ⟨Nat.le_of_ble_eq_true rfl, Nat.le_of_ble_eq_true rfl⟩ (fun r6 u6 hu6 => ?_)
    obtain ⟨rfl, rfl⟩ := hu6
    refine j_if_eq (tgt := 26) h dX3_setGust_9 (by decide) (fun c9 => ?_) (fun c9 => ?_)
    · -- t
      refine j_iconst (v := 0) h dX3_setGust_26 (by decide) ?_
      exact cut27 _ (by simp_all [bi]) _ ⟨rfl, rfl, rfl, trivial⟩
    · -- f
      refine j_iload_n h dX3_setGust_12 rfl ?_
      refine j_iconst (v := 0) h dX3_setGust_13 (by decide) ?_
      refine j_bipush (v := 9) h dX3_setGust_14 (by decide) ?_
      refine j_callSI h dX3_setGust_16 (c_X3_in) (va_cwS 3 h.2.2.2.2.1 gX3_setGust_X3_in rfl rfl rfl (by decide +kernel) ⟨Nat.le_of_ble_eq_true rfl, Nat.le_of_ble_eq_true rfl⟩) rfl rfl (Nat.le_of_ble_eq_true rfl) ⟨Nat.le_of_ble_eq_true rfl, Nat.le_of_ble_eq_true rfl⟩ (fun r16 u16 hu16 => ?_)
      obtain ⟨rfl, rfl⟩ := hu16
      refine j_if_eq (tgt := 26) h dX3_setGust_19 (by decide) (fun c19 => ?_) (fun c19 => ?_)
      · -- t
        refine j_iconst (v := 0) h dX3_setGust_26 (by decide) ?_
        exact cut27 _ (by simp_all [bi]) _ ⟨rfl, rfl, rfl, trivial⟩
      · -- f
        refine j_iconst (v := 1) h dX3_setGust_22 (by decide) ?_
        refine j_goto (tgt := 27) h dX3_setGust_23 (by decide) ?_
        exact cut27 _ (by simp_all [bi]) _ ⟨rfl, rfl, rfl, trivial⟩
set_option maxHeartbeats 4000000 in
set_option maxRecDepth 100000 in
theorem c_X3_takeDown {l : Launch} {D : va_G} {cI cL cR : ClassId} {ad : Nat → Nat} {f : St} {t : Int32} {x : Int32} {n : Nat} (hn : f 7 0 = nI n) (hn24 : n ≤ 24) : ctI l D vwCl (tyW cI cL cR) yX3_takeDown wsX3_takeDown { frames := 2, cells := 0, slots := 0, locals := 43 } [.ref (ad 0), .int x] (wM cI ad f t) (fun r u => (¬ tTake f x = 0 → u = wM cI ad f (tTake f x)) ∧ (tTake f x = 0 → ∃ a, a < n ∧ x = nI a ∧ r = f 5 a ∧ u = wM cI ad (dkF (up2 f 5 a (-1)) a) 0)) 0 0 := by
  refine ctI_of (cc := cX3_takeDown) (maxL := 4) (ret := (some .int)) (by decide) rfl rfl (Nat.le_of_ble_eq_true rfl) (by simp [Value.category]) [(0, .ref (ad 0)), (1, .int x)] rfl ?_
  intro p e s m args below meth c sz h hrt hlk hnm
  have hin3 : ∀ x ∈ wsX30, x ∈ wsX3_takeDown := by decide +kernel
  refine j_aload_nR h dX3_takeDown_0 rfl ?_
  refine j_iload_n h dX3_takeDown_1 rfl ?_
  refine j_callVI (vc := (RX3, TX3, 22)) h dX3_takeDown_2 (c_X3_isLantern) (cwV 1 h.2.2.2.2.1 gX3_takeDown_X3_isLantern rfl rfl rfl (by decide +kernel) ⟨Nat.le_of_ble_eq_true rfl, Nat.le_of_ble_eq_true rfl⟩) 0 rfl rfl rfl rfl (Nat.le_of_ble_eq_true rfl) ⟨Nat.le_of_ble_eq_true rfl, Nat.le_of_ble_eq_true rfl⟩ (fun r2 u2 hu2 => ?_)
  obtain ⟨rfl, rfl⟩ := hu2
  refine j_istore_n (i := 2) h dX3_takeDown_5 rfl (by decide) ?_
  refine j_aload_nR h dX3_takeDown_6 rfl ?_
  refine j_iload_n h dX3_takeDown_7 rfl ?_
  refine jj_cut 27 [(0, .ref (ad 0)), (1, .int x), (2, .int (bi (isL f x)))] [.int (bi (isL f x)), .ref (ad 0)] (fun v => v = bi (isL f x && decide (f 5 x.toNatClampNeg ≠ -1))) (fun v27 hv27 => ?_) (fun cut27 => ?_)
  · -- behind
    obtain rfl := hv27
    refine j_iconst (v := 1) h dX3_takeDown_27 (by decide) ?_
    refine j_callVI (vc := (RX3, TX3, 22)) h dX3_takeDown_28 (c_X3_goes) (cwV 3 h.2.2.2.2.1 gX3_takeDown_X3_goes rfl rfl rfl (by decide +kernel) ⟨Nat.le_of_ble_eq_true rfl, Nat.le_of_ble_eq_true rfl⟩) 0 rfl rfl rfl rfl (Nat.le_of_ble_eq_true rfl) ⟨Nat.le_of_ble_eq_true rfl, Nat.le_of_ble_eq_true rfl⟩ (fun r28 u28 hu28 => ?_)
    obtain ⟨rfl, rfl⟩ := hu28
    refine j_if_ne (tgt := 36) h dX3_takeDown_31 (by decide) (fun c31 => ?_) (fun c31 => ?_)
    · -- t
      have hT : tTake f x = 0 := of_decide_eq_true (bi_n0.mp c31)
      obtain ⟨hL, hB⟩ := gl_2.mp hT
      obtain ⟨a, ha, rfl⟩ := inB_ix (n := n) (by omega) (by rw [← hn]; exact hL)
      have hac : (nI a).toNatClampNeg = a := nI_clamp (by omega)
      refine j_aload_nR h dX3_takeDown_36 rfl ?_
      refine m_get5 h hin3 (by decide +kernel) dX3_takeDown_37 ?_
      refine j_iload_n h dX3_takeDown_40 rfl ?_
      refine m_ald5 h dX3_takeDown_41 rfl (by omega) ?_
      refine j_istore_n (i := 3) h dX3_takeDown_42 rfl (by decide) ?_
      refine j_aload_nR h dX3_takeDown_43 rfl ?_
      refine m_get5 h hin3 (by decide +kernel) dX3_takeDown_44 ?_
      refine j_iload_n h dX3_takeDown_47 rfl ?_
      refine j_iconst (v := (-1)) h dX3_takeDown_48 (by decide) ?_
      refine m_ast5 h dX3_takeDown_49 rfl (by omega) ?_
      refine j_aload_nR h dX3_takeDown_50 rfl ?_
      refine j_iload_n h dX3_takeDown_51 rfl ?_
      refine j_callVV (vc := (RX3, TX3, 22)) h dX3_takeDown_52 (c_X3_darkens (a := a) (by omega)) (cwV 1 h.2.2.2.2.1 gX3_takeDown_X3_darkens rfl rfl rfl (by decide +kernel) ⟨Nat.le_of_ble_eq_true rfl, Nat.le_of_ble_eq_true rfl⟩) 0 rfl rfl rfl rfl (Nat.le_of_ble_eq_true rfl) ⟨Nat.le_of_ble_eq_true rfl, Nat.le_of_ble_eq_true rfl⟩ (fun u52 hu52 => ?_)
      obtain rfl := hu52
      refine j_iload_n h dX3_takeDown_55 rfl ?_
      exact j_iret h hrt hlk dX3_takeDown_56 (by decide) (by decide) (⟨fun z => absurd hT z, fun _ => ⟨a, ha, rfl, rfl, congrArg (wM cI ad _) hT⟩⟩)
    · -- f
      have hT : ¬ tTake f x = 0 := of_decide_eq_false (bi_0.mp c31)
      refine j_iconst (v := 0) h dX3_takeDown_34 (by decide) ?_
      exact j_iret h hrt hlk dX3_takeDown_35 (by decide) (by decide) (⟨fun _ => rfl, fun z => absurd z hT⟩)
  · -- ahead
    refine j_iload_n h dX3_takeDown_8 rfl ?_
    refine j_if_eq (tgt := 26) h dX3_takeDown_9 (by decide) (fun c9 => ?_) (fun c9 => ?_)
    · -- t
      have hL : isL f x = false := bi_0.mp c9
      refine j_iconst (v := 0) h dX3_takeDown_26 (by decide) ?_
      exact cut27 _ (by simp_all [bi]) _ ⟨rfl, rfl, rfl, trivial⟩
    · -- f
      have hL : isL f x = true := bi_n0.mp c9
      obtain ⟨a, ha, rfl⟩ := inB_ix (n := n) (by omega) (by rw [← hn]; exact hL)
      have hac : (nI a).toNatClampNeg = a := nI_clamp (by omega)
      refine j_aload_nR h dX3_takeDown_12 rfl ?_
      refine m_get5 h hin3 (by decide +kernel) dX3_takeDown_13 ?_
      refine j_iload_n h dX3_takeDown_16 rfl ?_
      refine m_ald5 h dX3_takeDown_17 rfl (by omega) ?_
      refine j_iconst (v := (-1)) h dX3_takeDown_18 (by decide) ?_
      refine j_icmp_eq (tgt := 26) h dX3_takeDown_19 (by decide) (fun c19 => ?_) (fun c19 => ?_)
      · -- t
        refine j_iconst (v := 0) h dX3_takeDown_26 (by decide) ?_
        exact cut27 _ (by simp_all [bi]) _ ⟨rfl, rfl, rfl, trivial⟩
      · -- f
        refine j_iconst (v := 1) h dX3_takeDown_22 (by decide) ?_
        refine j_goto (tgt := 27) h dX3_takeDown_23 (by decide) ?_
        exact cut27 _ (by simp_all [bi]) _ ⟨rfl, rfl, rfl, trivial⟩
set_option maxHeartbeats 4000000 in
set_option maxRecDepth 100000 in
theorem c_X3_putOut {l : Launch} {D : va_G} {cI cL cR : ClassId} {ad : Nat → Nat} {f : St} {t : Int32} {x : Int32} {n : Nat} (hn : f 7 0 = nI n) (hn24 : n ≤ 24) : ctI l D vwCl (tyW cI cL cR) yX3_putOut wsX3_putOut { frames := 2, cells := 0, slots := 0, locals := 43 } [.ref (ad 0), .int x] (wM cI ad f t) (fun r u => (¬ tPutOut f x = 0 → u = wM cI ad f (tPutOut f x)) ∧ (tPutOut f x = 0 → ∃ a, a < n ∧ x = nI a ∧ r = f 4 a ∧ u = wM cI ad (up2 f 3 a 0) 0)) 0 0 := by
  refine ctI_of (cc := cX3_putOut) (maxL := 3) (ret := (some .int)) (by decide) rfl rfl (Nat.le_of_ble_eq_true rfl) (by simp [Value.category]) [(0, .ref (ad 0)), (1, .int x)] rfl ?_
  intro p e s m args below meth c sz h hrt hlk hnm
  have hin3 : ∀ x ∈ wsX30, x ∈ wsX3_putOut := by decide +kernel
  refine j_aload_nR h dX3_putOut_0 rfl ?_
  refine j_iload_n h dX3_putOut_1 rfl ?_
  refine j_callVI (vc := (RX3, TX3, 22)) h dX3_putOut_2 (c_X3_isLantern) (cwV 1 h.2.2.2.2.1 gX3_putOut_X3_isLantern rfl rfl rfl (by decide +kernel) ⟨Nat.le_of_ble_eq_true rfl, Nat.le_of_ble_eq_true rfl⟩) 0 rfl rfl rfl rfl (Nat.le_of_ble_eq_true rfl) ⟨Nat.le_of_ble_eq_true rfl, Nat.le_of_ble_eq_true rfl⟩ (fun r2 u2 hu2 => ?_)
  obtain ⟨rfl, rfl⟩ := hu2
  refine j_istore_n (i := 2) h dX3_putOut_5 rfl (by decide) ?_
  refine j_aload_nR h dX3_putOut_6 rfl ?_
  refine j_iload_n h dX3_putOut_7 rfl ?_
  refine jj_cut 27 [(0, .ref (ad 0)), (1, .int x), (2, .int (bi (isL f x)))] [.int (bi (isL f x)), .ref (ad 0)] (fun v => v = bi (isL f x && decide (f 3 x.toNatClampNeg = 1))) (fun v27 hv27 => ?_) (fun cut27 => ?_)
  · -- behind
    obtain rfl := hv27
    refine j_iconst (v := 1) h dX3_putOut_27 (by decide) ?_
    refine j_callVI (vc := (RX3, TX3, 22)) h dX3_putOut_28 (c_X3_goes) (cwV 3 h.2.2.2.2.1 gX3_putOut_X3_goes rfl rfl rfl (by decide +kernel) ⟨Nat.le_of_ble_eq_true rfl, Nat.le_of_ble_eq_true rfl⟩) 0 rfl rfl rfl rfl (Nat.le_of_ble_eq_true rfl) ⟨Nat.le_of_ble_eq_true rfl, Nat.le_of_ble_eq_true rfl⟩ (fun r28 u28 hu28 => ?_)
    obtain ⟨rfl, rfl⟩ := hu28
    refine j_if_ne (tgt := 36) h dX3_putOut_31 (by decide) (fun c31 => ?_) (fun c31 => ?_)
    · -- t
      have hT : tPutOut f x = 0 := of_decide_eq_true (bi_n0.mp c31)
      obtain ⟨hL, hB⟩ := gl_2.mp hT
      obtain ⟨a, ha, rfl⟩ := inB_ix (n := n) (by omega) (by rw [← hn]; exact hL)
      have hac : (nI a).toNatClampNeg = a := nI_clamp (by omega)
      refine j_aload_nR h dX3_putOut_36 rfl ?_
      refine m_get3 h hin3 (by decide +kernel) dX3_putOut_37 ?_
      refine j_iload_n h dX3_putOut_40 rfl ?_
      refine j_iconst (v := 0) h dX3_putOut_41 (by decide) ?_
      refine m_ast3 h dX3_putOut_42 rfl (by omega) ?_
      refine j_aload_nR h dX3_putOut_43 rfl ?_
      refine m_get4 h hin3 (by decide +kernel) dX3_putOut_44 ?_
      refine j_iload_n h dX3_putOut_47 rfl ?_
      refine m_ald4 h dX3_putOut_48 rfl (by omega) ?_
      exact j_iret h hrt hlk dX3_putOut_49 (by decide) (by decide) (⟨fun z => absurd hT z, fun _ => ⟨a, ha, rfl, rfl, congrArg (wM cI ad _) hT⟩⟩)
    · -- f
      have hT : ¬ tPutOut f x = 0 := of_decide_eq_false (bi_0.mp c31)
      refine j_iconst (v := 0) h dX3_putOut_34 (by decide) ?_
      exact j_iret h hrt hlk dX3_putOut_35 (by decide) (by decide) (⟨fun _ => rfl, fun z => absurd z hT⟩)
  · -- ahead
    refine j_iload_n h dX3_putOut_8 rfl ?_
    refine j_if_eq (tgt := 26) h dX3_putOut_9 (by decide) (fun c9 => ?_) (fun c9 => ?_)
    · -- t
      have hL : isL f x = false := bi_0.mp c9
      refine j_iconst (v := 0) h dX3_putOut_26 (by decide) ?_
      exact cut27 _ (by simp_all [bi]) _ ⟨rfl, rfl, rfl, trivial⟩
    · -- f
      have hL : isL f x = true := bi_n0.mp c9
      obtain ⟨a, ha, rfl⟩ := inB_ix (n := n) (by omega) (by rw [← hn]; exact hL)
      have hac : (nI a).toNatClampNeg = a := nI_clamp (by omega)
      refine j_aload_nR h dX3_putOut_12 rfl ?_
      refine m_get3 h hin3 (by decide +kernel) dX3_putOut_13 ?_
      refine j_iload_n h dX3_putOut_16 rfl ?_
      refine m_ald3 h dX3_putOut_17 rfl (by omega) ?_
      refine j_iconst (v := 1) h dX3_putOut_18 (by decide) ?_
      refine j_icmp_ne (tgt := 26) h dX3_putOut_19 (by decide) (fun c19 => ?_) (fun c19 => ?_)
      · -- t
        refine j_iconst (v := 0) h dX3_putOut_26 (by decide) ?_
        exact cut27 _ (by simp_all [bi]) _ ⟨rfl, rfl, rfl, trivial⟩
      · -- f
        refine j_iconst (v := 1) h dX3_putOut_22 (by decide) ?_
        refine j_goto (tgt := 27) h dX3_putOut_23 (by decide) ?_
        exact cut27 _ (by simp_all [bi]) _ ⟨rfl, rfl, rfl, trivial⟩
set_option maxHeartbeats 4000000 in
set_option maxRecDepth 100000 in
theorem c_X3_light {l : Launch} {D : va_G} {cI cL cR : ClassId} {ad : Nat → Nat} {f : St} {t : Int32} {x : Int32} {n : Nat} (hn : f 7 0 = nI n) (hn24 : n ≤ 24) (ho : ∀ k, k < n → f 5 k = -1 ∨ ∃ r, r < 8 ∧ f 5 k = nI r) (hlit : ∀ k, k < n → f 3 k = 1 → ∃ r, r < 8 ∧ f 5 k = nI r) : ctI l D vwCl (tyW cI cL cR) yX3_light wsX3_light { frames := 3, cells := 0, slots := 0, locals := 68 } [.ref (ad 0), .int x] (wM cI ad f t) (fun r u => (¬ tLight f n x = 0 → u = wM cI ad f (tLight f n x)) ∧ (tLight f n x = 0 → ∃ a, a < n ∧ x = nI a ∧ r = f 4 a ∧ u = wM cI ad (up2 f 3 a 1) 0)) 0 0 := by
  refine ctI_of (cc := cX3_light) (maxL := 4) (ret := (some .int)) (by decide) rfl rfl (Nat.le_of_ble_eq_true rfl) (by simp [Value.category]) [(0, .ref (ad 0)), (1, .int x)] rfl ?_
  intro p e s m args below meth c sz h hrt hlk hnm
  have hin3 : ∀ x ∈ wsX30, x ∈ wsX3_light := by decide +kernel
  refine j_aload_nR h dX3_light_0 rfl ?_
  refine j_iload_n h dX3_light_1 rfl ?_
  refine j_callVI (vc := (RX3, TX3, 22)) h dX3_light_2 (c_X3_isLantern) (cwV 1 h.2.2.2.2.1 gX3_light_X3_isLantern rfl rfl rfl (by decide +kernel) ⟨Nat.le_of_ble_eq_true rfl, Nat.le_of_ble_eq_true rfl⟩) 0 rfl rfl rfl rfl (Nat.le_of_ble_eq_true rfl) ⟨Nat.le_of_ble_eq_true rfl, Nat.le_of_ble_eq_true rfl⟩ (fun r2 u2 hu2 => ?_)
  obtain ⟨rfl, rfl⟩ := hu2
  refine j_istore_n (i := 2) h dX3_light_5 rfl (by decide) ?_
  refine jj_cut 44 [(0, .ref (ad 0)), (1, .int x), (2, .int (bi (isL f x)))] [] (fun v => v = bi (isL f x && hpB f x.toNatClampNeg && decide (f 3 x.toNatClampNeg = 0) && !nearB f x.toNatClampNeg n)) (fun v44 hv44 => ?_) (fun cut44 => ?_)
  · -- behind
    obtain rfl := hv44
    refine j_istore_n (i := 3) h dX3_light_44 rfl (by decide) ?_
    refine j_aload_nR h dX3_light_45 rfl ?_
    refine j_iload_n h dX3_light_46 rfl ?_
    refine j_iload_n h dX3_light_47 rfl ?_
    refine j_iconst (v := 1) h dX3_light_48 (by decide) ?_
    refine j_callVI (vc := (RX3, TX3, 22)) h dX3_light_49 (c_X3_goes) (cwV 3 h.2.2.2.2.1 gX3_light_X3_goes rfl rfl rfl (by decide +kernel) ⟨Nat.le_of_ble_eq_true rfl, Nat.le_of_ble_eq_true rfl⟩) 0 rfl rfl rfl rfl (Nat.le_of_ble_eq_true rfl) ⟨Nat.le_of_ble_eq_true rfl, Nat.le_of_ble_eq_true rfl⟩ (fun r49 u49 hu49 => ?_)
    obtain ⟨rfl, rfl⟩ := hu49
    refine j_if_ne (tgt := 57) h dX3_light_52 (by decide) (fun c52 => ?_) (fun c52 => ?_)
    · -- t
      have hT : tLight f n x = 0 := of_decide_eq_true (bi_n0.mp c52)
      obtain ⟨hL, hB⟩ := gl_2.mp hT
      obtain ⟨a, ha, rfl⟩ := inB_ix (n := n) (by omega) (by rw [← hn]; exact hL)
      have hac : (nI a).toNatClampNeg = a := nI_clamp (by omega)
      refine j_aload_nR h dX3_light_57 rfl ?_
      refine m_get3 h hin3 (by decide +kernel) dX3_light_58 ?_
      refine j_iload_n h dX3_light_61 rfl ?_
      refine j_iconst (v := 1) h dX3_light_62 (by decide) ?_
      refine m_ast3 h dX3_light_63 rfl (by omega) ?_
      refine j_aload_nR h dX3_light_64 rfl ?_
      refine m_get4 h hin3 (by decide +kernel) dX3_light_65 ?_
      refine j_iload_n h dX3_light_68 rfl ?_
      refine m_ald4 h dX3_light_69 rfl (by omega) ?_
      exact j_iret h hrt hlk dX3_light_70 (by decide) (by decide) (⟨fun z => absurd hT z, fun _ => ⟨a, ha, rfl, rfl, congrArg (wM cI ad _) hT⟩⟩)
    · -- f
      have hT : ¬ tLight f n x = 0 := of_decide_eq_false (bi_0.mp c52)
      refine j_iconst (v := 0) h dX3_light_55 (by decide) ?_
      exact j_iret h hrt hlk dX3_light_56 (by decide) (by decide) (⟨fun _ => rfl, fun z => absurd z hT⟩)
  · -- ahead
    refine j_iload_n h dX3_light_6 rfl ?_
    refine j_if_eq (tgt := 43) h dX3_light_7 (by decide) (fun c7 => ?_) (fun c7 => ?_)
    · -- t
      have hL : isL f x = false := bi_0.mp c7
      refine j_iconst (v := 0) h dX3_light_43 (by decide) ?_
      exact cut44 _ (by simp_all [bi]) _ ⟨rfl, rfl, by first | rfl | (simp only [isL, hn]; rfl), trivial⟩
    · -- f
      have hL : isL f x = true := bi_n0.mp c7
      obtain ⟨a, ha, rfl⟩ := inB_ix (n := n) (by omega) (by rw [← hn]; exact hL)
      have hac : (nI a).toNatClampNeg = a := nI_clamp (by omega)
      refine j_aload_nR h dX3_light_10 rfl ?_
      refine j_iload_n h dX3_light_11 rfl ?_
      refine j_callVI (vc := (RX3, TX3, 22)) h dX3_light_12 (c_X3_hasPlace (a := a) (by omega) (ho a ha)) (cwV 1 h.2.2.2.2.1 gX3_light_X3_hasPlace rfl rfl rfl (by decide +kernel) ⟨Nat.le_of_ble_eq_true rfl, Nat.le_of_ble_eq_true rfl⟩) 0 rfl rfl rfl rfl (Nat.le_of_ble_eq_true rfl) ⟨Nat.le_of_ble_eq_true rfl, Nat.le_of_ble_eq_true rfl⟩ (fun r12 u12 hu12 => ?_)
      obtain ⟨rfl, rfl⟩ := hu12
      refine j_if_eq (tgt := 43) h dX3_light_15 (by decide) (fun c15 => ?_) (fun c15 => ?_)
      · -- t
        have hp : hpB f a = false := bi_0.mp c15
        refine j_iconst (v := 0) h dX3_light_43 (by decide) ?_
        exact cut44 _ (by simp_all [bi]) _ ⟨rfl, rfl, by first | rfl | (simp only [isL, hn]; rfl), trivial⟩
      · -- f
        have hp : hpB f a = true := bi_n0.mp c15
        obtain ⟨r, hr8, hr⟩ := (ho a ha).resolve_left (by have z := hp; simp only [hpB, Bool.and_eq_true, decide_eq_true_eq] at z; exact z.1)
        refine j_aload_nR h dX3_light_18 rfl ?_
        refine m_get3 h hin3 (by decide +kernel) dX3_light_19 ?_
        refine j_iload_n h dX3_light_22 rfl ?_
        refine m_ald3 h dX3_light_23 rfl (by omega) ?_
        refine j_if_ne (tgt := 43) h dX3_light_24 (by decide) (fun c24 => ?_) (fun c24 => ?_)
        · -- t
          refine j_iconst (v := 0) h dX3_light_43 (by decide) ?_
          exact cut44 _ (by simp_all [bi]) _ ⟨rfl, rfl, by first | rfl | (simp only [isL, hn]; rfl), trivial⟩
        · -- f
          refine j_aload_nR h dX3_light_27 rfl ?_
          refine j_iload_n h dX3_light_28 rfl ?_
          refine j_aload_nR h dX3_light_29 rfl ?_
          refine m_get7 h hin3 (by decide +kernel) dX3_light_30 ?_
          rw [hn]
          refine j_callVI (vc := (RX3, TX3, 22)) h dX3_light_33 (c_X3_isNear (a := a) (B := n) (r := r) (by omega) hn24 hr8 hr hlit) (cwV 2 h.2.2.2.2.1 gX3_light_X3_isNear rfl rfl rfl (by decide +kernel) ⟨Nat.le_of_ble_eq_true rfl, Nat.le_of_ble_eq_true rfl⟩) 0 rfl rfl rfl rfl (Nat.le_of_ble_eq_true rfl) ⟨Nat.le_of_ble_eq_true rfl, Nat.le_of_ble_eq_true rfl⟩ (fun r33 u33 hu33 => ?_)
          obtain ⟨rfl, rfl⟩ := hu33
          refine j_if_ne (tgt := 43) h dX3_light_36 (by decide) (fun c36 => ?_) (fun c36 => ?_)
          · -- t
            refine j_iconst (v := 0) h dX3_light_43 (by decide) ?_
            exact cut44 _ (by simp_all [bi]) _ ⟨rfl, rfl, by first | rfl | (simp only [isL, hn]; rfl), trivial⟩
          · -- f
            refine j_iconst (v := 1) h dX3_light_39 (by decide) ?_
            refine j_goto (tgt := 44) h dX3_light_40 (by decide) ?_
            exact cut44 _ (by simp_all [bi]) _ ⟨rfl, rfl, by first | rfl | (simp only [isL, hn]; rfl), trivial⟩
end
section
set_option maxHeartbeats 4000000 in
set_option maxRecDepth 100000 in
theorem c_X3_launch {l : Launch} {D : va_G} {cI cL cR : ClassId} {ad : Nat → Nat} {f : St} {t : Int32} {x : Int32} {b q : Nat} (hb : f 14 0 = nI b) (hb8 : b ≤ 8) (hq : f 13 0 = nI q) (hq8 : q ≤ 8) (ho : ∀ i, i < q → ∃ r, r < 8 ∧ f 12 i = nI r) (hqb : ∀ a, a < b → f 10 a = 0 → q < 8) : ctI l D vwCl (tyW cI cL cR) yX3_launch wsX3_launch { frames := 2, cells := 0, slots := 0, locals := 43 } [.ref (ad 0), .int x] (wM cI ad f t) (fun r u => (¬ tLaunch f q x = 0 → u = wM cI ad f (tLaunch f q x)) ∧ (tLaunch f q x = 0 → ∃ a, a < b ∧ x = nI a ∧ q < 8 ∧ r = afS (up2 (up2 (up2 (up2 f 10 a 1) 11 a 9) 12 q (nI a)) 13 0 (nI (q + 1))) b ∧ u = wM cI ad (up2 (up2 (up2 (up2 f 10 a 1) 11 a 9) 12 q (nI a)) 13 0 (nI (q + 1))) 0)) 0 0 := by
  refine ctI_of (cc := cX3_launch) (maxL := 5) (ret := (some .int)) (by decide) rfl rfl (Nat.le_of_ble_eq_true rfl) (by simp [Value.category]) [(0, .ref (ad 0)), (1, .int x)] rfl ?_
  intro p e s m args below meth c sz h hrt hlk hnm
  have hin3 : ∀ x ∈ wsX30, x ∈ wsX3_launch := by decide +kernel
  refine j_aload_nR h dX3_launch_0 rfl ?_
  refine j_iload_n h dX3_launch_1 rfl ?_
  refine j_callVI (vc := (RX3, TX3, 22)) h dX3_launch_2 (c_X3_isFloat) (cwV 1 h.2.2.2.2.1 gX3_launch_X3_isFloat rfl rfl rfl (by decide +kernel) ⟨Nat.le_of_ble_eq_true rfl, Nat.le_of_ble_eq_true rfl⟩) 0 rfl rfl rfl rfl (Nat.le_of_ble_eq_true rfl) ⟨Nat.le_of_ble_eq_true rfl, Nat.le_of_ble_eq_true rfl⟩ (fun r2 u2 hu2 => ?_)
  obtain ⟨rfl, rfl⟩ := hu2
  refine j_istore_n (i := 2) h dX3_launch_5 rfl (by decide) ?_
  refine j_aload_nR h dX3_launch_6 rfl ?_
  refine j_callVI (vc := (RX3, TX3, 22)) h dX3_launch_7 (c_X3_rearmost (q := q) hq hq8 ho) (cwV 0 h.2.2.2.2.1 gX3_launch_X3_rearmost rfl rfl rfl (by decide +kernel) ⟨Nat.le_of_ble_eq_true rfl, Nat.le_of_ble_eq_true rfl⟩) 0 rfl rfl rfl rfl (Nat.le_of_ble_eq_true rfl) ⟨Nat.le_of_ble_eq_true rfl, Nat.le_of_ble_eq_true rfl⟩ (fun r7 u7 hu7 => ?_)
  obtain ⟨rfl, rfl⟩ := hu7
  refine j_istore_n (i := 3) h dX3_launch_10 rfl (by decide) ?_
  refine jj_cut 53 [(0, .ref (ad 0)), (1, .int x), (2, .int (bi (isF f x))), (3, .int (rmS f q))] [] (fun v => v = bi (isF f x && decide (f 10 x.toNatClampNeg = 0) && (decide (rmS f q = -1) || decide (9 + f 15 0 ≤ f 11 (rmS f q).toNatClampNeg - 9)))) (fun v53 hv53 => ?_) (fun cut53 => ?_)
  · -- behind
    obtain rfl := hv53
    refine j_istore h dX3_launch_53 (by decide) ?_
    refine j_aload_nR h dX3_launch_55 rfl ?_
    refine j_iload_n h dX3_launch_56 rfl ?_
    refine j_iload h dX3_launch_57 rfl ?_
    refine j_iconst (v := 1) h dX3_launch_59 (by decide) ?_
    refine j_callVI (vc := (RX3, TX3, 22)) h dX3_launch_60 (c_X3_goes) (cwV 3 h.2.2.2.2.1 gX3_launch_X3_goes rfl rfl rfl (by decide +kernel) ⟨Nat.le_of_ble_eq_true rfl, Nat.le_of_ble_eq_true rfl⟩) 0 rfl rfl rfl rfl (Nat.le_of_ble_eq_true rfl) ⟨Nat.le_of_ble_eq_true rfl, Nat.le_of_ble_eq_true rfl⟩ (fun r60 u60 hu60 => ?_)
    obtain ⟨rfl, rfl⟩ := hu60
    refine j_if_ne (tgt := 68) h dX3_launch_63 (by decide) (fun c63 => ?_) (fun c63 => ?_)
    · -- t
      have hT : tLaunch f q x = 0 := of_decide_eq_true (bi_n0.mp c63)
      obtain ⟨hL, hB⟩ := gl_2.mp hT
      obtain ⟨a, ha, rfl⟩ := inB_ix (n := b) (by omega) (by rw [← hb]; exact hL)
      have hac : (nI a).toNatClampNeg = a := nI_clamp (by omega)
      have hq7 : q < 8 := hqb a ha (by simp only [hac, Bool.and_eq_true, decide_eq_true_eq] at hB; exact hB.1.2)
      refine j_aload_nR h dX3_launch_68 rfl ?_
      refine m_get10 h hin3 (by decide +kernel) dX3_launch_69 ?_
      refine j_iload_n h dX3_launch_72 rfl ?_
      refine j_iconst (v := 1) h dX3_launch_73 (by decide) ?_
      refine m_ast10 h dX3_launch_74 rfl (by omega) ?_
      refine j_aload_nR h dX3_launch_75 rfl ?_
      refine m_get11 h hin3 (by decide +kernel) dX3_launch_76 ?_
      refine j_iload_n h dX3_launch_79 rfl ?_
      refine j_bipush (v := 9) h dX3_launch_80 (by decide) ?_
      refine m_ast11 h dX3_launch_82 rfl (by omega) ?_
      refine j_aload_nR h dX3_launch_83 rfl ?_
      refine m_get12 h hin3 (by decide +kernel) dX3_launch_84 ?_
      refine j_aload_nR h dX3_launch_87 rfl ?_
      refine m_get13 h hin3 (by decide +kernel) dX3_launch_88 ?_
      refine j_iload_n h dX3_launch_91 rfl ?_
      refine m_ast12 h dX3_launch_92 hq (by omega) ?_
      refine j_aload_nR h dX3_launch_93 rfl ?_
      refine j_dup h dX3_launch_94 rfl ?_
      refine m_get13 h hin3 (by decide +kernel) dX3_launch_95 ?_
      refine j_iconst (v := 1) h dX3_launch_98 (by decide) ?_
      refine j_iadd h dX3_launch_99 ?_
      refine m_put13 h hin3 (by decide +kernel) dX3_launch_100 ?_
      refine j_aload_nR h dX3_launch_103 rfl ?_
      refine j_callVI (vc := (RX3, TX3, 22)) h dX3_launch_104 (c_X3_afloat (b := b) hb hb8) (cwV 0 h.2.2.2.2.1 gX3_launch_X3_afloat rfl rfl rfl (by decide +kernel) ⟨Nat.le_of_ble_eq_true rfl, Nat.le_of_ble_eq_true rfl⟩) 0 rfl rfl rfl rfl (Nat.le_of_ble_eq_true rfl) ⟨Nat.le_of_ble_eq_true rfl, Nat.le_of_ble_eq_true rfl⟩ (fun r104 u104 hu104 => ?_)
      obtain ⟨rfl, rfl⟩ := hu104
      exact j_iret h hrt hlk dX3_launch_107 (by decide) (by decide) (⟨fun z => absurd hT z, fun _ => ⟨a, ha, rfl, hq7, by rw [← nI_1, ← hq]; rfl, by rw [← nI_1, ← hq]; exact congrArg (wM cI ad _) hT⟩⟩)
    · -- f
      have hT : ¬ tLaunch f q x = 0 := of_decide_eq_false (bi_0.mp c63)
      refine j_iconst (v := 0) h dX3_launch_66 (by decide) ?_
      exact j_iret h hrt hlk dX3_launch_67 (by decide) (by decide) (⟨fun _ => rfl, fun z => absurd z hT⟩)
  · -- ahead
    refine j_iload_n h dX3_launch_11 rfl ?_
    refine j_if_eq (tgt := 52) h dX3_launch_12 (by decide) (fun c12 => ?_) (fun c12 => ?_)
    · -- t
      have hL : isF f x = false := bi_0.mp c12
      refine j_iconst (v := 0) h dX3_launch_52 (by decide) ?_
      exact cut53 _ (by simp_all [bi]) _ ⟨rfl, rfl, rfl, rfl, trivial⟩
    · -- f
      have hL : isF f x = true := bi_n0.mp c12
      obtain ⟨a, ha, rfl⟩ := inB_ix (n := b) (by omega) (by rw [← hb]; exact hL)
      have hac : (nI a).toNatClampNeg = a := nI_clamp (by omega)
      refine j_aload_nR h dX3_launch_15 rfl ?_
      refine m_get10 h hin3 (by decide +kernel) dX3_launch_16 ?_
      refine j_iload_n h dX3_launch_19 rfl ?_
      refine m_ald10 h dX3_launch_20 rfl (by omega) ?_
      refine j_if_ne (tgt := 52) h dX3_launch_21 (by decide) (fun c21 => ?_) (fun c21 => ?_)
      · -- t
        refine j_iconst (v := 0) h dX3_launch_52 (by decide) ?_
        exact cut53 _ (by simp_all [bi]) _ ⟨rfl, rfl, rfl, rfl, trivial⟩
      · -- f
        refine j_iload_n h dX3_launch_24 rfl ?_
        refine j_iconst (v := (-1)) h dX3_launch_25 (by decide) ?_
        refine j_icmp_eq (tgt := 48) h dX3_launch_26 (by decide) (fun c26 => ?_) (fun c26 => ?_)
        · -- t
          refine j_iconst (v := 1) h dX3_launch_48 (by decide) ?_
          refine j_goto (tgt := 53) h dX3_launch_49 (by decide) ?_
          exact cut53 _ (by simp_all [bi]) _ ⟨rfl, rfl, rfl, rfl, trivial⟩
        · -- f
          obtain ⟨rr, hrr8, hrr⟩ := (rmS_in ho).resolve_left c26
          have hrc : (nI rr).toNatClampNeg = rr := nI_clamp (by omega)
          refine j_aload_nR h dX3_launch_29 rfl ?_
          refine m_get11 h hin3 (by decide +kernel) dX3_launch_30 ?_
          refine j_iload_n h dX3_launch_33 rfl ?_
          refine m_ald11 h dX3_launch_34 hrr hrr8 ?_
          refine j_bipush (v := 9) h dX3_launch_35 (by decide) ?_
          refine j_isub h dX3_launch_37 ?_
          refine j_bipush (v := 9) h dX3_launch_38 (by decide) ?_
          refine j_aload_nR h dX3_launch_40 rfl ?_
          refine m_get15 h hin3 (by decide +kernel) dX3_launch_41 ?_
          refine j_iadd h dX3_launch_44 ?_
          refine j_icmp_lt (tgt := 52) h dX3_launch_45 (by decide) (fun c45 => ?_) (fun c45 => ?_)
          · -- t
            rw [← Int32.not_le] at c45
            refine j_iconst (v := 0) h dX3_launch_52 (by decide) ?_
            exact cut53 _ (by simp_all [bi]) _ ⟨rfl, rfl, rfl, rfl, trivial⟩
          · -- f
            rw [Int32.not_lt] at c45
            refine j_iconst (v := 1) h dX3_launch_48 (by decide) ?_
            refine j_goto (tgt := 53) h dX3_launch_49 (by decide) ?_
            exact cut53 _ (by simp_all [bi]) _ ⟨rfl, rfl, rfl, rfl, trivial⟩
set_option maxHeartbeats 4000000 in
set_option maxRecDepth 100000 in
theorem c_X3_hang {l : Launch} {D : va_G} {cI cL cR : ClassId} {ad : Nat → Nat} {f : St} {t : Int32} {x y z : Int32} {n b : Nat} (hn : f 7 0 = nI n) (hn24 : n ≤ 24) (hb : f 14 0 = nI b) (hb8 : b ≤ 8) : ctI l D vwCl (tyW cI cL cR) yX3_hang wsX3_hang { frames := 2, cells := 0, slots := 0, locals := 44 } [.ref (ad 0), .int x, .int y, .int z] (wM cI ad f t) (fun r u => (¬ tHang f n x y z = 0 → u = wM cI ad f (tHang f n x y z)) ∧ (tHang f n x y z = 0 → ∃ a c, a < n ∧ x = nI a ∧ c < b ∧ y = nI c ∧ r = ldS (up2 (up2 f 5 a y) 6 a z) y n ∧ u = wM cI ad (up2 (up2 f 5 a y) 6 a z) 0)) 0 0 := by
  refine ctI_of (cc := cX3_hang) (maxL := 6) (ret := (some .int)) (by decide) rfl rfl (Nat.le_of_ble_eq_true rfl) (by simp [Value.category]) [(0, .ref (ad 0)), (1, .int x), (2, .int y), (3, .int z)] rfl ?_
  intro p e s m args below meth c sz h hrt hlk hnm
  have hin3 : ∀ x ∈ wsX30, x ∈ wsX3_hang := by decide +kernel
  refine jj_cut 31 [(0, .ref (ad 0)), (1, .int x), (2, .int y), (3, .int z)] [] (fun v => v = bi (isL f x && isF f y && inB z 0 9)) (fun v31 hv31 => ?_) (fun cut31 => ?_)
  · -- behind
    obtain rfl := hv31
    refine j_istore h dX3_hang_31 (by decide) ?_
    refine jj_cut 83 [(0, .ref (ad 0)), (1, .int x), (2, .int y), (3, .int z), (4, .int (bi (isL f x && isF f y && inB z 0 9)))] [] (fun v => v = bi (okHang f n x y z)) (fun v83 hv83 => ?_) (fun cut83 => ?_)
    · -- behind
      obtain rfl := hv83
      refine j_istore h dX3_hang_83 (by decide) ?_
      refine j_aload_nR h dX3_hang_85 rfl ?_
      refine j_iload h dX3_hang_86 rfl ?_
      refine jj_cut 107 [(0, .ref (ad 0)), (1, .int x), (2, .int y), (3, .int z), (5, .int (bi (okHang f n x y z)))] [.int (bi (isL f x && isF f y && inB z 0 9)), .ref (ad 0)] (fun v => v = bi ((isL f x && isF f y && inB z 0 9) && !tkB f y z n)) (fun v107 hv107 => ?_) (fun cut107 => ?_)
      · -- behind
        obtain rfl := hv107
        refine j_iload h dX3_hang_107 rfl ?_
        refine j_callVI (vc := (RX3, TX3, 22)) h dX3_hang_109 (c_X3_goes) (cwV 3 h.2.2.2.2.1 gX3_hang_X3_goes rfl rfl rfl (by decide +kernel) ⟨Nat.le_of_ble_eq_true rfl, Nat.le_of_ble_eq_true rfl⟩) 0 rfl rfl rfl rfl (Nat.le_of_ble_eq_true rfl) ⟨Nat.le_of_ble_eq_true rfl, Nat.le_of_ble_eq_true rfl⟩ (fun r109 u109 hu109 => ?_)
        obtain ⟨rfl, rfl⟩ := hu109
        refine j_if_ne (tgt := 117) h dX3_hang_112 (by decide) (fun c112 => ?_) (fun c112 => ?_)
        · -- t
          have hT : tHang f n x y z = 0 := of_decide_eq_true (bi_n0.mp c112)
          obtain ⟨hk, hB, hC⟩ := gl_iff.mp hT
          simp only [Bool.and_eq_true] at hk
          obtain ⟨a, ha, rfl⟩ := inB_ix (n := n) (by omega) (by rw [← hn]; exact hk.1.1)
          obtain ⟨c9, hc9, rfl⟩ := inB_ix (n := b) (by omega) (by rw [← hb]; exact hk.1.2)
          refine j_aload_nR h dX3_hang_117 rfl ?_
          refine m_get5 h hin3 (by decide +kernel) dX3_hang_118 ?_
          refine j_iload_n h dX3_hang_121 rfl ?_
          refine j_iload_n h dX3_hang_122 rfl ?_
          refine m_ast5 h dX3_hang_123 rfl (by omega) ?_
          refine j_aload_nR h dX3_hang_124 rfl ?_
          refine m_get6 h hin3 (by decide +kernel) dX3_hang_125 ?_
          refine j_iload_n h dX3_hang_128 rfl ?_
          refine j_iload_n h dX3_hang_129 rfl ?_
          refine m_ast6 h dX3_hang_130 rfl (by omega) ?_
          refine j_aload_nR h dX3_hang_131 rfl ?_
          refine j_iload_n h dX3_hang_132 rfl ?_
          refine j_callVI (vc := (RX3, TX3, 22)) h dX3_hang_133 (c_X3_loadOf (n := n) hn hn24) (cwV 1 h.2.2.2.2.1 gX3_hang_X3_loadOf rfl rfl rfl (by decide +kernel) ⟨Nat.le_of_ble_eq_true rfl, Nat.le_of_ble_eq_true rfl⟩) 0 rfl rfl rfl rfl (Nat.le_of_ble_eq_true rfl) ⟨Nat.le_of_ble_eq_true rfl, Nat.le_of_ble_eq_true rfl⟩ (fun r133 u133 hu133 => ?_)
          obtain ⟨rfl, rfl⟩ := hu133
          exact j_iret h hrt hlk dX3_hang_136 (by decide) (by decide) (⟨fun z => absurd hT z, fun _ => ⟨a, c9, ha, rfl, hc9, rfl, rfl, congrArg (wM cI ad _) hT⟩⟩)
        · -- f
          have hT : ¬ tHang f n x y z = 0 := of_decide_eq_false (bi_0.mp c112)
          refine j_iconst (v := 0) h dX3_hang_115 (by decide) ?_
          exact j_iret h hrt hlk dX3_hang_116 (by decide) (by decide) (⟨fun _ => rfl, fun z => absurd z hT⟩)
      · -- ahead
        refine j_iload h dX3_hang_88 rfl ?_
        refine j_if_eq (tgt := 106) h dX3_hang_90 (by decide) (fun c90 => ?_) (fun c90 => ?_)
        · -- t
          refine j_iconst (v := 0) h dX3_hang_106 (by decide) ?_
          exact cut107 _ (by simp_all [bi]) _ ⟨rfl, rfl, rfl, rfl, rfl, trivial⟩
        · -- f
          refine j_aload_nR h dX3_hang_93 rfl ?_
          refine j_iload_n h dX3_hang_94 rfl ?_
          refine j_iload_n h dX3_hang_95 rfl ?_
          refine j_callVI (vc := (RX3, TX3, 22)) h dX3_hang_96 (c_X3_isTaken (n := n) hn hn24) (cwV 2 h.2.2.2.2.1 gX3_hang_X3_isTaken rfl rfl rfl (by decide +kernel) ⟨Nat.le_of_ble_eq_true rfl, Nat.le_of_ble_eq_true rfl⟩) 0 rfl rfl rfl rfl (Nat.le_of_ble_eq_true rfl) ⟨Nat.le_of_ble_eq_true rfl, Nat.le_of_ble_eq_true rfl⟩ (fun r96 u96 hu96 => ?_)
          obtain ⟨rfl, rfl⟩ := hu96
          refine j_if_ne (tgt := 106) h dX3_hang_99 (by decide) (fun c99 => ?_) (fun c99 => ?_)
          · -- t
            refine j_iconst (v := 0) h dX3_hang_106 (by decide) ?_
            exact cut107 _ (by simp_all [bi]) _ ⟨rfl, rfl, rfl, rfl, rfl, trivial⟩
          · -- f
            refine j_iconst (v := 1) h dX3_hang_102 (by decide) ?_
            refine j_goto (tgt := 107) h dX3_hang_103 (by decide) ?_
            exact cut107 _ (by simp_all [bi]) _ ⟨rfl, rfl, rfl, rfl, rfl, trivial⟩
    · -- ahead
      refine j_iload h dX3_hang_33 rfl ?_
      refine j_if_eq (tgt := 82) h dX3_hang_35 (by decide) (fun c35 => ?_) (fun c35 => ?_)
      · -- t
        have hk := bi_0.mp c35
        refine j_iconst (v := 0) h dX3_hang_82 (by decide) ?_
        exact cut83 _ (by simp_all [bi, okHang]) _ ⟨rfl, rfl, rfl, rfl, rfl, trivial⟩
      · -- f
        have hk := bi_n0.mp c35
        have hk2 := hk
        simp only [Bool.and_eq_true] at hk2
        obtain ⟨a, ha, rfl⟩ := inB_ix (n := n) (by omega) (by rw [← hn]; exact hk2.1.1)
        obtain ⟨c9, hc9, rfl⟩ := inB_ix (n := b) (by omega) (by rw [← hb]; exact hk2.1.2)
        have hac : (nI a).toNatClampNeg = a := nI_clamp (by omega)
        have hcc : (nI c9).toNatClampNeg = c9 := nI_clamp (by omega)
        refine j_aload_nR h dX3_hang_38 rfl ?_
        refine m_get5 h hin3 (by decide +kernel) dX3_hang_39 ?_
        refine j_iload_n h dX3_hang_42 rfl ?_
        refine m_ald5 h dX3_hang_43 rfl (by omega) ?_
        refine j_iconst (v := (-1)) h dX3_hang_44 (by decide) ?_
        refine j_icmp_ne (tgt := 82) h dX3_hang_45 (by decide) (fun c45 => ?_) (fun c45 => ?_)
        · -- t
          refine j_iconst (v := 0) h dX3_hang_82 (by decide) ?_
          exact cut83 _ (by simp_all [bi, okHang]) _ ⟨rfl, rfl, rfl, rfl, rfl, trivial⟩
        · -- f
          refine j_aload_nR h dX3_hang_48 rfl ?_
          refine m_get10 h hin3 (by decide +kernel) dX3_hang_49 ?_
          refine j_iload_n h dX3_hang_52 rfl ?_
          refine m_ald10 h dX3_hang_53 rfl (by omega) ?_
          refine j_iconst (v := 2) h dX3_hang_54 (by decide) ?_
          refine j_icmp_eq (tgt := 82) h dX3_hang_55 (by decide) (fun c55 => ?_) (fun c55 => ?_)
          · -- t
            refine j_iconst (v := 0) h dX3_hang_82 (by decide) ?_
            exact cut83 _ (by simp_all [bi, okHang]) _ ⟨rfl, rfl, rfl, rfl, rfl, trivial⟩
          · -- f
            refine j_aload_nR h dX3_hang_58 rfl ?_
            refine j_iload_n h dX3_hang_59 rfl ?_
            refine j_callVI (vc := (RX3, TX3, 22)) h dX3_hang_60 (c_X3_loadOf (n := n) hn hn24) (cwV 1 h.2.2.2.2.1 gX3_hang_X3_loadOf rfl rfl rfl (by decide +kernel) ⟨Nat.le_of_ble_eq_true rfl, Nat.le_of_ble_eq_true rfl⟩) 0 rfl rfl rfl rfl (Nat.le_of_ble_eq_true rfl) ⟨Nat.le_of_ble_eq_true rfl, Nat.le_of_ble_eq_true rfl⟩ (fun r60 u60 hu60 => ?_)
            obtain ⟨rfl, rfl⟩ := hu60
            refine j_aload_nR h dX3_hang_63 rfl ?_
            refine j_iload_n h dX3_hang_64 rfl ?_
            refine j_callVI (vc := (RX3, TX3, 22)) h dX3_hang_65 (c_X3_weight (a := a) (by omega)) (cwV 1 h.2.2.2.2.1 gX3_hang_X3_weight rfl rfl rfl (by decide +kernel) ⟨Nat.le_of_ble_eq_true rfl, Nat.le_of_ble_eq_true rfl⟩) 0 rfl rfl rfl rfl (Nat.le_of_ble_eq_true rfl) ⟨Nat.le_of_ble_eq_true rfl, Nat.le_of_ble_eq_true rfl⟩ (fun r65 u65 hu65 => ?_)
            obtain ⟨rfl, rfl⟩ := hu65
            refine j_iadd h dX3_hang_68 ?_
            refine j_aload_nR h dX3_hang_69 rfl ?_
            refine m_get9 h hin3 (by decide +kernel) dX3_hang_70 ?_
            refine j_iload_n h dX3_hang_73 rfl ?_
            refine m_ald9 h dX3_hang_74 rfl (by omega) ?_
            refine j_icmp_gt (tgt := 82) h dX3_hang_75 (by decide) (fun c75 => ?_) (fun c75 => ?_)
            · -- t
              rw [← Int32.not_le] at c75
              refine j_iconst (v := 0) h dX3_hang_82 (by decide) ?_
              exact cut83 _ (by simp_all [bi, okHang]) _ ⟨rfl, rfl, rfl, rfl, rfl, trivial⟩
            · -- f
              rw [Int32.not_lt] at c75
              refine j_iconst (v := 1) h dX3_hang_78 (by decide) ?_
              refine j_goto (tgt := 83) h dX3_hang_79 (by decide) ?_
              exact cut83 _ (by simp_all [bi, okHang]) _ ⟨rfl, rfl, rfl, rfl, rfl, trivial⟩
  · -- ahead
    refine j_aload_nR h dX3_hang_0 rfl ?_
    refine j_iload_n h dX3_hang_1 rfl ?_
    refine j_callVI (vc := (RX3, TX3, 22)) h dX3_hang_2 (c_X3_isLantern) (cwV 1 h.2.2.2.2.1 gX3_hang_X3_isLantern rfl rfl rfl (by decide +kernel) ⟨Nat.le_of_ble_eq_true rfl, Nat.le_of_ble_eq_true rfl⟩) 0 rfl rfl rfl rfl (Nat.le_of_ble_eq_true rfl) ⟨Nat.le_of_ble_eq_true rfl, Nat.le_of_ble_eq_true rfl⟩ (fun r2 u2 hu2 => ?_)
    obtain ⟨rfl, rfl⟩ := hu2
    refine j_if_eq (tgt := 30) h dX3_hang_5 (by decide) (fun c5 => ?_) (fun c5 => ?_)
    · -- t
      refine j_iconst (v := 0) h dX3_hang_30 (by decide) ?_
      exact cut31 _ (by simp_all [bi]) _ ⟨rfl, rfl, rfl, rfl, trivial⟩
    · -- f
      refine j_aload_nR h dX3_hang_8 rfl ?_
      refine j_iload_n h dX3_hang_9 rfl ?_
      refine j_callVI (vc := (RX3, TX3, 22)) h dX3_hang_10 (c_X3_isFloat) (cwV 1 h.2.2.2.2.1 gX3_hang_X3_isFloat rfl rfl rfl (by decide +kernel) ⟨Nat.le_of_ble_eq_true rfl, Nat.le_of_ble_eq_true rfl⟩) 0 rfl rfl rfl rfl (Nat.le_of_ble_eq_true rfl) ⟨Nat.le_of_ble_eq_true rfl, Nat.le_of_ble_eq_true rfl⟩ (fun r10 u10 hu10 => ?_)
      obtain ⟨rfl, rfl⟩ := hu10
      refine j_if_eq (tgt := 30) h dX3_hang_13 (by decide) (fun c13 => ?_) (fun c13 => ?_)
      · -- t
        refine j_iconst (v := 0) h dX3_hang_30 (by decide) ?_
        exact cut31 _ (by simp_all [bi]) _ ⟨rfl, rfl, rfl, rfl, trivial⟩
      · -- f
        refine j_iload_n h dX3_hang_16 rfl ?_
        refine j_iconst (v := 0) h dX3_hang_17 (by decide) ?_
        refine j_bipush (v := 9) h dX3_hang_18 (by decide) ?_
        refine j_callSI h dX3_hang_20 (c_X3_in) (va_cwS 3 h.2.2.2.2.1 gX3_hang_X3_in rfl rfl rfl (by decide +kernel) ⟨Nat.le_of_ble_eq_true rfl, Nat.le_of_ble_eq_true rfl⟩) rfl rfl (Nat.le_of_ble_eq_true rfl) ⟨Nat.le_of_ble_eq_true rfl, Nat.le_of_ble_eq_true rfl⟩ (fun r20 u20 hu20 => ?_)
        obtain ⟨rfl, rfl⟩ := hu20
        refine j_if_eq (tgt := 30) h dX3_hang_23 (by decide) (fun c23 => ?_) (fun c23 => ?_)
        · -- t
          refine j_iconst (v := 0) h dX3_hang_30 (by decide) ?_
          exact cut31 _ (by simp_all [bi]) _ ⟨rfl, rfl, rfl, rfl, trivial⟩
        · -- f
          refine j_iconst (v := 1) h dX3_hang_26 (by decide) ?_
          refine j_goto (tgt := 31) h dX3_hang_27 (by decide) ?_
          exact cut31 _ (by simp_all [bi]) _ ⟨rfl, rfl, rfl, rfl, trivial⟩
set_option maxHeartbeats 4000000 in
set_option maxRecDepth 100000 in
theorem c_X3_alike {l : Launch} {D : va_G} {cI cL cR : ClassId} {ad : Nat → Nat} {f : St} {t : Int32} {x g : Int32} {n : Nat} (hn : f 7 0 = nI n) (hn24 : n ≤ 24) : ctI l D vwCl (tyW cI cL cR) yX3_alike wsX3_alike { frames := 0, cells := 0, slots := 0, locals := 0 } [.ref (ad 0), .int x, .int g] (wM cI ad f t) (fun r u => r = lkS f n x g ∧ u = (wM cI ad f t)) 0 0 := by
  refine ctI_of (cc := cX3_alike) (maxL := 6) (ret := (some .int)) (by decide) rfl rfl (Nat.le_of_ble_eq_true rfl) (by simp [Value.category]) [(0, .ref (ad 0)), (1, .int x), (2, .int g)] rfl ?_
  intro p e s m args below meth c sz h hrt hlk hnm
  have hin3 : ∀ x ∈ wsX30, x ∈ wsX3_alike := by decide +kernel
  refine j_iconst (v := 0) h dX3_alike_0 (by decide) ?_
  refine j_istore_n (i := 3) h dX3_alike_1 rfl (by decide) ?_
  refine j_iconst (v := 0) h dX3_alike_2 (by decide) ?_
  refine j_istore h dX3_alike_3 (by decide) ?_
  refine jj_loop (fun i : Nat => [(0, .ref (ad 0)), (1, .int x), (2, .int g), (3, .int (setS f x i)), (4, .int (nI i))]) (fun i : Nat => (wM cI ad f t)) (fun i : Nat => i ≤ n) (fun i : Nat => n - i) 0 ⟨rfl, rfl, rfl, rfl, rfl, trivial⟩ rfl (by omega) (fun i hi ih => ?_)
  refine j_iload h dX3_alike_5 rfl ?_
  refine j_aload_nR h dX3_alike_7 rfl ?_
  refine m_get7 h hin3 (by decide +kernel) dX3_alike_8 ?_
  refine j_icmp_ge (tgt := 58) h dX3_alike_11 (by decide) (fun c11 => ?_) (fun c11 => ?_)
  · -- t
    rw [hn, nI_leI (by omega) (by omega)] at c11
    refine j_iconst (v := 0) h dX3_alike_58 (by decide) ?_
    refine j_istore h dX3_alike_59 (by decide) ?_
    refine j_iconst (v := 0) h dX3_alike_61 (by decide) ?_
    refine j_istore h dX3_alike_62 (by decide) ?_
    refine jj_loop (fun j : Nat => [(0, .ref (ad 0)), (1, .int x), (2, .int g), (3, .int (setS f x n)), (4, .int (alS (setS f x n) g j)), (5, .int (nI j))]) (fun j : Nat => (wM cI ad f t)) (fun j : Nat => j ≤ 10) (fun j : Nat => 10 - j) 0 ⟨rfl, rfl, rfl, by rw [show n = i by omega]; rfl, rfl, rfl, trivial⟩ rfl (by omega) (fun j hj ih2 => ?_)
    refine j_iload h dX3_alike_64 rfl ?_
    refine j_bipush (v := 10) h dX3_alike_66 (by decide) ?_
    refine j_icmp_ge (tgt := 102) h dX3_alike_68 (by decide) (fun c68 => ?_) (fun c68 => ?_)
    · -- t
      rw [show (10 : Int32) = nI 10 from rfl, nI_leI (by omega) (by omega)] at c68
      refine j_iload h dX3_alike_102 rfl ?_
      exact j_iret h hrt hlk dX3_alike_104 (by decide) (by decide) (⟨by rw [show j = 10 by omega]; rfl, rfl⟩)
    · -- f
      rw [show (10 : Int32) = nI 10 from rfl, nI_leI (by omega) (by omega)] at c68
      refine j_iload h dX3_alike_71 rfl ?_
      refine j_iload_n h dX3_alike_73 rfl ?_
      refine j_iload h dX3_alike_74 rfl ?_
      refine j_ishr h dX3_alike_76 ?_
      refine j_iconst (v := 1) h dX3_alike_77 (by decide) ?_
      refine j_iand h dX3_alike_78 ?_
      refine j_iload_n h dX3_alike_79 rfl ?_
      refine j_iload h dX3_alike_80 rfl ?_
      refine j_ishr h dX3_alike_82 ?_
      refine j_iconst (v := 1) h dX3_alike_83 (by decide) ?_
      refine j_iand h dX3_alike_84 ?_
      refine j_icmp_ne (tgt := 92) h dX3_alike_85 (by decide) (fun c85 => ?_) (fun c85 => ?_)
      · -- t
        refine j_iconst (v := 0) h dX3_alike_92 (by decide) ?_
        refine j_iadd h dX3_alike_93 ?_
        refine j_istore h dX3_alike_94 (by decide) ?_
        refine j_iinc h dX3_alike_96 rfl rfl (by decide) ?_
        refine j_goto (tgt := 64) h dX3_alike_99 (by decide) ?_
        exact ih2 (j + 1) (by omega) (by omega) _ ⟨rfl, rfl, rfl, rfl, by simp [alS, lget, c85], by simp [lget, nI_succ], trivial⟩
      · -- f
        refine j_iconst (v := 1) h dX3_alike_88 (by decide) ?_
        refine j_goto (tgt := 93) h dX3_alike_89 (by decide) ?_
        refine j_iadd h dX3_alike_93 ?_
        refine j_istore h dX3_alike_94 (by decide) ?_
        refine j_iinc h dX3_alike_96 rfl rfl (by decide) ?_
        refine j_goto (tgt := 64) h dX3_alike_99 (by decide) ?_
        exact ih2 (j + 1) (by omega) (by omega) _ ⟨rfl, rfl, rfl, rfl, by simp [alS, lget, c85], by simp [lget, nI_succ], trivial⟩
  · -- f
    rw [hn, nI_leI (by omega) (by omega)] at c11
    refine j_iload_n h dX3_alike_14 rfl ?_
    refine j_aload_nR h dX3_alike_15 rfl ?_
    refine m_get5 h hin3 (by decide +kernel) dX3_alike_16 ?_
    refine j_iload h dX3_alike_19 rfl ?_
    refine m_ald5 h dX3_alike_21 rfl (by omega) ?_
    refine j_iload_n h dX3_alike_22 rfl ?_
    refine j_icmp_ne (tgt := 49) h dX3_alike_23 (by decide) (fun c23 => ?_) (fun c23 => ?_)
    · -- t
      refine j_iconst (v := 0) h dX3_alike_49 (by decide) ?_
      refine j_ior h dX3_alike_50 ?_
      refine j_istore_n (i := 3) h dX3_alike_51 rfl (by decide) ?_
      refine j_iinc h dX3_alike_52 rfl rfl (by decide) ?_
      refine j_goto (tgt := 5) h dX3_alike_55 (by decide) ?_
      exact ih (i + 1) (by omega) (by omega) _ ⟨rfl, rfl, rfl, by simp [setS, lget, *], by simp [lget, nI_succ], trivial⟩
    · -- f
      refine j_aload_nR h dX3_alike_26 rfl ?_
      refine m_get3 h hin3 (by decide +kernel) dX3_alike_27 ?_
      refine j_iload h dX3_alike_30 rfl ?_
      refine m_ald3 h dX3_alike_32 rfl (by omega) ?_
      refine j_iconst (v := 1) h dX3_alike_33 (by decide) ?_
      refine j_icmp_ne (tgt := 49) h dX3_alike_34 (by decide) (fun c34 => ?_) (fun c34 => ?_)
      · -- t
        refine j_iconst (v := 0) h dX3_alike_49 (by decide) ?_
        refine j_ior h dX3_alike_50 ?_
        refine j_istore_n (i := 3) h dX3_alike_51 rfl (by decide) ?_
        refine j_iinc h dX3_alike_52 rfl rfl (by decide) ?_
        refine j_goto (tgt := 5) h dX3_alike_55 (by decide) ?_
        exact ih (i + 1) (by omega) (by omega) _ ⟨rfl, rfl, rfl, by simp [setS, lget, *], by simp [lget, nI_succ], trivial⟩
      · -- f
        refine j_iconst (v := 1) h dX3_alike_37 (by decide) ?_
        refine j_aload_nR h dX3_alike_38 rfl ?_
        refine m_get6 h hin3 (by decide +kernel) dX3_alike_39 ?_
        refine j_iload h dX3_alike_42 rfl ?_
        refine m_ald6 h dX3_alike_44 rfl (by omega) ?_
        refine j_ishl h dX3_alike_45 ?_
        refine j_goto (tgt := 50) h dX3_alike_46 (by decide) ?_
        refine j_ior h dX3_alike_50 ?_
        refine j_istore_n (i := 3) h dX3_alike_51 rfl (by decide) ?_
        refine j_iinc h dX3_alike_52 rfl rfl (by decide) ?_
        refine j_goto (tgt := 5) h dX3_alike_55 (by decide) ?_
        exact ih (i + 1) (by omega) (by omega) _ ⟨rfl, rfl, rfl, by simp [setS, lget, *], by simp [lget, nI_succ], trivial⟩
set_option maxHeartbeats 4000000 in
set_option maxRecDepth 100000 in
theorem c_X3_likeness {l : Launch} {D : va_G} {cI cL cR : ClassId} {ad : Nat → Nat} {f : St} {t : Int32} {x g : Int32} {n b : Nat} (hn : f 7 0 = nI n) (hn24 : n ≤ 24) : ctI l D vwCl (tyW cI cL cR) yX3_likeness wsX3_likeness { frames := 2, cells := 0, slots := 0, locals := 43 } [.ref (ad 0), .int x, .int g] (wM cI ad f t) (fun r u => u = wM cI ad f (tLike f x g) ∧ (tLike f x g = 0 → r = lkS f n x g)) 0 0 := by
  refine ctI_of (cc := cX3_likeness) (maxL := 3) (ret := (some .int)) (by decide) rfl rfl (Nat.le_of_ble_eq_true rfl) (by simp [Value.category]) [(0, .ref (ad 0)), (1, .int x), (2, .int g)] rfl ?_
  intro p e s m args below meth c sz h hrt hlk hnm
  have hin3 : ∀ x ∈ wsX30, x ∈ wsX3_likeness := by decide +kernel
  refine j_aload_nR h dX3_likeness_0 rfl ?_
  refine j_aload_nR h dX3_likeness_1 rfl ?_
  refine j_iload_n h dX3_likeness_2 rfl ?_
  refine j_callVI (vc := (RX3, TX3, 22)) h dX3_likeness_3 (c_X3_isFloat) (cwV 1 h.2.2.2.2.1 gX3_likeness_X3_isFloat rfl rfl rfl (by decide +kernel) ⟨Nat.le_of_ble_eq_true rfl, Nat.le_of_ble_eq_true rfl⟩) 0 rfl rfl rfl rfl (Nat.le_of_ble_eq_true rfl) ⟨Nat.le_of_ble_eq_true rfl, Nat.le_of_ble_eq_true rfl⟩ (fun r3 u3 hu3 => ?_)
  obtain ⟨rfl, rfl⟩ := hu3
  refine j_iload_n h dX3_likeness_6 rfl ?_
  refine j_iconst (v := 0) h dX3_likeness_7 (by decide) ?_
  refine j_sipush (v := 1023) h dX3_likeness_8 (by decide) ?_
  refine j_callSI h dX3_likeness_11 (c_X3_in) (va_cwS 3 h.2.2.2.2.1 gX3_likeness_X3_in rfl rfl rfl (by decide +kernel) ⟨Nat.le_of_ble_eq_true rfl, Nat.le_of_ble_eq_true rfl⟩) rfl rfl (Nat.le_of_ble_eq_true rfl) ⟨Nat.le_of_ble_eq_true rfl, Nat.le_of_ble_eq_true rfl⟩ (fun r11 u11 hu11 => ?_)
  obtain ⟨rfl, rfl⟩ := hu11
  refine j_iconst (v := 1) h dX3_likeness_14 (by decide) ?_
  refine j_callVI (vc := (RX3, TX3, 22)) h dX3_likeness_15 (c_X3_goes) (cwV 3 h.2.2.2.2.1 gX3_likeness_X3_goes rfl rfl rfl (by decide +kernel) ⟨Nat.le_of_ble_eq_true rfl, Nat.le_of_ble_eq_true rfl⟩) 0 rfl rfl rfl rfl (Nat.le_of_ble_eq_true rfl) ⟨Nat.le_of_ble_eq_true rfl, Nat.le_of_ble_eq_true rfl⟩ (fun r15 u15 hu15 => ?_)
  obtain ⟨rfl, rfl⟩ := hu15
  refine j_if_eq (tgt := 30) h dX3_likeness_18 (by decide) (fun c18 => ?_) (fun c18 => ?_)
  · -- t
    have hT : ¬ tLike f x g = 0 := of_decide_eq_false (bi_0.mp c18)
    refine j_iconst (v := 0) h dX3_likeness_30 (by decide) ?_
    exact j_iret h hrt hlk dX3_likeness_31 (by decide) (by decide) (by first | exact ⟨rfl, fun z => absurd z hT⟩ | exact ⟨rfl, fun _ => rfl⟩)
  · -- f
    have hT : tLike f x g = 0 := of_decide_eq_true (bi_n0.mp c18)
    refine j_aload_nR h dX3_likeness_21 rfl ?_
    refine j_iload_n h dX3_likeness_22 rfl ?_
    refine j_iload_n h dX3_likeness_23 rfl ?_
    refine j_callVI (vc := (RX3, TX3, 22)) h dX3_likeness_24 (c_X3_alike (n := n) hn hn24) (cwV 2 h.2.2.2.2.1 gX3_likeness_X3_alike rfl rfl rfl (by decide +kernel) ⟨Nat.le_of_ble_eq_true rfl, Nat.le_of_ble_eq_true rfl⟩) 0 rfl rfl rfl rfl (Nat.le_of_ble_eq_true rfl) ⟨Nat.le_of_ble_eq_true rfl, Nat.le_of_ble_eq_true rfl⟩ (fun r24 u24 hu24 => ?_)
    obtain ⟨rfl, rfl⟩ := hu24
    refine j_goto (tgt := 31) h dX3_likeness_27 (by decide) ?_
    exact j_iret h hrt hlk dX3_likeness_31 (by decide) (by decide) (by first | exact ⟨rfl, fun z => absurd z hT⟩ | exact ⟨rfl, fun _ => rfl⟩)
set_option maxHeartbeats 4000000 in
set_option maxRecDepth 100000 in
theorem c_X3_prize {l : Launch} {D : va_G} {cI cL cR : ClassId} {ad : Nat → Nat} {f : St} {t : Int32} {g : Int32} {n q : Nat} (hn : f 7 0 = nI n) (hn24 : n ≤ 24) (hq : f 13 0 = nI q) (hq8 : q ≤ 8) (ho : ∀ i, i < q → ∃ r, r < 8 ∧ f 12 i = nI r) : ctI l D vwCl (tyW cI cL cR) yX3_prize wsX3_prize { frames := 1, cells := 0, slots := 0, locals := 25 } [.ref (ad 0), .int g] (wM cI ad f t) (fun r u => u = wM cI ad f (tPrize g) ∧ (tPrize g = 0 → r = prS f n g q)) 0 0 := by
  refine ctI_of (cc := cX3_prize) (maxL := 5) (ret := (some .int)) (by decide) rfl rfl (Nat.le_of_ble_eq_true rfl) (by simp [Value.category]) [(0, .ref (ad 0)), (1, .int g)] rfl ?_
  intro p e s m args below meth c sz h hrt hlk hnm
  have hin3 : ∀ x ∈ wsX30, x ∈ wsX3_prize := by decide +kernel
  refine j_aload_nR h dX3_prize_0 rfl ?_
  refine j_iload_n h dX3_prize_1 rfl ?_
  refine j_iconst (v := 0) h dX3_prize_2 (by decide) ?_
  refine j_sipush (v := 1023) h dX3_prize_3 (by decide) ?_
  refine j_callSI h dX3_prize_6 (c_X3_in) (va_cwS 3 h.2.2.2.2.1 gX3_prize_X3_in rfl rfl rfl (by decide +kernel) ⟨Nat.le_of_ble_eq_true rfl, Nat.le_of_ble_eq_true rfl⟩) rfl rfl (Nat.le_of_ble_eq_true rfl) ⟨Nat.le_of_ble_eq_true rfl, Nat.le_of_ble_eq_true rfl⟩ (fun r6 u6 hu6 => ?_)
  obtain ⟨rfl, rfl⟩ := hu6
  refine j_iconst (v := 1) h dX3_prize_9 (by decide) ?_
  refine j_iconst (v := 1) h dX3_prize_10 (by decide) ?_
  refine j_callVI (vc := (RX3, TX3, 22)) h dX3_prize_11 (c_X3_goes) (cwV 3 h.2.2.2.2.1 gX3_prize_X3_goes rfl rfl rfl (by decide +kernel) ⟨Nat.le_of_ble_eq_true rfl, Nat.le_of_ble_eq_true rfl⟩) 0 rfl rfl rfl rfl (Nat.le_of_ble_eq_true rfl) ⟨Nat.le_of_ble_eq_true rfl, Nat.le_of_ble_eq_true rfl⟩ (fun r11 u11 hu11 => ?_)
  obtain ⟨rfl, rfl⟩ := hu11
  refine j_if_ne (tgt := 19) h dX3_prize_14 (by decide) (fun c14 => ?_) (fun c14 => ?_)
  · -- t
    have hT : tPrize g = 0 := of_decide_eq_true (bi_n0.mp c14)
    refine j_iconst (v := (-1)) h dX3_prize_19 (by decide) ?_
    refine j_istore_n (i := 2) h dX3_prize_20 rfl (by decide) ?_
    refine j_iconst (v := 0) h dX3_prize_21 (by decide) ?_
    refine j_istore_n (i := 3) h dX3_prize_22 rfl (by decide) ?_
    refine jj_loop (fun i : Nat => [(0, .ref (ad 0)), (1, .int g), (2, .int (prS f n g i)), (3, .int (nI i))]) (fun i : Nat => wM cI ad f (tPrize g)) (fun i : Nat => i ≤ q) (fun i : Nat => q - i) 0 ⟨rfl, rfl, rfl, rfl, trivial⟩ rfl (by omega) (fun i hi ih => ?_)
    refine j_iload_n h dX3_prize_23 rfl ?_
    refine j_aload_nR h dX3_prize_24 rfl ?_
    refine m_get13 h hin3 (by decide +kernel) dX3_prize_25 ?_
    refine j_icmp_ge (tgt := 100) h dX3_prize_28 (by decide) (fun c28 => ?_) (fun c28 => ?_)
    · -- t
      rw [hq, nI_leI (by omega) (by omega)] at c28
      refine j_iload_n h dX3_prize_100 rfl ?_
      exact j_iret h hrt hlk dX3_prize_101 (by decide) (by decide) (⟨rfl, fun _ => by rw [show i = q by omega]⟩)
    · -- f
      rw [hq, nI_leI (by omega) (by omega)] at c28
      obtain ⟨r, hr8, hr⟩ := ho i (by omega)
      have hrc : (nI r).toNatClampNeg = r := nI_clamp (by omega)
      refine jj_cut 61 [(0, .ref (ad 0)), (1, .int g), (2, .int (prS f n g i)), (3, .int (nI i))] [] (fun v => v = bi (decide (prS f n g i = -1) || decide (lkS f n (prS f n g i) g < lkS f n (f 12 i) g))) (fun v61 hv61 => ?_) (fun cut61 => ?_)
      · -- behind
        obtain rfl := hv61
        refine j_istore h dX3_prize_61 (by decide) ?_
        refine j_aload_nR h dX3_prize_63 rfl ?_
        refine m_get10 h hin3 (by decide +kernel) dX3_prize_64 ?_
        refine j_aload_nR h dX3_prize_67 rfl ?_
        refine m_get12 h hin3 (by decide +kernel) dX3_prize_68 ?_
        refine j_iload_n h dX3_prize_71 rfl ?_
        refine m_ald12 h dX3_prize_72 rfl (by omega) ?_
        refine m_ald10 h dX3_prize_73 hr hr8 ?_
        refine j_iconst (v := 1) h dX3_prize_74 (by decide) ?_
        refine j_icmp_ne (tgt := 92) h dX3_prize_75 (by decide) (fun c75 => ?_) (fun c75 => ?_)
        · -- t
          refine j_iload_n h dX3_prize_92 rfl ?_
          refine j_istore_n (i := 2) h dX3_prize_93 rfl (by decide) ?_
          refine j_iinc h dX3_prize_94 rfl rfl (by decide) ?_
          refine j_goto (tgt := 23) h dX3_prize_97 (by decide) ?_
          exact ih (i + 1) (by omega) (by omega) _ ⟨rfl, rfl, by first | (rw [prS_t (by rw [hr, hrc]; exact c75) c80]; rfl) | (rw [prS_f2 c80]; rfl) | (rw [prS_f1 (by rw [hr, hrc]; exact c75)]; rfl), by simp [lget, nI_succ], trivial⟩
        · -- f
          refine j_iload h dX3_prize_78 rfl ?_
          refine j_if_eq (tgt := 92) h dX3_prize_80 (by decide) (fun c80 => ?_) (fun c80 => ?_)
          · -- t
            have c80 : ¬ (prS f n g i = -1 ∨ lkS f n (prS f n g i) g < lkS f n (f 12 i) g) := by have z := bi_0.mp c80; simpa using z
            refine j_iload_n h dX3_prize_92 rfl ?_
            refine j_istore_n (i := 2) h dX3_prize_93 rfl (by decide) ?_
            refine j_iinc h dX3_prize_94 rfl rfl (by decide) ?_
            refine j_goto (tgt := 23) h dX3_prize_97 (by decide) ?_
            exact ih (i + 1) (by omega) (by omega) _ ⟨rfl, rfl, by first | (rw [prS_t (by rw [hr, hrc]; exact c75) c80]; rfl) | (rw [prS_f2 c80]; rfl) | (rw [prS_f1 (by rw [hr, hrc]; exact c75)]; rfl), by simp [lget, nI_succ], trivial⟩
          · -- f
            have c80 : prS f n g i = -1 ∨ lkS f n (prS f n g i) g < lkS f n (f 12 i) g := by have z := bi_n0.mp c80; simpa using z
            refine j_aload_nR h dX3_prize_83 rfl ?_
            refine m_get12 h hin3 (by decide +kernel) dX3_prize_84 ?_
            refine j_iload_n h dX3_prize_87 rfl ?_
            refine m_ald12 h dX3_prize_88 rfl (by omega) ?_
            refine j_goto (tgt := 93) h dX3_prize_89 (by decide) ?_
            refine j_istore_n (i := 2) h dX3_prize_93 rfl (by decide) ?_
            refine j_iinc h dX3_prize_94 rfl rfl (by decide) ?_
            refine j_goto (tgt := 23) h dX3_prize_97 (by decide) ?_
            exact ih (i + 1) (by omega) (by omega) _ ⟨rfl, rfl, by first | (rw [prS_t (by rw [hr, hrc]; exact c75) c80]; rfl) | (rw [prS_f2 c80]; rfl) | (rw [prS_f1 (by rw [hr, hrc]; exact c75)]; rfl), by simp [lget, nI_succ], trivial⟩
      · -- ahead
        refine j_iload_n h dX3_prize_31 rfl ?_
        refine j_iconst (v := (-1)) h dX3_prize_32 (by decide) ?_
        refine j_icmp_eq (tgt := 56) h dX3_prize_33 (by decide) (fun c33 => ?_) (fun c33 => ?_)
        · -- t
          refine j_iconst (v := 1) h dX3_prize_56 (by decide) ?_
          refine j_goto (tgt := 61) h dX3_prize_57 (by decide) ?_
          exact cut61 _ (by simp_all [bi]) _ ⟨rfl, rfl, rfl, rfl, trivial⟩
        · -- f
          refine j_aload_nR h dX3_prize_36 rfl ?_
          refine j_aload_nR h dX3_prize_37 rfl ?_
          refine m_get12 h hin3 (by decide +kernel) dX3_prize_38 ?_
          refine j_iload_n h dX3_prize_41 rfl ?_
          refine m_ald12 h dX3_prize_42 rfl (by omega) ?_
          refine j_iload_n h dX3_prize_43 rfl ?_
          refine j_callVI (vc := (RX3, TX3, 22)) h dX3_prize_44 (c_X3_alike (n := n) hn hn24) (cwV 2 h.2.2.2.2.1 gX3_prize_X3_alike rfl rfl rfl (by decide +kernel) ⟨Nat.le_of_ble_eq_true rfl, Nat.le_of_ble_eq_true rfl⟩) 0 rfl rfl rfl rfl (Nat.le_of_ble_eq_true rfl) ⟨Nat.le_of_ble_eq_true rfl, Nat.le_of_ble_eq_true rfl⟩ (fun r44 u44 hu44 => ?_)
          obtain ⟨rfl, rfl⟩ := hu44
          refine j_aload_nR h dX3_prize_47 rfl ?_
          refine j_iload_n h dX3_prize_48 rfl ?_
          refine j_iload_n h dX3_prize_49 rfl ?_
          refine j_callVI (vc := (RX3, TX3, 22)) h dX3_prize_50 (c_X3_alike (n := n) hn hn24) (cwV 2 h.2.2.2.2.1 gX3_prize_X3_alike rfl rfl rfl (by decide +kernel) ⟨Nat.le_of_ble_eq_true rfl, Nat.le_of_ble_eq_true rfl⟩) 0 rfl rfl rfl rfl (Nat.le_of_ble_eq_true rfl) ⟨Nat.le_of_ble_eq_true rfl, Nat.le_of_ble_eq_true rfl⟩ (fun r50 u50 hu50 => ?_)
          obtain ⟨rfl, rfl⟩ := hu50
          refine j_icmp_le (tgt := 60) h dX3_prize_53 (by decide) (fun c53 => ?_) (fun c53 => ?_)
          · -- t
            rw [← Int32.not_lt] at c53
            refine j_iconst (v := 0) h dX3_prize_60 (by decide) ?_
            exact cut61 _ (by simp_all [bi]) _ ⟨rfl, rfl, rfl, rfl, trivial⟩
          · -- f
            rw [Int32.not_le] at c53
            refine j_iconst (v := 1) h dX3_prize_56 (by decide) ?_
            refine j_goto (tgt := 61) h dX3_prize_57 (by decide) ?_
            exact cut61 _ (by simp_all [bi]) _ ⟨rfl, rfl, rfl, rfl, trivial⟩
  · -- f
    have hT : ¬ tPrize g = 0 := of_decide_eq_false (bi_0.mp c14)
    refine j_iconst (v := 0) h dX3_prize_17 (by decide) ?_
    exact j_iret h hrt hlk dX3_prize_18 (by decide) (by decide) (⟨rfl, fun z => absurd z hT⟩)
end
section
set_option maxHeartbeats 4000000 in
set_option maxRecDepth 100000 in
theorem c_X3_floatsMove {l : Launch} {D : va_G} {cI cL cR : ClassId} {ad : Nat → Nat} {f : St} {t : Int32} {n b q : Nat} (hn : f 7 0 = nI n) (hn24 : n ≤ 24) (hb : f 14 0 = nI b) (hb8 : b ≤ 8) (hq : f 13 0 = nI q) (hq8 : q ≤ 8) (ho : ∀ i, i < q → ∃ r, r < 8 ∧ f 12 i = nI r) : ctV l D vwCl (tyW cI cL cR) yX3_floatsMove wsX3_floatsMove { frames := 1, cells := 0, slots := 0, locals := 21 } [.ref (ad 0)] (wM cI ad f t) (fun u => u = wM cI ad (fmF f n b q) t) 0 0 := by
  refine ctV_of (cc := cX3_floatsMove) (maxL := 6) (ret := none) (by decide) rfl rfl (Nat.le_of_ble_eq_true rfl) (by simp [Value.category]) [(0, .ref (ad 0))] rfl ?_
  intro p e s m args below meth c sz h hrt hlk hnm
  have hin3 : ∀ x ∈ wsX30, x ∈ wsX3_floatsMove := by decide +kernel
  refine j_iconst (v := (-1)) h dX3_floatsMove_0 (by decide) ?_
  refine j_istore_n (i := 1) h dX3_floatsMove_1 rfl (by decide) ?_
  refine j_iconst (v := 0) h dX3_floatsMove_2 (by decide) ?_
  refine j_istore_n (i := 2) h dX3_floatsMove_3 rfl (by decide) ?_
  refine jj_loop (fun i : Nat => [(0, .ref (ad 0)), (1, .int (mvF f i).2), (2, .int (nI i))]) (fun i : Nat => wM cI ad (mvF f i).1 t) (fun i : Nat => i ≤ q) (fun i : Nat => q - i) 0 ⟨rfl, rfl, rfl, trivial⟩ rfl (by omega) (fun i hi ih => ?_)
  have hq1 : (mvF f i).1 13 0 = nI q := by rw [mvF_k _ _ (by decide)]; exact hq
  refine j_iload_n h dX3_floatsMove_4 rfl ?_
  refine j_aload_nR h dX3_floatsMove_5 rfl ?_
  refine m_get13 h hin3 (by decide +kernel) dX3_floatsMove_6 ?_
  refine j_icmp_ge (tgt := 122) h dX3_floatsMove_9 (by decide) (fun c9 => ?_) (fun c9 => ?_)
  · -- t
    rw [hq1, nI_leI (by omega) (by omega)] at c9
    refine j_iconst (v := 0) h dX3_floatsMove_122 (by decide) ?_
    refine j_istore_n (i := 2) h dX3_floatsMove_123 rfl (by decide) ?_
    obtain rfl : i = q := by omega
    refine jj_loop (fun k : Nat => [(0, .ref (ad 0)), (2, .int (nI k))]) (fun k : Nat => wM cI ad (gnF (mvF f i).1 n k) t) (fun k : Nat => k ≤ b) (fun k : Nat => b - k) 0 ⟨rfl, rfl, trivial⟩ rfl (by omega) (fun k hk ih2 => ?_)
    have hn2 : gnF (mvF f i).1 n k 7 0 = nI n := by rw [(dec.gn _ _ _).2.2.1, (dec.mv _ _).2.2.1]; exact hn
    have hb2 : gnF (mvF f i).1 n k 14 0 = nI b := by rw [(dec.gn _ _ _).2.2.2.1, (dec.mv _ _).2.2.2.1]; exact hb
    refine j_iload_n h dX3_floatsMove_124 rfl ?_
    refine j_aload_nR h dX3_floatsMove_125 rfl ?_
    refine m_get14 h hin3 (by decide +kernel) dX3_floatsMove_126 ?_
    refine j_icmp_ge (tgt := 198) h dX3_floatsMove_129 (by decide) (fun c129 => ?_) (fun c129 => ?_)
    · -- t
      rw [hb2, nI_leI (by omega) (by omega)] at c129
      exact j_vret h hrt hlk dX3_floatsMove_198 (by decide) (by decide) (by rw [show k = b by omega]; rfl)
    · -- f
      rw [hb2, nI_leI (by omega) (by omega)] at c129
      refine j_aload_nR h dX3_floatsMove_132 rfl ?_
      refine m_get10 h hin3 (by decide +kernel) dX3_floatsMove_133 ?_
      refine j_iload_n h dX3_floatsMove_136 rfl ?_
      refine m_ald10 h dX3_floatsMove_137 rfl (by omega) ?_
      refine j_iconst (v := 1) h dX3_floatsMove_138 (by decide) ?_
      refine j_icmp_ne (tgt := 192) h dX3_floatsMove_139 (by decide) (fun c139 => ?_) (fun c139 => ?_)
      · -- t
        refine j_iinc h dX3_floatsMove_192 rfl rfl (by decide) ?_
        refine j_goto (tgt := 124) h dX3_floatsMove_195 (by decide) ?_
        first
          | exact jj_ws (by rw [gnF, if_neg (fun z => c139 z.1)]) (ih2 (k + 1) (by omega) (by omega) _ ⟨rfl, by simp [lget, nI_succ], trivial⟩)
          | exact jj_ws (by rw [gnF, if_neg (fun z => absurd z.2 (Int32.not_le.mpr c151))]) (ih2 (k + 1) (by omega) (by omega) _ ⟨rfl, by simp [lget, nI_succ], trivial⟩)
          | exact jj_ws (by rw [gnF, if_pos ⟨c139, Int32.not_lt.mp c151⟩, show n = j by omega]) (ih2 (k + 1) (by omega) (by omega) _ ⟨rfl, by simp [lget, nI_succ], trivial⟩)
      · -- f
        refine j_aload_nR h dX3_floatsMove_142 rfl ?_
        refine m_get11 h hin3 (by decide +kernel) dX3_floatsMove_143 ?_
        refine j_iload_n h dX3_floatsMove_146 rfl ?_
        refine m_ald11 h dX3_floatsMove_147 rfl (by omega) ?_
        refine j_sipush (v := 500) h dX3_floatsMove_148 (by decide) ?_
        refine j_icmp_lt (tgt := 192) h dX3_floatsMove_151 (by decide) (fun c151 => ?_) (fun c151 => ?_)
        · -- t
          refine j_iinc h dX3_floatsMove_192 rfl rfl (by decide) ?_
          refine j_goto (tgt := 124) h dX3_floatsMove_195 (by decide) ?_
          first
            | exact jj_ws (by rw [gnF, if_neg (fun z => c139 z.1)]) (ih2 (k + 1) (by omega) (by omega) _ ⟨rfl, by simp [lget, nI_succ], trivial⟩)
            | exact jj_ws (by rw [gnF, if_neg (fun z => absurd z.2 (Int32.not_le.mpr c151))]) (ih2 (k + 1) (by omega) (by omega) _ ⟨rfl, by simp [lget, nI_succ], trivial⟩)
            | exact jj_ws (by rw [gnF, if_pos ⟨c139, Int32.not_lt.mp c151⟩, show n = j by omega]) (ih2 (k + 1) (by omega) (by omega) _ ⟨rfl, by simp [lget, nI_succ], trivial⟩)
        · -- f
          refine j_aload_nR h dX3_floatsMove_154 rfl ?_
          refine m_get10 h hin3 (by decide +kernel) dX3_floatsMove_155 ?_
          refine j_iload_n h dX3_floatsMove_158 rfl ?_
          refine j_iconst (v := 2) h dX3_floatsMove_159 (by decide) ?_
          refine m_ast10 h dX3_floatsMove_160 rfl (by omega) ?_
          refine j_iconst (v := 0) h dX3_floatsMove_161 (by decide) ?_
          refine j_istore_n (i := 3) h dX3_floatsMove_162 rfl (by decide) ?_
          refine jj_loop (fun j : Nat => [(0, .ref (ad 0)), (2, .int (nI k)), (3, .int (nI j))]) (fun j : Nat => wM cI ad (dkL (up2 (gnF (mvF f i).1 n k) 10 k 2) (nI k) j) t) (fun j : Nat => j ≤ n) (fun j : Nat => n - j) 0 ⟨rfl, rfl, rfl, trivial⟩ rfl (by omega) (fun j hj ih3 => ?_)
          have hn3 : dkL (up2 (gnF (mvF f i).1 n k) 10 k 2) (nI k) j 7 0 = nI n := by rw [(dec.dkl _ _ _).2.2.1]; exact hn2
          have h53 : dkL (up2 (gnF (mvF f i).1 n k) 10 k 2) (nI k) j 5 j = up2 (gnF (mvF f i).1 n k) 10 k 2 5 j := by rw [(dec.dkl _ _ _).2.1]
          refine j_iload_n h dX3_floatsMove_163 rfl ?_
          refine j_aload_nR h dX3_floatsMove_164 rfl ?_
          refine m_get7 h hin3 (by decide +kernel) dX3_floatsMove_165 ?_
          refine j_icmp_ge (tgt := 192) h dX3_floatsMove_168 (by decide) (fun c168 => ?_) (fun c168 => ?_)
          · -- t
            rw [hn3, nI_leI (by omega) (by omega)] at c168
            refine j_iinc h dX3_floatsMove_192 rfl rfl (by decide) ?_
            refine j_goto (tgt := 124) h dX3_floatsMove_195 (by decide) ?_
            first
              | exact jj_ws (by rw [gnF, if_neg (fun z => c139 z.1)]) (ih2 (k + 1) (by omega) (by omega) _ ⟨rfl, by simp [lget, nI_succ], trivial⟩)
              | exact jj_ws (by rw [gnF, if_neg (fun z => absurd z.2 (Int32.not_le.mpr c151))]) (ih2 (k + 1) (by omega) (by omega) _ ⟨rfl, by simp [lget, nI_succ], trivial⟩)
              | exact jj_ws (by rw [gnF, if_pos ⟨c139, Int32.not_lt.mp c151⟩, show n = j by omega]) (ih2 (k + 1) (by omega) (by omega) _ ⟨rfl, by simp [lget, nI_succ], trivial⟩)
          · -- f
            rw [hn3, nI_leI (by omega) (by omega)] at c168
            refine j_aload_nR h dX3_floatsMove_171 rfl ?_
            refine m_get5 h hin3 (by decide +kernel) dX3_floatsMove_172 ?_
            refine j_iload_n h dX3_floatsMove_175 rfl ?_
            refine m_ald5 h dX3_floatsMove_176 rfl (by omega) ?_
            refine j_iload_n h dX3_floatsMove_177 rfl ?_
            refine j_icmp_ne (tgt := 186) h dX3_floatsMove_178 (by decide) (fun c178 => ?_) (fun c178 => ?_)
            · -- t
              refine j_iinc h dX3_floatsMove_186 rfl rfl (by decide) ?_
              refine j_goto (tgt := 163) h dX3_floatsMove_189 (by decide) ?_
              first
                | exact jj_ws (by rw [dkL, if_neg (fun z => c178 (h53.trans z))]) (ih3 (j + 1) (by omega) (by omega) _ ⟨rfl, rfl, by simp [lget, nI_succ], trivial⟩)
                | exact jj_ws (by rw [dkL, if_pos (h53.symm.trans c178)]) (ih3 (j + 1) (by omega) (by omega) _ ⟨rfl, rfl, by simp [lget, nI_succ], trivial⟩)
            · -- f
              refine j_aload_nR h dX3_floatsMove_181 rfl ?_
              refine j_iload_n h dX3_floatsMove_182 rfl ?_
              refine j_callVV (vc := (RX3, TX3, 22)) h dX3_floatsMove_183 (c_X3_darkens (a := j) (by omega)) (cwV 1 h.2.2.2.2.1 gX3_floatsMove_X3_darkens rfl rfl rfl (by decide +kernel) ⟨Nat.le_of_ble_eq_true rfl, Nat.le_of_ble_eq_true rfl⟩) 0 rfl rfl rfl rfl (Nat.le_of_ble_eq_true rfl) ⟨Nat.le_of_ble_eq_true rfl, Nat.le_of_ble_eq_true rfl⟩ (fun u183 hu183 => ?_)
              obtain rfl := hu183
              refine j_iinc h dX3_floatsMove_186 rfl rfl (by decide) ?_
              refine j_goto (tgt := 163) h dX3_floatsMove_189 (by decide) ?_
              first
                | exact jj_ws (by rw [dkL, if_neg (fun z => c178 (h53.trans z))]) (ih3 (j + 1) (by omega) (by omega) _ ⟨rfl, rfl, by simp [lget, nI_succ], trivial⟩)
                | exact jj_ws (by rw [dkL, if_pos (h53.symm.trans c178)]) (ih3 (j + 1) (by omega) (by omega) _ ⟨rfl, rfl, by simp [lget, nI_succ], trivial⟩)
  · -- f
    rw [hq1, nI_leI (by omega) (by omega)] at c9
    obtain ⟨r, hr8, hr⟩ := ho i (by omega)
    have hrc : (nI r).toNatClampNeg = r := nI_clamp (by omega)
    have hr1 : (mvF f i).1 12 i = f 12 i := by rw [mvF_k _ _ (by decide)]
    have hr2 : (mvF f i).1 12 i = nI r := hr1.trans hr
    have h10 : (mvF f i).1 10 = f 10 := mvF_k _ _ (by decide)
    refine j_aload_nR h dX3_floatsMove_12 rfl ?_
    refine m_get12 h hin3 (by decide +kernel) dX3_floatsMove_13 ?_
    refine j_iload_n h dX3_floatsMove_16 rfl ?_
    refine m_ald12 h dX3_floatsMove_17 rfl (by omega) ?_
    refine j_istore_n (i := 3) h dX3_floatsMove_18 rfl (by decide) ?_
    refine j_aload_nR h dX3_floatsMove_19 rfl ?_
    refine m_get10 h hin3 (by decide +kernel) dX3_floatsMove_20 ?_
    refine j_iload_n h dX3_floatsMove_23 rfl ?_
    refine m_ald10 h dX3_floatsMove_24 hr2 hr8 ?_
    refine j_iconst (v := 1) h dX3_floatsMove_25 (by decide) ?_
    refine j_icmp_ne (tgt := 116) h dX3_floatsMove_26 (by decide) (fun c26 => ?_) (fun c26 => ?_)
    · -- t
      rw [h10] at c26
      refine j_iinc h dX3_floatsMove_116 rfl rfl (by decide) ?_
      refine j_goto (tgt := 4) h dX3_floatsMove_119 (by decide) ?_
      first
        | exact jj_ws (by rw [mvF_n (by rw [hr, hrc]; exact c26)]) (ih (i + 1) (by omega) (by omega) _ ⟨rfl, by rw [mvF_n (by rw [hr, hrc]; exact c26)]; rfl, by simp [lget, nI_succ], trivial⟩)
        | exact jj_ws (by rw [mvF_s (by rw [hr, hrc]; exact c26), hr, hrc]; exact congrArg (fun z => wM cI ad (up2 (mvF f i).1 11 r z) t) (by simp only [moveF, *, reduceIte])) (ih (i + 1) (by omega) (by omega) _ ⟨rfl, by rw [mvF_s (by rw [hr, hrc]; exact c26)]; exact congrArg (fun z => some (Value.int z)) hr1, by simp [lget, nI_succ], trivial⟩)
    · -- f
      rw [h10] at c26
      refine j_aload_nR h dX3_floatsMove_29 rfl ?_
      refine m_get11 h hin3 (by decide +kernel) dX3_floatsMove_30 ?_
      refine j_iload_n h dX3_floatsMove_33 rfl ?_
      refine m_ald11 h dX3_floatsMove_34 hr2 hr8 ?_
      refine j_aload_nR h dX3_floatsMove_35 rfl ?_
      refine m_get8 h hin3 (by decide +kernel) dX3_floatsMove_36 ?_
      refine j_iload_n h dX3_floatsMove_39 rfl ?_
      refine m_ald8 h dX3_floatsMove_40 hr2 hr8 ?_
      refine j_iadd h dX3_floatsMove_41 ?_
      refine j_istore h dX3_floatsMove_42 (by decide) ?_
      refine j_iload_n h dX3_floatsMove_44 rfl ?_
      refine j_iconst (v := (-1)) h dX3_floatsMove_45 (by decide) ?_
      refine j_icmp_ne (tgt := 54) h dX3_floatsMove_46 (by decide) (fun c46 => ?_) (fun c46 => ?_)
      · -- t
        obtain ⟨ra, hra8, hra⟩ := (mvF_in ho (i := i) (by omega)).resolve_left c46
        have c46b : ¬ nI ra = -1 := by rw [← hra]; exact c46
        have hrac : (nI ra).toNatClampNeg = ra := nI_clamp (by omega)
        refine j_aload_nR h dX3_floatsMove_54 rfl ?_
        refine m_get11 h hin3 (by decide +kernel) dX3_floatsMove_55 ?_
        refine j_iload_n h dX3_floatsMove_58 rfl ?_
        refine m_ald11 h dX3_floatsMove_59 hra hra8 ?_
        refine j_bipush (v := 9) h dX3_floatsMove_60 (by decide) ?_
        refine j_isub h dX3_floatsMove_62 ?_
        refine j_aload_nR h dX3_floatsMove_63 rfl ?_
        refine m_get15 h hin3 (by decide +kernel) dX3_floatsMove_64 ?_
        refine j_isub h dX3_floatsMove_67 ?_
        refine j_istore h dX3_floatsMove_68 (by decide) ?_
        refine j_iload h dX3_floatsMove_70 rfl ?_
        refine j_iload h dX3_floatsMove_72 rfl ?_
        refine j_icmp_ge (tgt := 82) h dX3_floatsMove_74 (by decide) (fun c74 => ?_) (fun c74 => ?_)
        · -- t
          rw [← Int32.not_lt] at c74
          refine j_iload h dX3_floatsMove_82 rfl ?_
          refine j_istore h dX3_floatsMove_84 (by decide) ?_
          refine j_aload_nR h dX3_floatsMove_86 rfl ?_
          refine m_get11 h hin3 (by decide +kernel) dX3_floatsMove_87 ?_
          refine j_iload_n h dX3_floatsMove_90 rfl ?_
          refine j_iload h dX3_floatsMove_91 rfl ?_
          refine j_aload_nR h dX3_floatsMove_93 rfl ?_
          refine m_get11 h hin3 (by decide +kernel) dX3_floatsMove_94 ?_
          refine j_iload_n h dX3_floatsMove_97 rfl ?_
          refine m_ald11 h dX3_floatsMove_98 hr2 hr8 ?_
          refine j_icmp_le (tgt := 107) h dX3_floatsMove_99 (by decide) (fun c99 => ?_) (fun c99 => ?_)
          · -- t
            rw [← Int32.not_lt] at c99
            refine j_aload_nR h dX3_floatsMove_107 rfl ?_
            refine m_get11 h hin3 (by decide +kernel) dX3_floatsMove_108 ?_
            refine j_iload_n h dX3_floatsMove_111 rfl ?_
            refine m_ald11 h dX3_floatsMove_112 hr2 hr8 ?_
            refine m_ast11 h dX3_floatsMove_113 hr2 hr8 ?_
            refine j_iload_n h dX3_floatsMove_114 rfl ?_
            refine j_istore_n (i := 1) h dX3_floatsMove_115 rfl (by decide) ?_
            refine j_iinc h dX3_floatsMove_116 rfl rfl (by decide) ?_
            refine j_goto (tgt := 4) h dX3_floatsMove_119 (by decide) ?_
            first
              | exact jj_ws (by rw [mvF_n (by rw [hr, hrc]; exact c26)]) (ih (i + 1) (by omega) (by omega) _ ⟨rfl, by rw [mvF_n (by rw [hr, hrc]; exact c26)]; rfl, by simp [lget, nI_succ], trivial⟩)
              | exact jj_ws (by rw [mvF_s (by rw [hr, hrc]; exact c26), hr, hrc]; exact congrArg (fun z => wM cI ad (up2 (mvF f i).1 11 r z) t) (by simp only [moveF, *, reduceIte])) (ih (i + 1) (by omega) (by omega) _ ⟨rfl, by rw [mvF_s (by rw [hr, hrc]; exact c26)]; exact congrArg (fun z => some (Value.int z)) hr1, by simp [lget, nI_succ], trivial⟩)
          · -- f
            rw [Int32.not_le] at c99
            refine j_iload h dX3_floatsMove_102 rfl ?_
            refine j_goto (tgt := 113) h dX3_floatsMove_104 (by decide) ?_
            refine m_ast11 h dX3_floatsMove_113 hr2 hr8 ?_
            refine j_iload_n h dX3_floatsMove_114 rfl ?_
            refine j_istore_n (i := 1) h dX3_floatsMove_115 rfl (by decide) ?_
            refine j_iinc h dX3_floatsMove_116 rfl rfl (by decide) ?_
            refine j_goto (tgt := 4) h dX3_floatsMove_119 (by decide) ?_
            first
              | exact jj_ws (by rw [mvF_n (by rw [hr, hrc]; exact c26)]) (ih (i + 1) (by omega) (by omega) _ ⟨rfl, by rw [mvF_n (by rw [hr, hrc]; exact c26)]; rfl, by simp [lget, nI_succ], trivial⟩)
              | exact jj_ws (by rw [mvF_s (by rw [hr, hrc]; exact c26), hr, hrc]; exact congrArg (fun z => wM cI ad (up2 (mvF f i).1 11 r z) t) (by simp only [moveF, *, reduceIte])) (ih (i + 1) (by omega) (by omega) _ ⟨rfl, by rw [mvF_s (by rw [hr, hrc]; exact c26)]; exact congrArg (fun z => some (Value.int z)) hr1, by simp [lget, nI_succ], trivial⟩)
        · -- f
          rw [Int32.not_le] at c74
          refine j_iload h dX3_floatsMove_77 rfl ?_
          refine j_goto (tgt := 84) h dX3_floatsMove_79 (by decide) ?_
          refine j_istore h dX3_floatsMove_84 (by decide) ?_
          refine j_aload_nR h dX3_floatsMove_86 rfl ?_
          refine m_get11 h hin3 (by decide +kernel) dX3_floatsMove_87 ?_
          refine j_iload_n h dX3_floatsMove_90 rfl ?_
          refine j_iload h dX3_floatsMove_91 rfl ?_
          refine j_aload_nR h dX3_floatsMove_93 rfl ?_
          refine m_get11 h hin3 (by decide +kernel) dX3_floatsMove_94 ?_
          refine j_iload_n h dX3_floatsMove_97 rfl ?_
          refine m_ald11 h dX3_floatsMove_98 hr2 hr8 ?_
          refine j_icmp_le (tgt := 107) h dX3_floatsMove_99 (by decide) (fun c99 => ?_) (fun c99 => ?_)
          · -- t
            rw [← Int32.not_lt] at c99
            refine j_aload_nR h dX3_floatsMove_107 rfl ?_
            refine m_get11 h hin3 (by decide +kernel) dX3_floatsMove_108 ?_
            refine j_iload_n h dX3_floatsMove_111 rfl ?_
            refine m_ald11 h dX3_floatsMove_112 hr2 hr8 ?_
            refine m_ast11 h dX3_floatsMove_113 hr2 hr8 ?_
            refine j_iload_n h dX3_floatsMove_114 rfl ?_
            refine j_istore_n (i := 1) h dX3_floatsMove_115 rfl (by decide) ?_
            refine j_iinc h dX3_floatsMove_116 rfl rfl (by decide) ?_
            refine j_goto (tgt := 4) h dX3_floatsMove_119 (by decide) ?_
            first
              | exact jj_ws (by rw [mvF_n (by rw [hr, hrc]; exact c26)]) (ih (i + 1) (by omega) (by omega) _ ⟨rfl, by rw [mvF_n (by rw [hr, hrc]; exact c26)]; rfl, by simp [lget, nI_succ], trivial⟩)
              | exact jj_ws (by rw [mvF_s (by rw [hr, hrc]; exact c26), hr, hrc]; exact congrArg (fun z => wM cI ad (up2 (mvF f i).1 11 r z) t) (by simp only [moveF, *, reduceIte])) (ih (i + 1) (by omega) (by omega) _ ⟨rfl, by rw [mvF_s (by rw [hr, hrc]; exact c26)]; exact congrArg (fun z => some (Value.int z)) hr1, by simp [lget, nI_succ], trivial⟩)
          · -- f
            rw [Int32.not_le] at c99
            refine j_iload h dX3_floatsMove_102 rfl ?_
            refine j_goto (tgt := 113) h dX3_floatsMove_104 (by decide) ?_
            refine m_ast11 h dX3_floatsMove_113 hr2 hr8 ?_
            refine j_iload_n h dX3_floatsMove_114 rfl ?_
            refine j_istore_n (i := 1) h dX3_floatsMove_115 rfl (by decide) ?_
            refine j_iinc h dX3_floatsMove_116 rfl rfl (by decide) ?_
            refine j_goto (tgt := 4) h dX3_floatsMove_119 (by decide) ?_
            first
              | exact jj_ws (by rw [mvF_n (by rw [hr, hrc]; exact c26)]) (ih (i + 1) (by omega) (by omega) _ ⟨rfl, by rw [mvF_n (by rw [hr, hrc]; exact c26)]; rfl, by simp [lget, nI_succ], trivial⟩)
              | exact jj_ws (by rw [mvF_s (by rw [hr, hrc]; exact c26), hr, hrc]; exact congrArg (fun z => wM cI ad (up2 (mvF f i).1 11 r z) t) (by simp only [moveF, *, reduceIte])) (ih (i + 1) (by omega) (by omega) _ ⟨rfl, by rw [mvF_s (by rw [hr, hrc]; exact c26)]; exact congrArg (fun z => some (Value.int z)) hr1, by simp [lget, nI_succ], trivial⟩)
      · -- f
        refine j_iload h dX3_floatsMove_49 rfl ?_
        refine j_goto (tgt := 68) h dX3_floatsMove_51 (by decide) ?_
        refine j_istore h dX3_floatsMove_68 (by decide) ?_
        refine j_iload h dX3_floatsMove_70 rfl ?_
        refine j_iload h dX3_floatsMove_72 rfl ?_
        refine j_icmp_ge (tgt := 82) h dX3_floatsMove_74 (by decide) (fun c74 => ?_) (fun c74 => ?_)
        · -- t
          rw [← Int32.not_lt] at c74
          refine j_iload h dX3_floatsMove_82 rfl ?_
          refine j_istore h dX3_floatsMove_84 (by decide) ?_
          refine j_aload_nR h dX3_floatsMove_86 rfl ?_
          refine m_get11 h hin3 (by decide +kernel) dX3_floatsMove_87 ?_
          refine j_iload_n h dX3_floatsMove_90 rfl ?_
          refine j_iload h dX3_floatsMove_91 rfl ?_
          refine j_aload_nR h dX3_floatsMove_93 rfl ?_
          refine m_get11 h hin3 (by decide +kernel) dX3_floatsMove_94 ?_
          refine j_iload_n h dX3_floatsMove_97 rfl ?_
          refine m_ald11 h dX3_floatsMove_98 hr2 hr8 ?_
          refine j_icmp_le (tgt := 107) h dX3_floatsMove_99 (by decide) (fun c99 => ?_) (fun c99 => ?_)
          · -- t
            rw [← Int32.not_lt] at c99
            refine j_aload_nR h dX3_floatsMove_107 rfl ?_
            refine m_get11 h hin3 (by decide +kernel) dX3_floatsMove_108 ?_
            refine j_iload_n h dX3_floatsMove_111 rfl ?_
            refine m_ald11 h dX3_floatsMove_112 hr2 hr8 ?_
            refine m_ast11 h dX3_floatsMove_113 hr2 hr8 ?_
            refine j_iload_n h dX3_floatsMove_114 rfl ?_
            refine j_istore_n (i := 1) h dX3_floatsMove_115 rfl (by decide) ?_
            refine j_iinc h dX3_floatsMove_116 rfl rfl (by decide) ?_
            refine j_goto (tgt := 4) h dX3_floatsMove_119 (by decide) ?_
            first
              | exact jj_ws (by rw [mvF_n (by rw [hr, hrc]; exact c26)]) (ih (i + 1) (by omega) (by omega) _ ⟨rfl, by rw [mvF_n (by rw [hr, hrc]; exact c26)]; rfl, by simp [lget, nI_succ], trivial⟩)
              | exact jj_ws (by rw [mvF_s (by rw [hr, hrc]; exact c26), hr, hrc]; exact congrArg (fun z => wM cI ad (up2 (mvF f i).1 11 r z) t) (by simp only [moveF, *, reduceIte])) (ih (i + 1) (by omega) (by omega) _ ⟨rfl, by rw [mvF_s (by rw [hr, hrc]; exact c26)]; exact congrArg (fun z => some (Value.int z)) hr1, by simp [lget, nI_succ], trivial⟩)
          · -- f
            rw [Int32.not_le] at c99
            refine j_iload h dX3_floatsMove_102 rfl ?_
            refine j_goto (tgt := 113) h dX3_floatsMove_104 (by decide) ?_
            refine m_ast11 h dX3_floatsMove_113 hr2 hr8 ?_
            refine j_iload_n h dX3_floatsMove_114 rfl ?_
            refine j_istore_n (i := 1) h dX3_floatsMove_115 rfl (by decide) ?_
            refine j_iinc h dX3_floatsMove_116 rfl rfl (by decide) ?_
            refine j_goto (tgt := 4) h dX3_floatsMove_119 (by decide) ?_
            first
              | exact jj_ws (by rw [mvF_n (by rw [hr, hrc]; exact c26)]) (ih (i + 1) (by omega) (by omega) _ ⟨rfl, by rw [mvF_n (by rw [hr, hrc]; exact c26)]; rfl, by simp [lget, nI_succ], trivial⟩)
              | exact jj_ws (by rw [mvF_s (by rw [hr, hrc]; exact c26), hr, hrc]; exact congrArg (fun z => wM cI ad (up2 (mvF f i).1 11 r z) t) (by simp only [moveF, *, reduceIte])) (ih (i + 1) (by omega) (by omega) _ ⟨rfl, by rw [mvF_s (by rw [hr, hrc]; exact c26)]; exact congrArg (fun z => some (Value.int z)) hr1, by simp [lget, nI_succ], trivial⟩)
        · -- f
          rw [Int32.not_le] at c74
          refine j_iload h dX3_floatsMove_77 rfl ?_
          refine j_goto (tgt := 84) h dX3_floatsMove_79 (by decide) ?_
          refine j_istore h dX3_floatsMove_84 (by decide) ?_
          refine j_aload_nR h dX3_floatsMove_86 rfl ?_
          refine m_get11 h hin3 (by decide +kernel) dX3_floatsMove_87 ?_
          refine j_iload_n h dX3_floatsMove_90 rfl ?_
          refine j_iload h dX3_floatsMove_91 rfl ?_
          refine j_aload_nR h dX3_floatsMove_93 rfl ?_
          refine m_get11 h hin3 (by decide +kernel) dX3_floatsMove_94 ?_
          refine j_iload_n h dX3_floatsMove_97 rfl ?_
          refine m_ald11 h dX3_floatsMove_98 hr2 hr8 ?_
          refine j_icmp_le (tgt := 107) h dX3_floatsMove_99 (by decide) (fun c99 => ?_) (fun c99 => ?_)
          · -- t
            rw [← Int32.not_lt] at c99
            refine j_aload_nR h dX3_floatsMove_107 rfl ?_
            refine m_get11 h hin3 (by decide +kernel) dX3_floatsMove_108 ?_
            refine j_iload_n h dX3_floatsMove_111 rfl ?_
            refine m_ald11 h dX3_floatsMove_112 hr2 hr8 ?_
            refine m_ast11 h dX3_floatsMove_113 hr2 hr8 ?_
            refine j_iload_n h dX3_floatsMove_114 rfl ?_
            refine j_istore_n (i := 1) h dX3_floatsMove_115 rfl (by decide) ?_
            refine j_iinc h dX3_floatsMove_116 rfl rfl (by decide) ?_
            refine j_goto (tgt := 4) h dX3_floatsMove_119 (by decide) ?_
            first
              | exact jj_ws (by rw [mvF_n (by rw [hr, hrc]; exact c26)]) (ih (i + 1) (by omega) (by omega) _ ⟨rfl, by rw [mvF_n (by rw [hr, hrc]; exact c26)]; rfl, by simp [lget, nI_succ], trivial⟩)
              | exact jj_ws (by rw [mvF_s (by rw [hr, hrc]; exact c26), hr, hrc]; exact congrArg (fun z => wM cI ad (up2 (mvF f i).1 11 r z) t) (by simp only [moveF, *, reduceIte])) (ih (i + 1) (by omega) (by omega) _ ⟨rfl, by rw [mvF_s (by rw [hr, hrc]; exact c26)]; exact congrArg (fun z => some (Value.int z)) hr1, by simp [lget, nI_succ], trivial⟩)
          · -- f
            rw [Int32.not_le] at c99
            refine j_iload h dX3_floatsMove_102 rfl ?_
            refine j_goto (tgt := 113) h dX3_floatsMove_104 (by decide) ?_
            refine m_ast11 h dX3_floatsMove_113 hr2 hr8 ?_
            refine j_iload_n h dX3_floatsMove_114 rfl ?_
            refine j_istore_n (i := 1) h dX3_floatsMove_115 rfl (by decide) ?_
            refine j_iinc h dX3_floatsMove_116 rfl rfl (by decide) ?_
            refine j_goto (tgt := 4) h dX3_floatsMove_119 (by decide) ?_
            first
              | exact jj_ws (by rw [mvF_n (by rw [hr, hrc]; exact c26)]) (ih (i + 1) (by omega) (by omega) _ ⟨rfl, by rw [mvF_n (by rw [hr, hrc]; exact c26)]; rfl, by simp [lget, nI_succ], trivial⟩)
              | exact jj_ws (by rw [mvF_s (by rw [hr, hrc]; exact c26), hr, hrc]; exact congrArg (fun z => wM cI ad (up2 (mvF f i).1 11 r z) t) (by simp only [moveF, *, reduceIte])) (ih (i + 1) (by omega) (by omega) _ ⟨rfl, by rw [mvF_s (by rw [hr, hrc]; exact c26)]; exact congrArg (fun z => some (Value.int z)) hr1, by simp [lget, nI_succ], trivial⟩)
set_option maxHeartbeats 4000000 in
set_option maxRecDepth 100000 in
theorem c_X3_burns {l : Launch} {D : va_G} {cI cL cR : ClassId} {ad : Nat → Nat} {f : St} {t : Int32} {n tm : Nat} (hn : f 7 0 = nI n) (hn24 : n ≤ 24) (ht : f 18 0 = nI tm) (htm : tm < 2 ^ 30) (hlt : LT f n) : ctV l D vwCl (tyW cI cL cR) yX3_burns wsX3_burns { frames := 3, cells := 0, slots := 0, locals := 68 } [.ref (ad 0)] (wM cI ad f t) (fun u => u = wM cI ad (brF f n tm) t) 0 0 := by
  refine ctV_of (cc := cX3_burns) (maxL := 3) (ret := none) (by decide) rfl rfl (Nat.le_of_ble_eq_true rfl) (by simp [Value.category]) [(0, .ref (ad 0))] rfl ?_
  intro p e s m args below meth c sz h hrt hlk hnm
  have hin3 : ∀ x ∈ wsX30, x ∈ wsX3_burns := by decide +kernel
  refine jj_cut 23 [(0, .ref (ad 0))] [] (fun v => v = guF f tm) (fun v23 hv23 => ?_) (fun cut23 => ?_)
  · -- behind
    obtain rfl := hv23
    refine j_istore_n (i := 1) h dX3_burns_23 rfl (by decide) ?_
    refine j_iconst (v := 0) h dX3_burns_24 (by decide) ?_
    refine j_istore_n (i := 2) h dX3_burns_25 rfl (by decide) ?_
    refine jj_loop (fun i : Nat => [(0, .ref (ad 0)), (1, .int (guF f tm)), (2, .int (nI i))]) (fun i : Nat => wM cI ad (blF f (guF f tm) i) t) (fun i : Nat => i ≤ n) (fun i : Nat => n - i) 0 ⟨rfl, rfl, rfl, trivial⟩ rfl (by omega) (fun i hi ih => ?_)
    have hn1 : blF f (guF f tm) i 7 0 = nI n := by rw [(dec.bl _ _ _).2.2.1]; exact hn
    refine j_iload_n h dX3_burns_26 rfl ?_
    refine j_aload_nR h dX3_burns_27 rfl ?_
    refine m_get7 h hin3 (by decide +kernel) dX3_burns_28 ?_
    refine j_icmp_ge (tgt := 86) h dX3_burns_31 (by decide) (fun c31 => ?_) (fun c31 => ?_)
    · -- t
      rw [hn1, nI_leI (by omega) (by omega)] at c31
      refine j_iconst (v := 0) h dX3_burns_86 (by decide) ?_
      refine j_istore_n (i := 2) h dX3_burns_87 rfl (by decide) ?_
      obtain rfl : i = n := by omega
      refine jj_loop (fun k : Nat => [(0, .ref (ad 0)), (2, .int (nI k))]) (fun k : Nat => wM cI ad (buF (blF f (guF f tm) i) k) t) (fun k : Nat => k ≤ i) (fun k : Nat => i - k) 0 ⟨rfl, rfl, trivial⟩ rfl (by omega) (fun k hk ih2 => ?_)
      have hn2 : buF (blF f (guF f tm) i) k 7 0 = nI i := by rw [(dec.bu _ _).2.2.1]; exact hn1
      refine j_iload_n h dX3_burns_88 rfl ?_
      refine j_aload_nR h dX3_burns_89 rfl ?_
      refine m_get7 h hin3 (by decide +kernel) dX3_burns_90 ?_
      refine j_icmp_ge (tgt := 142) h dX3_burns_93 (by decide) (fun c93 => ?_) (fun c93 => ?_)
      · -- t
        rw [hn2, nI_leI (by omega) (by omega)] at c93
        refine j_iconst (v := 0) h dX3_burns_142 (by decide) ?_
        refine j_istore_n (i := 2) h dX3_burns_143 rfl (by decide) ?_
        obtain rfl : k = i := by omega
        have hd0 : dec (buF (blF f (guF f tm) k) k) f := (dec.bu _ _).tr (dec.bl _ _ _)
        refine jj_loop (fun j : Nat => [(0, .ref (ad 0)), (2, .int (nI j))]) (fun j : Nat => wM cI ad (maF (buF (blF f (guF f tm) k) k) j) t) (fun j : Nat => j ≤ k) (fun j : Nat => k - j) 0 ⟨rfl, rfl, trivial⟩ rfl (by omega) (fun j hj ih3 => ?_)
        have hn3 : maF (buF (blF f (guF f tm) k) k) j 7 0 = nI k := by rw [(dec.ma _ _).2.2.1]; exact hn2
        have hl3 : LT (maF (buF (blF f (guF f tm) k) k) j) k := hlt.dec ((dec.ma _ _).tr hd0)
        refine j_iload_n h dX3_burns_144 rfl ?_
        refine j_aload_nR h dX3_burns_145 rfl ?_
        refine m_get7 h hin3 (by decide +kernel) dX3_burns_146 ?_
        refine j_icmp_ge (tgt := 194) h dX3_burns_149 (by decide) (fun c149 => ?_) (fun c149 => ?_)
        · -- t
          rw [hn3, nI_leI (by omega) (by omega)] at c149
          exact j_vret h hrt hlk dX3_burns_194 (by decide) (by decide) (by rw [show j = k by omega]; rfl)
        · -- f
          rw [hn3, nI_leI (by omega) (by omega)] at c149
          refine j_aload_nR h dX3_burns_152 rfl ?_
          refine m_get3 h hin3 (by decide +kernel) dX3_burns_153 ?_
          refine j_iload_n h dX3_burns_156 rfl ?_
          refine m_ald3 h dX3_burns_157 rfl (by omega) ?_
          refine j_iconst (v := 1) h dX3_burns_158 (by decide) ?_
          refine j_icmp_ne (tgt := 188) h dX3_burns_159 (by decide) (fun c159 => ?_) (fun c159 => ?_)
          · -- t
            refine j_iinc h dX3_burns_188 rfl rfl (by decide) ?_
            refine j_goto (tgt := 144) h dX3_burns_191 (by decide) ?_
            first
              | exact jj_ws (by rw [maF, if_neg (fun z => c159 z.1)]) (ih3 (j + 1) (by omega) (by omega) _ ⟨rfl, by simp [lget, nI_succ], trivial⟩)
              | exact jj_ws (by rw [maF, if_neg (fun z => by rw [z.2] at c168; exact absurd c168 (by decide))]) (ih3 (j + 1) (by omega) (by omega) _ ⟨rfl, by simp [lget, nI_succ], trivial⟩)
              | exact jj_ws (by rw [maF, if_pos ⟨c159, bi_n0.mp c168⟩]; rfl) (ih3 (j + 1) (by omega) (by omega) _ ⟨rfl, by simp [lget, nI_succ], trivial⟩)
          · -- f
            obtain ⟨rj, hrj8, hrj⟩ := hl3 j (by omega) c159
            refine j_aload_nR h dX3_burns_162 rfl ?_
            refine j_iload_n h dX3_burns_163 rfl ?_
            refine j_iload_n h dX3_burns_164 rfl ?_
            refine j_callVI (vc := (RX3, TX3, 22)) h dX3_burns_165 (c_X3_isNear (a := j) (B := j) (r := rj) (by omega) (by omega) hrj8 hrj (fun z hz => hl3 z (by omega))) (cwV 2 h.2.2.2.2.1 gX3_burns_X3_isNear rfl rfl rfl (by decide +kernel) ⟨Nat.le_of_ble_eq_true rfl, Nat.le_of_ble_eq_true rfl⟩) 0 rfl rfl rfl rfl (Nat.le_of_ble_eq_true rfl) ⟨Nat.le_of_ble_eq_true rfl, Nat.le_of_ble_eq_true rfl⟩ (fun r165 u165 hu165 => ?_)
            obtain ⟨rfl, rfl⟩ := hu165
            refine j_if_eq (tgt := 188) h dX3_burns_168 (by decide) (fun c168 => ?_) (fun c168 => ?_)
            · -- t
              refine j_iinc h dX3_burns_188 rfl rfl (by decide) ?_
              refine j_goto (tgt := 144) h dX3_burns_191 (by decide) ?_
              first
                | exact jj_ws (by rw [maF, if_neg (fun z => c159 z.1)]) (ih3 (j + 1) (by omega) (by omega) _ ⟨rfl, by simp [lget, nI_succ], trivial⟩)
                | exact jj_ws (by rw [maF, if_neg (fun z => by rw [z.2] at c168; exact absurd c168 (by decide))]) (ih3 (j + 1) (by omega) (by omega) _ ⟨rfl, by simp [lget, nI_succ], trivial⟩)
                | exact jj_ws (by rw [maF, if_pos ⟨c159, bi_n0.mp c168⟩]; rfl) (ih3 (j + 1) (by omega) (by omega) _ ⟨rfl, by simp [lget, nI_succ], trivial⟩)
            · -- f
              refine j_aload_nR h dX3_burns_171 rfl ?_
              refine m_get3 h hin3 (by decide +kernel) dX3_burns_172 ?_
              refine j_iload_n h dX3_burns_175 rfl ?_
              refine j_iconst (v := 0) h dX3_burns_176 (by decide) ?_
              refine m_ast3 h dX3_burns_177 rfl (by omega) ?_
              refine j_aload_nR h dX3_burns_178 rfl ?_
              refine j_dup h dX3_burns_179 rfl ?_
              refine m_get20 h hin3 (by decide +kernel) dX3_burns_180 ?_
              refine j_iconst (v := 1) h dX3_burns_183 (by decide) ?_
              refine j_iadd h dX3_burns_184 ?_
              refine m_put20 h hin3 (by decide +kernel) dX3_burns_185 ?_
              refine j_iinc h dX3_burns_188 rfl rfl (by decide) ?_
              refine j_goto (tgt := 144) h dX3_burns_191 (by decide) ?_
              first
                | exact jj_ws (by rw [maF, if_neg (fun z => c159 z.1)]) (ih3 (j + 1) (by omega) (by omega) _ ⟨rfl, by simp [lget, nI_succ], trivial⟩)
                | exact jj_ws (by rw [maF, if_neg (fun z => by rw [z.2] at c168; exact absurd c168 (by decide))]) (ih3 (j + 1) (by omega) (by omega) _ ⟨rfl, by simp [lget, nI_succ], trivial⟩)
                | exact jj_ws (by rw [maF, if_pos ⟨c159, bi_n0.mp c168⟩]; rfl) (ih3 (j + 1) (by omega) (by omega) _ ⟨rfl, by simp [lget, nI_succ], trivial⟩)
      · -- f
        rw [hn2, nI_leI (by omega) (by omega)] at c93
        refine j_aload_nR h dX3_burns_96 rfl ?_
        refine m_get3 h hin3 (by decide +kernel) dX3_burns_97 ?_
        refine j_iload_n h dX3_burns_100 rfl ?_
        refine m_ald3 h dX3_burns_101 rfl (by omega) ?_
        refine j_iconst (v := 1) h dX3_burns_102 (by decide) ?_
        refine j_icmp_ne (tgt := 136) h dX3_burns_103 (by decide) (fun c103 => ?_) (fun c103 => ?_)
        · -- t
          refine j_iinc h dX3_burns_136 rfl rfl (by decide) ?_
          refine j_goto (tgt := 88) h dX3_burns_139 (by decide) ?_
          first
            | exact jj_ws (by rw [buF, if_neg c103]) (ih2 (k + 1) (by omega) (by omega) _ ⟨rfl, by simp [lget, nI_succ], trivial⟩)
            | exact jj_ws (by rw [buF, if_pos c103, if_pos (by rw [← c127, up2_self])]) (ih2 (k + 1) (by omega) (by omega) _ ⟨rfl, by simp [lget, nI_succ], trivial⟩)
            | exact jj_ws (by rw [buF, if_pos c103, if_neg (by rw [up2_self] at c127; exact c127)]) (ih2 (k + 1) (by omega) (by omega) _ ⟨rfl, by simp [lget, nI_succ], trivial⟩)
        · -- f
          refine j_aload_nR h dX3_burns_106 rfl ?_
          refine m_get4 h hin3 (by decide +kernel) dX3_burns_107 ?_
          refine j_iload_n h dX3_burns_110 rfl ?_
          refine j_dup2 h dX3_burns_111 rfl rfl ?_
          refine m_ald4 h dX3_burns_112 rfl (by omega) ?_
          refine j_iconst (v := 1) h dX3_burns_113 (by decide) ?_
          refine j_isub h dX3_burns_114 ?_
          refine m_ast4 h dX3_burns_115 rfl (by omega) ?_
          refine j_aload_nR h dX3_burns_116 rfl ?_
          refine m_get3 h hin3 (by decide +kernel) dX3_burns_117 ?_
          refine j_iload_n h dX3_burns_120 rfl ?_
          refine j_aload_nR h dX3_burns_121 rfl ?_
          refine m_get4 h hin3 (by decide +kernel) dX3_burns_122 ?_
          refine j_iload_n h dX3_burns_125 rfl ?_
          refine m_ald4 h dX3_burns_126 rfl (by omega) ?_
          refine j_if_ne (tgt := 134) h dX3_burns_127 (by decide) (fun c127 => ?_) (fun c127 => ?_)
          · -- t
            refine j_iconst (v := 1) h dX3_burns_134 (by decide) ?_
            refine m_ast3 h dX3_burns_135 rfl (by omega) ?_
            refine j_iinc h dX3_burns_136 rfl rfl (by decide) ?_
            refine j_goto (tgt := 88) h dX3_burns_139 (by decide) ?_
            first
              | exact jj_ws (by rw [buF, if_neg c103]) (ih2 (k + 1) (by omega) (by omega) _ ⟨rfl, by simp [lget, nI_succ], trivial⟩)
              | exact jj_ws (by rw [buF, if_pos c103, if_pos (by rw [← c127, up2_self])]) (ih2 (k + 1) (by omega) (by omega) _ ⟨rfl, by simp [lget, nI_succ], trivial⟩)
              | exact jj_ws (by rw [buF, if_pos c103, if_neg (by rw [up2_self] at c127; exact c127)]) (ih2 (k + 1) (by omega) (by omega) _ ⟨rfl, by simp [lget, nI_succ], trivial⟩)
          · -- f
            refine j_iconst (v := 2) h dX3_burns_130 (by decide) ?_
            refine j_goto (tgt := 135) h dX3_burns_131 (by decide) ?_
            refine m_ast3 h dX3_burns_135 rfl (by omega) ?_
            refine j_iinc h dX3_burns_136 rfl rfl (by decide) ?_
            refine j_goto (tgt := 88) h dX3_burns_139 (by decide) ?_
            first
              | exact jj_ws (by rw [buF, if_neg c103]) (ih2 (k + 1) (by omega) (by omega) _ ⟨rfl, by simp [lget, nI_succ], trivial⟩)
              | exact jj_ws (by rw [buF, if_pos c103, if_pos (by rw [← c127, up2_self])]) (ih2 (k + 1) (by omega) (by omega) _ ⟨rfl, by simp [lget, nI_succ], trivial⟩)
              | exact jj_ws (by rw [buF, if_pos c103, if_neg (by rw [up2_self] at c127; exact c127)]) (ih2 (k + 1) (by omega) (by omega) _ ⟨rfl, by simp [lget, nI_succ], trivial⟩)
    · -- f
      rw [hn1, nI_leI (by omega) (by omega)] at c31
      refine j_aload_nR h dX3_burns_34 rfl ?_
      refine m_get3 h hin3 (by decide +kernel) dX3_burns_35 ?_
      refine j_iload_n h dX3_burns_38 rfl ?_
      refine m_ald3 h dX3_burns_39 rfl (by omega) ?_
      refine j_iconst (v := 1) h dX3_burns_40 (by decide) ?_
      refine j_icmp_ne (tgt := 80) h dX3_burns_41 (by decide) (fun c41 => ?_) (fun c41 => ?_)
      · -- t
        refine j_iinc h dX3_burns_80 rfl rfl (by decide) ?_
        refine j_goto (tgt := 26) h dX3_burns_83 (by decide) ?_
        first
          | exact jj_ws (by rw [blF, if_neg (fun z => c41 z.1)]) (ih (i + 1) (by omega) (by omega) _ ⟨rfl, rfl, by simp [lget, nI_succ], trivial⟩)
          | exact jj_ws (by rw [blF, if_neg (fun z => absurd z.2 (Int32.not_lt.mpr c60))]) (ih (i + 1) (by omega) (by omega) _ ⟨rfl, rfl, by simp [lget, nI_succ], trivial⟩)
          | exact jj_ws (by rw [blF, if_pos ⟨c41, Int32.not_le.mp c60⟩]; rfl) (ih (i + 1) (by omega) (by omega) _ ⟨rfl, rfl, by simp [lget, nI_succ], trivial⟩)
      · -- f
        refine j_aload_nR h dX3_burns_44 rfl ?_
        refine m_get1 h hin3 (by decide +kernel) dX3_burns_45 ?_
        refine j_iload_n h dX3_burns_48 rfl ?_
        refine m_ald1 h dX3_burns_49 rfl (by omega) ?_
        refine j_aload_nR h dX3_burns_50 rfl ?_
        refine m_get0 h hin3 (by decide +kernel) dX3_burns_51 ?_
        refine j_iload_n h dX3_burns_54 rfl ?_
        refine m_ald0 h dX3_burns_55 rfl (by omega) ?_
        refine j_iconst (v := 3) h dX3_burns_56 (by decide) ?_
        refine j_idiv h dX3_burns_57 (by decide) ?_
        refine j_iadd h dX3_burns_58 ?_
        refine j_iload_n h dX3_burns_59 rfl ?_
        refine j_icmp_ge (tgt := 80) h dX3_burns_60 (by decide) (fun c60 => ?_) (fun c60 => ?_)
        · -- t
          refine j_iinc h dX3_burns_80 rfl rfl (by decide) ?_
          refine j_goto (tgt := 26) h dX3_burns_83 (by decide) ?_
          first
            | exact jj_ws (by rw [blF, if_neg (fun z => c41 z.1)]) (ih (i + 1) (by omega) (by omega) _ ⟨rfl, rfl, by simp [lget, nI_succ], trivial⟩)
            | exact jj_ws (by rw [blF, if_neg (fun z => absurd z.2 (Int32.not_lt.mpr c60))]) (ih (i + 1) (by omega) (by omega) _ ⟨rfl, rfl, by simp [lget, nI_succ], trivial⟩)
            | exact jj_ws (by rw [blF, if_pos ⟨c41, Int32.not_le.mp c60⟩]; rfl) (ih (i + 1) (by omega) (by omega) _ ⟨rfl, rfl, by simp [lget, nI_succ], trivial⟩)
        · -- f
          refine j_aload_nR h dX3_burns_63 rfl ?_
          refine m_get3 h hin3 (by decide +kernel) dX3_burns_64 ?_
          refine j_iload_n h dX3_burns_67 rfl ?_
          refine j_iconst (v := 0) h dX3_burns_68 (by decide) ?_
          refine m_ast3 h dX3_burns_69 rfl (by omega) ?_
          refine j_aload_nR h dX3_burns_70 rfl ?_
          refine j_dup h dX3_burns_71 rfl ?_
          refine m_get19 h hin3 (by decide +kernel) dX3_burns_72 ?_
          refine j_iconst (v := 1) h dX3_burns_75 (by decide) ?_
          refine j_iadd h dX3_burns_76 ?_
          refine m_put19 h hin3 (by decide +kernel) dX3_burns_77 ?_
          refine j_iinc h dX3_burns_80 rfl rfl (by decide) ?_
          refine j_goto (tgt := 26) h dX3_burns_83 (by decide) ?_
          first
            | exact jj_ws (by rw [blF, if_neg (fun z => c41 z.1)]) (ih (i + 1) (by omega) (by omega) _ ⟨rfl, rfl, by simp [lget, nI_succ], trivial⟩)
            | exact jj_ws (by rw [blF, if_neg (fun z => absurd z.2 (Int32.not_lt.mpr c60))]) (ih (i + 1) (by omega) (by omega) _ ⟨rfl, rfl, by simp [lget, nI_succ], trivial⟩)
            | exact jj_ws (by rw [blF, if_pos ⟨c41, Int32.not_le.mp c60⟩]; rfl) (ih (i + 1) (by omega) (by omega) _ ⟨rfl, rfl, by simp [lget, nI_succ], trivial⟩)
  · -- ahead
    refine j_aload_nR h dX3_burns_0 rfl ?_
    refine m_get18 h hin3 (by decide +kernel) dX3_burns_1 ?_
    refine j_sipush (v := 400) h dX3_burns_4 (by decide) ?_
    refine j_icmp_gt (tgt := 22) h dX3_burns_7 (by decide) (fun c7 => ?_) (fun c7 => ?_)
    · -- t
      rw [ht, show (400 : Int32) = nI 400 from rfl, nI_ltI (by omega) (by omega)] at c7
      refine j_iconst (v := 0) h dX3_burns_22 (by decide) ?_
      exact cut23 _ (by first | (rw [guF, if_neg (by omega)]; done) | (rw [guF, if_pos (by omega)]; done)) _ ⟨rfl, trivial⟩
    · -- f
      rw [ht, show (400 : Int32) = nI 400 from rfl, nI_ltI (by omega) (by omega)] at c7
      refine j_aload_nR h dX3_burns_10 rfl ?_
      refine m_get17 h hin3 (by decide +kernel) dX3_burns_11 ?_
      refine j_aload_nR h dX3_burns_14 rfl ?_
      refine m_get18 h hin3 (by decide +kernel) dX3_burns_15 ?_
      refine m_ald17 h dX3_burns_18 ht (by omega) ?_
      refine j_goto (tgt := 23) h dX3_burns_19 (by decide) ?_
      exact cut23 _ (by first | (rw [guF, if_neg (by omega)]; done) | (rw [guF, if_pos (by omega)]; done)) _ ⟨rfl, trivial⟩
set_option maxHeartbeats 4000000 in
set_option maxRecDepth 100000 in
theorem c_X3_pass {l : Launch} {D : va_G} {cI cL cR : ClassId} {ad : Nat → Nat} {f : St} {t : Int32} {x : Int32} {n b q tm : Nat} (hn : f 7 0 = nI n) (hn24 : n ≤ 24) (hb : f 14 0 = nI b) (hb8 : b ≤ 8) (hq : f 13 0 = nI q) (hq8 : q ≤ 8) (ho : ∀ i, i < q → ∃ r, r < 8 ∧ f 12 i = nI r) (ht : f 18 0 = nI tm) (htm : tm < 2 ^ 29) (hlt : LT f n) : ctI l D vwCl (tyW cI cL cR) yX3_pass wsX3_pass { frames := 4, cells := 0, slots := 0, locals := 90 } [.ref (ad 0), .int x] (wM cI ad f t) (fun r u => (¬ tPass x = 0 → u = wM cI ad f (tPass x)) ∧ (tPass x = 0 → ∃ a, 1 ≤ a ∧ a ≤ 60 ∧ x = nI a ∧ r = ltS f n - ltS (passF f n b q tm a) n ∧ u = wM cI ad (passF f n b q tm a) 0)) 0 0 := by
  refine ctI_of (cc := cX3_pass) (maxL := 4) (ret := (some .int)) (by decide) rfl rfl (Nat.le_of_ble_eq_true rfl) (by simp [Value.category]) [(0, .ref (ad 0)), (1, .int x)] rfl ?_
  intro p e s m args below meth c sz h hrt hlk hnm
  have hin3 : ∀ x ∈ wsX30, x ∈ wsX3_pass := by decide +kernel
  refine j_aload_nR h dX3_pass_0 rfl ?_
  refine j_iload_n h dX3_pass_1 rfl ?_
  refine j_iconst (v := 1) h dX3_pass_2 (by decide) ?_
  refine j_bipush (v := 60) h dX3_pass_3 (by decide) ?_
  refine j_callSI h dX3_pass_5 (c_X3_in) (va_cwS 3 h.2.2.2.2.1 gX3_pass_X3_in rfl rfl rfl (by decide +kernel) ⟨Nat.le_of_ble_eq_true rfl, Nat.le_of_ble_eq_true rfl⟩) rfl rfl (Nat.le_of_ble_eq_true rfl) ⟨Nat.le_of_ble_eq_true rfl, Nat.le_of_ble_eq_true rfl⟩ (fun r5 u5 hu5 => ?_)
  obtain ⟨rfl, rfl⟩ := hu5
  refine j_iconst (v := 1) h dX3_pass_8 (by decide) ?_
  refine j_iconst (v := 1) h dX3_pass_9 (by decide) ?_
  refine j_callVI (vc := (RX3, TX3, 22)) h dX3_pass_10 (c_X3_goes) (cwV 3 h.2.2.2.2.1 gX3_pass_X3_goes rfl rfl rfl (by decide +kernel) ⟨Nat.le_of_ble_eq_true rfl, Nat.le_of_ble_eq_true rfl⟩) 0 rfl rfl rfl rfl (Nat.le_of_ble_eq_true rfl) ⟨Nat.le_of_ble_eq_true rfl, Nat.le_of_ble_eq_true rfl⟩ (fun r10 u10 hu10 => ?_)
  obtain ⟨rfl, rfl⟩ := hu10
  refine j_if_ne (tgt := 18) h dX3_pass_13 (by decide) (fun c13 => ?_) (fun c13 => ?_)
  · -- t
    have hT : tPass x = 0 := of_decide_eq_true (bi_n0.mp c13)
    obtain ⟨a, ha1, ha, rfl⟩ := inB_1 (m := 60) (by decide) (gl_1.mp hT)
    refine j_aload_nR h dX3_pass_18 rfl ?_
    refine j_callVI (vc := (RX3, TX3, 22)) h dX3_pass_19 (c_X3_lit (n := n) hn hn24) (cwV 0 h.2.2.2.2.1 gX3_pass_X3_lit rfl rfl rfl (by decide +kernel) ⟨Nat.le_of_ble_eq_true rfl, Nat.le_of_ble_eq_true rfl⟩) 0 rfl rfl rfl rfl (Nat.le_of_ble_eq_true rfl) ⟨Nat.le_of_ble_eq_true rfl, Nat.le_of_ble_eq_true rfl⟩ (fun r19 u19 hu19 => ?_)
    obtain ⟨rfl, rfl⟩ := hu19
    refine j_istore_n (i := 2) h dX3_pass_22 rfl (by decide) ?_
    refine j_iconst (v := 0) h dX3_pass_23 (by decide) ?_
    refine j_istore_n (i := 3) h dX3_pass_24 rfl (by decide) ?_
    refine jj_loop (fun i : Nat => [(0, .ref (ad 0)), (1, .int (nI a)), (2, .int (ltS f n)), (3, .int (nI i))]) (fun i : Nat => wM cI ad (passF f n b q tm i) (tPass (nI a))) (fun i : Nat => i ≤ a) (fun i : Nat => a - i) 0 ⟨rfl, rfl, rfl, rfl, trivial⟩ rfl (by omega) (fun i hi ih => ?_)
    have hd := dec.pass f n b q tm i
    have ht1 : passF f n b q tm i 18 0 = nI (tm + i) := k18_pass ht i
    refine j_iload_n h dX3_pass_25 rfl ?_
    refine j_iload_n h dX3_pass_26 rfl ?_
    refine j_icmp_ge (tgt := 54) h dX3_pass_27 (by decide) (fun c27 => ?_) (fun c27 => ?_)
    · -- t
      rw [nI_leI (by omega) (by omega)] at c27
      have hd := dec.pass f n b q tm i
      refine j_iload_n h dX3_pass_54 rfl ?_
      refine j_aload_nR h dX3_pass_55 rfl ?_
      refine j_callVI (vc := (RX3, TX3, 22)) h dX3_pass_56 (c_X3_lit (n := n) (by rw [hd.2.2.1]; exact hn) hn24) (cwV 0 h.2.2.2.2.1 gX3_pass_X3_lit rfl rfl rfl (by decide +kernel) ⟨Nat.le_of_ble_eq_true rfl, Nat.le_of_ble_eq_true rfl⟩) 0 rfl rfl rfl rfl (Nat.le_of_ble_eq_true rfl) ⟨Nat.le_of_ble_eq_true rfl, Nat.le_of_ble_eq_true rfl⟩ (fun r56 u56 hu56 => ?_)
      obtain ⟨rfl, rfl⟩ := hu56
      refine j_isub h dX3_pass_59 ?_
      exact j_iret h hrt hlk dX3_pass_60 (by decide) (by decide) (⟨fun z => absurd hT z, fun _ => ⟨a, ha1, ha, rfl, by rw [show i = a by omega], by rw [show i = a by omega]; exact congrArg (wM cI ad _) hT⟩⟩)
    · -- f
      rw [nI_leI (by omega) (by omega)] at c27
      refine j_aload_nR h dX3_pass_30 rfl ?_
      refine j_dup h dX3_pass_31 rfl ?_
      refine m_get18 h hin3 (by decide +kernel) dX3_pass_32 ?_
      refine j_iconst (v := 1) h dX3_pass_35 (by decide) ?_
      refine j_iadd h dX3_pass_36 ?_
      refine m_put18 h hin3 (by decide +kernel) dX3_pass_37 ?_
      have hd1 := (dec.up (passF f n b q tm i) 0 (passF f n b q tm i 18 0 + 1) (j := 18) (by omega)).tr hd
      refine jj_ws (ws1 := wM cI ad (up2 (passF f n b q tm i) 18 0 (nI (tm + i + 1))) (tPass (nI a))) (by rw [ht1, nI_1]) ?_
      rw [ht1, nI_1] at hd1
      refine j_aload_nR h dX3_pass_40 rfl ?_
      refine j_callVV (vc := (RX3, TX3, 22)) h dX3_pass_41 (c_X3_floatsMove (n := n) (b := b) (q := q) (by rw [hd1.2.2.1]; exact hn) hn24 (by rw [hd1.2.2.2.1]; exact hb) hb8 (by rw [hd1.2.2.2.2.1]; exact hq) hq8 (by rw [hd1.2.2.2.2.2.1]; exact ho)) (cwV 0 h.2.2.2.2.1 gX3_pass_X3_floatsMove rfl rfl rfl (by decide +kernel) ⟨Nat.le_of_ble_eq_true rfl, Nat.le_of_ble_eq_true rfl⟩) 0 rfl rfl rfl rfl (Nat.le_of_ble_eq_true rfl) ⟨Nat.le_of_ble_eq_true rfl, Nat.le_of_ble_eq_true rfl⟩ (fun u41 hu41 => ?_)
      obtain rfl := hu41
      have hd2 := (dec.fm _ n b q).tr hd1
      refine j_aload_nR h dX3_pass_44 rfl ?_
      refine j_callVV (vc := (RX3, TX3, 22)) h dX3_pass_45 (c_X3_burns (n := n) (tm := tm + i + 1) (by rw [hd2.2.2.1]; exact hn) hn24 (by simp only [fmF]; rw [k18_gn, mvF_k _ _ (by decide)]; rfl) (by omega) (hlt.dec hd2)) (cwV 0 h.2.2.2.2.1 gX3_pass_X3_burns rfl rfl rfl (by decide +kernel) ⟨Nat.le_of_ble_eq_true rfl, Nat.le_of_ble_eq_true rfl⟩) 0 rfl rfl rfl rfl (Nat.le_of_ble_eq_true rfl) ⟨Nat.le_of_ble_eq_true rfl, Nat.le_of_ble_eq_true rfl⟩ (fun u45 hu45 => ?_)
      obtain rfl := hu45
      refine j_iinc h dX3_pass_48 rfl rfl (by decide) ?_
      refine j_goto (tgt := 25) h dX3_pass_51 (by decide) ?_
      exact ih (i + 1) (by omega) (by omega) _ ⟨rfl, rfl, rfl, by simp [lget, nI_succ], trivial⟩
  · -- f
    have hT : ¬ tPass x = 0 := of_decide_eq_false (bi_0.mp c13)
    refine j_iconst (v := 0) h dX3_pass_16 (by decide) ?_
    exact j_iret h hrt hlk dX3_pass_17 (by decide) (by decide) (⟨fun _ => rfl, fun z => absurd z hT⟩)
end
section
def f0M : St := fun j k => if j = 15 ∧ k = 0 then 2 else 0
set_option maxHeartbeats 4000000 in
set_option maxRecDepth 100000 in
theorem c_X3_init {l : Launch} {D : va_G} {cI cL cR : ClassId} {h0 : Nat} : ctV l D vwCl (tyW cI cL cR) yX3_init wsX3_init { frames := 1, cells := 13, slots := 609, locals := 12 } [.ref h0] [(h0, .inr (3, [.null, .null, .null, .null, .null, .null, .null, .int 0, .null, .null, .null, .null, .null, .int 0, .int 0, .int 0, .int 0, .null, .int 0, .int 0, .int 0, .int 0]))] (fun u => ∃ ad : Nat → Nat, ad 0 = h0 ∧ u = wM cI ad f0M 0) 13 609 := by
  refine ctV_of (cc := cX3_init) (maxL := 1) (ret := none) (by decide) rfl rfl (Nat.le_of_ble_eq_true rfl) (by simp [Value.category]) [(0, .ref h0)] rfl ?_
  intro p e s m args below meth c sz h hrt hlk hnm
  have hin3 : ∀ x ∈ wsX30, x ∈ wsX3_init := by decide +kernel
  have har : Cond.arrayClass .int ∈ wsX3_init := by decide +kernel
  refine j_aload_nR h dX3_init_0 rfl ?_
  refine j_objInit h (by decide +kernel) (by decide +kernel) (by decide +kernel) dX3_init_1 (Nat.le_of_ble_eq_true rfl) (Nat.le_of_ble_eq_true rfl) ?_
  refine j_aload_nR h dX3_init_4 rfl ?_
  refine j_bipush (v := 24) h dX3_init_5 (by decide) ?_
  refine j_newa (atype := .int) h rfl har 0 rfl (N' := 24) (a0 := (24, .inl (fun _ => 0))) (fun cA => rfl) (by decide) (by decide) (Nat.le_of_ble_eq_true rfl) (Nat.le_of_ble_eq_true rfl) (Nat.le_of_ble_eq_true rfl) dX3_init_7 (fun q1 => ?_)
  refine jj_ws (ws1 := [(h0, .inr (3, [.null, .null, .null, .null, .null, .null, .null, .int 0, .null, .null, .null, .null, .null, .int 0, .int 0, .int 0, .int 0, .null, .int 0, .int 0, .int 0, .int 0])), (q1, .inl (cI, 24, .inl (fun _ => 0)))]) rfl ?_
  refine j_putF (ref := "FestoonModel") (ty := .array .int) h 0 0 tyX3 tyX3_ok nmX3 dX3_init_9 hin3 rfl (by decide) (by decide +kernel) (fun _ h9 => h9) rfl hnm rfl rfl rfl rfl rfl (Nat.le_of_ble_eq_true rfl) ?_
  refine jj_ws (ws1 := [(h0, .inr (3, [.ref q1, .null, .null, .null, .null, .null, .null, .int 0, .null, .null, .null, .null, .null, .int 0, .int 0, .int 0, .int 0, .null, .int 0, .int 0, .int 0, .int 0])), (q1, .inl (cI, 24, .inl (fun _ => 0)))]) rfl ?_
  refine j_aload_nR h dX3_init_12 rfl ?_
  refine j_bipush (v := 24) h dX3_init_13 (by decide) ?_
  refine j_newa (atype := .int) h rfl har 0 rfl (N' := 24) (a0 := (24, .inl (fun _ => 0))) (fun cA => rfl) (by decide) (by decide) (Nat.le_of_ble_eq_true rfl) (Nat.le_of_ble_eq_true rfl) (Nat.le_of_ble_eq_true rfl) dX3_init_15 (fun q2 => ?_)
  refine jj_ws (ws1 := [(h0, .inr (3, [.ref q1, .null, .null, .null, .null, .null, .null, .int 0, .null, .null, .null, .null, .null, .int 0, .int 0, .int 0, .int 0, .null, .int 0, .int 0, .int 0, .int 0])), (q1, .inl (cI, 24, .inl (fun _ => 0))), (q2, .inl (cI, 24, .inl (fun _ => 0)))]) rfl ?_
  refine j_putF (ref := "FestoonModel") (ty := .array .int) h 0 1 tyX3 tyX3_ok nmX3 dX3_init_17 hin3 rfl (by decide) (by decide +kernel) (fun _ h9 => h9) rfl hnm rfl rfl rfl rfl rfl (Nat.le_of_ble_eq_true rfl) ?_
  refine jj_ws (ws1 := [(h0, .inr (3, [.ref q1, .ref q2, .null, .null, .null, .null, .null, .int 0, .null, .null, .null, .null, .null, .int 0, .int 0, .int 0, .int 0, .null, .int 0, .int 0, .int 0, .int 0])), (q1, .inl (cI, 24, .inl (fun _ => 0))), (q2, .inl (cI, 24, .inl (fun _ => 0)))]) rfl ?_
  refine j_aload_nR h dX3_init_20 rfl ?_
  refine j_bipush (v := 24) h dX3_init_21 (by decide) ?_
  refine j_newa (atype := .int) h rfl har 0 rfl (N' := 24) (a0 := (24, .inl (fun _ => 0))) (fun cA => rfl) (by decide) (by decide) (Nat.le_of_ble_eq_true rfl) (Nat.le_of_ble_eq_true rfl) (Nat.le_of_ble_eq_true rfl) dX3_init_23 (fun q3 => ?_)
  refine jj_ws (ws1 := [(h0, .inr (3, [.ref q1, .ref q2, .null, .null, .null, .null, .null, .int 0, .null, .null, .null, .null, .null, .int 0, .int 0, .int 0, .int 0, .null, .int 0, .int 0, .int 0, .int 0])), (q1, .inl (cI, 24, .inl (fun _ => 0))), (q2, .inl (cI, 24, .inl (fun _ => 0))), (q3, .inl (cI, 24, .inl (fun _ => 0)))]) rfl ?_
  refine j_putF (ref := "FestoonModel") (ty := .array .int) h 0 2 tyX3 tyX3_ok nmX3 dX3_init_25 hin3 rfl (by decide) (by decide +kernel) (fun _ h9 => h9) rfl hnm rfl rfl rfl rfl rfl (Nat.le_of_ble_eq_true rfl) ?_
  refine jj_ws (ws1 := [(h0, .inr (3, [.ref q1, .ref q2, .ref q3, .null, .null, .null, .null, .int 0, .null, .null, .null, .null, .null, .int 0, .int 0, .int 0, .int 0, .null, .int 0, .int 0, .int 0, .int 0])), (q1, .inl (cI, 24, .inl (fun _ => 0))), (q2, .inl (cI, 24, .inl (fun _ => 0))), (q3, .inl (cI, 24, .inl (fun _ => 0)))]) rfl ?_
  refine j_aload_nR h dX3_init_28 rfl ?_
  refine j_bipush (v := 24) h dX3_init_29 (by decide) ?_
  refine j_newa (atype := .int) h rfl har 0 rfl (N' := 24) (a0 := (24, .inl (fun _ => 0))) (fun cA => rfl) (by decide) (by decide) (Nat.le_of_ble_eq_true rfl) (Nat.le_of_ble_eq_true rfl) (Nat.le_of_ble_eq_true rfl) dX3_init_31 (fun q4 => ?_)
  refine jj_ws (ws1 := [(h0, .inr (3, [.ref q1, .ref q2, .ref q3, .null, .null, .null, .null, .int 0, .null, .null, .null, .null, .null, .int 0, .int 0, .int 0, .int 0, .null, .int 0, .int 0, .int 0, .int 0])), (q1, .inl (cI, 24, .inl (fun _ => 0))), (q2, .inl (cI, 24, .inl (fun _ => 0))), (q3, .inl (cI, 24, .inl (fun _ => 0))), (q4, .inl (cI, 24, .inl (fun _ => 0)))]) rfl ?_
  refine j_putF (ref := "FestoonModel") (ty := .array .int) h 0 3 tyX3 tyX3_ok nmX3 dX3_init_33 hin3 rfl (by decide) (by decide +kernel) (fun _ h9 => h9) rfl hnm rfl rfl rfl rfl rfl (Nat.le_of_ble_eq_true rfl) ?_
  refine jj_ws (ws1 := [(h0, .inr (3, [.ref q1, .ref q2, .ref q3, .ref q4, .null, .null, .null, .int 0, .null, .null, .null, .null, .null, .int 0, .int 0, .int 0, .int 0, .null, .int 0, .int 0, .int 0, .int 0])), (q1, .inl (cI, 24, .inl (fun _ => 0))), (q2, .inl (cI, 24, .inl (fun _ => 0))), (q3, .inl (cI, 24, .inl (fun _ => 0))), (q4, .inl (cI, 24, .inl (fun _ => 0)))]) rfl ?_
  refine j_aload_nR h dX3_init_36 rfl ?_
  refine j_bipush (v := 24) h dX3_init_37 (by decide) ?_
  refine j_newa (atype := .int) h rfl har 0 rfl (N' := 24) (a0 := (24, .inl (fun _ => 0))) (fun cA => rfl) (by decide) (by decide) (Nat.le_of_ble_eq_true rfl) (Nat.le_of_ble_eq_true rfl) (Nat.le_of_ble_eq_true rfl) dX3_init_39 (fun q5 => ?_)
  refine jj_ws (ws1 := [(h0, .inr (3, [.ref q1, .ref q2, .ref q3, .ref q4, .null, .null, .null, .int 0, .null, .null, .null, .null, .null, .int 0, .int 0, .int 0, .int 0, .null, .int 0, .int 0, .int 0, .int 0])), (q1, .inl (cI, 24, .inl (fun _ => 0))), (q2, .inl (cI, 24, .inl (fun _ => 0))), (q3, .inl (cI, 24, .inl (fun _ => 0))), (q4, .inl (cI, 24, .inl (fun _ => 0))), (q5, .inl (cI, 24, .inl (fun _ => 0)))]) rfl ?_
  refine j_putF (ref := "FestoonModel") (ty := .array .int) h 0 4 tyX3 tyX3_ok nmX3 dX3_init_41 hin3 rfl (by decide) (by decide +kernel) (fun _ h9 => h9) rfl hnm rfl rfl rfl rfl rfl (Nat.le_of_ble_eq_true rfl) ?_
  refine jj_ws (ws1 := [(h0, .inr (3, [.ref q1, .ref q2, .ref q3, .ref q4, .ref q5, .null, .null, .int 0, .null, .null, .null, .null, .null, .int 0, .int 0, .int 0, .int 0, .null, .int 0, .int 0, .int 0, .int 0])), (q1, .inl (cI, 24, .inl (fun _ => 0))), (q2, .inl (cI, 24, .inl (fun _ => 0))), (q3, .inl (cI, 24, .inl (fun _ => 0))), (q4, .inl (cI, 24, .inl (fun _ => 0))), (q5, .inl (cI, 24, .inl (fun _ => 0)))]) rfl ?_
  refine j_aload_nR h dX3_init_44 rfl ?_
  refine j_bipush (v := 24) h dX3_init_45 (by decide) ?_
  refine j_newa (atype := .int) h rfl har 0 rfl (N' := 24) (a0 := (24, .inl (fun _ => 0))) (fun cA => rfl) (by decide) (by decide) (Nat.le_of_ble_eq_true rfl) (Nat.le_of_ble_eq_true rfl) (Nat.le_of_ble_eq_true rfl) dX3_init_47 (fun q6 => ?_)
  refine jj_ws (ws1 := [(h0, .inr (3, [.ref q1, .ref q2, .ref q3, .ref q4, .ref q5, .null, .null, .int 0, .null, .null, .null, .null, .null, .int 0, .int 0, .int 0, .int 0, .null, .int 0, .int 0, .int 0, .int 0])), (q1, .inl (cI, 24, .inl (fun _ => 0))), (q2, .inl (cI, 24, .inl (fun _ => 0))), (q3, .inl (cI, 24, .inl (fun _ => 0))), (q4, .inl (cI, 24, .inl (fun _ => 0))), (q5, .inl (cI, 24, .inl (fun _ => 0))), (q6, .inl (cI, 24, .inl (fun _ => 0)))]) rfl ?_
  refine j_putF (ref := "FestoonModel") (ty := .array .int) h 0 5 tyX3 tyX3_ok nmX3 dX3_init_49 hin3 rfl (by decide) (by decide +kernel) (fun _ h9 => h9) rfl hnm rfl rfl rfl rfl rfl (Nat.le_of_ble_eq_true rfl) ?_
  refine jj_ws (ws1 := [(h0, .inr (3, [.ref q1, .ref q2, .ref q3, .ref q4, .ref q5, .ref q6, .null, .int 0, .null, .null, .null, .null, .null, .int 0, .int 0, .int 0, .int 0, .null, .int 0, .int 0, .int 0, .int 0])), (q1, .inl (cI, 24, .inl (fun _ => 0))), (q2, .inl (cI, 24, .inl (fun _ => 0))), (q3, .inl (cI, 24, .inl (fun _ => 0))), (q4, .inl (cI, 24, .inl (fun _ => 0))), (q5, .inl (cI, 24, .inl (fun _ => 0))), (q6, .inl (cI, 24, .inl (fun _ => 0)))]) rfl ?_
  refine j_aload_nR h dX3_init_52 rfl ?_
  refine j_bipush (v := 24) h dX3_init_53 (by decide) ?_
  refine j_newa (atype := .int) h rfl har 0 rfl (N' := 24) (a0 := (24, .inl (fun _ => 0))) (fun cA => rfl) (by decide) (by decide) (Nat.le_of_ble_eq_true rfl) (Nat.le_of_ble_eq_true rfl) (Nat.le_of_ble_eq_true rfl) dX3_init_55 (fun q7 => ?_)
  refine jj_ws (ws1 := [(h0, .inr (3, [.ref q1, .ref q2, .ref q3, .ref q4, .ref q5, .ref q6, .null, .int 0, .null, .null, .null, .null, .null, .int 0, .int 0, .int 0, .int 0, .null, .int 0, .int 0, .int 0, .int 0])), (q1, .inl (cI, 24, .inl (fun _ => 0))), (q2, .inl (cI, 24, .inl (fun _ => 0))), (q3, .inl (cI, 24, .inl (fun _ => 0))), (q4, .inl (cI, 24, .inl (fun _ => 0))), (q5, .inl (cI, 24, .inl (fun _ => 0))), (q6, .inl (cI, 24, .inl (fun _ => 0))), (q7, .inl (cI, 24, .inl (fun _ => 0)))]) rfl ?_
  refine j_putF (ref := "FestoonModel") (ty := .array .int) h 0 6 tyX3 tyX3_ok nmX3 dX3_init_57 hin3 rfl (by decide) (by decide +kernel) (fun _ h9 => h9) rfl hnm rfl rfl rfl rfl rfl (Nat.le_of_ble_eq_true rfl) ?_
  refine jj_ws (ws1 := [(h0, .inr (3, [.ref q1, .ref q2, .ref q3, .ref q4, .ref q5, .ref q6, .ref q7, .int 0, .null, .null, .null, .null, .null, .int 0, .int 0, .int 0, .int 0, .null, .int 0, .int 0, .int 0, .int 0])), (q1, .inl (cI, 24, .inl (fun _ => 0))), (q2, .inl (cI, 24, .inl (fun _ => 0))), (q3, .inl (cI, 24, .inl (fun _ => 0))), (q4, .inl (cI, 24, .inl (fun _ => 0))), (q5, .inl (cI, 24, .inl (fun _ => 0))), (q6, .inl (cI, 24, .inl (fun _ => 0))), (q7, .inl (cI, 24, .inl (fun _ => 0)))]) rfl ?_
  refine j_aload_nR h dX3_init_60 rfl ?_
  refine j_bipush (v := 8) h dX3_init_61 (by decide) ?_
  refine j_newa (atype := .int) h rfl har 0 rfl (N' := 8) (a0 := (8, .inl (fun _ => 0))) (fun cA => rfl) (by decide) (by decide) (Nat.le_of_ble_eq_true rfl) (Nat.le_of_ble_eq_true rfl) (Nat.le_of_ble_eq_true rfl) dX3_init_63 (fun q8 => ?_)
  refine jj_ws (ws1 := [(h0, .inr (3, [.ref q1, .ref q2, .ref q3, .ref q4, .ref q5, .ref q6, .ref q7, .int 0, .null, .null, .null, .null, .null, .int 0, .int 0, .int 0, .int 0, .null, .int 0, .int 0, .int 0, .int 0])), (q1, .inl (cI, 24, .inl (fun _ => 0))), (q2, .inl (cI, 24, .inl (fun _ => 0))), (q3, .inl (cI, 24, .inl (fun _ => 0))), (q4, .inl (cI, 24, .inl (fun _ => 0))), (q5, .inl (cI, 24, .inl (fun _ => 0))), (q6, .inl (cI, 24, .inl (fun _ => 0))), (q7, .inl (cI, 24, .inl (fun _ => 0))), (q8, .inl (cI, 8, .inl (fun _ => 0)))]) rfl ?_
  refine j_putF (ref := "FestoonModel") (ty := .array .int) h 0 8 tyX3 tyX3_ok nmX3 dX3_init_65 hin3 rfl (by decide) (by decide +kernel) (fun _ h9 => h9) rfl hnm rfl rfl rfl rfl rfl (Nat.le_of_ble_eq_true rfl) ?_
  refine jj_ws (ws1 := [(h0, .inr (3, [.ref q1, .ref q2, .ref q3, .ref q4, .ref q5, .ref q6, .ref q7, .int 0, .ref q8, .null, .null, .null, .null, .int 0, .int 0, .int 0, .int 0, .null, .int 0, .int 0, .int 0, .int 0])), (q1, .inl (cI, 24, .inl (fun _ => 0))), (q2, .inl (cI, 24, .inl (fun _ => 0))), (q3, .inl (cI, 24, .inl (fun _ => 0))), (q4, .inl (cI, 24, .inl (fun _ => 0))), (q5, .inl (cI, 24, .inl (fun _ => 0))), (q6, .inl (cI, 24, .inl (fun _ => 0))), (q7, .inl (cI, 24, .inl (fun _ => 0))), (q8, .inl (cI, 8, .inl (fun _ => 0)))]) rfl ?_
  refine j_aload_nR h dX3_init_68 rfl ?_
  refine j_bipush (v := 8) h dX3_init_69 (by decide) ?_
  refine j_newa (atype := .int) h rfl har 0 rfl (N' := 8) (a0 := (8, .inl (fun _ => 0))) (fun cA => rfl) (by decide) (by decide) (Nat.le_of_ble_eq_true rfl) (Nat.le_of_ble_eq_true rfl) (Nat.le_of_ble_eq_true rfl) dX3_init_71 (fun q9 => ?_)
  refine jj_ws (ws1 := [(h0, .inr (3, [.ref q1, .ref q2, .ref q3, .ref q4, .ref q5, .ref q6, .ref q7, .int 0, .ref q8, .null, .null, .null, .null, .int 0, .int 0, .int 0, .int 0, .null, .int 0, .int 0, .int 0, .int 0])), (q1, .inl (cI, 24, .inl (fun _ => 0))), (q2, .inl (cI, 24, .inl (fun _ => 0))), (q3, .inl (cI, 24, .inl (fun _ => 0))), (q4, .inl (cI, 24, .inl (fun _ => 0))), (q5, .inl (cI, 24, .inl (fun _ => 0))), (q6, .inl (cI, 24, .inl (fun _ => 0))), (q7, .inl (cI, 24, .inl (fun _ => 0))), (q8, .inl (cI, 8, .inl (fun _ => 0))), (q9, .inl (cI, 8, .inl (fun _ => 0)))]) rfl ?_
  refine j_putF (ref := "FestoonModel") (ty := .array .int) h 0 9 tyX3 tyX3_ok nmX3 dX3_init_73 hin3 rfl (by decide) (by decide +kernel) (fun _ h9 => h9) rfl hnm rfl rfl rfl rfl rfl (Nat.le_of_ble_eq_true rfl) ?_
  refine jj_ws (ws1 := [(h0, .inr (3, [.ref q1, .ref q2, .ref q3, .ref q4, .ref q5, .ref q6, .ref q7, .int 0, .ref q8, .ref q9, .null, .null, .null, .int 0, .int 0, .int 0, .int 0, .null, .int 0, .int 0, .int 0, .int 0])), (q1, .inl (cI, 24, .inl (fun _ => 0))), (q2, .inl (cI, 24, .inl (fun _ => 0))), (q3, .inl (cI, 24, .inl (fun _ => 0))), (q4, .inl (cI, 24, .inl (fun _ => 0))), (q5, .inl (cI, 24, .inl (fun _ => 0))), (q6, .inl (cI, 24, .inl (fun _ => 0))), (q7, .inl (cI, 24, .inl (fun _ => 0))), (q8, .inl (cI, 8, .inl (fun _ => 0))), (q9, .inl (cI, 8, .inl (fun _ => 0)))]) rfl ?_
  refine j_aload_nR h dX3_init_76 rfl ?_
  refine j_bipush (v := 8) h dX3_init_77 (by decide) ?_
  refine j_newa (atype := .int) h rfl har 0 rfl (N' := 8) (a0 := (8, .inl (fun _ => 0))) (fun cA => rfl) (by decide) (by decide) (Nat.le_of_ble_eq_true rfl) (Nat.le_of_ble_eq_true rfl) (Nat.le_of_ble_eq_true rfl) dX3_init_79 (fun q10 => ?_)
  refine jj_ws (ws1 := [(h0, .inr (3, [.ref q1, .ref q2, .ref q3, .ref q4, .ref q5, .ref q6, .ref q7, .int 0, .ref q8, .ref q9, .null, .null, .null, .int 0, .int 0, .int 0, .int 0, .null, .int 0, .int 0, .int 0, .int 0])), (q1, .inl (cI, 24, .inl (fun _ => 0))), (q2, .inl (cI, 24, .inl (fun _ => 0))), (q3, .inl (cI, 24, .inl (fun _ => 0))), (q4, .inl (cI, 24, .inl (fun _ => 0))), (q5, .inl (cI, 24, .inl (fun _ => 0))), (q6, .inl (cI, 24, .inl (fun _ => 0))), (q7, .inl (cI, 24, .inl (fun _ => 0))), (q8, .inl (cI, 8, .inl (fun _ => 0))), (q9, .inl (cI, 8, .inl (fun _ => 0))), (q10, .inl (cI, 8, .inl (fun _ => 0)))]) rfl ?_
  refine j_putF (ref := "FestoonModel") (ty := .array .int) h 0 10 tyX3 tyX3_ok nmX3 dX3_init_81 hin3 rfl (by decide) (by decide +kernel) (fun _ h9 => h9) rfl hnm rfl rfl rfl rfl rfl (Nat.le_of_ble_eq_true rfl) ?_
  refine jj_ws (ws1 := [(h0, .inr (3, [.ref q1, .ref q2, .ref q3, .ref q4, .ref q5, .ref q6, .ref q7, .int 0, .ref q8, .ref q9, .ref q10, .null, .null, .int 0, .int 0, .int 0, .int 0, .null, .int 0, .int 0, .int 0, .int 0])), (q1, .inl (cI, 24, .inl (fun _ => 0))), (q2, .inl (cI, 24, .inl (fun _ => 0))), (q3, .inl (cI, 24, .inl (fun _ => 0))), (q4, .inl (cI, 24, .inl (fun _ => 0))), (q5, .inl (cI, 24, .inl (fun _ => 0))), (q6, .inl (cI, 24, .inl (fun _ => 0))), (q7, .inl (cI, 24, .inl (fun _ => 0))), (q8, .inl (cI, 8, .inl (fun _ => 0))), (q9, .inl (cI, 8, .inl (fun _ => 0))), (q10, .inl (cI, 8, .inl (fun _ => 0)))]) rfl ?_
  refine j_aload_nR h dX3_init_84 rfl ?_
  refine j_bipush (v := 8) h dX3_init_85 (by decide) ?_
  refine j_newa (atype := .int) h rfl har 0 rfl (N' := 8) (a0 := (8, .inl (fun _ => 0))) (fun cA => rfl) (by decide) (by decide) (Nat.le_of_ble_eq_true rfl) (Nat.le_of_ble_eq_true rfl) (Nat.le_of_ble_eq_true rfl) dX3_init_87 (fun q11 => ?_)
  refine jj_ws (ws1 := [(h0, .inr (3, [.ref q1, .ref q2, .ref q3, .ref q4, .ref q5, .ref q6, .ref q7, .int 0, .ref q8, .ref q9, .ref q10, .null, .null, .int 0, .int 0, .int 0, .int 0, .null, .int 0, .int 0, .int 0, .int 0])), (q1, .inl (cI, 24, .inl (fun _ => 0))), (q2, .inl (cI, 24, .inl (fun _ => 0))), (q3, .inl (cI, 24, .inl (fun _ => 0))), (q4, .inl (cI, 24, .inl (fun _ => 0))), (q5, .inl (cI, 24, .inl (fun _ => 0))), (q6, .inl (cI, 24, .inl (fun _ => 0))), (q7, .inl (cI, 24, .inl (fun _ => 0))), (q8, .inl (cI, 8, .inl (fun _ => 0))), (q9, .inl (cI, 8, .inl (fun _ => 0))), (q10, .inl (cI, 8, .inl (fun _ => 0))), (q11, .inl (cI, 8, .inl (fun _ => 0)))]) rfl ?_
  refine j_putF (ref := "FestoonModel") (ty := .array .int) h 0 11 tyX3 tyX3_ok nmX3 dX3_init_89 hin3 rfl (by decide) (by decide +kernel) (fun _ h9 => h9) rfl hnm rfl rfl rfl rfl rfl (Nat.le_of_ble_eq_true rfl) ?_
  refine jj_ws (ws1 := [(h0, .inr (3, [.ref q1, .ref q2, .ref q3, .ref q4, .ref q5, .ref q6, .ref q7, .int 0, .ref q8, .ref q9, .ref q10, .ref q11, .null, .int 0, .int 0, .int 0, .int 0, .null, .int 0, .int 0, .int 0, .int 0])), (q1, .inl (cI, 24, .inl (fun _ => 0))), (q2, .inl (cI, 24, .inl (fun _ => 0))), (q3, .inl (cI, 24, .inl (fun _ => 0))), (q4, .inl (cI, 24, .inl (fun _ => 0))), (q5, .inl (cI, 24, .inl (fun _ => 0))), (q6, .inl (cI, 24, .inl (fun _ => 0))), (q7, .inl (cI, 24, .inl (fun _ => 0))), (q8, .inl (cI, 8, .inl (fun _ => 0))), (q9, .inl (cI, 8, .inl (fun _ => 0))), (q10, .inl (cI, 8, .inl (fun _ => 0))), (q11, .inl (cI, 8, .inl (fun _ => 0)))]) rfl ?_
  refine j_aload_nR h dX3_init_92 rfl ?_
  refine j_bipush (v := 8) h dX3_init_93 (by decide) ?_
  refine j_newa (atype := .int) h rfl har 0 rfl (N' := 8) (a0 := (8, .inl (fun _ => 0))) (fun cA => rfl) (by decide) (by decide) (Nat.le_of_ble_eq_true rfl) (Nat.le_of_ble_eq_true rfl) (Nat.le_of_ble_eq_true rfl) dX3_init_95 (fun q12 => ?_)
  refine jj_ws (ws1 := [(h0, .inr (3, [.ref q1, .ref q2, .ref q3, .ref q4, .ref q5, .ref q6, .ref q7, .int 0, .ref q8, .ref q9, .ref q10, .ref q11, .null, .int 0, .int 0, .int 0, .int 0, .null, .int 0, .int 0, .int 0, .int 0])), (q1, .inl (cI, 24, .inl (fun _ => 0))), (q2, .inl (cI, 24, .inl (fun _ => 0))), (q3, .inl (cI, 24, .inl (fun _ => 0))), (q4, .inl (cI, 24, .inl (fun _ => 0))), (q5, .inl (cI, 24, .inl (fun _ => 0))), (q6, .inl (cI, 24, .inl (fun _ => 0))), (q7, .inl (cI, 24, .inl (fun _ => 0))), (q8, .inl (cI, 8, .inl (fun _ => 0))), (q9, .inl (cI, 8, .inl (fun _ => 0))), (q10, .inl (cI, 8, .inl (fun _ => 0))), (q11, .inl (cI, 8, .inl (fun _ => 0))), (q12, .inl (cI, 8, .inl (fun _ => 0)))]) rfl ?_
  refine j_putF (ref := "FestoonModel") (ty := .array .int) h 0 12 tyX3 tyX3_ok nmX3 dX3_init_97 hin3 rfl (by decide) (by decide +kernel) (fun _ h9 => h9) rfl hnm rfl rfl rfl rfl rfl (Nat.le_of_ble_eq_true rfl) ?_
  refine jj_ws (ws1 := [(h0, .inr (3, [.ref q1, .ref q2, .ref q3, .ref q4, .ref q5, .ref q6, .ref q7, .int 0, .ref q8, .ref q9, .ref q10, .ref q11, .ref q12, .int 0, .int 0, .int 0, .int 0, .null, .int 0, .int 0, .int 0, .int 0])), (q1, .inl (cI, 24, .inl (fun _ => 0))), (q2, .inl (cI, 24, .inl (fun _ => 0))), (q3, .inl (cI, 24, .inl (fun _ => 0))), (q4, .inl (cI, 24, .inl (fun _ => 0))), (q5, .inl (cI, 24, .inl (fun _ => 0))), (q6, .inl (cI, 24, .inl (fun _ => 0))), (q7, .inl (cI, 24, .inl (fun _ => 0))), (q8, .inl (cI, 8, .inl (fun _ => 0))), (q9, .inl (cI, 8, .inl (fun _ => 0))), (q10, .inl (cI, 8, .inl (fun _ => 0))), (q11, .inl (cI, 8, .inl (fun _ => 0))), (q12, .inl (cI, 8, .inl (fun _ => 0)))]) rfl ?_
  refine j_aload_nR h dX3_init_100 rfl ?_
  refine j_iconst (v := 2) h dX3_init_101 (by decide) ?_
  refine j_put (ref := "FestoonModel") (ty := .int) h 0 15 tyX3 tyX3_ok nmX3 dX3_init_102 hin3 rfl (by decide) (by decide +kernel) (fun _ h9 => h9) rfl rfl rfl rfl rfl (Nat.le_of_ble_eq_true rfl) ?_
  refine jj_ws (ws1 := [(h0, .inr (3, [.ref q1, .ref q2, .ref q3, .ref q4, .ref q5, .ref q6, .ref q7, .int 0, .ref q8, .ref q9, .ref q10, .ref q11, .ref q12, .int 0, .int 0, .int 2, .int 0, .null, .int 0, .int 0, .int 0, .int 0])), (q1, .inl (cI, 24, .inl (fun _ => 0))), (q2, .inl (cI, 24, .inl (fun _ => 0))), (q3, .inl (cI, 24, .inl (fun _ => 0))), (q4, .inl (cI, 24, .inl (fun _ => 0))), (q5, .inl (cI, 24, .inl (fun _ => 0))), (q6, .inl (cI, 24, .inl (fun _ => 0))), (q7, .inl (cI, 24, .inl (fun _ => 0))), (q8, .inl (cI, 8, .inl (fun _ => 0))), (q9, .inl (cI, 8, .inl (fun _ => 0))), (q10, .inl (cI, 8, .inl (fun _ => 0))), (q11, .inl (cI, 8, .inl (fun _ => 0))), (q12, .inl (cI, 8, .inl (fun _ => 0)))]) rfl ?_
  refine j_aload_nR h dX3_init_105 rfl ?_
  refine j_sipush (v := 401) h dX3_init_106 (by decide) ?_
  refine j_newa (atype := .int) h rfl har 0 rfl (N' := 401) (a0 := (401, .inl (fun _ => 0))) (fun cA => rfl) (by decide) (by decide) (Nat.le_of_ble_eq_true rfl) (Nat.le_of_ble_eq_true rfl) (Nat.le_of_ble_eq_true rfl) dX3_init_109 (fun q13 => ?_)
  refine jj_ws (ws1 := [(h0, .inr (3, [.ref q1, .ref q2, .ref q3, .ref q4, .ref q5, .ref q6, .ref q7, .int 0, .ref q8, .ref q9, .ref q10, .ref q11, .ref q12, .int 0, .int 0, .int 2, .int 0, .null, .int 0, .int 0, .int 0, .int 0])), (q1, .inl (cI, 24, .inl (fun _ => 0))), (q2, .inl (cI, 24, .inl (fun _ => 0))), (q3, .inl (cI, 24, .inl (fun _ => 0))), (q4, .inl (cI, 24, .inl (fun _ => 0))), (q5, .inl (cI, 24, .inl (fun _ => 0))), (q6, .inl (cI, 24, .inl (fun _ => 0))), (q7, .inl (cI, 24, .inl (fun _ => 0))), (q8, .inl (cI, 8, .inl (fun _ => 0))), (q9, .inl (cI, 8, .inl (fun _ => 0))), (q10, .inl (cI, 8, .inl (fun _ => 0))), (q11, .inl (cI, 8, .inl (fun _ => 0))), (q12, .inl (cI, 8, .inl (fun _ => 0))), (q13, .inl (cI, 401, .inl (fun _ => 0)))]) rfl ?_
  refine j_putF (ref := "FestoonModel") (ty := .array .int) h 0 17 tyX3 tyX3_ok nmX3 dX3_init_111 hin3 rfl (by decide) (by decide +kernel) (fun _ h9 => h9) rfl hnm rfl rfl rfl rfl rfl (Nat.le_of_ble_eq_true rfl) ?_
  refine jj_ws (ws1 := [(h0, .inr (3, [.ref q1, .ref q2, .ref q3, .ref q4, .ref q5, .ref q6, .ref q7, .int 0, .ref q8, .ref q9, .ref q10, .ref q11, .ref q12, .int 0, .int 0, .int 2, .int 0, .ref q13, .int 0, .int 0, .int 0, .int 0])), (q1, .inl (cI, 24, .inl (fun _ => 0))), (q2, .inl (cI, 24, .inl (fun _ => 0))), (q3, .inl (cI, 24, .inl (fun _ => 0))), (q4, .inl (cI, 24, .inl (fun _ => 0))), (q5, .inl (cI, 24, .inl (fun _ => 0))), (q6, .inl (cI, 24, .inl (fun _ => 0))), (q7, .inl (cI, 24, .inl (fun _ => 0))), (q8, .inl (cI, 8, .inl (fun _ => 0))), (q9, .inl (cI, 8, .inl (fun _ => 0))), (q10, .inl (cI, 8, .inl (fun _ => 0))), (q11, .inl (cI, 8, .inl (fun _ => 0))), (q12, .inl (cI, 8, .inl (fun _ => 0))), (q13, .inl (cI, 401, .inl (fun _ => 0)))]) rfl ?_
  exact j_vret h hrt hlk dX3_init_114 (by decide) (by decide) ⟨fun i => [h0, q1, q2, q3, q4, q5, q6, q7, q8, q9, q10, q11, q12, q13].getD i 0, rfl, rfl⟩
end
