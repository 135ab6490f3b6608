section MW
abbrev tyW (cI cL cR : ClassId) : List (ClassId × FieldType) := [(cI, .int), (cL, .object "Festoon$Lantern"), (cR, .object "Festoon$Raft")]
def wM (cI : ClassId) (ad : Nat → Nat) (f : St) (t : Int32) : va_W := [(ad 0, .inr (3, [.ref (ad 1), .ref (ad 2), .ref (ad 3), .ref (ad 4), .ref (ad 5), .ref (ad 6), .ref (ad 7), .int (f 7 0), .ref (ad 8), .ref (ad 9), .ref (ad 10), .ref (ad 11), .ref (ad 12), .int (f 13 0), .int (f 14 0), .int (f 15 0), .int (f 16 0), .ref (ad 13), .int (f 18 0), .int (f 19 0), .int (f 20 0), .int t])), (ad 1, .inl (cI, 24, .inl (f 0))), (ad 2, .inl (cI, 24, .inl (f 1))), (ad 3, .inl (cI, 24, .inl (f 2))), (ad 4, .inl (cI, 24, .inl (f 3))), (ad 5, .inl (cI, 24, .inl (f 4))), (ad 6, .inl (cI, 24, .inl (f 5))), (ad 7, .inl (cI, 24, .inl (f 6))), (ad 8, .inl (cI, 8, .inl (f 8))), (ad 9, .inl (cI, 8, .inl (f 9))), (ad 10, .inl (cI, 8, .inl (f 10))), (ad 11, .inl (cI, 8, .inl (f 11))), (ad 12, .inl (cI, 8, .inl (f 12))), (ad 13, .inl (cI, 401, .inl (f 17)))]
variable {p : Program} {l : Launch} {e : Env} {R : Room} {s : State} {m : MethodId} {args : Array Value} {below : List Frame} {meth : Method} {c : Code} {Q : State → Prop} {D : va_G} {cI cL cR : ClassId} {A : Nat → Prop} {n : Nat} {cc : ByteArray} {Ts : List Cond} {k w pc : Nat} {lv : List (Nat × Value)} {st : List Value} {ad : Nat → Nat} {f : St} {t : Int32}

theorem m_get0 (h : jc p s m args c D vwCl (tyW cI cL cR) A n cc RX3 Ts) (hin : ∀ x ∈ wsX30, x ∈ Ts) (hlink : Cond.fieldLink RX3 7 "FestoonModel" "ribs" "[I" ∈ Ts) (hd : decode cc pc = .ok (.getfield 7, 3)) (kk : jj p l e R s m args below meth c Q D vwCl (tyW cI cL cR) A n (wM cI ad f t) k w (pc + 3) lv (.ref (ad 1) :: st)) : jj p l e R s m args below meth c Q D vwCl (tyW cI cL cR) A n (wM cI ad f t) k w pc lv (.ref (ad 0) :: st) := j_get (ref := "FestoonModel") h 0 0 hd hin rfl (by decide) hlink (fun _ h9 => h9) rfl rfl kk
theorem m_ald0 {i : Int32} {b : Nat} (h : jc p s m args c D vwCl (tyW cI cL cR) A n cc RX3 Ts) (hd : decode cc pc = .ok (.iaload, 1)) (hi : i = nI b) (hb : b < 24) (kk : jj p l e R s m args below meth c Q D vwCl (tyW cI cL cR) A n (wM cI ad f t) k w (pc + 1) lv (.int (f 0 b) :: st)) : jj p l e R s m args below meth c Q D vwCl (tyW cI cL cR) A n (wM cI ad f t) k w pc lv (.int i :: .ref (ad 1) :: st) := by
  subst hi
  refine j_iald h 1 0 hd rfl rfl (vp_in_nI hb (by decide)) ?_
  rw [nI_clamp (by omega)]
  exact kk
theorem m_ast0 {i v : Int32} {b : Nat} (h : jc p s m args c D vwCl (tyW cI cL cR) A n cc RX3 Ts) (hd : decode cc pc = .ok (.iastore, 1)) (hi : i = nI b) (hb : b < 24) (kk : jj p l e R s m args below meth c Q D vwCl (tyW cI cL cR) A n (wM cI ad (up2 f 0 b v) t) k w (pc + 1) lv st) : jj p l e R s m args below meth c Q D vwCl (tyW cI cL cR) A n (wM cI ad f t) k w pc lv (.int v :: .int i :: .ref (ad 1) :: st) := by
  subst hi
  refine j_iast h 1 0 hd rfl rfl (vp_in_nI hb (by decide)) ?_
  rw [nI_clamp (by omega)]
  exact kk
theorem m_get1 (h : jc p s m args c D vwCl (tyW cI cL cR) A n cc RX3 Ts) (hin : ∀ x ∈ wsX30, x ∈ Ts) (hlink : Cond.fieldLink RX3 13 "FestoonModel" "papers" "[I" ∈ Ts) (hd : decode cc pc = .ok (.getfield 13, 3)) (kk : jj p l e R s m args below meth c Q D vwCl (tyW cI cL cR) A n (wM cI ad f t) k w (pc + 3) lv (.ref (ad 2) :: st)) : jj p l e R s m args below meth c Q D vwCl (tyW cI cL cR) A n (wM cI ad f t) k w pc lv (.ref (ad 0) :: st) := j_get (ref := "FestoonModel") h 0 1 hd hin rfl (by decide) hlink (fun _ h9 => h9) rfl rfl kk
theorem m_ald1 {i : Int32} {b : Nat} (h : jc p s m args c D vwCl (tyW cI cL cR) A n cc RX3 Ts) (hd : decode cc pc = .ok (.iaload, 1)) (hi : i = nI b) (hb : b < 24) (kk : jj p l e R s m args below meth c Q D vwCl (tyW cI cL cR) A n (wM cI ad f t) k w (pc + 1) lv (.int (f 1 b) :: st)) : jj p l e R s m args below meth c Q D vwCl (tyW cI cL cR) A n (wM cI ad f t) k w pc lv (.int i :: .ref (ad 2) :: st) := by
  subst hi
  refine j_iald h 2 0 hd rfl rfl (vp_in_nI hb (by decide)) ?_
  rw [nI_clamp (by omega)]
  exact kk
theorem m_ast1 {i v : Int32} {b : Nat} (h : jc p s m args c D vwCl (tyW cI cL cR) A n cc RX3 Ts) (hd : decode cc pc = .ok (.iastore, 1)) (hi : i = nI b) (hb : b < 24) (kk : jj p l e R s m args below meth c Q D vwCl (tyW cI cL cR) A n (wM cI ad (up2 f 1 b v) t) k w (pc + 1) lv st) : jj p l e R s m args below meth c Q D vwCl (tyW cI cL cR) A n (wM cI ad f t) k w pc lv (.int v :: .int i :: .ref (ad 2) :: st) := by
  subst hi
  refine j_iast h 2 0 hd rfl rfl (vp_in_nI hb (by decide)) ?_
  rw [nI_clamp (by omega)]
  exact kk
theorem m_get2 (h : jc p s m args c D vwCl (tyW cI cL cR) A n cc RX3 Ts) (hin : ∀ x ∈ wsX30, x ∈ Ts) (hlink : Cond.fieldLink RX3 16 "FestoonModel" "candles" "[I" ∈ Ts) (hd : decode cc pc = .ok (.getfield 16, 3)) (kk : jj p l e R s m args below meth c Q D vwCl (tyW cI cL cR) A n (wM cI ad f t) k w (pc + 3) lv (.ref (ad 3) :: st)) : jj p l e R s m args below meth c Q D vwCl (tyW cI cL cR) A n (wM cI ad f t) k w pc lv (.ref (ad 0) :: st) := j_get (ref := "FestoonModel") h 0 2 hd hin rfl (by decide) hlink (fun _ h9 => h9) rfl rfl kk
theorem m_ald2 {i : Int32} {b : Nat} (h : jc p s m args c D vwCl (tyW cI cL cR) A n cc RX3 Ts) (hd : decode cc pc = .ok (.iaload, 1)) (hi : i = nI b) (hb : b < 24) (kk : jj p l e R s m args below meth c Q D vwCl (tyW cI cL cR) A n (wM cI ad f t) k w (pc + 1) lv (.int (f 2 b) :: st)) : jj p l e R s m args below meth c Q D vwCl (tyW cI cL cR) A n (wM cI ad f t) k w pc lv (.int i :: .ref (ad 3) :: st) := by
  subst hi
  refine j_iald h 3 0 hd rfl rfl (vp_in_nI hb (by decide)) ?_
  rw [nI_clamp (by omega)]
  exact kk
theorem m_ast2 {i v : Int32} {b : Nat} (h : jc p s m args c D vwCl (tyW cI cL cR) A n cc RX3 Ts) (hd : decode cc pc = .ok (.iastore, 1)) (hi : i = nI b) (hb : b < 24) (kk : jj p l e R s m args below meth c Q D vwCl (tyW cI cL cR) A n (wM cI ad (up2 f 2 b v) t) k w (pc + 1) lv st) : jj p l e R s m args below meth c Q D vwCl (tyW cI cL cR) A n (wM cI ad f t) k w pc lv (.int v :: .int i :: .ref (ad 3) :: st) := by
  subst hi
  refine j_iast h 3 0 hd rfl rfl (vp_in_nI hb (by decide)) ?_
  rw [nI_clamp (by omega)]
  exact kk
theorem m_get3 (h : jc p s m args c D vwCl (tyW cI cL cR) A n cc RX3 Ts) (hin : ∀ x ∈ wsX30, x ∈ Ts) (hlink : Cond.fieldLink RX3 19 "FestoonModel" "states" "[I" ∈ Ts) (hd : decode cc pc = .ok (.getfield 19, 3)) (kk : jj p l e R s m args below meth c Q D vwCl (tyW cI cL cR) A n (wM cI ad f t) k w (pc + 3) lv (.ref (ad 4) :: st)) : jj p l e R s m args below meth c Q D vwCl (tyW cI cL cR) A n (wM cI ad f t) k w pc lv (.ref (ad 0) :: st) := j_get (ref := "FestoonModel") h 0 3 hd hin rfl (by decide) hlink (fun _ h9 => h9) rfl rfl kk
theorem m_ald3 {i : Int32} {b : Nat} (h : jc p s m args c D vwCl (tyW cI cL cR) A n cc RX3 Ts) (hd : decode cc pc = .ok (.iaload, 1)) (hi : i = nI b) (hb : b < 24) (kk : jj p l e R s m args below meth c Q D vwCl (tyW cI cL cR) A n (wM cI ad f t) k w (pc + 1) lv (.int (f 3 b) :: st)) : jj p l e R s m args below meth c Q D vwCl (tyW cI cL cR) A n (wM cI ad f t) k w pc lv (.int i :: .ref (ad 4) :: st) := by
  subst hi
  refine j_iald h 4 0 hd rfl rfl (vp_in_nI hb (by decide)) ?_
  rw [nI_clamp (by omega)]
  exact kk
theorem m_ast3 {i v : Int32} {b : Nat} (h : jc p s m args c D vwCl (tyW cI cL cR) A n cc RX3 Ts) (hd : decode cc pc = .ok (.iastore, 1)) (hi : i = nI b) (hb : b < 24) (kk : jj p l e R s m args below meth c Q D vwCl (tyW cI cL cR) A n (wM cI ad (up2 f 3 b v) t) k w (pc + 1) lv st) : jj p l e R s m args below meth c Q D vwCl (tyW cI cL cR) A n (wM cI ad f t) k w pc lv (.int v :: .int i :: .ref (ad 4) :: st) := by
  subst hi
  refine j_iast h 4 0 hd rfl rfl (vp_in_nI hb (by decide)) ?_
  rw [nI_clamp (by omega)]
  exact kk
theorem m_get4 (h : jc p s m args c D vwCl (tyW cI cL cR) A n cc RX3 Ts) (hin : ∀ x ∈ wsX30, x ∈ Ts) (hlink : Cond.fieldLink RX3 22 "FestoonModel" "lefts" "[I" ∈ Ts) (hd : decode cc pc = .ok (.getfield 22, 3)) (kk : jj p l e R s m args below meth c Q D vwCl (tyW cI cL cR) A n (wM cI ad f t) k w (pc + 3) lv (.ref (ad 5) :: st)) : jj p l e R s m args below meth c Q D vwCl (tyW cI cL cR) A n (wM cI ad f t) k w pc lv (.ref (ad 0) :: st) := j_get (ref := "FestoonModel") h 0 4 hd hin rfl (by decide) hlink (fun _ h9 => h9) rfl rfl kk
theorem m_ald4 {i : Int32} {b : Nat} (h : jc p s m args c D vwCl (tyW cI cL cR) A n cc RX3 Ts) (hd : decode cc pc = .ok (.iaload, 1)) (hi : i = nI b) (hb : b < 24) (kk : jj p l e R s m args below meth c Q D vwCl (tyW cI cL cR) A n (wM cI ad f t) k w (pc + 1) lv (.int (f 4 b) :: st)) : jj p l e R s m args below meth c Q D vwCl (tyW cI cL cR) A n (wM cI ad f t) k w pc lv (.int i :: .ref (ad 5) :: st) := by
  subst hi
  refine j_iald h 5 0 hd rfl rfl (vp_in_nI hb (by decide)) ?_
  rw [nI_clamp (by omega)]
  exact kk
theorem m_ast4 {i v : Int32} {b : Nat} (h : jc p s m args c D vwCl (tyW cI cL cR) A n cc RX3 Ts) (hd : decode cc pc = .ok (.iastore, 1)) (hi : i = nI b) (hb : b < 24) (kk : jj p l e R s m args below meth c Q D vwCl (tyW cI cL cR) A n (wM cI ad (up2 f 4 b v) t) k w (pc + 1) lv st) : jj p l e R s m args below meth c Q D vwCl (tyW cI cL cR) A n (wM cI ad f t) k w pc lv (.int v :: .int i :: .ref (ad 5) :: st) := by
  subst hi
  refine j_iast h 5 0 hd rfl rfl (vp_in_nI hb (by decide)) ?_
  rw [nI_clamp (by omega)]
  exact kk
theorem m_get5 (h : jc p s m args c D vwCl (tyW cI cL cR) A n cc RX3 Ts) (hin : ∀ x ∈ wsX30, x ∈ Ts) (hlink : Cond.fieldLink RX3 25 "FestoonModel" "hangsOn" "[I" ∈ Ts) (hd : decode cc pc = .ok (.getfield 25, 3)) (kk : jj p l e R s m args below meth c Q D vwCl (tyW cI cL cR) A n (wM cI ad f t) k w (pc + 3) lv (.ref (ad 6) :: st)) : jj p l e R s m args below meth c Q D vwCl (tyW cI cL cR) A n (wM cI ad f t) k w pc lv (.ref (ad 0) :: st) := j_get (ref := "FestoonModel") h 0 5 hd hin rfl (by decide) hlink (fun _ h9 => h9) rfl rfl kk
theorem m_ald5 {i : Int32} {b : Nat} (h : jc p s m args c D vwCl (tyW cI cL cR) A n cc RX3 Ts) (hd : decode cc pc = .ok (.iaload, 1)) (hi : i = nI b) (hb : b < 24) (kk : jj p l e R s m args below meth c Q D vwCl (tyW cI cL cR) A n (wM cI ad f t) k w (pc + 1) lv (.int (f 5 b) :: st)) : jj p l e R s m args below meth c Q D vwCl (tyW cI cL cR) A n (wM cI ad f t) k w pc lv (.int i :: .ref (ad 6) :: st) := by
  subst hi
  refine j_iald h 6 0 hd rfl rfl (vp_in_nI hb (by decide)) ?_
  rw [nI_clamp (by omega)]
  exact kk
theorem m_ast5 {i v : Int32} {b : Nat} (h : jc p s m args c D vwCl (tyW cI cL cR) A n cc RX3 Ts) (hd : decode cc pc = .ok (.iastore, 1)) (hi : i = nI b) (hb : b < 24) (kk : jj p l e R s m args below meth c Q D vwCl (tyW cI cL cR) A n (wM cI ad (up2 f 5 b v) t) k w (pc + 1) lv st) : jj p l e R s m args below meth c Q D vwCl (tyW cI cL cR) A n (wM cI ad f t) k w pc lv (.int v :: .int i :: .ref (ad 6) :: st) := by
  subst hi
  refine j_iast h 6 0 hd rfl rfl (vp_in_nI hb (by decide)) ?_
  rw [nI_clamp (by omega)]
  exact kk
theorem m_get6 (h : jc p s m args c D vwCl (tyW cI cL cR) A n cc RX3 Ts) (hin : ∀ x ∈ wsX30, x ∈ Ts) (hlink : Cond.fieldLink RX3 28 "FestoonModel" "slots" "[I" ∈ Ts) (hd : decode cc pc = .ok (.getfield 28, 3)) (kk : jj p l e R s m args below meth c Q D vwCl (tyW cI cL cR) A n (wM cI ad f t) k w (pc + 3) lv (.ref (ad 7) :: st)) : jj p l e R s m args below meth c Q D vwCl (tyW cI cL cR) A n (wM cI ad f t) k w pc lv (.ref (ad 0) :: st) := j_get (ref := "FestoonModel") h 0 6 hd hin rfl (by decide) hlink (fun _ h9 => h9) rfl rfl kk
theorem m_ald6 {i : Int32} {b : Nat} (h : jc p s m args c D vwCl (tyW cI cL cR) A n cc RX3 Ts) (hd : decode cc pc = .ok (.iaload, 1)) (hi : i = nI b) (hb : b < 24) (kk : jj p l e R s m args below meth c Q D vwCl (tyW cI cL cR) A n (wM cI ad f t) k w (pc + 1) lv (.int (f 6 b) :: st)) : jj p l e R s m args below meth c Q D vwCl (tyW cI cL cR) A n (wM cI ad f t) k w pc lv (.int i :: .ref (ad 7) :: st) := by
  subst hi
  refine j_iald h 7 0 hd rfl rfl (vp_in_nI hb (by decide)) ?_
  rw [nI_clamp (by omega)]
  exact kk
theorem m_ast6 {i v : Int32} {b : Nat} (h : jc p s m args c D vwCl (tyW cI cL cR) A n cc RX3 Ts) (hd : decode cc pc = .ok (.iastore, 1)) (hi : i = nI b) (hb : b < 24) (kk : jj p l e R s m args below meth c Q D vwCl (tyW cI cL cR) A n (wM cI ad (up2 f 6 b v) t) k w (pc + 1) lv st) : jj p l e R s m args below meth c Q D vwCl (tyW cI cL cR) A n (wM cI ad f t) k w pc lv (.int v :: .int i :: .ref (ad 7) :: st) := by
  subst hi
  refine j_iast h 7 0 hd rfl rfl (vp_in_nI hb (by decide)) ?_
  rw [nI_clamp (by omega)]
  exact kk
theorem m_get7 (h : jc p s m args c D vwCl (tyW cI cL cR) A n cc RX3 Ts) (hin : ∀ x ∈ wsX30, x ∈ Ts) (hlink : Cond.fieldLink RX3 56 "FestoonModel" "lanterns" "I" ∈ Ts) (hd : decode cc pc = .ok (.getfield 56, 3)) (kk : jj p l e R s m args below meth c Q D vwCl (tyW cI cL cR) A n (wM cI ad f t) k w (pc + 3) lv (.int (f 7 0) :: st)) : jj p l e R s m args below meth c Q D vwCl (tyW cI cL cR) A n (wM cI ad f t) k w pc lv (.ref (ad 0) :: st) := j_get (ref := "FestoonModel") h 0 7 hd hin rfl (by decide) hlink (fun _ h9 => h9) rfl rfl kk
theorem m_put7 {v : Int32} (h : jc p s m args c D vwCl (tyW cI cL cR) A n cc RX3 Ts) (hin : ∀ x ∈ wsX30, x ∈ Ts) (hlink : Cond.fieldLink RX3 56 "FestoonModel" "lanterns" "I" ∈ Ts) (hd : decode cc pc = .ok (.putfield 56, 3)) (kk : jj p l e R s m args below meth c Q D vwCl (tyW cI cL cR) A n (wM cI ad (up2 f 7 0 v) t) k w (pc + 3) lv st) : jj p l e R s m args below meth c Q D vwCl (tyW cI cL cR) A n (wM cI ad f t) k w pc lv (.int v :: .ref (ad 0) :: st) := j_put (ref := "FestoonModel") (ty := .int) h 0 7 tyX3 tyX3_ok nmX3 hd hin rfl (by decide) hlink (fun _ h9 => h9) rfl rfl rfl rfl rfl (Nat.le_of_ble_eq_true rfl) kk
theorem m_get8 (h : jc p s m args c D vwCl (tyW cI cL cR) A n cc RX3 Ts) (hin : ∀ x ∈ wsX30, x ∈ Ts) (hlink : Cond.fieldLink RX3 31 "FestoonModel" "speeds" "[I" ∈ Ts) (hd : decode cc pc = .ok (.getfield 31, 3)) (kk : jj p l e R s m args below meth c Q D vwCl (tyW cI cL cR) A n (wM cI ad f t) k w (pc + 3) lv (.ref (ad 8) :: st)) : jj p l e R s m args below meth c Q D vwCl (tyW cI cL cR) A n (wM cI ad f t) k w pc lv (.ref (ad 0) :: st) := j_get (ref := "FestoonModel") h 0 8 hd hin rfl (by decide) hlink (fun _ h9 => h9) rfl rfl kk
theorem m_ald8 {i : Int32} {b : Nat} (h : jc p s m args c D vwCl (tyW cI cL cR) A n cc RX3 Ts) (hd : decode cc pc = .ok (.iaload, 1)) (hi : i = nI b) (hb : b < 8) (kk : jj p l e R s m args below meth c Q D vwCl (tyW cI cL cR) A n (wM cI ad f t) k w (pc + 1) lv (.int (f 8 b) :: st)) : jj p l e R s m args below meth c Q D vwCl (tyW cI cL cR) A n (wM cI ad f t) k w pc lv (.int i :: .ref (ad 8) :: st) := by
  subst hi
  refine j_iald h 8 0 hd rfl rfl (vp_in_nI hb (by decide)) ?_
  rw [nI_clamp (by omega)]
  exact kk
theorem m_ast8 {i v : Int32} {b : Nat} (h : jc p s m args c D vwCl (tyW cI cL cR) A n cc RX3 Ts) (hd : decode cc pc = .ok (.iastore, 1)) (hi : i = nI b) (hb : b < 8) (kk : jj p l e R s m args below meth c Q D vwCl (tyW cI cL cR) A n (wM cI ad (up2 f 8 b v) t) k w (pc + 1) lv st) : jj p l e R s m args below meth c Q D vwCl (tyW cI cL cR) A n (wM cI ad f t) k w pc lv (.int v :: .int i :: .ref (ad 8) :: st) := by
  subst hi
  refine j_iast h 8 0 hd rfl rfl (vp_in_nI hb (by decide)) ?_
  rw [nI_clamp (by omega)]
  exact kk
theorem m_get9 (h : jc p s m args c D vwCl (tyW cI cL cR) A n cc RX3 Ts) (hin : ∀ x ∈ wsX30, x ∈ Ts) (hlink : Cond.fieldLink RX3 34 "FestoonModel" "bears" "[I" ∈ Ts) (hd : decode cc pc = .ok (.getfield 34, 3)) (kk : jj p l e R s m args below meth c Q D vwCl (tyW cI cL cR) A n (wM cI ad f t) k w (pc + 3) lv (.ref (ad 9) :: st)) : jj p l e R s m args below meth c Q D vwCl (tyW cI cL cR) A n (wM cI ad f t) k w pc lv (.ref (ad 0) :: st) := j_get (ref := "FestoonModel") h 0 9 hd hin rfl (by decide) hlink (fun _ h9 => h9) rfl rfl kk
theorem m_ald9 {i : Int32} {b : Nat} (h : jc p s m args c D vwCl (tyW cI cL cR) A n cc RX3 Ts) (hd : decode cc pc = .ok (.iaload, 1)) (hi : i = nI b) (hb : b < 8) (kk : jj p l e R s m args below meth c Q D vwCl (tyW cI cL cR) A n (wM cI ad f t) k w (pc + 1) lv (.int (f 9 b) :: st)) : jj p l e R s m args below meth c Q D vwCl (tyW cI cL cR) A n (wM cI ad f t) k w pc lv (.int i :: .ref (ad 9) :: st) := by
  subst hi
  refine j_iald h 9 0 hd rfl rfl (vp_in_nI hb (by decide)) ?_
  rw [nI_clamp (by omega)]
  exact kk
theorem m_ast9 {i v : Int32} {b : Nat} (h : jc p s m args c D vwCl (tyW cI cL cR) A n cc RX3 Ts) (hd : decode cc pc = .ok (.iastore, 1)) (hi : i = nI b) (hb : b < 8) (kk : jj p l e R s m args below meth c Q D vwCl (tyW cI cL cR) A n (wM cI ad (up2 f 9 b v) t) k w (pc + 1) lv st) : jj p l e R s m args below meth c Q D vwCl (tyW cI cL cR) A n (wM cI ad f t) k w pc lv (.int v :: .int i :: .ref (ad 9) :: st) := by
  subst hi
  refine j_iast h 9 0 hd rfl rfl (vp_in_nI hb (by decide)) ?_
  rw [nI_clamp (by omega)]
  exact kk
theorem m_get10 (h : jc p s m args c D vwCl (tyW cI cL cR) A n cc RX3 Ts) (hin : ∀ x ∈ wsX30, x ∈ Ts) (hlink : Cond.fieldLink RX3 37 "FestoonModel" "sorts" "[I" ∈ Ts) (hd : decode cc pc = .ok (.getfield 37, 3)) (kk : jj p l e R s m args below meth c Q D vwCl (tyW cI cL cR) A n (wM cI ad f t) k w (pc + 3) lv (.ref (ad 10) :: st)) : jj p l e R s m args below meth c Q D vwCl (tyW cI cL cR) A n (wM cI ad f t) k w pc lv (.ref (ad 0) :: st) := j_get (ref := "FestoonModel") h 0 10 hd hin rfl (by decide) hlink (fun _ h9 => h9) rfl rfl kk
theorem m_ald10 {i : Int32} {b : Nat} (h : jc p s m args c D vwCl (tyW cI cL cR) A n cc RX3 Ts) (hd : decode cc pc = .ok (.iaload, 1)) (hi : i = nI b) (hb : b < 8) (kk : jj p l e R s m args below meth c Q D vwCl (tyW cI cL cR) A n (wM cI ad f t) k w (pc + 1) lv (.int (f 10 b) :: st)) : jj p l e R s m args below meth c Q D vwCl (tyW cI cL cR) A n (wM cI ad f t) k w pc lv (.int i :: .ref (ad 10) :: st) := by
  subst hi
  refine j_iald h 10 0 hd rfl rfl (vp_in_nI hb (by decide)) ?_
  rw [nI_clamp (by omega)]
  exact kk
theorem m_ast10 {i v : Int32} {b : Nat} (h : jc p s m args c D vwCl (tyW cI cL cR) A n cc RX3 Ts) (hd : decode cc pc = .ok (.iastore, 1)) (hi : i = nI b) (hb : b < 8) (kk : jj p l e R s m args below meth c Q D vwCl (tyW cI cL cR) A n (wM cI ad (up2 f 10 b v) t) k w (pc + 1) lv st) : jj p l e R s m args below meth c Q D vwCl (tyW cI cL cR) A n (wM cI ad f t) k w pc lv (.int v :: .int i :: .ref (ad 10) :: st) := by
  subst hi
  refine j_iast h 10 0 hd rfl rfl (vp_in_nI hb (by decide)) ?_
  rw [nI_clamp (by omega)]
  exact kk
theorem m_get11 (h : jc p s m args c D vwCl (tyW cI cL cR) A n cc RX3 Ts) (hin : ∀ x ∈ wsX30, x ∈ Ts) (hlink : Cond.fieldLink RX3 40 "FestoonModel" "fronts" "[I" ∈ Ts) (hd : decode cc pc = .ok (.getfield 40, 3)) (kk : jj p l e R s m args below meth c Q D vwCl (tyW cI cL cR) A n (wM cI ad f t) k w (pc + 3) lv (.ref (ad 11) :: st)) : jj p l e R s m args below meth c Q D vwCl (tyW cI cL cR) A n (wM cI ad f t) k w pc lv (.ref (ad 0) :: st) := j_get (ref := "FestoonModel") h 0 11 hd hin rfl (by decide) hlink (fun _ h9 => h9) rfl rfl kk
theorem m_ald11 {i : Int32} {b : Nat} (h : jc p s m args c D vwCl (tyW cI cL cR) A n cc RX3 Ts) (hd : decode cc pc = .ok (.iaload, 1)) (hi : i = nI b) (hb : b < 8) (kk : jj p l e R s m args below meth c Q D vwCl (tyW cI cL cR) A n (wM cI ad f t) k w (pc + 1) lv (.int (f 11 b) :: st)) : jj p l e R s m args below meth c Q D vwCl (tyW cI cL cR) A n (wM cI ad f t) k w pc lv (.int i :: .ref (ad 11) :: st) := by
  subst hi
  refine j_iald h 11 0 hd rfl rfl (vp_in_nI hb (by decide)) ?_
  rw [nI_clamp (by omega)]
  exact kk
theorem m_ast11 {i v : Int32} {b : Nat} (h : jc p s m args c D vwCl (tyW cI cL cR) A n cc RX3 Ts) (hd : decode cc pc = .ok (.iastore, 1)) (hi : i = nI b) (hb : b < 8) (kk : jj p l e R s m args below meth c Q D vwCl (tyW cI cL cR) A n (wM cI ad (up2 f 11 b v) t) k w (pc + 1) lv st) : jj p l e R s m args below meth c Q D vwCl (tyW cI cL cR) A n (wM cI ad f t) k w pc lv (.int v :: .int i :: .ref (ad 11) :: st) := by
  subst hi
  refine j_iast h 11 0 hd rfl rfl (vp_in_nI hb (by decide)) ?_
  rw [nI_clamp (by omega)]
  exact kk
theorem m_get12 (h : jc p s m args c D vwCl (tyW cI cL cR) A n cc RX3 Ts) (hin : ∀ x ∈ wsX30, x ∈ Ts) (hlink : Cond.fieldLink RX3 43 "FestoonModel" "order" "[I" ∈ Ts) (hd : decode cc pc = .ok (.getfield 43, 3)) (kk : jj p l e R s m args below meth c Q D vwCl (tyW cI cL cR) A n (wM cI ad f t) k w (pc + 3) lv (.ref (ad 12) :: st)) : jj p l e R s m args below meth c Q D vwCl (tyW cI cL cR) A n (wM cI ad f t) k w pc lv (.ref (ad 0) :: st) := j_get (ref := "FestoonModel") h 0 12 hd hin rfl (by decide) hlink (fun _ h9 => h9) rfl rfl kk
theorem m_ald12 {i : Int32} {b : Nat} (h : jc p s m args c D vwCl (tyW cI cL cR) A n cc RX3 Ts) (hd : decode cc pc = .ok (.iaload, 1)) (hi : i = nI b) (hb : b < 8) (kk : jj p l e R s m args below meth c Q D vwCl (tyW cI cL cR) A n (wM cI ad f t) k w (pc + 1) lv (.int (f 12 b) :: st)) : jj p l e R s m args below meth c Q D vwCl (tyW cI cL cR) A n (wM cI ad f t) k w pc lv (.int i :: .ref (ad 12) :: st) := by
  subst hi
  refine j_iald h 12 0 hd rfl rfl (vp_in_nI hb (by decide)) ?_
  rw [nI_clamp (by omega)]
  exact kk
theorem m_ast12 {i v : Int32} {b : Nat} (h : jc p s m args c D vwCl (tyW cI cL cR) A n cc RX3 Ts) (hd : decode cc pc = .ok (.iastore, 1)) (hi : i = nI b) (hb : b < 8) (kk : jj p l e R s m args below meth c Q D vwCl (tyW cI cL cR) A n (wM cI ad (up2 f 12 b v) t) k w (pc + 1) lv st) : jj p l e R s m args below meth c Q D vwCl (tyW cI cL cR) A n (wM cI ad f t) k w pc lv (.int v :: .int i :: .ref (ad 12) :: st) := by
  subst hi
  refine j_iast h 12 0 hd rfl rfl (vp_in_nI hb (by decide)) ?_
  rw [nI_clamp (by omega)]
  exact kk
theorem m_get13 (h : jc p s m args c D vwCl (tyW cI cL cR) A n cc RX3 Ts) (hin : ∀ x ∈ wsX30, x ∈ Ts) (hlink : Cond.fieldLink RX3 108 "FestoonModel" "launched" "I" ∈ Ts) (hd : decode cc pc = .ok (.getfield 108, 3)) (kk : jj p l e R s m args below meth c Q D vwCl (tyW cI cL cR) A n (wM cI ad f t) k w (pc + 3) lv (.int (f 13 0) :: st)) : jj p l e R s m args below meth c Q D vwCl (tyW cI cL cR) A n (wM cI ad f t) k w pc lv (.ref (ad 0) :: st) := j_get (ref := "FestoonModel") h 0 13 hd hin rfl (by decide) hlink (fun _ h9 => h9) rfl rfl kk
theorem m_put13 {v : Int32} (h : jc p s m args c D vwCl (tyW cI cL cR) A n cc RX3 Ts) (hin : ∀ x ∈ wsX30, x ∈ Ts) (hlink : Cond.fieldLink RX3 108 "FestoonModel" "launched" "I" ∈ Ts) (hd : decode cc pc = .ok (.putfield 108, 3)) (kk : jj p l e R s m args below meth c Q D vwCl (tyW cI cL cR) A n (wM cI ad (up2 f 13 0 v) t) k w (pc + 3) lv st) : jj p l e R s m args below meth c Q D vwCl (tyW cI cL cR) A n (wM cI ad f t) k w pc lv (.int v :: .ref (ad 0) :: st) := j_put (ref := "FestoonModel") (ty := .int) h 0 13 tyX3 tyX3_ok nmX3 hd hin rfl (by decide) hlink (fun _ h9 => h9) rfl rfl rfl rfl rfl (Nat.le_of_ble_eq_true rfl) kk
theorem m_get14 (h : jc p s m args c D vwCl (tyW cI cL cR) A n cc RX3 Ts) (hin : ∀ x ∈ wsX30, x ∈ Ts) (hlink : Cond.fieldLink RX3 63 "FestoonModel" "floats" "I" ∈ Ts) (hd : decode cc pc = .ok (.getfield 63, 3)) (kk : jj p l e R s m args below meth c Q D vwCl (tyW cI cL cR) A n (wM cI ad f t) k w (pc + 3) lv (.int (f 14 0) :: st)) : jj p l e R s m args below meth c Q D vwCl (tyW cI cL cR) A n (wM cI ad f t) k w pc lv (.ref (ad 0) :: st) := j_get (ref := "FestoonModel") h 0 14 hd hin rfl (by decide) hlink (fun _ h9 => h9) rfl rfl kk
theorem m_put14 {v : Int32} (h : jc p s m args c D vwCl (tyW cI cL cR) A n cc RX3 Ts) (hin : ∀ x ∈ wsX30, x ∈ Ts) (hlink : Cond.fieldLink RX3 63 "FestoonModel" "floats" "I" ∈ Ts) (hd : decode cc pc = .ok (.putfield 63, 3)) (kk : jj p l e R s m args below meth c Q D vwCl (tyW cI cL cR) A n (wM cI ad (up2 f 14 0 v) t) k w (pc + 3) lv st) : jj p l e R s m args below meth c Q D vwCl (tyW cI cL cR) A n (wM cI ad f t) k w pc lv (.int v :: .ref (ad 0) :: st) := j_put (ref := "FestoonModel") (ty := .int) h 0 14 tyX3 tyX3_ok nmX3 hd hin rfl (by decide) hlink (fun _ h9 => h9) rfl rfl rfl rfl rfl (Nat.le_of_ble_eq_true rfl) kk
theorem m_get15 (h : jc p s m args c D vwCl (tyW cI cL cR) A n cc RX3 Ts) (hin : ∀ x ∈ wsX30, x ∈ Ts) (hlink : Cond.fieldLink RX3 46 "FestoonModel" "gap" "I" ∈ Ts) (hd : decode cc pc = .ok (.getfield 46, 3)) (kk : jj p l e R s m args below meth c Q D vwCl (tyW cI cL cR) A n (wM cI ad f t) k w (pc + 3) lv (.int (f 15 0) :: st)) : jj p l e R s m args below meth c Q D vwCl (tyW cI cL cR) A n (wM cI ad f t) k w pc lv (.ref (ad 0) :: st) := j_get (ref := "FestoonModel") h 0 15 hd hin rfl (by decide) hlink (fun _ h9 => h9) rfl rfl kk
theorem m_put15 {v : Int32} (h : jc p s m args c D vwCl (tyW cI cL cR) A n cc RX3 Ts) (hin : ∀ x ∈ wsX30, x ∈ Ts) (hlink : Cond.fieldLink RX3 46 "FestoonModel" "gap" "I" ∈ Ts) (hd : decode cc pc = .ok (.putfield 46, 3)) (kk : jj p l e R s m args below meth c Q D vwCl (tyW cI cL cR) A n (wM cI ad (up2 f 15 0 v) t) k w (pc + 3) lv st) : jj p l e R s m args below meth c Q D vwCl (tyW cI cL cR) A n (wM cI ad f t) k w pc lv (.int v :: .ref (ad 0) :: st) := j_put (ref := "FestoonModel") (ty := .int) h 0 15 tyX3 tyX3_ok nmX3 hd hin rfl (by decide) hlink (fun _ h9 => h9) rfl rfl rfl rfl rfl (Nat.le_of_ble_eq_true rfl) kk
theorem m_get16 (h : jc p s m args c D vwCl (tyW cI cL cR) A n cc RX3 Ts) (hin : ∀ x ∈ wsX30, x ∈ Ts) (hlink : Cond.fieldLink RX3 99 "FestoonModel" "base" "I" ∈ Ts) (hd : decode cc pc = .ok (.getfield 99, 3)) (kk : jj p l e R s m args below meth c Q D vwCl (tyW cI cL cR) A n (wM cI ad f t) k w (pc + 3) lv (.int (f 16 0) :: st)) : jj p l e R s m args below meth c Q D vwCl (tyW cI cL cR) A n (wM cI ad f t) k w pc lv (.ref (ad 0) :: st) := j_get (ref := "FestoonModel") h 0 16 hd hin rfl (by decide) hlink (fun _ h9 => h9) rfl rfl kk
theorem m_put16 {v : Int32} (h : jc p s m args c D vwCl (tyW cI cL cR) A n cc RX3 Ts) (hin : ∀ x ∈ wsX30, x ∈ Ts) (hlink : Cond.fieldLink RX3 99 "FestoonModel" "base" "I" ∈ Ts) (hd : decode cc pc = .ok (.putfield 99, 3)) (kk : jj p l e R s m args below meth c Q D vwCl (tyW cI cL cR) A n (wM cI ad (up2 f 16 0 v) t) k w (pc + 3) lv st) : jj p l e R s m args below meth c Q D vwCl (tyW cI cL cR) A n (wM cI ad f t) k w pc lv (.int v :: .ref (ad 0) :: st) := j_put (ref := "FestoonModel") (ty := .int) h 0 16 tyX3 tyX3_ok nmX3 hd hin rfl (by decide) hlink (fun _ h9 => h9) rfl rfl rfl rfl rfl (Nat.le_of_ble_eq_true rfl) kk
theorem m_get17 (h : jc p s m args c D vwCl (tyW cI cL cR) A n cc RX3 Ts) (hin : ∀ x ∈ wsX30, x ∈ Ts) (hlink : Cond.fieldLink RX3 50 "FestoonModel" "gusts" "[I" ∈ Ts) (hd : decode cc pc = .ok (.getfield 50, 3)) (kk : jj p l e R s m args below meth c Q D vwCl (tyW cI cL cR) A n (wM cI ad f t) k w (pc + 3) lv (.ref (ad 13) :: st)) : jj p l e R s m args below meth c Q D vwCl (tyW cI cL cR) A n (wM cI ad f t) k w pc lv (.ref (ad 0) :: st) := j_get (ref := "FestoonModel") h 0 17 hd hin rfl (by decide) hlink (fun _ h9 => h9) rfl rfl kk
theorem m_ald17 {i : Int32} {b : Nat} (h : jc p s m args c D vwCl (tyW cI cL cR) A n cc RX3 Ts) (hd : decode cc pc = .ok (.iaload, 1)) (hi : i = nI b) (hb : b < 401) (kk : jj p l e R s m args below meth c Q D vwCl (tyW cI cL cR) A n (wM cI ad f t) k w (pc + 1) lv (.int (f 17 b) :: st)) : jj p l e R s m args below meth c Q D vwCl (tyW cI cL cR) A n (wM cI ad f t) k w pc lv (.int i :: .ref (ad 13) :: st) := by
  subst hi
  refine j_iald h 13 0 hd rfl rfl (vp_in_nI hb (by decide)) ?_
  rw [nI_clamp (by omega)]
  exact kk
theorem m_ast17 {i v : Int32} {b : Nat} (h : jc p s m args c D vwCl (tyW cI cL cR) A n cc RX3 Ts) (hd : decode cc pc = .ok (.iastore, 1)) (hi : i = nI b) (hb : b < 401) (kk : jj p l e R s m args below meth c Q D vwCl (tyW cI cL cR) A n (wM cI ad (up2 f 17 b v) t) k w (pc + 1) lv st) : jj p l e R s m args below meth c Q D vwCl (tyW cI cL cR) A n (wM cI ad f t) k w pc lv (.int v :: .int i :: .ref (ad 13) :: st) := by
  subst hi
  refine j_iast h 13 0 hd rfl rfl (vp_in_nI hb (by decide)) ?_
  rw [nI_clamp (by omega)]
  exact kk
theorem m_get18 (h : jc p s m args c D vwCl (tyW cI cL cR) A n cc RX3 Ts) (hin : ∀ x ∈ wsX30, x ∈ Ts) (hlink : Cond.fieldLink RX3 118 "FestoonModel" "time" "I" ∈ Ts) (hd : decode cc pc = .ok (.getfield 118, 3)) (kk : jj p l e R s m args below meth c Q D vwCl (tyW cI cL cR) A n (wM cI ad f t) k w (pc + 3) lv (.int (f 18 0) :: st)) : jj p l e R s m args below meth c Q D vwCl (tyW cI cL cR) A n (wM cI ad f t) k w pc lv (.ref (ad 0) :: st) := j_get (ref := "FestoonModel") h 0 18 hd hin rfl (by decide) hlink (fun _ h9 => h9) rfl rfl kk
theorem m_put18 {v : Int32} (h : jc p s m args c D vwCl (tyW cI cL cR) A n cc RX3 Ts) (hin : ∀ x ∈ wsX30, x ∈ Ts) (hlink : Cond.fieldLink RX3 118 "FestoonModel" "time" "I" ∈ Ts) (hd : decode cc pc = .ok (.putfield 118, 3)) (kk : jj p l e R s m args below meth c Q D vwCl (tyW cI cL cR) A n (wM cI ad (up2 f 18 0 v) t) k w (pc + 3) lv st) : jj p l e R s m args below meth c Q D vwCl (tyW cI cL cR) A n (wM cI ad f t) k w pc lv (.int v :: .ref (ad 0) :: st) := j_put (ref := "FestoonModel") (ty := .int) h 0 18 tyX3 tyX3_ok nmX3 hd hin rfl (by decide) hlink (fun _ h9 => h9) rfl rfl rfl rfl rfl (Nat.le_of_ble_eq_true rfl) kk
theorem m_get19 (h : jc p s m args c D vwCl (tyW cI cL cR) A n cc RX3 Ts) (hin : ∀ x ∈ wsX30, x ∈ Ts) (hlink : Cond.fieldLink RX3 121 "FestoonModel" "blown" "I" ∈ Ts) (hd : decode cc pc = .ok (.getfield 121, 3)) (kk : jj p l e R s m args below meth c Q D vwCl (tyW cI cL cR) A n (wM cI ad f t) k w (pc + 3) lv (.int (f 19 0) :: st)) : jj p l e R s m args below meth c Q D vwCl (tyW cI cL cR) A n (wM cI ad f t) k w pc lv (.ref (ad 0) :: st) := j_get (ref := "FestoonModel") h 0 19 hd hin rfl (by decide) hlink (fun _ h9 => h9) rfl rfl kk
theorem m_put19 {v : Int32} (h : jc p s m args c D vwCl (tyW cI cL cR) A n cc RX3 Ts) (hin : ∀ x ∈ wsX30, x ∈ Ts) (hlink : Cond.fieldLink RX3 121 "FestoonModel" "blown" "I" ∈ Ts) (hd : decode cc pc = .ok (.putfield 121, 3)) (kk : jj p l e R s m args below meth c Q D vwCl (tyW cI cL cR) A n (wM cI ad (up2 f 19 0 v) t) k w (pc + 3) lv st) : jj p l e R s m args below meth c Q D vwCl (tyW cI cL cR) A n (wM cI ad f t) k w pc lv (.int v :: .ref (ad 0) :: st) := j_put (ref := "FestoonModel") (ty := .int) h 0 19 tyX3 tyX3_ok nmX3 hd hin rfl (by decide) hlink (fun _ h9 => h9) rfl rfl rfl rfl rfl (Nat.le_of_ble_eq_true rfl) kk
theorem m_get20 (h : jc p s m args c D vwCl (tyW cI cL cR) A n cc RX3 Ts) (hin : ∀ x ∈ wsX30, x ∈ Ts) (hlink : Cond.fieldLink RX3 124 "FestoonModel" "ordered" "I" ∈ Ts) (hd : decode cc pc = .ok (.getfield 124, 3)) (kk : jj p l e R s m args below meth c Q D vwCl (tyW cI cL cR) A n (wM cI ad f t) k w (pc + 3) lv (.int (f 20 0) :: st)) : jj p l e R s m args below meth c Q D vwCl (tyW cI cL cR) A n (wM cI ad f t) k w pc lv (.ref (ad 0) :: st) := j_get (ref := "FestoonModel") h 0 20 hd hin rfl (by decide) hlink (fun _ h9 => h9) rfl rfl kk
theorem m_put20 {v : Int32} (h : jc p s m args c D vwCl (tyW cI cL cR) A n cc RX3 Ts) (hin : ∀ x ∈ wsX30, x ∈ Ts) (hlink : Cond.fieldLink RX3 124 "FestoonModel" "ordered" "I" ∈ Ts) (hd : decode cc pc = .ok (.putfield 124, 3)) (kk : jj p l e R s m args below meth c Q D vwCl (tyW cI cL cR) A n (wM cI ad (up2 f 20 0 v) t) k w (pc + 3) lv st) : jj p l e R s m args below meth c Q D vwCl (tyW cI cL cR) A n (wM cI ad f t) k w pc lv (.int v :: .ref (ad 0) :: st) := j_put (ref := "FestoonModel") (ty := .int) h 0 20 tyX3 tyX3_ok nmX3 hd hin rfl (by decide) hlink (fun _ h9 => h9) rfl rfl rfl rfl rfl (Nat.le_of_ble_eq_true rfl) kk
theorem m_get21 (h : jc p s m args c D vwCl (tyW cI cL cR) A n cc RX3 Ts) (hin : ∀ x ∈ wsX30, x ∈ Ts) (hlink : Cond.fieldLink RX3 53 "FestoonModel" "last" "I" ∈ Ts) (hd : decode cc pc = .ok (.getfield 53, 3)) (kk : jj p l e R s m args below meth c Q D vwCl (tyW cI cL cR) A n (wM cI ad f t) k w (pc + 3) lv (.int t :: st)) : jj p l e R s m args below meth c Q D vwCl (tyW cI cL cR) A n (wM cI ad f t) k w pc lv (.ref (ad 0) :: st) := j_get (ref := "FestoonModel") h 0 21 hd hin rfl (by decide) hlink (fun _ h9 => h9) rfl rfl kk
theorem m_put21 {v : Int32} (h : jc p s m args c D vwCl (tyW cI cL cR) A n cc RX3 Ts) (hin : ∀ x ∈ wsX30, x ∈ Ts) (hlink : Cond.fieldLink RX3 53 "FestoonModel" "last" "I" ∈ Ts) (hd : decode cc pc = .ok (.putfield 53, 3)) (kk : jj p l e R s m args below meth c Q D vwCl (tyW cI cL cR) A n (wM cI ad f v) k w (pc + 3) lv st) : jj p l e R s m args below meth c Q D vwCl (tyW cI cL cR) A n (wM cI ad f t) k w pc lv (.int v :: .ref (ad 0) :: st) := j_put (ref := "FestoonModel") (ty := .int) h 0 21 tyX3 tyX3_ok nmX3 hd hin rfl (by decide) hlink (fun _ h9 => h9) rfl rfl rfl rfl rfl (Nat.le_of_ble_eq_true rfl) kk
end MW
