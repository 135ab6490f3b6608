section JW
def lF (i : Nat) : Nat := if i % 8 = 7 then 26 else i % 8
def mJ (i : Nat) : Nat := if i = 0 then 7 else if i = 1 then 14 else if i = 2 then 13 else if i = 3 then 15 else if i = 4 then 16 else if i = 5 then 18 else if i = 6 then 19 else if i = 7 then 20 else 27
def xL (ψ : St) : Nat → Int32 := fun i => ψ (lF i) (i / 8)
def xF (ψ : St) : Nat → Int32 := fun i => ψ (8 + i % 4) (i / 4)
def xM (ψ : St) : Nat → Int32 := fun i => ψ (mJ i) 0
/-- the law's five arrays -/
def wJ (cI : ClassId) (aJ : Nat → Nat) (ψ : St) : va_W := [(aJ 0, .inl (cI, 64, .inl (xL ψ))), (aJ 1, .inl (cI, 20, .inl (xF ψ))), (aJ 2, .inl (cI, 5, .inl (ψ 12))), (aJ 3, .inl (cI, 64, .inl (ψ 17))), (aJ 4, .inl (cI, 8, .inl (xM ψ)))]
theorem lF_at {j k : Nat} (hj : j < 7) : lF (8 * k + j) = j := by unfold lF; rw [if_neg (by omega)]; omega
theorem xL_at (ψ : St) {j k : Nat} (hj : j < 7) : xL ψ (8 * k + j) = ψ j k := by
  show ψ (lF (8 * k + j)) ((8 * k + j) / 8) = ψ j k
  rw [lF_at hj, show (8 * k + j) / 8 = k by omega]
theorem xF_at (ψ : St) {j k : Nat} (hj : j < 4) : xF ψ (4 * k + j) = ψ (8 + j) k := by
  show ψ (8 + (4 * k + j) % 4) ((4 * k + j) / 4) = ψ (8 + j) k
  rw [show (4 * k + j) % 4 = j by omega, show (4 * k + j) / 4 = k by omega]
theorem xL_up (ψ : St) {j k : Nat} (v : Int32) (hj : j < 7) : xL (up2 ψ j k v) = upd (xL ψ) (8 * k + j) v := by
  funext i
  by_cases e : i = 8 * k + j
  · subst e; rw [xL_at _ hj, up2_self]; exact pk_us.symm
  · rw [pk_un e]
    show up2 ψ j k v (lF i) (i / 8) = ψ (lF i) (i / 8)
    by_cases e2 : lF i = j
    · rw [e2, up2_ne]
      unfold lF at e2
      split at e2 <;> omega
    · rw [up2_fld _ _ _ e2]
theorem xL_o (ψ : St) {j : Nat} (k : Nat) (v : Int32) (hj : 7 ≤ j ∧ j ≠ 26) : xL (up2 ψ j k v) = xL ψ := by
  funext i
  show up2 ψ j k v (lF i) (i / 8) = ψ (lF i) (i / 8)
  rw [up2_fld]
  unfold lF
  split <;> omega
theorem xF_up (ψ : St) {j k : Nat} (v : Int32) (hj : j < 4) : xF (up2 ψ (8 + j) k v) = upd (xF ψ) (4 * k + j) v := by
  funext i
  by_cases e : i = 4 * k + j
  · subst e; rw [xF_at _ hj, up2_self]; exact pk_us.symm
  · rw [pk_un e]
    show up2 ψ (8 + j) k v (8 + i % 4) (i / 4) = ψ (8 + i % 4) (i / 4)
    by_cases e2 : i % 4 = j
    · rw [e2, up2_ne]; omega
    · rw [up2_fld _ _ _ (by omega)]
theorem xF_o (ψ : St) {j : Nat} (k : Nat) (v : Int32) (hj : j < 8 ∨ 12 ≤ j) : xF (up2 ψ j k v) = xF ψ := by
  funext i
  show up2 ψ j k v (8 + i % 4) (i / 4) = ψ (8 + i % 4) (i / 4)
  rw [up2_fld _ _ _ (by omega)]
theorem mJ_in (i : Nat) : mJ i = 7 ∨ mJ i = 14 ∨ mJ i = 13 ∨ mJ i = 15 ∨ mJ i = 16 ∨ mJ i = 18 ∨ mJ i = 19 ∨ mJ i = 20 ∨ mJ i = 27 := by
  unfold mJ
  repeat' split
  all_goals omega
theorem xM_o (ψ : St) {j : Nat} (k : Nat) (v : Int32) (hj : j < 7 ∨ 8 ≤ j ∧ j < 13 ∨ j = 17) : xM (up2 ψ j k v) = xM ψ := by
  funext i
  have := mJ_in i
  show up2 ψ j k v (mJ i) 0 = ψ (mJ i) 0
  rw [up2_fld _ _ _ (by omega)]
theorem u12 (ψ : St) (k : Nat) (v : Int32) : up2 ψ 12 k v 12 = upd (ψ 12) k v := by
  funext b
  by_cases e : b = k
  · subst e; rw [up2_self]; exact pk_us.symm
  · rw [pk_un e, up2_ne _ _ _ e]
theorem u17 (ψ : St) (k : Nat) (v : Int32) : up2 ψ 17 k v 17 = upd (ψ 17) k v := by
  funext b
  by_cases e : b = k
  · subst e; rw [up2_self]; exact pk_us.symm
  · rw [pk_un e, up2_ne _ _ _ e]
theorem wJ_l (cI : ClassId) (aJ : Nat → Nat) (ψ : St) (wr : va_W) {j k : Nat} (v : Int32) (hj : j < 7) : (wJ cI aJ ψ ++ wr).set 0 (aJ 0, .inl (cI, 64, .inl (upd (xL ψ) (8 * k + j) v))) = wJ cI aJ (up2 ψ j k v) ++ wr := by
  unfold wJ
  rw [xL_up _ _ hj, xF_o _ _ _ (by omega), xM_o _ _ _ (by omega), up2_fld _ _ _ (show 12 ≠ j by omega), up2_fld _ _ _ (show 17 ≠ j by omega)]
  rfl
theorem wJ_f (cI : ClassId) (aJ : Nat → Nat) (ψ : St) (wr : va_W) {j k : Nat} (v : Int32) (hj : j < 4) : (wJ cI aJ ψ ++ wr).set 1 (aJ 1, .inl (cI, 20, .inl (upd (xF ψ) (4 * k + j) v))) = wJ cI aJ (up2 ψ (8 + j) k v) ++ wr := by
  unfold wJ
  rw [xF_up _ _ hj, xL_o _ _ _ (by omega), xM_o _ _ _ (by omega), up2_fld _ _ _ (show 12 ≠ 8 + j by omega), up2_fld _ _ _ (show 17 ≠ 8 + j by omega)]
  rfl
theorem wJ_r (cI : ClassId) (aJ : Nat → Nat) (ψ : St) (wr : va_W) (k : Nat) (v : Int32) : (wJ cI aJ ψ ++ wr).set 2 (aJ 2, .inl (cI, 5, .inl (upd (ψ 12) k v))) = wJ cI aJ (up2 ψ 12 k v) ++ wr := by
  unfold wJ
  rw [u12, xL_o _ _ _ (by omega), xF_o _ _ _ (by omega), xM_o _ _ _ (by omega), up2_fld _ _ _ (show 17 ≠ 12 by omega)]
  rfl
theorem wJ_g (cI : ClassId) (aJ : Nat → Nat) (ψ : St) (wr : va_W) (k : Nat) (v : Int32) : (wJ cI aJ ψ ++ wr).set 3 (aJ 3, .inl (cI, 64, .inl (upd (ψ 17) k v))) = wJ cI aJ (up2 ψ 17 k v) ++ wr := by
  unfold wJ
  rw [u17, xL_o _ _ _ (by omega), xF_o _ _ _ (by omega), xM_o _ _ _ (by omega), up2_fld _ _ _ (show 12 ≠ 17 by omega)]
  rfl
theorem xM_up0 (ψ : St) (v : Int32) : xM (up2 ψ 7 0 v) = upd (xM ψ) 0 v := by
  funext i
  by_cases e : i = 0
  · subst e; exact (up2_self ψ 7 0 v).trans pk_us.symm
  · rw [pk_un e]
    show up2 ψ 7 0 v (mJ i) 0 = ψ (mJ i) 0
    rw [up2_fld]
    unfold mJ
    repeat' split
    all_goals omega
theorem wJ_m0 (cI : ClassId) (aJ : Nat → Nat) (ψ : St) (wr : va_W) (v : Int32) : (wJ cI aJ ψ ++ wr).set 4 (aJ 4, .inl (cI, 8, .inl (upd (xM ψ) 0 v))) = wJ cI aJ (up2 ψ 7 0 v) ++ wr := by
  unfold wJ
  rw [xM_up0, xL_o _ _ _ (by omega), xF_o _ _ _ (by omega), up2_fld _ _ _ (show 12 ≠ 7 by omega), up2_fld _ _ _ (show 17 ≠ 7 by omega)]
  rfl
theorem xM_up1 (ψ : St) (v : Int32) : xM (up2 ψ 14 0 v) = upd (xM ψ) 1 v := by
  funext i
  by_cases e : i = 1
  · subst e; exact (up2_self ψ 14 0 v).trans pk_us.symm
  · rw [pk_un e]
    show up2 ψ 14 0 v (mJ i) 0 = ψ (mJ i) 0
    rw [up2_fld]
    unfold mJ
    repeat' split
    all_goals omega
theorem wJ_m1 (cI : ClassId) (aJ : Nat → Nat) (ψ : St) (wr : va_W) (v : Int32) : (wJ cI aJ ψ ++ wr).set 4 (aJ 4, .inl (cI, 8, .inl (upd (xM ψ) 1 v))) = wJ cI aJ (up2 ψ 14 0 v) ++ wr := by
  unfold wJ
  rw [xM_up1, xL_o _ _ _ (by omega), xF_o _ _ _ (by omega), up2_fld _ _ _ (show 12 ≠ 14 by omega), up2_fld _ _ _ (show 17 ≠ 14 by omega)]
  rfl
theorem xM_up2 (ψ : St) (v : Int32) : xM (up2 ψ 13 0 v) = upd (xM ψ) 2 v := by
  funext i
  by_cases e : i = 2
  · subst e; exact (up2_self ψ 13 0 v).trans pk_us.symm
  · rw [pk_un e]
    show up2 ψ 13 0 v (mJ i) 0 = ψ (mJ i) 0
    rw [up2_fld]
    unfold mJ
    repeat' split
    all_goals omega
theorem wJ_m2 (cI : ClassId) (aJ : Nat → Nat) (ψ : St) (wr : va_W) (v : Int32) : (wJ cI aJ ψ ++ wr).set 4 (aJ 4, .inl (cI, 8, .inl (upd (xM ψ) 2 v))) = wJ cI aJ (up2 ψ 13 0 v) ++ wr := by
  unfold wJ
  rw [xM_up2, xL_o _ _ _ (by omega), xF_o _ _ _ (by omega), up2_fld _ _ _ (show 12 ≠ 13 by omega), up2_fld _ _ _ (show 17 ≠ 13 by omega)]
  rfl
theorem xM_up3 (ψ : St) (v : Int32) : xM (up2 ψ 15 0 v) = upd (xM ψ) 3 v := by
  funext i
  by_cases e : i = 3
  · subst e; exact (up2_self ψ 15 0 v).trans pk_us.symm
  · rw [pk_un e]
    show up2 ψ 15 0 v (mJ i) 0 = ψ (mJ i) 0
    rw [up2_fld]
    unfold mJ
    repeat' split
    all_goals omega
theorem wJ_m3 (cI : ClassId) (aJ : Nat → Nat) (ψ : St) (wr : va_W) (v : Int32) : (wJ cI aJ ψ ++ wr).set 4 (aJ 4, .inl (cI, 8, .inl (upd (xM ψ) 3 v))) = wJ cI aJ (up2 ψ 15 0 v) ++ wr := by
  unfold wJ
  rw [xM_up3, xL_o _ _ _ (by omega), xF_o _ _ _ (by omega), up2_fld _ _ _ (show 12 ≠ 15 by omega), up2_fld _ _ _ (show 17 ≠ 15 by omega)]
  rfl
theorem xM_up4 (ψ : St) (v : Int32) : xM (up2 ψ 16 0 v) = upd (xM ψ) 4 v := by
  funext i
  by_cases e : i = 4
  · subst e; exact (up2_self ψ 16 0 v).trans pk_us.symm
  · rw [pk_un e]
    show up2 ψ 16 0 v (mJ i) 0 = ψ (mJ i) 0
    rw [up2_fld]
    unfold mJ
    repeat' split
    all_goals omega
theorem wJ_m4 (cI : ClassId) (aJ : Nat → Nat) (ψ : St) (wr : va_W) (v : Int32) : (wJ cI aJ ψ ++ wr).set 4 (aJ 4, .inl (cI, 8, .inl (upd (xM ψ) 4 v))) = wJ cI aJ (up2 ψ 16 0 v) ++ wr := by
  unfold wJ
  rw [xM_up4, xL_o _ _ _ (by omega), xF_o _ _ _ (by omega), up2_fld _ _ _ (show 12 ≠ 16 by omega), up2_fld _ _ _ (show 17 ≠ 16 by omega)]
  rfl
theorem xM_up5 (ψ : St) (v : Int32) : xM (up2 ψ 18 0 v) = upd (xM ψ) 5 v := by
  funext i
  by_cases e : i = 5
  · subst e; exact (up2_self ψ 18 0 v).trans pk_us.symm
  · rw [pk_un e]
    show up2 ψ 18 0 v (mJ i) 0 = ψ (mJ i) 0
    rw [up2_fld]
    unfold mJ
    repeat' split
    all_goals omega
theorem wJ_m5 (cI : ClassId) (aJ : Nat → Nat) (ψ : St) (wr : va_W) (v : Int32) : (wJ cI aJ ψ ++ wr).set 4 (aJ 4, .inl (cI, 8, .inl (upd (xM ψ) 5 v))) = wJ cI aJ (up2 ψ 18 0 v) ++ wr := by
  unfold wJ
  rw [xM_up5, xL_o _ _ _ (by omega), xF_o _ _ _ (by omega), up2_fld _ _ _ (show 12 ≠ 18 by omega), up2_fld _ _ _ (show 17 ≠ 18 by omega)]
  rfl
theorem xM_up6 (ψ : St) (v : Int32) : xM (up2 ψ 19 0 v) = upd (xM ψ) 6 v := by
  funext i
  by_cases e : i = 6
  · subst e; exact (up2_self ψ 19 0 v).trans pk_us.symm
  · rw [pk_un e]
    show up2 ψ 19 0 v (mJ i) 0 = ψ (mJ i) 0
    rw [up2_fld]
    unfold mJ
    repeat' split
    all_goals omega
theorem wJ_m6 (cI : ClassId) (aJ : Nat → Nat) (ψ : St) (wr : va_W) (v : Int32) : (wJ cI aJ ψ ++ wr).set 4 (aJ 4, .inl (cI, 8, .inl (upd (xM ψ) 6 v))) = wJ cI aJ (up2 ψ 19 0 v) ++ wr := by
  unfold wJ
  rw [xM_up6, xL_o _ _ _ (by omega), xF_o _ _ _ (by omega), up2_fld _ _ _ (show 12 ≠ 19 by omega), up2_fld _ _ _ (show 17 ≠ 19 by omega)]
  rfl
theorem xM_up7 (ψ : St) (v : Int32) : xM (up2 ψ 20 0 v) = upd (xM ψ) 7 v := by
  funext i
  by_cases e : i = 7
  · subst e; exact (up2_self ψ 20 0 v).trans pk_us.symm
  · rw [pk_un e]
    show up2 ψ 20 0 v (mJ i) 0 = ψ (mJ i) 0
    rw [up2_fld]
    unfold mJ
    repeat' split
    all_goals omega
theorem wJ_m7 (cI : ClassId) (aJ : Nat → Nat) (ψ : St) (wr : va_W) (v : Int32) : (wJ cI aJ ψ ++ wr).set 4 (aJ 4, .inl (cI, 8, .inl (upd (xM ψ) 7 v))) = wJ cI aJ (up2 ψ 20 0 v) ++ wr := by
  unfold wJ
  rw [xM_up7, xL_o _ _ _ (by omega), xF_o _ _ _ (by omega), up2_fld _ _ _ (show 12 ≠ 20 by omega), up2_fld _ _ _ (show 17 ≠ 20 by omega)]
  rfl
theorem ix8_0 (k : Nat) : (8 : Int32) * nI k = nI (8 * k + 0) := pk_mul 8 k
theorem ix8_1 (k : Nat) : (8 : Int32) * nI k + 1 = nI (8 * k + 1) := by
  rw [show (8 : Int32) * nI k = nI (8 * k) from pk_mul 8 k]
  exact nI_add (8 * k) 1
theorem ix8_2 (k : Nat) : (8 : Int32) * nI k + 2 = nI (8 * k + 2) := by
  rw [show (8 : Int32) * nI k = nI (8 * k) from pk_mul 8 k]
  exact nI_add (8 * k) 2
theorem ix8_3 (k : Nat) : (8 : Int32) * nI k + 3 = nI (8 * k + 3) := by
  rw [show (8 : Int32) * nI k = nI (8 * k) from pk_mul 8 k]
  exact nI_add (8 * k) 3
theorem ix8_4 (k : Nat) : (8 : Int32) * nI k + 4 = nI (8 * k + 4) := by
  rw [show (8 : Int32) * nI k = nI (8 * k) from pk_mul 8 k]
  exact nI_add (8 * k) 4
theorem ix8_5 (k : Nat) : (8 : Int32) * nI k + 5 = nI (8 * k + 5) := by
  rw [show (8 : Int32) * nI k = nI (8 * k) from pk_mul 8 k]
  exact nI_add (8 * k) 5
theorem ix8_6 (k : Nat) : (8 : Int32) * nI k + 6 = nI (8 * k + 6) := by
  rw [show (8 : Int32) * nI k = nI (8 * k) from pk_mul 8 k]
  exact nI_add (8 * k) 6
theorem ix4_0 (k : Nat) : (4 : Int32) * nI k = nI (4 * k + 0) := pk_mul 4 k
theorem ix4_1 (k : Nat) : (4 : Int32) * nI k + 1 = nI (4 * k + 1) := by
  rw [show (4 : Int32) * nI k = nI (4 * k) from pk_mul 4 k]
  exact nI_add (4 * k) 1
theorem ix4_2 (k : Nat) : (4 : Int32) * nI k + 2 = nI (4 * k + 2) := by
  rw [show (4 : Int32) * nI k = nI (4 * k) from pk_mul 4 k]
  exact nI_add (4 * k) 2
theorem ix4_3 (k : Nat) : (4 : Int32) * nI k + 3 = nI (4 * k + 3) := by
  rw [show (4 : Int32) * nI k = nI (4 * k) from pk_mul 4 k]
  exact nI_add (4 * k) 3
variable {p : Program} {l : Launch} {e : Env} {R : Room} {s : State} {m : MethodId} {args : Array Value} {below : List Frame} {meth : Method} {c : Code} {Q : State → Prop} {D : va_G} {cl : List vw_C} {tys : List (ClassId × FieldType)} {A : Nat → Prop} {n : Nat} {cc : ByteArray} {own : String} {Ts : List Cond} {ws : va_W} {k w pc : Nat} {lv : List (Nat × Value)} {st : List Value}
theorem j_ixor (h : jc p s m args c D cl tys A n cc own Ts) {x y : Int32} (hd : decode cc pc = .ok (.ixor, 1)) (kk : jj p l e R s m args below meth c Q D cl tys A n ws k w (pc + 1) lv (.int (x ^^^ y) :: st)) : jj p l e R s m args below meth c Q D cl tys A n ws k w pc lv (.int y :: .int x :: st) := by
  intro H locs ls hP hD hS hl
  exact lv_ixor h.1 h.2.1 hd (kk H locs ls hP hD hS hl)
theorem j_irem (h : jc p s m args c D cl tys A n cc own Ts) {x y : Int32} (hd : decode cc pc = .ok (.irem, 1)) (hy : ¬ y = 0) (kk : jj p l e R s m args below meth c Q D cl tys A n ws k w (pc + 1) lv (.int (x - x / y * y) :: st)) : jj p l e R s m args below meth c Q D cl tys A n ws k w pc lv (.int y :: .int x :: st) := by
  intro H locs ls hP hD hS hl
  exact lv_irem h.1 h.2.1 hd hy (kk H locs ls hP hD hS hl)
/-- the rest of numbers that are not negative -/
theorem j_iremN (h : jc p s m args c D cl tys A n cc own Ts) {x y : Int32} {a d : Nat} (hd : decode cc pc = .ok (.irem, 1)) (hx : x = nI a) (hy : y = nI d) (ha : a < 2 ^ 31) (h0 : 0 < d) (hdd : d < 2 ^ 31) (kk : jj p l e R s m args below meth c Q D cl tys A n ws k w (pc + 1) lv (.int (nI (a % d)) :: st)) : jj p l e R s m args below meth c Q D cl tys A n ws k w pc lv (.int y :: .int x :: st) := by
  subst hx; subst hy
  refine j_irem h hd (nI_ne0 h0 hdd) ?_
  rw [pk_rem ha h0 hdd]
  exact kk
theorem j_idivN (h : jc p s m args c D cl tys A n cc own Ts) {x y : Int32} {a d : Nat} (hd : decode cc pc = .ok (.idiv, 1)) (hx : x = nI a) (hy : y = nI d) (ha : a < 2 ^ 31) (h0 : 0 < d) (hdd : d < 2 ^ 31) (kk : jj p l e R s m args below meth c Q D cl tys A n ws k w (pc + 1) lv (.int (nI (a / d)) :: st)) : jj p l e R s m args below meth c Q D cl tys A n ws k w pc lv (.int y :: .int x :: st) := by
  subst hx; subst hy
  refine j_idiv h hd (nI_ne0 h0 hdd) ?_
  rw [pk_div ha h0 hdd]
  exact kk
/-- another name of what lies on top -/
theorem j_top {x y : Int32} (he : x = y) (kk : jj p l e R s m args below meth c Q D cl tys A n ws k w pc lv (.int y :: st)) : jj p l e R s m args below meth c Q D cl tys A n ws k w pc lv (.int x :: st) := by rw [he]; exact kk
theorem j_ldc (h : jc p s m args c D cl tys A n cc own Ts) {index : Nat} {v : Int32} (hd : decode cc pc = .ok (.ldc index, 2)) (hc : Cond.constant own index v ∈ Ts) (kk : jj p l e R s m args below meth c Q D cl tys A n ws k w (pc + 2) lv (.int v :: st)) : jj p l e R s m args below meth c Q D cl tys A n ws k w pc lv st := by
  intro H locs ls hP hD hS hl
  exact lv_ldc h.1 h.2.1 h.2.2.2.1 (h.2.2.2.2.1 _ hc) hd (kk H locs ls hP hD hS hl)
/-- a loop in which the room taken grows -/
theorem jj_loopk {σ : Type} (lvf : σ → List (Nat × Value)) (wsf : σ → va_W) (kf wf : σ → Nat) (I : σ → Prop) (μ : σ → Nat) (s0 : σ) (hlv : lsub (lvf s0) lv) (hws : ws = wsf s0) (hk : k ≤ kf s0) (hw : w ≤ wf s0) (h0 : I s0)
    (hs : ∀ x : σ, I x → (∀ y : σ, I y → μ y < μ x → ∀ lv' : List (Nat × Value), lsub (lvf y) lv' → ∀ k' w' : Nat, k' ≤ kf y → w' ≤ wf y → jj p l e R s m args below meth c Q D cl tys A n (wsf y) k' w' pc lv' st) → jj p l e R s m args below meth c Q D cl tys A n (wsf x) (kf x) (wf x) pc (lvf x) st) : jj p l e R s m args below meth c Q D cl tys A n ws k w pc lv st := by
  subst hws
  have key : ∀ (b : Nat) (x : σ), μ x < b → I x → jj p l e R s m args below meth c Q D cl tys A n (wsf x) (kf x) (wf x) pc (lvf x) st := by
    intro b
    induction b with
    | zero => intro x hx; omega
    | succ b ih => exact fun x hx hi => hs x hi (fun y hy hm lv' hl' k' w' h1 h2 => jj_wide h1 h2 (jj_to (ih y (by omega) hy) hl'))
  exact jj_wide hk hw (jj_to (key _ s0 (Nat.lt_succ_self _) h0) hlv)
/-- roads that meet -/
theorem jj_joinP (pcJ : Nat) (lvJ : List (Nat × Value)) (P : Prop) (hj : P → jj p l e R s m args below meth c Q D cl tys A n ws k w pcJ lvJ st) (kk : (P → ∀ lv' : List (Nat × Value), lsub lvJ lv' → jj p l e R s m args below meth c Q D cl tys A n ws k w pcJ lv' st) → jj p l e R s m args below meth c Q D cl tys A n ws k w pc lv st) : jj p l e R s m args below meth c Q D cl tys A n ws k w pc lv st := kk (fun hp lv' hl => jj_to (hj hp) hl)
/-- a call of a static method that has the first part of the world -/
theorem j_callFI (h : jc p s m args c D cl tys A n cc own Ts) {wr wc : va_W} {index maxL mc ms nn : Nat} {y : MethodName} {bytes : ByteArray} {ret : Option FieldType} {wd : List Cond} {rm : Room} {As rest : List Value} {post : Int32 → va_W → Prop} (hd : decode cc pc = .ok (.invokestatic index, 3)) (hM : ctI l D cl tys y wd rm As wc post mc ms) (cw : CallB R s args own index y bytes maxL ret wd rm mc ms nn ∧ (Cond.static y).before args s = true) (hn : As.length = nn) (hst : st = As.reverse ++ rest) (hcat : (rest.map fun v => v.category).sum ≤ 8) (hf : k + mc ≤ R.cells ∧ w + ms ≤ R.slots) (kk : ∀ (r : Int32) (u : va_W), post r u → jj p l e R s m args below meth c Q D cl tys A n (u ++ wr) (k + mc) (w + ms) (pc + 3) lv (.int r :: rest)) : jj p l e R s m args below meth c Q D cl tys A n (wc ++ wr) k w pc lv st := by
  refine jj_swap ?_
  intro H locs ls hP hD hS hl
  have hPc := jsubP hP
  have hDc := jsubD hD
  have hA := jA hDc hS h.2.2.2.2.2.2.1
  obtain ⟨B, hB0, hAB, hxe⟩ := h.2.2.2.2.2.2.2
  refine va_calli (va_runS (As := As) (rest := rest) ⟨h.1, h.2.1, h.2.2.1, h.2.2.2.1, h.2.2.2.2.1⟩ (hM B H.size) cw ⟨ctP_blind, jpre h.2.2.2.2.2.1 hPc hDc hS hB0 hAB hxe⟩ rfl hn hl.1 hst (lv_room hcat) hd hf) hS (fun q _ z => hA q z) hA (fun r u t H1 locs1 ht hvm hw hB hz1 hk1 hS1 => ?_)
  obtain ⟨hP1, hK1, hD1⟩ := hB
  rw [ht] at hP1
  obtain ⟨hP2, hD2⟩ := jframe hP hD hk1 hA hP1 hD1
  exact jj_swap (kk r u hw) H1 locs1 ls hP2 hD2 hS1 hl
/-- a static call of a method without a table, whose callees catch -/
theorem j_callNF (h : jc p s m args c D cl tys A n cc own Ts) (hnc : NcA s) {wr wc : va_W} {index maxL mc ms nn : Nat} {y : MethodName} {bytes : ByteArray} {ret : Option FieldType} {wd : List Cond} {rm : Room} {As rest : List Value} {post : Int32 → va_W → Prop} (hd : decode cc pc = .ok (.invokestatic index, 3)) (hM : ctL l D cl tys y wd rm As wc post mc ms) (cw : CallB R s args own index y bytes maxL ret wd rm mc ms nn ∧ (Cond.static y).before args s = true) (hn : As.length = nn) (hst : st = As.reverse ++ rest) (hcat : (rest.map fun v => v.category).sum ≤ 8) (hf : k + mc ≤ R.cells ∧ w + ms ≤ R.slots)
    (kk : ∀ (r : Int32) (u : va_W), post r u → jj p l e R s m args below meth c Q D cl tys A n (wr ++ u) (k + mc) (w + ms) (pc + 3) lv (.int r :: rest)) : jj p l e R s m args below meth c Q D cl tys A n (wr ++ wc) k w pc lv st := by
  intro H locs ls hP hD hS hl
  have hPc := jsubP hP
  have hDc := jsubD hD
  have hA := jA hDc hS h.2.2.2.2.2.2.1
  obtain ⟨B, hB0, hAB, hxe⟩ := h.2.2.2.2.2.2.2
  refine va_calli (va_runS (As := As) (rest := rest) ⟨h.1, h.2.1, h.2.2.1, h.2.2.2.1, h.2.2.2.2.1⟩ (hM B H.size) cw ⟨cwP_blind, fun U hU hW => ⟨(jpre (av := As) h.2.2.2.2.2.1 hPc hDc hS hB0 hAB hxe U hU hW).1, (jpre (av := As) h.2.2.2.2.2.1 hPc hDc hS hB0 hAB hxe U hU hW).2, NcA.moved hW.alike hnc⟩⟩ rfl hn hl.1 hst (lv_room hcat) hd hf) hS (fun q _ z => hA q z) hA (fun r u t H1 locs1 ht hvm hw hB hz1 hk1 hS1 => ?_)
  obtain ⟨hP1, hK1, hD1⟩ := hB
  rw [ht] at hP1
  obtain ⟨hP2, hD2⟩ := jframe hP hD hk1 hA hP1 hD1
  exact kk r u hw H1 locs1 ls hP2 hD2 hS1 hl
/-! methods that read the script -/
def cwZ (D : va_G) (cl : List vw_C) (tys : List (ClassId × FieldType)) (ws : va_W) (B sz sb L : Nat) (xs : Nat → Int32) (U : State) : Prop := cwP D cl tys ws B sz U ∧ va_X sb L xs U U.heap ∧ sb < sz ∧ ¬ va_A ws sz sb
def ctS (l : Launch) (D : va_G) (cl : List vw_C) (tys : List (ClassId × FieldType)) (y : MethodName) (wd : List Cond) (rm : Room) (av : List Value) (ws : va_W) (sb L : Nat) (xs : Nat → Int32) (post : Int32 → va_W → Prop) (mc ms : Nat) : Prop := ∀ B sz : Nat, Met l y wd rm (va_Pc av (cwZ D cl tys ws B sz sb L xs)) (va_Qi post (ctB D cl tys (va_A ws sz)) (va_A ws sz)) mc ms (va_A ws sz)
theorem cwZ_blind {av : List Value} {B sz sb L : Nat} {xs : Nat → Int32} : FrameBlind (va_Pc av (cwZ D cl tys ws B sz sb L xs)) := fun a U g mk q => ⟨q.1, (cwP_blind a U g mk ⟨q.1, q.2.1⟩).2, va_X.moved (u := U) (U := U.calling g mk a) (Vm.Alike.refl U.vm) q.2.2.1, q.2.2.2⟩
theorem jpreS {H : Heap} {av : List Value} {B sb L : Nat} {xs : Nat → Int32} {locs : List Loc} (hK : va_K D cl tys s) (hP : va_P D cl ws H) (hD : va_D A ws) (hS : va_S A s.heap H locs) (hB : B ≤ s.heap.size) (hAB : ∀ q, A q → B ≤ q) (hx : xe B s) (hA0 : ∀ q, s.heap.size ≤ q → A q) (hnc : NcA s) (hX : va_X sb L xs s s.heap) (hbl : sb < s.heap.size) (hbA : ¬ A sb) : ∀ U : State, U.heap = H → s.WarmedH U.vm → va_Pc av (cwZ D cl tys ws B H.size sb L xs) av.toArray U := fun U hU hW => ⟨(jpre (av := av) hK hP hD hS hB hAB hx U hU hW).1, ⟨(jpre (av := av) hK hP hD hS hB hAB hx U hU hW).2, NcA.moved hW.alike hnc⟩, by rw [hU]; exact (hX.kept (hS.2.1 sb hbl hbA)).moved hW.alike, Nat.lt_of_lt_of_le hbl hS.1, fun z => hbA (jA hD hS hA0 sb z)⟩
theorem j_callSS (h : jc p s m args c D cl tys A n cc own Ts) (hnc : NcA s) {sb L : Nat} {xs : Nat → Int32} (hX : va_X sb L xs s s.heap) (hbl : sb < s.heap.size) (hbA : ¬ A sb) {index maxL mc ms nn : Nat} {y : MethodName} {bytes : ByteArray} {ret : Option FieldType} {wd : List Cond} {rm : Room} {As rest : List Value} {post : Int32 → va_W → Prop} (hd : decode cc pc = .ok (.invokestatic index, 3)) (hM : ctS l D cl tys y wd rm As ws sb L xs post mc ms) (cw : CallB R s args own index y bytes maxL ret wd rm mc ms nn ∧ (Cond.static y).before args s = true) (hn : As.length = nn) (hst : st = As.reverse ++ rest) (hcat : (rest.map fun v => v.category).sum ≤ 8) (hf : k + mc ≤ R.cells ∧ w + ms ≤ R.slots)
    (kk : ∀ (r : Int32) (u : va_W), post r u → jj p l e R s m args below meth c Q D cl tys A n u (k + mc) (w + ms) (pc + 3) lv (.int r :: rest)) : jj p l e R s m args below meth c Q D cl tys A n ws k w pc lv st := by
  intro H locs ls hP hD hS hl
  have hA := jA hD hS h.2.2.2.2.2.2.1
  obtain ⟨B, hB0, hAB, hxe⟩ := h.2.2.2.2.2.2.2
  refine va_calli (va_runS (As := As) (rest := rest) ⟨h.1, h.2.1, h.2.2.1, h.2.2.2.1, h.2.2.2.2.1⟩ (hM B H.size) cw ⟨cwZ_blind, jpreS (av := As) h.2.2.2.2.2.1 hP hD hS hB0 hAB hxe h.2.2.2.2.2.2.1 hnc hX hbl hbA⟩ rfl hn hl.1 hst (lv_room hcat) hd hf) hS (fun q _ z => hA q z) hA (fun r u t H1 locs1 ht hvm hw hB hz1 hk1 hS1 => ?_)
  obtain ⟨hP1, hK1, hD1⟩ := hB
  rw [ht] at hP1
  exact kk r u hw H1 locs1 ls hP1 (hD1.weaken (fun _ q _ z => hA q.1 z)) hS1 hl
theorem j_callSW (h : jc p s m args c D cl tys A n cc own Ts) (hnc : NcA s) {sb L : Nat} {xs : Nat → Int32} (hX : va_X sb L xs s s.heap) (hbl : sb < s.heap.size) (hbA : ¬ A sb) {index maxL mc ms nn : Nat} {y : MethodName} {bytes : ByteArray} {ret : Option FieldType} {hh : List (Nat × Nat × Nat × Nat)} {wd : List Cond} {rm : Room} {As rest : List Value} {post : Int32 → va_W → Prop} (hd : decode cc pc = .ok (.invokestatic index, 3)) (hM : ctS l D cl tys y wd rm As ws sb L xs post mc ms) (cw : vx_CSW R s args own index y bytes maxL ret hh wd rm mc ms nn) (hn : As.length = nn) (hst : st = As.reverse ++ rest) (hcat : (rest.map fun v => v.category).sum ≤ 8) (hf : k + mc ≤ R.cells ∧ w + ms ≤ R.slots)
    (kk : ∀ (r : Int32) (u : va_W), post r u → jj p l e R s m args below meth c Q D cl tys A n u (k + mc) (w + ms) (pc + 3) lv (.int r :: rest)) : jj p l e R s m args below meth c Q D cl tys A n ws k w pc lv st := by
  intro H locs ls hP hD hS hl
  have hA := jA hD hS h.2.2.2.2.2.2.1
  obtain ⟨B, hB0, hAB, hxe⟩ := h.2.2.2.2.2.2.2
  refine va_calli (vx_runSW (As := As) (rest := rest) ⟨h.1, h.2.1, h.2.2.1, h.2.2.2.1, h.2.2.2.2.1⟩ (hM B H.size) cw ⟨cwZ_blind, jpreS (av := As) h.2.2.2.2.2.1 hP hD hS hB0 hAB hxe h.2.2.2.2.2.2.1 hnc hX hbl hbA⟩ rfl hn hl.1 hst (lv_room hcat) hd hf) hS (fun q _ z => hA q z) hA (fun r u t H1 locs1 ht hvm hw hB hz1 hk1 hS1 => ?_)
  obtain ⟨hP1, hK1, hD1⟩ := hB
  rw [ht] at hP1
  exact kk r u hw H1 locs1 ls hP1 (hD1.weaken (fun _ q _ z => hA q.1 z)) hS1 hl
theorem j_sldS (h : jc p s m args c D cl tys A n cc own Ts) {b L : Nat} {xs : Nat → Int32} (hX : va_X b L xs s s.heap) (hbl : b < s.heap.size) (hbA : ¬ A b) (hL : L < 2 ^ 31) {i : Int32} {a : Nat} (hia : i = nI a) (ha : a < L) (hd : decode cc pc = .ok (.iaload, 1)) (kk : jj p l e R s m args below meth c Q D cl tys A n ws k w (pc + 1) lv (.int (xs a) :: st)) : jj p l e R s m args below meth c Q D cl tys A n ws k w pc lv (.int i :: .ref b :: st) := by
  subst hia
  intro H locs ls hP hD hS hl
  refine va_sld h.1 h.2.1 hX hbl hbA hS (vp_in_nI ha hL) hd ?_
  rw [nI_clamp (by omega)]
  exact kk H locs ls hP hD hS hl
theorem j_slen (h : jc p s m args c D cl tys A n cc own Ts) {b L : Nat} {xs : Nat → Int32} (hX : va_X b L xs s s.heap) (hbl : b < s.heap.size) (hbA : ¬ A b) (hd : decode cc pc = .ok (.arraylength, 1)) (kk : jj p l e R s m args below meth c Q D cl tys A n ws k w (pc + 1) lv (.int (nI L) :: st)) : jj p l e R s m args below meth c Q D cl tys A n ws k w pc lv (.ref b :: st) := by
  intro H locs ls hP hD hS hl
  exact va_slen h.1 h.2.1 hX hbl hbA hS hd (kk H locs ls hP hD hS hl)
theorem ctN_of {y : MethodName} {wd ws' : List Cond} {rm : Room} {av : List Value} {ws0 : va_W} {post : Int32 → va_W → Prop} {mc ms maxL : Nat} {ret : Option FieldType} {cc : ByteArray} {own : String} (hy : plainName y.cls = true) (ho : y.cls = own) (hw : wd = Cond.code y cc maxL ret :: ws') (hln : (lg_sl av).length ≤ maxL) (hcat : ∀ v ∈ av, v.category = 1) (lv0 : List (Nat × Value)) (hlv : lv_args 0 av = lv0)
    (body : ∀ (p : Program) (e : Env) (s : State) (m : MethodId) (args : Array Value) (below : List Frame) (meth : Method) (c : Code) (sz : Nat), jc p s m args c D cl tys (va_A ws0 sz) maxL cc own wd → meth.sig.returnType = ret → meth.locks = false → NcA s → jj p l e (headSpec wd rm).room s m args below meth c (MQ below (va_Qi post (ctB D cl tys (va_A ws0 sz)) (va_A ws0 sz)) args s mc ms (va_A ws0 sz)) D cl tys (va_A ws0 sz) maxL ws0 0 0 0 lv0 []) : ctL l D cl tys y wd rm av ws0 post mc ms := by
  subst hlv
  subst ho
  intro B0 sz
  refine Met.ofW (cc := cc) (maxL := maxL) (ret := ret) hy hw ?_
  intro p e s m args below meth c s₁ B hml hv
  obtain ⟨rfl, ⟨hsz, hP, hK, hD0, hBs, hxe⟩, hnc⟩ := hv
  subst hsz
  have hl := lv_entry av hln
  rw [lg_entry_eq]
  refine body p e s m av.toArray below meth c s.heap.size ⟨B.exec, B.bytes, hml, findClass_of_methodNamed B.named, atoms_spec (ws := wd) B.pre, hK, fun q hq => Or.inr hq, B0, hBs, fun q z => z.elim (fun ⟨k, e, h⟩ => hD0.2 k (q, e) h) (fun z => Nat.le_trans hBs z), hxe⟩ B.returns B.notSynchronized hnc s.heap [] _ hP hD0.self va_S.rf (lk_of hl ?_)
  intro q hq
  exact hcat _ (lv_args_in hq)
theorem ctS_of {y : MethodName} {wd ws' : List Cond} {rm : Room} {av : List Value} {ws0 : va_W} {sb L : Nat} {xs : Nat → Int32} {post : Int32 → va_W → Prop} {mc ms maxL : Nat} {ret : Option FieldType} {cc : ByteArray} {own : String} (hy : plainName y.cls = true) (ho : y.cls = own) (hw : wd = Cond.code y cc maxL ret :: ws') (hln : (lg_sl av).length ≤ maxL) (hcat : ∀ v ∈ av, v.category = 1) (lv0 : List (Nat × Value)) (hlv : lv_args 0 av = lv0)
    (body : ∀ (p : Program) (e : Env) (s : State) (m : MethodId) (args : Array Value) (below : List Frame) (meth : Method) (c : Code) (sz : Nat), jc p s m args c D cl tys (va_A ws0 sz) maxL cc own wd → meth.sig.returnType = ret → meth.locks = false → NcA s → va_X sb L xs s s.heap → sb < s.heap.size → ¬ va_A ws0 sz sb → jj p l e (headSpec wd rm).room s m args below meth c (MQ below (va_Qi post (ctB D cl tys (va_A ws0 sz)) (va_A ws0 sz)) args s mc ms (va_A ws0 sz)) D cl tys (va_A ws0 sz) maxL ws0 0 0 0 lv0 []) : ctS l D cl tys y wd rm av ws0 sb L xs post mc ms := by
  subst hlv
  subst ho
  intro B0 sz
  refine Met.ofW (cc := cc) (maxL := maxL) (ret := ret) hy hw ?_
  intro p e s m args below meth c s₁ B hml hv
  obtain ⟨rfl, ⟨⟨hsz, hP, hK, hD0, hBs, hxe⟩, hnc⟩, hX, hbl, hbA⟩ := hv
  subst hsz
  have hl := lv_entry av hln
  rw [lg_entry_eq]
  refine body p e s m av.toArray below meth c s.heap.size ⟨B.exec, B.bytes, hml, findClass_of_methodNamed B.named, atoms_spec (ws := wd) B.pre, hK, fun q hq => Or.inr hq, B0, hBs, fun q z => z.elim (fun ⟨k, e, h⟩ => hD0.2 k (q, e) h) (fun z => Nat.le_trans hBs z), hxe⟩ B.returns B.notSynchronized hnc hX hbl hbA s.heap [] _ hP hD0.self va_S.rf (lk_of hl ?_)
  intro q hq
  exact hcat _ (lv_args_in hq)
theorem ctSW_of {y : MethodName} {wd ws' : List Cond} {rm : Room} {av : List Value} {ws0 : va_W} {sb L : Nat} {xs : Nat → Int32} {post : Int32 → va_W → Prop} {mc ms maxL : Nat} {ret : Option FieldType} {cc : ByteArray} {own : String} {hh : List (Nat × Nat × Nat × Nat)} (hy : plainName y.cls = true) (ho : y.cls = own) (hw : wd = Cond.codeWith y cc maxL ret hh :: ws') (hln : (lg_sl av).length ≤ maxL) (hcat : ∀ v ∈ av, v.category = 1) (lv0 : List (Nat × Value)) (hlv : lv_args 0 av = lv0)
    (body : ∀ (p : Program) (e : Env) (s : State) (m : MethodId) (args : Array Value) (below : List Frame) (meth : Method) (c : Code) (sz : Nat), jc p s m args c D cl tys (va_A ws0 sz) maxL cc own wd → meth.sig.returnType = ret → meth.locks = false → c.exceptionTable.toList = tableOf hh → NcA s → va_X sb L xs s s.heap → sb < s.heap.size → ¬ va_A ws0 sz sb → jj p l e (headSpec wd rm).room s m args below meth c (MQ below (va_Qi post (ctB D cl tys (va_A ws0 sz)) (va_A ws0 sz)) args s mc ms (va_A ws0 sz)) D cl tys (va_A ws0 sz) maxL ws0 0 0 0 lv0 []) : ctS l D cl tys y wd rm av ws0 sb L xs post mc ms := by
  subst hlv
  subst ho
  intro B0 sz
  refine va_MetW (cc := cc) (maxL := maxL) (ret := ret) hy hw ?_
  intro p e s m args below meth c s₁ B hml hv
  obtain ⟨rfl, ⟨⟨hsz, hP, hK, hD0, hBs, hxe⟩, hnc⟩, hX, hbl, hbA⟩ := hv
  subst hsz
  have hl := lv_entry av hln
  rw [lg_entry_eq]
  refine body p e s m av.toArray below meth c s.heap.size ⟨B.exec, B.bytes, hml, findClass_of_methodNamed B.named, atoms_spec (ws := wd) B.pre, hK, fun q hq => Or.inr hq, B0, hBs, fun q z => z.elim (fun ⟨k, e, h⟩ => hD0.2 k (q, e) h) (fun z => Nat.le_trans hBs z), hxe⟩ B.returns B.notSynchronized (vx_table (x := y) B (atoms_spec (ws := wd) B.pre _ (by rw [hw]; exact List.mem_cons_self))) hnc hX hbl hbA s.heap [] _ hP hD0.self va_S.rf (lk_of hl ?_)
  intro q hq
  exact hcat _ (lv_args_in hq)
end JW
section JR
variable {p : Program} {l : Launch} {e : Env} {R : Room} {s : State} {m : MethodId} {args : Array Value} {below : List Frame} {meth : Method} {c : Code} {Q : State → Prop} {D : va_G} {cI cL cR : ClassId} {A : Nat → Prop} {n : Nat} {cc : ByteArray} {own : String} {Ts : List Cond} {wr : va_W} {k w pc : Nat} {lv : List (Nat × Value)} {st : List Value} {aJ : Nat → Nat} {ψ : St}
theorem jl_ald {i : Int32} (b j : Nat) (h : jc p s m args c D vwCl (tyW cI cL cR) A n cc own Ts) (hd : decode cc pc = .ok (.iaload, 1)) (hi : i = nI (8 * b + j)) (hj : j < 7) (hb : b < 8) (kk : jj p l e R s m args below meth c Q D vwCl (tyW cI cL cR) A n (wJ cI aJ ψ ++ wr) k w (pc + 1) lv (.int (ψ j b) :: st)) : jj p l e R s m args below meth c Q D vwCl (tyW cI cL cR) A n (wJ cI aJ ψ ++ wr) k w pc lv (.int i :: .ref (aJ 0) :: st) := by
  subst hi
  refine j_iald h 0 0 hd rfl rfl (vp_in_nI (by omega) (by decide)) ?_
  rw [nI_clamp (by omega), xL_at _ hj]
  exact kk
theorem jl_ast {i v : Int32} (b j : Nat) (h : jc p s m args c D vwCl (tyW cI cL cR) A n cc own Ts) (hd : decode cc pc = .ok (.iastore, 1)) (hi : i = nI (8 * b + j)) (hj : j < 7) (hb : b < 8) (kk : jj p l e R s m args below meth c Q D vwCl (tyW cI cL cR) A n (wJ cI aJ (up2 ψ j b v) ++ wr) k w (pc + 1) lv st) : jj p l e R s m args below meth c Q D vwCl (tyW cI cL cR) A n (wJ cI aJ ψ ++ wr) k w pc lv (.int v :: .int i :: .ref (aJ 0) :: st) := by
  subst hi
  refine j_iast h 0 0 hd rfl rfl (vp_in_nI (by omega) (by decide)) ?_
  rw [nI_clamp (by omega)]
  exact jj_ws (wJ_l cI aJ ψ wr v hj) kk
theorem jf_ald {i : Int32} (b j : Nat) (h : jc p s m args c D vwCl (tyW cI cL cR) A n cc own Ts) (hd : decode cc pc = .ok (.iaload, 1)) (hi : i = nI (4 * b + j)) (hj : j < 4) (hb : b < 5) (kk : jj p l e R s m args below meth c Q D vwCl (tyW cI cL cR) A n (wJ cI aJ ψ ++ wr) k w (pc + 1) lv (.int (ψ (8 + j) b) :: st)) : jj p l e R s m args below meth c Q D vwCl (tyW cI cL cR) A n (wJ cI aJ ψ ++ wr) k w pc lv (.int i :: .ref (aJ 1) :: st) := by
  subst hi
  refine j_iald h 1 0 hd rfl rfl (vp_in_nI (by omega) (by decide)) ?_
  rw [nI_clamp (by omega), xF_at _ hj]
  exact kk
theorem jf_ast {i v : Int32} (b j : Nat) (h : jc p s m args c D vwCl (tyW cI cL cR) A n cc own Ts) (hd : decode cc pc = .ok (.iastore, 1)) (hi : i = nI (4 * b + j)) (hj : j < 4) (hb : b < 5) (kk : jj p l e R s m args below meth c Q D vwCl (tyW cI cL cR) A n (wJ cI aJ (up2 ψ (8 + j) b v) ++ wr) k w (pc + 1) lv st) : jj p l e R s m args below meth c Q D vwCl (tyW cI cL cR) A n (wJ cI aJ ψ ++ wr) k w pc lv (.int v :: .int i :: .ref (aJ 1) :: st) := by
  subst hi
  refine j_iast h 1 0 hd rfl rfl (vp_in_nI (by omega) (by decide)) ?_
  rw [nI_clamp (by omega)]
  exact jj_ws (wJ_f cI aJ ψ wr v hj) kk
theorem jr_ald {i : Int32} (b : Nat) (h : jc p s m args c D vwCl (tyW cI cL cR) A n cc own Ts) (hd : decode cc pc = .ok (.iaload, 1)) (hi : i = nI (b)) (hb : b < 5) (kk : jj p l e R s m args below meth c Q D vwCl (tyW cI cL cR) A n (wJ cI aJ ψ ++ wr) k w (pc + 1) lv (.int (ψ 12 b) :: st)) : jj p l e R s m args below meth c Q D vwCl (tyW cI cL cR) A n (wJ cI aJ ψ ++ wr) k w pc lv (.int i :: .ref (aJ 2) :: st) := by
  subst hi
  refine j_iald h 2 0 hd rfl rfl (vp_in_nI (by omega) (by decide)) ?_
  rw [nI_clamp (by omega)]
  exact kk
theorem jr_ast {i v : Int32} (b : Nat) (h : jc p s m args c D vwCl (tyW cI cL cR) A n cc own Ts) (hd : decode cc pc = .ok (.iastore, 1)) (hi : i = nI (b)) (hb : b < 5) (kk : jj p l e R s m args below meth c Q D vwCl (tyW cI cL cR) A n (wJ cI aJ (up2 ψ 12 b v) ++ wr) k w (pc + 1) lv st) : jj p l e R s m args below meth c Q D vwCl (tyW cI cL cR) A n (wJ cI aJ ψ ++ wr) k w pc lv (.int v :: .int i :: .ref (aJ 2) :: st) := by
  subst hi
  refine j_iast h 2 0 hd rfl rfl (vp_in_nI (by omega) (by decide)) ?_
  rw [nI_clamp (by omega)]
  exact jj_ws (wJ_r cI aJ ψ wr b v) kk
theorem jg_ald {i : Int32} (b : Nat) (h : jc p s m args c D vwCl (tyW cI cL cR) A n cc own Ts) (hd : decode cc pc = .ok (.iaload, 1)) (hi : i = nI (b)) (hb : b < 64) (kk : jj p l e R s m args below meth c Q D vwCl (tyW cI cL cR) A n (wJ cI aJ ψ ++ wr) k w (pc + 1) lv (.int (ψ 17 b) :: st)) : jj p l e R s m args below meth c Q D vwCl (tyW cI cL cR) A n (wJ cI aJ ψ ++ wr) k w pc lv (.int i :: .ref (aJ 3) :: st) := by
  subst hi
  refine j_iald h 3 0 hd rfl rfl (vp_in_nI (by omega) (by decide)) ?_
  rw [nI_clamp (by omega)]
  exact kk
theorem jg_ast {i v : Int32} (b : Nat) (h : jc p s m args c D vwCl (tyW cI cL cR) A n cc own Ts) (hd : decode cc pc = .ok (.iastore, 1)) (hi : i = nI (b)) (hb : b < 64) (kk : jj p l e R s m args below meth c Q D vwCl (tyW cI cL cR) A n (wJ cI aJ (up2 ψ 17 b v) ++ wr) k w (pc + 1) lv st) : jj p l e R s m args below meth c Q D vwCl (tyW cI cL cR) A n (wJ cI aJ ψ ++ wr) k w pc lv (.int v :: .int i :: .ref (aJ 3) :: st) := by
  subst hi
  refine j_iast h 3 0 hd rfl rfl (vp_in_nI (by omega) (by decide)) ?_
  rw [nI_clamp (by omega)]
  exact jj_ws (wJ_g cI aJ ψ wr b v) kk
theorem jf_ald0 {i : Int32} (b : Nat) (h : jc p s m args c D vwCl (tyW cI cL cR) A n cc own Ts) (hd : decode cc pc = .ok (.iaload, 1)) (hi : i = nI (4 * b + 0)) (hb : b < 5) (kk : jj p l e R s m args below meth c Q D vwCl (tyW cI cL cR) A n (wJ cI aJ ψ ++ wr) k w (pc + 1) lv (.int (ψ 8 b) :: st)) : jj p l e R s m args below meth c Q D vwCl (tyW cI cL cR) A n (wJ cI aJ ψ ++ wr) k w pc lv (.int i :: .ref (aJ 1) :: st) := jf_ald b 0 h hd hi (by decide) hb kk
theorem jf_ast0 {i v : Int32} (b : Nat) (h : jc p s m args c D vwCl (tyW cI cL cR) A n cc own Ts) (hd : decode cc pc = .ok (.iastore, 1)) (hi : i = nI (4 * b + 0)) (hb : b < 5) (kk : jj p l e R s m args below meth c Q D vwCl (tyW cI cL cR) A n (wJ cI aJ (up2 ψ 8 b v) ++ wr) k w (pc + 1) lv st) : jj p l e R s m args below meth c Q D vwCl (tyW cI cL cR) A n (wJ cI aJ ψ ++ wr) k w pc lv (.int v :: .int i :: .ref (aJ 1) :: st) := jf_ast b 0 h hd hi (by decide) hb kk
theorem jf_ald1 {i : Int32} (b : Nat) (h : jc p s m args c D vwCl (tyW cI cL cR) A n cc own Ts) (hd : decode cc pc = .ok (.iaload, 1)) (hi : i = nI (4 * b + 1)) (hb : b < 5) (kk : jj p l e R s m args below meth c Q D vwCl (tyW cI cL cR) A n (wJ cI aJ ψ ++ wr) k w (pc + 1) lv (.int (ψ 9 b) :: st)) : jj p l e R s m args below meth c Q D vwCl (tyW cI cL cR) A n (wJ cI aJ ψ ++ wr) k w pc lv (.int i :: .ref (aJ 1) :: st) := jf_ald b 1 h hd hi (by decide) hb kk
theorem jf_ast1 {i v : Int32} (b : Nat) (h : jc p s m args c D vwCl (tyW cI cL cR) A n cc own Ts) (hd : decode cc pc = .ok (.iastore, 1)) (hi : i = nI (4 * b + 1)) (hb : b < 5) (kk : jj p l e R s m args below meth c Q D vwCl (tyW cI cL cR) A n (wJ cI aJ (up2 ψ 9 b v) ++ wr) k w (pc + 1) lv st) : jj p l e R s m args below meth c Q D vwCl (tyW cI cL cR) A n (wJ cI aJ ψ ++ wr) k w pc lv (.int v :: .int i :: .ref (aJ 1) :: st) := jf_ast b 1 h hd hi (by decide) hb kk
theorem jf_ald2 {i : Int32} (b : Nat) (h : jc p s m args c D vwCl (tyW cI cL cR) A n cc own Ts) (hd : decode cc pc = .ok (.iaload, 1)) (hi : i = nI (4 * b + 2)) (hb : b < 5) (kk : jj p l e R s m args below meth c Q D vwCl (tyW cI cL cR) A n (wJ cI aJ ψ ++ wr) k w (pc + 1) lv (.int (ψ 10 b) :: st)) : jj p l e R s m args below meth c Q D vwCl (tyW cI cL cR) A n (wJ cI aJ ψ ++ wr) k w pc lv (.int i :: .ref (aJ 1) :: st) := jf_ald b 2 h hd hi (by decide) hb kk
theorem jf_ast2 {i v : Int32} (b : Nat) (h : jc p s m args c D vwCl (tyW cI cL cR) A n cc own Ts) (hd : decode cc pc = .ok (.iastore, 1)) (hi : i = nI (4 * b + 2)) (hb : b < 5) (kk : jj p l e R s m args below meth c Q D vwCl (tyW cI cL cR) A n (wJ cI aJ (up2 ψ 10 b v) ++ wr) k w (pc + 1) lv st) : jj p l e R s m args below meth c Q D vwCl (tyW cI cL cR) A n (wJ cI aJ ψ ++ wr) k w pc lv (.int v :: .int i :: .ref (aJ 1) :: st) := jf_ast b 2 h hd hi (by decide) hb kk
theorem jf_ald3 {i : Int32} (b : Nat) (h : jc p s m args c D vwCl (tyW cI cL cR) A n cc own Ts) (hd : decode cc pc = .ok (.iaload, 1)) (hi : i = nI (4 * b + 3)) (hb : b < 5) (kk : jj p l e R s m args below meth c Q D vwCl (tyW cI cL cR) A n (wJ cI aJ ψ ++ wr) k w (pc + 1) lv (.int (ψ 11 b) :: st)) : jj p l e R s m args below meth c Q D vwCl (tyW cI cL cR) A n (wJ cI aJ ψ ++ wr) k w pc lv (.int i :: .ref (aJ 1) :: st) := jf_ald b 3 h hd hi (by decide) hb kk
theorem jf_ast3 {i v : Int32} (b : Nat) (h : jc p s m args c D vwCl (tyW cI cL cR) A n cc own Ts) (hd : decode cc pc = .ok (.iastore, 1)) (hi : i = nI (4 * b + 3)) (hb : b < 5) (kk : jj p l e R s m args below meth c Q D vwCl (tyW cI cL cR) A n (wJ cI aJ (up2 ψ 11 b v) ++ wr) k w (pc + 1) lv st) : jj p l e R s m args below meth c Q D vwCl (tyW cI cL cR) A n (wJ cI aJ ψ ++ wr) k w pc lv (.int v :: .int i :: .ref (aJ 1) :: st) := jf_ast b 3 h hd hi (by decide) hb kk
theorem jm_ald0 (h : jc p s m args c D vwCl (tyW cI cL cR) A n cc own Ts) (hd : decode cc pc = .ok (.iaload, 1)) (kk : jj p l e R s m args below meth c Q D vwCl (tyW cI cL cR) A n (wJ cI aJ ψ ++ wr) k w (pc + 1) lv (.int (ψ 7 0) :: st)) : jj p l e R s m args below meth c Q D vwCl (tyW cI cL cR) A n (wJ cI aJ ψ ++ wr) k w pc lv (.int 0 :: .ref (aJ 4) :: st) := by
  refine j_iald h 4 0 hd rfl rfl (vp_in_nI (n := 0) (N := 8) (by decide) (by decide)) ?_
  exact kk
theorem jm_ast0 {v : Int32} (h : jc p s m args c D vwCl (tyW cI cL cR) A n cc own Ts) (hd : decode cc pc = .ok (.iastore, 1)) (kk : jj p l e R s m args below meth c Q D vwCl (tyW cI cL cR) A n (wJ cI aJ (up2 ψ 7 0 v) ++ wr) k w (pc + 1) lv st) : jj p l e R s m args below meth c Q D vwCl (tyW cI cL cR) A n (wJ cI aJ ψ ++ wr) k w pc lv (.int v :: .int 0 :: .ref (aJ 4) :: st) := by
  refine j_iast h 4 0 hd rfl rfl (vp_in_nI (n := 0) (N := 8) (by decide) (by decide)) ?_
  exact jj_ws (wJ_m0 cI aJ ψ wr v) kk
theorem jm_ald1 (h : jc p s m args c D vwCl (tyW cI cL cR) A n cc own Ts) (hd : decode cc pc = .ok (.iaload, 1)) (kk : jj p l e R s m args below meth c Q D vwCl (tyW cI cL cR) A n (wJ cI aJ ψ ++ wr) k w (pc + 1) lv (.int (ψ 14 0) :: st)) : jj p l e R s m args below meth c Q D vwCl (tyW cI cL cR) A n (wJ cI aJ ψ ++ wr) k w pc lv (.int 1 :: .ref (aJ 4) :: st) := by
  refine j_iald h 4 0 hd rfl rfl (vp_in_nI (n := 1) (N := 8) (by decide) (by decide)) ?_
  exact kk
theorem jm_ast1 {v : Int32} (h : jc p s m args c D vwCl (tyW cI cL cR) A n cc own Ts) (hd : decode cc pc = .ok (.iastore, 1)) (kk : jj p l e R s m args below meth c Q D vwCl (tyW cI cL cR) A n (wJ cI aJ (up2 ψ 14 0 v) ++ wr) k w (pc + 1) lv st) : jj p l e R s m args below meth c Q D vwCl (tyW cI cL cR) A n (wJ cI aJ ψ ++ wr) k w pc lv (.int v :: .int 1 :: .ref (aJ 4) :: st) := by
  refine j_iast h 4 0 hd rfl rfl (vp_in_nI (n := 1) (N := 8) (by decide) (by decide)) ?_
  exact jj_ws (wJ_m1 cI aJ ψ wr v) kk
theorem jm_ald2 (h : jc p s m args c D vwCl (tyW cI cL cR) A n cc own Ts) (hd : decode cc pc = .ok (.iaload, 1)) (kk : jj p l e R s m args below meth c Q D vwCl (tyW cI cL cR) A n (wJ cI aJ ψ ++ wr) k w (pc + 1) lv (.int (ψ 13 0) :: st)) : jj p l e R s m args below meth c Q D vwCl (tyW cI cL cR) A n (wJ cI aJ ψ ++ wr) k w pc lv (.int 2 :: .ref (aJ 4) :: st) := by
  refine j_iald h 4 0 hd rfl rfl (vp_in_nI (n := 2) (N := 8) (by decide) (by decide)) ?_
  exact kk
theorem jm_ast2 {v : Int32} (h : jc p s m args c D vwCl (tyW cI cL cR) A n cc own Ts) (hd : decode cc pc = .ok (.iastore, 1)) (kk : jj p l e R s m args below meth c Q D vwCl (tyW cI cL cR) A n (wJ cI aJ (up2 ψ 13 0 v) ++ wr) k w (pc + 1) lv st) : jj p l e R s m args below meth c Q D vwCl (tyW cI cL cR) A n (wJ cI aJ ψ ++ wr) k w pc lv (.int v :: .int 2 :: .ref (aJ 4) :: st) := by
  refine j_iast h 4 0 hd rfl rfl (vp_in_nI (n := 2) (N := 8) (by decide) (by decide)) ?_
  exact jj_ws (wJ_m2 cI aJ ψ wr v) kk
theorem jm_ald3 (h : jc p s m args c D vwCl (tyW cI cL cR) A n cc own Ts) (hd : decode cc pc = .ok (.iaload, 1)) (kk : jj p l e R s m args below meth c Q D vwCl (tyW cI cL cR) A n (wJ cI aJ ψ ++ wr) k w (pc + 1) lv (.int (ψ 15 0) :: st)) : jj p l e R s m args below meth c Q D vwCl (tyW cI cL cR) A n (wJ cI aJ ψ ++ wr) k w pc lv (.int 3 :: .ref (aJ 4) :: st) := by
  refine j_iald h 4 0 hd rfl rfl (vp_in_nI (n := 3) (N := 8) (by decide) (by decide)) ?_
  exact kk
theorem jm_ast3 {v : Int32} (h : jc p s m args c D vwCl (tyW cI cL cR) A n cc own Ts) (hd : decode cc pc = .ok (.iastore, 1)) (kk : jj p l e R s m args below meth c Q D vwCl (tyW cI cL cR) A n (wJ cI aJ (up2 ψ 15 0 v) ++ wr) k w (pc + 1) lv st) : jj p l e R s m args below meth c Q D vwCl (tyW cI cL cR) A n (wJ cI aJ ψ ++ wr) k w pc lv (.int v :: .int 3 :: .ref (aJ 4) :: st) := by
  refine j_iast h 4 0 hd rfl rfl (vp_in_nI (n := 3) (N := 8) (by decide) (by decide)) ?_
  exact jj_ws (wJ_m3 cI aJ ψ wr v) kk
theorem jm_ald4 (h : jc p s m args c D vwCl (tyW cI cL cR) A n cc own Ts) (hd : decode cc pc = .ok (.iaload, 1)) (kk : jj p l e R s m args below meth c Q D vwCl (tyW cI cL cR) A n (wJ cI aJ ψ ++ wr) k w (pc + 1) lv (.int (ψ 16 0) :: st)) : jj p l e R s m args below meth c Q D vwCl (tyW cI cL cR) A n (wJ cI aJ ψ ++ wr) k w pc lv (.int 4 :: .ref (aJ 4) :: st) := by
  refine j_iald h 4 0 hd rfl rfl (vp_in_nI (n := 4) (N := 8) (by decide) (by decide)) ?_
  exact kk
theorem jm_ast4 {v : Int32} (h : jc p s m args c D vwCl (tyW cI cL cR) A n cc own Ts) (hd : decode cc pc = .ok (.iastore, 1)) (kk : jj p l e R s m args below meth c Q D vwCl (tyW cI cL cR) A n (wJ cI aJ (up2 ψ 16 0 v) ++ wr) k w (pc + 1) lv st) : jj p l e R s m args below meth c Q D vwCl (tyW cI cL cR) A n (wJ cI aJ ψ ++ wr) k w pc lv (.int v :: .int 4 :: .ref (aJ 4) :: st) := by
  refine j_iast h 4 0 hd rfl rfl (vp_in_nI (n := 4) (N := 8) (by decide) (by decide)) ?_
  exact jj_ws (wJ_m4 cI aJ ψ wr v) kk
theorem jm_ald5 (h : jc p s m args c D vwCl (tyW cI cL cR) A n cc own Ts) (hd : decode cc pc = .ok (.iaload, 1)) (kk : jj p l e R s m args below meth c Q D vwCl (tyW cI cL cR) A n (wJ cI aJ ψ ++ wr) k w (pc + 1) lv (.int (ψ 18 0) :: st)) : jj p l e R s m args below meth c Q D vwCl (tyW cI cL cR) A n (wJ cI aJ ψ ++ wr) k w pc lv (.int 5 :: .ref (aJ 4) :: st) := by
  refine j_iald h 4 0 hd rfl rfl (vp_in_nI (n := 5) (N := 8) (by decide) (by decide)) ?_
  exact kk
theorem jm_ast5 {v : Int32} (h : jc p s m args c D vwCl (tyW cI cL cR) A n cc own Ts) (hd : decode cc pc = .ok (.iastore, 1)) (kk : jj p l e R s m args below meth c Q D vwCl (tyW cI cL cR) A n (wJ cI aJ (up2 ψ 18 0 v) ++ wr) k w (pc + 1) lv st) : jj p l e R s m args below meth c Q D vwCl (tyW cI cL cR) A n (wJ cI aJ ψ ++ wr) k w pc lv (.int v :: .int 5 :: .ref (aJ 4) :: st) := by
  refine j_iast h 4 0 hd rfl rfl (vp_in_nI (n := 5) (N := 8) (by decide) (by decide)) ?_
  exact jj_ws (wJ_m5 cI aJ ψ wr v) kk
theorem jm_ald6 (h : jc p s m args c D vwCl (tyW cI cL cR) A n cc own Ts) (hd : decode cc pc = .ok (.iaload, 1)) (kk : jj p l e R s m args below meth c Q D vwCl (tyW cI cL cR) A n (wJ cI aJ ψ ++ wr) k w (pc + 1) lv (.int (ψ 19 0) :: st)) : jj p l e R s m args below meth c Q D vwCl (tyW cI cL cR) A n (wJ cI aJ ψ ++ wr) k w pc lv (.int 6 :: .ref (aJ 4) :: st) := by
  refine j_iald h 4 0 hd rfl rfl (vp_in_nI (n := 6) (N := 8) (by decide) (by decide)) ?_
  exact kk
theorem jm_ast6 {v : Int32} (h : jc p s m args c D vwCl (tyW cI cL cR) A n cc own Ts) (hd : decode cc pc = .ok (.iastore, 1)) (kk : jj p l e R s m args below meth c Q D vwCl (tyW cI cL cR) A n (wJ cI aJ (up2 ψ 19 0 v) ++ wr) k w (pc + 1) lv st) : jj p l e R s m args below meth c Q D vwCl (tyW cI cL cR) A n (wJ cI aJ ψ ++ wr) k w pc lv (.int v :: .int 6 :: .ref (aJ 4) :: st) := by
  refine j_iast h 4 0 hd rfl rfl (vp_in_nI (n := 6) (N := 8) (by decide) (by decide)) ?_
  exact jj_ws (wJ_m6 cI aJ ψ wr v) kk
theorem jm_ald7 (h : jc p s m args c D vwCl (tyW cI cL cR) A n cc own Ts) (hd : decode cc pc = .ok (.iaload, 1)) (kk : jj p l e R s m args below meth c Q D vwCl (tyW cI cL cR) A n (wJ cI aJ ψ ++ wr) k w (pc + 1) lv (.int (ψ 20 0) :: st)) : jj p l e R s m args below meth c Q D vwCl (tyW cI cL cR) A n (wJ cI aJ ψ ++ wr) k w pc lv (.int 7 :: .ref (aJ 4) :: st) := by
  refine j_iald h 4 0 hd rfl rfl (vp_in_nI (n := 7) (N := 8) (by decide) (by decide)) ?_
  exact kk
theorem jm_ast7 {v : Int32} (h : jc p s m args c D vwCl (tyW cI cL cR) A n cc own Ts) (hd : decode cc pc = .ok (.iastore, 1)) (kk : jj p l e R s m args below meth c Q D vwCl (tyW cI cL cR) A n (wJ cI aJ (up2 ψ 20 0 v) ++ wr) k w (pc + 1) lv st) : jj p l e R s m args below meth c Q D vwCl (tyW cI cL cR) A n (wJ cI aJ ψ ++ wr) k w pc lv (.int v :: .int 7 :: .ref (aJ 4) :: st) := by
  refine j_iast h 4 0 hd rfl rfl (vp_in_nI (n := 7) (N := 8) (by decide) (by decide)) ?_
  exact jj_ws (wJ_m7 cI aJ ψ wr v) kk
end JR
