section LR
variable {p : Program} {l : Launch} {e : Env} {R : Room} {s : State} {m : MethodId} {args : Array Value} {below : List Frame} {meth : Method} {c : Code} {Q : State → Prop} {D : va_G} {cl : List vw_C} {tys : List (ClassId × FieldType)} {A : Nat → Prop} {n : Nat} {cc : ByteArray} {own : String} {Ts : List Cond} {ws : va_W} {k w pc : Nat} {lv : List (Nat × Value)} {st : List Value}
theorem j_sld (h : jc p s m args c D cl tys A n cc own Ts) {b L : Nat} {xs : Nat → Int32} (hX : va_X b L xs s s.heap) (hbl : b < s.heap.size) (hbA : ¬ A b) (hL : L < 2 ^ 31) {i : Int32} {a : Nat} (hia : i = nI a) (ha : a < L) (hd : decode cc pc = .ok (.iaload, 1)) (kk : jj p l e R s m args below meth c Q D cl tys A n ws k w (pc + 1) lv (.int (xs a) :: st)) : jj p l e R s m args below meth c Q D cl tys A n ws k w pc lv (.int i :: .ref b :: st) := by
  subst hia
  intro H locs ls hP hD hS hl
  refine va_sld h.1 h.2.1 hX hbl hbA hS (vp_in_nI ha hL) hd ?_
  rw [nI_clamp (by omega)]
  exact kk H locs ls hP hD hS hl
theorem j_slen (h : jc p s m args c D cl tys A n cc own Ts) {b L : Nat} {xs : Nat → Int32} (hX : va_X b L xs s s.heap) (hbl : b < s.heap.size) (hbA : ¬ A b) (hd : decode cc pc = .ok (.arraylength, 1)) (kk : jj p l e R s m args below meth c Q D cl tys A n ws k w (pc + 1) lv (.int (nI L) :: st)) : jj p l e R s m args below meth c Q D cl tys A n ws k w pc lv (.ref b :: st) := by
  intro H locs ls hP hD hS hl
  exact va_slen h.1 h.2.1 hX hbl hbA hS hd (kk H locs ls hP hD hS hl)
theorem j_tabO (h : jc p s m args c D cl tys A n cc own Ts) {dflt lo hi : Int} {offs : Array Int} {len : Nat} {x : Int32} {tgt : Nat} (hd : decode cc pc = .ok (.tableswitch dflt lo hi offs, len)) (hx : x.toInt < lo ∨ hi < x.toInt) (ht : (pc : Int) + dflt = (tgt : Int)) (kk : jj p l e R s m args below meth c Q D cl tys A n ws k w tgt lv st) : jj p l e R s m args below meth c Q D cl tys A n ws k w pc lv (.int x :: st) := by
  intro H locs ls hP hD hS hl
  exact lv_tableOut h.1 h.2.1 hd hx ht (kk H locs ls hP hD hS hl)
theorem j_tabI (h : jc p s m args c D cl tys A n cc own Ts) {dflt lo hi : Int} {offs : Array Int} {len : Nat} {x : Int32} {off : Int} {tgt : Nat} (hd : decode cc pc = .ok (.tableswitch dflt lo hi offs, len)) (h1 : ¬ x.toInt < lo) (h2 : ¬ hi < x.toInt) (ho : offs[(x.toInt - lo).toNat]? = some off) (ht : (pc : Int) + off = (tgt : Int)) (kk : jj p l e R s m args below meth c Q D cl tys A n ws k w tgt lv st) : jj p l e R s m args below meth c Q D cl tys A n ws k w pc lv (.int x :: st) := by
  intro H locs ls hP hD hS hl
  exact lv_tableIn h.1 h.2.1 hd h1 h2 ho ht (kk H locs ls hP hD hS hl)
theorem jj_assoc {wa wb wc : va_W} (h : jj p l e R s m args below meth c Q D cl tys A n ((wa ++ wb) ++ wc) k w pc lv st) : jj p l e R s m args below meth c Q D cl tys A n (wa ++ (wb ++ wc)) k w pc lv st := jj_ws (List.append_assoc wa wb wc).symm h
end LR
theorem and31 (x : Int32) : ∃ a : Nat, a < 32 ∧ x &&& 31 = nI a := by
  have key : ∀ z : BitVec 32, ∃ a : Nat, a < 32 ∧ z &&& 31#32 = BitVec.ofNat 32 a := by
    intro z
    refine ⟨(z &&& 31#32).toNat, ?_, by simp⟩
    have h1 : (z &&& 31#32).toNat ≤ (31#32).toNat := by rw [BitVec.toNat_and]; exact Nat.and_le_right
    exact Nat.lt_succ_of_le h1
  obtain ⟨a, h1, h2⟩ := key x.toBitVec
  exact ⟨a, h1, Int32.toBitVec_inj.mp h2⟩
theorem cmp_eq (x : Int64) : lg_cmp x x = 0 := by unfold lg_cmp; simp
theorem wM_recv (cI : ClassId) (ad : Nat → Nat) (f : St) (t : Int32) : ∃ (q : Nat) (fs : List Value), (wM cI ad f t)[q]? = some (ad 0, .inr (3, fs)) := ⟨0, _, rfl⟩
