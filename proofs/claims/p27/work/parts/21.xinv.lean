/-! values of the class's loops -/
def nrI (a b : Int32) : Int32 := if a = -1 ∨ b = -1 then (if a < b then b else a) else (if b < a then b else a)
def wtS (f : St) (r : Nat) : Nat → Int32
  | 0 => 0
  | s + 1 => wtS f r s + (if f (30 + r) s = -1 then 0 else wt f (f (30 + r) s).toNatClampNeg)
def frF (f : St) (r k : Nat) : Nat → St
  | 0 => f
  | s + 1 => if f (30 + r) s = nI k then up2 (frF f r k s) (30 + r) s (-1) else frF f r k s
def daF (f : St) (r : Nat) : Nat → St
  | 0 => f
  | s + 1 => if f (30 + r) s = -1 then daF f r s else dkF (daF f r s) (f (30 + r) s).toNatClampNeg
def nlT (f : St) (r k s : Nat) : Bool := decide (f (30 + r) s ≠ -1) && decide (f (30 + r) s ≠ nI k) && decide (f 3 (f (30 + r) s).toNatClampNeg = 1)
def nlS (f : St) (r k : Nat) : Nat → Int32
  | 0 => -1
  | s + 1 => if nlT f r k s = true then nrI (nlS f r k s) (ds f k (f (30 + r) s).toNatClampNeg) else nlS f r k s
def shB (f : St) (r s : Nat) : Bool := decide (f (30 + r) s ≠ -1) && decide (f 3 (f (30 + r) s).toNatClampNeg = 1)
def axS (f : St) (r : Nat) (g : Int32) : Nat → Int32
  | 0 => 0
  | s + 1 => axS f r g s + (if shB f r s = decide ((g >>> (nI s &&& 31)) &&& 1 = 1) then 1 else 0)
/-- states are 0, 1, 2 -/
def stO (f : St) (n : Nat) : Prop := ∀ k, k < n → f 3 k = 0 ∨ f 3 k = 1 ∨ f 3 k = 2
/-- the cells of the class: n lanterns, b floats, q launched -/
def xw (n b q : Nat) (f : St) (C : List Nat) : Prop :=
  n ≤ 24 ∧ b ≤ 8 ∧ q ≤ 8 ∧ (∀ c, c ∈ C ↔ c < 5 ∨ (5 ≤ c ∧ c < 5 + n) ∨ (29 ≤ c ∧ c < 29 + b) ∨ (37 ≤ c ∧ c < 37 + b)) ∧ f 7 0 = nI n ∧ f 14 0 = nI b ∧ f 13 0 = nI q ∧ (∀ i, i < n → f 22 i = nI i) ∧ (∀ i, n ≤ i → i < 24 → f 22 i = -1) ∧ (∀ i, i < b → f 23 i = nI i) ∧ (∀ i, b ≤ i → i < 8 → f 23 i = -1) ∧ (∀ i, i < q → ∃ r, r < b ∧ f 12 i = nI r) ∧ (∀ i, q ≤ i → i < 8 → f 12 i = -1) ∧ (∀ k, k < n → f 5 k = -1 ∨ ∃ r, r < b ∧ f 5 k = nI r) ∧ (∀ r s, r < b → s < 10 → f (30 + r) s = -1 ∨ ∃ k, k < n ∧ f (30 + r) s = nI k) ∧ (∀ r, r < b → f 25 r = nI r)
theorem xw.c {n b q : Nat} {f : St} {C : List Nat} (h : xw n b q f C) {c : Nat} (hc : c < 5) : c ∈ C := (h.2.2.2.1 c).mpr (Or.inl hc)
theorem xw.l {n b q : Nat} {f : St} {C : List Nat} (h : xw n b q f C) {k : Nat} (hk : k < n) : 5 + k ∈ C := (h.2.2.2.1 _).mpr (by omega)
theorem xw.r {n b q : Nat} {f : St} {C : List Nat} (h : xw n b q f C) {k : Nat} (hk : k < b) : 29 + k ∈ C := (h.2.2.2.1 _).mpr (by omega)
theorem xw.s {n b q : Nat} {f : St} {C : List Nat} (h : xw n b q f C) {k : Nat} (hk : k < b) : 37 + k ∈ C := (h.2.2.2.1 _).mpr (by omega)
theorem xw.o {n b q : Nat} {f : St} {C : List Nat} (h : xw n b q f C) : ∀ i, i < q → ∃ r, r < b ∧ f 12 i = nI r := h.2.2.2.2.2.2.2.2.2.2.2.1
theorem xw.h {n b q : Nat} {f : St} {C : List Nat} (h : xw n b q f C) : ∀ k, k < n → f 5 k = -1 ∨ ∃ r, r < b ∧ f 5 k = nI r := h.2.2.2.2.2.2.2.2.2.2.2.2.2.1
theorem xw.sl {n b q : Nat} {f : St} {C : List Nat} (h : xw n b q f C) : ∀ r s, r < b → s < 10 → f (30 + r) s = -1 ∨ ∃ k, k < n ∧ f (30 + r) s = nI k := h.2.2.2.2.2.2.2.2.2.2.2.2.2.2.1
/-- fields of which the invariant doesn't speak -/
theorem xw.eqv {n b q : Nat} {f g : St} {C : List Nat} (h : xw n b q f C) (e7 : g 7 = f 7) (e14 : g 14 = f 14) (e13 : g 13 = f 13) (e22 : g 22 = f 22) (e23 : g 23 = f 23) (e12 : g 12 = f 12) (e5 : g 5 = f 5) (e30 : ∀ r, g (30 + r) = f (30 + r)) (e25 : g 25 = f 25) : xw n b q g C := by
  unfold xw
  rw [e7, e14, e13, e22, e23, e12, e5, e25]
  simp only [e30]
  exact h
theorem xw.up {n b q : Nat} {f : St} {C : List Nat} (h : xw n b q f C) {j : Nat} (hj : j = 3 ∨ j = 4 ∨ j = 6 ∨ j = 10 ∨ j = 11 ∨ j = 15 ∨ j = 16 ∨ j = 17 ∨ j = 18 ∨ j = 19 ∨ j = 20 ∨ j = 24) (k : Nat) (v : Int32) : xw n b q (up2 f j k v) C :=
  h.eqv (up2_fld _ _ _ (by omega)) (up2_fld _ _ _ (by omega)) (up2_fld _ _ _ (by omega)) (up2_fld _ _ _ (by omega)) (up2_fld _ _ _ (by omega)) (up2_fld _ _ _ (by omega)) (up2_fld _ _ _ (by omega)) (fun r => up2_fld _ _ _ (by omega)) (up2_fld _ _ _ (by omega))
theorem xw.dk {n b q : Nat} {f : St} {C : List Nat} (h : xw n b q f C) (k : Nat) : xw n b q (dkF f k) C := h.up (by omega) _ _
theorem stO.dk {f : St} {n : Nat} (h : stO f n) (k : Nat) : stO (dkF f k) n := by
  intro j hj
  by_cases e : j = k
  · subst e; simp only [dkF, up2_self]; split <;> simp
  · rw [dkF, up2_ne _ _ _ e]; exact h j hj
theorem dkF_1 {f : St} {k : Nat} (h : f 3 k = 1) : dkF f k = up2 f 3 k 0 := by rw [dkF, h]; rfl
theorem dkF_n {f : St} {k : Nat} (h : f 3 k = 0 ∨ f 3 k = 1 ∨ f 3 k = 2) (h1 : ¬ f 3 k = 1) : dkF f k = f := by
  funext a c
  by_cases ha : a = 3
  · subst ha
    by_cases hc : c = k
    · subst hc
      rw [dkF, up2_self]
      rcases h with h | h | h
      · rw [h]; rfl
      · exact absurd h h1
      · rw [h]; rfl
    · rw [dkF, up2_ne _ _ _ hc]
  · rw [dkF, up2_fld _ _ _ ha]
section XI
variable {p : Program} {l : Launch} {e : Env} {R : Room} {s : State} {m : MethodId} {args : Array Value} {below : List Frame} {meth : Method} {c : Code} {Q : State → Prop} {D : va_G} {cI cL cR : ClassId} {A : Nat → Prop} {n : Nat} {cc : ByteArray} {own : String} {Ts : List Cond} {k w pc : Nat} {lv : List (Nat × Value)} {st : List Value} {ad : Nat → Nat} {f : St} {C : List Nat} {n0 b0 q0 : Nat}

theorem xl_ald0 {a : Nat} {i : Int32} (h : jc p s m args c D vwCl (tyW cI cL cR) A n cc own Ts) (hx : xw n0 b0 q0 f C) (hd : decode cc pc = .ok (.aaload, 1)) (hi : i = nI a) (ha : a < 24) (kn : n0 ≤ a → jj p l e R s m args below meth c Q D vwCl (tyW cI cL cR) A n (wX cI cL cR ad C f) k w (pc + 1) lv (.null :: st)) (kr : a < n0 → jj p l e R s m args below meth c Q D vwCl (tyW cI cL cR) A n (wX cI cL cR ad C f) k w (pc + 1) lv (.ref (ad (5 + a)) :: st)) : jj p l e R s m args below meth c Q D vwCl (tyW cI cL cR) A n (wX cI cL cR ad C f) k w pc lv (.int i :: .ref (ad 1) :: st) := by
  have hn := hx.1
  refine x2_ald0 h hd (hx.c (by omega)) hi ha ?_ (fun z => kn ?_) (fun r hr z => ?_)
  · rcases Nat.lt_or_ge a n0 with q | q
    · exact Or.inr ⟨a, ha, hx.2.2.2.2.2.2.2.1 a q⟩
    · exact Or.inl (hx.2.2.2.2.2.2.2.2.1 a q ha)
  · rcases Nat.lt_or_ge a n0 with q | q
    · exact absurd ((hx.2.2.2.2.2.2.2.1 a q).symm.trans z) (nI_nm1 (by omega))
    · exact q
  · rcases Nat.lt_or_ge a n0 with q | q
    · have e1 : a = r := (nI_eq (by omega) (by omega)).mp ((hx.2.2.2.2.2.2.2.1 a q).symm.trans z)
      subst e1
      exact kr q
    · exact absurd (z.symm.trans (hx.2.2.2.2.2.2.2.2.1 a q ha)) (nI_nm1 (by omega))
theorem xl_ald1 {a : Nat} {i : Int32} (h : jc p s m args c D vwCl (tyW cI cL cR) A n cc own Ts) (hx : xw n0 b0 q0 f C) (hd : decode cc pc = .ok (.aaload, 1)) (hi : i = nI a) (ha : a < 8) (kn : b0 ≤ a → jj p l e R s m args below meth c Q D vwCl (tyW cI cL cR) A n (wX cI cL cR ad C f) k w (pc + 1) lv (.null :: st)) (kr : a < b0 → jj p l e R s m args below meth c Q D vwCl (tyW cI cL cR) A n (wX cI cL cR ad C f) k w (pc + 1) lv (.ref (ad (29 + a)) :: st)) : jj p l e R s m args below meth c Q D vwCl (tyW cI cL cR) A n (wX cI cL cR ad C f) k w pc lv (.int i :: .ref (ad 2) :: st) := by
  have hn := hx.2.1
  refine x2_ald1 h hd (hx.c (by omega)) hi ha ?_ (fun z => kn ?_) (fun r hr z => ?_)
  · rcases Nat.lt_or_ge a b0 with q | q
    · exact Or.inr ⟨a, ha, hx.2.2.2.2.2.2.2.2.2.1 a q⟩
    · exact Or.inl (hx.2.2.2.2.2.2.2.2.2.2.1 a q ha)
  · rcases Nat.lt_or_ge a b0 with q | q
    · exact absurd ((hx.2.2.2.2.2.2.2.2.2.1 a q).symm.trans z) (nI_nm1 (by omega))
    · exact q
  · rcases Nat.lt_or_ge a b0 with q | q
    · have e1 : a = r := (nI_eq (by omega) (by omega)).mp ((hx.2.2.2.2.2.2.2.2.2.1 a q).symm.trans z)
      subst e1
      exact kr q
    · exact absurd (z.symm.trans (hx.2.2.2.2.2.2.2.2.2.2.1 a q ha)) (nI_nm1 (by omega))
theorem xl_ald2 {a : Nat} {i : Int32} (h : jc p s m args c D vwCl (tyW cI cL cR) A n cc own Ts) (hx : xw n0 b0 q0 f C) (hd : decode cc pc = .ok (.aaload, 1)) (hi : i = nI a) (ha : a < 8) (kn : q0 ≤ a → jj p l e R s m args below meth c Q D vwCl (tyW cI cL cR) A n (wX cI cL cR ad C f) k w (pc + 1) lv (.null :: st)) (kr : ∀ r, a < q0 → r < b0 → f 12 a = nI r → jj p l e R s m args below meth c Q D vwCl (tyW cI cL cR) A n (wX cI cL cR ad C f) k w (pc + 1) lv (.ref (ad (29 + r)) :: st)) : jj p l e R s m args below meth c Q D vwCl (tyW cI cL cR) A n (wX cI cL cR ad C f) k w pc lv (.int i :: .ref (ad 3) :: st) := by
  have hn := hx.2.1
  refine x2_ald2 h hd (hx.c (by omega)) hi ha ?_ (fun z => kn ?_) (fun r hr z => ?_)
  · rcases Nat.lt_or_ge a q0 with q | q
    · obtain ⟨r, hr, z⟩ := hx.o a q
      exact Or.inr ⟨r, by omega, z⟩
    · exact Or.inl (hx.2.2.2.2.2.2.2.2.2.2.2.2.1 a q ha)
  · rcases Nat.lt_or_ge a q0 with q | q
    · obtain ⟨r, hr, z2⟩ := hx.o a q
      exact absurd (z2.symm.trans z) (nI_nm1 (by omega))
    · exact q
  · rcases Nat.lt_or_ge a q0 with q | q
    · obtain ⟨r2, hr2, z2⟩ := hx.o a q
      have e1 : r2 = r := (nI_eq (by omega) (by omega)).mp (z2.symm.trans z)
      subst e1
      exact kr _ q hr2 z
    · exact absurd (z.symm.trans (hx.2.2.2.2.2.2.2.2.2.2.2.2.1 a q ha)) (nI_nm1 (by omega))
theorem xl_alds {a r : Nat} {i : Int32} (h : jc p s m args c D vwCl (tyW cI cL cR) A n cc own Ts) (hx : xw n0 b0 q0 f C) (hd : decode cc pc = .ok (.aaload, 1)) (hr : r < b0) (hi : i = nI a) (ha : a < 10) (kn : f (30 + r) a = -1 → jj p l e R s m args below meth c Q D vwCl (tyW cI cL cR) A n (wX cI cL cR ad C f) k w (pc + 1) lv (.null :: st)) (kr : ∀ x, x < n0 → f (30 + r) a = nI x → jj p l e R s m args below meth c Q D vwCl (tyW cI cL cR) A n (wX cI cL cR ad C f) k w (pc + 1) lv (.ref (ad (5 + x)) :: st)) : jj p l e R s m args below meth c Q D vwCl (tyW cI cL cR) A n (wX cI cL cR ad C f) k w pc lv (.int i :: .ref (ad (37 + r)) :: st) := by
  have hn := hx.1
  refine x1_ald3 h hd (hx.s hr) hi ha ?_ kn (fun x hx24 z => ?_)
  · rcases hx.sl r a hr ha with z | ⟨x, h1, z⟩
    · exact Or.inl z
    · exact Or.inr ⟨x, by omega, z⟩
  · rcases hx.sl r a hr ha with z2 | ⟨x2, h1, z2⟩
    · exact absurd (z.symm.trans z2) (nI_nm1 (by omega))
    · have e1 : x2 = x := (nI_eq (by omega) (by omega)).mp (z2.symm.trans z)
      subst e1
      exact kr _ h1 z
theorem xl_get5 {a idx : Nat} (h : jc p s m args c D vwCl (tyW cI cL cR) A n cc own Ts) (hx : xw n0 b0 q0 f C) (hin : ∀ x ∈ wsX00, x ∈ Ts) (hlink : Cond.fieldLink own idx RX0 "raft" "LFestoon$Raft;" ∈ Ts) (hd : decode cc pc = .ok (.getfield idx, 3)) (ha : a < n0) (kn : f 5 a = -1 → jj p l e R s m args below meth c Q D vwCl (tyW cI cL cR) A n (wX cI cL cR ad C f) k w (pc + 3) lv (.null :: st)) (kr : ∀ r, r < b0 → f 5 a = nI r → jj p l e R s m args below meth c Q D vwCl (tyW cI cL cR) A n (wX cI cL cR ad C f) k w (pc + 3) lv (.ref (ad (29 + r)) :: st)) : jj p l e R s m args below meth c Q D vwCl (tyW cI cL cR) A n (wX cI cL cR ad C f) k w pc lv (.ref (ad (5 + a)) :: st) := by
  have hn := hx.1
  have hb := hx.2.1
  refine x0_get5 h hin hlink hd (by omega) (hx.l ha) ?_ kn (fun r hr z => ?_)
  · rcases hx.h a ha with z | ⟨x, h1, z⟩
    · exact Or.inl z
    · exact Or.inr ⟨x, by omega, z⟩
  · rcases hx.h a ha with z2 | ⟨x2, h1, z2⟩
    · exact absurd (z.symm.trans z2) (nI_nm1 (by omega))
    · have e1 : x2 = r := (nI_eq (by omega) (by omega)).mp (z2.symm.trans z)
      subst e1
      exact kr _ h1 z
theorem xl_get5R {a r idx : Nat} (h : jc p s m args c D vwCl (tyW cI cL cR) A n cc own Ts) (hx : xw n0 b0 q0 f C) (hin : ∀ x ∈ wsX00, x ∈ Ts) (hlink : Cond.fieldLink own idx RX0 "raft" "LFestoon$Raft;" ∈ Ts) (hd : decode cc pc = .ok (.getfield idx, 3)) (ha : a < n0) (he : f 5 a = nI r) (hr : r < b0) (kk : jj p l e R s m args below meth c Q D vwCl (tyW cI cL cR) A n (wX cI cL cR ad C f) k w (pc + 3) lv (.ref (ad (29 + r)) :: st)) : jj p l e R s m args below meth c Q D vwCl (tyW cI cL cR) A n (wX cI cL cR ad C f) k w pc lv (.ref (ad (5 + a)) :: st) := by
  have hb := hx.2.1
  refine xl_get5 h hx hin hlink hd ha (fun z => absurd (he.symm.trans z) (nI_nm1 (by omega))) (fun r2 hr2 z => ?_)
  have e1 : r = r2 := (nI_eq (by omega) (by omega)).mp (he.symm.trans z)
  subst e1
  exact kk
theorem xl_aldsR {a r x : Nat} {i : Int32} (h : jc p s m args c D vwCl (tyW cI cL cR) A n cc own Ts) (hx : xw n0 b0 q0 f C) (hd : decode cc pc = .ok (.aaload, 1)) (hr : r < b0) (hi : i = nI a) (ha : a < 10) (he : f (30 + r) a = nI x) (hx0 : x < n0) (kk : jj p l e R s m args below meth c Q D vwCl (tyW cI cL cR) A n (wX cI cL cR ad C f) k w (pc + 1) lv (.ref (ad (5 + x)) :: st)) : jj p l e R s m args below meth c Q D vwCl (tyW cI cL cR) A n (wX cI cL cR ad C f) k w pc lv (.int i :: .ref (ad (37 + r)) :: st) := by
  have hn := hx.1
  refine xl_alds h hx hd hr hi ha (fun z => absurd (he.symm.trans z) (nI_nm1 (by omega))) (fun x2 hx2 z => ?_)
  have e1 : x = x2 := (nI_eq (by omega) (by omega)).mp (he.symm.trans z)
  subst e1
  exact kk
theorem xc0_callVI (h : jc p s m args c D vwCl (tyW cI cL cR) A n cc own Ts) {index maxL mc ms nn : Nat} {y : MethodName} {bytes : ByteArray} {ret : Option FieldType} {wd : List Cond} {rm : Room} {As rest : List Value} {post : Int32 → va_W → Prop} {k0 : Nat} (hk : k0 < 24) (hd : decode cc pc = .ok (.invokevirtual index, 3)) (hM : ctI l D vwCl (tyW cI cL cR) y wd rm (.ref (ad (5 + k0)) :: As) (wX cI cL cR ad C f) post mc ms) (cw : CallW R s args own (RX0, TX0, 7).1 index y bytes maxL ret wd rm mc ms nn) (hcm : 5 + k0 ∈ C) (hn : As.length = nn) (hst : st = As.reverse ++ .ref (ad (5 + k0)) :: rest) (hcat : (rest.map fun v => v.category).sum ≤ 8) (hf : k + mc ≤ R.cells ∧ w + ms ≤ R.slots) (kk : ∀ (r : Int32) (u : va_W), post r u → jj p l e R s m args below meth c Q D vwCl (tyW cI cL cR) A n u (k + mc) (w + ms) (pc + 3) lv (.int r :: rest)) : jj p l e R s m args below meth c Q D vwCl (tyW cI cL cR) A n (wX cI cL cR ad C f) k w pc lv st := by
  obtain ⟨qq, hw⟩ := wX_recv (cI := cI) (cL := cL) (cR := cR) (ad := ad) (f := f) hcm
  rw [gX_l _ _ _ _ _ hk] at hw
  exact j_callVI (vc := (RX0, TX0, 7)) h hd hM cw qq hw rfl hn hst hcat hf kk
theorem xc1_callVI (h : jc p s m args c D vwCl (tyW cI cL cR) A n cc own Ts) {index maxL mc ms nn : Nat} {y : MethodName} {bytes : ByteArray} {ret : Option FieldType} {wd : List Cond} {rm : Room} {As rest : List Value} {post : Int32 → va_W → Prop} {k0 : Nat} (hk : k0 < 8) (hd : decode cc pc = .ok (.invokevirtual index, 3)) (hM : ctI l D vwCl (tyW cI cL cR) y wd rm (.ref (ad (29 + k0)) :: As) (wX cI cL cR ad C f) post mc ms) (cw : CallW R s args own (RX1, TX1, 7).1 index y bytes maxL ret wd rm mc ms nn) (hcm : 29 + k0 ∈ C) (hn : As.length = nn) (hst : st = As.reverse ++ .ref (ad (29 + k0)) :: rest) (hcat : (rest.map fun v => v.category).sum ≤ 8) (hf : k + mc ≤ R.cells ∧ w + ms ≤ R.slots) (kk : ∀ (r : Int32) (u : va_W), post r u → jj p l e R s m args below meth c Q D vwCl (tyW cI cL cR) A n u (k + mc) (w + ms) (pc + 3) lv (.int r :: rest)) : jj p l e R s m args below meth c Q D vwCl (tyW cI cL cR) A n (wX cI cL cR ad C f) k w pc lv st := by
  obtain ⟨qq, hw⟩ := wX_recv (cI := cI) (cL := cL) (cR := cR) (ad := ad) (f := f) hcm
  rw [gX_r _ _ _ _ _ hk] at hw
  exact j_callVI (vc := (RX1, TX1, 7)) h hd hM cw qq hw rfl hn hst hcat hf kk
theorem xc2_callVI (h : jc p s m args c D vwCl (tyW cI cL cR) A n cc own Ts) {index maxL mc ms nn : Nat} {y : MethodName} {bytes : ByteArray} {ret : Option FieldType} {wd : List Cond} {rm : Room} {As rest : List Value} {post : Int32 → va_W → Prop} (hd : decode cc pc = .ok (.invokevirtual index, 3)) (hM : ctI l D vwCl (tyW cI cL cR) y wd rm (.ref (ad (0)) :: As) (wX cI cL cR ad C f) post mc ms) (cw : CallW R s args own (RX2, TX2, 12).1 index y bytes maxL ret wd rm mc ms nn) (hcm : 0 ∈ C) (hn : As.length = nn) (hst : st = As.reverse ++ .ref (ad (0)) :: rest) (hcat : (rest.map fun v => v.category).sum ≤ 8) (hf : k + mc ≤ R.cells ∧ w + ms ≤ R.slots) (kk : ∀ (r : Int32) (u : va_W), post r u → jj p l e R s m args below meth c Q D vwCl (tyW cI cL cR) A n u (k + mc) (w + ms) (pc + 3) lv (.int r :: rest)) : jj p l e R s m args below meth c Q D vwCl (tyW cI cL cR) A n (wX cI cL cR ad C f) k w pc lv st := by
  obtain ⟨qq, hw⟩ := wX_recv (cI := cI) (cL := cL) (cR := cR) (ad := ad) (f := f) hcm
  rw [gX_0 _ _ _ _ _] at hw
  exact j_callVI (vc := (RX2, TX2, 12)) h hd hM cw qq hw rfl hn hst hcat hf kk
theorem xc0_callVV (h : jc p s m args c D vwCl (tyW cI cL cR) A n cc own Ts) {index maxL mc ms nn : Nat} {y : MethodName} {bytes : ByteArray} {ret : Option FieldType} {wd : List Cond} {rm : Room} {As rest : List Value} {post : va_W → Prop} {k0 : Nat} (hk : k0 < 24) (hd : decode cc pc = .ok (.invokevirtual index, 3)) (hM : ctV l D vwCl (tyW cI cL cR) y wd rm (.ref (ad (5 + k0)) :: As) (wX cI cL cR ad C f) post mc ms) (cw : CallW R s args own (RX0, TX0, 7).1 index y bytes maxL ret wd rm mc ms nn) (hcm : 5 + k0 ∈ C) (hn : As.length = nn) (hst : st = As.reverse ++ .ref (ad (5 + k0)) :: rest) (hcat : (rest.map fun v => v.category).sum ≤ 8) (hf : k + mc ≤ R.cells ∧ w + ms ≤ R.slots) (kk : ∀ (u : va_W), post u → jj p l e R s m args below meth c Q D vwCl (tyW cI cL cR) A n u (k + mc) (w + ms) (pc + 3) lv (rest)) : jj p l e R s m args below meth c Q D vwCl (tyW cI cL cR) A n (wX cI cL cR ad C f) k w pc lv st := by
  obtain ⟨qq, hw⟩ := wX_recv (cI := cI) (cL := cL) (cR := cR) (ad := ad) (f := f) hcm
  rw [gX_l _ _ _ _ _ hk] at hw
  exact j_callVV (vc := (RX0, TX0, 7)) h hd hM cw qq hw rfl hn hst hcat hf kk
theorem xc1_callVV (h : jc p s m args c D vwCl (tyW cI cL cR) A n cc own Ts) {index maxL mc ms nn : Nat} {y : MethodName} {bytes : ByteArray} {ret : Option FieldType} {wd : List Cond} {rm : Room} {As rest : List Value} {post : va_W → Prop} {k0 : Nat} (hk : k0 < 8) (hd : decode cc pc = .ok (.invokevirtual index, 3)) (hM : ctV l D vwCl (tyW cI cL cR) y wd rm (.ref (ad (29 + k0)) :: As) (wX cI cL cR ad C f) post mc ms) (cw : CallW R s args own (RX1, TX1, 7).1 index y bytes maxL ret wd rm mc ms nn) (hcm : 29 + k0 ∈ C) (hn : As.length = nn) (hst : st = As.reverse ++ .ref (ad (29 + k0)) :: rest) (hcat : (rest.map fun v => v.category).sum ≤ 8) (hf : k + mc ≤ R.cells ∧ w + ms ≤ R.slots) (kk : ∀ (u : va_W), post u → jj p l e R s m args below meth c Q D vwCl (tyW cI cL cR) A n u (k + mc) (w + ms) (pc + 3) lv (rest)) : jj p l e R s m args below meth c Q D vwCl (tyW cI cL cR) A n (wX cI cL cR ad C f) k w pc lv st := by
  obtain ⟨qq, hw⟩ := wX_recv (cI := cI) (cL := cL) (cR := cR) (ad := ad) (f := f) hcm
  rw [gX_r _ _ _ _ _ hk] at hw
  exact j_callVV (vc := (RX1, TX1, 7)) h hd hM cw qq hw rfl hn hst hcat hf kk
theorem xc2_callVV (h : jc p s m args c D vwCl (tyW cI cL cR) A n cc own Ts) {index maxL mc ms nn : Nat} {y : MethodName} {bytes : ByteArray} {ret : Option FieldType} {wd : List Cond} {rm : Room} {As rest : List Value} {post : va_W → Prop} (hd : decode cc pc = .ok (.invokevirtual index, 3)) (hM : ctV l D vwCl (tyW cI cL cR) y wd rm (.ref (ad (0)) :: As) (wX cI cL cR ad C f) post mc ms) (cw : CallW R s args own (RX2, TX2, 12).1 index y bytes maxL ret wd rm mc ms nn) (hcm : 0 ∈ C) (hn : As.length = nn) (hst : st = As.reverse ++ .ref (ad (0)) :: rest) (hcat : (rest.map fun v => v.category).sum ≤ 8) (hf : k + mc ≤ R.cells ∧ w + ms ≤ R.slots) (kk : ∀ (u : va_W), post u → jj p l e R s m args below meth c Q D vwCl (tyW cI cL cR) A n u (k + mc) (w + ms) (pc + 3) lv (rest)) : jj p l e R s m args below meth c Q D vwCl (tyW cI cL cR) A n (wX cI cL cR ad C f) k w pc lv st := by
  obtain ⟨qq, hw⟩ := wX_recv (cI := cI) (cL := cL) (cR := cR) (ad := ad) (f := f) hcm
  rw [gX_0 _ _ _ _ _] at hw
  exact j_callVV (vc := (RX2, TX2, 12)) h hd hM cw qq hw rfl hn hst hcat hf kk
theorem xc0_callVQ (h : jc p s m args c D vwCl (tyW cI cL cR) A n cc own Ts) {index maxL mc ms nn : Nat} {y : MethodName} {bytes : ByteArray} {ret : Option FieldType} {wd : List Cond} {rm : Room} {As rest : List Value} {post : Option Nat → va_W → Prop} {k0 : Nat} (hk : k0 < 24) (hd : decode cc pc = .ok (.invokevirtual index, 3)) (hM : ctQ l D vwCl (tyW cI cL cR) y wd rm (.ref (ad (5 + k0)) :: As) (wX cI cL cR ad C f) post mc ms) (cw : CallW R s args own (RX0, TX0, 7).1 index y bytes maxL ret wd rm mc ms nn) (hcm : 5 + k0 ∈ C) (hn : As.length = nn) (hst : st = As.reverse ++ .ref (ad (5 + k0)) :: rest) (hcat : (rest.map fun v => v.category).sum ≤ 8) (hf : k + mc ≤ R.cells ∧ w + ms ≤ R.slots) (kk : ∀ (r : Option Nat) (u : va_W), post r u → jj p l e R s m args below meth c Q D vwCl (tyW cI cL cR) A n u (k + mc) (w + ms) (pc + 3) lv (va_rf r :: rest)) : jj p l e R s m args below meth c Q D vwCl (tyW cI cL cR) A n (wX cI cL cR ad C f) k w pc lv st := by
  obtain ⟨qq, hw⟩ := wX_recv (cI := cI) (cL := cL) (cR := cR) (ad := ad) (f := f) hcm
  rw [gX_l _ _ _ _ _ hk] at hw
  exact j_callVQ (vc := (RX0, TX0, 7)) h hd hM cw qq hw rfl hn hst hcat hf kk
theorem xc1_callVQ (h : jc p s m args c D vwCl (tyW cI cL cR) A n cc own Ts) {index maxL mc ms nn : Nat} {y : MethodName} {bytes : ByteArray} {ret : Option FieldType} {wd : List Cond} {rm : Room} {As rest : List Value} {post : Option Nat → va_W → Prop} {k0 : Nat} (hk : k0 < 8) (hd : decode cc pc = .ok (.invokevirtual index, 3)) (hM : ctQ l D vwCl (tyW cI cL cR) y wd rm (.ref (ad (29 + k0)) :: As) (wX cI cL cR ad C f) post mc ms) (cw : CallW R s args own (RX1, TX1, 7).1 index y bytes maxL ret wd rm mc ms nn) (hcm : 29 + k0 ∈ C) (hn : As.length = nn) (hst : st = As.reverse ++ .ref (ad (29 + k0)) :: rest) (hcat : (rest.map fun v => v.category).sum ≤ 8) (hf : k + mc ≤ R.cells ∧ w + ms ≤ R.slots) (kk : ∀ (r : Option Nat) (u : va_W), post r u → jj p l e R s m args below meth c Q D vwCl (tyW cI cL cR) A n u (k + mc) (w + ms) (pc + 3) lv (va_rf r :: rest)) : jj p l e R s m args below meth c Q D vwCl (tyW cI cL cR) A n (wX cI cL cR ad C f) k w pc lv st := by
  obtain ⟨qq, hw⟩ := wX_recv (cI := cI) (cL := cL) (cR := cR) (ad := ad) (f := f) hcm
  rw [gX_r _ _ _ _ _ hk] at hw
  exact j_callVQ (vc := (RX1, TX1, 7)) h hd hM cw qq hw rfl hn hst hcat hf kk
theorem xc2_callVQ (h : jc p s m args c D vwCl (tyW cI cL cR) A n cc own Ts) {index maxL mc ms nn : Nat} {y : MethodName} {bytes : ByteArray} {ret : Option FieldType} {wd : List Cond} {rm : Room} {As rest : List Value} {post : Option Nat → va_W → Prop} (hd : decode cc pc = .ok (.invokevirtual index, 3)) (hM : ctQ l D vwCl (tyW cI cL cR) y wd rm (.ref (ad (0)) :: As) (wX cI cL cR ad C f) post mc ms) (cw : CallW R s args own (RX2, TX2, 12).1 index y bytes maxL ret wd rm mc ms nn) (hcm : 0 ∈ C) (hn : As.length = nn) (hst : st = As.reverse ++ .ref (ad (0)) :: rest) (hcat : (rest.map fun v => v.category).sum ≤ 8) (hf : k + mc ≤ R.cells ∧ w + ms ≤ R.slots) (kk : ∀ (r : Option Nat) (u : va_W), post r u → jj p l e R s m args below meth c Q D vwCl (tyW cI cL cR) A n u (k + mc) (w + ms) (pc + 3) lv (va_rf r :: rest)) : jj p l e R s m args below meth c Q D vwCl (tyW cI cL cR) A n (wX cI cL cR ad C f) k w pc lv st := by
  obtain ⟨qq, hw⟩ := wX_recv (cI := cI) (cL := cL) (cR := cR) (ad := ad) (f := f) hcm
  rw [gX_0 _ _ _ _ _] at hw
  exact j_callVQ (vc := (RX2, TX2, 12)) h hd hM cw qq hw rfl hn hst hcat hf kk
end XI
