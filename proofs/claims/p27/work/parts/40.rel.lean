/-! ===== the class's numbers and the model's ===== -/
def Rl (n b q : Nat) (f g : St) : Prop := (∀ j, j = 7 ∨ j = 14 ∨ j = 13 ∨ j = 18 ∨ j = 15 ∨ j = 16 ∨ j = 19 ∨ j = 20 → f j 0 = g j 0) ∧ (∀ j, j < 6 → ∀ k, k < n → f j k = g j k) ∧ (∀ k, k < n → f 5 k ≠ -1 → f 6 k = g 6 k) ∧ (∀ j, j = 8 ∨ j = 9 ∨ j = 10 → ∀ r, r < b → f j r = g j r) ∧ (∀ r, r < b → f 10 r = 1 → f 11 r = g 11 r) ∧ (∀ i, i < q → f 12 i = g 12 i) ∧ f 17 = g 17
theorem Rl.n0 {n b q : Nat} {f g : St} (h : Rl n b q f g) {j : Nat} (hj : j = 7 ∨ j = 14 ∨ j = 13 ∨ j = 18 ∨ j = 15 ∨ j = 16 ∨ j = 19 ∨ j = 20) : f j 0 = g j 0 := h.1 j hj
theorem Rl.l {n b q : Nat} {f g : St} (h : Rl n b q f g) {j k : Nat} (hj : j < 6) (hk : k < n) : f j k = g j k := h.2.1 j hj k hk
theorem Rl.s6 {n b q : Nat} {f g : St} (h : Rl n b q f g) {k : Nat} (hk : k < n) (h5 : f 5 k ≠ -1) : f 6 k = g 6 k := h.2.2.1 k hk h5
theorem Rl.r {n b q : Nat} {f g : St} (h : Rl n b q f g) {j k : Nat} (hj : j = 8 ∨ j = 9 ∨ j = 10) (hk : k < b) : f j k = g j k := h.2.2.2.1 j hj k hk
theorem Rl.fr {n b q : Nat} {f g : St} (h : Rl n b q f g) {r : Nat} (hr : r < b) (h1 : f 10 r = 1) : f 11 r = g 11 r := h.2.2.2.2.1 r hr h1
theorem Rl.o {n b q : Nat} {f g : St} (h : Rl n b q f g) {i : Nat} (hi : i < q) : f 12 i = g 12 i := h.2.2.2.2.2.1 i hi
theorem Rl.gu {n b q : Nat} {f g : St} (h : Rl n b q f g) : f 17 = g 17 := h.2.2.2.2.2.2
/-- the float of a lantern -/
def hgF (n b : Nat) (f : St) : Prop := ∀ k, k < n → f 5 k = -1 ∨ ∃ r, r < b ∧ f 5 k = nI r
def orF (b q : Nat) (f : St) : Prop := ∀ i, i < q → ∃ r, r < b ∧ f 12 i = nI r
theorem hpB_of {f : St} {k r : Nat} (h5 : f 5 k = nI r) (hr : r < 2 ^ 31) : hpB f k = decide (f 10 r = 1) := by
  rw [hpB, h5, nI_clamp hr, decide_eq_true (nI_nm1 hr)]; rfl
theorem hpB_no {f : St} {k : Nat} (h5 : f 5 k = -1) : hpB f k = false := by rw [hpB, h5]; rfl
theorem hpB_yes {n b : Nat} {f : St} (hh : hgF n b f) (hb : b ≤ 8) {k : Nat} (hk : k < n) (hp : hpB f k = true) : ∃ r, r < b ∧ f 5 k = nI r ∧ f 10 r = 1 := by
  rcases hh k hk with e | ⟨r, hr, e⟩
  · rw [hpB_no e] at hp; cases hp
  · rw [hpB_of e (by omega)] at hp; exact ⟨r, hr, e, of_decide_eq_true hp⟩
theorem Rl.hp {n b q : Nat} {f g : St} (h : Rl n b q f g) (hh : hgF n b f) (hb : b ≤ 8) {k : Nat} (hk : k < n) : hpB f k = hpB g k := by
  rcases hh k hk with e | ⟨r, hr, e⟩
  · rw [hpB_no e, hpB_no (by rw [← h.l (by decide) hk]; exact e)]
  · rw [hpB_of e (by omega), hpB_of (r := r) (by rw [← h.l (by decide) hk]; exact e) (by omega), h.r (by decide) hr]
theorem Rl.ple {n b q : Nat} {f g : St} (h : Rl n b q f g) (hh : hgF n b f) (hb : b ≤ 8) {k : Nat} (hk : k < n) (hp : hpB f k = true) : pl f k = pl g k := by
  obtain ⟨r, hr, e, h1⟩ := hpB_yes hh hb hk hp
  have e2 : g 5 k = nI r := by rw [← h.l (by decide) hk]; exact e
  unfold pl
  rw [e, e2, nI_clamp (by omega), h.fr hr h1, h.s6 hk (by rw [e]; exact nI_nm1 (by omega))]
theorem Rl.dse {n b q : Nat} {f g : St} (h : Rl n b q f g) (hh : hgF n b f) (hb : b ≤ 8) {i k : Nat} (hi : i < n) (hk : k < n) (h1 : hpB f i = true) (h2 : hpB f k = true) : ds f i k = ds g i k := by
  unfold ds
  rw [h.ple hh hb hi h1, h.ple hh hb hk h2]
theorem Rl.near {n b q : Nat} {f g : St} (h : Rl n b q f g) (hh : hgF n b f) (hb : b ≤ 8) {x m : Nat} (hx : x < n) (hm : m ≤ n) (hp : hpB f x = true) (hl : lpF f n) : nearB f x m = nearB g x m := by
  induction m with
  | zero => rfl
  | succ m ih =>
    rw [nearB, nearB, ih (by omega)]
    congr 1
    unfold nearT
    rw [h.l (j := 3) (by decide) (show m < n by omega), h.l (j := 2) (by decide) (show m < n by omega), h.l (j := 2) (by decide) hx, h.n0 (j := 16) (by decide)]
    by_cases h3 : g 3 m = 1
    · rw [h.dse hh hb (by omega) hx (hl m (by omega) (by rw [h.l (by decide) (by omega)]; exact h3)) hp]
    · rw [decide_eq_false h3]; simp
theorem Rl.wte {n b q : Nat} {f g : St} (h : Rl n b q f g) {k : Nat} (hk : k < n) : wt f k = wt g k := by
  unfold wt
  rw [h.l (j := 0) (by decide) hk, h.l (j := 1) (by decide) hk, h.l (j := 2) (by decide) hk]
theorem Rl.ld {n b q : Nat} {f g : St} (h : Rl n b q f g) (x : Int32) {m : Nat} (hm : m ≤ n) : ldS f x m = ldS g x m := by
  induction m with
  | zero => rfl
  | succ m ih => rw [ldS, ldS, ih (by omega), h.l (j := 5) (by decide) (show m < n by omega), h.wte (show m < n by omega)]
theorem Rl.tk {n b q : Nat} {f g : St} (h : Rl n b q f g) (r : Nat) (hr : r < 8) (s : Int32) {m : Nat} (hm : m ≤ n) : tkB f (nI r) s m = tkB g (nI r) s m := by
  induction m with
  | zero => rfl
  | succ m ih =>
    rw [tkB, tkB, ih (by omega)]
    congr 1
    by_cases e : f 5 m = nI r
    · rw [h.s6 (show m < n by omega) (by rw [e]; exact nI_nm1 (by omega)), h.l (j := 5) (by decide) (show m < n by omega)]
    · rw [decide_eq_false e, decide_eq_false (fun z => e ((h.l (j := 5) (by decide) (show m < n by omega)).trans z))]; rfl
theorem Rl.lt {n b q : Nat} {f g : St} (h : Rl n b q f g) {m : Nat} (hm : m ≤ n) : ltS f m = ltS g m := by
  induction m with
  | zero => rfl
  | succ m ih => rw [ltS, ltS, ih (by omega), h.l (j := 3) (by decide) (show m < n by omega)]
theorem Rl.af {n b q : Nat} {f g : St} (h : Rl n b q f g) {m : Nat} (hm : m ≤ b) : afS f m = afS g m := by
  induction m with
  | zero => rfl
  | succ m ih => rw [afS, afS, ih (by omega), h.r (j := 10) (by decide) (show m < b by omega)]
theorem Rl.rm {n b q : Nat} {f g : St} (h : Rl n b q f g) (hb : b ≤ 8) (ho : orF b q f) {m : Nat} (hm : m ≤ q) : rmS f m = rmS g m := by
  induction m with
  | zero => rfl
  | succ m ih =>
    obtain ⟨r, hr, e⟩ := ho m (by omega)
    rw [rmS, rmS, ih (by omega), ← h.o (show m < q by omega), e, nI_clamp (by omega), h.r (j := 10) (by decide) hr]
theorem Rl.set {n b q : Nat} {f g : St} (h : Rl n b q f g) (r : Nat) (hr : r < 8) {m : Nat} (hm : m ≤ n) : setS f (nI r) m = setS g (nI r) m := by
  induction m with
  | zero => rfl
  | succ m ih =>
    rw [setS, setS, ih (by omega)]
    congr 1
    by_cases e : f 5 m = nI r
    · rw [h.s6 (show m < n by omega) (by rw [e]; exact nI_nm1 (by omega)), h.l (j := 5) (by decide) (show m < n by omega), h.l (j := 3) (by decide) (show m < n by omega)]
    · rw [if_neg (fun z => e z.1), if_neg (fun z => e ((h.l (j := 5) (by decide) (show m < n by omega)).trans z.1))]
theorem Rl.lk {n b q : Nat} {f g : St} (h : Rl n b q f g) (r : Nat) (hr : r < 8) (x : Int32) : lkS f n (nI r) x = lkS g n (nI r) x := by unfold lkS; rw [h.set r hr (Nat.le_refl _)]
theorem Rl.nr {n b q : Nat} {f g : St} (h : Rl n b q f g) (hh : hgF n b f) (hb : b ≤ 8) {x m : Nat} (hx : x < n) (hm : m ≤ n) (hp : hpB f x = true) (hl : lpF f n) : nrS f x m = nrS g x m := by
  induction m with
  | zero => rfl
  | succ m ih =>
    rw [nrS, nrS, ih (by omega), h.l (j := 3) (by decide) (show m < n by omega)]
    by_cases h3 : g 3 m = 1
    · rw [h.dse hh hb (by omega) hx (hl m (by omega) (by rw [h.l (by decide) (by omega)]; exact h3)) hp]
    · rw [if_neg (fun z => h3 z.2), if_neg (fun z => h3 z.2)]
theorem Rl.pr {n b q : Nat} {f g : St} (h : Rl n b q f g) (hb : b ≤ 8) (ho : orF b q f) (x : Int32) {m : Nat} (hm : m ≤ q) : prS f n x m = prS g n x m ∧ (prS f n x m = -1 ∨ ∃ r, r < b ∧ prS f n x m = nI r) := by
  induction m with
  | zero => exact ⟨rfl, Or.inl rfl⟩
  | succ m ih =>
    obtain ⟨i1, i2⟩ := ih (by omega)
    obtain ⟨r, hr, e⟩ := ho m (by omega)
    refine ⟨?_, ?_⟩
    · rw [prS, prS, ← i1, ← h.o (show m < q by omega), e, nI_clamp (by omega), h.r (j := 10) (by decide) hr, h.lk r (by omega)]
      rcases i2 with z | ⟨r2, hr2, z⟩
      · rw [z]; simp
      · rw [z, h.lk r2 (by omega)]
    · rw [prS]
      split
      · exact Or.inr ⟨r, hr, e⟩
      · exact i2
