/-! what is asked: the law's answers and the class's -/
def nsJ (ψ : St) (k : Nat) : Nat → Int32
  | 0 => -1
  | j + 1 => if j ≠ k ∧ ψ 3 j = 1 then (if nsJ ψ k j < 0 ∨ apJ ψ j k < nsJ ψ k j then apJ ψ j k else nsJ ψ k j) else nsJ ψ k j
def lkJ (ψ : St) (n g0 : Nat) (x : Int32) : Int32 := nI 10 - nI (pcN (rsJ ψ x g0 n))
def bsJ (ψ : St) (n g0 : Nat) : Nat → Int32
  | 0 => -1
  | k + 1 => if bsJ ψ n g0 k < 0 ∨ lkJ ψ n g0 (bsJ ψ n g0 k) < lkJ ψ n g0 (ψ 12 k) then ψ 12 k else bsJ ψ n g0 k
def xrJ (ψ : St) (x : Int32) (s : Nat) : Nat → Bool
  | 0 => false
  | k + 1 => xor (xrJ ψ x s k) (decide (ψ 5 k = x ∧ ψ 3 k = 1 ∧ (ψ 6 k).toNatClampNeg % 10 = s))
set_option maxRecDepth 100000 in
theorem bbT : ∀ s : Nat, s < 10 → ∀ y : Nat, y < 1024 → decide ((nI y >>> (nI s &&& 31)) &&& 1 = 1) = y.testBit s := by decide +kernel
theorem rs_bit (ψ : St) (x : Int32) (g0 s m : Nat) : (rsJ ψ x g0 m).testBit s = xor (g0.testBit s) (xrJ ψ x s m) := by
  induction m with
  | zero => rw [rsJ, xrJ, Bool.xor_false]
  | succ m ih =>
    rw [rsJ, xrJ]
    by_cases c : ψ 5 m = x ∧ ψ 3 m = 1
    · rw [if_pos c, Nat.testBit_xor, ih, Nat.testBit_two_pow, Bool.xor_assoc]
      congr 2
      simp [c]
    · rw [if_neg c, ih]
      have : decide (ψ 5 m = x ∧ ψ 3 m = 1 ∧ (ψ 6 m).toNatClampNeg % 10 = s) = false := decide_eq_false (fun z => c ⟨z.1, z.2.1⟩)
      rw [this, Bool.xor_false]
theorem xr_no {ψ : St} {x : Int32} {s m : Nat} (h : ∀ k, k < m → ¬ (ψ 5 k = x ∧ ψ 3 k = 1 ∧ (ψ 6 k).toNatClampNeg % 10 = s)) : xrJ ψ x s m = false := by
  induction m with
  | zero => rfl
  | succ m ih => rw [xrJ, ih (fun k hk => h k (by omega)), decide_eq_false (h m (by omega))]; rfl
theorem xr_one {ψ : St} {x : Int32} {s m k0 : Nat} (hk : k0 < m) (h0 : ψ 5 k0 = x ∧ ψ 3 k0 = 1 ∧ (ψ 6 k0).toNatClampNeg % 10 = s) (h : ∀ k, k < m → ψ 5 k = x ∧ ψ 3 k = 1 ∧ (ψ 6 k).toNatClampNeg % 10 = s → k = k0) : xrJ ψ x s m = true := by
  induction m with
  | zero => omega
  | succ m ih =>
    rw [xrJ]
    by_cases e : k0 = m
    · subst e
      rw [xr_no (fun k hk2 z => by have := h k (by omega) z; omega), decide_eq_true h0]; rfl
    · rw [ih (by omega) (fun k hk2 z => h k (by omega) z), decide_eq_false (fun z => e (h m (by omega) z).symm)]; rfl
def cnN (e : Nat → Nat) : Nat → Nat
  | 0 => 0
  | s + 1 => cnN e s + e s
section JOBS
variable {n b q d tm : Nat} {φ ψ : St} {C : List Nat}
theorem Jr.plx (R : Jr n b q d φ ψ) (i : IV n b q tm φ C) : PLx n ψ := fun k hk hp => by
  rw [R.hp i hk] at hp
  obtain ⟨r, c, F, P, -, -, -, -, -, -, -, hF, eP, h1, h2⟩ := pl_n i hk hp
  exact ⟨P, by omega, by rw [R.pl i hk hp]; exact eP⟩
theorem Jr.lp (R : Jr n b q d φ ψ) (i : IV n b q tm φ C) : lpF ψ n := fun k hk z => by
  rw [R.hp i hk]; exact i.lp k hk (by rw [R.l (j := 3) (by decide) hk]; exact z)
theorem J_ap (i : IV n b q tm φ C) (R : Jr n b q d φ ψ) {j k : Nat} (hj : j < n) (hk : k < n) (pj : hpB φ j = true) (pk : hpB φ k = true) : apJ ψ j k = ds φ j k := by
  rw [ap_ds (R.plx i) hj hk (by rw [R.hp i hj]; exact pj) (by rw [R.hp i hk]; exact pk)]
  unfold ds
  rw [R.pl i hj pj, R.pl i hk pk]
theorem J_near (i : IV n b q tm φ C) (R : Jr n b q d φ ψ) {x B : Nat} (hx : x < n) (hp : hpB φ x = true) (hB : B ≤ n) : ncB ψ x B = nearB φ x B := by
  rw [nc_near (R.plx i) (R.lp i) hx (by rw [R.hp i hx]; exact hp) hB, ← nearB_ov φ, R.r.near i.x.h i.x.2.1 hx hB hp i.lp]
theorem J_load (i : IV n b q tm φ C) (R : Jr n b q d φ ψ) {r : Nat} (hr : r < b) : ldS ψ (nI r) n = wtS φ r 10 := by
  rw [wt_ld (fun r s hr hs => i.x.sl r s hr hs) i.sc i.x.1 i.x.2.1 hr, R.r.ld _ (Nat.le_refl n), ldS_ov]
theorem J_nr (i : IV n b q tm φ C) (R : Jr n b q d φ ψ) {k m : Nat} (hk : k < n) (hp : hpB φ k = true) (hm : m ≤ n) : nsJ ψ k m = nrS φ k m := by
  induction m with
  | zero => rfl
  | succ m ih =>
    rw [nsJ, nrS, ih (by omega), ← R.l (j := 3) (by decide) (show m < n by omega)]
    by_cases c : m ≠ k ∧ φ 3 m = 1
    · rw [if_pos c, if_pos c, J_ap i R (show m < n by omega) hk (i.lp m (by omega) c.2) hp]
      have e : nrS φ k m < 0 ↔ nrS φ k m = -1 := by
        rcases nrS_mn i hk hp (show m ≤ n by omega) with ⟨z, -⟩ | ⟨j, -, hD, z, -⟩
        · rw [z]; exact ⟨fun _ => rfl, fun _ => by decide⟩
        · rw [z]; exact ⟨fun y => absurd y (nI_pos (by omega)), fun y => absurd y (nI_nm1 (by omega))⟩
      simp only [e]
    · rw [if_neg c, if_neg c]
/-- a lit one's distance is no negative number -/
theorem J_app (i : IV n b q tm φ C) (R : Jr n b q d φ ψ) {k : Nat} (hk : k < n) (hp : hpB φ k = true) : ∀ j, j < n → ψ 3 j = 1 → ¬ apJ ψ j k < 0 := fun j hj h3 => by
  have pj := i.lp j hj (by rw [R.l (j := 3) (by decide) hj]; exact h3)
  rw [J_ap i R hj hk pj hp, ds_comm, (ds_n i hk hj hp pj).1]
  exact nI_pos (by have := (ds_n i hk hj hp pj).2; omega)
theorem J_h6 (i : IV n b q tm φ C) (R : Jr n b q d φ ψ) {r : Nat} (hr : r < 8) : ∀ k, k < n → ψ 5 k = nI r → ψ 3 k = 1 → ∃ s, s < 10 ∧ ψ 6 k = nI s := fun k hk h5 _ => by
  have e5 : φ 5 k = nI r := (R.l (j := 5) (by decide) hk).trans h5
  have hne : φ 5 k ≠ -1 := by rw [e5]; exact nI_nm1 (by omega)
  obtain ⟨s, hs, e6⟩ := i.sc.2 k hk hne
  exact ⟨s, hs, by rw [← e6, R.r.s6 hk hne, ov_n _ _ (by decide)]⟩
theorem J_xr (i : IV n b q tm φ C) (R : Jr n b q d φ ψ) {r s : Nat} (hr : r < b) (hs : s < 10) : xrJ ψ (nI r) s n = shB φ r s := by
  have hb := i.x.2.1
  have hn := i.x.1
  have key : ∀ k, k < n → ψ 5 k = nI r ∧ ψ 3 k = 1 ∧ (ψ 6 k).toNatClampNeg % 10 = s → φ (30 + r) s = nI k ∧ φ 3 k = 1 := fun k hk z => by
    have e5 : φ 5 k = nI r := (R.l (j := 5) (by decide) hk).trans z.1
    obtain ⟨s', hs', e6⟩ := J_h6 i R (show r < 8 by omega) k hk z.1 z.2.1
    have z6 := z.2.2
    rw [e6, nI_clamp (by omega), Nat.mod_eq_of_lt hs'] at z6
    subst z6
    have f6 : φ 6 k = nI s' := by rw [R.r.s6 hk (by rw [e5]; exact nI_nm1 (by omega)), ov_n _ _ (by decide)]; exact e6
    exact ⟨(i.sc.1 r hr s' hs k hk).mpr ⟨e5, f6⟩, (R.l (j := 3) (by decide) hk).trans z.2.1⟩
  unfold shB
  rcases i.x.sl r s hr hs with e | ⟨k0, hk0, e⟩
  · rw [e, xr_no (fun k hk z => nI_nm1 (show k < 2 ^ 31 by omega) ((key k hk z).1.symm.trans e))]; rfl
  · rw [e, nI_clamp (by omega), decide_eq_true (nI_nm1 (show k0 < 2 ^ 31 by omega)), Bool.true_and]
    by_cases h3 : φ 3 k0 = 1
    · rw [decide_eq_true h3]
      obtain ⟨e5, e6⟩ := (i.sc.1 r hr s hs k0 hk0).mp e
      refine xr_one hk0 ⟨(R.l (j := 5) (by decide) hk0).symm.trans e5, (R.l (j := 3) (by decide) hk0).symm.trans h3, ?_⟩ (fun k hk z => ?_)
      · have := R.r.s6 hk0 (by rw [e5]; exact nI_nm1 (by omega))
        rw [ov_n _ _ (by decide), e6] at this
        rw [← this, nI_clamp (by omega), Nat.mod_eq_of_lt hs]
      · exact (nI_eq (by omega) (by omega)).mp ((key k hk z).1.symm.trans e)
    · rw [decide_eq_false h3, xr_no (fun k hk z => ?_)]
      obtain ⟨z1, z2⟩ := key k hk z
      have : k = k0 := (nI_eq (by omega) (by omega)).mp (z1.symm.trans e)
      exact h3 (by rw [← this]; exact z2)
theorem J_like (i : IV n b q tm φ C) (R : Jr n b q d φ ψ) {r g0 : Nat} (hr : r < b) (hg : g0 < 1024) : axS φ r (nI g0) 10 = lkJ ψ n g0 (nI r) ∧ ∃ a, a ≤ 10 ∧ lkJ ψ n g0 (nI r) = nI a := by
  have hrs := rsJ_lt ψ (nI r) hg n
  have e1 : ∀ m, m ≤ 10 → axS φ r (nI g0) m = nI (cnN (fun s => 1 - bN (rsJ ψ (nI r) g0 n) s) m) := by
    intro m hm
    induction m with
    | zero => rfl
    | succ m ih =>
      rw [axS, ih (by omega), cnN, ← nI_add]
      congr 1
      have hb9 := bbT m (by omega) _ hrs
      have hg9 := bbT m (by omega) _ hg
      rw [hg9, ← J_xr i R hr (show m < 10 by omega)]
      have hx := rs_bit ψ (nI r) g0 m n
      unfold bN
      by_cases c : (nI (rsJ ψ (nI r) g0 n) >>> (nI m &&& 31)) &&& 1 = 1
      · rw [if_pos c]
        rw [decide_eq_true c] at hb9
        rw [← hb9] at hx
        rw [if_neg (fun z => by rw [z] at hx; simp at hx)]; rfl
      · rw [if_neg c]
        rw [decide_eq_false c] at hb9
        rw [← hb9] at hx
        rw [if_pos ?_]; rfl
        revert hx
        cases xrJ ψ (nI r) m n <;> cases g0.testBit m <;> simp
  have h01 : ∀ s, bN (rsJ ψ (nI r) g0 n) s ≤ 1 := fun s => by unfold bN; split <;> omega
  have e2 : cnN (fun s => 1 - bN (rsJ ψ (nI r) g0 n) s) 10 = 10 - pcN (rsJ ψ (nI r) g0 n) ∧ pcN (rsJ ψ (nI r) g0 n) ≤ 10 := by
    have := h01 0; have := h01 1; have := h01 2; have := h01 3; have := h01 4
    have := h01 5; have := h01 6; have := h01 7; have := h01 8; have := h01 9
    simp only [cnN, pcN]
    omega
  have e3 : lkJ ψ n g0 (nI r) = nI (10 - pcN (rsJ ψ (nI r) g0 n)) := by unfold lkJ; exact pk_sub e2.2
  exact ⟨by rw [e1 10 (Nat.le_refl 10), e2.1, e3], _, by omega, e3⟩
theorem J_pz (i : IV n b q tm φ C) (R : Jr n b q d φ ψ) {g0 : Nat} (hg : g0 < 1024) {m : Nat} (hm : m ≤ q - d) : pzF φ (nI g0) (d + m) = (bsJ ψ n g0 m, if m = 0 then -1 else lkJ ψ n g0 (bsJ ψ n g0 m)) ∧ (m = 0 ∧ bsJ ψ n g0 m = -1 ∨ 0 < m ∧ ∃ r, r < b ∧ bsJ ψ n g0 m = nI r) := by
  have hb := i.x.2.1
  have hd := R.dq
  induction m with
  | zero =>
    refine ⟨?_, Or.inl ⟨rfl, rfl⟩⟩
    have key : ∀ c, c ≤ d → pzF φ (nI g0) c = (-1, -1) := by
      intro c hc
      induction c with
      | zero => rfl
      | succ c ih =>
        rw [pzF, if_neg, ih (by omega)]
        intro z
        have y := R.gn c (by omega)
        rw [show φ 10 (N (φ 12 c)) = 1 from z.1] at y
        exact absurd y (by decide)
    rw [Nat.add_zero, key d (Nat.le_refl d)]; rfl
  | succ m ih =>
    obtain ⟨h1, h2⟩ := ih (by omega)
    obtain ⟨r, hr, e12, f12, h10⟩ := R.riv i m (by omega)
    obtain ⟨hl, a, ha, ea⟩ := J_like i R hr hg
    rw [← Nat.add_assoc, pzF, bsJ, h1, f12, e12, nI_clamp (by omega), hl]
    rcases h2 with ⟨z0, zb⟩ | ⟨z0, r2, hr2, zb⟩
    · subst z0
      rw [zb, if_pos ⟨h10, by rw [if_pos rfl, ea]; exact m1_lt (by omega)⟩, if_pos (Or.inl (by decide)), if_neg (by omega)]
      exact ⟨rfl, Or.inr ⟨by omega, r, hr, rfl⟩⟩
    · rw [zb, if_neg (show ¬ m = 0 by omega), if_neg (show ¬ m + 1 = 0 by omega)]
      by_cases c : lkJ ψ n g0 (nI r2) < lkJ ψ n g0 (nI r)
      · rw [if_pos ⟨h10, c⟩, if_pos (Or.inr c)]
        exact ⟨rfl, Or.inr ⟨by omega, r, hr, rfl⟩⟩
      · rw [if_neg (fun z => c z.2), if_neg (fun z => z.elim (nI_pos (by omega)) c)]
        exact ⟨rfl, Or.inr ⟨by omega, r2, hr2, rfl⟩⟩
theorem J_prize (i : IV n b q tm φ C) (R : Jr n b q d φ ψ) {g0 : Nat} (hg : g0 < 1024) : (pzF φ (nI g0) q).1 = bsJ ψ n g0 (q - d) := by
  have := (J_pz i R hg (Nat.le_refl (q - d))).1
  rw [show d + (q - d) = q by have := R.dq; omega] at this
  rw [this]
/-- how many float on the river -/
theorem J_ro (i : IV n b q tm φ C) (R : Jr n b q d φ ψ) : roS φ q = nI (q - d) := by
  have hb := i.x.2.1
  have hd := R.dq
  have key : ∀ c, c ≤ q → roS φ c = nI (c - d) := by
    intro c hc
    induction c with
    | zero => rw [Nat.zero_sub]; rfl
    | succ c ih =>
      rw [roS, ih (by omega)]
      rcases Nat.lt_or_ge c d with z | z
      · rw [if_neg (fun y => by have w := R.gn c z; rw [show φ 10 (N (φ 12 c)) = 1 from y] at w; exact absurd w (by decide)), Int32.add_zero, show c - d = 0 by omega, show c + 1 - d = 0 by omega]
      · rw [if_pos (show φ 10 (φ 12 c).toNatClampNeg = 1 from R.rv c z (by omega)), nI_1, show c + 1 - d = c - d + 1 by omega]
  exact key q (Nat.le_refl q)
/-- the last one afloat -/
theorem J_rm (i : IV n b q tm φ C) (R : Jr n b q d φ ψ) : (q - d = 0 → rmS φ q = -1) ∧ (0 < q - d → ∃ r, r < b ∧ rmS φ q = nI r ∧ ψ 12 (q - d - 1) = nI r ∧ φ 10 r = 1) := by
  have hb := i.x.2.1
  have hd := R.dq
  refine ⟨fun z => ?_, fun z => ?_⟩
  · have key : ∀ c, c ≤ d → rmS φ c = -1 := by
      intro c hc
      induction c with
      | zero => rfl
      | succ c ih => rw [rmS, if_neg (fun y => by have w := R.gn c (by omega); rw [show φ 10 (N (φ 12 c)) = 1 from y] at w; exact absurd w (by decide))]; exact ih (by omega)
    rw [show q = d by omega]; exact key d (Nat.le_refl d)
  · obtain ⟨r, hr, e12, f12, h10⟩ := R.riv i (q - d - 1) (by omega)
    refine ⟨r, hr, ?_, e12, h10⟩
    obtain ⟨c, rfl⟩ : ∃ c, q = c + 1 := ⟨q - 1, by omega⟩
    rw [show d + (c + 1 - d - 1) = c by omega] at f12
    rw [rmS, f12, nI_clamp (by omega), if_pos h10]
end JOBS
