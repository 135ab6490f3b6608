/-! the nearest -/
def MN (P : Nat → Prop) (D : Nat → Nat) (v : Int32) : Prop := (v = -1 ∧ ∀ j, ¬ P j) ∨ ∃ j, P j ∧ D j < 1000 ∧ v = nI (D j) ∧ ∀ j', P j' → D j ≤ D j'
theorem MN.uniq {P : Nat → Prop} {D : Nat → Nat} {v w : Int32} (h1 : MN P D v) (h2 : MN P D w) : v = w := by
  rcases h1 with ⟨e1, n1⟩ | ⟨j1, p1, d1, e1, m1⟩ <;> rcases h2 with ⟨e2, n2⟩ | ⟨j2, p2, d2, e2, m2⟩
  · rw [e1, e2]
  · exact absurd p2 (n1 j2)
  · exact absurd p1 (n2 j1)
  · have := m1 j2 p2
    have := m2 j1 p1
    rw [e1, e2, show D j1 = D j2 by omega]
theorem MN.eqv {P Q : Nat → Prop} {D : Nat → Nat} {v : Int32} (h : MN P D v) (e : ∀ j, P j ↔ Q j) : MN Q D v := by
  rcases h with ⟨e1, n1⟩ | ⟨j1, p1, d1, e1, m1⟩
  · exact Or.inl ⟨e1, fun j z => n1 j ((e j).mpr z)⟩
  · exact Or.inr ⟨j1, (e j1).mp p1, d1, e1, fun j' z => m1 j' ((e j').mpr z)⟩
theorem m1_lt {a : Nat} (h : a < 1000) : (-1 : Int32) < nI a := by
  rw [Int32.lt_iff_toInt_lt, nI_toInt (by omega)]
  show (-1 : Int) < _
  omega
theorem MN.un {P Q : Nat → Prop} {D : Nat → Nat} {v w : Int32} (h1 : MN P D v) (h2 : MN Q D w) : MN (fun j => P j ∨ Q j) D (nrI v w) := by
  rcases h1 with ⟨e1, n1⟩ | ⟨j1, p1, d1, e1, m1⟩ <;> rcases h2 with ⟨e2, n2⟩ | ⟨j2, p2, d2, e2, m2⟩
  · rw [e1, e2]; exact Or.inl ⟨rfl, fun j z => z.elim (n1 j) (n2 j)⟩
  · rw [e1, e2, nrI, if_pos (Or.inl rfl), if_pos (m1_lt d2)]
    exact Or.inr ⟨j2, Or.inr p2, d2, rfl, fun j' z => z.elim (fun y => absurd y (n1 j')) (m2 j')⟩
  · rw [e1, e2, nrI, if_pos (Or.inr rfl), if_neg (lt_as9 (m1_lt d1))]
    exact Or.inr ⟨j1, Or.inl p1, d1, rfl, fun j' z => z.elim (m1 j') (fun y => absurd y (n2 j'))⟩
  · rw [e1, e2, nrI, if_neg (fun z => z.elim (nI_nm1 (by omega)) (nI_nm1 (by omega)))]
    by_cases c : D j2 < D j1
    · rw [if_pos ((nI_ltI (by omega) (by omega)).mpr c)]
      exact Or.inr ⟨j2, Or.inr p2, d2, rfl, fun j' z => z.elim (fun y => by have := m1 j' y; omega) (m2 j')⟩
    · rw [if_neg (fun z => c ((nI_ltI (by omega) (by omega)).mp z))]
      exact Or.inr ⟨j1, Or.inl p1, d1, rfl, fun j' z => z.elim (m1 j') (fun y => by have := m2 j' y; omega)⟩
theorem MN.no (D : Nat → Nat) : MN (fun _ => False) D (-1) := Or.inl ⟨rfl, fun _ z => z⟩
theorem MN.one {D : Nat → Nat} {j0 : Nat} (h : D j0 < 1000) : MN (fun j => j = j0) D (nI (D j0)) := Or.inr ⟨j0, rfl, h, rfl, fun j' e => by rw [e]; exact Nat.le_refl _⟩
def DD (f : St) (k j : Nat) : Nat := if N (pl f k) ≤ N (pl f j) then N (pl f j) - N (pl f k) else N (pl f k) - N (pl f j)
section NE
variable {n b q tm : Nat} {f : St} {C : List Nat}
theorem pl_n (i : IV n b q tm f C) {j : Nat} (hj : j < n) (hp : hpB f j = true) : ∃ r c F P, r < b ∧ c < q ∧ f 12 c = nI r ∧ f 5 j = nI r ∧ f 10 r = 1 ∧ f 24 r = nI c ∧ f 11 r = nI F ∧ F < 500 ∧ pl f j = nI P ∧ P ≤ F ∧ F ≤ P + 9 := by
  have hb := i.x.2.1
  obtain ⟨r, hr, e5, e10⟩ := hpB_yes i.x.h hb hj hp
  obtain ⟨F, hF9, hF5, eF⟩ := i.ge.1 r hr e10
  obtain ⟨s, hs, e6⟩ := i.sc.2 j hj (by rw [e5]; exact nI_nm1 (by omega))
  obtain ⟨c, hc, ec, e24⟩ := i.lc.2.2.2 r hr (by rw [e10]; decide)
  refine ⟨r, c, F, F - s, hr, hc, ec, e5, e10, e24, eF, hF5, ?_, by omega, by omega⟩
  unfold pl
  rw [e5, nI_clamp (by omega), eF, e6]
  exact pk_sub (by omega)
theorem plN_of (i : IV n b q tm f C) : plN f n := fun k hk hp => by
  obtain ⟨r, c, F, P, -, -, -, -, -, -, -, hF, e, h1, h2⟩ := pl_n i hk hp
  rw [e]; exact nI_nm1 (by omega)
theorem ds_n (i : IV n b q tm f C) {k j : Nat} (hk : k < n) (hj : j < n) (hp : hpB f k = true) (hq : hpB f j = true) : ds f k j = nI (DD f k j) ∧ DD f k j < 1000 := by
  obtain ⟨r, c, F, P, -, -, -, -, -, -, -, hF, e, h1, h2⟩ := pl_n i hk hp
  obtain ⟨r', c', F', P', -, -, -, -, -, -, -, hF', e', h1', h2'⟩ := pl_n i hj hq
  unfold ds DD
  rw [e, e', show N (nI P) = P from nI_clamp (by omega), show N (nI P') = P' from nI_clamp (by omega)]
  by_cases h : P' ≤ P
  · rw [pk_sub h, if_neg (nI_pos (by omega))]
    by_cases h2 : P ≤ P'
    · rw [if_pos h2, show P - P' = P' - P by omega]; exact ⟨rfl, by omega⟩
    · rw [if_neg h2]; exact ⟨rfl, by omega⟩
  · have hlt : nI P - nI P' < 0 := by
      rw [Int32.lt_iff_toInt_lt, pk_sub_toInt (by omega) (by omega)]
      show _ < (0 : Int)
      omega
    rw [if_pos hlt, if_pos (by omega), Int32.neg_sub, pk_sub (by omega)]
    exact ⟨rfl, by omega⟩
/-- the other lit ones -/
def LO (f : St) (n k j : Nat) : Prop := j < n ∧ j ≠ k ∧ f 3 j = 1
theorem nrS_mn (i : IV n b q tm f C) {k : Nat} (hk : k < n) (hp : hpB f k = true) {m : Nat} (hm : m ≤ n) : MN (fun j => LO f n k j ∧ j < m) (DD f k) (nrS f k m) := by
  induction m with
  | zero => exact (MN.no _).eqv (fun j => ⟨fun z => z.elim, fun z => by omega⟩)
  | succ m ih =>
    rw [nrS]
    by_cases c : m ≠ k ∧ f 3 m = 1
    · rw [if_pos c]
      obtain ⟨e1, e2⟩ := ds_n i hk (show m < n by omega) hp (i.lp m (by omega) c.2)
      have h2 := (ih (by omega)).un (MN.one (D := DD f k) (j0 := m) e2)
      have ev : (if nrS f k m = -1 ∨ ds f m k < nrS f k m then ds f m k else nrS f k m) = nrI (nrS f k m) (nI (DD f k m)) := by
        rw [ds_comm, e1, nrI]
        rcases ih (by omega) with ⟨z, -⟩ | ⟨j, -, d1, z, -⟩
        · rw [z, if_pos (Or.inl rfl), if_pos (Or.inl rfl), if_pos (m1_lt e2)]
        · have hz : ¬ (nI (DD f k j) = -1 ∨ nI (DD f k m) = -1) := fun z => z.elim (nI_nm1 (by omega)) (nI_nm1 (by omega))
          rw [z, if_neg hz]
          by_cases c2 : nI (DD f k m) < nI (DD f k j)
          · rw [if_pos (Or.inr c2), if_pos c2]
          · rw [if_neg (fun z => z.elim (nI_nm1 (by omega)) c2), if_neg c2]
      rw [ev]
      refine h2.eqv (fun j => ⟨fun z => ?_, fun z => ?_⟩)
      · rcases z with z | z
        · exact ⟨z.1, by omega⟩
        · rw [z]; exact ⟨⟨by omega, c.1, c.2⟩, by omega⟩
      · by_cases e : j = m
        · exact Or.inr e
        · exact Or.inl ⟨z.1, by omega⟩
    · rw [if_neg c]
      refine (ih (by omega)).eqv (fun j => ⟨fun z => ⟨z.1, by omega⟩, fun z => ⟨z.1, ?_⟩⟩)
      have : j ≠ m := fun e => c (by rw [← e]; exact ⟨z.1.2.1, z.1.2.2⟩)
      omega
theorem noF_mn (i : IV n b q tm f C) {k : Nat} (hk : k < n) (hp : hpB f k = true) {m : Nat} (hm : m ≤ n) : MN (fun j => LO f n k j ∧ j < m) (DD f k) (noF f k m) := by
  induction m with
  | zero => exact (MN.no _).eqv (fun j => ⟨fun z => z.elim, fun z => by omega⟩)
  | succ m ih =>
    rw [noF]
    by_cases c : m ≠ k ∧ f 3 m = 1
    · rw [if_pos c]
      obtain ⟨e1, e2⟩ := ds_n i hk (show m < n by omega) hp (i.lp m (by omega) c.2)
      rw [e1]
      refine ((ih (by omega)).un (MN.one (D := DD f k) (j0 := m) e2)).eqv (fun j => ⟨fun z => ?_, fun z => ?_⟩)
      · rcases z with z | z
        · exact ⟨z.1, by omega⟩
        · rw [z]; exact ⟨⟨by omega, c.1, c.2⟩, by omega⟩
      · by_cases e : j = m
        · exact Or.inr e
        · exact Or.inl ⟨z.1, by omega⟩
    · rw [if_neg c]
      refine (ih (by omega)).eqv (fun j => ⟨fun z => ⟨z.1, by omega⟩, fun z => ⟨z.1, ?_⟩⟩)
      have : j ≠ m := fun e => c (by rw [← e]; exact ⟨z.1.2.1, z.1.2.2⟩)
      omega
theorem no_nr (i : IV n b q tm f C) {k : Nat} (hk : k < n) (hp : hpB f k = true) : noF f k n = nrS f k n := (noF_mn i hk hp (Nat.le_refl n)).uniq (nrS_mn i hk hp (Nat.le_refl n))
theorem nl_mn (i : IV n b q tm f C) {r k : Nat} (hr : r < b) (hk : k < n) (hp : hpB f k = true) {m : Nat} (hm : m ≤ 10) : MN (fun j => LO f n k j ∧ ∃ s, s < m ∧ f (30 + r) s = nI j) (DD f k) (nlS f r k m) := by
  have hn := i.x.1
  induction m with
  | zero => exact (MN.no _).eqv (fun j => ⟨fun z => z.elim, fun ⟨_, s, hs, _⟩ => by omega⟩)
  | succ m ih =>
    rw [nlS]
    unfold nlT
    rcases i.x.sl r m hr (by omega) with e | ⟨j0, hj0, e⟩
    · rw [e]
      refine (ih (by omega)).eqv (fun j => ⟨fun ⟨z, s, hs, y⟩ => ⟨z, s, by omega, y⟩, fun ⟨z, s, hs, y⟩ => ⟨z, s, ?_, y⟩⟩)
      have : s ≠ m := fun e2 => by rw [e2, e] at y; have := z.1; exact absurd y.symm (nI_nm1 (by omega))
      omega
    · rw [e, nI_clamp (by omega), decide_eq_true (nI_nm1 (show j0 < 2 ^ 31 by omega)), Bool.true_and]
      by_cases c : j0 ≠ k ∧ f 3 j0 = 1
      · rw [decide_eq_true (show nI j0 ≠ nI k from fun z => c.1 ((nI_eq (by omega) (by omega)).mp z)), decide_eq_true c.2]
        simp only [Bool.and_self, reduceIte]
        obtain ⟨e1, e2⟩ := ds_n i hk hj0 hp (i.lp j0 hj0 c.2)
        rw [e1]
        refine ((ih (by omega)).un (MN.one (D := DD f k) (j0 := j0) e2)).eqv (fun j => ⟨fun z => ?_, fun ⟨z, s, hs, y⟩ => ?_⟩)
        · rcases z with ⟨z, s, hs, y⟩ | z
          · exact ⟨z, s, by omega, y⟩
          · rw [z]; exact ⟨⟨hj0, c.1, c.2⟩, m, by omega, e⟩
        · by_cases e3 : s = m
          · rw [e3, e] at y
            have := z.1
            exact Or.inr ((nI_eq (by omega) (by omega)).mp y).symm
          · exact Or.inl ⟨z, s, by omega, y⟩
      · have hF : ¬ (decide (nI j0 ≠ nI k) && decide (f 3 j0 = 1)) = true := fun z => by
          rw [Bool.and_eq_true] at z
          exact c ⟨fun y => of_decide_eq_true z.1 (by rw [y]), of_decide_eq_true z.2⟩
        rw [if_neg hF]
        refine (ih (by omega)).eqv (fun j => ⟨fun ⟨z, s, hs, y⟩ => ⟨z, s, by omega, y⟩, fun ⟨z, s, hs, y⟩ => ⟨z, s, ?_, y⟩⟩)
        have : s ≠ m := fun e2 => by
          rw [e2, e] at y
          have h9 := z.1
          have := (nI_eq (by omega) (by omega)).mp y
          exact c (by rw [this]; exact ⟨z.2.1, z.2.2⟩)
        omega
theorem nl_fl (i : IV n b q tm f C) {r k : Nat} (hr : r < b) (hk : k < n) (hp : hpB f k = true) : MN (fun j => LO f n k j ∧ f 5 j = nI r) (DD f k) (nlS f r k 10) := by
  have hb := i.x.2.1
  refine (nl_mn i hr hk hp (Nat.le_refl 10)).eqv (fun j => ⟨fun ⟨z, s, hs, y⟩ => ⟨z, ((i.sc.1 r hr s hs j z.1).mp y).1⟩, fun ⟨z, y⟩ => ?_⟩)
  obtain ⟨s, hs, e6⟩ := i.sc.2 j z.1 (by rw [y]; exact nI_nm1 (by omega))
  exact ⟨z, s, hs, (i.sc.1 r hr s hs j z.1).mpr ⟨y, e6⟩⟩
/-- where the lit ones are -/
theorem where_n (i : IV n b q tm f C) {j c : Nat} (hj : j < n) (hp : hpB f j = true) (hc : c < q) (e : f 5 j = f 12 c) : ∃ F, N (f 11 (N (f 12 c))) = F ∧ f 10 (N (f 12 c)) = 1 ∧ N (pl f j) ≤ F ∧ F ≤ N (pl f j) + 9 := by
  have hb := i.x.2.1
  obtain ⟨r, c2, F, P, hr, -, -, e5, e10, -, eF, hF, eP, h1, h2⟩ := pl_n i hj hp
  have hN : N (f 12 c) = r := by rw [← e, e5]; exact nI_clamp (by omega)
  rw [hN, eF, eP]
  exact ⟨F, nI_clamp (by omega), e10, by rw [show N (nI P) = P from nI_clamp (by omega)]; exact h1, by rw [show N (nI P) = P from nI_clamp (by omega)]; exact h2⟩
theorem na_mn (i : IV n b q tm f C) {k o : Nat} (hk : k < n) (hp : hpB f k = true) (ho : o < q) (eo : f 5 k = f 12 o) {m : Nat} (hm : m ≤ o) : MN (fun j => LO f n k j ∧ ∃ c, c < m ∧ f 5 j = f 12 c) (DD f k) (naF f k m) := by
  have hb := i.x.2.1
  induction m with
  | zero => exact (MN.no _).eqv (fun j => ⟨fun z => z.elim, fun ⟨_, s, hs, _⟩ => by omega⟩)
  | succ m ih =>
    obtain ⟨r, hr, er⟩ := i.x.o m (by omega)
    have hnl := nl_fl i hr hk hp
    rw [naF, er, nI_clamp (by omega)]
    rcases hnl with ⟨z, y⟩ | ⟨j0, p0, d0, z, y⟩
    · rw [if_pos z]
      refine (ih (by omega)).eqv (fun j => ⟨fun ⟨h, c, hc, e⟩ => ⟨h, c, by omega, e⟩, fun ⟨h, c, hc, e⟩ => ⟨h, c, ?_, e⟩⟩)
      have : c ≠ m := fun e2 => y j ⟨h, by rw [e, e2, er]⟩
      omega
    · rw [if_neg (by rw [z]; exact nI_nm1 (by omega)), z]
      refine Or.inr ⟨j0, ⟨p0.1, m, by omega, p0.2.trans er.symm⟩, d0, rfl, fun j' ⟨h, c, hc, e⟩ => ?_⟩
      by_cases e2 : c = m
      · exact y j' ⟨h, by rw [e, e2, er]⟩
      · obtain ⟨Fk, eFk, rk, k1, k2⟩ := where_n i hk hp ho eo
        obtain ⟨Fm, eFm, rm, m1, m2⟩ := where_n i p0.1.1 (i.lp j0 p0.1.1 p0.1.2.2) (show m < q by omega) (p0.2.trans er.symm)
        obtain ⟨Fc, eFc, rc, c1, c2⟩ := where_n i h.1 (i.lp j' h.1 h.2.2) (show c < q by omega) e
        have g1 := i.ge.2 c m (by omega) (by omega) rc rm
        have g2 := i.ge.2 m o (by omega) ho rm rk
        rw [eFm, eFc] at g1
        rw [eFk, eFm] at g2
        unfold DD
        rw [if_pos (by omega), if_pos (by omega)]
        omega
theorem nb_mn (i : IV n b q tm f C) {k o : Nat} (hk : k < n) (hp : hpB f k = true) (ho : o < q) (eo : f 5 k = f 12 o) {d : Nat} (hd : d ≤ q - (o + 1)) : MN (fun j => LO f n k j ∧ ∃ c, q - d ≤ c ∧ c < q ∧ f 5 j = f 12 c) (DD f k) (nbF f k q d) := by
  have hb := i.x.2.1
  induction d with
  | zero => exact (MN.no _).eqv (fun j => ⟨fun z => z.elim, fun ⟨_, s, hs, _⟩ => by omega⟩)
  | succ d ih =>
    obtain ⟨r, hr, er⟩ := i.x.o (q - (d + 1)) (by omega)
    have hnl := nl_fl i hr hk hp
    rw [nbF, er, nI_clamp (by omega)]
    rcases hnl with ⟨z, y⟩ | ⟨j0, p0, d0, z, y⟩
    · rw [if_pos z]
      refine (ih (by omega)).eqv (fun j => ⟨fun ⟨h, c, hc, e⟩ => ⟨h, c, by omega, e⟩, fun ⟨h, c, hc, hc2, e⟩ => ⟨h, c, ?_, hc2, e⟩⟩)
      have : c ≠ q - (d + 1) := fun e2 => y j ⟨h, by rw [e, e2, er]⟩
      omega
    · rw [if_neg (by rw [z]; exact nI_nm1 (by omega)), z]
      refine Or.inr ⟨j0, ⟨p0.1, q - (d + 1), by omega, by omega, p0.2.trans er.symm⟩, d0, rfl, fun j' ⟨h, c, hc, hc2, e⟩ => ?_⟩
      by_cases e2 : c = q - (d + 1)
      · exact y j' ⟨h, by rw [e, e2, er]⟩
      · obtain ⟨Fk, eFk, rk, k1, k2⟩ := where_n i hk hp ho eo
        obtain ⟨Fm, eFm, rm, m1, m2⟩ := where_n i p0.1.1 (i.lp j0 p0.1.1 p0.1.2.2) (show q - (d + 1) < q by omega) (p0.2.trans er.symm)
        obtain ⟨Fc, eFc, rc, c1, c2⟩ := where_n i h.1 (i.lp j' h.1 h.2.2) hc2 e
        have g1 := i.ge.2 (q - (d + 1)) c (by omega) hc2 rm rc
        have g2 := i.ge.2 o (q - (d + 1)) (by omega) (by omega) rk rm
        rw [eFm, eFc] at g1
        rw [eFk, eFm] at g2
        unfold DD
        rw [if_neg (by omega), if_neg (by omega)]
        omega
theorem ne_nr (i : IV n b q tm f C) {k : Nat} (hk : k < n) : neC f q k = if hpB f k = true then nrS f k n else -1 := by
  have hb := i.x.2.1
  have hq := i.x.2.2.1
  unfold neC
  by_cases hp : hpB f k = true
  · rw [if_pos hp, if_pos hp]
    obtain ⟨r, o, F, P, hr, ho, eo, e5, e10, e24, -, -, -, -, -⟩ := pl_n i hk hp
    rw [e5, nI_clamp (by omega), e24, nI_clamp (by omega)]
    have e5o : f 5 k = f 12 o := by rw [e5, eo]
    refine (((nl_fl i hr hk hp).un ((na_mn i hk hp ho e5o (Nat.le_refl o)).un (nb_mn i hk hp ho e5o (Nat.le_refl _)))).eqv (fun j => ⟨fun z => ?_, fun z => ?_⟩)).uniq (nrS_mn i hk hp (Nat.le_refl n))
    · rcases z with z | z | z
      · exact ⟨z.1, z.1.1⟩
      · exact ⟨z.1, z.1.1⟩
      · exact ⟨z.1, z.1.1⟩
    · obtain ⟨r2, c, -, -, hr2, hc, ec, e52, -, -, -, -, -, -, -⟩ := pl_n i z.1.1 (i.lp j z.1.1 z.1.2.2)
      rcases Nat.lt_trichotomy c o with y | y | y
      · exact Or.inr (Or.inl ⟨z.1, c, y, e52.trans ec.symm⟩)
      · subst y; exact Or.inl ⟨z.1, by rw [e52, ← ec, eo]⟩
      · exact Or.inr (Or.inr ⟨z.1, c, by omega, hc, e52.trans ec.symm⟩)
  · rw [if_neg hp, if_neg hp]
end NE
