/-! sums -/
def sm (F : Nat → Int32) : Nat → Int32
  | 0 => 0
  | k + 1 => sm F k + F k
theorem sm_congr {F G : Nat → Int32} {m : Nat} (h : ∀ k, k < m → F k = G k) : sm F m = sm G m := by
  induction m with
  | zero => rfl
  | succ m ih => rw [sm, sm, ih (fun k hk => h k (by omega)), h m (by omega)]
theorem sm_zero (m : Nat) : sm (fun _ => 0) m = 0 := by
  induction m with
  | zero => rfl
  | succ m ih => rw [sm, ih]; rfl
theorem sm_add (F G : Nat → Int32) (m : Nat) : sm (fun k => F k + G k) m = sm F m + sm G m := by
  induction m with
  | zero => rfl
  | succ m ih =>
    rw [sm, sm, sm, ih, Int32.add_assoc, Int32.add_assoc]
    congr 1
    rw [← Int32.add_assoc, ← Int32.add_assoc, Int32.add_comm (sm G m)]
theorem sm_swap (G : Nat → Nat → Int32) (n m : Nat) : sm (fun s => sm (fun k => G s k) n) m = sm (fun k => sm (fun s => G s k) m) n := by
  induction m with
  | zero => rw [sm]; exact (sm_zero n).symm
  | succ m ih => rw [sm, ih, ← sm_add]; rfl
theorem sm_one {F : Nat → Int32} {m i : Nat} (hi : i < m) (h : ∀ k, k < m → k ≠ i → F k = 0) : sm F m = F i := by
  induction m with
  | zero => omega
  | succ m ih =>
    rw [sm]
    by_cases e : i = m
    · subst e
      rw [sm_congr (G := fun _ => 0) (fun k hk => h k (by omega) (by omega)), sm_zero, Int32.zero_add]
    · rw [ih (by omega) (fun k hk => h k (by omega)), h m (by omega) (fun z => e z.symm), Int32.add_zero]
theorem sm_none {F : Nat → Int32} {m : Nat} (h : ∀ k, k < m → F k = 0) : sm F m = 0 := by rw [sm_congr (G := fun _ => 0) h, sm_zero]
theorem ldS_sm (f : St) (x : Int32) (m : Nat) : ldS f x m = sm (fun k => if f 5 k = x then wt f k else 0) m := by
  induction m with
  | zero => rfl
  | succ m ih => rw [ldS, sm, ih]
theorem wtS_sm (f : St) (r m : Nat) : wtS f r m = sm (fun s => if f (30 + r) s = -1 then 0 else wt f (f (30 + r) s).toNatClampNeg) m := by
  induction m with
  | zero => rfl
  | succ m ih => rw [wtS, sm, ih]
theorem afS_sm (f : St) (m : Nat) : afS f m = sm (fun k => if f 10 k = 1 then 1 else 0) m := by
  induction m with
  | zero => rfl
  | succ m ih => rw [afS, sm, ih]
theorem roS_sm (f : St) (m : Nat) : roS f m = sm (fun i => if f 10 (f 12 i).toNatClampNeg = 1 then 1 else 0) m := by
  induction m with
  | zero => rfl
  | succ m ih => rw [roS, sm, ih]
/-- slots and lanterns agree -/
def SCd (n b : Nat) (f : St) : Prop := (∀ r, r < b → ∀ s, s < 10 → ∀ k, k < n → (f (30 + r) s = nI k ↔ f 5 k = nI r ∧ f 6 k = nI s)) ∧ ∀ k, k < n → f 5 k ≠ -1 → ∃ s, s < 10 ∧ f 6 k = nI s
def slF (n b : Nat) (f : St) : Prop := ∀ r s, r < b → s < 10 → f (30 + r) s = -1 ∨ ∃ k, k < n ∧ f (30 + r) s = nI k
/-- launched floats -/
def LCd (b q : Nat) (f : St) : Prop := (∀ i j, i < q → j < q → f 12 i = f 12 j → i = j) ∧ (∀ r, r < b → f 10 r = 0 ∨ f 10 r = 1 ∨ f 10 r = 2) ∧ (∀ r, r < b → f 10 r = 0 → ∀ i, i < q → f 12 i ≠ nI r) ∧ ∀ r, r < b → f 10 r ≠ 0 → ∃ i, i < q ∧ f 12 i = nI r ∧ f 24 r = nI i
theorem wt_ld {n b : Nat} {f : St} (hs : slF n b f) (hc : SCd n b f) (hn : n ≤ 24) (hb : b ≤ 8) {r : Nat} (hr : r < b) : wtS f r 10 = ldS f (nI r) n := by
  rw [wtS_sm, ldS_sm]
  have e1 : ∀ s, s < 10 → (if f (30 + r) s = -1 then 0 else wt f (f (30 + r) s).toNatClampNeg) = sm (fun k => if f (30 + r) s = nI k then wt f k else 0) n := by
    intro s hs2
    rcases hs r s hr hs2 with e | ⟨k, hk, e⟩
    · rw [if_pos e, sm_none (fun k hk => by rw [e, if_neg (fun z => nI_nm1 (by omega) z.symm)])]
    · rw [if_neg (by rw [e]; exact nI_nm1 (by omega)), e, nI_clamp (by omega), sm_one hk (fun k2 hk2 hne => if_neg (fun z => hne ((nI_eq (by omega) (by omega)).mp z).symm)), if_pos rfl]
  have e2 : ∀ k, k < n → (if f 5 k = nI r then wt f k else 0) = sm (fun s => if f (30 + r) s = nI k then wt f k else 0) 10 := by
    intro k hk
    by_cases e : f 5 k = nI r
    · obtain ⟨s, hs2, e6⟩ := hc.2 k hk (by rw [e]; exact nI_nm1 (by omega))
      rw [if_pos e, sm_one (i := s) hs2 (fun s2 hs3 hne => if_neg (fun z => ?_)), if_pos ((hc.1 r hr s hs2 k hk).mpr ⟨e, e6⟩)]
      have z6 := ((hc.1 r hr s2 hs3 k hk).mp z).2
      exact hne ((nI_eq (by omega) (by omega)).mp (z6.symm.trans e6))
    · rw [if_neg e, sm_none (fun s hs2 => if_neg (fun z => e ((hc.1 r hr s hs2 k hk).mp z).1))]
  rw [sm_congr e1, sm_congr e2]
  exact sm_swap _ n 10
theorem ro_af {b q : Nat} {f : St} (ho : orF b q f) (hl : LCd b q f) (hb : b ≤ 8) : roS f q = afS f b := by
  rw [roS_sm, afS_sm]
  have e1 : ∀ i, i < q → (if f 10 (f 12 i).toNatClampNeg = 1 then (1 : Int32) else 0) = sm (fun r => if f 12 i = nI r ∧ f 10 r = 1 then 1 else 0) b := by
    intro i hi
    obtain ⟨r, hr, e⟩ := ho i hi
    rw [e, nI_clamp (by omega), sm_one hr (fun r2 hr2 hne => if_neg (fun z => hne ((nI_eq (by omega) (by omega)).mp z.1).symm))]
    simp
  have e2 : ∀ r, r < b → (if f 10 r = 1 then (1 : Int32) else 0) = sm (fun i => if f 12 i = nI r ∧ f 10 r = 1 then 1 else 0) q := by
    intro r hr
    by_cases h1 : f 10 r = 1
    · obtain ⟨i, hi, e, -⟩ := hl.2.2.2 r hr (by rw [h1]; decide)
      rw [if_pos h1, sm_one hi (fun j hj hne => if_neg (fun z => hne (hl.1 j i hj hi (z.1.trans e.symm)))), if_pos ⟨e, h1⟩]
    · rw [if_neg h1, sm_none (fun i hi => if_neg (fun z => h1 z.2))]
  rw [sm_congr e1, sm_congr e2]
  exact sm_swap _ b q
theorem tk_iff {n b : Nat} {f : St} (hs : slF n b f) (hc : SCd n b f) (hb : b ≤ 8) (hn : n ≤ 24) {r s : Nat} (hr : r < b) (hs2 : s < 10) : tkB f (nI r) (nI s) n = !decide (f (30 + r) s = -1) := by
  have key : ∀ m, m ≤ n → (tkB f (nI r) (nI s) m = true ↔ ∃ k, k < m ∧ f (30 + r) s = nI k) := by
    intro m hm
    induction m with
    | zero => exact ⟨fun z => (by cases z), fun ⟨k, hk, _⟩ => (by omega)⟩
    | succ m ih =>
      rw [tkB, Bool.or_eq_true, ih (by omega)]
      constructor
      · rintro (⟨k, hk, e⟩ | z)
        · exact ⟨k, by omega, e⟩
        · rw [Bool.and_eq_true] at z
          exact ⟨m, by omega, (hc.1 r hr s hs2 m (by omega)).mpr ⟨of_decide_eq_true z.1, of_decide_eq_true z.2⟩⟩
      · rintro ⟨k, hk, e⟩
        by_cases e2 : k = m
        · subst e2
          obtain ⟨z1, z2⟩ := (hc.1 r hr s hs2 k (by omega)).mp e
          exact Or.inr (by rw [decide_eq_true z1, decide_eq_true z2]; rfl)
        · exact Or.inl ⟨k, by omega, e⟩
  rcases hs r s hr hs2 with e | ⟨k, hk, e⟩
  · rw [decide_eq_true e]
    cases hT : tkB f (nI r) (nI s) n with
    | false => rfl
    | true =>
      obtain ⟨k, hk, z⟩ := (key n (Nat.le_refl _)).mp hT
      exact absurd (z.symm.trans e) (nI_nm1 (by omega))
  · rw [decide_eq_false (by rw [e]; exact nI_nm1 (by omega)), (key n (Nat.le_refl _)).mpr ⟨k, hk, e⟩]; rfl
/-! likeness -/
theorem and1 (y : Int32) : y &&& 1 = 0 ∨ y &&& 1 = 1 := by
  have key : ∀ z : BitVec 32, z &&& 1#32 = 0#32 ∨ z &&& 1#32 = 1#32 := by
    intro z
    rw [BitVec.and_one_eq_setWidth_ofBool_getLsbD]
    cases z.getLsbD 0
    · exact Or.inl rfl
    · exact Or.inr rfl
  rcases key y.toBitVec with h | h
  · exact Or.inl (Int32.toBitVec_inj.mp h)
  · exact Or.inr (Int32.toBitVec_inj.mp h)
theorem or_sh (a c t : Int32) : ((a ||| c) >>> t) &&& 1 = ((a >>> t) &&& 1) ||| ((c >>> t) &&& 1) := by
  apply Int32.toBitVec_inj.mp
  simp only [Int32.toBitVec_and, Int32.toBitVec_or, Int32.toBitVec_shiftRight, BitVec.sshiftRight']
  rw [BitVec.sshiftRight_or_distrib]
  ext i hi
  simp only [BitVec.getElem_and, BitVec.getElem_or, Bool.and_or_distrib_right]
theorem one_sh : ∀ s' : Nat, s' < 10 → ∀ s : Nat, s < 10 → (((1 : Int32) <<< (nI s' &&& 31)) >>> (nI s &&& 31)) &&& 1 = if s' = s then 1 else 0 := by decide +kernel
def xB (f : St) (x : Int32) (s : Nat) : Nat → Bool
  | 0 => false
  | k + 1 => xB f x s k || (decide (f 5 k = x) && decide (f 3 k = 1) && decide (f 6 k = nI s))
theorem bi_orI (a c : Bool) : bi a ||| bi c = bi (a || c) := by cases a <;> cases c <;> decide
theorem set_bit {n b : Nat} {f : St} (hc : SCd n b f) {r s : Nat} (hr : r < 8) (hs : s < 10) {m : Nat} (hm : m ≤ n) : (setS f (nI r) m >>> (nI s &&& 31)) &&& 1 = bi (xB f (nI r) s m) := by
  induction m with
  | zero =>
    have : ∀ s : Nat, s < 10 → ((0 : Int32) >>> (nI s &&& 31)) &&& 1 = 0 := by decide +kernel
    exact this s hs
  | succ m ih =>
    rw [setS, or_sh, ih (by omega), xB, ← bi_orI]
    congr 1
    by_cases h1 : f 5 m = nI r ∧ f 3 m = 1
    · obtain ⟨s', hs', e6⟩ := hc.2 m (by omega) (by rw [h1.1]; exact nI_nm1 (by omega))
      rw [if_pos h1, e6, one_sh s' hs' s hs, decide_eq_true h1.1, decide_eq_true h1.2]
      by_cases e : s' = s
      · subst e; simp [bi]
      · rw [if_neg e, decide_eq_false (fun z => e ((nI_eq (by omega) (by omega)).mp z))]; rfl
    · rw [if_neg h1]
      have : ∀ s : Nat, s < 10 → ((0 : Int32) >>> (nI s &&& 31)) &&& 1 = 0 := by decide +kernel
      rw [this s hs]
      by_cases e5 : f 5 m = nI r
      · rw [decide_eq_false (fun z => h1 ⟨e5, z⟩)]; simp [bi]
      · rw [decide_eq_false e5]; rfl
theorem xB_sh {n b : Nat} {f : St} (hs : slF n b f) (hc : SCd n b f) (hb : b ≤ 8) (hn : n ≤ 24) {r s : Nat} (hr : r < b) (hs2 : s < 10) : xB f (nI r) s n = shB f r s := by
  have key : ∀ m, m ≤ n → (xB f (nI r) s m = true ↔ ∃ k, k < m ∧ f (30 + r) s = nI k ∧ f 3 k = 1) := by
    intro m hm
    induction m with
    | zero => exact ⟨fun z => (by cases z), fun ⟨k, hk, _⟩ => (by omega)⟩
    | succ m ih =>
      rw [xB, Bool.or_eq_true, ih (by omega)]
      constructor
      · rintro (⟨k, hk, e⟩ | z)
        · exact ⟨k, by omega, e⟩
        · rw [Bool.and_eq_true, Bool.and_eq_true] at z
          exact ⟨m, by omega, (hc.1 r hr s hs2 m (by omega)).mpr ⟨of_decide_eq_true z.1.1, of_decide_eq_true z.2⟩, of_decide_eq_true z.1.2⟩
      · rintro ⟨k, hk, e, e3⟩
        by_cases e2 : k = m
        · subst e2
          obtain ⟨z1, z2⟩ := (hc.1 r hr s hs2 k (by omega)).mp e
          exact Or.inr (by rw [decide_eq_true z1, decide_eq_true z2, decide_eq_true e3]; rfl)
        · exact Or.inl ⟨k, by omega, e, e3⟩
  unfold shB
  rcases hs r s hr hs2 with e | ⟨k, hk, e⟩
  · rw [e]
    cases hT : xB f (nI r) s n with
    | false => rfl
    | true =>
      obtain ⟨k, hk, z, -⟩ := (key n (Nat.le_refl _)).mp hT
      exact absurd (z.symm.trans e) (nI_nm1 (by omega))
  · rw [e, nI_clamp (by omega), decide_eq_true (nI_nm1 (by omega)), Bool.true_and]
    by_cases h3 : f 3 k = 1
    · rw [decide_eq_true h3, (key n (Nat.le_refl _)).mpr ⟨k, hk, e, h3⟩]
    · rw [decide_eq_false h3]
      cases hT : xB f (nI r) s n with
      | false => rfl
      | true =>
        obtain ⟨k2, hk2, z, z3⟩ := (key n (Nat.le_refl _)).mp hT
        rw [(nI_eq (by omega) (by omega)).mp (e.symm.trans z)] at h3
        exact absurd z3 h3
theorem ax_lk {n b : Nat} {f : St} (hs : slF n b f) (hc : SCd n b f) (hb : b ≤ 8) (hn : n ≤ 24) {r : Nat} (hr : r < b) (x : Int32) : axS f r x 10 = lkS f n (nI r) x := by
  have key : ∀ m, m ≤ 10 → axS f r x m = alS (setS f (nI r) n) x m := by
    intro m hm
    induction m with
    | zero => rfl
    | succ m ih =>
      rw [axS, alS, ih (by omega), set_bit hc (by omega) (by omega) (Nat.le_refl _), xB_sh hs hc hb hn hr (by omega)]
      congr 1
      rcases and1 (x >>> (nI m &&& 31)) with e | e <;> rw [e] <;> cases shB f r m <;> decide
  exact key 10 (by decide)
