theorem ax_nI (f : St) (r : Nat) (g : Int32) (m : Nat) : ∃ c, c ≤ m ∧ axS f r g m = nI c := by
  induction m with
  | zero => exact ⟨0, Nat.le_refl _, rfl⟩
  | succ m ih =>
    obtain ⟨c, hc, e⟩ := ih
    rw [axS, e]
    split
    · exact ⟨c + 1, by omega, nI_1 c⟩
    · exact ⟨c, by omega, Int32.add_zero _⟩
theorem pz_pr {n b q : Nat} {f : St} (hs : slF n b f) (hc : SCd n b f) (ho : orF b q f) (hb : b ≤ 8) (hn : n ≤ 24) (x : Int32) : (pzF f x q).1 = prS f n x q := by
  have key : ∀ m, m ≤ q → (pzF f x m = (-1, -1) ∧ prS f n x m = -1) ∨ ∃ r, r < b ∧ pzF f x m = (nI r, axS f r x 10) ∧ prS f n x m = nI r := by
    intro m hm
    induction m with
    | zero => exact Or.inl ⟨rfl, rfl⟩
    | succ m ih =>
      obtain ⟨r, hr, e⟩ := ho m (by omega)
      rw [pzF, prS, e, nI_clamp (by omega)]
      by_cases h1 : f 10 r = 1
      · rcases ih (by omega) with ⟨i1, i2⟩ | ⟨r2, hr2, i1, i2⟩
        · have hlt : (pzF f x m).2 < axS f r x 10 := by
            rw [i1]
            obtain ⟨c, hc2, e2⟩ := ax_nI f r x 10
            rw [e2, Int32.lt_iff_toInt_lt, nI_toInt (by omega)]
            show (-1 : Int) < _
            omega
          refine Or.inr ⟨r, hr, ?_, ?_⟩
          · rw [if_pos ⟨h1, hlt⟩]
          · rw [i2, if_pos ⟨h1, Or.inl rfl⟩]
        · rw [i1, i2, ax_lk hs hc hb hn hr, ax_lk hs hc hb hn hr2]
          by_cases h2 : lkS f n (nI r2) x < lkS f n (nI r) x
          · rw [if_pos ⟨h1, h2⟩, if_pos ⟨h1, Or.inr h2⟩]
            exact Or.inr ⟨r, hr, by rw [ax_lk hs hc hb hn hr], rfl⟩
          · rw [if_neg (fun z => h2 z.2), if_neg (fun z => z.2.elim (nI_nm1 (by omega)) h2)]
            exact Or.inr ⟨r2, hr2, by rw [ax_lk hs hc hb hn hr2], rfl⟩
      · rw [if_neg (fun z => h1 z.1), if_neg (fun z => h1 z.1)]
        exact ih (by omega)
  rcases key q (Nat.le_refl _) with ⟨i1, i2⟩ | ⟨r, -, i1, i2⟩ <;> rw [i1, i2]
/-! floats that leave -/
def dkV (v : Int32) : Int32 := if v = 2 then 2 else 0
theorem dkV2 (v : Int32) : dkV (dkV v) = dkV v := by
  unfold dkV
  by_cases h : v = 2
  · rw [if_pos h]; rfl
  · rw [if_neg h]; rfl
theorem dkF_v (f : St) (k : Nat) : dkF f k 3 k = dkV (f 3 k) := by rw [dkF, up2_self]; rfl
theorem dkF_o (f : St) {k j : Nat} (h : j ≠ k) : dkF f k 3 j = f 3 j := by rw [dkF, up2_ne _ _ _ h]
theorem dkF_f (f : St) (k : Nat) {j : Nat} (h : j ≠ 3) : dkF f k j = f j := by rw [dkF, up2_fld _ _ _ h]
def gC (f : St) (r : Nat) : Prop := f 10 r = 1 ∧ 500 ≤ f 11 r
theorem dkL_f (g : St) (x : Int32) (m : Nat) {j : Nat} (h : j ≠ 3) : dkL g x m j = g j := by
  induction m with
  | zero => rfl
  | succ m ih => rw [dkL]; split; rw [dkF_f _ _ h]; exact ih; exact ih
theorem dkL_3 (g : St) (x : Int32) (m k : Nat) : dkL g x m 3 k = if k < m ∧ g 5 k = x then dkV (g 3 k) else g 3 k := by
  induction m with
  | zero => rw [if_neg (fun z => by omega)]; rfl
  | succ m ih =>
    rw [dkL]
    by_cases h5 : g 5 m = x
    · rw [if_pos h5]
      by_cases e : k = m
      · subst e
        rw [dkF_v, ih, if_neg (fun z => by omega), if_pos ⟨by omega, h5⟩]
      · rw [dkF_o _ e, ih]
        by_cases h : k < m ∧ g 5 k = x
        · rw [if_pos h, if_pos ⟨by omega, h.2⟩]
        · rw [if_neg h, if_neg (fun z => h ⟨by omega, z.2⟩)]
    · rw [if_neg h5, ih]
      by_cases h : k < m ∧ g 5 k = x
      · rw [if_pos h, if_pos ⟨by omega, h.2⟩]
      · rw [if_neg h, if_neg (fun z => h ⟨?_, z.2⟩)]
        have : k ≠ m := fun e => h5 (by rw [← e]; exact z.2)
        omega
theorem gn_f (g : St) (n m : Nat) {j : Nat} (h3 : j ≠ 3) (h10 : j ≠ 10) : gnF g n m j = g j := by
  induction m with
  | zero => rfl
  | succ m ih => rw [gnF]; split; rw [dkL_f _ _ _ h3, up2_fld _ _ _ h10]; exact ih; exact ih
theorem gn_10 (g : St) (n m k : Nat) : ((k < m ∧ gC g k) → gnF g n m 10 k = 2) ∧ (¬ (k < m ∧ gC g k) → gnF g n m 10 k = g 10 k) := by
  induction m with
  | zero => exact ⟨fun z => by omega, fun _ => rfl⟩
  | succ m ih =>
    have hm : gnF g n m 10 m = g 10 m := by
      have key : ∀ m k, m ≤ k → gnF g n m 10 k = g 10 k := by
        intro m
        induction m with
        | zero => intro k _; rfl
        | succ m ih =>
          intro k hk
          rw [gnF]
          split
          · rw [dkL_f _ _ _ (by decide), up2_ne _ _ _ (by omega)]; exact ih k (by omega)
          · exact ih k (by omega)
      exact key m m (Nat.le_refl _)
    rw [gnF, hm, gn_f g n m (by decide) (by decide)]
    by_cases hg : gC g m
    · rw [if_pos (show g 10 m = 1 ∧ 500 ≤ g 11 m from hg), dkL_f _ _ _ (by decide)]
      by_cases e : k = m
      · subst e; rw [up2_self]; exact ⟨fun _ => rfl, fun z => absurd ⟨by omega, hg⟩ z⟩
      · rw [up2_ne _ _ _ e]
        exact ⟨fun z => ih.1 ⟨by omega, z.2⟩, fun z => ih.2 (fun y => z ⟨by omega, y.2⟩)⟩
    · rw [if_neg (show ¬ (g 10 m = 1 ∧ 500 ≤ g 11 m) from hg)]
      refine ⟨fun z => ih.1 ⟨?_, z.2⟩, fun z => ih.2 (fun y => z ⟨by omega, y.2⟩)⟩
      have : k ≠ m := fun e => hg (by rw [← e]; exact z.2)
      omega
theorem gn_10m (g : St) (n m : Nat) : gnF g n m 10 m = g 10 m := (gn_10 g n m m).2 (fun z => by omega)
theorem gn_3 (g : St) (n m k : Nat) : ((k < n ∧ ∃ r, r < m ∧ g 5 k = nI r ∧ gC g r) → gnF g n m 3 k = dkV (g 3 k)) ∧ (¬ (k < n ∧ ∃ r, r < m ∧ g 5 k = nI r ∧ gC g r) → gnF g n m 3 k = g 3 k) := by
  induction m with
  | zero => exact ⟨fun ⟨_, r, hr, _⟩ => by omega, fun _ => rfl⟩
  | succ m ih =>
    rw [gnF, gn_10m, gn_f g n m (by decide) (by decide)]
    by_cases hg : gC g m
    · rw [if_pos (show g 10 m = 1 ∧ 500 ≤ g 11 m from hg), dkL_3, up2_fld _ _ _ (by decide), up2_fld _ _ _ (by decide), gn_f g n m (by decide) (by decide)]
      by_cases h : k < n ∧ g 5 k = nI m
      · rw [if_pos h]
        refine ⟨fun _ => ?_, fun z => absurd ⟨h.1, m, by omega, h.2, hg⟩ z⟩
        by_cases hp : k < n ∧ ∃ r, r < m ∧ g 5 k = nI r ∧ gC g r
        · rw [ih.1 hp, dkV2]
        · rw [ih.2 hp]
      · rw [if_neg h]
        refine ⟨fun ⟨hk, r, hr, h5, hc⟩ => ih.1 ⟨hk, r, ?_, h5, hc⟩, fun z => ih.2 (fun ⟨hk, r, hr, y⟩ => z ⟨hk, r, by omega, y⟩)⟩
        have : r ≠ m := fun e => h ⟨hk, by rw [← e]; exact h5⟩
        omega
    · rw [if_neg (show ¬ (g 10 m = 1 ∧ 500 ≤ g 11 m) from hg)]
      refine ⟨fun ⟨hk, r, hr, h5, hc⟩ => ih.1 ⟨hk, r, ?_, h5, hc⟩, fun z => ih.2 (fun ⟨hk, r, hr, y⟩ => z ⟨hk, r, by omega, y⟩)⟩
      have : r ≠ m := fun e => hg (by rw [← e]; exact hc)
      omega
theorem da_3 (g : St) (r m k : Nat) : ((∃ s, s < m ∧ g (30 + r) s ≠ -1 ∧ (g (30 + r) s).toNatClampNeg = k) → daF g r m 3 k = dkV (g 3 k)) ∧ (¬ (∃ s, s < m ∧ g (30 + r) s ≠ -1 ∧ (g (30 + r) s).toNatClampNeg = k) → daF g r m 3 k = g 3 k) := by
  induction m with
  | zero => exact ⟨fun ⟨s, hs, _⟩ => by omega, fun _ => rfl⟩
  | succ m ih =>
    rw [daF]
    by_cases h : g (30 + r) m = -1
    · rw [if_pos h]
      refine ⟨fun ⟨s, hs, y1, y2⟩ => ih.1 ⟨s, ?_, y1, y2⟩, fun z => ih.2 (fun ⟨s, hs, y⟩ => z ⟨s, by omega, y⟩)⟩
      have : s ≠ m := fun e => y1 (by rw [e]; exact h)
      omega
    · rw [if_neg h]
      by_cases e : k = (g (30 + r) m).toNatClampNeg
      · subst e
        rw [dkF_v]
        refine ⟨fun _ => ?_, fun z => absurd ⟨m, by omega, h, rfl⟩ z⟩
        by_cases hp : ∃ s, s < m ∧ g (30 + r) s ≠ -1 ∧ (g (30 + r) s).toNatClampNeg = (g (30 + r) m).toNatClampNeg
        · rw [ih.1 hp, dkV2]
        · rw [ih.2 hp]
      · rw [dkF_o _ e]
        refine ⟨fun ⟨s, hs, y1, y2⟩ => ih.1 ⟨s, ?_, y1, y2⟩, fun z => ih.2 (fun ⟨s, hs, y⟩ => z ⟨s, by omega, y⟩)⟩
        have : s ≠ m := fun e2 => e (by rw [← y2, e2])
        omega
/-- the lanterns of the floats that go, by the slots -/
def lP (f : St) (m k : Nat) : Prop := ∃ i, i < m ∧ gC f (f 12 i).toNatClampNeg ∧ ∃ s, s < 10 ∧ f (30 + (f 12 i).toNatClampNeg) s ≠ -1 ∧ (f (30 + (f 12 i).toNatClampNeg) s).toNatClampNeg = k
theorem lg_10 {b q : Nat} {f : St} (ho : orF b q f) (hb : b ≤ 8) (hi : ∀ i j, i < q → j < q → f 12 i = f 12 j → i = j) (m k : Nat) (hm : m ≤ q) : ((gC f k ∧ ∃ i, i < m ∧ (f 12 i).toNatClampNeg = k) → lgF f m 10 k = 2) ∧ (¬ (gC f k ∧ ∃ i, i < m ∧ (f 12 i).toNatClampNeg = k) → lgF f m 10 k = f 10 k) := by
  have inj : ∀ i j, i < q → j < q → (f 12 i).toNatClampNeg = (f 12 j).toNatClampNeg → i = j := by
    intro i j h1 h2 e
    obtain ⟨r1, hr1, e1⟩ := ho i h1
    obtain ⟨r2, hr2, e2⟩ := ho j h2
    rw [e1, e2, nI_clamp (by omega), nI_clamp (by omega)] at e
    exact hi i j h1 h2 (by rw [e1, e2, e])
  induction m generalizing k with
  | zero => exact ⟨fun ⟨_, i, hi, _⟩ => by omega, fun _ => rfl⟩
  | succ m ih =>
    have hm10 : lgF f m 10 (f 12 m).toNatClampNeg = f 10 (f 12 m).toNatClampNeg := (ih _ (by omega)).2 (fun ⟨_, i, hi2, e⟩ => by have := inj i m (by omega) (by omega) e; omega)
    rw [lgF, hm10, kp_lg (by decide) (by decide)]
    by_cases hg : gC f (f 12 m).toNatClampNeg
    · rw [if_pos (show f 10 (f 12 m).toNatClampNeg = 1 ∧ 500 ≤ f 11 (f 12 m).toNatClampNeg from hg), kp_da (by decide)]
      by_cases e : k = (f 12 m).toNatClampNeg
      · subst e; rw [up2_self]; exact ⟨fun _ => rfl, fun z => absurd ⟨hg, m, by omega, rfl⟩ z⟩
      · rw [up2_ne _ _ _ e]
        refine ⟨fun ⟨hc, i, hi2, y⟩ => (ih k (by omega)).1 ⟨hc, i, ?_, y⟩, fun z => (ih k (by omega)).2 (fun ⟨hc, i, hi2, y⟩ => z ⟨hc, i, by omega, y⟩)⟩
        have : i ≠ m := fun e2 => e (by rw [← y, e2])
        omega
    · rw [if_neg (show ¬ (f 10 (f 12 m).toNatClampNeg = 1 ∧ 500 ≤ f 11 (f 12 m).toNatClampNeg) from hg)]
      refine ⟨fun ⟨hc, i, hi2, y⟩ => (ih k (by omega)).1 ⟨hc, i, ?_, y⟩, fun z => (ih k (by omega)).2 (fun ⟨hc, i, hi2, y⟩ => z ⟨hc, i, by omega, y⟩)⟩
      have : i ≠ m := fun e2 => hg (by rw [← e2, y]; exact hc)
      omega
theorem lg_3 {b q : Nat} {f : St} (ho : orF b q f) (hb : b ≤ 8) (hi : ∀ i j, i < q → j < q → f 12 i = f 12 j → i = j) (m k : Nat) (hm : m ≤ q) : (lP f m k → lgF f m 3 k = dkV (f 3 k)) ∧ (¬ lP f m k → lgF f m 3 k = f 3 k) := by
  have inj : ∀ i j, i < q → j < q → (f 12 i).toNatClampNeg = (f 12 j).toNatClampNeg → i = j := by
    intro i j h1 h2 e
    obtain ⟨r1, hr1, e1⟩ := ho i h1
    obtain ⟨r2, hr2, e2⟩ := ho j h2
    rw [e1, e2, nI_clamp (by omega), nI_clamp (by omega)] at e
    exact hi i j h1 h2 (by rw [e1, e2, e])
  induction m with
  | zero => exact ⟨fun ⟨i, hi, _⟩ => by omega, fun _ => rfl⟩
  | succ m ih =>
    have ih := ih (by omega)
    have hm10 : lgF f m 10 (f 12 m).toNatClampNeg = f 10 (f 12 m).toNatClampNeg := (lg_10 ho hb hi m _ (by omega)).2 (fun ⟨_, i, hi2, e⟩ => by have := inj i m (by omega) (by omega) e; omega)
    rw [lgF, hm10, kp_lg (by decide) (by decide)]
    by_cases hg : gC f (f 12 m).toNatClampNeg
    · rw [if_pos (show f 10 (f 12 m).toNatClampNeg = 1 ∧ 500 ≤ f 11 (f 12 m).toNatClampNeg from hg)]
      have hd := da_3 (up2 (lgF f m) 10 (f 12 m).toNatClampNeg 2) (f 12 m).toNatClampNeg 10 k
      rw [up2_fld _ _ _ (show 30 + (f 12 m).toNatClampNeg ≠ 10 by omega), up2_fld _ _ _ (show (3 : Nat) ≠ 10 by decide), kp_lg (j := 30 + (f 12 m).toNatClampNeg) (by omega) (by omega)] at hd
      by_cases hs : ∃ s, s < 10 ∧ f (30 + (f 12 m).toNatClampNeg) s ≠ -1 ∧ (f (30 + (f 12 m).toNatClampNeg) s).toNatClampNeg = k
      · rw [hd.1 hs]
        refine ⟨fun _ => ?_, fun z => absurd ⟨m, by omega, hg, hs⟩ z⟩
        by_cases hp : lP f m k
        · rw [ih.1 hp, dkV2]
        · rw [ih.2 hp]
      · rw [hd.2 hs]
        refine ⟨fun ⟨i, hi2, hc, y⟩ => ih.1 ⟨i, ?_, hc, y⟩, fun z => ih.2 (fun ⟨i, hi2, y⟩ => z ⟨i, by omega, y⟩)⟩
        have : i ≠ m := fun e2 => hs (by rw [← e2]; exact y)
        omega
    · rw [if_neg (show ¬ (f 10 (f 12 m).toNatClampNeg = 1 ∧ 500 ≤ f 11 (f 12 m).toNatClampNeg) from hg)]
      refine ⟨fun ⟨i, hi2, hc, y⟩ => ih.1 ⟨i, ?_, hc, y⟩, fun z => ih.2 (fun ⟨i, hi2, y⟩ => z ⟨i, by omega, y⟩)⟩
      have : i ≠ m := fun e2 => hg (by rw [← e2]; exact hc)
      omega
theorem lg_gn {n b q : Nat} {f : St} (hs : slF n b f) (hc : SCd n b f) (ho : orF b q f) (hl : LCd b q f) (hh : hgF n b f) (hb : b ≤ 8) (hn : n ≤ 24) : lgF f q = gnF f n b := by
  have on : ∀ r, r < b → f 10 r = 1 → ∃ i, i < q ∧ (f 12 i).toNatClampNeg = r := fun r hr h1 => by
    obtain ⟨i, hi, e, -⟩ := hl.2.2.2 r hr (by rw [h1]; decide)
    exact ⟨i, hi, by rw [e, nI_clamp (by omega)]⟩
  funext j k
  by_cases h10 : j = 10
  · subst h10
    by_cases hp : k < b ∧ gC f k
    · rw [(gn_10 f n b k).1 hp, (lg_10 ho hb hl.1 q k (Nat.le_refl _)).1 ⟨hp.2, on k hp.1 hp.2.1⟩]
    · rw [(gn_10 f n b k).2 hp, (lg_10 ho hb hl.1 q k (Nat.le_refl _)).2 (fun ⟨z1, i, hi, e⟩ => ?_)]
      obtain ⟨r, hr, e2⟩ := ho i hi
      rw [e2, nI_clamp (by omega)] at e
      exact hp ⟨by omega, z1⟩
  · by_cases h3 : j = 3
    · subst h3
      have hiff : lP f q k ↔ (k < n ∧ ∃ r, r < b ∧ f 5 k = nI r ∧ gC f r) := by
        constructor
        · rintro ⟨i, hi, hg, s, hs2, y1, y2⟩
          obtain ⟨r, hr, e2⟩ := ho i hi
          rw [e2, nI_clamp (by omega)] at hg y1 y2
          rcases hs r s hr hs2 with e | ⟨k2, hk2, e⟩
          · exact absurd e y1
          · rw [e, nI_clamp (by omega)] at y2
            subst y2
            exact ⟨hk2, r, hr, ((hc.1 r hr s hs2 k2 hk2).mp e).1, hg⟩
        · rintro ⟨hk, r, hr, h5, hg⟩
          obtain ⟨i, hi, e⟩ := on r hr hg.1
          obtain ⟨s, hs2, e6⟩ := hc.2 k hk (by rw [h5]; exact nI_nm1 (by omega))
          have e7 := (hc.1 r hr s hs2 k hk).mpr ⟨h5, e6⟩
          exact ⟨i, hi, by rw [e]; exact hg, s, hs2, by rw [e, e7]; exact nI_nm1 (by omega), by rw [e, e7, nI_clamp (by omega)]⟩
      by_cases hp : lP f q k
      · rw [(lg_3 ho hb hl.1 q k (Nat.le_refl _)).1 hp, (gn_3 f n b k).1 (hiff.mp hp)]
      · rw [(lg_3 ho hb hl.1 q k (Nat.le_refl _)).2 hp, (gn_3 f n b k).2 (fun z => hp (hiff.mpr z))]
    · rw [gn_f f n b h3 h10, kp_lg h3 h10]
