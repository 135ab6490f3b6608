theorem up2_c (f : St) (j k : Nat) (v : Int32) (a c : Nat) : up2 f j k v a c = if a = j then (if c = k then v else f a c) else f a c := rfl
theorem Rl.up {n b q : Nat} {f g : St} (h : Rl n b q f g) {j : Nat} (h5 : j ≠ 5) (h10 : j ≠ 10) (k : Nat) (v : Int32) : Rl n b q (up2 f j k v) (up2 g j k v) := by
  have key : ∀ a c, f a c = g a c → up2 f j k v a c = up2 g j k v a c := fun a c e => by rw [up2_c, up2_c, e]
  refine ⟨fun a ha => key _ _ (h.1 a ha), fun a ha c hc => key _ _ (h.2.1 a ha c hc), fun c hc e => key _ _ (h.2.2.1 c hc (by rw [up2_fld _ _ _ (Ne.symm h5)] at e; exact e)), fun a ha r hr => key _ _ (h.2.2.2.1 a ha r hr), fun r hr e => key _ _ (h.2.2.2.2.1 r hr (by rw [up2_fld _ _ _ (Ne.symm h10)] at e; exact e)), fun i hi => key _ _ (h.2.2.2.2.2.1 i hi), ?_⟩
  funext c
  exact key _ _ (congrFun h.2.2.2.2.2.2 c)
theorem Rl.up10 {n b q : Nat} {f g : St} (h : Rl n b q f g) (k : Nat) {v : Int32} (hv : v ≠ 1) : Rl n b q (up2 f 10 k v) (up2 g 10 k v) := by
  have key : ∀ a c, f a c = g a c → up2 f 10 k v a c = up2 g 10 k v a c := fun a c e => by rw [up2_c, up2_c, e]
  refine ⟨fun a ha => key _ _ (h.1 a ha), fun a ha c hc => key _ _ (h.2.1 a ha c hc), fun c hc e => key _ _ (h.2.2.1 c hc e), fun a ha r hr => key _ _ (h.2.2.2.1 a ha r hr), fun r hr e => key _ _ (h.2.2.2.2.1 r hr ?_), fun i hi => key _ _ (h.2.2.2.2.2.1 i hi), ?_⟩
  · rw [up2_c, if_pos rfl] at e
    by_cases c : r = k
    · rw [if_pos c] at e; exact absurd e hv
    · rw [if_neg c] at e; exact e
  · funext c
    exact key _ _ (congrFun h.2.2.2.2.2.2 c)
theorem Rl.mv {n b q : Nat} {f g : St} (h : Rl n b q f g) (ho : orF b q f) (hb : b ≤ 8) {m : Nat} (hm : m ≤ q) : Rl n b q (mvF f m).1 (mvF g m).1 ∧ (mvF f m).2 = (mvF g m).2 ∧ ((mvF f m).2 = -1 ∨ ∃ r, r < b ∧ f 10 r = 1 ∧ (mvF f m).2 = nI r) := by
  induction m with
  | zero => exact ⟨h, rfl, Or.inl rfl⟩
  | succ m ih =>
    obtain ⟨i1, i2, i3⟩ := ih (by omega)
    obtain ⟨r, hr, e⟩ := ho m (by omega)
    have eg : g 12 m = nI r := by rw [← h.o (show m < q by omega)]; exact e
    by_cases h1 : f 10 r = 1
    · have h1g : g 10 r = 1 := by rw [← h.r (j := 10) (by decide) hr]; exact h1
      rw [mvF_s (show f 10 (f 12 m).toNatClampNeg = 1 by rw [e, nI_clamp (by omega)]; exact h1), mvF_s (show g 10 (g 12 m).toNatClampNeg = 1 by rw [eg, nI_clamp (by omega)]; exact h1g), e, eg, nI_clamp (by omega)]
      have ev : moveF (mvF f m).1 (mvF f m).2 r = moveF (mvF g m).1 (mvF g m).2 r := by
        rw [← i2]
        have e11 := i1.fr hr (by rw [mvF_k _ _ (by decide)]; exact h1)
        have e8 := i1.r (j := 8) (by decide) hr
        have e15 := i1.n0 (j := 15) (by decide)
        unfold moveF
        rw [e11, e8, e15]
        rcases i3 with z | ⟨r2, hr2, h12, z⟩
        · rw [z]; simp only [reduceIte]
        · rw [z, nI_clamp (by omega), i1.fr hr2 (by rw [mvF_k _ _ (by decide)]; exact h12)]
      rw [ev]
      exact ⟨i1.up (by decide) (by decide) _ _, rfl, Or.inr ⟨r, hr, h1, rfl⟩⟩
    · rw [mvF_n (show ¬ f 10 (f 12 m).toNatClampNeg = 1 by rw [e, nI_clamp (by omega)]; exact h1), mvF_n (show ¬ g 10 (g 12 m).toNatClampNeg = 1 by rw [eg, nI_clamp (by omega), ← h.r (j := 10) (by decide) hr]; exact h1)]
      exact ⟨i1, i2, i3⟩
theorem Rl.dk {n b q : Nat} {f g : St} (h : Rl n b q f g) {k : Nat} (hk : k < n) : Rl n b q (dkF f k) (dkF g k) := by
  unfold dkF
  rw [h.l (j := 3) (by decide) hk]
  exact h.up (by decide) (by decide) _ _
theorem Rl.dkl {n b q : Nat} {f g : St} (h : Rl n b q f g) (x : Int32) {m : Nat} (hm : m ≤ n) : Rl n b q (dkL f x m) (dkL g x m) := by
  induction m with
  | zero => exact h
  | succ m ih =>
    rw [dkL, dkL, h.l (j := 5) (by decide) (show m < n by omega)]
    split
    · exact (ih (by omega)).dk (by omega)
    · exact ih (by omega)
theorem Rl.gn {n b q : Nat} {f g : St} (h : Rl n b q f g) {m : Nat} (hm : m ≤ b) : Rl n b q (gnF f n m) (gnF g n m) := by
  induction m with
  | zero => exact h
  | succ m ih =>
    have ih := ih (by omega)
    have e10 := ih.r (j := 10) (by decide) (show m < b by omega)
    rw [gnF, gnF]
    by_cases c : gnF f n m 10 m = 1 ∧ 500 ≤ gnF f n m 11 m
    · rw [if_pos c, if_pos ⟨e10.symm.trans c.1, by rw [← ih.fr (show m < b by omega) c.1]; exact c.2⟩]
      exact (ih.up10 m (by decide)).dkl _ (Nat.le_refl _)
    · rw [if_neg c, if_neg (fun z => c ⟨e10.trans z.1, by rw [ih.fr (show m < b by omega) (e10.trans z.1)]; exact z.2⟩)]
      exact ih
theorem Rl.bl {n b q : Nat} {f g : St} (h : Rl n b q f g) (gu : Int32) {m : Nat} (hm : m ≤ n) : Rl n b q (blF f gu m) (blF g gu m) := by
  induction m with
  | zero => exact h
  | succ m ih =>
    have ih := ih (by omega)
    rw [blF, blF, ih.l (j := 3) (by decide) (show m < n by omega), ih.l (j := 1) (by decide) (show m < n by omega), ih.l (j := 0) (by decide) (show m < n by omega), ih.n0 (j := 19) (by decide)]
    split
    · exact (ih.up (by decide) (by decide) _ _).up (by decide) (by decide) _ _
    · exact ih
theorem Rl.bu {n b q : Nat} {f g : St} (h : Rl n b q f g) {m : Nat} (hm : m ≤ n) : Rl n b q (buF f m) (buF g m) := by
  induction m with
  | zero => exact h
  | succ m ih =>
    have ih := ih (by omega)
    rw [buF, buF, ih.l (j := 3) (by decide) (show m < n by omega), ih.l (j := 4) (by decide) (show m < n by omega)]
    split
    · exact (ih.up (by decide) (by decide) _ _).up (by decide) (by decide) _ _
    · exact ih
theorem hgF.eqv {n b : Nat} {f g : St} (h : hgF n b f) (e : g 5 = f 5) : hgF n b g := fun k hk => by rw [e]; exact h k hk
theorem orF.eqv {b q : Nat} {f g : St} (h : orF b q f) (e : g 12 = f 12) : orF b q g := fun k hk => by rw [e]; exact h k hk
theorem Rl.ma {n b q : Nat} {f g : St} (h : Rl n b q f g) (hh : hgF n b f) (hb : b ≤ 8) (hl : lpF f n) {m : Nat} (hm : m ≤ n) : Rl n b q (maF f m) (maF g m) := by
  induction m with
  | zero => exact h
  | succ m ih =>
    have ih := ih (by omega)
    have hh2 : hgF n b (maF f m) := hh.eqv (dec.ma f m).2.1
    have hl2 : lpF (maF f m) n := hl.dec (dec.ma f m) (kp_ma (by decide) (by decide) _ _)
    have e3 := ih.l (j := 3) (by decide) (show m < n by omega)
    rw [maF, maF]
    by_cases h3 : maF f m 3 m = 1
    · rw [ih.near hh2 hb (x := m) (m := m) (by omega) (by omega) (hl2 m (by omega) h3) hl2, e3, ih.n0 (j := 20) (by decide)]
      split
      · exact (ih.up (by decide) (by decide) _ _).up (by decide) (by decide) _ _
      · exact ih
    · rw [if_neg (fun z => h3 z.1), if_neg (fun z => h3 (e3.trans z.1))]
      exact ih
/-! what holds all the time -/
def LEd (n : Nat) (f : St) : Prop := ∀ k, k < n → f 3 k ≠ 2 → ∃ a, 1 ≤ a ∧ a ≤ 80 ∧ f 4 k = nI a
theorem LEd.gn {n : Nat} {f : St} (h : LEd n f) (b : Nat) : LEd n (gnF f n b) := by
  intro k hk h2
  rw [gn_f _ _ _ (by decide) (by decide)]
  refine h k hk (fun e => h2 ?_)
  by_cases hp : k < n ∧ ∃ r, r < b ∧ f 5 k = nI r ∧ gC f r
  · rw [(gn_3 f n b k).1 hp, e]; rfl
  · rw [(gn_3 f n b k).2 hp, e]
theorem LEd.bl {n : Nat} {f : St} (h : LEd n f) (gu : Int32) (m : Nat) : LEd n (blF f gu m) := by
  induction m with
  | zero => exact h
  | succ m ih =>
    rw [blF]
    split
    · next hc =>
      intro k hk h2
      rw [up2_fld _ _ _ (by decide), up2_fld _ _ _ (by decide)]
      by_cases e : k = m
      · subst e; exact ih k hk (by rw [hc.1]; decide)
      · rw [up2_fld _ _ _ (by decide), up2_ne _ _ _ e] at h2
        exact ih k hk h2
    · exact ih
theorem LEd.ma {n : Nat} {f : St} (h : LEd n f) (m : Nat) : LEd n (maF f m) := by
  induction m with
  | zero => exact h
  | succ m ih =>
    rw [maF]
    split
    · next hc =>
      intro k hk h2
      rw [up2_fld _ _ _ (by decide), up2_fld _ _ _ (by decide)]
      by_cases e : k = m
      · subst e; exact ih k hk (by rw [hc.1]; decide)
      · rw [up2_fld _ _ _ (by decide), up2_ne _ _ _ e] at h2
        exact ih k hk h2
    · exact ih
theorem LEd.bu {n : Nat} {f : St} (h : LEd n f) (m : Nat) : LEd n (buF f m) := by
  induction m with
  | zero => exact h
  | succ m ih =>
    rw [buF]
    split
    · next hc =>
      intro k hk h2
      rw [up2_fld _ _ _ (show (4 : Nat) ≠ 3 by decide)]
      by_cases e : k = m
      · subst e
        rw [up2_self] at h2 ⊢
        obtain ⟨a, ha1, ha2, ea⟩ := ih k hk (by rw [hc]; decide)
        rw [ea] at h2 ⊢
        obtain ⟨c, rfl⟩ : ∃ c, a = c + 1 := ⟨a - 1, by omega⟩
        rw [nI_pred] at h2 ⊢
        refine ⟨c, ?_, by omega, rfl⟩
        rcases Nat.eq_zero_or_pos c with z | z
        · rw [z, if_pos nI_0] at h2; exact absurd rfl h2
        · exact z
      · rw [up2_ne _ _ _ e] at h2 ⊢
        rw [up2_fld _ _ _ (by decide)] at h2
        exact ih k hk h2
    · exact ih
theorem LEd.lf {n : Nat} {f : St} (h : LEd n f) : lfF f n := fun k hk h1 => h k hk (by rw [h1]; decide)
theorem LEd.eqv {n : Nat} {f g : St} (h : LEd n f) (e3 : g 3 = f 3) (e4 : g 4 = f 4) : LEd n g := fun k hk z => by rw [e4]; exact h k hk (by rw [← e3]; exact z)
theorem SCd.eqv {n b : Nat} {f g : St} (h : SCd n b f) (e5 : g 5 = f 5) (e6 : g 6 = f 6) (e30 : ∀ r, g (30 + r) = f (30 + r)) : SCd n b g := ⟨fun r hr s hs k hk => by rw [e5, e6, e30]; exact h.1 r hr s hs k hk, fun k hk z => by rw [e6]; exact h.2 k hk (by rw [← e5]; exact z)⟩
theorem LCd.eqv {b q : Nat} {f g : St} (h : LCd b q f) (e12 : g 12 = f 12) (e10 : g 10 = f 10) (e24 : g 24 = f 24) : LCd b q g := by
  unfold LCd; rw [e12, e10, e24]; exact h
theorem GEd.eqv {b q : Nat} {f g : St} (h : GEd b q f) (e12 : g 12 = f 12) (e10 : g 10 = f 10) (e11 : g 11 = f 11) : GEd b q g := by
  unfold GEd; rw [e12, e10, e11]; exact h
theorem SPd.eqv {b : Nat} {f g : St} (h : SPd b f) (e8 : g 8 = f 8) (e15 : g 15 = f 15) : SPd b g := by
  unfold SPd; rw [e8, e15]; exact h
theorem slF.eqv {n b : Nat} {f g : St} (h : slF n b f) (e30 : ∀ r, g (30 + r) = f (30 + r)) : slF n b g := fun r s hr hs => by rw [e30]; exact h r s hr hs
theorem xv.eqv {b : Nat} {f g : St} (h : xv b f) (e22 : g 22 = f 22) (e23 : g 23 = f 23) (e12 : g 12 = f 12) (e30 : ∀ r, g (30 + r) = f (30 + r)) : xv b g := by
  unfold xv; rw [e22, e23, e12]; exact ⟨h.1, h.2.1, h.2.2.1, fun r hr s hs => by rw [e30]; exact h.2.2.2 r hr s hs⟩
def IV (n b q tm : Nat) (f : St) (C : List Nat) : Prop := xw n b q f C ∧ xv b f ∧ stO f n ∧ lpF f n ∧ LEd n f ∧ SCd n b f ∧ LCd b q f ∧ GEd b q f ∧ SPd b f ∧ f 18 0 = nI tm
theorem IV.x {n b q tm : Nat} {f : St} {C : List Nat} (h : IV n b q tm f C) : xw n b q f C := h.1
theorem IV.st {n b q tm : Nat} {f : St} {C : List Nat} (h : IV n b q tm f C) : stO f n := h.2.2.1
theorem IV.lp {n b q tm : Nat} {f : St} {C : List Nat} (h : IV n b q tm f C) : lpF f n := h.2.2.2.1
theorem IV.le {n b q tm : Nat} {f : St} {C : List Nat} (h : IV n b q tm f C) : LEd n f := h.2.2.2.2.1
theorem IV.sc {n b q tm : Nat} {f : St} {C : List Nat} (h : IV n b q tm f C) : SCd n b f := h.2.2.2.2.2.1
theorem IV.lc {n b q tm : Nat} {f : St} {C : List Nat} (h : IV n b q tm f C) : LCd b q f := h.2.2.2.2.2.2.1
theorem IV.ge {n b q tm : Nat} {f : St} {C : List Nat} (h : IV n b q tm f C) : GEd b q f := h.2.2.2.2.2.2.2.1
theorem IV.sp {n b q tm : Nat} {f : St} {C : List Nat} (h : IV n b q tm f C) : SPd b f := h.2.2.2.2.2.2.2.2.1
theorem IV.tm {n b q tm : Nat} {f : St} {C : List Nat} (h : IV n b q tm f C) : f 18 0 = nI tm := h.2.2.2.2.2.2.2.2.2
/-- the fields that a minute leaves -/
theorem min_k (f : St) (n b q tm : Nat) {j : Nat} (h : j ≠ 3 ∧ j ≠ 4 ∧ j ≠ 10 ∧ j ≠ 11 ∧ j ≠ 18 ∧ j ≠ 19 ∧ j ≠ 20) : minF f n b q tm j = f j := by
  unfold minF brF fmF
  rw [kp_ma (by omega) (by omega), kp_bu (by omega) (by omega), kp_bl (by omega) (by omega), gn_f _ _ _ (by omega) (by omega), mvF_k _ _ (by omega), up2_fld _ _ _ (by omega)]
theorem min_10 (f : St) (n b q tm : Nat) {j : Nat} (h : j ≠ 3 ∧ j ≠ 4 ∧ j ≠ 19 ∧ j ≠ 20) : minF f n b q tm j = gnF (mvF (up2 f 18 0 (nI (tm + 1))) q).1 n b j := by
  unfold minF brF fmF
  rw [kp_ma (by omega) (by omega), kp_bu (by omega) (by omega), kp_bl (by omega) (by omega)]
section MIN
variable {n b q tm : Nat} {f : St} {C : List Nat}
theorem gn_lp {g : St} (hh : hgF n b g) (hl : lpF g n) (hb : b ≤ 8) : lpF (gnF g n b) n := by
  intro k hk h3
  have hp : ¬ (k < n ∧ ∃ r, r < b ∧ g 5 k = nI r ∧ gC g r) := fun z => by
    rw [(gn_3 g n b k).1 z] at h3
    unfold dkV at h3
    split at h3 <;> exact absurd h3 (by decide)
  rw [(gn_3 g n b k).2 hp] at h3
  obtain ⟨r, hr, e5, e10⟩ := hpB_yes hh hb hk (hl k hk h3)
  rw [hpB_of (r := r) (by rw [gn_f _ _ _ (by decide) (by decide)]; exact e5) (by omega), (gn_10 g n b r).2 (fun z => hp ⟨hk, r, hr, e5, z.2⟩), e10]
  rfl
theorem IV.s1 (h : IV n b q tm f C) : IV n b q (tm + 1) (up2 f 18 0 (nI (tm + 1))) C := ⟨h.x.up (by omega) _ _, h.2.1.eqv rfl rfl rfl (fun r => up2_fld _ _ _ (by omega)), h.st.eqv rfl, h.lp, h.le, h.sc.eqv rfl rfl (fun r => up2_fld _ _ _ (by omega)), h.lc, h.ge, h.sp, rfl⟩
theorem mv_lg (h : IV n b q tm f C) : lgF (mvF f q).1 q = gnF (mvF f q).1 n b := lg_gn (slF.eqv (fun r s hr hs => h.x.sl r s hr hs) (fun r => mvF_k _ _ (by omega))) (h.sc.eqv (mvF_k _ _ (by decide)) (mvF_k _ _ (by decide)) (fun r => mvF_k _ _ (by omega))) (orF.eqv h.x.o (mvF_k _ _ (by decide))) (h.lc.eqv (mvF_k _ _ (by decide)) (mvF_k _ _ (by decide)) (mvF_k _ _ (by decide))) (hgF.eqv h.x.h (mvF_k _ _ (by decide))) h.x.2.1 h.x.1
theorem mn_min (h : IV n b q tm f C) : mnC f n q tm = minF f n b q tm := by
  unfold mnC minF brF fmF
  rw [mv_lg h.s1]
theorem IV.gl (h : IV n b q tm f C) : lpF (gnF (mvF f q).1 n b) n := gn_lp (hgF.eqv h.x.h (mvF_k _ _ (by decide))) (h.lp.dec (dec.mv _ _) (mvF_k _ _ (by decide))) h.x.2.1
theorem IV.mi (h : IV n b q tm f C) : MI n b q f tm C := ⟨h.x, h.st, h.lp, h.le.lf, h.tm, fun g e => by rw [e, mv_lg h.s1]; exact h.s1.gl⟩
theorem IV.mn (h : IV n b q tm f C) : IV n b q (tm + 1) (minF f n b q tm) C := by
  have h1 := h.s1
  have hx := h.x
  have k := fun {j : Nat} => min_k f n b q tm (j := j)
  have hgeo := mv_geo (f := up2 f 18 0 (nI (tm + 1))) hx.o h1.lc h1.ge h1.sp hx.2.1 (Nat.le_refl q)
  have k10 : ∀ r, r < b → (gC (mvF (up2 f 18 0 (nI (tm + 1))) q).1 r → minF f n b q tm 10 r = 2) ∧ (¬ gC (mvF (up2 f 18 0 (nI (tm + 1))) q).1 r → minF f n b q tm 10 r = f 10 r) := by
    intro r hr
    rw [min_10 f n b q tm (by decide)]
    refine ⟨fun z => (gn_10 _ n b r).1 ⟨hr, z⟩, fun z => ?_⟩
    rw [(gn_10 _ n b r).2 (fun y => z y.2), mvF_k _ _ (by decide)]; rfl
  have k10a : ∀ r, r < b → minF f n b q tm 10 r = 1 → f 10 r = 1 ∧ ¬ gC (mvF (up2 f 18 0 (nI (tm + 1))) q).1 r := by
    intro r hr e
    by_cases c : gC (mvF (up2 f 18 0 (nI (tm + 1))) q).1 r
    · rw [(k10 r hr).1 c] at e; exact absurd e (by decide)
    · rw [(k10 r hr).2 c] at e; exact ⟨e, c⟩
  have k11 : minF f n b q tm 11 = (mvF (up2 f 18 0 (nI (tm + 1))) q).1 11 := by rw [min_10 f n b q tm (by decide), gn_f _ _ _ (by decide) (by decide)]
  have h18 : minF f n b q tm 18 0 = nI (tm + 1) := by rw [min_10 f n b q tm (by decide), gn_f _ _ _ (by decide) (by decide), mvF_k _ _ (by decide)]; rfl
  have hx3 : xw n b q (gnF (mvF (up2 f 18 0 (nI (tm + 1))) q).1 n b) C := by rw [← mv_lg h1]; exact (h1.x.mv q).lg q
  have hs3 : stO (gnF (mvF (up2 f 18 0 (nI (tm + 1))) q).1 n b) n := by rw [← mv_lg h1]; exact (h1.st.eqv (mvF_k _ _ (by decide))).lg q
  have hle3 : LEd n (gnF (mvF (up2 f 18 0 (nI (tm + 1))) q).1 n b) := LEd.gn (h1.le.eqv (mvF_k _ _ (by decide)) (mvF_k _ _ (by decide))) b
  refine ⟨?_, h.2.1.eqv (k (by decide)) (k (by decide)) (k (by decide)) (fun r => k (by omega)), ?_, ?_, ?_, h.sc.eqv (k (by decide)) (k (by decide)) (fun r => k (by omega)), ⟨?_, ?_, ?_, ?_⟩, ⟨?_, ?_⟩, h.sp.eqv (k (by decide)) (k (by decide)), h18⟩
  · unfold minF brF fmF; exact ((hx3.bl _ _).bu _).ma _
  · unfold minF brF fmF; exact ((hs3.bl _ _).bu _).ma _
  · unfold minF brF fmF
    exact ((h1.gl.dec (dec.bl _ _ _) (kp_bl (by decide) (by decide) _ _ _)).dec (dec.bu _ _) (kp_bu (by decide) (by decide) _ _)).dec (dec.ma _ _) (kp_ma (by decide) (by decide) _ _)
  · unfold minF brF fmF; exact ((hle3.bl _ _).bu _).ma _
  · rw [k (by decide)]; exact h.lc.1
  · intro r hr
    by_cases c : gC (mvF (up2 f 18 0 (nI (tm + 1))) q).1 r
    · exact Or.inr (Or.inr ((k10 r hr).1 c))
    · rw [(k10 r hr).2 c]; exact h.lc.2.1 r hr
  · intro r hr e
    rw [k (by decide)]
    by_cases c : gC (mvF (up2 f 18 0 (nI (tm + 1))) q).1 r
    · rw [(k10 r hr).1 c] at e; exact absurd e (by decide)
    · rw [(k10 r hr).2 c] at e; exact h.lc.2.2.1 r hr e
  · intro r hr e
    rw [k (by decide), k (by decide)]
    refine h.lc.2.2.2 r hr (fun z => ?_)
    by_cases c : gC (mvF (up2 f 18 0 (nI (tm + 1))) q).1 r
    · have c1 := c.1
      rw [mvF_k _ _ (by decide)] at c1
      rw [show up2 f 18 0 (nI (tm + 1)) 10 r = f 10 r from rfl, z] at c1
      exact absurd c1 (by decide)
    · rw [(k10 r hr).2 c] at e; exact e z
  · intro r hr e
    obtain ⟨e1, hng⟩ := k10a r hr e
    obtain ⟨p, p', ep, hp9, hp5, ep', hle, hle2⟩ := hgeo.2.1 r hr e1
    rw [k11]
    refine ⟨p', by omega, ?_, ep'⟩
    rcases Nat.lt_or_ge p' 500 with z | z
    · exact z
    · refine absurd ⟨?_, ?_⟩ hng
      · rw [mvF_k _ _ (by decide)]; exact e1
      · rw [ep']; exact (nI_leI (a := 500) (by decide) (by omega)).mpr z
  · intro i j hij hj e1 e2
    rw [k (j := 12) (by decide)] at e1 e2 ⊢
    obtain ⟨ri, hri, eri⟩ := hx.o i (by omega)
    obtain ⟨rj, hrj, erj⟩ := hx.o j hj
    have hNi : N (f 12 i) = ri := by rw [N, eri, nI_clamp (by have := hx.2.1; omega)]
    have hNj : N (f 12 j) = rj := by rw [N, erj, nI_clamp (by have := hx.2.1; omega)]
    rw [k11]
    exact hgeo.2.2.1 i j hij hj (by rw [hNi] at e1; show f 10 (N (f 12 i)) = 1; rw [hNi]; exact (k10a ri hri e1).1) (by rw [hNj] at e2; show f 10 (N (f 12 j)) = 1; rw [hNj]; exact (k10a rj hrj e2).1)
theorem Rl.mn {g : St} (h : IV n b q tm f C) (hr : Rl n b q f g) : Rl n b q (minF f n b q tm) (minF g n b q tm) := by
  have h1 := h.s1
  have r3 := (((hr.up (j := 18) (by decide) (by decide) 0 (nI (tm + 1))).mv (b := b) (q := q) h1.x.o h.x.2.1 (Nat.le_refl q)).1).gn (Nat.le_refl b)
  unfold minF brF fmF
  rw [show guF (gnF (mvF (up2 g 18 0 (nI (tm + 1))) q).1 n b) (tm + 1) = guF (gnF (mvF (up2 f 18 0 (nI (tm + 1))) q).1 n b) (tm + 1) by unfold guF; rw [r3.gu]]
  refine ((r3.bl _ (Nat.le_refl n)).bu (Nat.le_refl n)).ma (hgF.eqv (f := f) h.x.h ?_) h.x.2.1 ?_ (Nat.le_refl n)
  · rw [kp_bu (by decide) (by decide), kp_bl (by decide) (by decide), gn_f _ _ _ (by decide) (by decide), mvF_k _ _ (by decide)]; rfl
  · exact (h1.gl.dec (dec.bl _ _ _) (kp_bl (by decide) (by decide) _ _ _)).dec (dec.bu _ _) (kp_bu (by decide) (by decide) _ _)
theorem ps_iv (h : IV n b q tm f C) (k : Nat) : IV n b q (tm + k) (psC f n q tm k) C ∧ psC f n q tm k = passF f n b q tm k := by
  induction k with
  | zero => exact ⟨h, rfl⟩
  | succ k ih =>
    rw [psC, passF, ← ih.2, mn_min ih.1]
    exact ⟨ih.1.mn, rfl⟩
theorem Rl.ps {g : St} (h : IV n b q tm f C) (hr : Rl n b q f g) (k : Nat) : Rl n b q (psC f n q tm k) (passF g n b q tm k) := by
  induction k with
  | zero => exact hr
  | succ k ih =>
    rw [psC, passF, mn_min (ps_iv h k).1]
    exact Rl.mn (ps_iv h k).1 ih
end MIN
