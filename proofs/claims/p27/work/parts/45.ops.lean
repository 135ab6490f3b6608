theorem isL_ix {f : St} {x : Int32} {n : Nat} (h : isL f x = true) (hn : f 7 0 = nI n) (h24 : n ≤ 24) : ∃ a, a < n ∧ x = nI a := by
  rw [isL, hn] at h; exact inB_ix (by omega) h
theorem isF_ix {f : St} {x : Int32} {n : Nat} (h : isF f x = true) (hn : f 14 0 = nI n) (h24 : n ≤ 8) : ∃ a, a < n ∧ x = nI a := by
  rw [isF, hn] at h; exact inB_ix (by omega) h
theorem gl0 (A B : Int32) : gl (bi false) A B = 1 := by simp [gl, bi]
section OPS
variable {n b q tm : Nat} {f g : St} {C : List Nat}
theorem R_isL (h : Rl n b q f g) (x : Int32) : isL f x = isL g x := by unfold isL; rw [h.n0 (j := 7) (by decide)]
theorem R_isF (h : Rl n b q f g) (x : Int32) : isF f x = isF g x := by unfold isF; rw [h.n0 (j := 14) (by decide)]
theorem R_tL (h : Rl n b q f g) (x : Int32) : tL f x = tL g x := by unfold tL; rw [R_isL h]
theorem R_tF (h : Rl n b q f g) (x : Int32) : tF f x = tF g x := by unfold tF; rw [R_isF h]
theorem R_make (h : Rl n b q f g) (x y z : Int32) : tMake f x y z = tMake g x y z := by unfold tMake; rw [h.n0 (j := 7) (by decide)]
theorem R_build (h : Rl n b q f g) (x y : Int32) : tBuild f x y = tBuild g x y := by unfold tBuild; rw [h.n0 (j := 14) (by decide)]
theorem R_like (h : Rl n b q f g) (x y : Int32) : tLike f x y = tLike g x y := by unfold tLike; rw [R_isF h]
theorem R_take (i : IV n b q tm f C) (h : Rl n b q f g) (x : Int32) : tTake f x = tTake g x := by
  unfold tTake
  rw [← R_isL h]
  cases hL : isL f x with
  | false => simp only [Bool.false_and, Bool.true_and, Bool.and_false, gl0]
  | true =>
    obtain ⟨a, ha, rfl⟩ := isL_ix hL i.x.2.2.2.2.1 i.x.1
    rw [nI_clamp (by have := i.x.1; omega), h.l (j := 5) (by decide) ha]
theorem R_putOut (i : IV n b q tm f C) (h : Rl n b q f g) (x : Int32) : tPutOut f x = tPutOut g x := by
  unfold tPutOut
  rw [← R_isL h]
  cases hL : isL f x with
  | false => simp only [Bool.false_and, Bool.true_and, Bool.and_false, gl0]
  | true =>
    obtain ⟨a, ha, rfl⟩ := isL_ix hL i.x.2.2.2.2.1 i.x.1
    rw [nI_clamp (by have := i.x.1; omega), h.l (j := 3) (by decide) ha]
theorem R_light (i : IV n b q tm f C) (h : Rl n b q f g) (x : Int32) : tLight f n x = tLight g n x := by
  unfold tLight
  rw [← R_isL h]
  cases hL : isL f x with
  | false => simp only [Bool.false_and, Bool.true_and, Bool.and_false, gl0]
  | true =>
    obtain ⟨a, ha, rfl⟩ := isL_ix hL i.x.2.2.2.2.1 i.x.1
    rw [nI_clamp (by have := i.x.1; omega), h.l (j := 3) (by decide) ha, ← h.hp i.x.h i.x.2.1 ha]
    cases hp : hpB f a with
    | false => simp only [Bool.false_and, Bool.true_and, Bool.and_false, gl0]
    | true => rw [h.near i.x.h i.x.2.1 ha (Nat.le_refl n) hp i.lp]
theorem R_launch (i : IV n b q tm f C) (h : Rl n b q f g) (x : Int32) : tLaunch f q x = tLaunch g q x := by
  have hb := i.x.2.1
  unfold tLaunch
  rw [← R_isF h, ← h.rm hb i.x.o (Nat.le_refl q), ← h.n0 (j := 15) (by decide)]
  have e11 : (decide (rmS f q = -1) || decide (9 + f 15 0 ≤ f 11 (rmS f q).toNatClampNeg - 9)) = (decide (rmS f q = -1) || decide (9 + f 15 0 ≤ g 11 (rmS f q).toNatClampNeg - 9)) := by
    have key : ∀ m, m ≤ q → rmS f m = -1 ∨ ∃ r, r < b ∧ f 10 r = 1 ∧ rmS f m = nI r := by
      intro m hm
      induction m with
      | zero => exact Or.inl rfl
      | succ m ih =>
        obtain ⟨r, hr, e⟩ := i.x.o m (by omega)
        rw [rmS, e, nI_clamp (by omega)]
        by_cases h1 : f 10 r = 1
        · rw [if_pos h1]; exact Or.inr ⟨r, hr, h1, rfl⟩
        · rw [if_neg h1]; exact ih (by omega)
    rcases key q (Nat.le_refl q) with z | ⟨r, hr, h1, z⟩
    · rw [z, decide_eq_true (rfl : (-1 : Int32) = -1), Bool.true_or, Bool.true_or]
    · rw [z, nI_clamp (by omega), h.fr hr h1]
  rw [e11]
  cases hL : isF f x with
  | false => simp only [Bool.false_and, Bool.true_and, Bool.and_false, gl0]
  | true =>
    obtain ⟨a, ha, rfl⟩ := isF_ix hL i.x.2.2.2.2.2.1 i.x.2.1
    rw [nI_clamp (by omega), h.r (j := 10) (by decide) ha]
theorem R_hang (i : IV n b q tm f C) (h : Rl n b q f g) (x y z : Int32) : cHang f x y z = tHang g n x y z := by
  have hb := i.x.2.1
  have hn := i.x.1
  unfold cHang tHang okHang
  rw [← R_isL h, ← R_isF h]
  cases hL : isL f x with
  | false => simp only [Bool.false_and, Bool.true_and, Bool.and_false, gl0]
  | true =>
    cases hF : isF f y with
    | false => simp only [Bool.false_and, Bool.true_and, Bool.and_false, gl0]
    | true =>
      cases hB : inB z 0 9 with
      | false => simp only [Bool.false_and, Bool.true_and, Bool.and_false, gl0]
      | true =>
        obtain ⟨a, ha, rfl⟩ := isL_ix hL i.x.2.2.2.2.1 i.x.1
        obtain ⟨r, hr, rfl⟩ := isF_ix hF i.x.2.2.2.2.2.1 i.x.2.1
        obtain ⟨s, hs, rfl⟩ := inB_ix (n := 10) (by decide) (show inB z 0 (nI 10 - 1) = true from hB)
        have sl : slF n b f := fun r s hr hs => i.x.sl r s hr hs
        rw [nI_clamp (by omega), nI_clamp (by omega), nI_clamp (by omega), ← h.tk r (by omega) _ (Nat.le_refl n), tk_iff sl i.sc hb hn hr hs, wt_ld sl i.sc hn hb hr, h.ld _ (Nat.le_refl n), h.wte ha, h.l (j := 5) (by decide) ha, h.r (j := 10) (by decide) hr, h.r (j := 9) (by decide) hr]
        simp only [Bool.true_and, Bool.not_not]
/-! what they leave -/
theorem IV.rules (i : IV n b q tm f C) {x y : Int32} (ht : tRules x y = 0) : IV n b q tm (up2 (up2 f 15 0 x) 16 0 y) C := by
  have hA : (inB x 1 20 && inB y 0 9) = true := gl_1.mp ht
  rw [Bool.and_eq_true] at hA
  obtain ⟨a, h1, h2, rfl⟩ := inB_1 (m := 20) (by decide) (show inB x 1 (nI 20) = true from hA.1)
  exact ⟨(i.x.up (by omega) _ _).up (by omega) _ _, i.2.1.eqv rfl rfl rfl (fun r => by rw [up2_fld _ _ _ (by omega), up2_fld _ _ _ (by omega)]), i.st, i.lp, i.le, i.sc.eqv rfl rfl (fun r => by rw [up2_fld _ _ _ (by omega), up2_fld _ _ _ (by omega)]), i.lc, i.ge, ⟨i.sp.1, a, h1, h2, rfl⟩, i.tm⟩
theorem IV.gust (i : IV n b q tm f C) (a : Nat) (y : Int32) : IV n b q tm (up2 f 17 a y) C := ⟨i.x.up (by omega) _ _, i.2.1.eqv rfl rfl rfl (fun r => up2_fld _ _ _ (by omega)), i.st, i.lp, i.le, i.sc.eqv rfl rfl (fun r => up2_fld _ _ _ (by omega)), i.lc, i.ge, i.sp, i.tm⟩
theorem LEd.up3 {k : Nat} {v : Int32} (h : LEd n f) (hk : f 3 k ≠ 2) : LEd n (up2 f 3 k v) := fun c hc z => by
  rw [up2_fld _ _ _ (by decide)]
  by_cases e : c = k
  · subst e; exact h c hc hk
  · rw [up2_ne _ _ _ e] at z; exact h c hc z
theorem IV.put (i : IV n b q tm f C) {k : Nat} (h1 : f 3 k = 1) : IV n b q tm (up2 f 3 k 0) C := ⟨i.x.up (by omega) _ _, i.2.1.eqv rfl rfl rfl (fun r => up2_fld _ _ _ (by omega)), i.st.up3 k (Or.inl rfl), i.lp.dec (dec.up3 f k 0 (fun z => absurd z (by decide))) rfl, i.le.up3 (by rw [h1]; decide), i.sc.eqv rfl rfl (fun r => up2_fld _ _ _ (by omega)), i.lc, i.ge, i.sp, i.tm⟩
theorem IV.lit (i : IV n b q tm f C) {k : Nat} (h0 : f 3 k = 0) (hp : hpB f k = true) : IV n b q tm (up2 f 3 k 1) C := by
  refine ⟨i.x.up (by omega) _ _, i.2.1.eqv rfl rfl rfl (fun r => up2_fld _ _ _ (by omega)), i.st.up3 k (Or.inr (Or.inl rfl)), fun c hc z => ?_, i.le.up3 (by rw [h0]; decide), i.sc.eqv rfl rfl (fun r => up2_fld _ _ _ (by omega)), i.lc, i.ge, i.sp, i.tm⟩
  rw [hpB_eq (f := f) (g := up2 f 3 k 1) rfl rfl]
  by_cases e : c = k
  · subst e; exact hp
  · rw [up2_ne _ _ _ e] at z; exact i.lp c hc z
/-- taking down -/
def tkF (f : St) (r k : Nat) : St := dkF (up2 (up2 (frF f r k 10) 5 k (-1)) 6 k (-1)) k
theorem fr_sl (f : St) (r k m r2 s : Nat) : (r2 = r ∧ s < m ∧ f (30 + r) s = nI k → frF f r k m (30 + r2) s = -1) ∧ (¬ (r2 = r ∧ s < m ∧ f (30 + r) s = nI k) → frF f r k m (30 + r2) s = f (30 + r2) s) := by
  induction m with
  | zero => exact ⟨fun z => by omega, fun _ => rfl⟩
  | succ m ih =>
    rw [frF]
    by_cases c : f (30 + r) m = nI k
    · rw [if_pos c]
      by_cases e : r2 = r
      · subst e
        by_cases e2 : s = m
        · subst e2
          rw [up2_self]
          exact ⟨fun _ => rfl, fun z => absurd ⟨rfl, by omega, c⟩ z⟩
        · rw [up2_ne _ _ _ e2]
          exact ⟨fun z => ih.1 ⟨rfl, by omega, z.2.2⟩, fun z => ih.2 (fun y => z ⟨rfl, by omega, y.2.2⟩)⟩
      · rw [up2_fld _ _ _ (by omega)]
        exact ⟨fun z => absurd z.1 e, fun _ => ih.2 (fun y => e y.1)⟩
    · rw [if_neg c]
      refine ⟨fun z => ih.1 ⟨z.1, ?_, z.2.2⟩, fun z => ih.2 (fun y => z ⟨y.1, by omega, y.2.2⟩)⟩
      have : s ≠ m := fun e => c (by rw [← e]; exact z.2.2)
      omega
theorem tk_f (f : St) (r k : Nat) {j : Nat} (hj : j < 30) (h : j ≠ 3 ∧ j ≠ 5 ∧ j ≠ 6) : tkF f r k j = f j := by
  unfold tkF
  rw [dkF_f _ _ (by omega), up2_fld _ _ _ (by omega), up2_fld _ _ _ (by omega), kp_fr hj]
theorem IV.take (i : IV n b q tm f C) {r k : Nat} (hr : r < b) (hk : k < n) (e5 : f 5 k = nI r) : IV n b q tm (tkF f r k) C := by
  have hb := i.x.2.1
  have hn := i.x.1
  have k5 : ∀ c, tkF f r k 5 c = if c = k then -1 else f 5 c := fun c => by
    unfold tkF
    rw [dkF_f _ _ (by decide), up2_fld _ _ _ (by decide)]
    by_cases e : c = k
    · rw [if_pos e, e, up2_self]
    · rw [if_neg e, up2_ne _ _ _ e, kp_fr (by decide)]
  have k6 : ∀ c, c ≠ k → tkF f r k 6 c = f 6 c := fun c e => by
    unfold tkF
    rw [dkF_f _ _ (by decide), up2_ne _ _ _ e, up2_fld _ _ _ (by decide), kp_fr (by decide)]
  have k30 : ∀ r2, tkF f r k (30 + r2) = frF f r k 10 (30 + r2) := fun r2 => by
    unfold tkF
    rw [dkF_f _ _ (by omega), up2_fld _ _ _ (by omega), up2_fld _ _ _ (by omega)]
  have k3 : ∀ c, (c ≠ k → tkF f r k 3 c = f 3 c) ∧ tkF f r k 3 k = dkV (f 3 k) := fun c => by
    unfold tkF
    refine ⟨fun e => ?_, ?_⟩
    · rw [dkF_o _ e, up2_fld _ _ _ (by decide), up2_fld _ _ _ (by decide), kp_fr (by decide)]
    · rw [dkF_v, up2_fld _ _ _ (by decide), up2_fld _ _ _ (by decide), kp_fr (by decide)]
  have k3k := (k3 k).2
  have k3n : tkF f r k 3 k ≠ 1 := fun e => by rw [k3k] at e; unfold dkV at e; split at e <;> exact absurd e (by decide)
  refine ⟨?_, ⟨?_, ?_, ?_, ?_⟩, ?_, ?_, ?_, ⟨?_, ?_⟩, i.lc.eqv (tk_f _ _ _ (by decide) (by decide)) (tk_f _ _ _ (by decide) (by decide)) (tk_f _ _ _ (by decide) (by decide)), i.ge.eqv (tk_f _ _ _ (by decide) (by decide)) (tk_f _ _ _ (by decide) (by decide)) (tk_f _ _ _ (by decide) (by decide)), i.sp.eqv (tk_f _ _ _ (by decide) (by decide)) (tk_f _ _ _ (by decide) (by decide)), by rw [tk_f _ _ _ (by decide) (by decide)]; exact i.tm⟩
  · exact (((i.x.fr r k 10).up5 k (Or.inl rfl)).up (by omega) _ _).dk k
  · rw [tk_f _ _ _ (by decide) (by decide)]; exact i.2.1.1
  · rw [tk_f _ _ _ (by decide) (by decide)]; exact i.2.1.2.1
  · rw [tk_f _ _ _ (by decide) (by decide)]; exact i.2.1.2.2.1
  · intro r2 hr2 s hs
    rw [k30, (fr_sl f r k 10 r2 s).2 (fun z => by omega)]; exact i.2.1.2.2.2 r2 hr2 s hs
  · intro c hc
    by_cases e : c = k
    · subst e; rw [k3k]; unfold dkV; split
      · exact Or.inr (Or.inr rfl)
      · exact Or.inl rfl
    · rw [(k3 c).1 e]; exact i.st c hc
  · intro c hc z
    have e : c ≠ k := fun e => k3n (by rw [e] at z; exact z)
    rw [(k3 c).1 e] at z
    have hp := i.lp c hc z
    unfold hpB at hp ⊢
    rw [k5, if_neg e, tk_f _ _ _ (by decide) (by decide)]
    exact hp
  · intro c hc z
    rw [tk_f _ _ _ (by decide) (by decide)]
    by_cases e : c = k
    · subst e
      refine i.le c hc (fun y => z ?_)
      rw [k3k, y]; rfl
    · rw [(k3 c).1 e] at z; exact i.le c hc z
  · intro r2 hr2 s hs c hc
    rw [k30, k5]
    by_cases e : c = k
    · subst e
      rw [if_pos rfl]
      refine ⟨fun z => ?_, fun z => absurd z.1.symm (nI_nm1 (by omega))⟩
      by_cases y : r2 = r ∧ s < 10 ∧ f (30 + r) s = nI c
      · rw [(fr_sl f r c 10 r2 s).1 y] at z; exact absurd z.symm (nI_nm1 (by omega))
      · rw [(fr_sl f r c 10 r2 s).2 y] at z
        have z5 := ((i.sc.1 r2 hr2 s hs c hc).mp z).1
        have : r2 = r := (nI_eq (by omega) (by omega)).mp (z5.symm.trans e5)
        subst this
        exact absurd ⟨rfl, hs, z⟩ y
    · rw [if_neg e, k6 c e]
      by_cases y : r2 = r ∧ s < 10 ∧ f (30 + r) s = nI k
      · rw [(fr_sl f r k 10 r2 s).1 y]
        refine ⟨fun z => absurd z.symm (nI_nm1 (by omega)), fun z => ?_⟩
        have z1 := (i.sc.1 r2 hr2 s hs c hc).mpr z
        rw [y.1, y.2.2] at z1
        exact absurd ((nI_eq (by omega) (by omega)).mp z1).symm e
      · rw [(fr_sl f r k 10 r2 s).2 y]; exact i.sc.1 r2 hr2 s hs c hc
  · intro c hc z
    rw [k5] at z
    by_cases e : c = k
    · rw [if_pos e] at z; exact absurd rfl z
    · rw [if_neg e] at z; rw [k6 c e]; exact i.sc.2 c hc z
theorem Rl.take (h : Rl n b q f g) {r k : Nat} (hk : k < n) (hb : b ≤ 8) : Rl n b q (tkF f r k) (dkF (up2 g 5 k (-1)) k) := by
  have kg : ∀ j, j ≠ 3 → j ≠ 5 → dkF (up2 g 5 k (-1)) k j = g j := fun j h1 h2 => by rw [dkF_f _ _ h1, up2_fld _ _ _ h2]
  refine ⟨fun j hj => ?_, fun j hj c hc => ?_, fun c hc z => ?_, fun j hj r2 hr2 => ?_, fun r2 hr2 z => ?_, fun i hi => ?_, ?_⟩
  · rw [tk_f _ _ _ (by omega) (by omega), kg _ (by omega) (by omega)]; exact h.n0 hj
  · by_cases h3 : j = 3
    · subst h3
      unfold tkF
      by_cases e : c = k
      · subst e
        rw [dkF_v, dkF_v, up2_fld _ _ _ (by decide), up2_fld _ _ _ (by decide), kp_fr (by decide), up2_fld _ _ _ (by decide), h.l (by decide) hc]
      · rw [dkF_o _ e, dkF_o _ e, up2_fld _ _ _ (by decide), up2_fld _ _ _ (by decide), kp_fr (by decide), up2_fld _ _ _ (by decide), h.l (by decide) hc]
    · by_cases h5 : j = 5
      · subst h5
        unfold tkF
        rw [dkF_f _ _ (by decide), dkF_f _ _ (by decide), up2_fld _ _ _ (by decide)]
        by_cases e : c = k
        · subst e; rw [up2_self, up2_self]
        · rw [up2_ne _ _ _ e, up2_ne _ _ _ e, kp_fr (by decide)]; exact h.l (by decide) hc
      · rw [tk_f _ _ _ (by omega) (by omega), kg _ h3 h5]; exact h.l hj hc
  · unfold tkF at z ⊢
    rw [dkF_f _ _ (by decide), up2_fld _ _ _ (by decide)] at z
    have e : c ≠ k := fun e => by rw [e, up2_self] at z; exact z rfl
    rw [up2_ne _ _ _ e, kp_fr (by decide)] at z
    rw [dkF_f _ _ (by decide), up2_ne _ _ _ e, up2_fld _ _ _ (by decide), kp_fr (by decide), dkF_f _ _ (by decide), up2_fld _ _ _ (by decide)]
    exact h.s6 hc z
  · rw [tk_f _ _ _ (by omega) (by omega), kg _ (by omega) (by omega)]; exact h.r hj hr2
  · rw [tk_f _ _ _ (by decide) (by decide)] at z
    rw [tk_f _ _ _ (by decide) (by decide), kg _ (by decide) (by decide)]; exact h.fr hr2 z
  · rw [tk_f _ _ _ (by decide) (by decide), kg _ (by decide) (by decide)]; exact h.o hi
  · rw [tk_f _ _ _ (by decide) (by decide), kg _ (by decide) (by decide)]; exact h.gu
/-- hanging -/
def hnF (f : St) (r s k : Nat) : St := up2 (up2 (up2 f (30 + r) s (nI k)) 5 k (nI r)) 6 k (nI s)
theorem hn_f (f : St) (r s k : Nat) {j : Nat} (hj : j < 30) (h : j ≠ 5 ∧ j ≠ 6) : hnF f r s k j = f j := by
  unfold hnF
  rw [up2_fld _ _ _ (by omega), up2_fld _ _ _ (by omega), up2_fld _ _ _ (by omega)]
theorem IV.hang (i : IV n b q tm f C) {r s k : Nat} (hr : r < b) (hs : s < 10) (hk : k < n) (e5 : f 5 k = -1) (es : f (30 + r) s = -1) : IV n b q tm (hnF f r s k) C := by
  have hb := i.x.2.1
  have hn := i.x.1
  have k5 : ∀ c, hnF f r s k 5 c = if c = k then nI r else f 5 c := fun c => by
    unfold hnF
    rw [up2_fld _ _ _ (by decide)]
    by_cases e : c = k
    · rw [if_pos e, e, up2_self]
    · rw [if_neg e, up2_ne _ _ _ e, up2_fld _ _ _ (by omega)]
  have k6 : ∀ c, hnF f r s k 6 c = if c = k then nI s else f 6 c := fun c => by
    unfold hnF
    by_cases e : c = k
    · rw [if_pos e, e, up2_self]
    · rw [if_neg e, up2_ne _ _ _ e, up2_fld _ _ _ (by omega), up2_fld _ _ _ (by omega)]
  have k30 : ∀ r2 s2, hnF f r s k (30 + r2) s2 = if r2 = r ∧ s2 = s then nI k else f (30 + r2) s2 := fun r2 s2 => by
    unfold hnF
    rw [up2_fld _ _ _ (by omega), up2_fld _ _ _ (by omega)]
    by_cases e : r2 = r
    · subst e
      by_cases e2 : s2 = s
      · rw [if_pos ⟨rfl, e2⟩, e2, up2_self]
      · rw [if_neg (fun z => e2 z.2), up2_ne _ _ _ e2]
    · rw [if_neg (fun z => e z.1), up2_fld _ _ _ (by omega)]
  have kk := fun {j : Nat} => hn_f f r s k (j := j)
  refine ⟨((i.x.ups r s (Or.inr ⟨k, hk, rfl⟩)).up5 k (Or.inr ⟨r, hr, rfl⟩)).up (by omega) _ _, ⟨?_, ?_, ?_, ?_⟩, i.st.eqv (kk (by decide) (by decide)), ?_, i.le.eqv (kk (by decide) (by decide)) (kk (by decide) (by decide)), ⟨?_, ?_⟩, i.lc.eqv (kk (by decide) (by decide)) (kk (by decide) (by decide)) (kk (by decide) (by decide)), i.ge.eqv (kk (by decide) (by decide)) (kk (by decide) (by decide)) (kk (by decide) (by decide)), i.sp.eqv (kk (by decide) (by decide)) (kk (by decide) (by decide)), by rw [kk (by decide) (by decide)]; exact i.tm⟩
  · rw [kk (by decide) (by decide)]; exact i.2.1.1
  · rw [kk (by decide) (by decide)]; exact i.2.1.2.1
  · rw [kk (by decide) (by decide)]; exact i.2.1.2.2.1
  · intro r2 hr2 s2 hs2
    rw [k30, if_neg (fun z => by omega)]; exact i.2.1.2.2.2 r2 hr2 s2 hs2
  · intro c hc z
    rw [kk (by decide) (by decide)] at z
    have hp := i.lp c hc z
    have e : c ≠ k := fun e => by rw [e, hpB_no e5] at hp; cases hp
    unfold hpB at hp ⊢
    rw [k5, if_neg e, kk (by decide) (by decide)]
    exact hp
  · intro r2 hr2 s2 hs2 c hc
    rw [k30, k5, k6]
    by_cases e : c = k
    · subst e
      rw [if_pos rfl, if_pos rfl]
      by_cases y : r2 = r ∧ s2 = s
      · rw [if_pos y, y.1, y.2]; exact ⟨fun _ => ⟨rfl, rfl⟩, fun _ => rfl⟩
      · rw [if_neg y]
        refine ⟨fun z => absurd (((i.sc.1 r2 hr2 s2 hs2 c hc).mp z).1.symm.trans e5) (nI_nm1 (by omega)), fun z => absurd ⟨((nI_eq (by omega) (by omega)).mp z.1).symm, ((nI_eq (by omega) (by omega)).mp z.2).symm⟩ y⟩
    · rw [if_neg e, if_neg e]
      by_cases y : r2 = r ∧ s2 = s
      · rw [if_pos y]
        refine ⟨fun z => absurd ((nI_eq (by omega) (by omega)).mp z).symm e, fun z => ?_⟩
        have z1 := (i.sc.1 r2 hr2 s2 hs2 c hc).mpr z
        rw [y.1, y.2, es] at z1
        exact absurd z1.symm (nI_nm1 (by omega))
      · rw [if_neg y]; exact i.sc.1 r2 hr2 s2 hs2 c hc
  · intro c hc z
    rw [k5] at z
    rw [k6]
    by_cases e : c = k
    · rw [if_pos e]; exact ⟨s, hs, rfl⟩
    · rw [if_neg e] at z ⊢; exact i.sc.2 c hc z
theorem Rl.hang (h : Rl n b q f g) (r s : Nat) {k : Nat} (hk : k < n) : Rl n b q (hnF f r s k) (up2 (up2 g 5 k (nI r)) 6 k (nI s)) := by
  have kk := fun {j : Nat} => hn_f f r s k (j := j)
  have kg : ∀ j, j ≠ 5 → j ≠ 6 → up2 (up2 g 5 k (nI r)) 6 k (nI s) j = g j := fun j h1 h2 => by rw [up2_fld _ _ _ h2, up2_fld _ _ _ h1]
  refine ⟨fun j hj => ?_, fun j hj c hc => ?_, fun c hc z => ?_, fun j hj r2 hr2 => ?_, fun r2 hr2 z => ?_, fun i hi => ?_, ?_⟩
  · rw [kk (by omega) (by omega), kg _ (by omega) (by omega)]; exact h.n0 hj
  · by_cases h5 : j = 5
    · subst h5
      rw [show hnF f r s k 5 c = up2 (up2 f (30 + r) s (nI k)) 5 k (nI r) 5 c from rfl, show up2 (up2 g 5 k (nI r)) 6 k (nI s) 5 c = up2 g 5 k (nI r) 5 c from rfl]
      by_cases e : c = k
      · subst e; rw [up2_self, up2_self]
      · rw [up2_ne _ _ _ e, up2_ne _ _ _ e, up2_fld _ _ _ (by omega)]; exact h.l (by decide) hc
    · rw [kk (by omega) (by omega), kg _ h5 (by omega)]; exact h.l hj hc
  · unfold hnF at z ⊢
    by_cases e : c = k
    · subst e; rw [up2_self, up2_self]
    · rw [show up2 (up2 (up2 f (30 + r) s (nI k)) 5 k (nI r)) 6 k (nI s) 5 c = up2 (up2 f (30 + r) s (nI k)) 5 k (nI r) 5 c from rfl, up2_ne _ _ _ e, up2_fld _ _ _ (by omega)] at z
      rw [up2_ne _ _ _ e, up2_ne _ _ _ e, show up2 (up2 f (30 + r) s (nI k)) 5 k (nI r) 6 = up2 f (30 + r) s (nI k) 6 from up2_fld _ _ _ (by decide), up2_fld _ _ _ (by omega), show up2 g 5 k (nI r) 6 = g 6 from up2_fld _ _ _ (by decide)]
      exact h.s6 hc z
  · rw [kk (by omega) (by omega), kg _ (by omega) (by omega)]; exact h.r hj hr2
  · rw [kk (by decide) (by decide)] at z
    rw [kk (by decide) (by decide), kg _ (by decide) (by decide)]; exact h.fr hr2 z
  · rw [kk (by decide) (by decide), kg _ (by decide) (by decide)]; exact h.o hi
  · rw [kk (by decide) (by decide), kg _ (by decide) (by decide)]; exact h.gu
end OPS
