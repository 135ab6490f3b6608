/-- the model's numbers of what isn't there yet -/
def RG (n b : Nat) (g : St) : Prop := (∀ k, n ≤ k → g 3 k = 0) ∧ ∀ r, b ≤ r → g 10 r = 0
theorem RG.up {n b : Nat} {g : St} (h : RG n b g) {j k : Nat} (v : Int32) (hj : (j ≠ 3 ∧ j ≠ 10) ∨ (j = 3 ∧ k < n) ∨ (j = 10 ∧ k < b)) : RG n b (up2 g j k v) := by
  refine ⟨fun c hc => ?_, fun c hc => ?_⟩
  · rw [up2_c]
    split
    · next e => rw [if_neg (by omega)]; exact h.1 c hc
    · exact h.1 c hc
  · rw [up2_c]
    split
    · next e => rw [if_neg (by omega)]; exact h.2 c hc
    · exact h.2 c hc
theorem RG.dk {n b : Nat} {g : St} (h : RG n b g) {k : Nat} (hk : k < n) : RG n b (dkF g k) := h.up _ (by omega)
theorem RG.mv {n b : Nat} {g : St} (h : RG n b g) (m : Nat) : RG n b (mvF g m).1 := ⟨fun c hc => by rw [mvF_k _ _ (by decide)]; exact h.1 c hc, fun c hc => by rw [mvF_k _ _ (by decide)]; exact h.2 c hc⟩
theorem RG.dkl {n b : Nat} {g : St} (h : RG n b g) (x : Int32) {m : Nat} (hm : m ≤ n) : RG n b (dkL g x m) := by
  induction m with
  | zero => exact h
  | succ m ih => rw [dkL]; split; exact (ih (by omega)).dk (by omega); exact ih (by omega)
theorem RG.gn {n b : Nat} {g : St} (h : RG n b g) {m : Nat} (hm : m ≤ b) : RG n b (gnF g n m) := by
  induction m with
  | zero => exact h
  | succ m ih => rw [gnF]; split; exact ((ih (by omega)).up _ (by omega)).dkl _ (Nat.le_refl _); exact ih (by omega)
theorem RG.bl {n b : Nat} {g : St} (h : RG n b g) (gu : Int32) {m : Nat} (hm : m ≤ n) : RG n b (blF g gu m) := by
  induction m with
  | zero => exact h
  | succ m ih => rw [blF]; split; exact ((ih (by omega)).up _ (by omega)).up _ (by omega); exact ih (by omega)
theorem RG.bu {n b : Nat} {g : St} (h : RG n b g) {m : Nat} (hm : m ≤ n) : RG n b (buF g m) := by
  induction m with
  | zero => exact h
  | succ m ih => rw [buF]; split; exact ((ih (by omega)).up _ (by omega)).up _ (by omega); exact ih (by omega)
theorem RG.ma {n b : Nat} {g : St} (h : RG n b g) {m : Nat} (hm : m ≤ n) : RG n b (maF g m) := by
  induction m with
  | zero => exact h
  | succ m ih => rw [maF]; split; exact ((ih (by omega)).up _ (by omega)).up _ (by omega); exact ih (by omega)
theorem RG.mn {n b : Nat} {g : St} (h : RG n b g) (q tm : Nat) : RG n b (minF g n b q tm) := by
  unfold minF brF fmF
  exact ((((((h.up _ (by omega)).mv q).gn (Nat.le_refl b)).bl _ (Nat.le_refl n)).bu (Nat.le_refl n)).ma (Nat.le_refl n))
theorem RG.ps {n b : Nat} {g : St} (h : RG n b g) (q tm k : Nat) : RG n b (passF g n b q tm k) := by
  induction k with
  | zero => exact h
  | succ k ih => exact ih.mn _ _
section OPS2
variable {n b q tm : Nat} {f g : St} {C : List Nat}
/-- a float ashore has its place in the row of the launched -/
theorem q_lt (i : IV n b q tm f C) {r0 : Nat} (hr0 : r0 < b) (h0 : f 10 r0 = 0) : q < 8 := by
  have hb := i.x.2.1
  have hq := i.x.2.2.1
  have e1 : ∀ c, c < q → (1 : Int32) = sm (fun r => if f 12 c = nI r then 1 else 0) b := by
    intro c hc
    obtain ⟨r, hr, e⟩ := i.x.o c hc
    rw [e, sm_one hr (fun r2 hr2 hne => if_neg (fun z => hne ((nI_eq (by omega) (by omega)).mp z).symm)), if_pos rfl]
  have e2 : ∀ r, r < b → (if f 10 r = 0 then (0 : Int32) else 1) = sm (fun c => if f 12 c = nI r then 1 else 0) q := by
    intro r hr
    by_cases h1 : f 10 r = 0
    · rw [if_pos h1, sm_none (fun c hc => if_neg (i.lc.2.2.1 r hr h1 c hc))]
    · obtain ⟨c, hc, e, -⟩ := i.lc.2.2.2 r hr h1
      rw [if_neg h1, sm_one hc (fun j hj hne => if_neg (fun z => hne (i.lc.1 j c hj hc (z.trans e.symm)))), if_pos e]
  have s1 : ∀ m, sm (fun _ => (1 : Int32)) m = nI m := by
    intro m
    induction m with
    | zero => rfl
    | succ m ih => rw [sm, ih, nI_1]
  have s2 : ∀ m, ∃ c, sm (fun r => if f 10 r = 0 then (0 : Int32) else 1) m = nI c ∧ c ≤ m ∧ (r0 < m → c < m) := by
    intro m
    induction m with
    | zero => exact ⟨0, rfl, by omega, fun z => by omega⟩
    | succ m ih =>
      obtain ⟨c, ec, h1, h2⟩ := ih
      rw [sm, ec]
      by_cases hz : f 10 m = 0
      · rw [if_pos hz, Int32.add_zero]; exact ⟨c, rfl, by omega, fun _ => by omega⟩
      · rw [if_neg hz, nI_1]
        refine ⟨c + 1, rfl, by omega, fun z => ?_⟩
        have : r0 ≠ m := fun e => hz (by rw [← e]; exact h0)
        have := h2 (by omega)
        omega
  have e3 : nI q = sm (fun r => if f 10 r = 0 then (0 : Int32) else 1) b := by
    rw [← s1 q, sm_congr e1, sm_congr e2]
    exact sm_swap (fun c r => if f 12 c = nI r then (1 : Int32) else 0) b q
  obtain ⟨c, ec, h1, h2⟩ := s2 b
  have := h2 hr0
  have e4 : q = c := (nI_eq (by omega) (by omega)).mp (e3.trans ec)
  omega
theorem rm_geo (i : IV n b q tm f C) (m : Nat) (hm : m ≤ q) : (rmS f m = -1 ∧ ∀ c, c < m → ¬ f 10 (N (f 12 c)) = 1) ∨ ∃ c, c < m ∧ f 10 (N (f 12 c)) = 1 ∧ rmS f m = f 12 c ∧ ∀ d, d < m → f 10 (N (f 12 d)) = 1 → d ≤ c := by
  induction m with
  | zero => exact Or.inl ⟨rfl, fun c hc => by omega⟩
  | succ m ih =>
    rw [rmS]
    by_cases h1 : f 10 (f 12 m).toNatClampNeg = 1
    · rw [if_pos h1]; exact Or.inr ⟨m, by omega, h1, rfl, fun d hd _ => by omega⟩
    · rw [if_neg h1]
      rcases ih (by omega) with ⟨z1, z2⟩ | ⟨c, hc, z1, z2, z3⟩
      · refine Or.inl ⟨z1, fun c hc => ?_⟩
        rcases Nat.lt_or_ge c m with y | y
        · exact z2 c y
        · rw [show c = m by omega]; exact h1
      · refine Or.inr ⟨c, by omega, z1, z2, fun d hd h => ?_⟩
        have : d ≠ m := fun e => h1 (by rw [← e]; exact h)
        exact z3 d (by omega) h
theorem la_f (f : St) (q r : Nat) {j : Nat} (h : j ≠ 10 ∧ j ≠ 11 ∧ j ≠ 24 ∧ j ≠ 12 ∧ j ≠ 13) : laF f q r j = f j := by
  unfold laF
  rw [up2_fld _ _ _ (by omega), up2_fld _ _ _ (by omega), up2_fld _ _ _ (by omega), up2_fld _ _ _ (by omega), up2_fld _ _ _ (by omega)]
theorem IV.la (i : IV n b q tm f C) {r : Nat} (hr : r < b) (h0 : f 10 r = 0) (hroom : rmS f q = -1 ∨ 9 + f 15 0 ≤ f 11 (rmS f q).toNatClampNeg - 9) : IV n b (q + 1) tm (laF f q r) C := by
  have hb := i.x.2.1
  have hq8 := q_lt i hr h0
  have k := fun {j : Nat} => la_f f q r (j := j)
  have k10 : ∀ c, laF f q r 10 c = if c = r then 1 else f 10 c := fun c => rfl
  have k11 : ∀ c, laF f q r 11 c = if c = r then 9 else f 11 c := fun c => rfl
  have k12 : ∀ c, laF f q r 12 c = if c = q then nI r else f 12 c := fun c => rfl
  have k24 : ∀ c, laF f q r 24 c = if c = r then nI q else f 24 c := fun c => rfl
  have hne : ∀ c, c < q → N (f 12 c) ≠ r := fun c hc e => by
    obtain ⟨r2, hr2, e2⟩ := i.x.o c hc
    rw [N, e2, nI_clamp (by omega)] at e
    exact i.lc.2.2.1 r hr h0 c hc (by rw [e2, e])
  refine ⟨i.x.la hr hq8, ⟨?_, ?_, ?_, ?_⟩, i.st.eqv (k (by decide)), ?_, i.le.eqv (k (by decide)) (k (by decide)), i.sc.eqv (k (by decide)) (k (by decide)) (fun r => k (by omega)), ⟨?_, ?_, ?_, ?_⟩, ⟨?_, ?_⟩, i.sp.eqv (k (by decide)) (k (by decide)), by rw [k (by decide)]; exact i.tm⟩
  · rw [k (by decide)]; exact i.2.1.1
  · rw [k (by decide)]; exact i.2.1.2.1
  · intro c hc; rw [k12, if_neg (by omega)]; exact i.2.1.2.2.1 c hc
  · intro r2 hr2 s hs; rw [k (by omega)]; exact i.2.1.2.2.2 r2 hr2 s hs
  · intro c hc z
    rw [k (by decide)] at z
    obtain ⟨r2, hr2, e5, e10⟩ := hpB_yes i.x.h hb hc (i.lp c hc z)
    rw [hpB_of (r := r2) (by rw [k (by decide)]; exact e5) (by omega), k10]
    have : r2 ≠ r := fun e => by rw [e, h0] at e10; exact absurd e10 (by decide)
    rw [if_neg this, e10]; rfl
  · intro c d hc hd e
    rw [k12, k12] at e
    by_cases e1 : c = q
    · by_cases e2 : d = q
      · omega
      · rw [if_pos e1, if_neg e2] at e
        exact absurd e.symm (i.lc.2.2.1 r hr h0 d (by omega))
    · by_cases e2 : d = q
      · rw [if_neg e1, if_pos e2] at e
        exact absurd e (i.lc.2.2.1 r hr h0 c (by omega))
      · rw [if_neg e1, if_neg e2] at e
        exact i.lc.1 c d (by omega) (by omega) e
  · intro r2 hr2
    rw [k10]
    by_cases e : r2 = r
    · rw [if_pos e]; exact Or.inr (Or.inl rfl)
    · rw [if_neg e]; exact i.lc.2.1 r2 hr2
  · intro r2 hr2 e c hc
    rw [k10] at e
    rw [k12]
    by_cases e1 : r2 = r
    · rw [if_pos e1] at e; exact absurd e (by decide)
    · rw [if_neg e1] at e
      by_cases e2 : c = q
      · rw [if_pos e2]; exact fun z => e1 ((nI_eq (by omega) (by omega)).mp z).symm
      · rw [if_neg e2]; exact i.lc.2.2.1 r2 hr2 e c (by omega)
  · intro r2 hr2 e
    rw [k10] at e
    by_cases e1 : r2 = r
    · exact ⟨q, by omega, by rw [k12, if_pos rfl, e1], by rw [k24, if_pos e1]⟩
    · rw [if_neg e1] at e
      obtain ⟨c, hc, e2, e3⟩ := i.lc.2.2.2 r2 hr2 e
      exact ⟨c, by omega, by rw [k12, if_neg (by omega)]; exact e2, by rw [k24, if_neg e1]; exact e3⟩
  · intro r2 hr2 e
    rw [k10] at e
    rw [k11]
    by_cases e1 : r2 = r
    · rw [if_pos e1]; exact ⟨9, by omega, by omega, rfl⟩
    · rw [if_neg e1] at e ⊢; exact i.ge.1 r2 hr2 e
  · intro c d hcd hd h1 h2
    rw [k12, if_neg (by omega : ¬ c = q), k10, if_neg (hne c (by omega))] at h1
    rw [k12, k12, if_neg (by omega : ¬ c = q), k11, k11, if_neg (hne c (by omega))]
    by_cases e2 : d = q
    · rw [if_pos e2, show N (nI r) = r from nI_clamp (by omega), if_pos rfl, show N (9 : Int32) = 9 from rfl]
      rcases rm_geo i q (Nat.le_refl q) with ⟨z1, z2⟩ | ⟨c2, hc2, z1, z2, z3⟩
      · exact absurd h1 (z2 c (by omega))
      · rcases hroom with y | y
        · obtain ⟨r2, hr2, e2⟩ := i.x.o c2 hc2
          rw [z2, e2] at y; exact absurd y (nI_nm1 (by omega))
        · obtain ⟨r2, hr2, e2⟩ := i.x.o c2 hc2
          have hN2 : N (f 12 c2) = r2 := by rw [N, e2, nI_clamp (by omega)]
          rw [hN2] at z1
          obtain ⟨p, hp9, hp5, ep⟩ := i.ge.1 r2 hr2 z1
          obtain ⟨gp, hg1, hg2, eg⟩ := i.sp.2
          rw [z2, e2, nI_clamp (by omega), ep, eg, show nI p - 9 = nI (p - 9) from pk_sub (a := p) (b := 9) (by omega), show (9 : Int32) + nI gp = nI (9 + gp) from nI_add 9 gp, nI_leI (by omega) (by omega)] at y
          have hle := z3 c (by omega) h1
          obtain ⟨rc, hrc, erc⟩ := i.x.o c (by omega)
          have hNc : N (f 12 c) = rc := by rw [N, erc, nI_clamp (by omega)]
          rcases Nat.lt_or_ge c c2 with w | w
          · have hg := i.ge.2 c c2 w hc2 h1 (by rw [hN2]; exact z1)
            rw [hN2, ep, show N (nI p) = p from nI_clamp (by omega)] at hg
            omega
          · have : c = c2 := by omega
            subst this
            rw [hN2, ep, show N (nI p) = p from nI_clamp (by omega)]
            omega
    · rw [k12, if_neg e2, k10, if_neg (hne d (by omega))] at h2
      rw [if_neg e2, if_neg (hne d (by omega))]
      exact i.ge.2 c d hcd (by omega) h1 h2
theorem Rl.la (h : Rl n b q f g) (r : Nat) : Rl n b (q + 1) (laF f q r) (up2 (up2 (up2 (up2 g 10 r 1) 11 r 9) 12 q (nI r)) 13 0 (nI (q + 1))) := by
  have key : ∀ j c, j ≠ 24 → f j c = g j c → laF f q r j c = up2 (up2 (up2 (up2 g 10 r 1) 11 r 9) 12 q (nI r)) 13 0 (nI (q + 1)) j c := by
    intro j c hj e
    unfold laF
    rw [up2_c, up2_c _ 12, up2_c _ 24, if_neg hj, up2_c _ 11, up2_c _ 10, up2_c _ 13, up2_c _ 12, up2_c _ 11, up2_c _ 10, e]
  have k := fun {j : Nat} => la_f f q r (j := j)
  refine ⟨fun j hj => ?_, fun j hj c hc => ?_, fun c hc z => ?_, fun j hj r2 hr2 => ?_, fun r2 hr2 z => ?_, fun c hc => ?_, ?_⟩
  · exact key j 0 (by omega) (h.n0 hj)
  · exact key j c (by omega) (h.l hj hc)
  · rw [k (by decide)] at z; exact key 6 c (by decide) (h.s6 hc z)
  · exact key j r2 (by omega) (h.r hj hr2)
  · by_cases e : r2 = r
    · subst e
      show (if r2 = r2 then (9 : Int32) else f 11 r2) = (if r2 = r2 then 9 else g 11 r2)
      rw [if_pos rfl, if_pos rfl]
    · refine key 11 r2 (by decide) (h.fr hr2 ?_)
      have z2 : (if r2 = r then (1 : Int32) else f 10 r2) = 1 := z
      rw [if_neg e] at z2; exact z2
  · by_cases e : c = q
    · subst e
      show (if c = c then nI r else f 12 c) = (if c = c then nI r else g 12 c)
      rw [if_pos rfl, if_pos rfl]
    · exact key 12 c (by decide) (h.o (by omega))
  · funext c; exact key 17 c (by decide) (congrFun h.gu c)
theorem mk_f (f : St) (n : Nat) (x y z : Int32) {j : Nat} (hj : 7 ≤ j) (h : j ≠ 22 ∧ j ≠ 7) : mkF f n x y z j = f j := by
  unfold mkF lnF
  rw [up2_fld _ _ _ (by omega), up2_fld _ _ _ (by omega), up2_fld _ _ _ (by omega), up2_fld _ _ _ (by omega), up2_fld _ _ _ (by omega), up2_fld _ _ _ (by omega), up2_fld _ _ _ (by omega), up2_fld _ _ _ (by omega), up2_fld _ _ _ (by omega)]
theorem mk_o (f : St) (n : Nat) (x y z : Int32) {j k : Nat} (hj : j < 7) (hk : k ≠ n) : mkF f n x y z j k = f j k := by
  unfold mkF lnF
  rw [up2_fld _ _ _ (by omega), up2_fld _ _ _ (by omega)]
  simp only [up2_c, if_neg hk, ite_self]
theorem IV.mk (i : IV n b q tm f C) (hn : n < 24) {x y z : Int32} (ht : tMake f x y z = 0) : IV (n + 1) b q tm (mkF f n x y z) (C ++ [5 + n]) := by
  have hb := i.x.2.1
  have k := fun {j : Nat} => mk_f f n x y z (j := j)
  have o := fun {j k : Nat} => mk_o f n x y z (j := j) (k := k)
  have k3 : mkF f n x y z 3 n = 0 := by simp [mkF, lnF, up2]
  have k4 : mkF f n x y z 4 n = 20 * z := by simp [mkF, lnF, up2]
  have k5 : mkF f n x y z 5 n = -1 := by simp [mkF, lnF, up2]
  have hA := gl_2.mp ht
  rw [Bool.and_eq_true] at hA
  obtain ⟨c1, hc1, hc2, rfl⟩ := inB_1 (m := 4) (by decide) (show inB z 1 (nI 4) = true from hA.1.2)
  refine ⟨i.x.mk hn x y _, ⟨?_, ?_, ?_, ?_⟩, ?_, ?_, ?_, ⟨?_, ?_⟩, i.lc.eqv (k (by decide) (by decide)) (k (by decide) (by decide)) (k (by decide) (by decide)), i.ge.eqv (k (by decide) (by decide)) (k (by decide) (by decide)) (k (by decide) (by decide)), i.sp.eqv (k (by decide) (by decide)) (k (by decide) (by decide)), by rw [k (by decide) (by decide)]; exact i.tm⟩
  · intro c hc
    show (if c = n then nI n else f 22 c) = -1
    rw [if_neg (by omega)]; exact i.2.1.1 c hc
  · rw [k (by decide) (by decide)]; exact i.2.1.2.1
  · rw [k (by decide) (by decide)]; exact i.2.1.2.2.1
  · intro r hr s hs; rw [k (by omega) (by omega)]; exact i.2.1.2.2.2 r hr s hs
  · intro c hc
    by_cases e : c = n
    · rw [e, k3]; exact Or.inl rfl
    · rw [o (by decide) e]; exact i.st c (by omega)
  · intro c hc w
    have e : c ≠ n := fun e => by rw [e, k3] at w; exact absurd w (by decide)
    rw [o (by decide) e] at w
    have hp := i.lp c (by omega) w
    unfold hpB at hp ⊢
    rw [o (by decide) e, k (by decide) (by decide)]; exact hp
  · intro c hc w
    by_cases e : c = n
    · rw [e, k4]; exact ⟨20 * c1, by omega, by omega, pk_mul 20 c1⟩
    · rw [o (by decide) e] at w ⊢; exact i.le c (by omega) w
  · intro r hr s hs c hc
    rw [k (by omega) (by omega)]
    by_cases e : c = n
    · rw [e, k5]
      refine ⟨fun w => ?_, fun w => absurd w.1.symm (nI_nm1 (by omega))⟩
      rcases i.x.sl r s hr hs with v | ⟨c2, hc2, v⟩
      · exact absurd (w.symm.trans v) (nI_nm1 (by omega))
      · have := (nI_eq (by omega) (by omega)).mp (w.symm.trans v); omega
    · rw [o (by decide) e, o (by decide) e]; exact i.sc.1 r hr s hs c (by omega)
  · intro c hc w
    by_cases e : c = n
    · rw [e, k5] at w; exact absurd rfl w
    · rw [o (by decide) e] at w ⊢; exact i.sc.2 c (by omega) w
theorem Rl.mk (h : Rl n b q f g) (hg : g 3 n = 0) (x y z : Int32) : Rl (n + 1) b q (mkF f n x y z) (up2 (up2 (up2 (up2 (up2 (up2 g 0 n x) 1 n y) 2 n z) 4 n (20 * z)) 5 n (-1)) 7 0 (nI (n + 1))) := by
  have k := fun {j : Nat} => mk_f f n x y z (j := j)
  have kg : ∀ j, 7 < j → up2 (up2 (up2 (up2 (up2 (up2 g 0 n x) 1 n y) 2 n z) 4 n (20 * z)) 5 n (-1)) 7 0 (nI (n + 1)) j = g j := fun j hj => by
    rw [up2_fld _ _ _ (by omega), up2_fld _ _ _ (by omega), up2_fld _ _ _ (by omega), up2_fld _ _ _ (by omega), up2_fld _ _ _ (by omega), up2_fld _ _ _ (by omega)]
  refine ⟨fun j hj => ?_, fun j hj c hc => ?_, fun c hc w => ?_, fun j hj r2 hr2 => ?_, fun r2 hr2 w => ?_, fun c hc => ?_, ?_⟩
  · by_cases e : j = 7
    · subst e; rfl
    · rw [k (by omega) (by omega), kg _ (by omega)]; exact h.n0 hj
  · by_cases e : c = n
    · subst e
      rcases (by omega : j = 0 ∨ j = 1 ∨ j = 2 ∨ j = 3 ∨ j = 4 ∨ j = 5) with rfl | rfl | rfl | rfl | rfl | rfl <;> simp [mkF, lnF, up2, hg]
    · rw [mk_o f n x y z (by omega) e, up2_c, if_neg (by omega)]
      simp only [up2_c, if_neg e, ite_self]
      exact h.l hj (by omega)
  · have e : c ≠ n := fun e => w (by rw [e]; simp [mkF, lnF, up2])
    rw [mk_o f n x y z (by decide) e] at w ⊢
    rw [up2_fld _ _ _ (by decide), up2_fld _ _ _ (by decide), up2_fld _ _ _ (by decide), up2_fld _ _ _ (by decide), up2_fld _ _ _ (by decide), up2_fld _ _ _ (by decide)]
    exact h.s6 (by omega) w
  · rw [k (by omega) (by omega), kg _ (by omega)]; exact h.r hj hr2
  · rw [k (by decide) (by decide)] at w
    rw [k (by decide) (by decide), kg _ (by decide)]; exact h.fr hr2 w
  · rw [k (by decide) (by decide), kg _ (by decide)]; exact h.o hc
  · rw [k (by decide) (by decide), kg _ (by decide)]; exact h.gu
theorem bd_v (f : St) (b : Nat) (x y : Int32) (c : Nat) : bdF f b x y 8 c = (if c = b then x else f 8 c) ∧ bdF f b x y 9 c = (if c = b then y else f 9 c) ∧ bdF f b x y 10 c = (if c = b then 0 else f 10 c) ∧ bdF f b x y 11 c = (if c = b then -1 else f 11 c) ∧ bdF f b x y 24 c = (if c = b then -1 else f 24 c) := by
  have e : ∀ j, j < 30 → j ≠ 23 → j ≠ 14 → bdF f b x y j c = up2 (up2 (up2 (up2 (up2 (up2 f 25 b (nI b)) 8 b x) 9 b y) 10 b 0) 11 b (-1)) 24 b (-1) j c := fun j h1 h2 h3 => by
    unfold bdF rfF
    rw [up2_fld _ _ _ h3, up2_fld _ _ _ h2]
    unfold setF
    rw [if_neg (by omega)]
  exact ⟨e 8 (by decide) (by decide) (by decide), e 9 (by decide) (by decide) (by decide), e 10 (by decide) (by decide) (by decide), e 11 (by decide) (by decide) (by decide), e 24 (by decide) (by decide) (by decide)⟩
theorem bd_s (f : St) (b : Nat) (x y : Int32) (r : Nat) : bdF f b x y (30 + r) = if r = b then (fun _ => -1) else f (30 + r) := by
  unfold bdF rfF
  rw [up2_fld _ _ _ (by omega), up2_fld _ _ _ (by omega)]
  funext c
  unfold setF
  by_cases e : r = b
  · rw [if_pos (by omega), if_pos e]
  · rw [if_neg (by omega), if_neg e, up2_fld _ _ _ (by omega), up2_fld _ _ _ (by omega), up2_fld _ _ _ (by omega), up2_fld _ _ _ (by omega), up2_fld _ _ _ (by omega), up2_fld _ _ _ (by omega)]
theorem IV.bd (i : IV n b q tm f C) (hb : b < 8) {x y : Int32} (ht : tBuild f x y = 0) : IV n (b + 1) q tm (bdF f b x y) (C ++ [29 + b, 37 + b]) := by
  have hn := i.x.1
  have k := fun {j : Nat} => bdF_k (f := f) (b := b) (x := x) (y := y) (j := j)
  have hA := gl_2.mp ht
  rw [Bool.and_eq_true] at hA
  obtain ⟨c1, hc1, hc2, rfl⟩ := inB_1 (m := 9) (by decide) (show inB x 1 (nI 9) = true from hA.1.1)
  have hor : ∀ c, c < q → N (f 12 c) ≠ b := fun c hc e => by
    obtain ⟨r, hr, e2⟩ := i.x.o c hc
    rw [N, e2, nI_clamp (by omega)] at e; omega
  refine ⟨i.x.bd hb _ y, ⟨?_, ?_, ?_, ?_⟩, i.st.eqv (k (by decide) (by decide)), ?_, i.le.eqv (k (by decide) (by decide)) (k (by decide) (by decide)), ⟨?_, ?_⟩, ⟨?_, ?_, ?_, ?_⟩, ⟨?_, ?_⟩, ⟨?_, ?_⟩, by rw [k (by decide) (by decide)]; exact i.tm⟩
  · rw [k (by decide) (by decide)]; exact i.2.1.1
  · intro c hc
    unfold bdF
    rw [up2_fld _ _ _ (by decide), up2_ne _ _ _ (by omega)]
    unfold rfF setF
    rw [if_neg (by omega)]; exact i.2.1.2.1 c hc
  · rw [k (by decide) (by decide)]; exact i.2.1.2.2.1
  · intro r hr s hs
    rw [bd_s]
    split
    · rfl
    · exact i.2.1.2.2.2 r (by omega) s hs
  · intro c hc w
    rw [k (by decide) (by decide)] at w
    obtain ⟨r2, hr2, e5, e10⟩ := hpB_yes i.x.h (by omega) hc (i.lp c hc w)
    rw [hpB_of (r := r2) (by rw [k (by decide) (by decide)]; exact e5) (by omega), (bd_v f b _ y r2).2.2.1, if_neg (by omega), e10]; rfl
  · intro r hr s hs c hc
    rw [bd_s, k (by decide) (by decide), k (by decide) (by decide)]
    by_cases e : r = b
    · rw [if_pos e]
      refine ⟨fun w => absurd w.symm (nI_nm1 (by omega)), fun w => ?_⟩
      rcases i.x.h c hc with v | ⟨r2, hr2, v⟩
      · exact absurd (w.1.symm.trans v) (nI_nm1 (by omega))
      · have := (nI_eq (by omega) (by omega)).mp (w.1.symm.trans v); omega
    · rw [if_neg e]; exact i.sc.1 r (by omega) s hs c hc
  · rw [k (by decide) (by decide), k (by decide) (by decide)]; exact i.sc.2
  · rw [k (by decide) (by decide)]; exact i.lc.1
  · intro r hr
    rw [(bd_v f b _ y r).2.2.1]
    by_cases e : r = b
    · rw [if_pos e]; exact Or.inl rfl
    · rw [if_neg e]; exact i.lc.2.1 r (by omega)
  · intro r hr w c hc
    rw [k (by decide) (by decide)]
    rw [(bd_v f b _ y r).2.2.1] at w
    by_cases e : r = b
    · exact fun v => hor c hc (by rw [N, v, nI_clamp (by omega), e])
    · rw [if_neg e] at w; exact i.lc.2.2.1 r (by omega) w c hc
  · intro r hr w
    rw [(bd_v f b _ y r).2.2.1] at w
    rw [k (by decide) (by decide), (bd_v f b _ y r).2.2.2.2]
    by_cases e : r = b
    · rw [if_pos e] at w; exact absurd rfl w
    · rw [if_neg e] at w ⊢; exact i.lc.2.2.2 r (by omega) w
  · intro r hr w
    rw [(bd_v f b _ y r).2.2.1] at w
    rw [(bd_v f b _ y r).2.2.2.1]
    by_cases e : r = b
    · rw [if_pos e] at w; exact absurd w (by decide)
    · rw [if_neg e] at w ⊢; exact i.ge.1 r (by omega) w
  · intro c d hcd hd h1 h2
    rw [k (j := 12) (by decide) (by decide)] at h1 h2 ⊢
    rw [(bd_v f b _ y _).2.2.1, if_neg (hor c (by omega))] at h1
    rw [(bd_v f b _ y _).2.2.1, if_neg (hor d hd)] at h2
    rw [(bd_v f b _ y _).2.2.2.1, (bd_v f b _ y _).2.2.2.1, if_neg (hor c (by omega)), if_neg (hor d hd)]
    exact i.ge.2 c d hcd hd h1 h2
  · intro r hr
    rw [(bd_v f b _ y r).1]
    by_cases e : r = b
    · rw [if_pos e]; exact ⟨c1, hc1, hc2, rfl⟩
    · rw [if_neg e]; exact i.sp.1 r (by omega)
  · rw [k (by decide) (by decide)]; exact i.sp.2
theorem Rl.bd (h : Rl n b q f g) (hg : g 10 b = 0) (x y : Int32) : Rl n (b + 1) q (bdF f b x y) (up2 (up2 (up2 g 8 b x) 9 b y) 14 0 (nI (b + 1))) := by
  have k := fun {j : Nat} => bdF_k (f := f) (b := b) (x := x) (y := y) (j := j)
  have kg : ∀ j, j ≠ 8 → j ≠ 9 → j ≠ 14 → up2 (up2 (up2 g 8 b x) 9 b y) 14 0 (nI (b + 1)) j = g j := fun j h1 h2 h3 => by
    rw [up2_fld _ _ _ h3, up2_fld _ _ _ h2, up2_fld _ _ _ h1]
  refine ⟨fun j hj => ?_, fun j hj c hc => ?_, fun c hc w => ?_, fun j hj r2 hr2 => ?_, fun r2 hr2 w => ?_, fun c hc => ?_, ?_⟩
  · by_cases e : j = 14
    · subst e
      rw [show bdF f b x y 14 0 = nI (b + 1) from up2_self _ _ _ _]; rfl
    · rw [k (by omega) (by omega), kg _ (by omega) (by omega) e]; exact h.n0 hj
  · rw [k (by omega) (by omega), kg _ (by omega) (by omega) (by omega)]; exact h.l hj hc
  · rw [k (by decide) (by decide)] at w
    rw [k (by decide) (by decide), kg _ (by decide) (by decide) (by decide)]; exact h.s6 hc w
  · obtain ⟨v8, v9, v10, -, -⟩ := bd_v f b x y r2
    rcases hj with rfl | rfl | rfl
    · rw [v8]
      show _ = if r2 = b then x else g 8 r2
      by_cases e : r2 = b
      · rw [if_pos e, if_pos e]
      · rw [if_neg e, if_neg e]; exact h.r (by decide) (by omega)
    · rw [v9]
      show _ = if r2 = b then y else g 9 r2
      by_cases e : r2 = b
      · rw [if_pos e, if_pos e]
      · rw [if_neg e, if_neg e]; exact h.r (by decide) (by omega)
    · rw [v10, kg _ (by decide) (by decide) (by decide)]
      by_cases e : r2 = b
      · rw [if_pos e, e, hg]
      · rw [if_neg e]; exact h.r (by decide) (by omega)
  · obtain ⟨-, -, v10, v11, -⟩ := bd_v f b x y r2
    rw [v10] at w
    rw [v11, kg _ (by decide) (by decide) (by decide)]
    by_cases e : r2 = b
    · rw [if_pos e] at w; exact absurd w (by decide)
    · rw [if_neg e] at w ⊢; exact h.fr (by omega) w
  · rw [k (by decide) (by decide), kg _ (by decide) (by decide) (by decide)]; exact h.o hc
  · rw [k (by decide) (by decide), kg _ (by decide) (by decide) (by decide)]; exact h.gu
end OPS2
theorem IV0 : IV 0 0 0 0 f0X [0, 1, 2, 3, 4] := by
  refine ⟨⟨by omega, by omega, by omega, fun c => ?_, rfl, rfl, rfl, fun i h => by omega, fun i _ _ => rfl, fun i h => by omega, fun i _ _ => rfl, fun i h => by omega, fun i _ _ => rfl, fun i h => by omega, fun r s h => by omega, fun r h => by omega⟩, ⟨fun i _ => rfl, fun i _ => rfl, fun i _ => rfl, fun r h => by omega⟩, fun k h => by omega, fun k h => by omega, fun k h => by omega, ⟨fun r h => by omega, fun k h => by omega⟩, ⟨fun i j h => by omega, fun r h => by omega, fun r h => by omega, fun r h => by omega⟩, ⟨fun r h => by omega, fun i j _ h => by omega⟩, ⟨fun r h => by omega, 2, by decide, by decide, rfl⟩, rfl⟩
  simp only [List.mem_cons, List.not_mem_nil, or_false]
  omega
/-- the law's numbers at the start -/
def f0J : St := fun j k => if j = 15 ∧ k = 0 then 2 else 0
theorem Rl0 : Rl 0 0 0 f0X f0J := by
  refine ⟨fun j hj => ?_, fun j _ k h => by omega, fun k h => by omega, fun j _ k h => by omega, fun k h => by omega, fun k h => by omega, rfl⟩
  rcases hj with rfl | rfl | rfl | rfl | rfl | rfl | rfl | rfl <;> rfl
theorem RG0 : RG 0 0 f0J := ⟨fun k _ => rfl, fun k _ => rfl⟩
