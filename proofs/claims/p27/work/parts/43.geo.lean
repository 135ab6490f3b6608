theorem iflt {a c p : Nat} (ha : a < 2 ^ 31) (hc : c < 2 ^ 31) : (if nI a < nI c then nI a else nI c) = nI (min a c) := by
  by_cases h : a < c
  · rw [if_pos ((nI_ltI ha hc).mpr h), Nat.min_eq_left (by omega)]
  · rw [if_neg (fun z => h ((nI_ltI ha hc).mp z)), Nat.min_eq_right (by omega)]
theorem moveF_1 {g : St} {r p s : Nat} (h1 : g 11 r = nI p) (h2 : g 8 r = nI s) (hp : p < 1000) (hs : s < 10) (hs1 : 1 ≤ s) : moveF g (-1) r = nI (p + s) := by
  unfold moveF
  rw [h1, h2, nI_add]
  simp only [reduceIte, ite_self]
  rw [if_pos ((nI_ltI (by omega) (by omega)).mpr (by omega))]
theorem moveF_2 {g : St} {r p s ra P gp : Nat} (hra : ra < 8) (h1 : g 11 r = nI p) (h2 : g 8 r = nI s) (h3 : g 11 ra = nI P) (h4 : g 15 0 = nI gp) (hp : p < 1000) (hs : s < 10) (hg : 1 ≤ gp) (hg2 : gp ≤ 20) (hP : p + 9 < P) (hP2 : P < 1000) : ∃ p', moveF g (nI ra) r = nI p' ∧ p ≤ p' ∧ p' ≤ p + s ∧ p' + 9 < P := by
  unfold moveF
  rw [h1, h2, nI_add, if_neg (nI_nm1 (by omega)), nI_clamp (by omega), h3, h4, show nI P - 9 = nI (P - 9) from pk_sub (a := P) (b := 9) (by omega)]
  by_cases hc : gp ≤ P - 9
  · rw [pk_sub hc]
    by_cases c1 : p + s < P - 9 - gp
    · rw [if_pos ((nI_ltI (by omega) (by omega)).mpr c1)]
      by_cases c2 : p < p + s
      · rw [if_pos ((nI_ltI (by omega) (by omega)).mpr c2)]; exact ⟨p + s, rfl, by omega, by omega, by omega⟩
      · rw [if_neg (fun z => c2 ((nI_ltI (by omega) (by omega)).mp z))]; exact ⟨p, rfl, by omega, by omega, by omega⟩
    · rw [if_neg (fun z => c1 ((nI_ltI (by omega) (by omega)).mp z))]
      by_cases c2 : p < P - 9 - gp
      · rw [if_pos ((nI_ltI (by omega) (by omega)).mpr c2)]; exact ⟨P - 9 - gp, rfl, by omega, by omega, by omega⟩
      · rw [if_neg (fun z => c2 ((nI_ltI (by omega) (by omega)).mp z))]; exact ⟨p, rfl, by omega, by omega, by omega⟩
  · have hX : (nI (P - 9) - nI gp).toInt < 0 := by rw [pk_sub_toInt (by omega) (by omega)]; omega
    have c1 : ¬ nI (p + s) < nI (P - 9) - nI gp := fun z => by
      rw [Int32.lt_iff_toInt_lt, nI_toInt (by omega)] at z; omega
    have c2 : ¬ nI p < nI (P - 9) - nI gp := fun z => by
      rw [Int32.lt_iff_toInt_lt, nI_toInt (by omega)] at z; omega
    rw [if_neg c1, if_neg c2]
    exact ⟨p, rfl, by omega, by omega, by omega⟩
def N (x : Int32) : Nat := x.toNatClampNeg
def GEd (b q : Nat) (f : St) : Prop := (∀ r, r < b → f 10 r = 1 → ∃ p, 9 ≤ p ∧ p < 500 ∧ f 11 r = nI p) ∧ ∀ i j, i < j → j < q → f 10 (N (f 12 i)) = 1 → f 10 (N (f 12 j)) = 1 → N (f 11 (N (f 12 j))) + 9 < N (f 11 (N (f 12 i)))
def SPd (b : Nat) (f : St) : Prop := (∀ r, r < b → ∃ a, 1 ≤ a ∧ a ≤ 9 ∧ f 8 r = nI a) ∧ ∃ a, 1 ≤ a ∧ a ≤ 20 ∧ f 15 0 = nI a
/-- after the floats have moved -/
def GM (b q : Nat) (f : St) : Prop := (∀ r, r < b → f 10 r = 1 → ∃ p, 9 ≤ p ∧ p < 510 ∧ f 11 r = nI p) ∧ ∀ i j, i < j → j < q → f 10 (N (f 12 i)) = 1 → f 10 (N (f 12 j)) = 1 → N (f 11 (N (f 12 j))) + 9 < N (f 11 (N (f 12 i)))
theorem mv_geo {b q : Nat} {f : St} (ho : orF b q f) (hl : LCd b q f) (hg : GEd b q f) (hs : SPd b f) (hb : b ≤ 8) {m : Nat} (hm : m ≤ q) :
    (∀ r, r < b → (∀ i, i < m → f 12 i ≠ nI r) → (mvF f m).1 11 r = f 11 r) ∧ (∀ r, r < b → f 10 r = 1 → ∃ p p', f 11 r = nI p ∧ 9 ≤ p ∧ p < 500 ∧ (mvF f m).1 11 r = nI p' ∧ p ≤ p' ∧ p' ≤ p + 9) ∧ (∀ i j, i < j → j < m → f 10 (N (f 12 i)) = 1 → f 10 (N (f 12 j)) = 1 → N ((mvF f m).1 11 (N (f 12 j))) + 9 < N ((mvF f m).1 11 (N (f 12 i)))) ∧ (((mvF f m).2 = -1 ∧ ∀ i, i < m → ¬ f 10 (N (f 12 i)) = 1) ∨ ∃ i, i < m ∧ f 10 (N (f 12 i)) = 1 ∧ (mvF f m).2 = f 12 i ∧ ∀ j, j < m → f 10 (N (f 12 j)) = 1 → j ≤ i) := by
  induction m with
  | zero => exact ⟨fun r hr _ => rfl, fun r hr h => (hg.1 r hr h).elim fun p z => ⟨p, p, z.2.2, z.1, z.2.1, z.2.2, by omega, by omega⟩, fun i j _ h => by omega, Or.inl ⟨rfl, fun i h => by omega⟩⟩
  | succ m ih =>
    obtain ⟨i1, i2, i3, i4⟩ := ih (by omega)
    obtain ⟨r, hr, er⟩ := ho m (by omega)
    have hN : N (f 12 m) = r := by rw [N, er, nI_clamp (by omega)]
    have frs : ∀ i, i < m → ∀ r2, r2 < 8 → f 12 i = nI r2 → r2 ≠ r := fun i hi r2 h2 e e2 => by
      have := hl.1 i m (by omega) (by omega) (by rw [e, er, e2]); omega
    by_cases h1 : f 10 r = 1
    · rw [mvF_s (show f 10 (f 12 m).toNatClampNeg = 1 by rw [er, nI_clamp (by omega)]; exact h1), er, nI_clamp (by omega)]
      obtain ⟨p, hp9, hp5, ep⟩ := hg.1 r hr h1
      obtain ⟨s, hs1, hs9, es⟩ := hs.1 r hr
      obtain ⟨gp, hg1, hg2, eg⟩ := hs.2
      have e11 : (mvF f m).1 11 r = nI p := by rw [i1 r hr (fun i hi e => frs i hi r (by omega) e rfl)]; exact ep
      have e8 : (mvF f m).1 8 r = nI s := by rw [mvF_k _ _ (by decide)]; exact es
      have e15 : (mvF f m).1 15 0 = nI gp := by rw [mvF_k _ _ (by decide)]; exact eg
      have hmv : ∃ p', moveF (mvF f m).1 (mvF f m).2 r = nI p' ∧ p ≤ p' ∧ p' ≤ p + 9 ∧ ∀ i, i < m → f 10 (N (f 12 i)) = 1 → p' + 9 < N ((mvF f m).1 11 (N (f 12 i))) := by
        rcases i4 with ⟨z1, z2⟩ | ⟨i, hi, z1, z2, z3⟩
        · exact ⟨p + s, by rw [z1]; exact moveF_1 e11 e8 (by omega) (by omega) hs1, by omega, by omega, fun i hi h => absurd h (z2 i hi)⟩
        · obtain ⟨ra, hra, era⟩ := ho i (by omega)
          have hNa : N (f 12 i) = ra := by rw [N, era, nI_clamp (by omega)]
          rw [hNa] at z1
          obtain ⟨P, P', eP, hP9, hP5, eP', hle1, hle2⟩ := i2 ra hra z1
          have hord := hg.2 i m hi (by omega) (by rw [hNa]; exact z1) (by rw [hN]; exact h1)
          rw [hNa, hN, ep, eP, N, N, nI_clamp (by omega), nI_clamp (by omega)] at hord
          obtain ⟨p', e', q1, q2, q3⟩ := moveF_2 (g := (mvF f m).1) (r := r) (by omega) e11 e8 eP' e15 (by omega) (by omega) hg1 hg2 (by omega) (by omega)
          refine ⟨p', by rw [z2, era]; exact e', q1, by omega, fun j hj h => ?_⟩
          have hji := z3 j hj h
          rcases Nat.lt_or_ge j i with y | y
          · have := i3 j i y hi h (by rw [hNa]; exact z1)
            rw [hNa, eP', N, nI_clamp (by omega)] at this
            omega
          · have : j = i := by omega
            subst this
            rw [hNa, eP', N, nI_clamp (by omega)]; exact q3
      obtain ⟨p', e', q1, q2, q3⟩ := hmv
      rw [e']
      dsimp only
      have gN : ∀ i, i < m → up2 (mvF f m).1 11 r (nI p') 11 (N (f 12 i)) = (mvF f m).1 11 (N (f 12 i)) := fun i hi => by
        obtain ⟨r2, hr2, e2⟩ := ho i (by omega)
        rw [e2, N, nI_clamp (by omega), up2_ne _ _ _ (frs i hi r2 (by omega) e2)]
      refine ⟨fun r2 hr2 h => ?_, fun r2 hr2 h12 => ?_, fun i j hij hj hi1 hj1 => ?_, Or.inr ⟨m, by omega, by rw [hN]; exact h1, er.symm, fun j hj _ => by omega⟩⟩
      · have hne : r2 ≠ r := fun e => h m (by omega) (by rw [er, e])
        rw [show up2 (mvF f m).1 11 r (nI p') 11 r2 = (mvF f m).1 11 r2 from up2_ne _ _ _ hne]
        exact i1 r2 hr2 (fun i hi => h i (by omega))
      · by_cases e : r2 = r
        · subst e
          exact ⟨p, p', ep, hp9, hp5, up2_self _ _ _ _, q1, q2⟩
        · rw [show up2 (mvF f m).1 11 r (nI p') 11 r2 = (mvF f m).1 11 r2 from up2_ne _ _ _ e]
          exact i2 r2 hr2 h12
      · rcases Nat.lt_or_ge j m with y | y
        · rw [gN j y, gN i (by omega)]
          exact i3 i j hij y hi1 hj1
        · have : j = m := by omega
          subst this
          rw [gN i hij, hN, up2_self, N, nI_clamp (by omega)]
          exact q3 i hij hi1
    · have h1' : ¬ f 10 (f 12 m).toNatClampNeg = 1 := by rw [er, nI_clamp (by omega)]; exact h1
      rw [mvF_n h1']
      refine ⟨fun r2 hr2 h => i1 r2 hr2 (fun i hi => h i (by omega)), i2, fun i j hij hj hi1 hj1 => ?_, ?_⟩
      · have : j ≠ m := fun e => h1 (by rw [← hN, ← e]; exact hj1)
        exact i3 i j hij (by omega) hi1 hj1
      · rcases i4 with ⟨z1, z2⟩ | ⟨i, hi, z1, z2, z3⟩
        · refine Or.inl ⟨z1, fun i hi => ?_⟩
          rcases Nat.lt_or_ge i m with y | y
          · exact z2 i y
          · have : i = m := by omega
            rw [this, hN]; exact h1
        · refine Or.inr ⟨i, by omega, z1, z2, fun j hj h => ?_⟩
          have : j ≠ m := fun e => h1 (by rw [← hN, ← e]; exact h)
          exact z3 j (by omega) h
