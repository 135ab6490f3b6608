/-! a minute: the law's and the class's -/
theorem rm_val {P g p : Nat} (h : 9 ≤ P) : nI P - 9 - nI g - nI p = nI (P - 9) - nI (g + p) := by
  rw [show nI P - 9 = nI (P - 9) from pk_sub (a := P) (b := 9) h, ← nI_add, Int32.sub_eq_add_neg, Int32.sub_eq_add_neg, Int32.sub_eq_add_neg, Int32.neg_add, Int32.add_assoc, ← Int32.sub_eq_add_neg (-nI g) (nI p)]
theorem mv_val {F G : St} {r rp p s P g k : Nat} (hrp : rp < 8) (e1 : F 11 r = nI p) (e2 : F 8 r = nI s) (e3 : F 11 rp = nI P) (e4 : F 15 0 = nI g) (g1 : G 11 r = nI p) (g2 : G 8 r = nI s) (g3 : G 11 rp = nI P) (g4 : G 15 0 = nI g) (hp : p < 1000) (hs : s < 10) (hg : g ≤ 20) (hP : p + 9 < P) (hP2 : P < 1000) (hk : ¬ k = 0) : G 11 r + wyJ G k r rp = moveF F (nI rp) r := by
  unfold wyJ moveF rmJ
  rw [if_neg hk, if_neg (nI_nm1 (by omega)), nI_clamp (by omega), e1, e2, e3, e4, g1, g2, g3, g4, rm_val (by omega), nI_add, show nI P - 9 = nI (P - 9) from pk_sub (a := P) (b := 9) (by omega)]
  by_cases c : g + p ≤ P - 9
  · rw [pk_sub c, pk_sub (show g ≤ P - 9 by omega), if_neg (nI_pos (by omega))]
    by_cases c1 : P - 9 - (g + p) < s
    · rw [if_pos ((nI_ltI (by omega) (by omega)).mpr c1), if_neg (fun z => absurd ((nI_ltI (by omega) (by omega)).mp z) (by omega)), nI_add]
      by_cases c2 : p < P - 9 - g
      · rw [if_pos ((nI_ltI (by omega) (by omega)).mpr c2)]; congr 1; omega
      · rw [if_neg (fun z => c2 ((nI_ltI (by omega) (by omega)).mp z))]; congr 1; omega
    · rw [if_neg (fun z => c1 ((nI_ltI (by omega) (by omega)).mp z)), nI_add]
      by_cases c2 : p + s < P - 9 - g
      · rw [if_pos ((nI_ltI (by omega) (by omega)).mpr c2)]
        by_cases c3 : p < p + s
        · rw [if_pos ((nI_ltI (by omega) (by omega)).mpr c3)]
        · rw [if_neg (fun z => c3 ((nI_ltI (by omega) (by omega)).mp z))]; congr 1; omega
      · rw [if_neg (fun z => c2 ((nI_ltI (by omega) (by omega)).mp z))]
        by_cases c3 : p < P - 9 - g
        · rw [if_pos ((nI_ltI (by omega) (by omega)).mpr c3)]; congr 1; omega
        · rw [if_neg (fun z => c3 ((nI_ltI (by omega) (by omega)).mp z))]; congr 1; omega
  · rw [if_pos (pk_sneg (by omega) (by omega)), Int32.add_zero]
    have hX : ∀ y : Nat, y < 2 ^ 30 → p ≤ y → ¬ nI y < nI (P - 9) - nI g := fun y hy hy2 z => by
      rw [Int32.lt_iff_toInt_lt, nI_toInt (by omega), pk_sub_toInt (by omega) (by omega)] at z; omega
    rw [if_neg (hX (p + s) (by omega) (by omega)), if_neg (hX p (by omega) (by omega))]
theorem mv_val0 {F G : St} {r rp p s : Nat} (e1 : F 11 r = nI p) (e2 : F 8 r = nI s) (g1 : G 11 r = nI p) (g2 : G 8 r = nI s) (hp : p < 1000) (hs : s < 10) (hs1 : 1 ≤ s) : G 11 r + wyJ G 0 r rp = moveF F (-1) r := by
  rw [moveF_1 e1 e2 hp hs hs1]
  unfold wyJ
  rw [if_pos rfl, g1, g2, nI_add]
theorem bl_ov (φ ψ : St) (gu : Int32) (m : Nat) : blF (ov φ ψ) gu m = ov φ (blF ψ gu m) := by
  induction m with
  | zero => rfl
  | succ m ih =>
    rw [blF, blF, ih, ov_n _ _ (show (3 : Nat) ≠ 12 ∧ (3 : Nat) ≠ 13 by decide), ov_n _ _ (show (1 : Nat) ≠ 12 ∧ (1 : Nat) ≠ 13 by decide), ov_n _ _ (show (0 : Nat) ≠ 12 ∧ (0 : Nat) ≠ 13 by decide), ov_n _ _ (show (19 : Nat) ≠ 12 ∧ (19 : Nat) ≠ 13 by decide)]
    split
    · rw [ov_up _ _ (by decide), ov_up _ _ (by decide)]
    · rfl
theorem bu_ov (φ ψ : St) (m : Nat) : buF (ov φ ψ) m = ov φ (buF ψ m) := by
  induction m with
  | zero => rfl
  | succ m ih =>
    rw [buF, buF, ih, ov_n _ _ (show (3 : Nat) ≠ 12 ∧ (3 : Nat) ≠ 13 by decide), ov_n _ _ (show (4 : Nat) ≠ 12 ∧ (4 : Nat) ≠ 13 by decide)]
    split
    · rw [ov_up _ _ (by decide), ov_up _ _ (by decide)]
    · rfl
theorem maJ_3 (g : St) (m k : Nat) (h : maJ g m 3 k = 1) : g 3 k = 1 := by
  induction m with
  | zero => exact h
  | succ m ih =>
    rw [maJ] at h
    split at h
    · rw [up2_fld _ _ _ (by decide)] at h
      by_cases e : k = m
      · subst e; rw [up2_self] at h; exact absurd h (by decide)
      · rw [up2_ne _ _ _ e] at h; exact ih h
    · exact ih h
theorem ma_ov {n : Nat} (φ ψ : St) (hP : PLx n ψ) (hl : lpF ψ n) {m : Nat} (hm : m ≤ n) : maF (ov φ ψ) m = ov φ (maJ ψ m) := by
  induction m with
  | zero => rfl
  | succ m ih =>
    rw [maF, maJ, ih (by omega), ov_n _ _ (show (3 : Nat) ≠ 12 ∧ (3 : Nat) ≠ 13 by decide), ov_n _ _ (show (20 : Nat) ≠ 12 ∧ (20 : Nat) ≠ 13 by decide), nearB_ov]
    have k5 : ∀ j, j ≠ 3 → j ≠ 20 → maJ ψ m j = ψ j := fun j h1 h2 => maJ_k _ _ h1 h2
    have hh : ∀ k, hpB (maJ ψ m) k = hpB ψ k := fun k => hpB_eq (k5 5 (by decide) (by decide)) (k5 10 (by decide) (by decide)) k
    have hpl : ∀ k, pl (maJ ψ m) k = pl ψ k := fun k => by unfold pl; rw [k5 11 (by decide) (by decide), k5 5 (by decide) (by decide), k5 6 (by decide) (by decide)]
    by_cases h3 : maJ ψ m 3 m = 1
    · rw [nc_near (n := n) (fun j hj z => by rw [hh] at z; rw [hpl]; exact hP j hj z) (fun k hk z => by rw [hh]; exact hl k hk (maJ_3 _ _ _ z)) (show m < n by omega) (by rw [hh]; exact hl m (by omega) (maJ_3 _ _ _ h3)) (show m ≤ n by omega)]
      split
      · rw [ov_up _ _ (by decide), ov_up _ _ (by decide)]
      · rfl
    · rw [if_neg (fun z => h3 z.1), if_neg (fun z => h3 z.1)]
section JMIN
variable {n b q d tm : Nat} {φ ψ : St} {C : List Nat}
/-- none of the gone ones moves -/
theorem mv_gone (hg : ∀ i, i < d → φ 10 (N (φ 12 i)) = 2) {m : Nat} (hm : m ≤ d) : mvF φ m = (φ, -1) := by
  induction m with
  | zero => rfl
  | succ m ih =>
    rw [mvF_n, ih (by omega)]
    show ¬ φ 10 (N (φ 12 m)) = 1
    rw [hg m (by omega)]; decide
theorem J_mv (i : IV n b q tm φ C) (R : Jr n b q d φ ψ) {m : Nat} (hm : m ≤ q - d) : Rl n b q (mvF φ (d + m)).1 (ov φ (mvJ ψ m)) ∧ (mvF φ (d + m)).2 = if m = 0 then -1 else φ 12 (d + m - 1) := by
  have hb := i.x.2.1
  have hb5 := R.b5
  have hd := R.dq
  induction m with
  | zero => rw [Nat.add_zero, mv_gone R.gn (Nat.le_refl d)]; exact ⟨R.r, rfl⟩
  | succ m ih =>
    obtain ⟨h1, h2⟩ := ih (by omega)
    obtain ⟨r, hr, e12, f12, h10⟩ := R.riv i m (by omega)
    have hs : φ 10 (φ 12 (d + m)).toNatClampNeg = 1 := by rw [f12, nI_clamp (by omega)]; exact h10
    obtain ⟨k1, k2, k3, k4⟩ := mv_geo i.x.o i.lc i.ge i.sp hb (show d + m ≤ q by omega)
    obtain ⟨p, hp9, hp5, ep⟩ := i.ge.1 r hr h10
    obtain ⟨s, hs1, hs9, es⟩ := i.sp.1 r hr
    obtain ⟨g, hg1, hg2, eg⟩ := i.sp.2
    have e11 : (mvF φ (d + m)).1 11 r = nI p := by
      rw [k1 r hr (fun c hc e => ?_)]; exact ep
      have := i.lc.1 c (d + m) (by omega) (by omega) (e.trans f12.symm); omega
    have e8 : (mvF φ (d + m)).1 8 r = nI s := by rw [mvF_k _ _ (by decide)]; exact es
    have e15 : (mvF φ (d + m)).1 15 0 = nI g := by rw [mvF_k _ _ (by decide)]; exact eg
    have G11 : ∀ r2, r2 < b → φ 10 r2 = 1 → mvJ ψ m 11 r2 = (mvF φ (d + m)).1 11 r2 := fun r2 hr2 z => (h1.fr hr2 (by rw [mvF_k _ _ (by decide)]; exact z)).symm
    have G8 : mvJ ψ m 8 r = nI s := by rw [← e8]; exact (h1.r (j := 8) (by decide) hr).symm
    have G15 : mvJ ψ m 15 0 = nI g := by rw [← e15]; exact (h1.n0 (j := 15) (by decide)).symm
    refine ⟨?_, by rw [if_neg (by omega), ← Nat.add_assoc, mvF_s hs]; rfl⟩
    rw [← Nat.add_assoc, mvF_s hs, mvJ, e12, f12, nI_clamp (by omega), ov_up _ _ (by decide)]
    have hv : mvJ ψ m 11 r + wyJ (mvJ ψ m) m r (ψ 12 (m - 1)).toNatClampNeg = moveF (mvF φ (d + m)).1 (mvF φ (d + m)).2 r := by
      rw [h2]
      by_cases hm0 : m = 0
      · subst hm0
        rw [if_pos rfl]
        exact mv_val0 e11 e8 (by rw [G11 r hr h10]; exact e11) G8 (by omega) (by omega) hs1
      · rw [if_neg hm0]
        obtain ⟨rp, hrp, ep12, fp12, hp10⟩ := R.riv i (m - 1) (by omega)
        rw [show d + m - 1 = d + (m - 1) by omega, fp12, ep12, nI_clamp (by omega)]
        obtain ⟨P, P', eP, hP9, hP5, eP', hle, hle2⟩ := k2 rp hrp hp10
        have hge := i.ge.2 (d + (m - 1)) (d + m) (by omega) (by omega) (by rw [fp12, nIN (by omega)]; exact hp10) (by rw [f12, nIN (by omega)]; exact h10)
        rw [fp12, f12, nIN (by omega), nIN (by omega), eP, ep, nIN (by omega), nIN (by omega)] at hge
        exact mv_val (by omega) e11 e8 eP' e15 (by rw [G11 r hr h10]; exact e11) G8 (by rw [G11 rp hrp hp10]; exact eP') G15 (by omega) (by omega) (by omega) (by omega) (by omega) hm0
    rw [hv]
    exact h1.up (by decide) (by decide) _ _
end JMIN
