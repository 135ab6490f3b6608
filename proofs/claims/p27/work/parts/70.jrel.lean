/-! ===== the class's numbers and the law's ===== -/
def ov (φ ψ : St) : St := fun j => if j = 12 ∨ j = 13 then φ j else ψ j
theorem ov_n (φ ψ : St) {j : Nat} (h : j ≠ 12 ∧ j ≠ 13) : ov φ ψ j = ψ j := if_neg (fun z => z.elim h.1 h.2)
theorem ov_up (φ ψ : St) {j : Nat} (h : j ≠ 12 ∧ j ≠ 13) (k : Nat) (v : Int32) : ov φ (up2 ψ j k v) = up2 (ov φ ψ) j k v := by
  funext a c
  by_cases ha : a = 12 ∨ a = 13
  · rw [up2_fld _ _ _ (by omega)]; unfold ov; rw [if_pos ha, if_pos ha]
  · by_cases e : a = j
    · subst e
      by_cases e2 : c = k
      · subst e2; rw [ov_n _ _ h, up2_self, up2_self]
      · rw [ov_n _ _ h, up2_ne _ _ _ e2, up2_ne _ _ _ e2, ov_n _ _ h]
    · rw [ov_n _ _ (by omega), up2_fld _ _ _ e, up2_fld _ _ _ e, ov_n _ _ (by omega)]
theorem ov_o (φ ψ : St) {j : Nat} (h : j = 12 ∨ j = 13) (k : Nat) (v : Int32) : ov φ (up2 ψ j k v) = ov φ ψ := by
  funext a
  by_cases ha : a = 12 ∨ a = 13
  · unfold ov; rw [if_pos ha, if_pos ha]
  · rw [ov_n _ _ (by omega), ov_n _ _ (by omega), up2_fld _ _ _ (by omega)]
theorem ov_c {φ φ' : St} (ψ : St) (h12 : φ' 12 = φ 12) (h13 : φ' 13 = φ 13) : ov φ' ψ = ov φ ψ := by
  funext a
  unfold ov
  split
  · next h => rcases h with rfl | rfl; exact h12; exact h13
  · rfl
theorem ldS_ov (φ ψ : St) (x : Int32) (m : Nat) : ldS (ov φ ψ) x m = ldS ψ x m := by
  induction m with
  | zero => rfl
  | succ m ih => rw [ldS, ldS, ih]; rfl
theorem tkB_ov (φ ψ : St) (x y : Int32) (m : Nat) : tkB (ov φ ψ) x y m = tkB ψ x y m := by
  induction m with
  | zero => rfl
  | succ m ih => rw [tkB, tkB, ih]; rfl
theorem nearB_ov (φ ψ : St) (x m : Nat) : nearB (ov φ ψ) x m = nearB ψ x m := by
  induction m with
  | zero => rfl
  | succ m ih => rw [nearB, nearB, ih]; rfl
theorem ltS_ov (φ ψ : St) (m : Nat) : ltS (ov φ ψ) m = ltS ψ m := by
  induction m with
  | zero => rfl
  | succ m ih => rw [ltS, ltS, ih]; rfl
theorem setS_ov (φ ψ : St) (x : Int32) (m : Nat) : setS (ov φ ψ) x m = setS ψ x m := by
  induction m with
  | zero => rfl
  | succ m ih => rw [setS, setS, ih]; rfl
theorem hpB_ov (φ ψ : St) (k : Nat) : hpB (ov φ ψ) k = hpB ψ k := rfl
theorem pl_ov (φ ψ : St) (k : Nat) : pl (ov φ ψ) k = pl ψ k := rfl
theorem ds_ov (φ ψ : St) (j k : Nat) : ds (ov φ ψ) j k = ds ψ j k := rfl
theorem wt_ov (φ ψ : St) (k : Nat) : wt (ov φ ψ) k = wt ψ k := rfl
/-- the law's arrays hold the class's numbers; the first d of the q launched floats are gone -/
def Jr (n b q d : Nat) (φ ψ : St) : Prop := Rl n b q φ (ov φ ψ) ∧ n ≤ 8 ∧ b ≤ 5 ∧ d ≤ q ∧ ψ 13 0 = nI (q - d) ∧ (∀ i, i < q - d → ψ 12 i = φ 12 (d + i)) ∧ (∀ i, i < d → φ 10 (N (φ 12 i)) = 2) ∧ (∀ i, d ≤ i → i < q → φ 10 (N (φ 12 i)) = 1) ∧ (∀ t, 64 ≤ t → φ 17 t = 0) ∧ ∀ r, b ≤ r → ψ 10 r = 0
theorem nIN {a : Nat} (h : a < 2 ^ 31) : N (nI a) = a := nI_clamp h
section JREL
variable {n b q d tm : Nat} {φ ψ : St} {C : List Nat}
theorem q_b (i : IV n b q tm φ C) : q ≤ b ∧ ((∃ r0, r0 < b ∧ φ 10 r0 = 0) → q < b) := by
  have hb := i.x.2.1
  have hq := i.x.2.2.1
  have e1 : ∀ c, c < q → (1 : Int32) = sm (fun r => if φ 12 c = nI r then 1 else 0) b := by
    intro c hc
    obtain ⟨r, hr, e⟩ := i.x.o c hc
    rw [e, sm_one hr (fun r2 hr2 hne => if_neg (fun z => hne ((nI_eq (by omega) (by omega)).mp z).symm)), if_pos rfl]
  have e2 : ∀ r, r < b → (if φ 10 r = 0 then (0 : Int32) else 1) = sm (fun c => if φ 12 c = nI r then 1 else 0) q := by
    intro r hr
    by_cases h1 : φ 10 r = 0
    · rw [if_pos h1, sm_none (fun c hc => if_neg (i.lc.2.2.1 r hr h1 c hc))]
    · obtain ⟨c, hc, e, -⟩ := i.lc.2.2.2 r hr h1
      rw [if_neg h1, sm_one hc (fun j hj hne => if_neg (fun z => hne (i.lc.1 j c hj hc (z.trans e.symm)))), if_pos e]
  have s1 : ∀ m, sm (fun _ => (1 : Int32)) m = nI m := by
    intro m
    induction m with
    | zero => rfl
    | succ m ih => rw [sm, ih, nI_1]
  have s2 : ∀ m, ∃ c, sm (fun r => if φ 10 r = 0 then (0 : Int32) else 1) m = nI c ∧ c ≤ m ∧ ((∃ r0, r0 < m ∧ φ 10 r0 = 0) → c < m) := by
    intro m
    induction m with
    | zero => exact ⟨0, rfl, by omega, fun ⟨r, z, _⟩ => by omega⟩
    | succ m ih =>
      obtain ⟨c, ec, h1, h2⟩ := ih
      rw [sm, ec]
      by_cases hz : φ 10 m = 0
      · rw [if_pos hz, Int32.add_zero]; exact ⟨c, rfl, by omega, fun _ => by omega⟩
      · rw [if_neg hz, nI_1]
        refine ⟨c + 1, rfl, by omega, fun ⟨r0, z, h0⟩ => ?_⟩
        have : r0 ≠ m := fun e => hz (by rw [← e]; exact h0)
        have := h2 ⟨r0, by omega, h0⟩
        omega
  have e3 : nI q = sm (fun r => if φ 10 r = 0 then (0 : Int32) else 1) b := by
    rw [← s1 q, sm_congr e1, sm_congr e2]
    exact sm_swap (fun c r => if φ 12 c = nI r then (1 : Int32) else 0) b q
  obtain ⟨c, ec, h1, h2⟩ := s2 b
  have e4 : q = c := (nI_eq (by omega) (by omega)).mp (e3.trans ec)
  exact ⟨by omega, fun z => by have := h2 z; omega⟩
theorem Jr.r (R : Jr n b q d φ ψ) : Rl n b q φ (ov φ ψ) := R.1
theorem Jr.n8 (R : Jr n b q d φ ψ) : n ≤ 8 := R.2.1
theorem Jr.b5 (R : Jr n b q d φ ψ) : b ≤ 5 := R.2.2.1
theorem Jr.dq (R : Jr n b q d φ ψ) : d ≤ q := R.2.2.2.1
theorem Jr.h13 (R : Jr n b q d φ ψ) : ψ 13 0 = nI (q - d) := R.2.2.2.2.1
theorem Jr.h12 (R : Jr n b q d φ ψ) : ∀ i, i < q - d → ψ 12 i = φ 12 (d + i) := R.2.2.2.2.2.1
theorem Jr.gn (R : Jr n b q d φ ψ) : ∀ i, i < d → φ 10 (N (φ 12 i)) = 2 := R.2.2.2.2.2.2.1
theorem Jr.rv (R : Jr n b q d φ ψ) : ∀ i, d ≤ i → i < q → φ 10 (N (φ 12 i)) = 1 := R.2.2.2.2.2.2.2.1
theorem Jr.g0 (R : Jr n b q d φ ψ) : ∀ t, 64 ≤ t → φ 17 t = 0 := R.2.2.2.2.2.2.2.2.1
theorem Jr.z10 (R : Jr n b q d φ ψ) : ∀ r, b ≤ r → ψ 10 r = 0 := R.2.2.2.2.2.2.2.2.2
theorem Jr.h7 (R : Jr n b q d φ ψ) (i : IV n b q tm φ C) : ψ 7 0 = nI n := (R.r.n0 (j := 7) (by decide)).symm.trans i.x.2.2.2.2.1
theorem Jr.h14 (R : Jr n b q d φ ψ) (i : IV n b q tm φ C) : ψ 14 0 = nI b := (R.r.n0 (j := 14) (by decide)).symm.trans i.x.2.2.2.2.2.1
theorem Jr.h18 (R : Jr n b q d φ ψ) (i : IV n b q tm φ C) : ψ 18 0 = nI tm := (R.r.n0 (j := 18) (by decide)).symm.trans i.tm
theorem Jr.l (R : Jr n b q d φ ψ) {j k : Nat} (hj : j < 6) (hk : k < n) : φ j k = ψ j k := (R.r.l hj hk).trans (by rw [ov_n _ _ (by omega)])
theorem Jr.f (R : Jr n b q d φ ψ) {j k : Nat} (hj : j = 8 ∨ j = 9 ∨ j = 10) (hk : k < b) : φ j k = ψ j k := (R.r.r hj hk).trans (by rw [ov_n _ _ (by omega)])
theorem Jr.h5 (R : Jr n b q d φ ψ) (i : IV n b q tm φ C) : ∀ k, k < n → ψ 5 k = -1 ∨ ∃ r, r < 5 ∧ ψ 5 k = nI r := fun k hk => by
  have hb := R.b5
  rw [← R.l (j := 5) (by decide) hk]
  exact (i.x.h k hk).imp id fun ⟨r, hr, e⟩ => ⟨r, by omega, e⟩
theorem Jr.riv (R : Jr n b q d φ ψ) (i : IV n b q tm φ C) : ∀ c, c < q - d → ∃ r, r < b ∧ ψ 12 c = nI r ∧ φ 12 (d + c) = nI r ∧ φ 10 r = 1 := fun c hc => by
  have hb := i.x.2.1
  have hd := R.dq
  obtain ⟨r, hr, e⟩ := i.x.o (d + c) (by omega)
  refine ⟨r, hr, by rw [R.h12 c hc, e], e, ?_⟩
  have := R.rv (d + c) (by omega) (by omega)
  rw [e, nIN (by omega)] at this
  exact this
theorem Jr.hp (R : Jr n b q d φ ψ) (i : IV n b q tm φ C) {k : Nat} (hk : k < n) : hpB ψ k = hpB φ k := (R.r.hp i.x.h i.x.2.1 hk).symm
theorem Jr.pl (R : Jr n b q d φ ψ) (i : IV n b q tm φ C) {k : Nat} (hk : k < n) (hp : hpB φ k = true) : pl ψ k = pl φ k := (R.r.ple i.x.h i.x.2.1 hk hp).symm
end JREL
/-! nearness: the law's distance and the class's -/
def PLx (n : Nat) (X : St) : Prop := ∀ j, j < n → hpB X j = true → ∃ P, P < 1000 ∧ pl X j = nI P
theorem ap_ds {n : Nat} {X : St} (h : PLx n X) {i j : Nat} (hi : i < n) (hj : j < n) (pi : hpB X i = true) (pj : hpB X j = true) : apJ X i j = ds X i j := by
  obtain ⟨P, hP, e⟩ := h i hi pi
  obtain ⟨P', hP', e'⟩ := h j hj pj
  unfold apJ ds plJ
  rw [if_pos pi, if_pos pj, e, e']
  by_cases c : P' < P
  · rw [if_pos ((nI_ltI (by omega) (by omega)).mpr c), pk_sub (by omega), if_neg (nI_pos (by omega))]
  · rw [if_neg (fun z => c ((nI_ltI (by omega) (by omega)).mp z)), pk_sub (by omega)]
    by_cases c2 : P = P'
    · subst c2; rw [pk_sub (Nat.le_refl _), if_neg (nI_pos (by omega))]
    · rw [if_pos (pk_sneg (by omega) (by omega)), Int32.neg_sub, pk_sub (by omega)]
theorem nc_near {n : Nat} {X : St} (h : PLx n X) (hl : lpF X n) {x B : Nat} (hx : x < n) (hp : hpB X x = true) (hB : B ≤ n) : ncB X x B = nearB X x B := by
  induction B with
  | zero => rfl
  | succ B ih =>
    rw [ncB, nearB, ih (by omega)]
    congr 1
    unfold ncT nearT
    by_cases h3 : X 3 B = 1
    · rw [ap_ds h (by omega) hx (hl B (by omega) h3) hp]
    · rw [decide_eq_false h3, Bool.and_false, Bool.false_and, Bool.false_and]
