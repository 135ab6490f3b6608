/-! pure values of the law's methods -/
theorem incm1 (x : Int32) : x + Int32.ofInt (-1) = x - 1 := by rw [Int32.sub_eq_add_neg]; rfl
theorem incm2 (x : Int32) (a : Nat) : x + nI (a + 1) + Int32.ofInt (-1) = x + nI a := by
  rw [incm1, nI_succ, ← Int32.add_assoc, Int32.add_sub_cancel]
def plJ (ψ : St) (k : Nat) : Int32 := if hpB ψ k = true then pl ψ k else -1000
def apJ (ψ : St) (i j : Nat) : Int32 := if plJ ψ j < plJ ψ i then plJ ψ i - plJ ψ j else plJ ψ j - plJ ψ i
def ncT (ψ : St) (x k : Nat) : Bool := decide (k ≠ x) && decide (ψ 3 k = 1) && decide (apJ ψ k x < ψ 2 k + ψ 2 x + ψ 16 0)
theorem ncT_v {ψ : St} {x k : Nat} (h1 : k ≠ x) (h2 : ψ 3 k = 1) : ncT ψ x k = decide (apJ ψ k x < ψ 2 k + ψ 2 x + ψ 16 0) := by
  unfold ncT; rw [decide_eq_true h1, decide_eq_true h2]; rfl
theorem ncT_x {ψ : St} {x k : Nat} (h : k = x) : ncT ψ x k = false := by
  unfold ncT; rw [decide_eq_false (fun z => z h)]; rfl
theorem ncT_s {ψ : St} {x k : Nat} (h : ¬ ψ 3 k = 1) : ncT ψ x k = false := by
  unfold ncT; rw [decide_eq_false h, Bool.and_false]; rfl
def ncD (ψ : St) (x B : Nat) : Nat → Bool
  | 0 => false
  | d + 1 => ncD ψ x B d || ncT ψ x (B - 1 - d)
def ncB (ψ : St) (x : Nat) : Nat → Bool
  | 0 => false
  | k + 1 => ncB ψ x k || ncT ψ x k
theorem ncB_iff (ψ : St) (x B : Nat) : ncB ψ x B = true ↔ ∃ k, k < B ∧ ncT ψ x k = true := by
  induction B with
  | zero => exact ⟨fun z => (by cases z), fun ⟨k, h, _⟩ => by omega⟩
  | succ B ih =>
    rw [ncB, Bool.or_eq_true, ih]
    constructor
    · rintro (⟨k, h, z⟩ | z)
      · exact ⟨k, by omega, z⟩
      · exact ⟨B, by omega, z⟩
    · rintro ⟨k, h, z⟩
      by_cases e : k = B
      · exact Or.inr (by rw [← e]; exact z)
      · exact Or.inl ⟨k, by omega, z⟩
theorem ncD_iff (ψ : St) (x B d : Nat) (hd : d ≤ B) : ncD ψ x B d = true ↔ ∃ k, B - d ≤ k ∧ k < B ∧ ncT ψ x k = true := by
  induction d with
  | zero => exact ⟨fun z => (by cases z), fun ⟨k, h, h2, _⟩ => by omega⟩
  | succ d ih =>
    rw [ncD, Bool.or_eq_true, ih (by omega)]
    constructor
    · rintro (⟨k, h, h2, z⟩ | z)
      · exact ⟨k, by omega, h2, z⟩
      · exact ⟨B - 1 - d, by omega, by omega, z⟩
    · rintro ⟨k, h, h2, z⟩
      by_cases e : k = B - 1 - d
      · exact Or.inr (by rw [← e]; exact z)
      · exact Or.inl ⟨k, by omega, h2, z⟩
theorem ncD_eq (ψ : St) (x B : Nat) : ncD ψ x B B = ncB ψ x B := by
  rw [Bool.eq_iff_iff, ncD_iff _ _ _ _ (Nat.le_refl B), ncB_iff]
  exact ⟨fun ⟨k, _, h, z⟩ => ⟨k, h, z⟩, fun ⟨k, h, z⟩ => ⟨k, by omega, h, z⟩⟩
/-! likeness: bits of a number below 1024 -/
def bN (y s : Nat) : Nat := if (nI y >>> (nI s &&& 31)) &&& 1 = 1 then 1 else 0
def pcN (y : Nat) : Nat := bN y 0 + bN y 1 + bN y 2 + bN y 3 + bN y 4 + bN y 5 + bN y 6 + bN y 7 + bN y 8 + bN y 9
set_option maxRecDepth 100000 in
theorem kern : ∀ y : Nat, y < 1024 → y ≠ 0 → (nI y &&& (nI y - 1) = nI (y &&& (y - 1)) ∧ (y &&& (y - 1)) < y ∧ pcN y = pcN (y &&& (y - 1)) + 1) := by decide +kernel
def rsJ (ψ : St) (x : Int32) (g0 : Nat) : Nat → Nat
  | 0 => g0
  | k + 1 => if ψ 5 k = x ∧ ψ 3 k = 1 then rsJ ψ x g0 k ^^^ 2 ^ ((ψ 6 k).toNatClampNeg % 10) else rsJ ψ x g0 k
theorem rsJ_n {ψ : St} {x : Int32} (g0 : Nat) {k : Nat} (h : ¬ (ψ 5 k = x ∧ ψ 3 k = 1)) : rsJ ψ x g0 (k + 1) = rsJ ψ x g0 k := by rw [rsJ, if_neg h]
theorem sh1 : ∀ s : Nat, s < 10 → (1 : Int32) <<< (nI s &&& 31) = nI (2 ^ s) := by decide +kernel
theorem xorN (a b : Nat) : nI a ^^^ nI b = nI (a ^^^ b) := by
  apply Int32.toBitVec_inj.mp
  rw [Int32.toBitVec_xor]
  show BitVec.ofNat 32 a ^^^ BitVec.ofNat 32 b = BitVec.ofNat 32 (a ^^^ b)
  exact (BitVec.ofNat_xor ..).symm
theorem rsJ_lt (ψ : St) (x : Int32) {g0 : Nat} (h : g0 < 1024) (k : Nat) : rsJ ψ x g0 k < 1024 := by
  induction k with
  | zero => exact h
  | succ k ih =>
    rw [rsJ]
    split
    · exact Nat.xor_lt_two_pow (n := 10) ih (Nat.pow_lt_pow_right (by decide) (Nat.mod_lt _ (by decide)))
    · exact ih
theorem rsJ_y (ψ : St) {x : Int32} (g0 : Nat) {k : Nat} (h : ψ 5 k = x ∧ ψ 3 k = 1) (h6 : ∃ s, s < 10 ∧ ψ 6 k = nI s) : nI (rsJ ψ x g0 (k + 1)) = nI (rsJ ψ x g0 k) ^^^ (1 : Int32) <<< (ψ 6 k &&& 31) := by
  obtain ⟨s, hs, e⟩ := h6
  rw [rsJ, if_pos h, e, sh1 s hs, nI_clamp (by omega), Nat.mod_eq_of_lt hs, xorN]
