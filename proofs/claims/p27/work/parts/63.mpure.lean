/-! a minute of the law -/
theorem up2_id (f : St) (j k : Nat) : up2 f j k (f j k) = f := by
  funext a b
  by_cases h1 : a = j
  · subst h1
    by_cases h2 : b = k
    · subst h2; rw [up2_self]
    · rw [up2_ne _ _ _ h2]
  · rw [up2_fld _ _ _ h1]
def rmJ (g : St) (r rp : Nat) : Int32 := g 11 rp - 9 - g 15 0 - g 11 r
def wyJ (g : St) (k r rp : Nat) : Int32 := if k = 0 then g 8 r else if rmJ g r rp < 0 then 0 else if rmJ g r rp < g 8 r then rmJ g r rp else g 8 r
def mvJ (ψ : St) : Nat → St
  | 0 => ψ
  | k + 1 => up2 (mvJ ψ k) 11 (ψ 12 k).toNatClampNeg ((mvJ ψ k) 11 (ψ 12 k).toNatClampNeg + wyJ (mvJ ψ k) k (ψ 12 k).toNatClampNeg (ψ 12 (k - 1)).toNatClampNeg)
theorem mvJ_k (ψ : St) (i : Nat) {j : Nat} (h : j ≠ 11) : mvJ ψ i j = ψ j := by
  induction i with
  | zero => rfl
  | succ i ih => rw [mvJ, up2_fld _ _ _ h]; exact ih
theorem mvJ_0 {ψ : St} {k r : Nat} (h : ψ 12 k = nI r) (hr : r < 2 ^ 31) (h0 : k = 0) : mvJ ψ (k + 1) = up2 (mvJ ψ k) 11 r ((mvJ ψ k) 11 r + (mvJ ψ k) 8 r) := by
  rw [mvJ, h, nI_clamp hr, wyJ, if_pos h0]
theorem mvJ_1 {ψ : St} {k r rp : Nat} (h : ψ 12 k = nI r) (hr : r < 2 ^ 31) (hp : ψ 12 (k - 1) = nI rp) (hrp : rp < 2 ^ 31) (h0 : ¬ k = 0) : mvJ ψ (k + 1) = up2 (mvJ ψ k) 11 r ((mvJ ψ k) 11 r + (if rmJ (mvJ ψ k) r rp < 0 then 0 else if rmJ (mvJ ψ k) r rp < (mvJ ψ k) 8 r then rmJ (mvJ ψ k) r rp else (mvJ ψ k) 8 r)) := by
  rw [mvJ, h, hp, nI_clamp hr, nI_clamp hrp, wyJ, if_neg h0]
def shF (g : St) : Nat → St
  | 0 => g
  | k + 1 => up2 (shF g k) 12 k ((shF g k) 12 (k + 1))
theorem shF_k (g : St) (i : Nat) {j : Nat} (h : j ≠ 12) : shF g i j = g j := by
  induction i with
  | zero => rfl
  | succ i ih => rw [shF, up2_fld _ _ _ h]; exact ih
theorem shF_12 (g : St) (i : Nat) (a : Nat) : shF g i 12 a = if a < i then g 12 (a + 1) else g 12 a := by
  induction i with
  | zero => rw [if_neg (by omega)]; rfl
  | succ i ih =>
    rw [shF]
    by_cases e : a = i
    · subst e
      rw [up2_self, if_pos (by omega)]
      have : ∀ c, a ≤ c → shF g a 12 c = g 12 c := by
        intro c hc
        clear ih
        revert hc
        induction a with
        | zero => intro _; rfl
        | succ a ih2 => intro hc; rw [shF, up2_ne _ _ _ (by omega)]; exact ih2 (by omega)
      exact this _ (by omega)
    · rw [up2_ne _ _ _ e, ih]
      by_cases h : a < i
      · rw [if_pos h, if_pos (by omega)]
      · rw [if_neg h, if_neg (by omega)]
def gkF (g : St) (x : Int32) : Nat → St
  | 0 => g
  | k + 1 => if (gkF g x k) 5 k = x ∧ (gkF g x k) 3 k = 1 then up2 (gkF g x k) 3 k 0 else gkF g x k
theorem gkF_k (g : St) (x : Int32) (i : Nat) {j : Nat} (h : j ≠ 3) : gkF g x i j = g j := by
  induction i with
  | zero => rfl
  | succ i ih =>
    rw [gkF]
    split
    · rw [up2_fld _ _ _ h]; exact ih
    · exact ih
def g2J (g : St) (q r0 : Nat) : St := up2 (shF (up2 g 10 r0 2) (q - 1)) 13 0 ((shF (up2 g 10 r0 2) (q - 1)) 13 0 - 1)
def goJ (n : Nat) : Nat → St → St
  | 0, g => g
  | q + 1, g => if g 11 (g 12 0).toNatClampNeg < 500 then g else goJ n q (gkF (g2J g (q + 1) (g 12 0).toNatClampNeg) (g 12 0) n)
theorem goJ_k (n : Nat) {j : Nat} (h : j ≠ 3 ∧ j ≠ 10 ∧ j ≠ 12 ∧ j ≠ 13) : ∀ (q : Nat) (g : St), goJ n q g j = g j := by
  intro q
  induction q with
  | zero => intro g; rfl
  | succ q ih =>
    intro g
    rw [goJ]
    split
    · rfl
    · rw [ih, gkF_k _ _ _ (by omega), g2J, up2_fld _ _ _ (by omega), shF_k _ _ (by omega), up2_fld _ _ _ (by omega)]
theorem goJ_stop {n q : Nat} {g : St} {r : Nat} (h : g 12 0 = nI r) (hr : r < 2 ^ 31) (hlt : g 11 r < 500) : goJ n q g = g := by
  cases q with
  | zero => rfl
  | succ q => rw [goJ, h, nI_clamp hr, if_pos hlt]
theorem goJ_go {n q : Nat} {g : St} {r : Nat} (h : g 12 0 = nI r) (hr : r < 2 ^ 31) (hlt : ¬ g 11 r < 500) (hq : 1 ≤ q) : goJ n q g = goJ n (q - 1) (gkF (g2J g q r) (nI r) n) := by
  obtain ⟨q, rfl⟩ : ∃ c, q = c + 1 := ⟨q - 1, by omega⟩
  rw [goJ, h, nI_clamp hr, if_neg hlt]; rfl
/-- what the loop over the floats that leave needs -/
def GI (n q : Nat) (g : St) : Prop := g 7 0 = nI n ∧ g 13 0 = nI q ∧ q ≤ 5 ∧ ∀ i, i < q → ∃ r, r < 5 ∧ g 12 i = nI r
theorem GI.step {n q r : Nat} {g : St} (h : GI n q g) (hq : 1 ≤ q) : GI n (q - 1) (gkF (g2J g q r) (nI r) n) := by
  refine ⟨?_, ?_, by have := h.2.2.1; omega, fun i hi => ?_⟩
  · rw [gkF_k _ _ _ (by decide), g2J, up2_fld _ _ _ (by decide), shF_k _ _ (by decide), up2_fld _ _ _ (by decide)]; exact h.1
  · rw [gkF_k _ _ _ (by decide), g2J, up2_self, shF_k _ _ (by decide), up2_fld _ _ _ (by decide), h.2.1]
    exact pk_sub (b := 1) hq
  · rw [gkF_k _ _ _ (by decide), g2J, up2_fld _ _ _ (by decide), shF_12, if_pos (by omega), up2_fld _ _ _ (by decide)]
    exact h.2.2.2 (i + 1) (by omega)
def guJ (g : St) (t : Nat) : Int32 := if t < 64 then g 17 t else 0
def maJ (g : St) : Nat → St
  | 0 => g
  | k + 1 => if (maJ g k) 3 k = 1 ∧ ncB (maJ g k) k k = true then up2 (up2 (maJ g k) 3 k 0) 20 0 ((maJ g k) 20 0 + 1) else maJ g k
theorem maJ_k (g : St) (i : Nat) {j : Nat} (h3 : j ≠ 3) (h20 : j ≠ 20) : maJ g i j = g j := by
  induction i with
  | zero => rfl
  | succ i ih => rw [maJ]; split; rw [up2_fld _ _ _ h20, up2_fld _ _ _ h3]; exact ih; exact ih
def mnJ (ψ : St) (n q tm : Nat) : St := maJ (buF (blF (goJ n q (mvJ (up2 ψ 18 0 (nI (tm + 1))) q)) (guJ (goJ n q (mvJ (up2 ψ 18 0 (nI (tm + 1))) q)) (tm + 1)) n) n) n
/-! how many are lit -/
theorem ltS_eq {f g : St} (n : Nat) (h : f 3 = g 3) : ltS f n = ltS g n := by
  induction n with
  | zero => rfl
  | succ n ih => rw [ltS, ltS, ih, h]
theorem ltS_up {f : St} {k n : Nat} {v : Int32} (hk : k < n) (h1 : f 3 k = 1) (hv : ¬ v = 1) : ltS (up2 f 3 k v) n = ltS f n - 1 := by
  have key : ∀ m, (m ≤ k → ltS (up2 f 3 k v) m = ltS f m) ∧ (k < m → ltS (up2 f 3 k v) m = ltS f m - 1) := by
    intro m
    induction m with
    | zero => exact ⟨fun _ => rfl, fun z => by omega⟩
    | succ m ih =>
      rw [ltS, ltS]
      refine ⟨fun z => ?_, fun z => ?_⟩
      · rw [ih.1 (by omega), up2_ne _ _ _ (by omega)]
      · by_cases e : m = k
        · subst e
          rw [ih.1 (Nat.le_refl _), up2_self, if_neg hv, if_pos h1, Int32.add_zero, Int32.add_sub_cancel]
        · rw [ih.2 (by omega), up2_ne _ _ _ e, Int32.sub_eq_add_neg, Int32.sub_eq_add_neg, Int32.add_assoc, Int32.add_assoc, Int32.add_comm (-1)]
  exact (key n).2 hk
theorem sub_inc (a b : Int32) : a - b + 1 = a - (b - 1) := by
  rw [Int32.sub_eq_add_neg a b, Int32.sub_eq_add_neg a (b - 1), Int32.neg_sub, Int32.sub_eq_add_neg 1 b, Int32.add_comm 1, ← Int32.add_assoc]
theorem ct_up {f0 f : St} {k n : Nat} {v : Int32} (hk : k < n) (h1 : f 3 k = 1) (hv : ¬ v = 1) : ltS f0 n - ltS f n + 1 = ltS f0 n - ltS (up2 f 3 k v) n := by
  rw [ltS_up hk h1 hv, sub_inc]
