theorem kp_fr {j : Nat} (h : j < 30) (f : St) (r k s : Nat) : frF f r k s j = f j := by
  induction s with
  | zero => rfl
  | succ s ih => rw [frF]; split; rw [up2_fld _ _ _ (by omega)]; exact ih; exact ih
theorem xw.nr {n b q : Nat} {f : St} {C : List Nat} (h : xw n b q f C) : ∀ r, r < b → f 25 r = nI r := h.2.2.2.2.2.2.2.2.2.2.2.2.2.2.2
/-- a place is a number of metres -/
def plN (f : St) (n : Nat) : Prop := ∀ k, k < n → hpB f k = true → ¬ pl f k = -1
def cHang (f : St) (l r s : Int32) : Int32 := gl (bi (isL f l && isF f r && inB s 0 9)) (bi (decide (f (30 + r.toNatClampNeg) s.toNatClampNeg = -1))) (bi (decide (f 5 l.toNatClampNeg = -1) && decide (f 10 r.toNatClampNeg ≠ 2) && decide (wtS f r.toNatClampNeg 10 + wt f l.toNatClampNeg ≤ f 9 r.toNatClampNeg)))
def laF (f : St) (q r : Nat) : St := up2 (up2 (up2 (up2 (up2 f 10 r 1) 11 r 9) 24 r (nI q)) 12 q (nI r)) 13 0 (nI (q + 1))
theorem xw.la {n b q : Nat} {f : St} {C : List Nat} (h : xw n b q f C) {r : Nat} (hr : r < b) (hq : q < 8) : xw n b (q + 1) (laF f q r) C := by
  have k12 : ∀ i, laF f q r 12 i = if i = q then nI r else f 12 i := fun i => rfl
  refine ⟨h.1, h.2.1, by omega, h.2.2.2.1, h.2.2.2.2.1, h.2.2.2.2.2.1, rfl, h.2.2.2.2.2.2.2.1, h.2.2.2.2.2.2.2.2.1, h.2.2.2.2.2.2.2.2.2.1, h.2.2.2.2.2.2.2.2.2.2.1, fun i hi => ?_, fun i h1 h2 => ?_, h.h, fun r2 s2 h1 h2 => ?_, h.nr⟩
  · rw [k12]
    by_cases e : i = q
    · rw [if_pos e]; exact ⟨r, hr, rfl⟩
    · rw [if_neg e]; exact h.o i (by omega)
  · rw [k12, if_neg (by omega)]; exact h.2.2.2.2.2.2.2.2.2.2.2.2.1 i (by omega) h2
  · unfold laF
    rw [up2_fld _ _ _ (by omega), up2_fld _ _ _ (by omega), up2_fld _ _ _ (by omega), up2_fld _ _ _ (by omega), up2_fld _ _ _ (by omega)]
    exact h.sl r2 s2 h1 h2
def naF (f : St) (k : Nat) : Nat → Int32
  | 0 => -1
  | i + 1 => if nlS f (f 12 i).toNatClampNeg k 10 = -1 then naF f k i else nlS f (f 12 i).toNatClampNeg k 10
def nbF (f : St) (k q : Nat) : Nat → Int32
  | 0 => -1
  | d + 1 => if nlS f (f 12 (q - (d + 1))).toNatClampNeg k 10 = -1 then nbF f k q d else nlS f (f 12 (q - (d + 1))).toNatClampNeg k 10
def neC (f : St) (q k : Nat) : Int32 := if hpB f k = true then nrI (nlS f (f 5 k).toNatClampNeg k 10) (nrI (naF f k (f 24 (f 5 k).toNatClampNeg).toNatClampNeg) (nbF f k q (q - ((f 24 (f 5 k).toNatClampNeg).toNatClampNeg + 1)))) else -1
def noF (f : St) (k : Nat) : Nat → Int32
  | 0 => -1
  | j + 1 => if j ≠ k ∧ f 3 j = 1 then nrI (noF f k j) (ds f k j) else noF f k j
def pzF (f : St) (g : Int32) : Nat → Int32 × Int32
  | 0 => (-1, -1)
  | i + 1 => if f 10 (f 12 i).toNatClampNeg = 1 ∧ (pzF f g i).2 < axS f (f 12 i).toNatClampNeg g 10 then (f 12 i, axS f (f 12 i).toNatClampNeg g 10) else pzF f g i
def mnC (f : St) (n q tm : Nat) : St := maF (buF (blF (lgF (mvF (up2 f 18 0 (nI (tm + 1))) q).1 q) (guF (lgF (mvF (up2 f 18 0 (nI (tm + 1))) q).1 q) (tm + 1)) n) n) n
def psC (f : St) (n q tm : Nat) : Nat → St
  | 0 => f
  | k + 1 => mnC (psC f n q tm k) n q (tm + k)
/-- what a minute needs -/
def MI (n b q : Nat) (f : St) (tm : Nat) (C : List Nat) : Prop := xw n b q f C ∧ stO f n ∧ lpF f n ∧ lfF f n ∧ f 18 0 = nI tm ∧ ∀ g : St, g = (mvF (up2 f 18 0 (nI (tm + 1))) q).1 → lpF (lgF g q) n
