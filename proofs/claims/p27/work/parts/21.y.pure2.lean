theorem absI (x : Int32) : (if -x < 0 then -(-x) else -x) = if x < 0 then -x else x := by
  by_cases hm : x = -2147483648
  · subst hm; decide
  · have h1 : x.toInt ≠ -2147483648 := fun z => hm (Int32.toInt_inj.mp (by rw [z]; rfl))
    have h2 := Int32.le_toInt x
    have h3 := Int32.toInt_lt x
    have h4 : (-x).toInt = -x.toInt := by
      rw [Int32.toInt_neg]
      exact Int.bmod_eq_of_le (by omega) (by omega)
    have hl : (x < 0) ↔ x.toInt < 0 := Int32.lt_iff_toInt_lt
    have hl2 : (-x < 0) ↔ -x.toInt < 0 := by rw [Int32.lt_iff_toInt_lt, h4]; rfl
    rcases Int.lt_trichotomy x.toInt 0 with z | z | z
    · rw [if_neg (fun q => by have := hl2.mp q; omega), if_pos (hl.mpr z)]
    · have : x = 0 := Int32.toInt_inj.mp (by rw [z]; rfl)
      subst this; decide
    · rw [if_pos (hl2.mpr (by omega)), if_neg (fun q => by have := hl.mp q; omega), Int32.neg_neg]
theorem fa_three9 (a b : Int32) : a < b ∨ a = b ∨ b < a := by
  rcases Int.lt_trichotomy a.toInt b.toInt with h | h | h
  · exact Or.inl (Int32.lt_iff_toInt_lt.mpr h)
  · exact Or.inr (Or.inl (Int32.toInt_inj.mp h))
  · exact Or.inr (Or.inr (Int32.lt_iff_toInt_lt.mpr h))
theorem lt_as9 {a b : Int32} (h : a < b) : ¬ b < a := fun z => by
  have h1 := Int32.lt_iff_toInt_lt.mp h
  have h2 := Int32.lt_iff_toInt_lt.mp z
  omega
theorem ds_comm (f : St) (i j : Nat) : ds f i j = ds f j i := by
  have e : pl f j - pl f i = -(pl f i - pl f j) := by rw [Int32.neg_sub]
  unfold ds
  rw [e, absI]
/-- lit ones have a place -/
def lpF (f : St) (n : Nat) : Prop := ∀ k, k < n → f 3 k = 1 → hpB f k = true
theorem hpB_eq {g f : St} (e5 : g 5 = f 5) (e10 : g 10 = f 10) (k : Nat) : hpB g k = hpB f k := by unfold hpB; rw [e5, e10]
theorem lpF.dec {g f : St} {n : Nat} (h : lpF f n) (d : dec g f) (e : g 10 = f 10) : lpF g n := fun k hk z => by rw [hpB_eq d.2.1 e]; exact h k hk (d.1 k z)
theorem xw.dec {n b q : Nat} {g f : St} {C : List Nat} (h : xw n b q f C) (d : dec g f) (e22 : g 22 = f 22) (e23 : g 23 = f 23) (e30 : ∀ r, g (30 + r) = f (30 + r)) (e25 : g 25 = f 25) : xw n b q g C := h.eqv d.2.2.1 d.2.2.2.1 d.2.2.2.2.1 e22 e23 d.2.2.2.2.2.1 d.2.1 e30 e25
/-- fields that a loop leaves as they are -/
theorem kp_ma {j : Nat} (h3 : j ≠ 3) (h20 : j ≠ 20) (g : St) (k : Nat) : maF g k j = g j := by
  induction k with
  | zero => rfl
  | succ k ih => rw [maF]; split; rw [up2_fld _ _ _ h20, up2_fld _ _ _ h3]; exact ih; exact ih
theorem kp_bu {j : Nat} (h3 : j ≠ 3) (h4 : j ≠ 4) (g : St) (k : Nat) : buF g k j = g j := by
  induction k with
  | zero => rfl
  | succ k ih => rw [buF]; split; rw [up2_fld _ _ _ h3, up2_fld _ _ _ h4]; exact ih; exact ih
theorem kp_bl {j : Nat} (h3 : j ≠ 3) (h19 : j ≠ 19) (g : St) (gu : Int32) (k : Nat) : blF g gu k j = g j := by
  induction k with
  | zero => rfl
  | succ k ih => rw [blF]; split; rw [up2_fld _ _ _ h19, up2_fld _ _ _ h3]; exact ih; exact ih
theorem kp_da {j : Nat} (h3 : j ≠ 3) (g : St) (r s : Nat) : daF g r s j = g j := by
  induction s with
  | zero => rfl
  | succ s ih => rw [daF]; split; exact ih; rw [dkF, up2_fld _ _ _ h3]; exact ih
theorem stO.up3 {f : St} {n : Nat} (h : stO f n) (k : Nat) {v : Int32} (hv : v = 0 ∨ v = 1 ∨ v = 2) : stO (up2 f 3 k v) n := by
  intro j hj
  by_cases e : j = k
  · subst e; rw [up2_self]; exact hv
  · rw [up2_ne _ _ _ e]; exact h j hj
theorem stO.eqv {f g : St} {n : Nat} (h : stO f n) (e : g 3 = f 3) : stO g n := fun k hk => by rw [e]; exact h k hk
theorem stO.da {f : St} {n : Nat} (h : stO f n) (r s : Nat) : stO (daF f r s) n := by
  induction s with
  | zero => exact h
  | succ s ih => rw [daF]; split; exact ih; exact ih.dk _
theorem stO.ma {f : St} {n : Nat} (h : stO f n) (k : Nat) : stO (maF f k) n := by
  induction k with
  | zero => exact h
  | succ k ih => rw [maF]; split; exact (ih.up3 _ (Or.inl rfl)).eqv (up2_fld _ _ _ (by decide)); exact ih
theorem stO.bl {f : St} {n : Nat} (h : stO f n) (gu : Int32) (k : Nat) : stO (blF f gu k) n := by
  induction k with
  | zero => exact h
  | succ k ih => rw [blF]; split; exact (ih.up3 _ (Or.inl rfl)).eqv (up2_fld _ _ _ (by decide)); exact ih
theorem stO.bu {f : St} {n : Nat} (h : stO f n) (k : Nat) : stO (buF f k) n := by
  induction k with
  | zero => exact h
  | succ k ih =>
    rw [buF]; split
    · refine stO.up3 (ih.eqv (up2_fld _ _ _ (by decide))) _ ?_
      split; exact Or.inr (Or.inr rfl); exact Or.inr (Or.inl rfl)
    · exact ih
theorem xw.ma {n b q : Nat} {f : St} {C : List Nat} (h : xw n b q f C) (k : Nat) : xw n b q (maF f k) C := h.dec (dec.ma _ _) (kp_ma (by decide) (by decide) _ _) (kp_ma (by decide) (by decide) _ _) (fun r => kp_ma (by omega) (by omega) _ _) (kp_ma (by decide) (by decide) _ _)
theorem xw.bu {n b q : Nat} {f : St} {C : List Nat} (h : xw n b q f C) (k : Nat) : xw n b q (buF f k) C := h.dec (dec.bu _ _) (kp_bu (by decide) (by decide) _ _) (kp_bu (by decide) (by decide) _ _) (fun r => kp_bu (by omega) (by omega) _ _) (kp_bu (by decide) (by decide) _ _)
theorem xw.bl {n b q : Nat} {f : St} {C : List Nat} (h : xw n b q f C) (gu : Int32) (k : Nat) : xw n b q (blF f gu k) C := h.dec (dec.bl _ _ _) (kp_bl (by decide) (by decide) _ _ _) (kp_bl (by decide) (by decide) _ _ _) (fun r => kp_bl (by omega) (by omega) _ _ _) (kp_bl (by decide) (by decide) _ _ _)
theorem xw.da {n b q : Nat} {f : St} {C : List Nat} (h : xw n b q f C) (r s : Nat) : xw n b q (daF f r s) C := by
  refine h.eqv ?_ ?_ ?_ ?_ ?_ ?_ ?_ (fun r2 => ?_) ?_ <;> exact kp_da (by omega) _ _ _
theorem xw.mv {n b q : Nat} {f : St} {C : List Nat} (h : xw n b q f C) (i : Nat) : xw n b q (mvF f i).1 C := h.dec (dec.mv _ _) (mvF_k _ _ (by decide)) (mvF_k _ _ (by decide)) (fun r => mvF_k _ _ (by omega)) (mvF_k _ _ (by decide))
/-- a slot, a lantern's float -/
theorem xw.ups {n b q : Nat} {f : St} {C : List Nat} (h : xw n b q f C) (r s : Nat) {v : Int32} (hv : v = -1 ∨ ∃ k, k < n ∧ v = nI k) : xw n b q (up2 f (30 + r) s v) C := by
  have key : ∀ a, a < 30 → up2 f (30 + r) s v a = f a := fun a ha => up2_fld _ _ _ (by omega)
  unfold xw
  rw [key 7 (by decide), key 14 (by decide), key 13 (by decide), key 22 (by decide), key 23 (by decide), key 12 (by decide), key 5 (by decide), key 25 (by decide)]
  refine ⟨h.1, h.2.1, h.2.2.1, h.2.2.2.1, h.2.2.2.2.1, h.2.2.2.2.2.1, h.2.2.2.2.2.2.1, h.2.2.2.2.2.2.2.1, h.2.2.2.2.2.2.2.2.1, h.2.2.2.2.2.2.2.2.2.1, h.2.2.2.2.2.2.2.2.2.2.1, h.2.2.2.2.2.2.2.2.2.2.2.1, h.2.2.2.2.2.2.2.2.2.2.2.2.1, h.2.2.2.2.2.2.2.2.2.2.2.2.2.1, fun r2 s2 h1 h2 => ?_, h.2.2.2.2.2.2.2.2.2.2.2.2.2.2.2⟩
  by_cases e1 : r2 = r
  · subst e1
    by_cases e2 : s2 = s
    · subst e2; rw [up2_self]; exact hv
    · rw [up2_ne _ _ _ e2]; exact h.sl _ _ h1 h2
  · rw [up2_fld _ _ _ (by omega)]; exact h.sl _ _ h1 h2
theorem xw.up5 {n b q : Nat} {f : St} {C : List Nat} (h : xw n b q f C) (k : Nat) {v : Int32} (hv : v = -1 ∨ ∃ r, r < b ∧ v = nI r) : xw n b q (up2 f 5 k v) C := by
  have key : ∀ a, a ≠ 5 → up2 f 5 k v a = f a := fun a ha => up2_fld _ _ _ ha
  unfold xw
  rw [key 7 (by decide), key 14 (by decide), key 13 (by decide), key 22 (by decide), key 23 (by decide), key 12 (by decide), key 25 (by decide)]
  refine ⟨h.1, h.2.1, h.2.2.1, h.2.2.2.1, h.2.2.2.2.1, h.2.2.2.2.2.1, h.2.2.2.2.2.2.1, h.2.2.2.2.2.2.2.1, h.2.2.2.2.2.2.2.2.1, h.2.2.2.2.2.2.2.2.2.1, h.2.2.2.2.2.2.2.2.2.2.1, h.2.2.2.2.2.2.2.2.2.2.2.1, h.2.2.2.2.2.2.2.2.2.2.2.2.1, fun k2 h1 => ?_, fun r2 s2 h1 h2 => ?_, h.2.2.2.2.2.2.2.2.2.2.2.2.2.2.2⟩
  · by_cases e2 : k2 = k
    · subst e2; rw [up2_self]; exact hv
    · rw [up2_ne _ _ _ e2]; exact h.h _ h1
  · rw [key _ (by omega)]; exact h.sl _ _ h1 h2
theorem xw.fr {n b q : Nat} {f : St} {C : List Nat} (h : xw n b q f C) (r k s : Nat) : xw n b q (frF f r k s) C := by
  induction s with
  | zero => exact h
  | succ s ih => rw [frF]; split; exact ih.ups _ _ (Or.inl rfl); exact ih
theorem frF_get (f : St) (r k s : Nat) {t : Nat} (ht : s ≤ t) : frF f r k s (30 + r) t = f (30 + r) t := by
  induction s with
  | zero => rfl
  | succ s ih => rw [frF]; split; rw [up2_ne _ _ _ (by omega)]; exact ih (by omega); exact ih (by omega)
theorem maF_get (f : St) (k : Nat) {t : Nat} (ht : k ≤ t) : maF f k 3 t = f 3 t := by
  induction k with
  | zero => rfl
  | succ k ih => rw [maF]; split; rw [up2_fld _ _ _ (by decide), up2_ne _ _ _ (by omega)]; exact ih (by omega); exact ih (by omega)
theorem buF_get (f : St) (k : Nat) {t j : Nat} (ht : k ≤ t) (hj : j = 3 ∨ j = 4) : buF f k j t = f j t := by
  induction k with
  | zero => rfl
  | succ k ih =>
    rw [buF]; split
    · rcases hj with rfl | rfl
      · rw [up2_ne _ _ _ (by omega), up2_fld _ _ _ (by decide)]; exact ih (by omega)
      · rw [up2_fld _ _ _ (by decide), up2_ne _ _ _ (by omega)]; exact ih (by omega)
    · exact ih (by omega)
theorem nlT_n {f : St} {r k s : Nat} (h : f (30 + r) s = -1) : nlT f r k s = false := by simp [nlT, h]
theorem nlT_k {f : St} {r k s : Nat} (h : f (30 + r) s = nI k) : nlT f r k s = false := by simp [nlT, h]
def mbV (f : St) (r : Nat) (x g : Int32) : Int32 :=
  if f 11 r < (if x = -1 then f 11 r + f 8 r else (if f 11 x.toNatClampNeg - 9 - g < f 11 r + f 8 r then f 11 x.toNatClampNeg - 9 - g else f 11 r + f 8 r)) then (if x = -1 then f 11 r + f 8 r else (if f 11 x.toNatClampNeg - 9 - g < f 11 r + f 8 r then f 11 x.toNatClampNeg - 9 - g else f 11 r + f 8 r)) else f 11 r
theorem mb_eq (f : St) (r : Nat) (x : Int32) : mbV f r x (f 15 0) = moveF f x r := by
  have key : ∀ a b : Int32, (if b < a then b else a) = if a < b then a else b := by
    intro a b
    rcases fa_three9 a b with h | h | h
    · rw [if_neg (lt_as9 h), if_pos h]
    · subst h; simp
    · rw [if_pos h, if_neg (lt_as9 h)]
  unfold mbV moveF
  by_cases hx : x = -1
  · simp only [hx, reduceIte]; simp
  · simp only [hx, reduceIte, key]
theorem bi_inj {a b : Bool} (h : bi a = bi b) : a = b := by cases a <;> cases b <;> first | rfl | exact absurd h (by decide)
theorem nearB_up {f : St} {x i j : Nat} (h : i ≤ j) (hn : nearB f x i = true) : nearB f x j = true := by
  induction j with
  | zero => rw [show i = 0 by omega] at hn; exact hn
  | succ j ih =>
    rcases Nat.lt_or_ge j i with z | z
    · rw [show i = j + 1 by omega] at hn; exact hn
    · rw [nearB, ih z]; rfl
def roS (f : St) : Nat → Int32
  | 0 => 0
  | i + 1 => roS f i + (if f 10 (f 12 i).toNatClampNeg = 1 then 1 else 0)
/-- a lit one has minutes left -/
def lfF (f : St) (n : Nat) : Prop := ∀ k, k < n → f 3 k = 1 → ∃ a, 1 ≤ a ∧ a ≤ 80 ∧ f 4 k = nI a
def lgF (f : St) : Nat → St
  | 0 => f
  | i + 1 => if (lgF f i) 10 (f 12 i).toNatClampNeg = 1 ∧ 500 ≤ (lgF f i) 11 (f 12 i).toNatClampNeg then daF (up2 (lgF f i) 10 (f 12 i).toNatClampNeg 2) (f 12 i).toNatClampNeg 10 else lgF f i
theorem kp_lg {j : Nat} (h3 : j ≠ 3) (h10 : j ≠ 10) (g : St) (k : Nat) : lgF g k j = g j := by
  induction k with
  | zero => rfl
  | succ k ih => rw [lgF]; split; rw [kp_da h3, up2_fld _ _ _ h10]; exact ih; exact ih
theorem dec.da (g : St) (r s : Nat) : dec (daF g r s) g := by
  induction s with
  | zero => exact dec.rf g
  | succ s ih => rw [daF]; split; exact ih; exact (dec.dk _ _).tr ih
theorem dec.lg (g : St) (k : Nat) : dec (lgF g k) g := by
  induction k with
  | zero => exact dec.rf g
  | succ k ih => rw [lgF]; split; exact ((dec.da _ _ _).tr (dec.up _ _ _ (by omega))).tr ih; exact ih
theorem stO.lg {f : St} {n : Nat} (h : stO f n) (k : Nat) : stO (lgF f k) n := by
  induction k with
  | zero => exact h
  | succ k ih => rw [lgF]; split; exact stO.da (ih.eqv (up2_fld _ _ _ (by decide))) _ _; exact ih
theorem xw.lg {n b q : Nat} {f : St} {C : List Nat} (h : xw n b q f C) (k : Nat) : xw n b q (lgF f k) C := h.dec (dec.lg _ _) (kp_lg (by decide) (by decide) _ _) (kp_lg (by decide) (by decide) _ _) (fun r => kp_lg (by omega) (by omega) _ _) (kp_lg (by decide) (by decide) _ _)
theorem lfF.dec {g f : St} {n : Nat} (h : lfF f n) (d : dec g f) (e : g 4 = f 4) : lfF g n := fun k hk z => by rw [e]; exact h k hk (d.1 k z)
theorem mvF_inb {f : St} {q i b : Nat} (ho : ∀ i, i < q → ∃ r, r < b ∧ f 12 i = nI r) (hi : i ≤ q) : (mvF f i).2 = -1 ∨ ∃ r, r < b ∧ (mvF f i).2 = nI r := by
  induction i with
  | zero => exact Or.inl rfl
  | succ i ih =>
    rw [mvF]
    split
    · exact Or.inr (ho i (by omega))
    · exact ih (by omega)
theorem rmS_inb {f : St} {q b : Nat} (ho : ∀ i, i < q → ∃ r, r < b ∧ f 12 i = nI r) : rmS f q = -1 ∨ ∃ r, r < b ∧ rmS f q = nI r := by
  induction q with
  | zero => exact Or.inl rfl
  | succ q ih =>
    unfold rmS
    split
    · exact Or.inr (ho q (by omega))
    · exact ih (fun i hi => ho i (by omega))
