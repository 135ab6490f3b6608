/-! numbers of the model and of the class, by field and place: f j k -/
def up2 (f : St) (j k : Nat) (v : Int32) : St := fun a b => if a = j then (if b = k then v else f a b) else f a b
theorem up2_self (f : St) (j k : Nat) (v : Int32) : up2 f j k v j k = v := by simp [up2]
theorem up2_fld (f : St) {j a : Nat} (k : Nat) (v : Int32) (h : a ≠ j) : up2 f j k v a = f a := by funext b; simp [up2, h]
theorem up2_ne (f : St) (j : Nat) {k b : Nat} (v : Int32) (h : b ≠ k) : up2 f j k v j b = f j b := by simp [up2, h]
def bi (b : Bool) : Int32 := if b = true then 1 else 0
theorem bi_t : bi true = 1 := rfl
theorem bi_f : bi false = 0 := rfl
theorem bi_or (b : Bool) : bi b = 0 ∨ bi b = 1 := by cases b <;> simp [bi]
theorem bi_0 {b : Bool} : bi b = 0 ↔ b = false := by cases b <;> simp [bi]
theorem bi_n0 {b : Bool} : ¬ bi b = 0 ↔ b = true := by cases b <;> simp [bi]
theorem bi_dec {c : Prop} [Decidable c] : bi (decide c) = if c then 1 else 0 := by by_cases h : c <;> simp [bi, h]
/-- the number of the exception that a call of the model throws -/
def gl (a b c : Int32) : Int32 := if a = 0 then 1 else if b = 0 then 2 else if c = 0 then 3 else 0
def inB (v a b : Int32) : Bool := decide (a ≤ v ∧ v ≤ b)
def pl (f : St) (k : Nat) : Int32 := f 11 (f 5 k).toNatClampNeg - f 6 k
def ds (f : St) (j k : Nat) : Int32 := if pl f j - pl f k < 0 then -(pl f j - pl f k) else pl f j - pl f k
def wt (f : St) (k : Nat) : Int32 := 20 * f 0 k + 30 * f 1 k + 50 * f 2 k
def ldS (f : St) (x : Int32) : Nat → Int32
  | 0 => 0
  | k + 1 => ldS f x k + (if f 5 k = x then wt f k else 0)
def tkB (f : St) (x s : Int32) : Nat → Bool
  | 0 => false
  | k + 1 => tkB f x s k || (decide (f 5 k = x) && decide (f 6 k = s))
def hpB (f : St) (k : Nat) : Bool := decide (f 5 k ≠ -1) && decide (f 10 (f 5 k).toNatClampNeg = 1)
def nearT (f : St) (x k : Nat) : Bool := decide (k ≠ x) && decide (f 3 k = 1) && decide (ds f k x < f 2 k + f 2 x + f 16 0)
def nearB (f : St) (x : Nat) : Nat → Bool
  | 0 => false
  | k + 1 => nearB f x k || nearT f x k
def ltS (f : St) : Nat → Int32
  | 0 => 0
  | k + 1 => ltS f k + (if f 3 k = 1 then 1 else 0)
def afS (f : St) : Nat → Int32
  | 0 => 0
  | k + 1 => afS f k + (if f 10 k = 1 then 1 else 0)
def rmS (f : St) : Nat → Int32
  | 0 => -1
  | i + 1 => if f 10 (f 12 i).toNatClampNeg = 1 then f 12 i else rmS f i
theorem rmS_in {f : St} {q : Nat} (ho : ∀ i, i < q → ∃ r, r < 8 ∧ f 12 i = nI r) : rmS f q = -1 ∨ ∃ r, r < 8 ∧ rmS f q = nI r := by
  induction q with
  | zero => exact Or.inl rfl
  | succ q ih =>
    unfold rmS
    split
    · exact Or.inr (ho q (by omega))
    · exact ih (fun i hi => ho i (by omega))
def setS (f : St) (x : Int32) : Nat → Int32
  | 0 => 0
  | k + 1 => setS f x k ||| (if f 5 k = x ∧ f 3 k = 1 then 1 <<< (f 6 k &&& 31) else 0)
def alS (a b : Int32) : Nat → Int32
  | 0 => 0
  | k + 1 => alS a b k + (if (a >>> (nI k &&& 31)) &&& 1 = (b >>> (nI k &&& 31)) &&& 1 then 1 else 0)
def lkS (f : St) (n : Nat) (x g : Int32) : Int32 := alS (setS f x n) g 10
def prS (f : St) (n : Nat) (g : Int32) : Nat → Int32
  | 0 => -1
  | i + 1 => if f 10 (f 12 i).toNatClampNeg = 1 ∧ (prS f n g i = -1 ∨ lkS f n (prS f n g i) g < lkS f n (f 12 i) g) then f 12 i else prS f n g i
theorem prS_t {f : St} {n : Nat} {g : Int32} {i : Nat} (h1 : f 10 (f 12 i).toNatClampNeg = 1) (h2 : prS f n g i = -1 ∨ lkS f n (prS f n g i) g < lkS f n (f 12 i) g) : prS f n g (i + 1) = f 12 i := by rw [prS, if_pos ⟨h1, h2⟩]
theorem prS_f1 {f : St} {n : Nat} {g : Int32} {i : Nat} (h1 : ¬ f 10 (f 12 i).toNatClampNeg = 1) : prS f n g (i + 1) = prS f n g i := by rw [prS, if_neg (fun z => h1 z.1)]
theorem prS_f2 {f : St} {n : Nat} {g : Int32} {i : Nat} (h2 : ¬ (prS f n g i = -1 ∨ lkS f n (prS f n g i) g < lkS f n (f 12 i) g)) : prS f n g (i + 1) = prS f n g i := by rw [prS, if_neg (fun z => h2 z.2)]
def nrS (f : St) (x : Nat) : Nat → Int32
  | 0 => -1
  | k + 1 => if k ≠ x ∧ f 3 k = 1 then (if nrS f x k = -1 ∨ ds f k x < nrS f x k then ds f k x else nrS f x k) else nrS f x k
def isL (f : St) (x : Int32) : Bool := inB x 0 (f 7 0 - 1)
def isF (f : St) (x : Int32) : Bool := inB x 0 (f 14 0 - 1)
theorem gl_iff {A B C : Bool} : gl (bi A) (bi B) (bi C) = 0 ↔ A = true ∧ B = true ∧ C = true := by cases A <;> cases B <;> cases C <;> decide
theorem gl_1 {A : Bool} : gl (bi A) 1 1 = 0 ↔ A = true := by cases A <;> decide
theorem gl_2 {A B : Bool} : gl (bi A) (bi B) 1 = 0 ↔ A = true ∧ B = true := by cases A <;> cases B <;> decide
theorem inB_iff {v a b : Int32} : inB v a b = true ↔ a ≤ v ∧ v ≤ b := by simp [inB]
theorem inB_ix {x : Int32} {n : Nat} (hn : n < 2 ^ 30) (h : inB x 0 (nI n - 1) = true) : ∃ a, a < n ∧ x = nI a := by
  obtain ⟨h1, h2⟩ := inB_iff.mp h
  obtain ⟨j, hj, rfl⟩ := nI_of (Int32.not_lt.mpr h1)
  refine ⟨j, ?_, rfl⟩
  rw [Int32.le_iff_toInt_le, nI_toInt hj, show nI n - 1 = nI n - nI 1 from rfl, pk_sub_toInt (by omega) (by decide)] at h2
  omega
theorem ix_inB {a n : Nat} (hn : n < 2 ^ 30) (h : a < n) : inB (nI a) 0 (nI n - 1) = true := by
  refine inB_iff.mpr ⟨nI_pos' (by omega), ?_⟩
  rw [Int32.le_iff_toInt_le, nI_toInt (by omega), show nI n - 1 = nI n - nI 1 from rfl, pk_sub_toInt (by omega) (by decide)]
  omega
theorem inB_1 {x : Int32} {m : Nat} (hm : m < 2 ^ 30) (h : inB x 1 (nI m) = true) : ∃ a, 1 ≤ a ∧ a ≤ m ∧ x = nI a := by
  obtain ⟨h1, h2⟩ := inB_iff.mp h
  have h0 : ¬ x < 0 := fun z => by
    have e1 := Int32.lt_iff_toInt_lt.mp z
    have e2 := Int32.le_iff_toInt_le.mp h1
    have e3 : (1 : Int32).toInt = 1 := rfl
    have e4 : (0 : Int32).toInt = 0 := rfl
    omega
  obtain ⟨j, hj, rfl⟩ := nI_of h0
  refine ⟨j, ?_, (nI_leI (by omega) (by omega)).mp h2, rfl⟩
  exact (nI_leI (a := 1) (by decide) hj).mp h1
theorem pk_addsub (x y : Int32) : x + y - y = x := by simp
def tL (f : St) (x : Int32) : Int32 := gl (bi (isL f x)) 1 1
def tF (f : St) (x : Int32) : Int32 := gl (bi (isF f x)) 1 1
def tMake (f : St) (a b c : Int32) : Int32 := gl (bi (inB a 4 12 && inB b 0 3 && inB c 1 4)) (bi (decide (f 7 0 < 24))) 1
def okHang (f : St) (n : Nat) (l r s : Int32) : Bool := (isL f l && isF f r && inB s 0 9) && decide (f 5 l.toNatClampNeg = -1) && decide (f 10 r.toNatClampNeg ≠ 2) && decide (ldS f r n + wt f l.toNatClampNeg ≤ f 9 r.toNatClampNeg)
def tHang (f : St) (n : Nat) (l r s : Int32) : Int32 := gl (bi (isL f l && isF f r && inB s 0 9)) (bi ((isL f l && isF f r && inB s 0 9) && !tkB f r s n)) (bi (okHang f n l r s))
def tTake (f : St) (l : Int32) : Int32 := gl (bi (isL f l)) (bi (isL f l && decide (f 5 l.toNatClampNeg ≠ -1))) 1
def tLight (f : St) (n : Nat) (l : Int32) : Int32 := gl (bi (isL f l)) (bi (isL f l && hpB f l.toNatClampNeg && decide (f 3 l.toNatClampNeg = 0) && !nearB f l.toNatClampNeg n)) 1
def tPutOut (f : St) (l : Int32) : Int32 := gl (bi (isL f l)) (bi (isL f l && decide (f 3 l.toNatClampNeg = 1))) 1
def tBuild (f : St) (a b : Int32) : Int32 := gl (bi (inB a 1 9 && inB b 100 9999)) (bi (decide (f 14 0 < 8))) 1
def tLaunch (f : St) (q : Nat) (r : Int32) : Int32 := gl (bi (isF f r)) (bi (isF f r && decide (f 10 r.toNatClampNeg = 0) && (decide (rmS f q = -1) || decide (9 + f 15 0 ≤ f 11 (rmS f q).toNatClampNeg - 9)))) 1
def tRules (a b : Int32) : Int32 := gl (bi (inB a 1 20 && inB b 0 9)) 1 1
def tGust (a b : Int32) : Int32 := gl (bi (inB a 1 400 && inB b 0 9)) 1 1
def tPass (a : Int32) : Int32 := gl (bi (inB a 1 60)) 1 1
def tLike (f : St) (r g : Int32) : Int32 := gl (bi (isF f r)) (bi (inB g 0 1023)) 1
def tPrize (g : Int32) : Int32 := gl (bi (inB g 0 1023)) 1 1
def dkF (f : St) (k : Nat) : St := up2 f 3 k (if f 3 k = 2 then 2 else 0)
/-! a minute -/
def moveF (g : St) (a : Int32) (r : Nat) : Int32 :=
  if g 11 r < (if g 11 r + g 8 r < (if a = -1 then g 11 r + g 8 r else g 11 a.toNatClampNeg - 9 - g 15 0) then g 11 r + g 8 r else (if a = -1 then g 11 r + g 8 r else g 11 a.toNatClampNeg - 9 - g 15 0)) then (if g 11 r + g 8 r < (if a = -1 then g 11 r + g 8 r else g 11 a.toNatClampNeg - 9 - g 15 0) then g 11 r + g 8 r else (if a = -1 then g 11 r + g 8 r else g 11 a.toNatClampNeg - 9 - g 15 0)) else g 11 r
def mvF (f : St) : Nat → St × Int32
  | 0 => (f, -1)
  | i + 1 => if f 10 (f 12 i).toNatClampNeg = 1 then (up2 (mvF f i).1 11 (f 12 i).toNatClampNeg (moveF (mvF f i).1 (mvF f i).2 (f 12 i).toNatClampNeg), f 12 i) else mvF f i
theorem mvF_s {f : St} {i : Nat} (h : f 10 (f 12 i).toNatClampNeg = 1) : mvF f (i + 1) = (up2 (mvF f i).1 11 (f 12 i).toNatClampNeg (moveF (mvF f i).1 (mvF f i).2 (f 12 i).toNatClampNeg), f 12 i) := by rw [mvF, if_pos h]
theorem mvF_n {f : St} {i : Nat} (h : ¬ f 10 (f 12 i).toNatClampNeg = 1) : mvF f (i + 1) = mvF f i := by rw [mvF, if_neg h]
theorem mvF_k (f : St) (i : Nat) {k : Nat} (h : k ≠ 11) : (mvF f i).1 k = f k := by
  induction i with
  | zero => rfl
  | succ i ih =>
    rw [mvF]
    split
    · show up2 (mvF f i).1 11 _ _ k = f k
      rw [up2_fld _ _ _ h]; exact ih
    · exact ih
theorem mvF_in {f : St} {q i : Nat} (ho : ∀ i, i < q → ∃ r, r < 8 ∧ f 12 i = nI r) (hi : i ≤ q) : (mvF f i).2 = -1 ∨ ∃ r, r < 8 ∧ (mvF f i).2 = nI r := by
  induction i with
  | zero => exact Or.inl rfl
  | succ i ih =>
    rw [mvF]
    split
    · exact Or.inr (ho i (by omega))
    · exact ih (by omega)
def dkL (g : St) (x : Int32) : Nat → St
  | 0 => g
  | j + 1 => if g 5 j = x then dkF (dkL g x j) j else dkL g x j
def gnF (g : St) (n : Nat) : Nat → St
  | 0 => g
  | k + 1 => if (gnF g n k) 10 k = 1 ∧ 500 ≤ (gnF g n k) 11 k then dkL (up2 (gnF g n k) 10 k 2) (nI k) n else gnF g n k
def blF (g : St) (gu : Int32) : Nat → St
  | 0 => g
  | k + 1 => if (blF g gu k) 3 k = 1 ∧ (blF g gu k) 1 k + (blF g gu k) 0 k / 3 < gu then up2 (up2 (blF g gu k) 3 k 0) 19 0 ((blF g gu k) 19 0 + 1) else blF g gu k
def buF (g : St) : Nat → St
  | 0 => g
  | k + 1 => if (buF g k) 3 k = 1 then up2 (up2 (buF g k) 4 k ((buF g k) 4 k - 1)) 3 k (if (buF g k) 4 k - 1 = 0 then 2 else 1) else buF g k
def maF (g : St) : Nat → St
  | 0 => g
  | k + 1 => if (maF g k) 3 k = 1 ∧ nearB (maF g k) k k = true then up2 (up2 (maF g k) 3 k 0) 20 0 ((maF g k) 20 0 + 1) else maF g k
def guF (f : St) (tm : Nat) : Int32 := if tm ≤ 400 then f 17 tm else 0
def brF (f : St) (n tm : Nat) : St := maF (buF (blF f (guF f tm) n) n) n
def fmF (f : St) (n b q : Nat) : St := gnF (mvF f q).1 n b
def minF (f : St) (n b q tm : Nat) : St := brF (fmF (up2 f 18 0 (nI (tm + 1))) n b q) n (tm + 1)
def passF (f : St) (n b q tm : Nat) : Nat → St
  | 0 => f
  | k + 1 => minF (passF f n b q tm k) n b q (tm + k)
/-- lit ones were lit, hanging ones hang as they did, the numbers of things stay -/
def dec (g f : St) : Prop := (∀ k, g 3 k = 1 → f 3 k = 1) ∧ g 5 = f 5 ∧ g 7 = f 7 ∧ g 14 = f 14 ∧ g 13 = f 13 ∧ g 12 = f 12 ∧ g 6 = f 6 ∧ g 0 = f 0 ∧ g 1 = f 1 ∧ g 2 = f 2 ∧ g 8 = f 8 ∧ g 9 = f 9 ∧ g 15 = f 15 ∧ g 16 = f 16 ∧ g 17 = f 17
theorem dec.rf (f : St) : dec f f := ⟨fun _ h => h, rfl, rfl, rfl, rfl, rfl, rfl, rfl, rfl, rfl, rfl, rfl, rfl, rfl, rfl⟩
theorem dec.tr {h g f : St} (a : dec h g) (b : dec g f) : dec h f := ⟨fun k z => b.1 k (a.1 k z), a.2.1.trans b.2.1, a.2.2.1.trans b.2.2.1, a.2.2.2.1.trans b.2.2.2.1, a.2.2.2.2.1.trans b.2.2.2.2.1, a.2.2.2.2.2.1.trans b.2.2.2.2.2.1, a.2.2.2.2.2.2.1.trans b.2.2.2.2.2.2.1, a.2.2.2.2.2.2.2.1.trans b.2.2.2.2.2.2.2.1, a.2.2.2.2.2.2.2.2.1.trans b.2.2.2.2.2.2.2.2.1, a.2.2.2.2.2.2.2.2.2.1.trans b.2.2.2.2.2.2.2.2.2.1, a.2.2.2.2.2.2.2.2.2.2.1.trans b.2.2.2.2.2.2.2.2.2.2.1, a.2.2.2.2.2.2.2.2.2.2.2.1.trans b.2.2.2.2.2.2.2.2.2.2.2.1, a.2.2.2.2.2.2.2.2.2.2.2.2.1.trans b.2.2.2.2.2.2.2.2.2.2.2.2.1, a.2.2.2.2.2.2.2.2.2.2.2.2.2.1.trans b.2.2.2.2.2.2.2.2.2.2.2.2.2.1, a.2.2.2.2.2.2.2.2.2.2.2.2.2.2.trans b.2.2.2.2.2.2.2.2.2.2.2.2.2.2⟩
theorem dec.up (f : St) {j : Nat} (k : Nat) (v : Int32) (hj : j = 4 ∨ j = 10 ∨ j = 11 ∨ j = 18 ∨ j = 19 ∨ j = 20) : dec (up2 f j k v) f := by
  have key : ∀ a, a ≠ j → up2 f j k v a = f a := fun a h => up2_fld f k v h
  refine ⟨fun x h => by rw [key 3 (by omega)] at h; exact h, key _ (by omega), key _ (by omega), key _ (by omega), key _ (by omega), key _ (by omega), key _ (by omega), key _ (by omega), key _ (by omega), key _ (by omega), key _ (by omega), key _ (by omega), key _ (by omega), key _ (by omega), key _ (by omega)⟩
theorem dec.up3 (f : St) (k : Nat) (v : Int32) (hv : v = 1 → f 3 k = 1) : dec (up2 f 3 k v) f := by
  refine ⟨fun x h => ?_, rfl, rfl, rfl, rfl, rfl, rfl, rfl, rfl, rfl, rfl, rfl, rfl, rfl, rfl⟩
  by_cases hx : x = k
  · subst hx; rw [up2_self] at h; exact hv h
  · rw [up2_ne _ _ _ hx] at h; exact h
theorem dec.dk (f : St) (k : Nat) : dec (dkF f k) f := dec.up3 f k _ (fun h => by split at h <;> exact absurd h (by decide))
theorem dec.dkl (g : St) (x : Int32) (j : Nat) : dec (dkL g x j) g := by
  induction j with
  | zero => exact dec.rf g
  | succ j ih => rw [dkL]; split; exact (dec.dk _ _).tr ih; exact ih
theorem dec.gn (g : St) (n k : Nat) : dec (gnF g n k) g := by
  induction k with
  | zero => exact dec.rf g
  | succ k ih => rw [gnF]; split; exact ((dec.dkl _ _ _).tr (dec.up _ _ _ (by omega))).tr ih; exact ih
theorem dec.mv (f : St) (i : Nat) : dec (mvF f i).1 f := by
  induction i with
  | zero => exact dec.rf f
  | succ i ih => rw [mvF]; split; exact (dec.up _ _ _ (by omega)).tr ih; exact ih
theorem dec.bl (g : St) (gu : Int32) (k : Nat) : dec (blF g gu k) g := by
  induction k with
  | zero => exact dec.rf g
  | succ k ih => rw [blF]; split; exact ((dec.up _ _ _ (by omega)).tr (dec.up3 _ _ _ (fun h => absurd h (by decide)))).tr ih; exact ih
theorem dec.bu (g : St) (k : Nat) : dec (buF g k) g := by
  induction k with
  | zero => exact dec.rf g
  | succ k ih => 
    rw [buF]; split
    next h => exact ((dec.up3 _ _ _ (fun _ => by rw [up2_fld _ _ _ (by decide)]; exact h)).tr (dec.up _ _ _ (by omega))).tr ih
    exact ih
theorem dec.ma (g : St) (k : Nat) : dec (maF g k) g := by
  induction k with
  | zero => exact dec.rf g
  | succ k ih => rw [maF]; split; exact ((dec.up _ _ _ (by omega)).tr (dec.up3 _ _ _ (fun h => absurd h (by decide)))).tr ih; exact ih
theorem dec.br (f : St) (n tm : Nat) : dec (brF f n tm) f := (dec.ma _ _).tr ((dec.bu _ _).tr (dec.bl _ _ _))
theorem dec.fm (f : St) (n b q : Nat) : dec (fmF f n b q) f := (dec.gn _ _ _).tr (dec.mv _ _)
theorem dec.min (f : St) (n b q tm : Nat) : dec (minF f n b q tm) f := (dec.br _ _ _).tr ((dec.fm _ _ _ _).tr (dec.up _ _ _ (by omega)))
theorem dec.pass (f : St) (n b q tm k : Nat) : dec (passF f n b q tm k) f := by
  induction k with
  | zero => exact dec.rf f
  | succ k ih => exact (dec.min _ _ _ _ _).tr ih
/-- lit ones hang on a float -/
def LT (f : St) (n : Nat) : Prop := ∀ k, k < n → f 3 k = 1 → ∃ r, r < 8 ∧ f 5 k = nI r
theorem LT.dec {g f : St} {n : Nat} (h : LT f n) (d : dec g f) : LT g n := fun k hk z => by rw [d.2.1]; exact h k hk (d.1 k z)
/-- the time passes in the first step of a minute alone -/
theorem k18_dkL (g : St) (x : Int32) (j : Nat) : dkL g x j 18 = g 18 := by
  induction j with
  | zero => rfl
  | succ j ih => rw [dkL]; split; exact ih; exact ih
theorem k18_gn (g : St) (n k : Nat) : gnF g n k 18 = g 18 := by
  induction k with
  | zero => rfl
  | succ k ih => rw [gnF]; split; rw [k18_dkL]; exact ih; exact ih
theorem k18_bl (g : St) (gu : Int32) (k : Nat) : blF g gu k 18 = g 18 := by
  induction k with
  | zero => rfl
  | succ k ih => rw [blF]; split; exact ih; exact ih
theorem k18_bu (g : St) (k : Nat) : buF g k 18 = g 18 := by
  induction k with
  | zero => rfl
  | succ k ih => rw [buF]; split; exact ih; exact ih
theorem k18_ma (g : St) (k : Nat) : maF g k 18 = g 18 := by
  induction k with
  | zero => rfl
  | succ k ih => rw [maF]; split; exact ih; exact ih
theorem k18_min (f : St) (n b q tm : Nat) : minF f n b q tm 18 0 = nI (tm + 1) := by
  simp only [minF, brF, fmF]
  rw [k18_ma, k18_bu, k18_bl, k18_gn, mvF_k _ _ (by decide)]
  rfl
theorem k18_pass {f : St} {n b q tm : Nat} (h : f 18 0 = nI tm) (k : Nat) : passF f n b q tm k 18 0 = nI (tm + k) := by
  cases k with
  | zero => exact h
  | succ k => exact k18_min _ _ _ _ _
