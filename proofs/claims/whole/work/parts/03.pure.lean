/-! numbers of the model and of the class, by field and place: f j k -/
def up2 (f : St) (j k : Nat) (v : Int32) : St := fun a b => if a = j then (if b = k then v else f a b) else f a b
theorem up2_self (f : St) (j k : Nat) (v : Int32) : up2 f j k v j k = v := by simp [up2]
theorem up2_fld (f : St) {j a : Nat} (k : Nat) (v : Int32) (h : a ≠ j) : up2 f j k v a = f a := by funext b; simp [up2, h]
theorem up2_ne (f : St) (j : Nat) {k b : Nat} (v : Int32) (h : b ≠ k) : up2 f j k v j b = f j b := by simp [up2, h]
def bi (b : Bool) : Int32 := if b = true then 1 else 0
theorem bi_t : bi true = 1 := rfl
theorem bi_f : bi false = 0 := rfl
theorem bi_or (b : Bool) : bi b = 0 ∨ bi b = 1 := by cases b <;> simp [bi]
theorem bi_0 {b : Bool} : bi b = 0 ↔ b = false := by cases b <;> simp [bi]
theorem bi_n0 {b : Bool} : ¬ bi b = 0 ↔ b = true := by cases b <;> simp [bi]
theorem bi_dec {c : Prop} [Decidable c] : bi (decide c) = if c then 1 else 0 := by by_cases h : c <;> simp [bi, h]
/-- the number of the exception that a call of the model throws -/
def gl (a b c : Int32) : Int32 := if a = 0 then 1 else if b = 0 then 2 else if c = 0 then 3 else 0
def inB (v a b : Int32) : Bool := decide (a ≤ v ∧ v ≤ b)
def pl (f : St) (k : Nat) : Int32 := f 11 (f 5 k).toNatClampNeg - f 6 k
def ds (f : St) (j k : Nat) : Int32 := if pl f j - pl f k < 0 then -(pl f j - pl f k) else pl f j - pl f k
def wt (f : St) (k : Nat) : Int32 := 20 * f 0 k + 30 * f 1 k + 50 * f 2 k
def ldS (f : St) (x : Int32) : Nat → Int32
  | 0 => 0
  | k + 1 => ldS f x k + (if f 5 k = x then wt f k else 0)
def tkB (f : St) (x s : Int32) : Nat → Bool
  | 0 => false
  | k + 1 => tkB f x s k || (decide (f 5 k = x) && decide (f 6 k = s))
def hpB (f : St) (k : Nat) : Bool := decide (f 5 k ≠ -1) && decide (f 10 (f 5 k).toNatClampNeg = 1)
def nearT (f : St) (x k : Nat) : Bool := decide (k ≠ x) && decide (f 3 k = 1) && decide (ds f k x < f 2 k + f 2 x + f 16 0)
def nearB (f : St) (x : Nat) : Nat → Bool
  | 0 => false
  | k + 1 => nearB f x k || nearT f x k
def ltS (f : St) : Nat → Int32
  | 0 => 0
  | k + 1 => ltS f k + (if f 3 k = 1 then 1 else 0)
def afS (f : St) : Nat → Int32
  | 0 => 0
  | k + 1 => afS f k + (if f 10 k = 1 then 1 else 0)
def rmS (f : St) : Nat → Int32
  | 0 => -1
  | i + 1 => if f 10 (f 12 i).toNatClampNeg = 1 then f 12 i else rmS f i
def setS (f : St) (x : Int32) : Nat → Int32
  | 0 => 0
  | k + 1 => setS f x k ||| (if f 5 k = x ∧ f 3 k = 1 then 1 <<< (f 6 k &&& 31) else 0)
def alS (a b : Int32) : Nat → Int32
  | 0 => 0
  | k + 1 => alS a b k + (if (a >>> (nI k &&& 31)) &&& 1 = (b >>> (nI k &&& 31)) &&& 1 then 1 else 0)
def lkS (f : St) (n : Nat) (x g : Int32) : Int32 := alS (setS f x n) g 10
def prS (f : St) (n : Nat) (g : Int32) : Nat → Int32
  | 0 => -1
  | i + 1 => if f 10 (f 12 i).toNatClampNeg = 1 ∧ (prS f n g i = -1 ∨ lkS f n (prS f n g i) g < lkS f n (f 12 i) g) then f 12 i else prS f n g i
def nrS (f : St) (x : Nat) : Nat → Int32
  | 0 => -1
  | k + 1 => if k ≠ x ∧ f 3 k = 1 then (if nrS f x k = -1 ∨ ds f k x < nrS f x k then ds f k x else nrS f x k) else nrS f x k
def dkF (f : St) (k : Nat) : St := up2 f 3 k (if f 3 k = 2 then 2 else 0)
