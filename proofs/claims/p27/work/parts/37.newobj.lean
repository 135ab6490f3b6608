/-! the world with a new lantern, with a new float -/
/-- nothing behind the ends of the arrays -/
def xv (b : Nat) (f : St) : Prop := (∀ i, 24 ≤ i → f 22 i = -1) ∧ (∀ i, 8 ≤ i → f 23 i = -1) ∧ (∀ i, 8 ≤ i → f 12 i = -1) ∧ ∀ r, r < b → ∀ s, 10 ≤ s → f (30 + r) s = -1
def setF (f : St) (j : Nat) (v : Int32) : St := fun a i => if a = j then v else f a i
theorem ro_eq {ad ad' : Nat → Nat} {b m : Nat} {x : Int32} (hx : x = -1 ∨ ∃ k, k < m ∧ x = nI k) (hm : m ≤ 24) (h : ∀ k, k < m → ad' (b + k) = ad (b + k)) : ro ad b x = ro ad' b x := by
  rcases hx with rfl | ⟨k, hk, rfl⟩
  · rfl
  · rw [ro_s _ _ (by omega), ro_s _ _ (by omega), h k hk]
theorem gX_same {cI cL cR : ClassId} {ad ad' : Nat → Nat} {f f' : St} {n b q : Nat} {C : List Nat} (hx : xw n b q f C) (hv : xv b f) (ha : ∀ c, c ∈ C → ad' c = ad c) (h0 : ∀ j, j < 7 → ∀ k, k < n → f' j k = f j k) (h1 : ∀ j, j = 25 ∨ j = 8 ∨ j = 9 ∨ j = 10 ∨ j = 11 ∨ j = 24 → ∀ k, k < b → f' j k = f j k) (h2 : ∀ k, k < b → f' (30 + k) = f (30 + k)) (h3 : ∀ j, j = 7 ∨ j = 14 ∨ j = 13 ∨ j = 18 ∨ j = 15 ∨ j = 16 ∨ j = 19 ∨ j = 20 ∨ j = 22 ∨ j = 23 ∨ j = 12 ∨ j = 17 → f' j = f j) {c : Nat} (hc : c ∈ C) : gX cI cL cR ad f c = gX cI cL cR ad' f' c := by
  have hn := hx.1
  have hb := hx.2.1
  have hl : ∀ k, k < n → ad' (5 + k) = ad (5 + k) := fun k hk => ha _ (hx.l hk)
  have hr : ∀ k, k < b → ad' (29 + k) = ad (29 + k) := fun k hk => ha _ (hx.r hk)
  rcases gX_cases c with rfl | rfl | rfl | rfl | rfl | ⟨k, hk, rfl⟩ | ⟨k, hk, rfl⟩ | ⟨k, rfl⟩
  · rw [gX_0, gX_0, ha 1 (hx.c (by decide)), ha 2 (hx.c (by decide)), ha 3 (hx.c (by decide)), ha 4 (hx.c (by decide)), h3 7 (by decide), h3 14 (by decide), h3 13 (by decide), h3 18 (by decide), h3 15 (by decide), h3 16 (by decide), h3 19 (by decide), h3 20 (by decide)]
  · rw [gX_1, gX_1, h3 22 (by decide), show (fun i => ro ad 5 (f 22 i)) = (fun i => ro ad' 5 (f 22 i)) from funext fun i => ro_eq (m := n) ?_ hn hl]
    rcases Nat.lt_or_ge i n with z | z
    · exact Or.inr ⟨i, z, hx.2.2.2.2.2.2.2.1 i z⟩
    · rcases Nat.lt_or_ge i 24 with y | y
      · exact Or.inl (hx.2.2.2.2.2.2.2.2.1 i z y)
      · exact Or.inl (hv.1 i y)
  · rw [gX_2, gX_2, h3 23 (by decide), show (fun i => ro ad 29 (f 23 i)) = (fun i => ro ad' 29 (f 23 i)) from funext fun i => ro_eq (m := b) ?_ (by omega) hr]
    rcases Nat.lt_or_ge i b with z | z
    · exact Or.inr ⟨i, z, hx.2.2.2.2.2.2.2.2.2.1 i z⟩
    · rcases Nat.lt_or_ge i 8 with y | y
      · exact Or.inl (hx.2.2.2.2.2.2.2.2.2.2.1 i z y)
      · exact Or.inl (hv.2.1 i y)
  · rw [gX_3, gX_3, h3 12 (by decide), show (fun i => ro ad 29 (f 12 i)) = (fun i => ro ad' 29 (f 12 i)) from funext fun i => ro_eq (m := b) ?_ (by omega) hr]
    rcases Nat.lt_or_ge i q with z | z
    · exact Or.inr (hx.o i z)
    · rcases Nat.lt_or_ge i 8 with y | y
      · exact Or.inl (hx.2.2.2.2.2.2.2.2.2.2.2.2.1 i z y)
      · exact Or.inl (hv.2.2.1 i y)
  · rw [gX_4, gX_4, h3 17 (by decide)]
  · have hk2 : k < n := by have := (hx.2.2.2.1 _).mp hc; omega
    rw [gX_l _ _ _ _ _ hk, gX_l _ _ _ _ _ hk, h0 0 (by decide) k hk2, h0 1 (by decide) k hk2, h0 2 (by decide) k hk2, h0 3 (by decide) k hk2, h0 4 (by decide) k hk2, h0 5 (by decide) k hk2, h0 6 (by decide) k hk2, ro_eq (ad := ad) (ad' := ad') (b := 29) (m := b) (hx.h k hk2) (by omega) hr]
  · have hk2 : k < b := by have := (hx.2.2.2.1 _).mp hc; omega
    rw [gX_r _ _ _ _ _ hk, gX_r _ _ _ _ _ hk, h1 25 (by decide) k hk2, h1 8 (by decide) k hk2, h1 9 (by decide) k hk2, h1 10 (by decide) k hk2, h1 11 (by decide) k hk2, h1 24 (by decide) k hk2, ha _ (hx.s hk2)]
  · have hk2 : k < b := by have := (hx.2.2.2.1 _).mp hc; omega
    rw [gX_s, gX_s, h2 k hk2, show (fun i => ro ad 5 (f (30 + k) i)) = (fun i => ro ad' 5 (f (30 + k) i)) from funext fun i => ro_eq (m := n) ?_ hn hl]
    rcases Nat.lt_or_ge i 10 with z | z
    · exact hx.sl k i hk2 z
    · exact Or.inl (hv.2.2.2 k hk2 i z)
theorem wX_app {cI cL cR : ClassId} {ad ad' : Nat → Nat} {f f' : St} {C C2 : List Nat} {ws : va_W} (hC : ∀ c, c ∈ C → ad c = ad' c ∧ gX cI cL cR ad f c = gX cI cL cR ad' f' c) (h2 : ws = wX cI cL cR ad' C2 f') : wX cI cL cR ad C f ++ ws = wX cI cL cR ad' (C ++ C2) f' := by
  subst h2
  unfold wX
  rw [List.map_append]
  congr 1
  exact List.map_congr_left fun c hc => by rw [(hC c hc).1, (hC c hc).2]
def lnF (f : St) (n : Nat) (a b g : Int32) : St := up2 (up2 (up2 (up2 (up2 (up2 (up2 f 0 n a) 1 n b) 2 n g) 3 n 0) 4 n (20 * g)) 5 n (-1)) 6 n (-1)
def mkF (f : St) (n : Nat) (a b g : Int32) : St := up2 (up2 (lnF f n a b g) 22 n (nI n)) 7 0 (nI (n + 1))
def rfF (f : St) (b : Nat) (sp be : Int32) : St := setF (up2 (up2 (up2 (up2 (up2 (up2 f 25 b (nI b)) 8 b sp) 9 b be) 10 b 0) 11 b (-1)) 24 b (-1)) (30 + b) (-1)
def bdF (f : St) (b : Nat) (sp be : Int32) : St := up2 (up2 (rfF f b sp be) 23 b (nI b)) 14 0 (nI (b + 1))
theorem wX_ln {cI cL cR : ClassId} {ad : Nat → Nat} {f : St} {n b q q1 : Nat} {C : List Nat} {x y z : Int32} (hx : xw n b q f C) (hv : xv b f) (hn : n < 24) : wX cI cL cR ad C f ++ [(q1, .inr (0, [.int x, .int y, .int z, .int 0, .int (20 * z), .null, .int (-1)]))] = wX cI cL cR (fun c => if c = 5 + n then q1 else ad c) (C ++ [5 + n]) (lnF f n x y z) := by
  have hb := hx.2.1
  have hna : ∀ c, c ∈ C → ¬ c = 5 + n := fun c hc e => by have := (hx.2.2.2.1 c).mp hc; omega
  refine wX_app (fun c hc => ⟨(if_neg (hna c hc)).symm, gX_same hx hv (fun c hc => if_neg (hna c hc)) (fun j hj k hk => ?_) (fun j hj k hk => ?_) (fun k hk => ?_) (fun j hj => ?_) hc⟩) ?_
  · unfold lnF up2
    simp [show ¬ k = n by omega]
  · unfold lnF
    rw [up2_fld _ _ _ (by omega), up2_fld _ _ _ (by omega), up2_fld _ _ _ (by omega), up2_fld _ _ _ (by omega), up2_fld _ _ _ (by omega), up2_fld _ _ _ (by omega), up2_fld _ _ _ (by omega)]
  · unfold lnF
    rw [up2_fld _ _ _ (by omega), up2_fld _ _ _ (by omega), up2_fld _ _ _ (by omega), up2_fld _ _ _ (by omega), up2_fld _ _ _ (by omega), up2_fld _ _ _ (by omega), up2_fld _ _ _ (by omega)]
  · unfold lnF
    rw [up2_fld _ _ _ (by omega), up2_fld _ _ _ (by omega), up2_fld _ _ _ (by omega), up2_fld _ _ _ (by omega), up2_fld _ _ _ (by omega), up2_fld _ _ _ (by omega), up2_fld _ _ _ (by omega)]
  · unfold wX
    rw [List.map_singleton, gX_l _ _ _ _ _ hn]
    simp [lnF, up2, ro_n, va_rf]
theorem wX_rf {cI cL cR : ClassId} {ad : Nat → Nat} {f : St} {n b q q1 q2 : Nat} {C : List Nat} {y z : Int32} (hx : xw n b q f C) (hv : xv b f) (hb : b < 8) : wX cI cL cR ad C f ++ [(q1, .inr (1, [.int (nI b), .int y, .int z, .ref q2, .int 0, .int (-1), .int (-1)])), (q2, .inl (cL, 10, .inr (.inr (.inr (.inr (fun _ => none))))))] = wX cI cL cR (fun c => if c = 29 + b then q1 else if c = 37 + b then q2 else ad c) (C ++ [29 + b, 37 + b]) (rfF f b y z) := by
  have hn := hx.1
  have hna : ∀ c, c ∈ C → ¬ c = 29 + b := fun c hc e => by have := (hx.2.2.2.1 c).mp hc; omega
  have hnb : ∀ c, c ∈ C → ¬ c = 37 + b := fun c hc e => by have := (hx.2.2.2.1 c).mp hc; omega
  have hne : ∀ c, c ∈ C → (if c = 29 + b then q1 else if c = 37 + b then q2 else ad c) = ad c := fun c hc => by rw [if_neg (hna c hc), if_neg (hnb c hc)]
  refine wX_app (fun c hc => ⟨(hne c hc).symm, gX_same hx hv hne (fun j hj k hk => ?_) (fun j hj k hk => ?_) (fun k hk => ?_) (fun j hj => ?_) hc⟩) ?_
  · unfold rfF setF
    rw [if_neg (by omega), up2_fld _ _ _ (by omega), up2_fld _ _ _ (by omega), up2_fld _ _ _ (by omega), up2_fld _ _ _ (by omega), up2_fld _ _ _ (by omega), up2_fld _ _ _ (by omega)]
  · unfold rfF setF up2
    simp [show ¬ k = b by omega]
    intro e; omega
  · funext i
    unfold rfF setF
    rw [if_neg (by omega), up2_fld _ _ _ (by omega), up2_fld _ _ _ (by omega), up2_fld _ _ _ (by omega), up2_fld _ _ _ (by omega), up2_fld _ _ _ (by omega), up2_fld _ _ _ (by omega)]
  · funext i
    unfold rfF setF
    rw [if_neg (by omega), up2_fld _ _ _ (by omega), up2_fld _ _ _ (by omega), up2_fld _ _ _ (by omega), up2_fld _ _ _ (by omega), up2_fld _ _ _ (by omega), up2_fld _ _ _ (by omega)]
  · unfold wX
    rw [List.map_cons, List.map_singleton, gX_r _ _ _ _ _ hb, gX_s]
    have e1 : ¬ 37 + b = 29 + b := by omega
    have e2 : (fun i => ro (fun c => if c = 29 + b then q1 else if c = 37 + b then q2 else ad c) 5 (rfF f b y z (30 + b) i)) = fun _ => none := by
      funext i; simp [rfF, setF, ro_n]
    rw [e2]
    simp only [if_neg e1, reduceIte]
    have k25 : ∀ j, j < 30 → ∀ i, rfF f b y z j i = up2 (up2 (up2 (up2 (up2 (up2 f 25 b (nI b)) 8 b y) 9 b z) 10 b 0) 11 b (-1)) 24 b (-1) j i := fun j hj i => by unfold rfF setF; rw [if_neg (by omega)]
    rw [k25 25 (by decide), k25 8 (by decide), k25 9 (by decide), k25 10 (by decide), k25 11 (by decide), k25 24 (by decide)]
    simp [up2]
theorem xw.mk {n b q : Nat} {f : St} {C : List Nat} (h : xw n b q f C) (hn : n < 24) (x y z : Int32) : xw (n + 1) b q (mkF f n x y z) (C ++ [5 + n]) := by
  have hb := h.2.1
  have k22 : ∀ i, mkF f n x y z 22 i = if i = n then nI n else f 22 i := fun i => rfl
  have k5 : ∀ i, mkF f n x y z 5 i = if i = n then -1 else f 5 i := fun i => rfl
  refine ⟨by omega, h.2.1, h.2.2.1, fun c => ?_, rfl, h.2.2.2.2.2.1, h.2.2.2.2.2.2.1, fun i hi => ?_, fun i h1 h2 => ?_, h.2.2.2.2.2.2.2.2.2.1, h.2.2.2.2.2.2.2.2.2.2.1, h.o, h.2.2.2.2.2.2.2.2.2.2.2.2.1, fun k hk => ?_, fun r s h1 h2 => ?_, h.nr⟩
  · rw [List.mem_append, List.mem_singleton, h.2.2.2.1 c]; omega
  · rw [k22]
    by_cases e : i = n
    · rw [if_pos e, e]
    · rw [if_neg e]; exact h.2.2.2.2.2.2.2.1 i (by omega)
  · rw [k22, if_neg (by omega)]; exact h.2.2.2.2.2.2.2.2.1 i (by omega) h2
  · rw [k5]
    by_cases e : k = n
    · rw [if_pos e]; exact Or.inl rfl
    · rw [if_neg e]; exact h.h k (by omega)
  · have e : mkF f n x y z (30 + r) = f (30 + r) := by
      unfold mkF lnF
      rw [up2_fld _ _ _ (by omega), up2_fld _ _ _ (by omega), up2_fld _ _ _ (by omega), up2_fld _ _ _ (by omega), up2_fld _ _ _ (by omega), up2_fld _ _ _ (by omega), up2_fld _ _ _ (by omega), up2_fld _ _ _ (by omega), up2_fld _ _ _ (by omega)]
    rw [e]
    exact (h.sl r s h1 h2).imp id fun ⟨k, hk, z⟩ => ⟨k, by omega, z⟩
theorem bdF_k {f : St} {b : Nat} {x y : Int32} {j : Nat} (hj : j < 30) (hd : j ≠ 25 ∧ j ≠ 8 ∧ j ≠ 9 ∧ j ≠ 10 ∧ j ≠ 11 ∧ j ≠ 24 ∧ j ≠ 23 ∧ j ≠ 14) : bdF f b x y j = f j := by
  unfold bdF rfF
  rw [up2_fld _ _ _ (by omega), up2_fld _ _ _ (by omega)]
  funext i
  unfold setF
  rw [if_neg (by omega), up2_fld _ _ _ (by omega), up2_fld _ _ _ (by omega), up2_fld _ _ _ (by omega), up2_fld _ _ _ (by omega), up2_fld _ _ _ (by omega), up2_fld _ _ _ (by omega)]
theorem xw.bd {n b q : Nat} {f : St} {C : List Nat} (h : xw n b q f C) (hb : b < 8) (x y : Int32) : xw n (b + 1) q (bdF f b x y) (C ++ [29 + b, 37 + b]) := by
  have hn := h.1
  have k23 : ∀ i, bdF f b x y 23 i = if i = b then nI b else f 23 i := fun i => by
    unfold bdF
    rw [up2_fld _ _ _ (by decide)]
    by_cases e : i = b
    · rw [if_pos e, e, up2_self]
    · rw [if_neg e, up2_ne _ _ _ e]
      unfold rfF setF
      rw [if_neg (by omega)]; rfl
  have k25 : ∀ i, bdF f b x y 25 i = if i = b then nI b else f 25 i := fun i => by
    unfold bdF rfF
    rw [up2_fld _ _ _ (by decide), up2_fld _ _ _ (by decide)]
    unfold setF
    rw [if_neg (by omega)]; rfl
  refine ⟨h.1, by omega, h.2.2.1, fun c => ?_, ?_, ?_, ?_, fun i hi => ?_, fun i h1 h2 => ?_, fun i hi => ?_, fun i h1 h2 => ?_, fun i hi => ?_, fun i h1 h2 => ?_, fun k hk => ?_, fun r s h1 h2 => ?_, fun r hr => ?_⟩
  · rw [List.mem_append, List.mem_cons, List.mem_singleton, h.2.2.2.1 c]; omega
  · rw [bdF_k (by decide) (by decide)]; exact h.2.2.2.2.1
  · exact up2_self _ _ _ _
  · rw [bdF_k (by decide) (by decide)]; exact h.2.2.2.2.2.2.1
  · rw [bdF_k (by decide) (by decide)]; exact h.2.2.2.2.2.2.2.1 i hi
  · rw [bdF_k (by decide) (by decide)]; exact h.2.2.2.2.2.2.2.2.1 i h1 h2
  · rw [k23]
    by_cases e : i = b
    · rw [if_pos e, e]
    · rw [if_neg e]; exact h.2.2.2.2.2.2.2.2.2.1 i (by omega)
  · rw [k23, if_neg (by omega)]; exact h.2.2.2.2.2.2.2.2.2.2.1 i (by omega) h2
  · rw [bdF_k (by decide) (by decide)]; exact (h.o i hi).imp fun r z => ⟨by omega, z.2⟩
  · rw [bdF_k (by decide) (by decide)]; exact h.2.2.2.2.2.2.2.2.2.2.2.2.1 i h1 h2
  · rw [bdF_k (by decide) (by decide)]; exact (h.h k hk).imp id fun ⟨r, hr, z⟩ => ⟨r, by omega, z⟩
  · unfold bdF rfF
    rw [up2_fld _ _ _ (by omega), up2_fld _ _ _ (by omega)]
    unfold setF
    by_cases e : r = b
    · rw [if_pos (by omega)]; exact Or.inl rfl
    · rw [if_neg (by omega), up2_fld _ _ _ (by omega), up2_fld _ _ _ (by omega), up2_fld _ _ _ (by omega), up2_fld _ _ _ (by omega), up2_fld _ _ _ (by omega), up2_fld _ _ _ (by omega)]
      exact h.sl r s (by omega) h2
  · rw [k25]
    by_cases e : r = b
    · rw [if_pos e, e]
    · rw [if_neg e]; exact h.nr r (by omega)
