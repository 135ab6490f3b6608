section XW
/-- a reference as a number: -1 is null -/
def ro (ad : Nat → Nat) (b : Nat) (x : Int32) : Option Nat := if x = -1 then none else some (ad (b + x.toNatClampNeg))
theorem ro_n (ad : Nat → Nat) (b : Nat) : ro ad b (-1) = none := rfl
theorem nI_nm1 {k : Nat} (h : k < 2 ^ 31) : ¬ nI k = -1 := fun z => by
  have h1 := congrArg Int32.toInt z
  rw [nI_toInt h, show (-1 : Int32).toInt = -1 from rfl] at h1
  omega
theorem ro_s (ad : Nat → Nat) (b : Nat) {k : Nat} (h : k < 2 ^ 31) : ro ad b (nI k) = some (ad (b + k)) := by unfold ro; rw [if_neg (nI_nm1 h), nI_clamp h]
/-- the cells: 0 the object, 1 to 4 its arrays, 5 + k the lantern k, 29 + r the float r, 37 + r its slots -/
def gX (cI cL cR : ClassId) (ad : Nat → Nat) (f : St) (c : Nat) : va_E :=
  if c = 0 then .inr (2, [.ref (ad 1), .ref (ad 2), .ref (ad 3), .ref (ad 4), .int (f 7 0), .int (f 14 0), .int (f 13 0), .int (f 18 0), .int (f 15 0), .int (f 16 0), .int (f 19 0), .int (f 20 0)]) else if c = 1 then .inl (cL, 24, .inr (.inr (.inr (.inr (fun i => ro ad 5 (f 22 i)))))) else if c = 2 then .inl (cR, 8, .inr (.inr (.inr (.inr (fun i => ro ad 29 (f 23 i)))))) else if c = 3 then .inl (cR, 8, .inr (.inr (.inr (.inr (fun i => ro ad 29 (f 12 i)))))) else if c = 4 then .inl (cI, 401, .inl (f 17)) else
  if c < 29 then .inr (0, [.int (f 0 (c - 5)), .int (f 1 (c - 5)), .int (f 2 (c - 5)), .int (f 3 (c - 5)), .int (f 4 (c - 5)), va_rf (ro ad 29 (f 5 (c - 5))), .int (f 6 (c - 5))]) else if c < 37 then .inr (1, [.int (f 25 (c - 29)), .int (f 8 (c - 29)), .int (f 9 (c - 29)), .ref (ad (37 + ((c - 29)))), .int (f 10 (c - 29)), .int (f 11 (c - 29)), .int (f 24 (c - 29))]) else .inl (cL, 10, .inr (.inr (.inr (.inr (fun i => ro ad 5 (f (30 + ((c - 37))) i))))))
def wX (cI cL cR : ClassId) (ad : Nat → Nat) (C : List Nat) (f : St) : va_W := C.map (fun c => (ad c, gX cI cL cR ad f c))
theorem gX_0 (cI cL cR : ClassId) (ad : Nat → Nat) (f : St) : gX cI cL cR ad f 0 = .inr (2, [.ref (ad 1), .ref (ad 2), .ref (ad 3), .ref (ad 4), .int (f 7 0), .int (f 14 0), .int (f 13 0), .int (f 18 0), .int (f 15 0), .int (f 16 0), .int (f 19 0), .int (f 20 0)]) := rfl
theorem gX_1 (cI cL cR : ClassId) (ad : Nat → Nat) (f : St) : gX cI cL cR ad f 1 = .inl (cL, 24, .inr (.inr (.inr (.inr (fun i => ro ad 5 (f 22 i)))))) := rfl
theorem gX_2 (cI cL cR : ClassId) (ad : Nat → Nat) (f : St) : gX cI cL cR ad f 2 = .inl (cR, 8, .inr (.inr (.inr (.inr (fun i => ro ad 29 (f 23 i)))))) := rfl
theorem gX_3 (cI cL cR : ClassId) (ad : Nat → Nat) (f : St) : gX cI cL cR ad f 3 = .inl (cR, 8, .inr (.inr (.inr (.inr (fun i => ro ad 29 (f 12 i)))))) := rfl
theorem gX_4 (cI cL cR : ClassId) (ad : Nat → Nat) (f : St) : gX cI cL cR ad f 4 = .inl (cI, 401, .inl (f 17)) := rfl
theorem gX_l (cI cL cR : ClassId) (ad : Nat → Nat) (f : St) {k : Nat} (h : k < 24) : gX cI cL cR ad f (5 + k) = .inr (0, [.int (f 0 k), .int (f 1 k), .int (f 2 k), .int (f 3 k), .int (f 4 k), va_rf (ro ad 29 (f 5 k)), .int (f 6 k)]) := by
  unfold gX
  rw [if_neg (by omega), if_neg (by omega), if_neg (by omega), if_neg (by omega), if_neg (by omega), if_pos (by omega), Nat.add_sub_cancel_left]
theorem gX_r (cI cL cR : ClassId) (ad : Nat → Nat) (f : St) {k : Nat} (h : k < 8) : gX cI cL cR ad f (29 + k) = .inr (1, [.int (f 25 k), .int (f 8 k), .int (f 9 k), .ref (ad (37 + (k))), .int (f 10 k), .int (f 11 k), .int (f 24 k)]) := by
  unfold gX
  rw [if_neg (by omega), if_neg (by omega), if_neg (by omega), if_neg (by omega), if_neg (by omega), if_neg (by omega), if_pos (by omega), Nat.add_sub_cancel_left]
theorem gX_s (cI cL cR : ClassId) (ad : Nat → Nat) (f : St) (k : Nat) : gX cI cL cR ad f (37 + k) = .inl (cL, 10, .inr (.inr (.inr (.inr (fun i => ro ad 5 (f (30 + (k)) i)))))) := by
  unfold gX
  rw [if_neg (by omega), if_neg (by omega), if_neg (by omega), if_neg (by omega), if_neg (by omega), if_neg (by omega), if_neg (by omega), Nat.add_sub_cancel_left]
theorem gX_cases (c : Nat) : c = 0 ∨ c = 1 ∨ c = 2 ∨ c = 3 ∨ c = 4 ∨ (∃ k, k < 24 ∧ c = 5 + k) ∨ (∃ k, k < 8 ∧ c = 29 + k) ∨ ∃ k, c = 37 + k := by
  by_cases h1 : c < 5
  · omega
  · by_cases h2 : c < 29
    · exact Or.inr (Or.inr (Or.inr (Or.inr (Or.inr (Or.inl ⟨c - 5, by omega, by omega⟩)))))
    · by_cases h3 : c < 37
      · exact Or.inr (Or.inr (Or.inr (Or.inr (Or.inr (Or.inr (Or.inl ⟨c - 29, by omega, by omega⟩))))))
      · exact Or.inr (Or.inr (Or.inr (Or.inr (Or.inr (Or.inr (Or.inr ⟨c - 37, by omega⟩))))))
theorem map_at {α β : Type} (g : α → β) {C : List α} {q : Nat} {c : α} (hq : C[q]? = some c) : (C.map g)[q]? = some (g c) := by rw [List.getElem?_map, hq]; rfl
theorem map_set {ad : Nat → Nat} {C : List Nat} {g g' : Nat → va_E} {A : Nat → Prop} {c q : Nat} {e : va_E} (hD : va_D A (C.map (fun c => (ad c, g c)))) (hq : C[q]? = some c) (hg : ∀ x, g' x = if x = c then e else g x) : (C.map (fun c => (ad c, g c))).set q (ad c, e) = C.map (fun c => (ad c, g' c)) := by
  have hl := (List.getElem?_eq_some_iff.mp hq).1
  apply List.ext_getElem?
  intro j
  by_cases hj : j = q
  · subst hj
    rw [List.getElem?_set_self (by rw [List.length_map]; exact hl), map_at _ hq, hg c, if_pos rfl]
  · rw [List.getElem?_set_ne (Ne.symm hj)]
    cases hb : C[j]? with
    | none => rw [List.getElem?_map, List.getElem?_map, hb]; rfl
    | some b =>
      have hbc : b ≠ c := by
        intro z
        subst z
        exact hj (hD.1 j q _ _ (map_at (fun c => (ad c, g c)) hb) (map_at (fun c => (ad c, g c)) hq) rfl)
      rw [map_at _ hb, map_at _ hb, hg b, if_neg hbc]
theorem wX_at {cI cL cR : ClassId} {ad : Nat → Nat} {C : List Nat} {f : St} {c : Nat} (h : c ∈ C) : ∃ q : Nat, C[q]? = some c ∧ (wX cI cL cR ad C f)[q]? = some (ad c, gX cI cL cR ad f c) := by
  obtain ⟨q, hq⟩ := List.getElem?_of_mem h
  exact ⟨q, hq, map_at (fun c => (ad c, gX cI cL cR ad f c)) hq⟩
theorem wX_set {cI cL cR : ClassId} {ad : Nat → Nat} {C : List Nat} {f f' : St} {A : Nat → Prop} {c q : Nat} {e : va_E} (hD : va_D A (wX cI cL cR ad C f)) (hq : C[q]? = some c) (hg : ∀ x, gX cI cL cR ad f' x = if x = c then e else gX cI cL cR ad f x) : (wX cI cL cR ad C f).set q (ad c, e) = wX cI cL cR ad C f' := map_set (g := gX cI cL cR ad f) (g' := gX cI cL cR ad f') hD hq hg
variable {p : Program} {l : Launch} {e : Env} {R : Room} {s : State} {m : MethodId} {args : Array Value} {below : List Frame} {meth : Method} {c : Code} {Q : State → Prop} {D : va_G} {cI cL cR : ClassId} {A : Nat → Prop} {n : Nat} {cc : ByteArray} {own : String} {Ts : List Cond} {k w pc : Nat} {lv : List (Nat × Value)} {st : List Value} {ad : Nat → Nat} {f : St} {C : List Nat}

theorem gU_f4 {v : Int32}  (x : Nat) : gX cI cL cR ad (up2 f 7 0 v) x = if x = 0 then .inr (2, [.ref (ad 1), .ref (ad 2), .ref (ad 3), .ref (ad 4), .int v, .int (f 14 0), .int (f 13 0), .int (f 18 0), .int (f 15 0), .int (f 16 0), .int (f 19 0), .int (f 20 0)]) else gX cI cL cR ad f x := by
  have h30 : ∀ (a i : Nat), a < 30 → ¬ (30 + i = a) := fun a i h z => by omega
  have h31 : ∀ (a i : Nat), a < 30 → ¬ (a = 30 + i) := fun a i h z => by omega
  rcases gX_cases x with rfl | rfl | rfl | rfl | rfl | ⟨j, hj, rfl⟩ | ⟨j, hj, rfl⟩ | ⟨j, rfl⟩
  · rw [if_pos rfl, gX_0]; try simp [up2]
  · rw [if_neg (by omega), gX_1, gX_1]; try simp [up2, h30, h31]
  · rw [if_neg (by omega), gX_2, gX_2]; try simp [up2, h30, h31]
  · rw [if_neg (by omega), gX_3, gX_3]; try simp [up2, h30, h31]
  · rw [if_neg (by omega), gX_4, gX_4, up2_fld _ _ _ (by omega)]
  · rw [if_neg (by omega), gX_l _ _ _ _ _ hj, gX_l _ _ _ _ _ hj]; try simp [up2, h30, h31]
  · rw [if_neg (by omega), gX_r _ _ _ _ _ hj, gX_r _ _ _ _ _ hj]; try simp [up2, h30, h31]
  · rw [if_neg (by omega), gX_s, gX_s]; try simp [up2, h30, h31]
theorem gU_f5 {v : Int32}  (x : Nat) : gX cI cL cR ad (up2 f 14 0 v) x = if x = 0 then .inr (2, [.ref (ad 1), .ref (ad 2), .ref (ad 3), .ref (ad 4), .int (f 7 0), .int v, .int (f 13 0), .int (f 18 0), .int (f 15 0), .int (f 16 0), .int (f 19 0), .int (f 20 0)]) else gX cI cL cR ad f x := by
  have h30 : ∀ (a i : Nat), a < 30 → ¬ (30 + i = a) := fun a i h z => by omega
  have h31 : ∀ (a i : Nat), a < 30 → ¬ (a = 30 + i) := fun a i h z => by omega
  rcases gX_cases x with rfl | rfl | rfl | rfl | rfl | ⟨j, hj, rfl⟩ | ⟨j, hj, rfl⟩ | ⟨j, rfl⟩
  · rw [if_pos rfl, gX_0]; try simp [up2]
  · rw [if_neg (by omega), gX_1, gX_1]; try simp [up2, h30, h31]
  · rw [if_neg (by omega), gX_2, gX_2]; try simp [up2, h30, h31]
  · rw [if_neg (by omega), gX_3, gX_3]; try simp [up2, h30, h31]
  · rw [if_neg (by omega), gX_4, gX_4, up2_fld _ _ _ (by omega)]
  · rw [if_neg (by omega), gX_l _ _ _ _ _ hj, gX_l _ _ _ _ _ hj]; try simp [up2, h30, h31]
  · rw [if_neg (by omega), gX_r _ _ _ _ _ hj, gX_r _ _ _ _ _ hj]; try simp [up2, h30, h31]
  · rw [if_neg (by omega), gX_s, gX_s]; try simp [up2, h30, h31]
theorem gU_f6 {v : Int32}  (x : Nat) : gX cI cL cR ad (up2 f 13 0 v) x = if x = 0 then .inr (2, [.ref (ad 1), .ref (ad 2), .ref (ad 3), .ref (ad 4), .int (f 7 0), .int (f 14 0), .int v, .int (f 18 0), .int (f 15 0), .int (f 16 0), .int (f 19 0), .int (f 20 0)]) else gX cI cL cR ad f x := by
  have h30 : ∀ (a i : Nat), a < 30 → ¬ (30 + i = a) := fun a i h z => by omega
  have h31 : ∀ (a i : Nat), a < 30 → ¬ (a = 30 + i) := fun a i h z => by omega
  rcases gX_cases x with rfl | rfl | rfl | rfl | rfl | ⟨j, hj, rfl⟩ | ⟨j, hj, rfl⟩ | ⟨j, rfl⟩
  · rw [if_pos rfl, gX_0]; try simp [up2]
  · rw [if_neg (by omega), gX_1, gX_1]; try simp [up2, h30, h31]
  · rw [if_neg (by omega), gX_2, gX_2]; try simp [up2, h30, h31]
  · rw [if_neg (by omega), gX_3, gX_3]; try simp [up2, h30, h31]
  · rw [if_neg (by omega), gX_4, gX_4, up2_fld _ _ _ (by omega)]
  · rw [if_neg (by omega), gX_l _ _ _ _ _ hj, gX_l _ _ _ _ _ hj]; try simp [up2, h30, h31]
  · rw [if_neg (by omega), gX_r _ _ _ _ _ hj, gX_r _ _ _ _ _ hj]; try simp [up2, h30, h31]
  · rw [if_neg (by omega), gX_s, gX_s]; try simp [up2, h30, h31]
theorem gU_f7 {v : Int32}  (x : Nat) : gX cI cL cR ad (up2 f 18 0 v) x = if x = 0 then .inr (2, [.ref (ad 1), .ref (ad 2), .ref (ad 3), .ref (ad 4), .int (f 7 0), .int (f 14 0), .int (f 13 0), .int v, .int (f 15 0), .int (f 16 0), .int (f 19 0), .int (f 20 0)]) else gX cI cL cR ad f x := by
  have h30 : ∀ (a i : Nat), a < 30 → ¬ (30 + i = a) := fun a i h z => by omega
  have h31 : ∀ (a i : Nat), a < 30 → ¬ (a = 30 + i) := fun a i h z => by omega
  rcases gX_cases x with rfl | rfl | rfl | rfl | rfl | ⟨j, hj, rfl⟩ | ⟨j, hj, rfl⟩ | ⟨j, rfl⟩
  · rw [if_pos rfl, gX_0]; try simp [up2]
  · rw [if_neg (by omega), gX_1, gX_1]; try simp [up2, h30, h31]
  · rw [if_neg (by omega), gX_2, gX_2]; try simp [up2, h30, h31]
  · rw [if_neg (by omega), gX_3, gX_3]; try simp [up2, h30, h31]
  · rw [if_neg (by omega), gX_4, gX_4, up2_fld _ _ _ (by omega)]
  · rw [if_neg (by omega), gX_l _ _ _ _ _ hj, gX_l _ _ _ _ _ hj]; try simp [up2, h30, h31]
  · rw [if_neg (by omega), gX_r _ _ _ _ _ hj, gX_r _ _ _ _ _ hj]; try simp [up2, h30, h31]
  · rw [if_neg (by omega), gX_s, gX_s]; try simp [up2, h30, h31]
theorem gU_f8 {v : Int32}  (x : Nat) : gX cI cL cR ad (up2 f 15 0 v) x = if x = 0 then .inr (2, [.ref (ad 1), .ref (ad 2), .ref (ad 3), .ref (ad 4), .int (f 7 0), .int (f 14 0), .int (f 13 0), .int (f 18 0), .int v, .int (f 16 0), .int (f 19 0), .int (f 20 0)]) else gX cI cL cR ad f x := by
  have h30 : ∀ (a i : Nat), a < 30 → ¬ (30 + i = a) := fun a i h z => by omega
  have h31 : ∀ (a i : Nat), a < 30 → ¬ (a = 30 + i) := fun a i h z => by omega
  rcases gX_cases x with rfl | rfl | rfl | rfl | rfl | ⟨j, hj, rfl⟩ | ⟨j, hj, rfl⟩ | ⟨j, rfl⟩
  · rw [if_pos rfl, gX_0]; try simp [up2]
  · rw [if_neg (by omega), gX_1, gX_1]; try simp [up2, h30, h31]
  · rw [if_neg (by omega), gX_2, gX_2]; try simp [up2, h30, h31]
  · rw [if_neg (by omega), gX_3, gX_3]; try simp [up2, h30, h31]
  · rw [if_neg (by omega), gX_4, gX_4, up2_fld _ _ _ (by omega)]
  · rw [if_neg (by omega), gX_l _ _ _ _ _ hj, gX_l _ _ _ _ _ hj]; try simp [up2, h30, h31]
  · rw [if_neg (by omega), gX_r _ _ _ _ _ hj, gX_r _ _ _ _ _ hj]; try simp [up2, h30, h31]
  · rw [if_neg (by omega), gX_s, gX_s]; try simp [up2, h30, h31]
theorem gU_f9 {v : Int32}  (x : Nat) : gX cI cL cR ad (up2 f 16 0 v) x = if x = 0 then .inr (2, [.ref (ad 1), .ref (ad 2), .ref (ad 3), .ref (ad 4), .int (f 7 0), .int (f 14 0), .int (f 13 0), .int (f 18 0), .int (f 15 0), .int v, .int (f 19 0), .int (f 20 0)]) else gX cI cL cR ad f x := by
  have h30 : ∀ (a i : Nat), a < 30 → ¬ (30 + i = a) := fun a i h z => by omega
  have h31 : ∀ (a i : Nat), a < 30 → ¬ (a = 30 + i) := fun a i h z => by omega
  rcases gX_cases x with rfl | rfl | rfl | rfl | rfl | ⟨j, hj, rfl⟩ | ⟨j, hj, rfl⟩ | ⟨j, rfl⟩
  · rw [if_pos rfl, gX_0]; try simp [up2]
  · rw [if_neg (by omega), gX_1, gX_1]; try simp [up2, h30, h31]
  · rw [if_neg (by omega), gX_2, gX_2]; try simp [up2, h30, h31]
  · rw [if_neg (by omega), gX_3, gX_3]; try simp [up2, h30, h31]
  · rw [if_neg (by omega), gX_4, gX_4, up2_fld _ _ _ (by omega)]
  · rw [if_neg (by omega), gX_l _ _ _ _ _ hj, gX_l _ _ _ _ _ hj]; try simp [up2, h30, h31]
  · rw [if_neg (by omega), gX_r _ _ _ _ _ hj, gX_r _ _ _ _ _ hj]; try simp [up2, h30, h31]
  · rw [if_neg (by omega), gX_s, gX_s]; try simp [up2, h30, h31]
theorem gU_f10 {v : Int32}  (x : Nat) : gX cI cL cR ad (up2 f 19 0 v) x = if x = 0 then .inr (2, [.ref (ad 1), .ref (ad 2), .ref (ad 3), .ref (ad 4), .int (f 7 0), .int (f 14 0), .int (f 13 0), .int (f 18 0), .int (f 15 0), .int (f 16 0), .int v, .int (f 20 0)]) else gX cI cL cR ad f x := by
  have h30 : ∀ (a i : Nat), a < 30 → ¬ (30 + i = a) := fun a i h z => by omega
  have h31 : ∀ (a i : Nat), a < 30 → ¬ (a = 30 + i) := fun a i h z => by omega
  rcases gX_cases x with rfl | rfl | rfl | rfl | rfl | ⟨j, hj, rfl⟩ | ⟨j, hj, rfl⟩ | ⟨j, rfl⟩
  · rw [if_pos rfl, gX_0]; try simp [up2]
  · rw [if_neg (by omega), gX_1, gX_1]; try simp [up2, h30, h31]
  · rw [if_neg (by omega), gX_2, gX_2]; try simp [up2, h30, h31]
  · rw [if_neg (by omega), gX_3, gX_3]; try simp [up2, h30, h31]
  · rw [if_neg (by omega), gX_4, gX_4, up2_fld _ _ _ (by omega)]
  · rw [if_neg (by omega), gX_l _ _ _ _ _ hj, gX_l _ _ _ _ _ hj]; try simp [up2, h30, h31]
  · rw [if_neg (by omega), gX_r _ _ _ _ _ hj, gX_r _ _ _ _ _ hj]; try simp [up2, h30, h31]
  · rw [if_neg (by omega), gX_s, gX_s]; try simp [up2, h30, h31]
theorem gU_f11 {v : Int32}  (x : Nat) : gX cI cL cR ad (up2 f 20 0 v) x = if x = 0 then .inr (2, [.ref (ad 1), .ref (ad 2), .ref (ad 3), .ref (ad 4), .int (f 7 0), .int (f 14 0), .int (f 13 0), .int (f 18 0), .int (f 15 0), .int (f 16 0), .int (f 19 0), .int v]) else gX cI cL cR ad f x := by
  have h30 : ∀ (a i : Nat), a < 30 → ¬ (30 + i = a) := fun a i h z => by omega
  have h31 : ∀ (a i : Nat), a < 30 → ¬ (a = 30 + i) := fun a i h z => by omega
  rcases gX_cases x with rfl | rfl | rfl | rfl | rfl | ⟨j, hj, rfl⟩ | ⟨j, hj, rfl⟩ | ⟨j, rfl⟩
  · rw [if_pos rfl, gX_0]; try simp [up2]
  · rw [if_neg (by omega), gX_1, gX_1]; try simp [up2, h30, h31]
  · rw [if_neg (by omega), gX_2, gX_2]; try simp [up2, h30, h31]
  · rw [if_neg (by omega), gX_3, gX_3]; try simp [up2, h30, h31]
  · rw [if_neg (by omega), gX_4, gX_4, up2_fld _ _ _ (by omega)]
  · rw [if_neg (by omega), gX_l _ _ _ _ _ hj, gX_l _ _ _ _ _ hj]; try simp [up2, h30, h31]
  · rw [if_neg (by omega), gX_r _ _ _ _ _ hj, gX_r _ _ _ _ _ hj]; try simp [up2, h30, h31]
  · rw [if_neg (by omega), gX_s, gX_s]; try simp [up2, h30, h31]
theorem gU_l3 {k0 : Nat} {v : Int32} (hk : k0 < 24) (x : Nat) : gX cI cL cR ad (up2 f 3 k0 v) x = if x = 5 + k0 then .inr (0, [.int (f 0 k0), .int (f 1 k0), .int (f 2 k0), .int v, .int (f 4 k0), va_rf (ro ad 29 (f 5 k0)), .int (f 6 k0)]) else gX cI cL cR ad f x := by
  have h30 : ∀ (a i : Nat), a < 30 → ¬ (30 + i = a) := fun a i h z => by omega
  have h31 : ∀ (a i : Nat), a < 30 → ¬ (a = 30 + i) := fun a i h z => by omega
  rcases gX_cases x with rfl | rfl | rfl | rfl | rfl | ⟨j, hj, rfl⟩ | ⟨j, hj, rfl⟩ | ⟨j, rfl⟩
  · rw [if_neg (by omega), gX_0, gX_0]; try simp [up2, h30, h31]
  · rw [if_neg (by omega), gX_1, gX_1]; try simp [up2, h30, h31]
  · rw [if_neg (by omega), gX_2, gX_2]; try simp [up2, h30, h31]
  · rw [if_neg (by omega), gX_3, gX_3]; try simp [up2, h30, h31]
  · rw [if_neg (by omega), gX_4, gX_4, up2_fld _ _ _ (by omega)]
  · by_cases hz : j = k0
    · subst hz; rw [if_pos rfl, gX_l _ _ _ _ _ hj]; try simp [up2, h30, h31]
    · rw [if_neg (by omega), gX_l _ _ _ _ _ hj, gX_l _ _ _ _ _ hj]; try simp [up2, h30, h31, hz]
  · rw [if_neg (by omega), gX_r _ _ _ _ _ hj, gX_r _ _ _ _ _ hj]; try simp [up2, h30, h31]
  · rw [if_neg (by omega), gX_s, gX_s]; try simp [up2, h30, h31]
theorem gU_l4 {k0 : Nat} {v : Int32} (hk : k0 < 24) (x : Nat) : gX cI cL cR ad (up2 f 4 k0 v) x = if x = 5 + k0 then .inr (0, [.int (f 0 k0), .int (f 1 k0), .int (f 2 k0), .int (f 3 k0), .int v, va_rf (ro ad 29 (f 5 k0)), .int (f 6 k0)]) else gX cI cL cR ad f x := by
  have h30 : ∀ (a i : Nat), a < 30 → ¬ (30 + i = a) := fun a i h z => by omega
  have h31 : ∀ (a i : Nat), a < 30 → ¬ (a = 30 + i) := fun a i h z => by omega
  rcases gX_cases x with rfl | rfl | rfl | rfl | rfl | ⟨j, hj, rfl⟩ | ⟨j, hj, rfl⟩ | ⟨j, rfl⟩
  · rw [if_neg (by omega), gX_0, gX_0]; try simp [up2, h30, h31]
  · rw [if_neg (by omega), gX_1, gX_1]; try simp [up2, h30, h31]
  · rw [if_neg (by omega), gX_2, gX_2]; try simp [up2, h30, h31]
  · rw [if_neg (by omega), gX_3, gX_3]; try simp [up2, h30, h31]
  · rw [if_neg (by omega), gX_4, gX_4, up2_fld _ _ _ (by omega)]
  · by_cases hz : j = k0
    · subst hz; rw [if_pos rfl, gX_l _ _ _ _ _ hj]; try simp [up2, h30, h31]
    · rw [if_neg (by omega), gX_l _ _ _ _ _ hj, gX_l _ _ _ _ _ hj]; try simp [up2, h30, h31, hz]
  · rw [if_neg (by omega), gX_r _ _ _ _ _ hj, gX_r _ _ _ _ _ hj]; try simp [up2, h30, h31]
  · rw [if_neg (by omega), gX_s, gX_s]; try simp [up2, h30, h31]
theorem gU_l6 {k0 : Nat} {v : Int32} (hk : k0 < 24) (x : Nat) : gX cI cL cR ad (up2 f 6 k0 v) x = if x = 5 + k0 then .inr (0, [.int (f 0 k0), .int (f 1 k0), .int (f 2 k0), .int (f 3 k0), .int (f 4 k0), va_rf (ro ad 29 (f 5 k0)), .int v]) else gX cI cL cR ad f x := by
  have h30 : ∀ (a i : Nat), a < 30 → ¬ (30 + i = a) := fun a i h z => by omega
  have h31 : ∀ (a i : Nat), a < 30 → ¬ (a = 30 + i) := fun a i h z => by omega
  rcases gX_cases x with rfl | rfl | rfl | rfl | rfl | ⟨j, hj, rfl⟩ | ⟨j, hj, rfl⟩ | ⟨j, rfl⟩
  · rw [if_neg (by omega), gX_0, gX_0]; try simp [up2, h30, h31]
  · rw [if_neg (by omega), gX_1, gX_1]; try simp [up2, h30, h31]
  · rw [if_neg (by omega), gX_2, gX_2]; try simp [up2, h30, h31]
  · rw [if_neg (by omega), gX_3, gX_3]; try simp [up2, h30, h31]
  · rw [if_neg (by omega), gX_4, gX_4, up2_fld _ _ _ (by omega)]
  · by_cases hz : j = k0
    · subst hz; rw [if_pos rfl, gX_l _ _ _ _ _ hj]; try simp [up2, h30, h31]
    · rw [if_neg (by omega), gX_l _ _ _ _ _ hj, gX_l _ _ _ _ _ hj]; try simp [up2, h30, h31, hz]
  · rw [if_neg (by omega), gX_r _ _ _ _ _ hj, gX_r _ _ _ _ _ hj]; try simp [up2, h30, h31]
  · rw [if_neg (by omega), gX_s, gX_s]; try simp [up2, h30, h31]
theorem gU_l5 {k0 : Nat} {v : Int32} (hk : k0 < 24) (x : Nat) : gX cI cL cR ad (up2 f 5 k0 v) x = if x = 5 + k0 then .inr (0, [.int (f 0 k0), .int (f 1 k0), .int (f 2 k0), .int (f 3 k0), .int (f 4 k0), va_rf (ro ad 29 v), .int (f 6 k0)]) else gX cI cL cR ad f x := by
  have h30 : ∀ (a i : Nat), a < 30 → ¬ (30 + i = a) := fun a i h z => by omega
  have h31 : ∀ (a i : Nat), a < 30 → ¬ (a = 30 + i) := fun a i h z => by omega
  rcases gX_cases x with rfl | rfl | rfl | rfl | rfl | ⟨j, hj, rfl⟩ | ⟨j, hj, rfl⟩ | ⟨j, rfl⟩
  · rw [if_neg (by omega), gX_0, gX_0]; try simp [up2, h30, h31]
  · rw [if_neg (by omega), gX_1, gX_1]; try simp [up2, h30, h31]
  · rw [if_neg (by omega), gX_2, gX_2]; try simp [up2, h30, h31]
  · rw [if_neg (by omega), gX_3, gX_3]; try simp [up2, h30, h31]
  · rw [if_neg (by omega), gX_4, gX_4, up2_fld _ _ _ (by omega)]
  · by_cases hz : j = k0
    · subst hz; rw [if_pos rfl, gX_l _ _ _ _ _ hj]; try simp [up2, h30, h31]
    · rw [if_neg (by omega), gX_l _ _ _ _ _ hj, gX_l _ _ _ _ _ hj]; try simp [up2, h30, h31, hz]
  · rw [if_neg (by omega), gX_r _ _ _ _ _ hj, gX_r _ _ _ _ _ hj]; try simp [up2, h30, h31]
  · rw [if_neg (by omega), gX_s, gX_s]; try simp [up2, h30, h31]
theorem gU_r4 {k0 : Nat} {v : Int32} (hk : k0 < 8) (x : Nat) : gX cI cL cR ad (up2 f 10 k0 v) x = if x = 29 + k0 then .inr (1, [.int (f 25 k0), .int (f 8 k0), .int (f 9 k0), .ref (ad (37 + (k0))), .int v, .int (f 11 k0), .int (f 24 k0)]) else gX cI cL cR ad f x := by
  have h30 : ∀ (a i : Nat), a < 30 → ¬ (30 + i = a) := fun a i h z => by omega
  have h31 : ∀ (a i : Nat), a < 30 → ¬ (a = 30 + i) := fun a i h z => by omega
  rcases gX_cases x with rfl | rfl | rfl | rfl | rfl | ⟨j, hj, rfl⟩ | ⟨j, hj, rfl⟩ | ⟨j, rfl⟩
  · rw [if_neg (by omega), gX_0, gX_0]; try simp [up2, h30, h31]
  · rw [if_neg (by omega), gX_1, gX_1]; try simp [up2, h30, h31]
  · rw [if_neg (by omega), gX_2, gX_2]; try simp [up2, h30, h31]
  · rw [if_neg (by omega), gX_3, gX_3]; try simp [up2, h30, h31]
  · rw [if_neg (by omega), gX_4, gX_4, up2_fld _ _ _ (by omega)]
  · rw [if_neg (by omega), gX_l _ _ _ _ _ hj, gX_l _ _ _ _ _ hj]; try simp [up2, h30, h31]
  · by_cases hz : j = k0
    · subst hz; rw [if_pos rfl, gX_r _ _ _ _ _ hj]; try simp [up2, h30, h31]
    · rw [if_neg (by omega), gX_r _ _ _ _ _ hj, gX_r _ _ _ _ _ hj]; try simp [up2, h30, h31, hz]
  · rw [if_neg (by omega), gX_s, gX_s]; try simp [up2, h30, h31]
theorem gU_r5 {k0 : Nat} {v : Int32} (hk : k0 < 8) (x : Nat) : gX cI cL cR ad (up2 f 11 k0 v) x = if x = 29 + k0 then .inr (1, [.int (f 25 k0), .int (f 8 k0), .int (f 9 k0), .ref (ad (37 + (k0))), .int (f 10 k0), .int v, .int (f 24 k0)]) else gX cI cL cR ad f x := by
  have h30 : ∀ (a i : Nat), a < 30 → ¬ (30 + i = a) := fun a i h z => by omega
  have h31 : ∀ (a i : Nat), a < 30 → ¬ (a = 30 + i) := fun a i h z => by omega
  rcases gX_cases x with rfl | rfl | rfl | rfl | rfl | ⟨j, hj, rfl⟩ | ⟨j, hj, rfl⟩ | ⟨j, rfl⟩
  · rw [if_neg (by omega), gX_0, gX_0]; try simp [up2, h30, h31]
  · rw [if_neg (by omega), gX_1, gX_1]; try simp [up2, h30, h31]
  · rw [if_neg (by omega), gX_2, gX_2]; try simp [up2, h30, h31]
  · rw [if_neg (by omega), gX_3, gX_3]; try simp [up2, h30, h31]
  · rw [if_neg (by omega), gX_4, gX_4, up2_fld _ _ _ (by omega)]
  · rw [if_neg (by omega), gX_l _ _ _ _ _ hj, gX_l _ _ _ _ _ hj]; try simp [up2, h30, h31]
  · by_cases hz : j = k0
    · subst hz; rw [if_pos rfl, gX_r _ _ _ _ _ hj]; try simp [up2, h30, h31]
    · rw [if_neg (by omega), gX_r _ _ _ _ _ hj, gX_r _ _ _ _ _ hj]; try simp [up2, h30, h31, hz]
  · rw [if_neg (by omega), gX_s, gX_s]; try simp [up2, h30, h31]
theorem gU_r6 {k0 : Nat} {v : Int32} (hk : k0 < 8) (x : Nat) : gX cI cL cR ad (up2 f 24 k0 v) x = if x = 29 + k0 then .inr (1, [.int (f 25 k0), .int (f 8 k0), .int (f 9 k0), .ref (ad (37 + (k0))), .int (f 10 k0), .int (f 11 k0), .int v]) else gX cI cL cR ad f x := by
  have h30 : ∀ (a i : Nat), a < 30 → ¬ (30 + i = a) := fun a i h z => by omega
  have h31 : ∀ (a i : Nat), a < 30 → ¬ (a = 30 + i) := fun a i h z => by omega
  rcases gX_cases x with rfl | rfl | rfl | rfl | rfl | ⟨j, hj, rfl⟩ | ⟨j, hj, rfl⟩ | ⟨j, rfl⟩
  · rw [if_neg (by omega), gX_0, gX_0]; try simp [up2, h30, h31]
  · rw [if_neg (by omega), gX_1, gX_1]; try simp [up2, h30, h31]
  · rw [if_neg (by omega), gX_2, gX_2]; try simp [up2, h30, h31]
  · rw [if_neg (by omega), gX_3, gX_3]; try simp [up2, h30, h31]
  · rw [if_neg (by omega), gX_4, gX_4, up2_fld _ _ _ (by omega)]
  · rw [if_neg (by omega), gX_l _ _ _ _ _ hj, gX_l _ _ _ _ _ hj]; try simp [up2, h30, h31]
  · by_cases hz : j = k0
    · subst hz; rw [if_pos rfl, gX_r _ _ _ _ _ hj]; try simp [up2, h30, h31]
    · rw [if_neg (by omega), gX_r _ _ _ _ _ hj, gX_r _ _ _ _ _ hj]; try simp [up2, h30, h31, hz]
  · rw [if_neg (by omega), gX_s, gX_s]; try simp [up2, h30, h31]
theorem gU_gu {v : Int32} {j0 : Nat}  (x : Nat) : gX cI cL cR ad (up2 f 17 j0 v) x = if x = 4 then .inl (cI, 401, .inl (upd (f 17) j0 v)) else gX cI cL cR ad f x := by
  have h30 : ∀ (a i : Nat), a < 30 → ¬ (30 + i = a) := fun a i h z => by omega
  have h31 : ∀ (a i : Nat), a < 30 → ¬ (a = 30 + i) := fun a i h z => by omega
  rcases gX_cases x with rfl | rfl | rfl | rfl | rfl | ⟨j, hj, rfl⟩ | ⟨j, hj, rfl⟩ | ⟨j, rfl⟩
  · rw [if_neg (by omega), gX_0, gX_0]; try simp [up2, h30, h31]
  · rw [if_neg (by omega), gX_1, gX_1]; try simp [up2, h30, h31]
  · rw [if_neg (by omega), gX_2, gX_2]; try simp [up2, h30, h31]
  · rw [if_neg (by omega), gX_3, gX_3]; try simp [up2, h30, h31]
  · rw [if_pos rfl, gX_4]; exact congrArg (fun z : Nat → Int32 => (.inl (cI, 401, .inl z) : va_E)) (funext fun b => by simp [up2, upd])
  · rw [if_neg (by omega), gX_l _ _ _ _ _ hj, gX_l _ _ _ _ _ hj]; try simp [up2, h30, h31]
  · rw [if_neg (by omega), gX_r _ _ _ _ _ hj, gX_r _ _ _ _ _ hj]; try simp [up2, h30, h31]
  · rw [if_neg (by omega), gX_s, gX_s]; try simp [up2, h30, h31]
theorem gU_a0 {v : Int32} {j0 : Nat}  (x : Nat) : gX cI cL cR ad (up2 f 22 j0 v) x = if x = 1 then .inl (cL, 24, .inr (.inr (.inr (.inr (va_up (fun i => ro ad 5 (f 22 i)) j0 (ro ad 5 v)))))) else gX cI cL cR ad f x := by
  have h30 : ∀ (a i : Nat), a < 30 → ¬ (30 + i = a) := fun a i h z => by omega
  have h31 : ∀ (a i : Nat), a < 30 → ¬ (a = 30 + i) := fun a i h z => by omega
  rcases gX_cases x with rfl | rfl | rfl | rfl | rfl | ⟨j, hj, rfl⟩ | ⟨j, hj, rfl⟩ | ⟨j, rfl⟩
  · rw [if_neg (by omega), gX_0, gX_0]; try simp [up2, h30, h31]
  · rw [if_pos rfl, gX_1]; exact congrArg (fun z : Nat → Option Nat => (.inl (cL, 24, .inr (.inr (.inr (.inr z)))) : va_E)) (funext fun b => by by_cases hb : b = j0 <;> simp [up2, va_up, hb])
  · rw [if_neg (by omega), gX_2, gX_2]; try simp [up2, h30, h31]
  · rw [if_neg (by omega), gX_3, gX_3]; try simp [up2, h30, h31]
  · rw [if_neg (by omega), gX_4, gX_4, up2_fld _ _ _ (by omega)]
  · rw [if_neg (by omega), gX_l _ _ _ _ _ hj, gX_l _ _ _ _ _ hj]; try simp [up2, h30, h31]
  · rw [if_neg (by omega), gX_r _ _ _ _ _ hj, gX_r _ _ _ _ _ hj]; try simp [up2, h30, h31]
  · rw [if_neg (by omega), gX_s, gX_s]; try simp [up2, h30, h31]
theorem gU_a1 {v : Int32} {j0 : Nat}  (x : Nat) : gX cI cL cR ad (up2 f 23 j0 v) x = if x = 2 then .inl (cR, 8, .inr (.inr (.inr (.inr (va_up (fun i => ro ad 29 (f 23 i)) j0 (ro ad 29 v)))))) else gX cI cL cR ad f x := by
  have h30 : ∀ (a i : Nat), a < 30 → ¬ (30 + i = a) := fun a i h z => by omega
  have h31 : ∀ (a i : Nat), a < 30 → ¬ (a = 30 + i) := fun a i h z => by omega
  rcases gX_cases x with rfl | rfl | rfl | rfl | rfl | ⟨j, hj, rfl⟩ | ⟨j, hj, rfl⟩ | ⟨j, rfl⟩
  · rw [if_neg (by omega), gX_0, gX_0]; try simp [up2, h30, h31]
  · rw [if_neg (by omega), gX_1, gX_1]; try simp [up2, h30, h31]
  · rw [if_pos rfl, gX_2]; exact congrArg (fun z : Nat → Option Nat => (.inl (cR, 8, .inr (.inr (.inr (.inr z)))) : va_E)) (funext fun b => by by_cases hb : b = j0 <;> simp [up2, va_up, hb])
  · rw [if_neg (by omega), gX_3, gX_3]; try simp [up2, h30, h31]
  · rw [if_neg (by omega), gX_4, gX_4, up2_fld _ _ _ (by omega)]
  · rw [if_neg (by omega), gX_l _ _ _ _ _ hj, gX_l _ _ _ _ _ hj]; try simp [up2, h30, h31]
  · rw [if_neg (by omega), gX_r _ _ _ _ _ hj, gX_r _ _ _ _ _ hj]; try simp [up2, h30, h31]
  · rw [if_neg (by omega), gX_s, gX_s]; try simp [up2, h30, h31]
theorem gU_a2 {v : Int32} {j0 : Nat}  (x : Nat) : gX cI cL cR ad (up2 f 12 j0 v) x = if x = 3 then .inl (cR, 8, .inr (.inr (.inr (.inr (va_up (fun i => ro ad 29 (f 12 i)) j0 (ro ad 29 v)))))) else gX cI cL cR ad f x := by
  have h30 : ∀ (a i : Nat), a < 30 → ¬ (30 + i = a) := fun a i h z => by omega
  have h31 : ∀ (a i : Nat), a < 30 → ¬ (a = 30 + i) := fun a i h z => by omega
  rcases gX_cases x with rfl | rfl | rfl | rfl | rfl | ⟨j, hj, rfl⟩ | ⟨j, hj, rfl⟩ | ⟨j, rfl⟩
  · rw [if_neg (by omega), gX_0, gX_0]; try simp [up2, h30, h31]
  · rw [if_neg (by omega), gX_1, gX_1]; try simp [up2, h30, h31]
  · rw [if_neg (by omega), gX_2, gX_2]; try simp [up2, h30, h31]
  · rw [if_pos rfl, gX_3]; exact congrArg (fun z : Nat → Option Nat => (.inl (cR, 8, .inr (.inr (.inr (.inr z)))) : va_E)) (funext fun b => by by_cases hb : b = j0 <;> simp [up2, va_up, hb])
  · rw [if_neg (by omega), gX_4, gX_4, up2_fld _ _ _ (by omega)]
  · rw [if_neg (by omega), gX_l _ _ _ _ _ hj, gX_l _ _ _ _ _ hj]; try simp [up2, h30, h31]
  · rw [if_neg (by omega), gX_r _ _ _ _ _ hj, gX_r _ _ _ _ _ hj]; try simp [up2, h30, h31]
  · rw [if_neg (by omega), gX_s, gX_s]; try simp [up2, h30, h31]
theorem gU_sl {k0 : Nat} {v : Int32} {j0 : Nat}  (x : Nat) : gX cI cL cR ad (up2 f (30 + k0) j0 v) x = if x = 37 + k0 then .inl (cL, 10, .inr (.inr (.inr (.inr (va_up (fun i => ro ad 5 (f (30 + k0) i)) j0 (ro ad 5 v)))))) else gX cI cL cR ad f x := by
  have h30 : ∀ (a i : Nat), a < 30 → ¬ (30 + i = a) := fun a i h z => by omega
  have h31 : ∀ (a i : Nat), a < 30 → ¬ (a = 30 + i) := fun a i h z => by omega
  rcases gX_cases x with rfl | rfl | rfl | rfl | rfl | ⟨j, hj, rfl⟩ | ⟨j, hj, rfl⟩ | ⟨j, rfl⟩
  · rw [if_neg (by omega), gX_0, gX_0]; try simp [up2, h30, h31]
  · rw [if_neg (by omega), gX_1, gX_1]; try simp [up2, h30, h31]
  · rw [if_neg (by omega), gX_2, gX_2]; try simp [up2, h30, h31]
  · rw [if_neg (by omega), gX_3, gX_3]; try simp [up2, h30, h31]
  · rw [if_neg (by omega), gX_4, gX_4, up2_fld _ _ _ (by omega)]
  · rw [if_neg (by omega), gX_l _ _ _ _ _ hj, gX_l _ _ _ _ _ hj]; try simp [up2, h30, h31]
  · rw [if_neg (by omega), gX_r _ _ _ _ _ hj, gX_r _ _ _ _ _ hj]; try simp [up2, h30, h31]
  · by_cases hz : j = k0
    · subst hz; rw [if_pos rfl, gX_s]; exact congrArg (fun z : Nat → Option Nat => (.inl (cL, 10, .inr (.inr (.inr (.inr z)))) : va_E)) (funext fun b => by by_cases hb : b = j0 <;> simp [up2, va_up, hb])
    · rw [if_neg (by omega), gX_s, gX_s]; try simp [up2, h30, h31, hz]
theorem x0_get0 {k0 : Nat} {idx : Nat} (h : jc p s m args c D vwCl (tyW cI cL cR) A n cc own Ts) (hin : ∀ x ∈ wsX00, x ∈ Ts) (hlink : Cond.fieldLink own idx RX0 "ribs" "I" ∈ Ts) (hd : decode cc pc = .ok (.getfield idx, 3)) (hk : k0 < 24) (hc : 5 + k0 ∈ C) (kk : jj p l e R s m args below meth c Q D vwCl (tyW cI cL cR) A n (wX cI cL cR ad C f) k w (pc + 3) lv (.int (f 0 k0) :: st)) : jj p l e R s m args below meth c Q D vwCl (tyW cI cL cR) A n (wX cI cL cR ad C f) k w pc lv (.ref (ad (5 + k0)) :: st) := by
  obtain ⟨q, hq, hw⟩ := wX_at (cI := cI) (cL := cL) (cR := cR) (ad := ad) (f := f) hc
  rw [gX_l _ _ _ _ _ hk] at hw
  exact j_get (ref := RX0) h q 0 hd hin rfl (by decide) hlink (fun _ h9 => h9) hw rfl kk
theorem x0_get1 {k0 : Nat} {idx : Nat} (h : jc p s m args c D vwCl (tyW cI cL cR) A n cc own Ts) (hin : ∀ x ∈ wsX00, x ∈ Ts) (hlink : Cond.fieldLink own idx RX0 "paper" "I" ∈ Ts) (hd : decode cc pc = .ok (.getfield idx, 3)) (hk : k0 < 24) (hc : 5 + k0 ∈ C) (kk : jj p l e R s m args below meth c Q D vwCl (tyW cI cL cR) A n (wX cI cL cR ad C f) k w (pc + 3) lv (.int (f 1 k0) :: st)) : jj p l e R s m args below meth c Q D vwCl (tyW cI cL cR) A n (wX cI cL cR ad C f) k w pc lv (.ref (ad (5 + k0)) :: st) := by
  obtain ⟨q, hq, hw⟩ := wX_at (cI := cI) (cL := cL) (cR := cR) (ad := ad) (f := f) hc
  rw [gX_l _ _ _ _ _ hk] at hw
  exact j_get (ref := RX0) h q 1 hd hin rfl (by decide) hlink (fun _ h9 => h9) hw rfl kk
theorem x0_get2 {k0 : Nat} {idx : Nat} (h : jc p s m args c D vwCl (tyW cI cL cR) A n cc own Ts) (hin : ∀ x ∈ wsX00, x ∈ Ts) (hlink : Cond.fieldLink own idx RX0 "candle" "I" ∈ Ts) (hd : decode cc pc = .ok (.getfield idx, 3)) (hk : k0 < 24) (hc : 5 + k0 ∈ C) (kk : jj p l e R s m args below meth c Q D vwCl (tyW cI cL cR) A n (wX cI cL cR ad C f) k w (pc + 3) lv (.int (f 2 k0) :: st)) : jj p l e R s m args below meth c Q D vwCl (tyW cI cL cR) A n (wX cI cL cR ad C f) k w pc lv (.ref (ad (5 + k0)) :: st) := by
  obtain ⟨q, hq, hw⟩ := wX_at (cI := cI) (cL := cL) (cR := cR) (ad := ad) (f := f) hc
  rw [gX_l _ _ _ _ _ hk] at hw
  exact j_get (ref := RX0) h q 2 hd hin rfl (by decide) hlink (fun _ h9 => h9) hw rfl kk
theorem x0_get3 {k0 : Nat} {idx : Nat} (h : jc p s m args c D vwCl (tyW cI cL cR) A n cc own Ts) (hin : ∀ x ∈ wsX00, x ∈ Ts) (hlink : Cond.fieldLink own idx RX0 "state" "I" ∈ Ts) (hd : decode cc pc = .ok (.getfield idx, 3)) (hk : k0 < 24) (hc : 5 + k0 ∈ C) (kk : jj p l e R s m args below meth c Q D vwCl (tyW cI cL cR) A n (wX cI cL cR ad C f) k w (pc + 3) lv (.int (f 3 k0) :: st)) : jj p l e R s m args below meth c Q D vwCl (tyW cI cL cR) A n (wX cI cL cR ad C f) k w pc lv (.ref (ad (5 + k0)) :: st) := by
  obtain ⟨q, hq, hw⟩ := wX_at (cI := cI) (cL := cL) (cR := cR) (ad := ad) (f := f) hc
  rw [gX_l _ _ _ _ _ hk] at hw
  exact j_get (ref := RX0) h q 3 hd hin rfl (by decide) hlink (fun _ h9 => h9) hw rfl kk
theorem x0_put3 {v : Int32} {k0 : Nat} {idx : Nat} (h : jc p s m args c D vwCl (tyW cI cL cR) A n cc own Ts) (hin : ∀ x ∈ wsX00, x ∈ Ts) (hlink : Cond.fieldLink own idx RX0 "state" "I" ∈ Ts) (hd : decode cc pc = .ok (.putfield idx, 3)) (hk : k0 < 24) (hc : 5 + k0 ∈ C) (kk : jj p l e R s m args below meth c Q D vwCl (tyW cI cL cR) A n (wX cI cL cR ad C (up2 f 3 k0 v)) k w (pc + 3) lv st) : jj p l e R s m args below meth c Q D vwCl (tyW cI cL cR) A n (wX cI cL cR ad C f) k w pc lv (.int v :: .ref (ad (5 + k0)) :: st) := by
  intro H locs ls hP hD hS hl
  obtain ⟨q, hq, hw⟩ := wX_at (cI := cI) (cL := cL) (cR := cR) (ad := ad) (f := f) hc
  rw [gX_l _ _ _ _ _ hk] at hw
  exact (j_put (ref := RX0) (ty := .int) h q 3 tyX0 tyX0_ok nmX0 hd hin rfl (by decide) hlink (fun _ h9 => h9) rfl rfl rfl rfl hw (Nat.le_of_ble_eq_true rfl) (jj_ws (wX_set hD hq (fun z => by rw [gU_l3 (k0 := k0) hk z]; rfl)) kk)) H locs ls hP hD hS hl
theorem x0_get4 {k0 : Nat} {idx : Nat} (h : jc p s m args c D vwCl (tyW cI cL cR) A n cc own Ts) (hin : ∀ x ∈ wsX00, x ∈ Ts) (hlink : Cond.fieldLink own idx RX0 "left" "I" ∈ Ts) (hd : decode cc pc = .ok (.getfield idx, 3)) (hk : k0 < 24) (hc : 5 + k0 ∈ C) (kk : jj p l e R s m args below meth c Q D vwCl (tyW cI cL cR) A n (wX cI cL cR ad C f) k w (pc + 3) lv (.int (f 4 k0) :: st)) : jj p l e R s m args below meth c Q D vwCl (tyW cI cL cR) A n (wX cI cL cR ad C f) k w pc lv (.ref (ad (5 + k0)) :: st) := by
  obtain ⟨q, hq, hw⟩ := wX_at (cI := cI) (cL := cL) (cR := cR) (ad := ad) (f := f) hc
  rw [gX_l _ _ _ _ _ hk] at hw
  exact j_get (ref := RX0) h q 4 hd hin rfl (by decide) hlink (fun _ h9 => h9) hw rfl kk
theorem x0_put4 {v : Int32} {k0 : Nat} {idx : Nat} (h : jc p s m args c D vwCl (tyW cI cL cR) A n cc own Ts) (hin : ∀ x ∈ wsX00, x ∈ Ts) (hlink : Cond.fieldLink own idx RX0 "left" "I" ∈ Ts) (hd : decode cc pc = .ok (.putfield idx, 3)) (hk : k0 < 24) (hc : 5 + k0 ∈ C) (kk : jj p l e R s m args below meth c Q D vwCl (tyW cI cL cR) A n (wX cI cL cR ad C (up2 f 4 k0 v)) k w (pc + 3) lv st) : jj p l e R s m args below meth c Q D vwCl (tyW cI cL cR) A n (wX cI cL cR ad C f) k w pc lv (.int v :: .ref (ad (5 + k0)) :: st) := by
  intro H locs ls hP hD hS hl
  obtain ⟨q, hq, hw⟩ := wX_at (cI := cI) (cL := cL) (cR := cR) (ad := ad) (f := f) hc
  rw [gX_l _ _ _ _ _ hk] at hw
  exact (j_put (ref := RX0) (ty := .int) h q 4 tyX0 tyX0_ok nmX0 hd hin rfl (by decide) hlink (fun _ h9 => h9) rfl rfl rfl rfl hw (Nat.le_of_ble_eq_true rfl) (jj_ws (wX_set hD hq (fun z => by rw [gU_l4 (k0 := k0) hk z]; rfl)) kk)) H locs ls hP hD hS hl
theorem x0_get5 {k0 : Nat} {idx : Nat} (h : jc p s m args c D vwCl (tyW cI cL cR) A n cc own Ts) (hin : ∀ x ∈ wsX00, x ∈ Ts) (hlink : Cond.fieldLink own idx RX0 "raft" "LFestoon$Raft;" ∈ Ts) (hd : decode cc pc = .ok (.getfield idx, 3)) (hk : k0 < 24) (hc : 5 + k0 ∈ C) (hw5 : f 5 k0 = -1 ∨ ∃ r, r < 8 ∧ f 5 k0 = nI r) (kn : f 5 k0 = -1 → jj p l e R s m args below meth c Q D vwCl (tyW cI cL cR) A n (wX cI cL cR ad C f) k w (pc + 3) lv (.null :: st)) (kr : ∀ r, r < 8 → f 5 k0 = nI r → jj p l e R s m args below meth c Q D vwCl (tyW cI cL cR) A n (wX cI cL cR ad C f) k w (pc + 3) lv (.ref (ad (29 + r)) :: st)) : jj p l e R s m args below meth c Q D vwCl (tyW cI cL cR) A n (wX cI cL cR ad C f) k w pc lv (.ref (ad (5 + k0)) :: st) := by
  obtain ⟨q, hq, hw⟩ := wX_at (cI := cI) (cL := cL) (cR := cR) (ad := ad) (f := f) hc
  rw [gX_l _ _ _ _ _ hk] at hw
  rcases hw5 with h5 | ⟨r, hr8, h5⟩
  · rw [h5, ro_n] at hw
    exact j_get (ref := RX0) h q 5 hd hin rfl (by decide) hlink (fun _ h9 => h9) hw rfl (kn h5)
  · rw [h5, ro_s _ _ (by omega)] at hw
    exact j_get (ref := RX0) h q 5 hd hin rfl (by decide) hlink (fun _ h9 => h9) hw rfl (kr r hr8 h5)
theorem x0_put5N  {k0 : Nat} {idx : Nat} (h : jc p s m args c D vwCl (tyW cI cL cR) A n cc own Ts) (hin : ∀ x ∈ wsX00, x ∈ Ts) (hlink : Cond.fieldLink own idx RX0 "raft" "LFestoon$Raft;" ∈ Ts) (hd : decode cc pc = .ok (.putfield idx, 3)) (hk : k0 < 24) (hc : 5 + k0 ∈ C) (kk : jj p l e R s m args below meth c Q D vwCl (tyW cI cL cR) A n (wX cI cL cR ad C (up2 f 5 k0 (-1))) k w (pc + 3) lv st) : jj p l e R s m args below meth c Q D vwCl (tyW cI cL cR) A n (wX cI cL cR ad C f) k w pc lv (.null :: .ref (ad (5 + k0)) :: st) := by
  intro H locs ls hP hD hS hl
  obtain ⟨q, hq, hw⟩ := wX_at (cI := cI) (cL := cL) (cR := cR) (ad := ad) (f := f) hc
  rw [gX_l _ _ _ _ _ hk] at hw
  exact (j_put (ref := RX0) (ty := .object "Festoon$Raft") h q 5 tyX0 tyX0_ok nmX0 hd hin rfl (by decide) hlink (fun _ h9 => h9) rfl rfl rfl rfl hw (Nat.le_of_ble_eq_true rfl) (jj_ws (wX_set hD hq (fun z => by rw [gU_l5 (k0 := k0) hk z]; rw [ro_n]; rfl)) kk)) H locs ls hP hD hS hl
theorem x0_put5R {r : Nat} (hr : r < 8) {k0 : Nat} {idx : Nat} (h : jc p s m args c D vwCl (tyW cI cL cR) A n cc own Ts) (hin : ∀ x ∈ wsX00, x ∈ Ts) (hlink : Cond.fieldLink own idx RX0 "raft" "LFestoon$Raft;" ∈ Ts) (hd : decode cc pc = .ok (.putfield idx, 3)) (hk : k0 < 24) (hc : 5 + k0 ∈ C) (kk : jj p l e R s m args below meth c Q D vwCl (tyW cI cL cR) A n (wX cI cL cR ad C (up2 f 5 k0 (nI r))) k w (pc + 3) lv st) : jj p l e R s m args below meth c Q D vwCl (tyW cI cL cR) A n (wX cI cL cR ad C f) k w pc lv (.ref (ad (29 + r)) :: .ref (ad (5 + k0)) :: st) := by
  intro H locs ls hP hD hS hl
  obtain ⟨q, hq, hw⟩ := wX_at (cI := cI) (cL := cL) (cR := cR) (ad := ad) (f := f) hc
  rw [gX_l _ _ _ _ _ hk] at hw
  exact (j_put (ref := RX0) (ty := .object "Festoon$Raft") h q 5 tyX0 tyX0_ok nmX0 hd hin rfl (by decide) hlink (fun _ h9 => h9) rfl rfl rfl rfl hw (Nat.le_of_ble_eq_true rfl) (jj_ws (wX_set hD hq (fun z => by rw [gU_l5 (k0 := k0) hk z]; rw [ro_s _ _ (by omega)]; rfl)) kk)) H locs ls hP hD hS hl
theorem x0_get6 {k0 : Nat} {idx : Nat} (h : jc p s m args c D vwCl (tyW cI cL cR) A n cc own Ts) (hin : ∀ x ∈ wsX00, x ∈ Ts) (hlink : Cond.fieldLink own idx RX0 "slot" "I" ∈ Ts) (hd : decode cc pc = .ok (.getfield idx, 3)) (hk : k0 < 24) (hc : 5 + k0 ∈ C) (kk : jj p l e R s m args below meth c Q D vwCl (tyW cI cL cR) A n (wX cI cL cR ad C f) k w (pc + 3) lv (.int (f 6 k0) :: st)) : jj p l e R s m args below meth c Q D vwCl (tyW cI cL cR) A n (wX cI cL cR ad C f) k w pc lv (.ref (ad (5 + k0)) :: st) := by
  obtain ⟨q, hq, hw⟩ := wX_at (cI := cI) (cL := cL) (cR := cR) (ad := ad) (f := f) hc
  rw [gX_l _ _ _ _ _ hk] at hw
  exact j_get (ref := RX0) h q 6 hd hin rfl (by decide) hlink (fun _ h9 => h9) hw rfl kk
theorem x0_put6 {v : Int32} {k0 : Nat} {idx : Nat} (h : jc p s m args c D vwCl (tyW cI cL cR) A n cc own Ts) (hin : ∀ x ∈ wsX00, x ∈ Ts) (hlink : Cond.fieldLink own idx RX0 "slot" "I" ∈ Ts) (hd : decode cc pc = .ok (.putfield idx, 3)) (hk : k0 < 24) (hc : 5 + k0 ∈ C) (kk : jj p l e R s m args below meth c Q D vwCl (tyW cI cL cR) A n (wX cI cL cR ad C (up2 f 6 k0 v)) k w (pc + 3) lv st) : jj p l e R s m args below meth c Q D vwCl (tyW cI cL cR) A n (wX cI cL cR ad C f) k w pc lv (.int v :: .ref (ad (5 + k0)) :: st) := by
  intro H locs ls hP hD hS hl
  obtain ⟨q, hq, hw⟩ := wX_at (cI := cI) (cL := cL) (cR := cR) (ad := ad) (f := f) hc
  rw [gX_l _ _ _ _ _ hk] at hw
  exact (j_put (ref := RX0) (ty := .int) h q 6 tyX0 tyX0_ok nmX0 hd hin rfl (by decide) hlink (fun _ h9 => h9) rfl rfl rfl rfl hw (Nat.le_of_ble_eq_true rfl) (jj_ws (wX_set hD hq (fun z => by rw [gU_l6 (k0 := k0) hk z]; rfl)) kk)) H locs ls hP hD hS hl
theorem x1_get0 {k0 : Nat} {idx : Nat} (h : jc p s m args c D vwCl (tyW cI cL cR) A n cc own Ts) (hin : ∀ x ∈ wsX10, x ∈ Ts) (hlink : Cond.fieldLink own idx RX1 "number" "I" ∈ Ts) (hd : decode cc pc = .ok (.getfield idx, 3)) (hk : k0 < 8) (hc : 29 + k0 ∈ C) (kk : jj p l e R s m args below meth c Q D vwCl (tyW cI cL cR) A n (wX cI cL cR ad C f) k w (pc + 3) lv (.int (f 25 k0) :: st)) : jj p l e R s m args below meth c Q D vwCl (tyW cI cL cR) A n (wX cI cL cR ad C f) k w pc lv (.ref (ad (29 + k0)) :: st) := by
  obtain ⟨q, hq, hw⟩ := wX_at (cI := cI) (cL := cL) (cR := cR) (ad := ad) (f := f) hc
  rw [gX_r _ _ _ _ _ hk] at hw
  exact j_get (ref := RX1) h q 0 hd hin rfl (by decide) hlink (fun _ h9 => h9) hw rfl kk
theorem x1_get1 {k0 : Nat} {idx : Nat} (h : jc p s m args c D vwCl (tyW cI cL cR) A n cc own Ts) (hin : ∀ x ∈ wsX10, x ∈ Ts) (hlink : Cond.fieldLink own idx RX1 "speed" "I" ∈ Ts) (hd : decode cc pc = .ok (.getfield idx, 3)) (hk : k0 < 8) (hc : 29 + k0 ∈ C) (kk : jj p l e R s m args below meth c Q D vwCl (tyW cI cL cR) A n (wX cI cL cR ad C f) k w (pc + 3) lv (.int (f 8 k0) :: st)) : jj p l e R s m args below meth c Q D vwCl (tyW cI cL cR) A n (wX cI cL cR ad C f) k w pc lv (.ref (ad (29 + k0)) :: st) := by
  obtain ⟨q, hq, hw⟩ := wX_at (cI := cI) (cL := cL) (cR := cR) (ad := ad) (f := f) hc
  rw [gX_r _ _ _ _ _ hk] at hw
  exact j_get (ref := RX1) h q 1 hd hin rfl (by decide) hlink (fun _ h9 => h9) hw rfl kk
theorem x1_get2 {k0 : Nat} {idx : Nat} (h : jc p s m args c D vwCl (tyW cI cL cR) A n cc own Ts) (hin : ∀ x ∈ wsX10, x ∈ Ts) (hlink : Cond.fieldLink own idx RX1 "bears" "I" ∈ Ts) (hd : decode cc pc = .ok (.getfield idx, 3)) (hk : k0 < 8) (hc : 29 + k0 ∈ C) (kk : jj p l e R s m args below meth c Q D vwCl (tyW cI cL cR) A n (wX cI cL cR ad C f) k w (pc + 3) lv (.int (f 9 k0) :: st)) : jj p l e R s m args below meth c Q D vwCl (tyW cI cL cR) A n (wX cI cL cR ad C f) k w pc lv (.ref (ad (29 + k0)) :: st) := by
  obtain ⟨q, hq, hw⟩ := wX_at (cI := cI) (cL := cL) (cR := cR) (ad := ad) (f := f) hc
  rw [gX_r _ _ _ _ _ hk] at hw
  exact j_get (ref := RX1) h q 2 hd hin rfl (by decide) hlink (fun _ h9 => h9) hw rfl kk
theorem x1_get3 {k0 : Nat} {idx : Nat} (h : jc p s m args c D vwCl (tyW cI cL cR) A n cc own Ts) (hin : ∀ x ∈ wsX10, x ∈ Ts) (hlink : Cond.fieldLink own idx RX1 "slots" "[LFestoon$Lantern;" ∈ Ts) (hd : decode cc pc = .ok (.getfield idx, 3)) (hk : k0 < 8) (hc : 29 + k0 ∈ C) (kk : jj p l e R s m args below meth c Q D vwCl (tyW cI cL cR) A n (wX cI cL cR ad C f) k w (pc + 3) lv (.ref (ad (37 + k0)) :: st)) : jj p l e R s m args below meth c Q D vwCl (tyW cI cL cR) A n (wX cI cL cR ad C f) k w pc lv (.ref (ad (29 + k0)) :: st) := by
  obtain ⟨q, hq, hw⟩ := wX_at (cI := cI) (cL := cL) (cR := cR) (ad := ad) (f := f) hc
  rw [gX_r _ _ _ _ _ hk] at hw
  exact j_get (ref := RX1) h q 3 hd hin rfl (by decide) hlink (fun _ h9 => h9) hw rfl kk
theorem x1_get4 {k0 : Nat} {idx : Nat} (h : jc p s m args c D vwCl (tyW cI cL cR) A n cc own Ts) (hin : ∀ x ∈ wsX10, x ∈ Ts) (hlink : Cond.fieldLink own idx RX1 "sort" "I" ∈ Ts) (hd : decode cc pc = .ok (.getfield idx, 3)) (hk : k0 < 8) (hc : 29 + k0 ∈ C) (kk : jj p l e R s m args below meth c Q D vwCl (tyW cI cL cR) A n (wX cI cL cR ad C f) k w (pc + 3) lv (.int (f 10 k0) :: st)) : jj p l e R s m args below meth c Q D vwCl (tyW cI cL cR) A n (wX cI cL cR ad C f) k w pc lv (.ref (ad (29 + k0)) :: st) := by
  obtain ⟨q, hq, hw⟩ := wX_at (cI := cI) (cL := cL) (cR := cR) (ad := ad) (f := f) hc
  rw [gX_r _ _ _ _ _ hk] at hw
  exact j_get (ref := RX1) h q 4 hd hin rfl (by decide) hlink (fun _ h9 => h9) hw rfl kk
theorem x1_put4 {v : Int32} {k0 : Nat} {idx : Nat} (h : jc p s m args c D vwCl (tyW cI cL cR) A n cc own Ts) (hin : ∀ x ∈ wsX10, x ∈ Ts) (hlink : Cond.fieldLink own idx RX1 "sort" "I" ∈ Ts) (hd : decode cc pc = .ok (.putfield idx, 3)) (hk : k0 < 8) (hc : 29 + k0 ∈ C) (kk : jj p l e R s m args below meth c Q D vwCl (tyW cI cL cR) A n (wX cI cL cR ad C (up2 f 10 k0 v)) k w (pc + 3) lv st) : jj p l e R s m args below meth c Q D vwCl (tyW cI cL cR) A n (wX cI cL cR ad C f) k w pc lv (.int v :: .ref (ad (29 + k0)) :: st) := by
  intro H locs ls hP hD hS hl
  obtain ⟨q, hq, hw⟩ := wX_at (cI := cI) (cL := cL) (cR := cR) (ad := ad) (f := f) hc
  rw [gX_r _ _ _ _ _ hk] at hw
  exact (j_put (ref := RX1) (ty := .int) h q 4 tyX1 tyX1_ok nmX1 hd hin rfl (by decide) hlink (fun _ h9 => h9) rfl rfl rfl rfl hw (Nat.le_of_ble_eq_true rfl) (jj_ws (wX_set hD hq (fun z => by rw [gU_r4 (k0 := k0) hk z]; rfl)) kk)) H locs ls hP hD hS hl
theorem x1_get5 {k0 : Nat} {idx : Nat} (h : jc p s m args c D vwCl (tyW cI cL cR) A n cc own Ts) (hin : ∀ x ∈ wsX10, x ∈ Ts) (hlink : Cond.fieldLink own idx RX1 "front" "I" ∈ Ts) (hd : decode cc pc = .ok (.getfield idx, 3)) (hk : k0 < 8) (hc : 29 + k0 ∈ C) (kk : jj p l e R s m args below meth c Q D vwCl (tyW cI cL cR) A n (wX cI cL cR ad C f) k w (pc + 3) lv (.int (f 11 k0) :: st)) : jj p l e R s m args below meth c Q D vwCl (tyW cI cL cR) A n (wX cI cL cR ad C f) k w pc lv (.ref (ad (29 + k0)) :: st) := by
  obtain ⟨q, hq, hw⟩ := wX_at (cI := cI) (cL := cL) (cR := cR) (ad := ad) (f := f) hc
  rw [gX_r _ _ _ _ _ hk] at hw
  exact j_get (ref := RX1) h q 5 hd hin rfl (by decide) hlink (fun _ h9 => h9) hw rfl kk
theorem x1_put5 {v : Int32} {k0 : Nat} {idx : Nat} (h : jc p s m args c D vwCl (tyW cI cL cR) A n cc own Ts) (hin : ∀ x ∈ wsX10, x ∈ Ts) (hlink : Cond.fieldLink own idx RX1 "front" "I" ∈ Ts) (hd : decode cc pc = .ok (.putfield idx, 3)) (hk : k0 < 8) (hc : 29 + k0 ∈ C) (kk : jj p l e R s m args below meth c Q D vwCl (tyW cI cL cR) A n (wX cI cL cR ad C (up2 f 11 k0 v)) k w (pc + 3) lv st) : jj p l e R s m args below meth c Q D vwCl (tyW cI cL cR) A n (wX cI cL cR ad C f) k w pc lv (.int v :: .ref (ad (29 + k0)) :: st) := by
  intro H locs ls hP hD hS hl
  obtain ⟨q, hq, hw⟩ := wX_at (cI := cI) (cL := cL) (cR := cR) (ad := ad) (f := f) hc
  rw [gX_r _ _ _ _ _ hk] at hw
  exact (j_put (ref := RX1) (ty := .int) h q 5 tyX1 tyX1_ok nmX1 hd hin rfl (by decide) hlink (fun _ h9 => h9) rfl rfl rfl rfl hw (Nat.le_of_ble_eq_true rfl) (jj_ws (wX_set hD hq (fun z => by rw [gU_r5 (k0 := k0) hk z]; rfl)) kk)) H locs ls hP hD hS hl
theorem x1_get6 {k0 : Nat} {idx : Nat} (h : jc p s m args c D vwCl (tyW cI cL cR) A n cc own Ts) (hin : ∀ x ∈ wsX10, x ∈ Ts) (hlink : Cond.fieldLink own idx RX1 "order" "I" ∈ Ts) (hd : decode cc pc = .ok (.getfield idx, 3)) (hk : k0 < 8) (hc : 29 + k0 ∈ C) (kk : jj p l e R s m args below meth c Q D vwCl (tyW cI cL cR) A n (wX cI cL cR ad C f) k w (pc + 3) lv (.int (f 24 k0) :: st)) : jj p l e R s m args below meth c Q D vwCl (tyW cI cL cR) A n (wX cI cL cR ad C f) k w pc lv (.ref (ad (29 + k0)) :: st) := by
  obtain ⟨q, hq, hw⟩ := wX_at (cI := cI) (cL := cL) (cR := cR) (ad := ad) (f := f) hc
  rw [gX_r _ _ _ _ _ hk] at hw
  exact j_get (ref := RX1) h q 6 hd hin rfl (by decide) hlink (fun _ h9 => h9) hw rfl kk
theorem x1_put6 {v : Int32} {k0 : Nat} {idx : Nat} (h : jc p s m args c D vwCl (tyW cI cL cR) A n cc own Ts) (hin : ∀ x ∈ wsX10, x ∈ Ts) (hlink : Cond.fieldLink own idx RX1 "order" "I" ∈ Ts) (hd : decode cc pc = .ok (.putfield idx, 3)) (hk : k0 < 8) (hc : 29 + k0 ∈ C) (kk : jj p l e R s m args below meth c Q D vwCl (tyW cI cL cR) A n (wX cI cL cR ad C (up2 f 24 k0 v)) k w (pc + 3) lv st) : jj p l e R s m args below meth c Q D vwCl (tyW cI cL cR) A n (wX cI cL cR ad C f) k w pc lv (.int v :: .ref (ad (29 + k0)) :: st) := by
  intro H locs ls hP hD hS hl
  obtain ⟨q, hq, hw⟩ := wX_at (cI := cI) (cL := cL) (cR := cR) (ad := ad) (f := f) hc
  rw [gX_r _ _ _ _ _ hk] at hw
  exact (j_put (ref := RX1) (ty := .int) h q 6 tyX1 tyX1_ok nmX1 hd hin rfl (by decide) hlink (fun _ h9 => h9) rfl rfl rfl rfl hw (Nat.le_of_ble_eq_true rfl) (jj_ws (wX_set hD hq (fun z => by rw [gU_r6 (k0 := k0) hk z]; rfl)) kk)) H locs ls hP hD hS hl
theorem x2_get0  {idx : Nat} (h : jc p s m args c D vwCl (tyW cI cL cR) A n cc own Ts) (hin : ∀ x ∈ wsX20, x ∈ Ts) (hlink : Cond.fieldLink own idx RX2 "lanterns" "[LFestoon$Lantern;" ∈ Ts) (hd : decode cc pc = .ok (.getfield idx, 3))  (hc : 0 ∈ C) (kk : jj p l e R s m args below meth c Q D vwCl (tyW cI cL cR) A n (wX cI cL cR ad C f) k w (pc + 3) lv (.ref (ad 1) :: st)) : jj p l e R s m args below meth c Q D vwCl (tyW cI cL cR) A n (wX cI cL cR ad C f) k w pc lv (.ref (ad (0)) :: st) := by
  obtain ⟨q, hq, hw⟩ := wX_at (cI := cI) (cL := cL) (cR := cR) (ad := ad) (f := f) hc
  rw [gX_0 _ _ _ _ _] at hw
  exact j_get (ref := RX2) h q 0 hd hin rfl (by decide) hlink (fun _ h9 => h9) hw rfl kk
theorem x2_get1  {idx : Nat} (h : jc p s m args c D vwCl (tyW cI cL cR) A n cc own Ts) (hin : ∀ x ∈ wsX20, x ∈ Ts) (hlink : Cond.fieldLink own idx RX2 "rafts" "[LFestoon$Raft;" ∈ Ts) (hd : decode cc pc = .ok (.getfield idx, 3))  (hc : 0 ∈ C) (kk : jj p l e R s m args below meth c Q D vwCl (tyW cI cL cR) A n (wX cI cL cR ad C f) k w (pc + 3) lv (.ref (ad 2) :: st)) : jj p l e R s m args below meth c Q D vwCl (tyW cI cL cR) A n (wX cI cL cR ad C f) k w pc lv (.ref (ad (0)) :: st) := by
  obtain ⟨q, hq, hw⟩ := wX_at (cI := cI) (cL := cL) (cR := cR) (ad := ad) (f := f) hc
  rw [gX_0 _ _ _ _ _] at hw
  exact j_get (ref := RX2) h q 1 hd hin rfl (by decide) hlink (fun _ h9 => h9) hw rfl kk
theorem x2_get2  {idx : Nat} (h : jc p s m args c D vwCl (tyW cI cL cR) A n cc own Ts) (hin : ∀ x ∈ wsX20, x ∈ Ts) (hlink : Cond.fieldLink own idx RX2 "launched" "[LFestoon$Raft;" ∈ Ts) (hd : decode cc pc = .ok (.getfield idx, 3))  (hc : 0 ∈ C) (kk : jj p l e R s m args below meth c Q D vwCl (tyW cI cL cR) A n (wX cI cL cR ad C f) k w (pc + 3) lv (.ref (ad 3) :: st)) : jj p l e R s m args below meth c Q D vwCl (tyW cI cL cR) A n (wX cI cL cR ad C f) k w pc lv (.ref (ad (0)) :: st) := by
  obtain ⟨q, hq, hw⟩ := wX_at (cI := cI) (cL := cL) (cR := cR) (ad := ad) (f := f) hc
  rw [gX_0 _ _ _ _ _] at hw
  exact j_get (ref := RX2) h q 2 hd hin rfl (by decide) hlink (fun _ h9 => h9) hw rfl kk
theorem x2_get3  {idx : Nat} (h : jc p s m args c D vwCl (tyW cI cL cR) A n cc own Ts) (hin : ∀ x ∈ wsX20, x ∈ Ts) (hlink : Cond.fieldLink own idx RX2 "gusts" "[I" ∈ Ts) (hd : decode cc pc = .ok (.getfield idx, 3))  (hc : 0 ∈ C) (kk : jj p l e R s m args below meth c Q D vwCl (tyW cI cL cR) A n (wX cI cL cR ad C f) k w (pc + 3) lv (.ref (ad 4) :: st)) : jj p l e R s m args below meth c Q D vwCl (tyW cI cL cR) A n (wX cI cL cR ad C f) k w pc lv (.ref (ad (0)) :: st) := by
  obtain ⟨q, hq, hw⟩ := wX_at (cI := cI) (cL := cL) (cR := cR) (ad := ad) (f := f) hc
  rw [gX_0 _ _ _ _ _] at hw
  exact j_get (ref := RX2) h q 3 hd hin rfl (by decide) hlink (fun _ h9 => h9) hw rfl kk
theorem x2_get4  {idx : Nat} (h : jc p s m args c D vwCl (tyW cI cL cR) A n cc own Ts) (hin : ∀ x ∈ wsX20, x ∈ Ts) (hlink : Cond.fieldLink own idx RX2 "made" "I" ∈ Ts) (hd : decode cc pc = .ok (.getfield idx, 3))  (hc : 0 ∈ C) (kk : jj p l e R s m args below meth c Q D vwCl (tyW cI cL cR) A n (wX cI cL cR ad C f) k w (pc + 3) lv (.int (f 7 0) :: st)) : jj p l e R s m args below meth c Q D vwCl (tyW cI cL cR) A n (wX cI cL cR ad C f) k w pc lv (.ref (ad (0)) :: st) := by
  obtain ⟨q, hq, hw⟩ := wX_at (cI := cI) (cL := cL) (cR := cR) (ad := ad) (f := f) hc
  rw [gX_0 _ _ _ _ _] at hw
  exact j_get (ref := RX2) h q 4 hd hin rfl (by decide) hlink (fun _ h9 => h9) hw rfl kk
theorem x2_put4 {v : Int32}  {idx : Nat} (h : jc p s m args c D vwCl (tyW cI cL cR) A n cc own Ts) (hin : ∀ x ∈ wsX20, x ∈ Ts) (hlink : Cond.fieldLink own idx RX2 "made" "I" ∈ Ts) (hd : decode cc pc = .ok (.putfield idx, 3))  (hc : 0 ∈ C) (kk : jj p l e R s m args below meth c Q D vwCl (tyW cI cL cR) A n (wX cI cL cR ad C (up2 f 7 0 v)) k w (pc + 3) lv st) : jj p l e R s m args below meth c Q D vwCl (tyW cI cL cR) A n (wX cI cL cR ad C f) k w pc lv (.int v :: .ref (ad (0)) :: st) := by
  intro H locs ls hP hD hS hl
  obtain ⟨q, hq, hw⟩ := wX_at (cI := cI) (cL := cL) (cR := cR) (ad := ad) (f := f) hc
  rw [gX_0 _ _ _ _ _] at hw
  exact (j_put (ref := RX2) (ty := .int) h q 4 tyX2 tyX2_ok nmX2 hd hin rfl (by decide) hlink (fun _ h9 => h9) rfl rfl rfl rfl hw (Nat.le_of_ble_eq_true rfl) (jj_ws (wX_set hD hq (fun z => by rw [gU_f4  z]; rfl)) kk)) H locs ls hP hD hS hl
theorem x2_get5  {idx : Nat} (h : jc p s m args c D vwCl (tyW cI cL cR) A n cc own Ts) (hin : ∀ x ∈ wsX20, x ∈ Ts) (hlink : Cond.fieldLink own idx RX2 "built" "I" ∈ Ts) (hd : decode cc pc = .ok (.getfield idx, 3))  (hc : 0 ∈ C) (kk : jj p l e R s m args below meth c Q D vwCl (tyW cI cL cR) A n (wX cI cL cR ad C f) k w (pc + 3) lv (.int (f 14 0) :: st)) : jj p l e R s m args below meth c Q D vwCl (tyW cI cL cR) A n (wX cI cL cR ad C f) k w pc lv (.ref (ad (0)) :: st) := by
  obtain ⟨q, hq, hw⟩ := wX_at (cI := cI) (cL := cL) (cR := cR) (ad := ad) (f := f) hc
  rw [gX_0 _ _ _ _ _] at hw
  exact j_get (ref := RX2) h q 5 hd hin rfl (by decide) hlink (fun _ h9 => h9) hw rfl kk
theorem x2_put5 {v : Int32}  {idx : Nat} (h : jc p s m args c D vwCl (tyW cI cL cR) A n cc own Ts) (hin : ∀ x ∈ wsX20, x ∈ Ts) (hlink : Cond.fieldLink own idx RX2 "built" "I" ∈ Ts) (hd : decode cc pc = .ok (.putfield idx, 3))  (hc : 0 ∈ C) (kk : jj p l e R s m args below meth c Q D vwCl (tyW cI cL cR) A n (wX cI cL cR ad C (up2 f 14 0 v)) k w (pc + 3) lv st) : jj p l e R s m args below meth c Q D vwCl (tyW cI cL cR) A n (wX cI cL cR ad C f) k w pc lv (.int v :: .ref (ad (0)) :: st) := by
  intro H locs ls hP hD hS hl
  obtain ⟨q, hq, hw⟩ := wX_at (cI := cI) (cL := cL) (cR := cR) (ad := ad) (f := f) hc
  rw [gX_0 _ _ _ _ _] at hw
  exact (j_put (ref := RX2) (ty := .int) h q 5 tyX2 tyX2_ok nmX2 hd hin rfl (by decide) hlink (fun _ h9 => h9) rfl rfl rfl rfl hw (Nat.le_of_ble_eq_true rfl) (jj_ws (wX_set hD hq (fun z => by rw [gU_f5  z]; rfl)) kk)) H locs ls hP hD hS hl
theorem x2_get6  {idx : Nat} (h : jc p s m args c D vwCl (tyW cI cL cR) A n cc own Ts) (hin : ∀ x ∈ wsX20, x ∈ Ts) (hlink : Cond.fieldLink own idx RX2 "launches" "I" ∈ Ts) (hd : decode cc pc = .ok (.getfield idx, 3))  (hc : 0 ∈ C) (kk : jj p l e R s m args below meth c Q D vwCl (tyW cI cL cR) A n (wX cI cL cR ad C f) k w (pc + 3) lv (.int (f 13 0) :: st)) : jj p l e R s m args below meth c Q D vwCl (tyW cI cL cR) A n (wX cI cL cR ad C f) k w pc lv (.ref (ad (0)) :: st) := by
  obtain ⟨q, hq, hw⟩ := wX_at (cI := cI) (cL := cL) (cR := cR) (ad := ad) (f := f) hc
  rw [gX_0 _ _ _ _ _] at hw
  exact j_get (ref := RX2) h q 6 hd hin rfl (by decide) hlink (fun _ h9 => h9) hw rfl kk
theorem x2_put6 {v : Int32}  {idx : Nat} (h : jc p s m args c D vwCl (tyW cI cL cR) A n cc own Ts) (hin : ∀ x ∈ wsX20, x ∈ Ts) (hlink : Cond.fieldLink own idx RX2 "launches" "I" ∈ Ts) (hd : decode cc pc = .ok (.putfield idx, 3))  (hc : 0 ∈ C) (kk : jj p l e R s m args below meth c Q D vwCl (tyW cI cL cR) A n (wX cI cL cR ad C (up2 f 13 0 v)) k w (pc + 3) lv st) : jj p l e R s m args below meth c Q D vwCl (tyW cI cL cR) A n (wX cI cL cR ad C f) k w pc lv (.int v :: .ref (ad (0)) :: st) := by
  intro H locs ls hP hD hS hl
  obtain ⟨q, hq, hw⟩ := wX_at (cI := cI) (cL := cL) (cR := cR) (ad := ad) (f := f) hc
  rw [gX_0 _ _ _ _ _] at hw
  exact (j_put (ref := RX2) (ty := .int) h q 6 tyX2 tyX2_ok nmX2 hd hin rfl (by decide) hlink (fun _ h9 => h9) rfl rfl rfl rfl hw (Nat.le_of_ble_eq_true rfl) (jj_ws (wX_set hD hq (fun z => by rw [gU_f6  z]; rfl)) kk)) H locs ls hP hD hS hl
theorem x2_get7  {idx : Nat} (h : jc p s m args c D vwCl (tyW cI cL cR) A n cc own Ts) (hin : ∀ x ∈ wsX20, x ∈ Ts) (hlink : Cond.fieldLink own idx RX2 "now" "I" ∈ Ts) (hd : decode cc pc = .ok (.getfield idx, 3))  (hc : 0 ∈ C) (kk : jj p l e R s m args below meth c Q D vwCl (tyW cI cL cR) A n (wX cI cL cR ad C f) k w (pc + 3) lv (.int (f 18 0) :: st)) : jj p l e R s m args below meth c Q D vwCl (tyW cI cL cR) A n (wX cI cL cR ad C f) k w pc lv (.ref (ad (0)) :: st) := by
  obtain ⟨q, hq, hw⟩ := wX_at (cI := cI) (cL := cL) (cR := cR) (ad := ad) (f := f) hc
  rw [gX_0 _ _ _ _ _] at hw
  exact j_get (ref := RX2) h q 7 hd hin rfl (by decide) hlink (fun _ h9 => h9) hw rfl kk
theorem x2_put7 {v : Int32}  {idx : Nat} (h : jc p s m args c D vwCl (tyW cI cL cR) A n cc own Ts) (hin : ∀ x ∈ wsX20, x ∈ Ts) (hlink : Cond.fieldLink own idx RX2 "now" "I" ∈ Ts) (hd : decode cc pc = .ok (.putfield idx, 3))  (hc : 0 ∈ C) (kk : jj p l e R s m args below meth c Q D vwCl (tyW cI cL cR) A n (wX cI cL cR ad C (up2 f 18 0 v)) k w (pc + 3) lv st) : jj p l e R s m args below meth c Q D vwCl (tyW cI cL cR) A n (wX cI cL cR ad C f) k w pc lv (.int v :: .ref (ad (0)) :: st) := by
  intro H locs ls hP hD hS hl
  obtain ⟨q, hq, hw⟩ := wX_at (cI := cI) (cL := cL) (cR := cR) (ad := ad) (f := f) hc
  rw [gX_0 _ _ _ _ _] at hw
  exact (j_put (ref := RX2) (ty := .int) h q 7 tyX2 tyX2_ok nmX2 hd hin rfl (by decide) hlink (fun _ h9 => h9) rfl rfl rfl rfl hw (Nat.le_of_ble_eq_true rfl) (jj_ws (wX_set hD hq (fun z => by rw [gU_f7  z]; rfl)) kk)) H locs ls hP hD hS hl
theorem x2_get8  {idx : Nat} (h : jc p s m args c D vwCl (tyW cI cL cR) A n cc own Ts) (hin : ∀ x ∈ wsX20, x ∈ Ts) (hlink : Cond.fieldLink own idx RX2 "gap" "I" ∈ Ts) (hd : decode cc pc = .ok (.getfield idx, 3))  (hc : 0 ∈ C) (kk : jj p l e R s m args below meth c Q D vwCl (tyW cI cL cR) A n (wX cI cL cR ad C f) k w (pc + 3) lv (.int (f 15 0) :: st)) : jj p l e R s m args below meth c Q D vwCl (tyW cI cL cR) A n (wX cI cL cR ad C f) k w pc lv (.ref (ad (0)) :: st) := by
  obtain ⟨q, hq, hw⟩ := wX_at (cI := cI) (cL := cL) (cR := cR) (ad := ad) (f := f) hc
  rw [gX_0 _ _ _ _ _] at hw
  exact j_get (ref := RX2) h q 8 hd hin rfl (by decide) hlink (fun _ h9 => h9) hw rfl kk
theorem x2_put8 {v : Int32}  {idx : Nat} (h : jc p s m args c D vwCl (tyW cI cL cR) A n cc own Ts) (hin : ∀ x ∈ wsX20, x ∈ Ts) (hlink : Cond.fieldLink own idx RX2 "gap" "I" ∈ Ts) (hd : decode cc pc = .ok (.putfield idx, 3))  (hc : 0 ∈ C) (kk : jj p l e R s m args below meth c Q D vwCl (tyW cI cL cR) A n (wX cI cL cR ad C (up2 f 15 0 v)) k w (pc + 3) lv st) : jj p l e R s m args below meth c Q D vwCl (tyW cI cL cR) A n (wX cI cL cR ad C f) k w pc lv (.int v :: .ref (ad (0)) :: st) := by
  intro H locs ls hP hD hS hl
  obtain ⟨q, hq, hw⟩ := wX_at (cI := cI) (cL := cL) (cR := cR) (ad := ad) (f := f) hc
  rw [gX_0 _ _ _ _ _] at hw
  exact (j_put (ref := RX2) (ty := .int) h q 8 tyX2 tyX2_ok nmX2 hd hin rfl (by decide) hlink (fun _ h9 => h9) rfl rfl rfl rfl hw (Nat.le_of_ble_eq_true rfl) (jj_ws (wX_set hD hq (fun z => by rw [gU_f8  z]; rfl)) kk)) H locs ls hP hD hS hl
theorem x2_get9  {idx : Nat} (h : jc p s m args c D vwCl (tyW cI cL cR) A n cc own Ts) (hin : ∀ x ∈ wsX20, x ∈ Ts) (hlink : Cond.fieldLink own idx RX2 "base" "I" ∈ Ts) (hd : decode cc pc = .ok (.getfield idx, 3))  (hc : 0 ∈ C) (kk : jj p l e R s m args below meth c Q D vwCl (tyW cI cL cR) A n (wX cI cL cR ad C f) k w (pc + 3) lv (.int (f 16 0) :: st)) : jj p l e R s m args below meth c Q D vwCl (tyW cI cL cR) A n (wX cI cL cR ad C f) k w pc lv (.ref (ad (0)) :: st) := by
  obtain ⟨q, hq, hw⟩ := wX_at (cI := cI) (cL := cL) (cR := cR) (ad := ad) (f := f) hc
  rw [gX_0 _ _ _ _ _] at hw
  exact j_get (ref := RX2) h q 9 hd hin rfl (by decide) hlink (fun _ h9 => h9) hw rfl kk
theorem x2_put9 {v : Int32}  {idx : Nat} (h : jc p s m args c D vwCl (tyW cI cL cR) A n cc own Ts) (hin : ∀ x ∈ wsX20, x ∈ Ts) (hlink : Cond.fieldLink own idx RX2 "base" "I" ∈ Ts) (hd : decode cc pc = .ok (.putfield idx, 3))  (hc : 0 ∈ C) (kk : jj p l e R s m args below meth c Q D vwCl (tyW cI cL cR) A n (wX cI cL cR ad C (up2 f 16 0 v)) k w (pc + 3) lv st) : jj p l e R s m args below meth c Q D vwCl (tyW cI cL cR) A n (wX cI cL cR ad C f) k w pc lv (.int v :: .ref (ad (0)) :: st) := by
  intro H locs ls hP hD hS hl
  obtain ⟨q, hq, hw⟩ := wX_at (cI := cI) (cL := cL) (cR := cR) (ad := ad) (f := f) hc
  rw [gX_0 _ _ _ _ _] at hw
  exact (j_put (ref := RX2) (ty := .int) h q 9 tyX2 tyX2_ok nmX2 hd hin rfl (by decide) hlink (fun _ h9 => h9) rfl rfl rfl rfl hw (Nat.le_of_ble_eq_true rfl) (jj_ws (wX_set hD hq (fun z => by rw [gU_f9  z]; rfl)) kk)) H locs ls hP hD hS hl
theorem x2_get10  {idx : Nat} (h : jc p s m args c D vwCl (tyW cI cL cR) A n cc own Ts) (hin : ∀ x ∈ wsX20, x ∈ Ts) (hlink : Cond.fieldLink own idx RX2 "darkByGusts" "I" ∈ Ts) (hd : decode cc pc = .ok (.getfield idx, 3))  (hc : 0 ∈ C) (kk : jj p l e R s m args below meth c Q D vwCl (tyW cI cL cR) A n (wX cI cL cR ad C f) k w (pc + 3) lv (.int (f 19 0) :: st)) : jj p l e R s m args below meth c Q D vwCl (tyW cI cL cR) A n (wX cI cL cR ad C f) k w pc lv (.ref (ad (0)) :: st) := by
  obtain ⟨q, hq, hw⟩ := wX_at (cI := cI) (cL := cL) (cR := cR) (ad := ad) (f := f) hc
  rw [gX_0 _ _ _ _ _] at hw
  exact j_get (ref := RX2) h q 10 hd hin rfl (by decide) hlink (fun _ h9 => h9) hw rfl kk
theorem x2_put10 {v : Int32}  {idx : Nat} (h : jc p s m args c D vwCl (tyW cI cL cR) A n cc own Ts) (hin : ∀ x ∈ wsX20, x ∈ Ts) (hlink : Cond.fieldLink own idx RX2 "darkByGusts" "I" ∈ Ts) (hd : decode cc pc = .ok (.putfield idx, 3))  (hc : 0 ∈ C) (kk : jj p l e R s m args below meth c Q D vwCl (tyW cI cL cR) A n (wX cI cL cR ad C (up2 f 19 0 v)) k w (pc + 3) lv st) : jj p l e R s m args below meth c Q D vwCl (tyW cI cL cR) A n (wX cI cL cR ad C f) k w pc lv (.int v :: .ref (ad (0)) :: st) := by
  intro H locs ls hP hD hS hl
  obtain ⟨q, hq, hw⟩ := wX_at (cI := cI) (cL := cL) (cR := cR) (ad := ad) (f := f) hc
  rw [gX_0 _ _ _ _ _] at hw
  exact (j_put (ref := RX2) (ty := .int) h q 10 tyX2 tyX2_ok nmX2 hd hin rfl (by decide) hlink (fun _ h9 => h9) rfl rfl rfl rfl hw (Nat.le_of_ble_eq_true rfl) (jj_ws (wX_set hD hq (fun z => by rw [gU_f10  z]; rfl)) kk)) H locs ls hP hD hS hl
theorem x2_get11  {idx : Nat} (h : jc p s m args c D vwCl (tyW cI cL cR) A n cc own Ts) (hin : ∀ x ∈ wsX20, x ∈ Ts) (hlink : Cond.fieldLink own idx RX2 "darkByMarshal" "I" ∈ Ts) (hd : decode cc pc = .ok (.getfield idx, 3))  (hc : 0 ∈ C) (kk : jj p l e R s m args below meth c Q D vwCl (tyW cI cL cR) A n (wX cI cL cR ad C f) k w (pc + 3) lv (.int (f 20 0) :: st)) : jj p l e R s m args below meth c Q D vwCl (tyW cI cL cR) A n (wX cI cL cR ad C f) k w pc lv (.ref (ad (0)) :: st) := by
  obtain ⟨q, hq, hw⟩ := wX_at (cI := cI) (cL := cL) (cR := cR) (ad := ad) (f := f) hc
  rw [gX_0 _ _ _ _ _] at hw
  exact j_get (ref := RX2) h q 11 hd hin rfl (by decide) hlink (fun _ h9 => h9) hw rfl kk
theorem x2_put11 {v : Int32}  {idx : Nat} (h : jc p s m args c D vwCl (tyW cI cL cR) A n cc own Ts) (hin : ∀ x ∈ wsX20, x ∈ Ts) (hlink : Cond.fieldLink own idx RX2 "darkByMarshal" "I" ∈ Ts) (hd : decode cc pc = .ok (.putfield idx, 3))  (hc : 0 ∈ C) (kk : jj p l e R s m args below meth c Q D vwCl (tyW cI cL cR) A n (wX cI cL cR ad C (up2 f 20 0 v)) k w (pc + 3) lv st) : jj p l e R s m args below meth c Q D vwCl (tyW cI cL cR) A n (wX cI cL cR ad C f) k w pc lv (.int v :: .ref (ad (0)) :: st) := by
  intro H locs ls hP hD hS hl
  obtain ⟨q, hq, hw⟩ := wX_at (cI := cI) (cL := cL) (cR := cR) (ad := ad) (f := f) hc
  rw [gX_0 _ _ _ _ _] at hw
  exact (j_put (ref := RX2) (ty := .int) h q 11 tyX2 tyX2_ok nmX2 hd hin rfl (by decide) hlink (fun _ h9 => h9) rfl rfl rfl rfl hw (Nat.le_of_ble_eq_true rfl) (jj_ws (wX_set hD hq (fun z => by rw [gU_f11  z]; rfl)) kk)) H locs ls hP hD hS hl
theorem x2_alen0  (h : jc p s m args c D vwCl (tyW cI cL cR) A n cc own Ts) (hd : decode cc pc = .ok (.arraylength, 1)) (hc : 1 ∈ C) (kk : jj p l e R s m args below meth c Q D vwCl (tyW cI cL cR) A n (wX cI cL cR ad C f) k w (pc + 1) lv (.int 24 :: st)) : jj p l e R s m args below meth c Q D vwCl (tyW cI cL cR) A n (wX cI cL cR ad C f) k w pc lv (.ref (ad (1)) :: st) := by
  obtain ⟨q, hq, hw⟩ := wX_at (cI := cI) (cL := cL) (cR := cR) (ad := ad) (f := f) hc
  rw [gX_1 _ _ _ _ _] at hw
  exact j_alen h q 1 hd hw rfl rfl kk
theorem x2_ald0  {b : Nat} {i : Int32} (h : jc p s m args c D vwCl (tyW cI cL cR) A n cc own Ts) (hd : decode cc pc = .ok (.aaload, 1)) (hc : 1 ∈ C) (hi : i = nI b) (hb : b < 24) (hv : f 22 b = -1 ∨ ∃ r, r < 24 ∧ f 22 b = nI r) (kn : f 22 b = -1 → jj p l e R s m args below meth c Q D vwCl (tyW cI cL cR) A n (wX cI cL cR ad C f) k w (pc + 1) lv (.null :: st)) (kr : ∀ r, r < 24 → f 22 b = nI r → jj p l e R s m args below meth c Q D vwCl (tyW cI cL cR) A n (wX cI cL cR ad C f) k w (pc + 1) lv (.ref (ad (5 + r)) :: st)) : jj p l e R s m args below meth c Q D vwCl (tyW cI cL cR) A n (wX cI cL cR ad C f) k w pc lv (.int i :: .ref (ad (1)) :: st) := by
  subst hi
  obtain ⟨q, hq, hw⟩ := wX_at (cI := cI) (cL := cL) (cR := cR) (ad := ad) (f := f) hc
  rw [gX_1 _ _ _ _ _] at hw
  refine j_aaldq h q 1 hd hw rfl (vp_in_nI hb (by decide)) ?_
  rw [nI_clamp (by omega)]
  rcases hv with hv | ⟨r, hr, hv⟩
  · rw [hv, ro_n]; exact kn hv
  · rw [hv, ro_s _ _ (by omega)]; exact kr r hr hv
theorem x2_ast0R  {b r : Nat} {i : Int32} (h : jc p s m args c D vwCl (tyW cI cL cR) A n cc own Ts) (hd : decode cc pc = .ok (.aastore, 1)) (hc : 1 ∈ C) (hr : r < 24) (hcr : 5 + r ∈ C) (hi : i = nI b) (hb : b < 24) (kk : jj p l e R s m args below meth c Q D vwCl (tyW cI cL cR) A n (wX cI cL cR ad C (up2 f 22 b (nI r))) k w (pc + 1) lv st) : jj p l e R s m args below meth c Q D vwCl (tyW cI cL cR) A n (wX cI cL cR ad C f) k w pc lv (.ref (ad (5 + r)) :: .int i :: .ref (ad (1)) :: st) := by
  subst hi
  intro H locs ls hP hD hS hl
  obtain ⟨q, hq, hw⟩ := wX_at (cI := cI) (cL := cL) (cR := cR) (ad := ad) (f := f) hc
  obtain ⟨q2, hq2, hw2⟩ := wX_at (cI := cI) (cL := cL) (cR := cR) (ad := ad) (f := f) hcr
  rw [gX_1 _ _ _ _ _] at hw
  rw [gX_l _ _ _ _ _ hr] at hw2
  exact (j_aast (r := (RX0, TX0, 7)) h q 1 q2 hd hw rfl hw2 rfl (vp_in_nI hb (by decide)) (jj_ws (wX_set hD hq (fun z => by rw [gU_a0, ro_s _ _ (by omega), nI_clamp (by omega)])) kk)) H locs ls hP hD hS hl
theorem x2_ast0N  {b : Nat} {i : Int32} (h : jc p s m args c D vwCl (tyW cI cL cR) A n cc own Ts) (hd : decode cc pc = .ok (.aastore, 1)) (hc : 1 ∈ C) (hi : i = nI b) (hb : b < 24) (kk : jj p l e R s m args below meth c Q D vwCl (tyW cI cL cR) A n (wX cI cL cR ad C (up2 f 22 b (-1))) k w (pc + 1) lv st) : jj p l e R s m args below meth c Q D vwCl (tyW cI cL cR) A n (wX cI cL cR ad C f) k w pc lv (.null :: .int i :: .ref (ad (1)) :: st) := by
  subst hi
  intro H locs ls hP hD hS hl
  obtain ⟨q, hq, hw⟩ := wX_at (cI := cI) (cL := cL) (cR := cR) (ad := ad) (f := f) hc
  rw [gX_1 _ _ _ _ _] at hw
  exact (j_aastN h q 1 hd hw rfl (vp_in_nI hb (by decide)) (jj_ws (wX_set hD hq (fun z => by rw [gU_a0, ro_n, nI_clamp (by omega)])) kk)) H locs ls hP hD hS hl
theorem x2_alen1  (h : jc p s m args c D vwCl (tyW cI cL cR) A n cc own Ts) (hd : decode cc pc = .ok (.arraylength, 1)) (hc : 2 ∈ C) (kk : jj p l e R s m args below meth c Q D vwCl (tyW cI cL cR) A n (wX cI cL cR ad C f) k w (pc + 1) lv (.int 8 :: st)) : jj p l e R s m args below meth c Q D vwCl (tyW cI cL cR) A n (wX cI cL cR ad C f) k w pc lv (.ref (ad (2)) :: st) := by
  obtain ⟨q, hq, hw⟩ := wX_at (cI := cI) (cL := cL) (cR := cR) (ad := ad) (f := f) hc
  rw [gX_2 _ _ _ _ _] at hw
  exact j_alen h q 2 hd hw rfl rfl kk
theorem x2_ald1  {b : Nat} {i : Int32} (h : jc p s m args c D vwCl (tyW cI cL cR) A n cc own Ts) (hd : decode cc pc = .ok (.aaload, 1)) (hc : 2 ∈ C) (hi : i = nI b) (hb : b < 8) (hv : f 23 b = -1 ∨ ∃ r, r < 8 ∧ f 23 b = nI r) (kn : f 23 b = -1 → jj p l e R s m args below meth c Q D vwCl (tyW cI cL cR) A n (wX cI cL cR ad C f) k w (pc + 1) lv (.null :: st)) (kr : ∀ r, r < 8 → f 23 b = nI r → jj p l e R s m args below meth c Q D vwCl (tyW cI cL cR) A n (wX cI cL cR ad C f) k w (pc + 1) lv (.ref (ad (29 + r)) :: st)) : jj p l e R s m args below meth c Q D vwCl (tyW cI cL cR) A n (wX cI cL cR ad C f) k w pc lv (.int i :: .ref (ad (2)) :: st) := by
  subst hi
  obtain ⟨q, hq, hw⟩ := wX_at (cI := cI) (cL := cL) (cR := cR) (ad := ad) (f := f) hc
  rw [gX_2 _ _ _ _ _] at hw
  refine j_aaldq h q 2 hd hw rfl (vp_in_nI hb (by decide)) ?_
  rw [nI_clamp (by omega)]
  rcases hv with hv | ⟨r, hr, hv⟩
  · rw [hv, ro_n]; exact kn hv
  · rw [hv, ro_s _ _ (by omega)]; exact kr r hr hv
theorem x2_ast1R  {b r : Nat} {i : Int32} (h : jc p s m args c D vwCl (tyW cI cL cR) A n cc own Ts) (hd : decode cc pc = .ok (.aastore, 1)) (hc : 2 ∈ C) (hr : r < 8) (hcr : 29 + r ∈ C) (hi : i = nI b) (hb : b < 8) (kk : jj p l e R s m args below meth c Q D vwCl (tyW cI cL cR) A n (wX cI cL cR ad C (up2 f 23 b (nI r))) k w (pc + 1) lv st) : jj p l e R s m args below meth c Q D vwCl (tyW cI cL cR) A n (wX cI cL cR ad C f) k w pc lv (.ref (ad (29 + r)) :: .int i :: .ref (ad (2)) :: st) := by
  subst hi
  intro H locs ls hP hD hS hl
  obtain ⟨q, hq, hw⟩ := wX_at (cI := cI) (cL := cL) (cR := cR) (ad := ad) (f := f) hc
  obtain ⟨q2, hq2, hw2⟩ := wX_at (cI := cI) (cL := cL) (cR := cR) (ad := ad) (f := f) hcr
  rw [gX_2 _ _ _ _ _] at hw
  rw [gX_r _ _ _ _ _ hr] at hw2
  exact (j_aast (r := (RX1, TX1, 7)) h q 2 q2 hd hw rfl hw2 rfl (vp_in_nI hb (by decide)) (jj_ws (wX_set hD hq (fun z => by rw [gU_a1, ro_s _ _ (by omega), nI_clamp (by omega)])) kk)) H locs ls hP hD hS hl
theorem x2_ast1N  {b : Nat} {i : Int32} (h : jc p s m args c D vwCl (tyW cI cL cR) A n cc own Ts) (hd : decode cc pc = .ok (.aastore, 1)) (hc : 2 ∈ C) (hi : i = nI b) (hb : b < 8) (kk : jj p l e R s m args below meth c Q D vwCl (tyW cI cL cR) A n (wX cI cL cR ad C (up2 f 23 b (-1))) k w (pc + 1) lv st) : jj p l e R s m args below meth c Q D vwCl (tyW cI cL cR) A n (wX cI cL cR ad C f) k w pc lv (.null :: .int i :: .ref (ad (2)) :: st) := by
  subst hi
  intro H locs ls hP hD hS hl
  obtain ⟨q, hq, hw⟩ := wX_at (cI := cI) (cL := cL) (cR := cR) (ad := ad) (f := f) hc
  rw [gX_2 _ _ _ _ _] at hw
  exact (j_aastN h q 2 hd hw rfl (vp_in_nI hb (by decide)) (jj_ws (wX_set hD hq (fun z => by rw [gU_a1, ro_n, nI_clamp (by omega)])) kk)) H locs ls hP hD hS hl
theorem x2_alen2  (h : jc p s m args c D vwCl (tyW cI cL cR) A n cc own Ts) (hd : decode cc pc = .ok (.arraylength, 1)) (hc : 3 ∈ C) (kk : jj p l e R s m args below meth c Q D vwCl (tyW cI cL cR) A n (wX cI cL cR ad C f) k w (pc + 1) lv (.int 8 :: st)) : jj p l e R s m args below meth c Q D vwCl (tyW cI cL cR) A n (wX cI cL cR ad C f) k w pc lv (.ref (ad (3)) :: st) := by
  obtain ⟨q, hq, hw⟩ := wX_at (cI := cI) (cL := cL) (cR := cR) (ad := ad) (f := f) hc
  rw [gX_3 _ _ _ _ _] at hw
  exact j_alen h q 2 hd hw rfl rfl kk
theorem x2_ald2  {b : Nat} {i : Int32} (h : jc p s m args c D vwCl (tyW cI cL cR) A n cc own Ts) (hd : decode cc pc = .ok (.aaload, 1)) (hc : 3 ∈ C) (hi : i = nI b) (hb : b < 8) (hv : f 12 b = -1 ∨ ∃ r, r < 8 ∧ f 12 b = nI r) (kn : f 12 b = -1 → jj p l e R s m args below meth c Q D vwCl (tyW cI cL cR) A n (wX cI cL cR ad C f) k w (pc + 1) lv (.null :: st)) (kr : ∀ r, r < 8 → f 12 b = nI r → jj p l e R s m args below meth c Q D vwCl (tyW cI cL cR) A n (wX cI cL cR ad C f) k w (pc + 1) lv (.ref (ad (29 + r)) :: st)) : jj p l e R s m args below meth c Q D vwCl (tyW cI cL cR) A n (wX cI cL cR ad C f) k w pc lv (.int i :: .ref (ad (3)) :: st) := by
  subst hi
  obtain ⟨q, hq, hw⟩ := wX_at (cI := cI) (cL := cL) (cR := cR) (ad := ad) (f := f) hc
  rw [gX_3 _ _ _ _ _] at hw
  refine j_aaldq h q 2 hd hw rfl (vp_in_nI hb (by decide)) ?_
  rw [nI_clamp (by omega)]
  rcases hv with hv | ⟨r, hr, hv⟩
  · rw [hv, ro_n]; exact kn hv
  · rw [hv, ro_s _ _ (by omega)]; exact kr r hr hv
theorem x2_ast2R  {b r : Nat} {i : Int32} (h : jc p s m args c D vwCl (tyW cI cL cR) A n cc own Ts) (hd : decode cc pc = .ok (.aastore, 1)) (hc : 3 ∈ C) (hr : r < 8) (hcr : 29 + r ∈ C) (hi : i = nI b) (hb : b < 8) (kk : jj p l e R s m args below meth c Q D vwCl (tyW cI cL cR) A n (wX cI cL cR ad C (up2 f 12 b (nI r))) k w (pc + 1) lv st) : jj p l e R s m args below meth c Q D vwCl (tyW cI cL cR) A n (wX cI cL cR ad C f) k w pc lv (.ref (ad (29 + r)) :: .int i :: .ref (ad (3)) :: st) := by
  subst hi
  intro H locs ls hP hD hS hl
  obtain ⟨q, hq, hw⟩ := wX_at (cI := cI) (cL := cL) (cR := cR) (ad := ad) (f := f) hc
  obtain ⟨q2, hq2, hw2⟩ := wX_at (cI := cI) (cL := cL) (cR := cR) (ad := ad) (f := f) hcr
  rw [gX_3 _ _ _ _ _] at hw
  rw [gX_r _ _ _ _ _ hr] at hw2
  exact (j_aast (r := (RX1, TX1, 7)) h q 2 q2 hd hw rfl hw2 rfl (vp_in_nI hb (by decide)) (jj_ws (wX_set hD hq (fun z => by rw [gU_a2, ro_s _ _ (by omega), nI_clamp (by omega)])) kk)) H locs ls hP hD hS hl
theorem x2_ast2N  {b : Nat} {i : Int32} (h : jc p s m args c D vwCl (tyW cI cL cR) A n cc own Ts) (hd : decode cc pc = .ok (.aastore, 1)) (hc : 3 ∈ C) (hi : i = nI b) (hb : b < 8) (kk : jj p l e R s m args below meth c Q D vwCl (tyW cI cL cR) A n (wX cI cL cR ad C (up2 f 12 b (-1))) k w (pc + 1) lv st) : jj p l e R s m args below meth c Q D vwCl (tyW cI cL cR) A n (wX cI cL cR ad C f) k w pc lv (.null :: .int i :: .ref (ad (3)) :: st) := by
  subst hi
  intro H locs ls hP hD hS hl
  obtain ⟨q, hq, hw⟩ := wX_at (cI := cI) (cL := cL) (cR := cR) (ad := ad) (f := f) hc
  rw [gX_3 _ _ _ _ _] at hw
  exact (j_aastN h q 2 hd hw rfl (vp_in_nI hb (by decide)) (jj_ws (wX_set hD hq (fun z => by rw [gU_a2, ro_n, nI_clamp (by omega)])) kk)) H locs ls hP hD hS hl
theorem x1_alen3 {k0 : Nat} (h : jc p s m args c D vwCl (tyW cI cL cR) A n cc own Ts) (hd : decode cc pc = .ok (.arraylength, 1)) (hc : 37 + k0 ∈ C) (kk : jj p l e R s m args below meth c Q D vwCl (tyW cI cL cR) A n (wX cI cL cR ad C f) k w (pc + 1) lv (.int 10 :: st)) : jj p l e R s m args below meth c Q D vwCl (tyW cI cL cR) A n (wX cI cL cR ad C f) k w pc lv (.ref (ad (37 + k0)) :: st) := by
  obtain ⟨q, hq, hw⟩ := wX_at (cI := cI) (cL := cL) (cR := cR) (ad := ad) (f := f) hc
  rw [gX_s _ _ _ _ _ _] at hw
  exact j_alen h q 1 hd hw rfl rfl kk
theorem x1_ald3 {k0 : Nat} {b : Nat} {i : Int32} (h : jc p s m args c D vwCl (tyW cI cL cR) A n cc own Ts) (hd : decode cc pc = .ok (.aaload, 1)) (hc : 37 + k0 ∈ C) (hi : i = nI b) (hb : b < 10) (hv : f (30 + k0) b = -1 ∨ ∃ r, r < 24 ∧ f (30 + k0) b = nI r) (kn : f (30 + k0) b = -1 → jj p l e R s m args below meth c Q D vwCl (tyW cI cL cR) A n (wX cI cL cR ad C f) k w (pc + 1) lv (.null :: st)) (kr : ∀ r, r < 24 → f (30 + k0) b = nI r → jj p l e R s m args below meth c Q D vwCl (tyW cI cL cR) A n (wX cI cL cR ad C f) k w (pc + 1) lv (.ref (ad (5 + r)) :: st)) : jj p l e R s m args below meth c Q D vwCl (tyW cI cL cR) A n (wX cI cL cR ad C f) k w pc lv (.int i :: .ref (ad (37 + k0)) :: st) := by
  subst hi
  obtain ⟨q, hq, hw⟩ := wX_at (cI := cI) (cL := cL) (cR := cR) (ad := ad) (f := f) hc
  rw [gX_s _ _ _ _ _ _] at hw
  refine j_aaldq h q 1 hd hw rfl (vp_in_nI hb (by decide)) ?_
  rw [nI_clamp (by omega)]
  rcases hv with hv | ⟨r, hr, hv⟩
  · rw [hv, ro_n]; exact kn hv
  · rw [hv, ro_s _ _ (by omega)]; exact kr r hr hv
theorem x1_ast3R {k0 : Nat} {b r : Nat} {i : Int32} (h : jc p s m args c D vwCl (tyW cI cL cR) A n cc own Ts) (hd : decode cc pc = .ok (.aastore, 1)) (hc : 37 + k0 ∈ C) (hr : r < 24) (hcr : 5 + r ∈ C) (hi : i = nI b) (hb : b < 10) (kk : jj p l e R s m args below meth c Q D vwCl (tyW cI cL cR) A n (wX cI cL cR ad C (up2 f (30 + k0) b (nI r))) k w (pc + 1) lv st) : jj p l e R s m args below meth c Q D vwCl (tyW cI cL cR) A n (wX cI cL cR ad C f) k w pc lv (.ref (ad (5 + r)) :: .int i :: .ref (ad (37 + k0)) :: st) := by
  subst hi
  intro H locs ls hP hD hS hl
  obtain ⟨q, hq, hw⟩ := wX_at (cI := cI) (cL := cL) (cR := cR) (ad := ad) (f := f) hc
  obtain ⟨q2, hq2, hw2⟩ := wX_at (cI := cI) (cL := cL) (cR := cR) (ad := ad) (f := f) hcr
  rw [gX_s _ _ _ _ _ _] at hw
  rw [gX_l _ _ _ _ _ hr] at hw2
  exact (j_aast (r := (RX0, TX0, 7)) h q 1 q2 hd hw rfl hw2 rfl (vp_in_nI hb (by decide)) (jj_ws (wX_set hD hq (fun z => by rw [gU_sl, ro_s _ _ (by omega), nI_clamp (by omega)])) kk)) H locs ls hP hD hS hl
theorem x1_ast3N {k0 : Nat} {b : Nat} {i : Int32} (h : jc p s m args c D vwCl (tyW cI cL cR) A n cc own Ts) (hd : decode cc pc = .ok (.aastore, 1)) (hc : 37 + k0 ∈ C) (hi : i = nI b) (hb : b < 10) (kk : jj p l e R s m args below meth c Q D vwCl (tyW cI cL cR) A n (wX cI cL cR ad C (up2 f (30 + k0) b (-1))) k w (pc + 1) lv st) : jj p l e R s m args below meth c Q D vwCl (tyW cI cL cR) A n (wX cI cL cR ad C f) k w pc lv (.null :: .int i :: .ref (ad (37 + k0)) :: st) := by
  subst hi
  intro H locs ls hP hD hS hl
  obtain ⟨q, hq, hw⟩ := wX_at (cI := cI) (cL := cL) (cR := cR) (ad := ad) (f := f) hc
  rw [gX_s _ _ _ _ _ _] at hw
  exact (j_aastN h q 1 hd hw rfl (vp_in_nI hb (by decide)) (jj_ws (wX_set hD hq (fun z => by rw [gU_sl, ro_n, nI_clamp (by omega)])) kk)) H locs ls hP hD hS hl
theorem x2_ald3 {b : Nat} {i : Int32} (h : jc p s m args c D vwCl (tyW cI cL cR) A n cc own Ts) (hd : decode cc pc = .ok (.iaload, 1)) (hc : 4 ∈ C) (hi : i = nI b) (hb : b < 401) (kk : jj p l e R s m args below meth c Q D vwCl (tyW cI cL cR) A n (wX cI cL cR ad C f) k w (pc + 1) lv (.int (f 17 b) :: st)) : jj p l e R s m args below meth c Q D vwCl (tyW cI cL cR) A n (wX cI cL cR ad C f) k w pc lv (.int i :: .ref (ad 4) :: st) := by
  subst hi
  obtain ⟨q, hq, hw⟩ := wX_at (cI := cI) (cL := cL) (cR := cR) (ad := ad) (f := f) hc
  rw [gX_4] at hw
  refine j_iald h q 0 hd hw rfl (vp_in_nI hb (by decide)) ?_
  rw [nI_clamp (by omega)]
  exact kk
theorem x2_ast3 {b : Nat} {i v : Int32} (h : jc p s m args c D vwCl (tyW cI cL cR) A n cc own Ts) (hd : decode cc pc = .ok (.iastore, 1)) (hc : 4 ∈ C) (hi : i = nI b) (hb : b < 401) (kk : jj p l e R s m args below meth c Q D vwCl (tyW cI cL cR) A n (wX cI cL cR ad C (up2 f 17 b v)) k w (pc + 1) lv st) : jj p l e R s m args below meth c Q D vwCl (tyW cI cL cR) A n (wX cI cL cR ad C f) k w pc lv (.int v :: .int i :: .ref (ad 4) :: st) := by
  subst hi
  intro H locs ls hP hD hS hl
  obtain ⟨q, hq, hw⟩ := wX_at (cI := cI) (cL := cL) (cR := cR) (ad := ad) (f := f) hc
  rw [gX_4] at hw
  exact (j_iast h q 0 hd hw rfl (vp_in_nI hb (by decide)) (jj_ws (wX_set hD hq (fun z => by rw [gU_gu, nI_clamp (by omega)])) kk)) H locs ls hP hD hS hl
theorem wX_recv {a : Nat} (h : a ∈ C) : ∃ q : Nat, (wX cI cL cR ad C f)[q]? = some (ad a, gX cI cL cR ad f a) := (wX_at h).imp fun _ z => z.2
theorem x_acmp_eq (h : jc p s m args c D vwCl (tyW cI cL cR) A n cc own Ts) {x1 x2 : Nat} {off : Int} {tgt : Nat} (hd : decode cc pc = .ok (.if_acmp .eq off, 3)) (ht : (pc : Int) + off = (tgt : Int)) (h1 : x1 ∈ C) (h2 : x2 ∈ C) (kt : x1 = x2 → jj p l e R s m args below meth c Q D vwCl (tyW cI cL cR) A n (wX cI cL cR ad C f) k w tgt lv st) (kf : ¬ x1 = x2 → jj p l e R s m args below meth c Q D vwCl (tyW cI cL cR) A n (wX cI cL cR ad C f) k w (pc + 3) lv st) : jj p l e R s m args below meth c Q D vwCl (tyW cI cL cR) A n (wX cI cL cR ad C f) k w pc lv (.ref (ad x2) :: .ref (ad x1) :: st) := by
  intro H locs ls hP hD hS hl
  obtain ⟨q1, hq1, hw1⟩ := wX_at (cI := cI) (cL := cL) (cR := cR) (ad := ad) (f := f) h1
  obtain ⟨q2, hq2, hw2⟩ := wX_at (cI := cI) (cL := cL) (cR := cR) (ad := ad) (f := f) h2
  have key : q1 = q2 ↔ x1 = x2 := ⟨fun z => by subst z; exact Option.some.inj (hq1.symm.trans hq2), fun z => by subst z; exact hD.1 q1 q2 _ _ hw1 hw2 rfl⟩
  exact (j_acmp_eq h q1 q2 hd ht hw1 hw2 (fun z => kt (by first | exact key.mp z | exact fun u => z (key.mpr u))) (fun z => kf (by first | exact key.mp z | exact fun u => z (key.mpr u)))) H locs ls hP hD hS hl
theorem x_acmp_ne (h : jc p s m args c D vwCl (tyW cI cL cR) A n cc own Ts) {x1 x2 : Nat} {off : Int} {tgt : Nat} (hd : decode cc pc = .ok (.if_acmp .ne off, 3)) (ht : (pc : Int) + off = (tgt : Int)) (h1 : x1 ∈ C) (h2 : x2 ∈ C) (kt : ¬ x1 = x2 → jj p l e R s m args below meth c Q D vwCl (tyW cI cL cR) A n (wX cI cL cR ad C f) k w tgt lv st) (kf : x1 = x2 → jj p l e R s m args below meth c Q D vwCl (tyW cI cL cR) A n (wX cI cL cR ad C f) k w (pc + 3) lv st) : jj p l e R s m args below meth c Q D vwCl (tyW cI cL cR) A n (wX cI cL cR ad C f) k w pc lv (.ref (ad x2) :: .ref (ad x1) :: st) := by
  intro H locs ls hP hD hS hl
  obtain ⟨q1, hq1, hw1⟩ := wX_at (cI := cI) (cL := cL) (cR := cR) (ad := ad) (f := f) h1
  obtain ⟨q2, hq2, hw2⟩ := wX_at (cI := cI) (cL := cL) (cR := cR) (ad := ad) (f := f) h2
  have key : q1 = q2 ↔ x1 = x2 := ⟨fun z => by subst z; exact Option.some.inj (hq1.symm.trans hq2), fun z => by subst z; exact hD.1 q1 q2 _ _ hw1 hw2 rfl⟩
  exact (j_acmp_ne h q1 q2 hd ht hw1 hw2 (fun z => kt (by first | exact key.mp z | exact fun u => z (key.mpr u))) (fun z => kf (by first | exact key.mp z | exact fun u => z (key.mpr u)))) H locs ls hP hD hS hl
end XW
