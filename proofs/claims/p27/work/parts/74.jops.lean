/-! what the calls leave: the law's numbers and the class's -/
theorem up2_comm (f : St) {j j2 : Nat} (h : j ≠ j2) (k k2 : Nat) (v v2 : Int32) : up2 (up2 f j k v) j2 k2 v2 = up2 (up2 f j2 k2 v2) j k v := by
  funext a c
  by_cases e : a = j
  · subst e
    rw [up2_fld _ _ _ h]
    by_cases e2 : c = k
    · subst e2; rw [up2_self, up2_self]
    · rw [up2_ne _ _ _ e2, up2_ne _ _ _ e2, up2_fld _ _ _ h]
  · by_cases e2 : a = j2
    · subst e2
      rw [up2_fld (up2 f a k2 v2) _ _ e]
      by_cases e3 : c = k2
      · subst e3; rw [up2_self, up2_self]
      · rw [up2_ne _ _ _ e3, up2_ne _ _ _ e3, up2_fld _ _ _ e]
    · rw [up2_fld _ _ _ e2, up2_fld _ _ _ e, up2_fld _ _ _ e, up2_fld _ _ _ e2]
section JOPS
variable {n b q d tm : Nat} {φ ψ φ' ψ' : St} {C : List Nat}
theorem Jr.of (R : Jr n b q d φ ψ) (hR : Rl n b q φ' (ov φ' ψ')) (e13 : ψ' 13 = ψ 13) (e12 : ψ' 12 = ψ 12) (f12 : φ' 12 = φ 12) (f10 : φ' 10 = φ 10) (f17 : ∀ t, 64 ≤ t → φ' 17 t = φ 17 t) (e10 : ψ' 10 = ψ 10) : Jr n b q d φ' ψ' := ⟨hR, R.n8, R.b5, R.dq, by rw [e13]; exact R.h13, by rw [e12, f12]; exact R.h12, by rw [f10, f12]; exact R.gn, by rw [f10, f12]; exact R.rv, fun t ht => by rw [f17 t ht]; exact R.g0 t ht, by rw [e10]; exact R.z10⟩
theorem Jr.up (R : Jr n b q d φ ψ) {j : Nat} (hj : j ≠ 5 ∧ j ≠ 10 ∧ j ≠ 12 ∧ j ≠ 13 ∧ j ≠ 17) (k : Nat) (v : Int32) : Jr n b q d (up2 φ j k v) (up2 ψ j k v) :=
  R.of (by rw [ov_up _ _ (by omega), ov_c _ (up2_fld _ _ _ (by omega)) (up2_fld _ _ _ (by omega))]; exact R.r.up (by omega) (by omega) _ _) (up2_fld _ _ _ (by omega)) (up2_fld _ _ _ (by omega)) (up2_fld _ _ _ (by omega)) (up2_fld _ _ _ (by omega)) (fun t _ => by rw [up2_fld _ _ _ (by omega)]) (up2_fld _ _ _ (by omega))
theorem Jr.gust (R : Jr n b q d φ ψ) {t : Nat} (ht : t < 64) (v : Int32) : Jr n b q d (up2 φ 17 t v) (up2 ψ 17 t v) :=
  R.of (by rw [ov_up _ _ (by decide), ov_c _ (up2_fld _ _ _ (by decide)) (up2_fld _ _ _ (by decide))]; exact R.r.up (by decide) (by decide) _ _) (up2_fld _ _ _ (by decide)) (up2_fld _ _ _ (by decide)) (up2_fld _ _ _ (by decide)) (up2_fld _ _ _ (by decide)) (fun t2 h2 => by rw [up2_ne _ _ _ (by omega)]) (up2_fld _ _ _ (by decide))
theorem Jr.hang (R : Jr n b q d φ ψ) (r s : Nat) {k : Nat} (hk : k < n) : Jr n b q d (hnF φ r s k) (up2 (up2 ψ 5 k (nI r)) 6 k (nI s)) :=
  R.of (by rw [ov_up _ _ (by decide), ov_up _ _ (by decide), ov_c _ (hn_f φ r s k (by decide) (by decide)) (hn_f φ r s k (by decide) (by decide))]; exact R.r.hang r s hk) (by rw [up2_fld _ _ _ (by decide), up2_fld _ _ _ (by decide)]) (by rw [up2_fld _ _ _ (by decide), up2_fld _ _ _ (by decide)]) (hn_f φ r s k (by decide) (by decide)) (hn_f φ r s k (by decide) (by decide)) (fun t _ => by rw [hn_f φ r s k (by decide) (by decide)]) (by rw [up2_fld _ _ _ (by decide), up2_fld _ _ _ (by decide)])
theorem Jr.take (R : Jr n b q d φ ψ) (i : IV n b q tm φ C) {r k : Nat} (hk : k < n) : Jr n b q d (tkF φ r k) (up2 (up2 ψ 5 k (-1)) 3 k (if ψ 3 k = 1 then 0 else ψ 3 k)) := by
  have e3 := R.l (j := 3) (by decide) hk
  have hst := i.st k hk
  rw [e3] at hst
  have ev : (if ψ 3 k = 1 then (0 : Int32) else ψ 3 k) = if ψ 3 k = 2 then 2 else 0 := by rcases hst with z | z | z <;> rw [z] <;> rfl
  refine R.of ?_ (by rw [up2_fld _ _ _ (by decide), up2_fld _ _ _ (by decide)]) (by rw [up2_fld _ _ _ (by decide), up2_fld _ _ _ (by decide)]) (tk_f φ r k (by decide) (by decide)) (tk_f φ r k (by decide) (by decide)) (fun t _ => by rw [tk_f φ r k (by decide) (by decide)]) (by rw [up2_fld _ _ _ (by decide), up2_fld _ _ _ (by decide)])
  rw [ov_up _ _ (by decide), ov_up _ _ (by decide), ov_c _ (tk_f φ r k (by decide) (by decide)) (tk_f φ r k (by decide) (by decide)), ev]
  exact R.r.take hk i.x.2.1
theorem Jr.la (R : Jr n b q d φ ψ) (i : IV n b q tm φ C) {a : Nat} (ha : a < b) (h0 : φ 10 a = 0) : Jr n b (q + 1) d (laF φ q a) (up2 (up2 (up2 (up2 ψ 10 a 1) 11 a 9) 12 (q - d) (nI a)) 13 0 (nI (q - d + 1))) := by
  have hb := i.x.2.1
  have hd := R.dq
  have l12 : ∀ c, laF φ q a 12 c = if c = q then nI a else φ 12 c := fun c => rfl
  have l10 : ∀ c, laF φ q a 10 c = if c = a then 1 else φ 10 c := fun c => rfl
  have hne : ∀ c, c < q → N (φ 12 c) ≠ a := fun c hc z => by
    obtain ⟨r, hr, e⟩ := i.x.o c hc
    rw [e, nIN (by omega)] at z
    subst z
    exact i.lc.2.2.1 r hr h0 c hc e
  refine ⟨?_, R.n8, R.b5, by omega, ?_, fun c hc => ?_, fun c hc => ?_, fun c h1 h2 => ?_, fun t ht => ?_, fun r hr => ?_⟩
  · have e : ov (laF φ q a) (up2 (up2 (up2 (up2 ψ 10 a 1) 11 a 9) 12 (q - d) (nI a)) 13 0 (nI (q - d + 1))) = up2 (up2 (up2 (up2 (ov φ ψ) 10 a 1) 11 a 9) 12 q (nI a)) 13 0 (nI (q + 1)) := by
      rw [ov_o _ _ (Or.inr rfl), ov_o _ _ (Or.inl rfl), ov_up _ _ (by decide), ov_up _ _ (by decide)]
      funext x c
      by_cases h13 : x = 13
      · subst h13; rfl
      · by_cases h12 : x = 12
        · subst h12; rfl
        · rw [up2_fld _ _ _ h13, up2_fld _ _ _ h12]
          by_cases h11 : x = 11
          · subst h11; rfl
          · rw [up2_fld _ _ _ h11, up2_fld _ _ _ h11]
            by_cases hx : x = 10
            · subst hx; rfl
            · rw [up2_fld _ _ _ hx, up2_fld _ _ _ hx, ov_n _ _ ⟨h12, h13⟩, ov_n _ _ ⟨h12, h13⟩]
    rw [e]
    exact R.r.la a
  · rw [up2_self, show q + 1 - d = q - d + 1 by omega]
  · rw [up2_fld _ _ _ (by decide), l12]
    by_cases e : c = q - d
    · subst e; rw [up2_self, if_pos (by omega)]
    · rw [up2_ne _ _ _ e, if_neg (by omega), up2_fld _ _ _ (by decide), up2_fld _ _ _ (by decide)]
      exact R.h12 c (by omega)
  · rw [l12, if_neg (by omega), l10, if_neg (hne c (by omega))]; exact R.gn c hc
  · rw [l12]
    by_cases e : c = q
    · rw [if_pos e, nIN (by omega), l10, if_pos rfl]
    · rw [if_neg e, l10, if_neg (hne c (by omega))]; exact R.rv c h1 (by omega)
  · rw [la_f φ q a (by decide)]; exact R.g0 t ht
  · rw [up2_fld _ _ _ (by decide), up2_fld _ _ _ (by decide), up2_fld _ _ _ (by decide), up2_ne _ _ _ (by omega)]; exact R.z10 r hr
theorem Jr.mk (R : Jr n b q d φ ψ) (i : IV n b q tm φ C) (hn : n < 8) (x y z : Int32) : Jr (n + 1) b q d (mkF φ n x y z) (up2 (up2 (up2 (up2 (up2 (up2 (up2 ψ 0 n x) 1 n y) 2 n z) 3 n 0) 4 n (20 * z)) 5 n (-1)) 7 0 (nI (n + 1))) := by
  have hR : Rl n b q φ (up2 (ov φ ψ) 3 n 0) := by
    have h := R.r
    refine ⟨fun j hj => by rw [up2_fld _ _ _ (by omega)]; exact h.n0 hj, fun j hj k hk => ?_, fun k hk z => by rw [up2_fld _ _ _ (by decide)]; exact h.s6 hk z, fun j hj r hr => by rw [up2_fld _ _ _ (by omega)]; exact h.r hj hr, fun r hr z => by rw [up2_fld _ _ _ (by decide)]; exact h.fr hr z, fun c hc => by rw [up2_fld _ _ _ (by decide)]; exact h.o hc, by rw [up2_fld _ _ _ (by decide)]; exact h.gu⟩
    by_cases e : j = 3
    · subst e; rw [up2_ne _ _ _ (by omega)]; exact h.l hj hk
    · rw [up2_fld _ _ _ e]; exact h.l hj hk
  have h12 : mkF φ n x y z 12 = φ 12 := mk_f φ n x y z (by decide) (by decide)
  have h13 : mkF φ n x y z 13 = φ 13 := mk_f φ n x y z (by decide) (by decide)
  have h10 : mkF φ n x y z 10 = φ 10 := mk_f φ n x y z (by decide) (by decide)
  have kp : ∀ j, 7 < j → up2 (up2 (up2 (up2 (up2 (up2 (up2 ψ 0 n x) 1 n y) 2 n z) 3 n 0) 4 n (20 * z)) 5 n (-1)) 7 0 (nI (n + 1)) j = ψ j := fun j hj => by
    rw [up2_fld _ _ _ (by omega), up2_fld _ _ _ (by omega), up2_fld _ _ _ (by omega), up2_fld _ _ _ (by omega), up2_fld _ _ _ (by omega), up2_fld _ _ _ (by omega), up2_fld _ _ _ (by omega)]
  refine ⟨?_, by omega, R.b5, R.dq, by rw [kp 13 (by decide)]; exact R.h13, by rw [kp 12 (by decide), h12]; exact R.h12, by rw [h10, h12]; exact R.gn, by rw [h10, h12]; exact R.rv, by rw [mk_f φ n x y z (by decide) (by decide)]; exact R.g0, by rw [kp 10 (by decide)]; exact R.z10⟩
  have hm := hR.mk (up2_self _ _ _ _) x y z
  rw [up2_comm (ov φ ψ) (show (3 : Nat) ≠ 0 by decide), up2_comm _ (show (3 : Nat) ≠ 1 by decide), up2_comm _ (show (3 : Nat) ≠ 2 by decide)] at hm
  rw [ov_up _ _ (by decide), ov_up _ _ (by decide), ov_up _ _ (by decide), ov_up _ _ (by decide), ov_up _ _ (by decide), ov_up _ _ (by decide), ov_up _ _ (by decide), ov_c _ h12 h13]
  exact hm
theorem Jr.bd (R : Jr n b q d φ ψ) (i : IV n b q tm φ C) (hb5 : b < 5) (x y : Int32) : Jr n (b + 1) q d (bdF φ b x y) (up2 (up2 (up2 ψ 8 b x) 9 b y) 14 0 (nI (b + 1))) := by
  have hb := i.x.2.1
  have h12 : bdF φ b x y 12 = φ 12 := bdF_k (f := φ) (b := b) (x := x) (y := y) (by decide) (by decide)
  have h13 : bdF φ b x y 13 = φ 13 := bdF_k (f := φ) (b := b) (x := x) (y := y) (by decide) (by decide)
  have h17 : bdF φ b x y 17 = φ 17 := bdF_k (f := φ) (b := b) (x := x) (y := y) (by decide) (by decide)
  have h10 : ∀ c, c < q → bdF φ b x y 10 (N (φ 12 c)) = φ 10 (N (φ 12 c)) := fun c hc => by
    obtain ⟨r, hr, e⟩ := i.x.o c hc
    rw [e, nIN (by omega), (bd_v φ b x y r).2.2.1, if_neg (by omega)]
  have kp : ∀ j, j ≠ 8 ∧ j ≠ 9 ∧ j ≠ 14 → up2 (up2 (up2 ψ 8 b x) 9 b y) 14 0 (nI (b + 1)) j = ψ j := fun j hj => by
    rw [up2_fld _ _ _ (by omega), up2_fld _ _ _ (by omega), up2_fld _ _ _ (by omega)]
  refine ⟨?_, R.n8, by omega, R.dq, by rw [kp 13 (by decide)]; exact R.h13, by rw [kp 12 (by decide), h12]; exact R.h12, fun c hc => by have := R.dq; rw [h12, h10 c (by omega)]; exact R.gn c hc, fun c h1 h2 => by rw [h12, h10 c h2]; exact R.rv c h1 h2, by rw [h17]; exact R.g0, fun r hr => by rw [kp 10 (by decide)]; exact R.z10 r (by omega)⟩
  rw [ov_up _ _ (by decide), ov_up _ _ (by decide), ov_up _ _ (by decide), ov_c _ h12 h13]
  exact R.r.bd (by rw [ov_n _ _ (by decide)]; exact R.z10 b (Nat.le_refl b)) x y
theorem Jr0 : Jr 0 0 0 0 f0X f0J := ⟨by
    refine ⟨fun j hj => ?_, fun j _ k h => by omega, fun k h => by omega, fun j _ k h => by omega, fun k h => by omega, fun k h => by omega, rfl⟩
    rcases hj with rfl | rfl | rfl | rfl | rfl | rfl | rfl | rfl <;> rfl, by omega, by omega, by omega, rfl, fun c h => by omega, fun c h => by omega, fun c h h2 => by omega, fun t _ => rfl, fun r _ => rfl⟩
end JOPS
