set_option maxHeartbeats 4000000 in
set_option maxRecDepth 100000 in
theorem c_X2_nearestAhead {l : Launch} {D : va_G} {cI cL cR : ClassId} {ad : Nat → Nat} {f : St} {C : List Nat} {n b q : Nat} {k o : Nat} (hx : xw n b q f C) (hk : k < n) (hpk : hpB f k = true) (hlp : lpF f n) (ho : o < q) : ctI l D vwCl (tyW cI cL cR) yX2_nearestAhead wsX2_nearestAhead { frames := 3, cells := 0, slots := 0, locals := 68 } [.ref (ad 0), .ref (ad (5 + k)), .int (nI o)] (wX cI cL cR ad C f) (fun v u => v = (naF f k o) ∧ u = (wX cI cL cR ad C f)) 0 0 := by
  refine ctI_of (cc := cX2_nearestAhead) (maxL := 6) (ret := (some .int)) (by decide) rfl rfl (Nat.le_of_ble_eq_true rfl) (by simp [Value.category]) [(0, .ref (ad 0)), (1, .ref (ad (5 + k))), (2, .int (nI o))] rfl ?_
  intro p e s m args below meth c sz h hrt hlk hnm
  have hin2 : ∀ x ∈ wsX20, x ∈ wsX2_nearestAhead := by decide +kernel
  have hn24 := hx.1
  have hb8 := hx.2.1
  have hq8 := hx.2.2.1
  refine j_iconst (v := (-1)) h dX2_nearestAhead_0 (by decide) ?_
  refine j_istore_n (i := 3) h dX2_nearestAhead_1 rfl (by decide) ?_
  refine j_iload_n h dX2_nearestAhead_2 rfl ?_
  refine j_aload_nR h dX2_nearestAhead_3 rfl ?_
  refine x2_get2 h hin2 (by decide +kernel) dX2_nearestAhead_4 (by first | exact hx.c (by omega) | exact hx.l (by omega) | exact hx.r (by omega) | exact hx.s (by omega)) ?_
  refine x2_alen2 h dX2_nearestAhead_7 (by first | exact hx.c (by omega) | exact hx.l (by omega) | exact hx.r (by omega) | exact hx.s (by omega)) ?_
  refine j_mmin h dX2_nearestAhead_8 (by decide +kernel) (by decide +kernel) (by decide +kernel) (by decide +kernel) (Nat.le_of_ble_eq_true rfl) (Nat.le_of_ble_eq_true rfl) (Nat.le_of_ble_eq_true rfl) (Nat.le_of_ble_eq_true rfl) ?_
  refine j_iconst (v := 1) h dX2_nearestAhead_11 (by decide) ?_
  rw [show (if (8 : Int32) < nI o then (8 : Int32) else nI o) = nI o from if_neg (Int32.not_lt.mpr ((nI_leI (a := o) (b := 8) (by omega) (by decide)).mpr (by omega)))]
  refine j_isub h dX2_nearestAhead_12 ?_
  refine j_istore h dX2_nearestAhead_13 (by decide) ?_
  refine jj_loop (fun x : Nat × Int32 => [(0, .ref (ad 0)), (1, .ref (ad (5 + k))), (3, .int x.2), (4, .int (nI x.1 - 1))]) (fun _ => (wX cI cL cR ad C f)) (fun x : Nat × Int32 => x.1 ≤ o ∧ naF f k o = (if x.2 = -1 then naF f k x.1 else x.2)) (fun x : Nat × Int32 => x.1) (o, -1) ⟨rfl, rfl, rfl, by first | rfl | (rw [hmn]; rfl), trivial⟩ rfl ⟨Nat.le_refl _, rfl⟩ (fun x hx ihx => ?_)
  obtain ⟨i, v⟩ := x
  obtain ⟨hi, hv⟩ := hx
  dsimp only at hi hv ⊢
  refine j_iload h dX2_nearestAhead_15 rfl ?_
  refine j_if_lt (tgt := 52) h dX2_nearestAhead_17 (by decide) (fun c17 => ?_) (fun c17 => ?_)
  · -- t
    have hi0 : i = 0 := by
      rcases Nat.eq_zero_or_pos i with z | z
      · exact z
      · exfalso
        rw [show i = (i - 1) + 1 by omega, nI_pred] at c17
        exact nI_pos (by omega) c17
    have hE : naF f k o = v := by rw [hv, hi0]; by_cases z : v = -1 <;> simp [z, naF]
    refine j_iload_n h dX2_nearestAhead_52 rfl ?_
    exact j_iret h hrt hlk dX2_nearestAhead_53 (by decide) (by decide) (⟨hE.symm, rfl⟩)
  · -- f
    have hi1 : 1 ≤ i := by
      rcases Nat.eq_zero_or_pos i with z | z
      · exfalso; rw [z] at c17; exact c17 (by decide)
      · exact z
    obtain ⟨i, rfl⟩ : ∃ j, i = j + 1 := ⟨i - 1, by omega⟩
    rw [nI_pred]
    refine j_iload_n h dX2_nearestAhead_20 rfl ?_
    refine j_iconst (v := (-1)) h dX2_nearestAhead_21 (by decide) ?_
    refine j_icmp_ne (tgt := 52) h dX2_nearestAhead_22 (by decide) (fun c22 => ?_) (fun c22 => ?_)
    · -- t
      have hE : naF f k o = v := by rw [hv, if_neg c22]
      refine j_iload_n h dX2_nearestAhead_52 rfl ?_
      exact j_iret h hrt hlk dX2_nearestAhead_53 (by decide) (by decide) (⟨hE.symm, rfl⟩)
    · -- f
      rw [c22, if_pos rfl] at hv
      refine j_aload_nR h dX2_nearestAhead_25 rfl ?_
      refine x2_get2 h hin2 (by decide +kernel) dX2_nearestAhead_26 (by first | exact hx.c (by omega) | exact hx.l (by omega) | exact hx.r (by omega) | exact hx.s (by omega)) ?_
      refine j_iload h dX2_nearestAhead_29 rfl ?_
      refine xl_ald2 h (by first | assumption | exact hx.up (by omega) _ _ | exact (hx.up (by omega) _ _).up (by omega) _ _) dX2_nearestAhead_31 rfl (by omega) (fun e31 => ?_) (fun r31 hq31 hr31 e31 => ?_)
      · -- n
        exfalso; omega
      · -- r
        have hrc : (nI r31).toNatClampNeg = r31 := nI_clamp (by omega)
        refine j_astoreR h dX2_nearestAhead_32 (by decide) ?_
        refine j_aloadR h dX2_nearestAhead_34 rfl ?_
        refine j_ifnullR h dX2_nearestAhead_36 ?_
        refine j_aloadR h dX2_nearestAhead_39 rfl ?_
        refine j_aload_nR h dX2_nearestAhead_41 rfl ?_
        refine xc1_callVI h (by omega) dX2_nearestAhead_42 (c_X1_nearestLit hx hr31 hk hpk hlp) (cwV 1 h.2.2.2.2.1 gX2_nearestAhead_X1_nearestLit rfl rfl rfl (by decide +kernel) ⟨Nat.le_of_ble_eq_true rfl, Nat.le_of_ble_eq_true rfl⟩) (by first | exact hx.c (by omega) | exact hx.l (by omega) | exact hx.r (by omega) | exact hx.s (by omega)) rfl rfl (Nat.le_of_ble_eq_true rfl) ⟨Nat.le_of_ble_eq_true rfl, Nat.le_of_ble_eq_true rfl⟩ (fun r42 u42 hu42 => ?_)
        obtain ⟨rfl, rfl⟩ := hu42
        have hE : naF f k o = if nlS f r31 k 10 = -1 then naF f k i else nlS f r31 k 10 := by rw [hv, naF, e31, hrc]
        refine j_istore_n (i := 3) h dX2_nearestAhead_45 rfl (by decide) ?_
        refine j_iinc h dX2_nearestAhead_46 rfl rfl (by decide) ?_
        refine j_goto (tgt := 15) h dX2_nearestAhead_49 (by decide) ?_
        exact ihx (i, nlS f r31 k 10) ⟨by dsimp only; omega, hE⟩ (by dsimp only; omega) _ ⟨rfl, rfl, rfl, by show some (Value.int _) = some (Value.int _); rw [Int32.sub_eq_add_neg]; rfl, trivial⟩
set_option maxHeartbeats 4000000 in
set_option maxRecDepth 100000 in
theorem c_X2_nearestBehind {l : Launch} {D : va_G} {cI cL cR : ClassId} {ad : Nat → Nat} {f : St} {C : List Nat} {n b q : Nat} {k o : Nat} (hx : xw n b q f C) (hk : k < n) (hpk : hpB f k = true) (hlp : lpF f n) (ho : o < q) : ctI l D vwCl (tyW cI cL cR) yX2_nearestBehind wsX2_nearestBehind { frames := 3, cells := 0, slots := 0, locals := 68 } [.ref (ad 0), .ref (ad (5 + k)), .int (nI o)] (wX cI cL cR ad C f) (fun v u => v = (nbF f k q (q - (o + 1))) ∧ u = (wX cI cL cR ad C f)) 0 0 := by
  refine ctI_of (cc := cX2_nearestBehind) (maxL := 6) (ret := (some .int)) (by decide) rfl rfl (Nat.le_of_ble_eq_true rfl) (by simp [Value.category]) [(0, .ref (ad 0)), (1, .ref (ad (5 + k))), (2, .int (nI o))] rfl ?_
  intro p e s m args below meth c sz h hrt hlk hnm
  have hin2 : ∀ x ∈ wsX20, x ∈ wsX2_nearestBehind := by decide +kernel
  have hn24 := hx.1
  have hb8 := hx.2.1
  have hq8 := hx.2.2.1
  refine j_iconst (v := (-1)) h dX2_nearestBehind_0 (by decide) ?_
  refine j_istore_n (i := 3) h dX2_nearestBehind_1 rfl (by decide) ?_
  refine j_iload_n h dX2_nearestBehind_2 rfl ?_
  refine j_iconst (v := 0) h dX2_nearestBehind_3 (by decide) ?_
  refine j_mmax h dX2_nearestBehind_4 (by decide +kernel) (by decide +kernel) (by decide +kernel) (by decide +kernel) (Nat.le_of_ble_eq_true rfl) (Nat.le_of_ble_eq_true rfl) (Nat.le_of_ble_eq_true rfl) (Nat.le_of_ble_eq_true rfl) ?_
  rw [show (if nI o < (0 : Int32) then (0 : Int32) else nI o) = nI o from if_neg (nI_pos (by omega))]
  refine j_iconst (v := 1) h dX2_nearestBehind_7 (by decide) ?_
  refine j_iadd h dX2_nearestBehind_8 ?_
  rw [nI_1]
  refine j_istore h dX2_nearestBehind_9 (by decide) ?_
  refine jj_loop (fun x : Nat × Int32 => [(0, .ref (ad 0)), (1, .ref (ad (5 + k))), (3, .int x.2), (4, .int (nI x.1))]) (fun _ => (wX cI cL cR ad C f)) (fun x : Nat × Int32 => x.1 ≤ 8 ∧ nbF f k q (q - (o + 1)) = (if x.2 = -1 then nbF f k q (q - x.1) else x.2)) (fun x : Nat × Int32 => 8 - x.1) (o + 1, -1) ⟨rfl, rfl, rfl, rfl, trivial⟩ rfl ⟨by dsimp only; omega, rfl⟩ (fun x hx ihx => ?_)
  obtain ⟨i, v⟩ := x
  obtain ⟨hi, hv⟩ := hx
  dsimp only at hi hv ⊢
  refine j_iload h dX2_nearestBehind_11 rfl ?_
  refine j_aload_nR h dX2_nearestBehind_13 rfl ?_
  refine x2_get2 h hin2 (by decide +kernel) dX2_nearestBehind_14 (by first | exact hx.c (by omega) | exact hx.l (by omega) | exact hx.r (by omega) | exact hx.s (by omega)) ?_
  refine x2_alen2 h dX2_nearestBehind_17 (by first | exact hx.c (by omega) | exact hx.l (by omega) | exact hx.r (by omega) | exact hx.s (by omega)) ?_
  refine j_icmp_ge (tgt := 53) h dX2_nearestBehind_18 (by decide) (fun c18 => ?_) (fun c18 => ?_)
  · -- t
    have hi8 : i = 8 := by
      rw [show (8 : Int32) = nI 8 from rfl, nI_leI (by omega) (by omega)] at c18
      omega
    have hE : nbF f k q (q - (o + 1)) = v := by rw [hv, hi8, show q - 8 = 0 by omega]; by_cases z : v = -1 <;> simp [z, nbF]
    refine j_iload_n h dX2_nearestBehind_53 rfl ?_
    exact j_iret h hrt hlk dX2_nearestBehind_54 (by decide) (by decide) (⟨hE.symm, rfl⟩)
  · -- f
    rw [show (8 : Int32) = nI 8 from rfl, nI_leI (by omega) (by omega)] at c18
    refine j_iload_n h dX2_nearestBehind_21 rfl ?_
    refine j_iconst (v := (-1)) h dX2_nearestBehind_22 (by decide) ?_
    refine j_icmp_ne (tgt := 53) h dX2_nearestBehind_23 (by decide) (fun c23 => ?_) (fun c23 => ?_)
    · -- t
      have hE : nbF f k q (q - (o + 1)) = v := by rw [hv, if_neg c23]
      refine j_iload_n h dX2_nearestBehind_53 rfl ?_
      exact j_iret h hrt hlk dX2_nearestBehind_54 (by decide) (by decide) (⟨hE.symm, rfl⟩)
    · -- f
      rw [c23, if_pos rfl] at hv
      refine j_aload_nR h dX2_nearestBehind_26 rfl ?_
      refine x2_get2 h hin2 (by decide +kernel) dX2_nearestBehind_27 (by first | exact hx.c (by omega) | exact hx.l (by omega) | exact hx.r (by omega) | exact hx.s (by omega)) ?_
      refine j_iload h dX2_nearestBehind_30 rfl ?_
      refine xl_ald2 h (by first | assumption | exact hx.up (by omega) _ _ | exact (hx.up (by omega) _ _).up (by omega) _ _) dX2_nearestBehind_32 rfl (by omega) (fun e32 => ?_) (fun r32 hq32 hr32 e32 => ?_)
      · -- n
        obtain rfl := c23
        have hE : nbF f k q (q - (o + 1)) = if (-1 : Int32) = -1 then nbF f k q (q - (i + 1)) else -1 := by rw [hv, if_pos rfl, show q - i = 0 by omega, show q - (i + 1) = 0 by omega]
        refine j_astoreN h dX2_nearestBehind_33 (by decide) ?_
        refine j_aload h dX2_nearestBehind_35 rfl (Or.inl rfl) ?_
        refine j_ifnullN (tgt := 47) h dX2_nearestBehind_37 (by decide) ?_
        refine j_iinc h dX2_nearestBehind_47 rfl rfl (by decide) ?_
        refine j_goto (tgt := 11) h dX2_nearestBehind_50 (by decide) ?_
        exact ihx (i + 1, _) ⟨by dsimp only; omega, hE⟩ (by dsimp only; omega) _ ⟨rfl, rfl, rfl, by simp [lget, nI_succ], trivial⟩
      · -- r
        have hrc : (nI r32).toNatClampNeg = r32 := nI_clamp (by omega)
        refine j_astoreR h dX2_nearestBehind_33 (by decide) ?_
        refine j_aloadR h dX2_nearestBehind_35 rfl ?_
        refine j_ifnullR h dX2_nearestBehind_37 ?_
        refine j_aloadR h dX2_nearestBehind_40 rfl ?_
        refine j_aload_nR h dX2_nearestBehind_42 rfl ?_
        refine xc1_callVI h (by omega) dX2_nearestBehind_43 (c_X1_nearestLit hx hr32 hk hpk hlp) (cwV 1 h.2.2.2.2.1 gX2_nearestBehind_X1_nearestLit rfl rfl rfl (by decide +kernel) ⟨Nat.le_of_ble_eq_true rfl, Nat.le_of_ble_eq_true rfl⟩) (by first | exact hx.c (by omega) | exact hx.l (by omega) | exact hx.r (by omega) | exact hx.s (by omega)) rfl rfl (Nat.le_of_ble_eq_true rfl) ⟨Nat.le_of_ble_eq_true rfl, Nat.le_of_ble_eq_true rfl⟩ (fun r43 u43 hu43 => ?_)
        obtain ⟨rfl, rfl⟩ := hu43
        have hE : nbF f k q (q - (o + 1)) = if nlS f r32 k 10 = -1 then nbF f k q (q - (i + 1)) else nlS f r32 k 10 := by rw [hv, show q - i = (q - (i + 1)) + 1 by omega, nbF, show q - (q - (i + 1) + 1) = i by omega, e32, hrc]
        refine j_istore_n (i := 3) h dX2_nearestBehind_46 rfl (by decide) ?_
        refine j_iinc h dX2_nearestBehind_47 rfl rfl (by decide) ?_
        refine j_goto (tgt := 11) h dX2_nearestBehind_50 (by decide) ?_
        exact ihx (i + 1, _) ⟨by dsimp only; omega, hE⟩ (by dsimp only; omega) _ ⟨rfl, rfl, rfl, by simp [lget, nI_succ], trivial⟩
