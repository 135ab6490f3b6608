set_option maxHeartbeats 4000000 in
set_option maxRecDepth 100000 in
theorem c_X2_within {l : Launch} {D : va_G} {cI cL cR : ClassId} {ws : va_W} {v a b : Int32}  : ctI l D vwCl (tyW cI cL cR) yX2_within wsX2_within { frames := 0, cells := 0, slots := 0, locals := 0 } [.int v, .int a, .int b] ws (fun r u => r = bi (inB v a b) ∧ u = ws) 0 0 := by
  refine ctI_of (cc := cX2_within) (maxL := 3) (ret := (some .boolean)) (by decide) rfl rfl (Nat.le_of_ble_eq_true rfl) (by simp [Value.category]) [(0, .int v), (1, .int a), (2, .int b)] rfl ?_
  intro p e s m args below meth c sz h hrt hlk hnm
  refine j_iload_n h dX2_within_0 rfl ?_
  refine j_iload_n h dX2_within_1 rfl ?_
  refine j_icmp_lt (tgt := 14) h dX2_within_2 (by decide) (fun c2 => ?_) (fun c2 => ?_)
  · -- t
    refine j_iconst (v := 0) h dX2_within_14 (by decide) ?_
    exact j_zret h hrt hlk dX2_within_15 (by first | exact Or.inl rfl | exact Or.inr rfl) (by decide) (by decide) (⟨by simp only [inB, bi_dec]; first | (rw [if_pos]; exact ⟨Int32.not_lt.mp c2, Int32.not_lt.mp c7⟩) | (rw [if_neg]; exact fun z => absurd z.1 (Int32.not_le.mpr c2)) | (rw [if_neg]; exact fun z => absurd z.2 (Int32.not_le.mpr c7)), rfl⟩)
  · -- f
    refine j_iload_n h dX2_within_5 rfl ?_
    refine j_iload_n h dX2_within_6 rfl ?_
    refine j_icmp_gt (tgt := 14) h dX2_within_7 (by decide) (fun c7 => ?_) (fun c7 => ?_)
    · -- t
      refine j_iconst (v := 0) h dX2_within_14 (by decide) ?_
      exact j_zret h hrt hlk dX2_within_15 (by first | exact Or.inl rfl | exact Or.inr rfl) (by decide) (by decide) (⟨by simp only [inB, bi_dec]; first | (rw [if_pos]; exact ⟨Int32.not_lt.mp c2, Int32.not_lt.mp c7⟩) | (rw [if_neg]; exact fun z => absurd z.1 (Int32.not_le.mpr c2)) | (rw [if_neg]; exact fun z => absurd z.2 (Int32.not_le.mpr c7)), rfl⟩)
    · -- f
      refine j_iconst (v := 1) h dX2_within_10 (by decide) ?_
      refine j_goto (tgt := 15) h dX2_within_11 (by decide) ?_
      exact j_zret h hrt hlk dX2_within_15 (by first | exact Or.inl rfl | exact Or.inr rfl) (by decide) (by decide) (⟨by simp only [inB, bi_dec]; first | (rw [if_pos]; exact ⟨Int32.not_lt.mp c2, Int32.not_lt.mp c7⟩) | (rw [if_neg]; exact fun z => absurd z.1 (Int32.not_le.mpr c2)) | (rw [if_neg]; exact fun z => absurd z.2 (Int32.not_le.mpr c7)), rfl⟩)
set_option maxHeartbeats 4000000 in
set_option maxRecDepth 100000 in
theorem c_X2_nearer {l : Launch} {D : va_G} {cI cL cR : ClassId} {ws : va_W} {a b : Int32}  : ctI l D vwCl (tyW cI cL cR) yX2_nearer wsX2_nearer { frames := 1, cells := 0, slots := 0, locals := 21 } [.int a, .int b] ws (fun r u => r = nrI a b ∧ u = ws) 0 0 := by
  refine ctI_of (cc := cX2_nearer) (maxL := 2) (ret := (some .int)) (by decide) rfl rfl (Nat.le_of_ble_eq_true rfl) (by simp [Value.category]) [(0, .int a), (1, .int b)] rfl ?_
  intro p e s m args below meth c sz h hrt hlk hnm
  refine j_iload_n h dX2_nearer_0 rfl ?_
  refine j_iconst (v := (-1)) h dX2_nearer_1 (by decide) ?_
  refine j_icmp_eq (tgt := 10) h dX2_nearer_2 (by decide) (fun c2 => ?_) (fun c2 => ?_)
  · -- t
    refine j_iload_n h dX2_nearer_10 rfl ?_
    refine j_iload_n h dX2_nearer_11 rfl ?_
    refine j_mmax h dX2_nearer_12 (by decide +kernel) (by decide +kernel) (by decide +kernel) (by decide +kernel) (Nat.le_of_ble_eq_true rfl) (Nat.le_of_ble_eq_true rfl) (Nat.le_of_ble_eq_true rfl) (Nat.le_of_ble_eq_true rfl) ?_
    exact j_iret h hrt hlk dX2_nearer_15 (by decide) (by decide) (⟨by simp [nrI, *], rfl⟩)
  · -- f
    refine j_iload_n h dX2_nearer_5 rfl ?_
    refine j_iconst (v := (-1)) h dX2_nearer_6 (by decide) ?_
    refine j_icmp_ne (tgt := 16) h dX2_nearer_7 (by decide) (fun c7 => ?_) (fun c7 => ?_)
    · -- t
      refine j_iload_n h dX2_nearer_16 rfl ?_
      refine j_iload_n h dX2_nearer_17 rfl ?_
      refine j_mmin h dX2_nearer_18 (by decide +kernel) (by decide +kernel) (by decide +kernel) (by decide +kernel) (Nat.le_of_ble_eq_true rfl) (Nat.le_of_ble_eq_true rfl) (Nat.le_of_ble_eq_true rfl) (Nat.le_of_ble_eq_true rfl) ?_
      exact j_iret h hrt hlk dX2_nearer_21 (by decide) (by decide) (⟨by simp [nrI, *], rfl⟩)
    · -- f
      refine j_iload_n h dX2_nearer_10 rfl ?_
      refine j_iload_n h dX2_nearer_11 rfl ?_
      refine j_mmax h dX2_nearer_12 (by decide +kernel) (by decide +kernel) (by decide +kernel) (by decide +kernel) (Nat.le_of_ble_eq_true rfl) (Nat.le_of_ble_eq_true rfl) (Nat.le_of_ble_eq_true rfl) (Nat.le_of_ble_eq_true rfl) ?_
      exact j_iret h hrt hlk dX2_nearer_15 (by decide) (by decide) (⟨by simp [nrI, *], rfl⟩)
set_option maxHeartbeats 4000000 in
set_option maxRecDepth 100000 in
theorem c_X0_weight {l : Launch} {D : va_G} {cI cL cR : ClassId} {ad : Nat → Nat} {f : St} {C : List Nat} {n b q : Nat} {k : Nat} (hx : xw n b q f C) (hk : k < n) : ctI l D vwCl (tyW cI cL cR) yX0_weight wsX0_weight { frames := 0, cells := 0, slots := 0, locals := 0 } [.ref (ad (5 + k))] (wX cI cL cR ad C f) (fun v u => v = (wt f k) ∧ u = (wX cI cL cR ad C f)) 0 0 := by
  refine ctI_of (cc := cX0_weight) (maxL := 1) (ret := (some .int)) (by decide) rfl rfl (Nat.le_of_ble_eq_true rfl) (by simp [Value.category]) [(0, .ref (ad (5 + k)))] rfl ?_
  intro p e s m args below meth c sz h hrt hlk hnm
  have hin0 : ∀ x ∈ wsX00, x ∈ wsX0_weight := by decide +kernel
  have hn24 := hx.1
  have hb8 := hx.2.1
  have hq8 := hx.2.2.1
  refine j_bipush (v := 20) h dX0_weight_0 (by decide) ?_
  refine j_aload_nR h dX0_weight_2 rfl ?_
  refine x0_get0 h hin0 (by decide +kernel) dX0_weight_3 (by omega) (by first | exact hx.c (by omega) | exact hx.l (by omega) | exact hx.r (by omega) | exact hx.s (by omega)) ?_
  refine j_imul h dX0_weight_6 ?_
  refine j_bipush (v := 30) h dX0_weight_7 (by decide) ?_
  refine j_aload_nR h dX0_weight_9 rfl ?_
  refine x0_get1 h hin0 (by decide +kernel) dX0_weight_10 (by omega) (by first | exact hx.c (by omega) | exact hx.l (by omega) | exact hx.r (by omega) | exact hx.s (by omega)) ?_
  refine j_imul h dX0_weight_13 ?_
  refine j_iadd h dX0_weight_14 ?_
  refine j_bipush (v := 50) h dX0_weight_15 (by decide) ?_
  refine j_aload_nR h dX0_weight_17 rfl ?_
  refine x0_get2 h hin0 (by decide +kernel) dX0_weight_18 (by omega) (by first | exact hx.c (by omega) | exact hx.l (by omega) | exact hx.r (by omega) | exact hx.s (by omega)) ?_
  refine j_imul h dX0_weight_21 ?_
  refine j_iadd h dX0_weight_22 ?_
  exact j_iret h hrt hlk dX0_weight_23 (by decide) (by decide) (⟨rfl, rfl⟩)
set_option maxHeartbeats 4000000 in
set_option maxRecDepth 100000 in
theorem c_X0_firmness {l : Launch} {D : va_G} {cI cL cR : ClassId} {ad : Nat → Nat} {f : St} {C : List Nat} {n b q : Nat} {k : Nat} (hx : xw n b q f C) (hk : k < n) : ctI l D vwCl (tyW cI cL cR) yX0_firmness wsX0_firmness { frames := 0, cells := 0, slots := 0, locals := 0 } [.ref (ad (5 + k))] (wX cI cL cR ad C f) (fun v u => v = (f 1 k + f 0 k / 3) ∧ u = (wX cI cL cR ad C f)) 0 0 := by
  refine ctI_of (cc := cX0_firmness) (maxL := 1) (ret := (some .int)) (by decide) rfl rfl (Nat.le_of_ble_eq_true rfl) (by simp [Value.category]) [(0, .ref (ad (5 + k)))] rfl ?_
  intro p e s m args below meth c sz h hrt hlk hnm
  have hin0 : ∀ x ∈ wsX00, x ∈ wsX0_firmness := by decide +kernel
  have hn24 := hx.1
  have hb8 := hx.2.1
  have hq8 := hx.2.2.1
  refine j_aload_nR h dX0_firmness_0 rfl ?_
  refine x0_get1 h hin0 (by decide +kernel) dX0_firmness_1 (by omega) (by first | exact hx.c (by omega) | exact hx.l (by omega) | exact hx.r (by omega) | exact hx.s (by omega)) ?_
  refine j_aload_nR h dX0_firmness_4 rfl ?_
  refine x0_get0 h hin0 (by decide +kernel) dX0_firmness_5 (by omega) (by first | exact hx.c (by omega) | exact hx.l (by omega) | exact hx.r (by omega) | exact hx.s (by omega)) ?_
  refine j_iconst (v := 3) h dX0_firmness_8 (by decide) ?_
  refine j_idiv h dX0_firmness_9 (by decide) ?_
  refine j_iadd h dX0_firmness_10 ?_
  exact j_iret h hrt hlk dX0_firmness_11 (by decide) (by decide) (⟨rfl, rfl⟩)
set_option maxHeartbeats 4000000 in
set_option maxRecDepth 100000 in
theorem c_X0_place {l : Launch} {D : va_G} {cI cL cR : ClassId} {ad : Nat → Nat} {f : St} {C : List Nat} {n b q : Nat} {k : Nat} (hx : xw n b q f C) (hk : k < n) : ctI l D vwCl (tyW cI cL cR) yX0_place wsX0_place { frames := 0, cells := 0, slots := 0, locals := 0 } [.ref (ad (5 + k))] (wX cI cL cR ad C f) (fun v u => v = (if hpB f k = true then pl f k else -1) ∧ u = (wX cI cL cR ad C f)) 0 0 := by
  refine ctI_of (cc := cX0_place) (maxL := 1) (ret := (some .int)) (by decide) rfl rfl (Nat.le_of_ble_eq_true rfl) (by simp [Value.category]) [(0, .ref (ad (5 + k)))] rfl ?_
  intro p e s m args below meth c sz h hrt hlk hnm
  have hin0 : ∀ x ∈ wsX00, x ∈ wsX0_place := by decide +kernel
  have hin1 : ∀ x ∈ wsX10, x ∈ wsX0_place := by decide +kernel
  have hn24 := hx.1
  have hb8 := hx.2.1
  have hq8 := hx.2.2.1
  refine j_aload_nR h dX0_place_0 rfl ?_
  refine xl_get5 h (by first | assumption | exact hx.up (by omega) _ _ | exact (hx.up (by omega) _ _).up (by omega) _ _) hin0 (by decide +kernel) dX0_place_1 (by omega) (fun e1 => ?_) (fun r1 hr1 e1 => ?_)
  · -- n
    have hp : ¬ hpB f k = true := by simp [hpB, e1]
    refine j_ifnullN (tgt := 18) h dX0_place_4 (by decide) ?_
    refine j_iconst (v := (-1)) h dX0_place_18 (by decide) ?_
    refine j_goto (tgt := 34) h dX0_place_19 (by decide) ?_
    exact j_iret h hrt hlk dX0_place_34 (by decide) (by decide) (⟨by simp [hp, pl, *], rfl⟩)
  · -- r
    have hrc : (nI r1).toNatClampNeg = r1 := nI_clamp (by omega)
    refine j_ifnullR h dX0_place_4 ?_
    refine j_aload_nR h dX0_place_7 rfl ?_
    refine xl_get5R h (by first | assumption | exact hx.up (by omega) _ _ | exact (hx.up (by omega) _ _).up (by omega) _ _) hin0 (by decide +kernel) dX0_place_8 (by omega) e1 hr1 ?_
    refine x1_get4 h hin1 (by decide +kernel) dX0_place_11 (by omega) (by first | exact hx.c (by omega) | exact hx.l (by omega) | exact hx.r (by omega) | exact hx.s (by omega)) ?_
    refine j_iconst (v := 1) h dX0_place_14 (by decide) ?_
    refine j_icmp_eq (tgt := 22) h dX0_place_15 (by decide) (fun c15 => ?_) (fun c15 => ?_)
    · -- t
      have hp : hpB f k = true := by simp [hpB, e1, hrc, c15, nI_nm1 (show r1 < 2 ^ 31 by omega)]
      refine j_aload_nR h dX0_place_22 rfl ?_
      refine xl_get5R h (by first | assumption | exact hx.up (by omega) _ _ | exact (hx.up (by omega) _ _).up (by omega) _ _) hin0 (by decide +kernel) dX0_place_23 (by omega) e1 hr1 ?_
      refine x1_get5 h hin1 (by decide +kernel) dX0_place_26 (by omega) (by first | exact hx.c (by omega) | exact hx.l (by omega) | exact hx.r (by omega) | exact hx.s (by omega)) ?_
      refine j_aload_nR h dX0_place_29 rfl ?_
      refine x0_get6 h hin0 (by decide +kernel) dX0_place_30 (by omega) (by first | exact hx.c (by omega) | exact hx.l (by omega) | exact hx.r (by omega) | exact hx.s (by omega)) ?_
      refine j_isub h dX0_place_33 ?_
      exact j_iret h hrt hlk dX0_place_34 (by decide) (by decide) (⟨by simp [hp, pl, *], rfl⟩)
    · -- f
      have hp : ¬ hpB f k = true := by simp [hpB, e1, hrc, c15]
      refine j_iconst (v := (-1)) h dX0_place_18 (by decide) ?_
      refine j_goto (tgt := 34) h dX0_place_19 (by decide) ?_
      exact j_iret h hrt hlk dX0_place_34 (by decide) (by decide) (⟨by simp [hp, pl, *], rfl⟩)
set_option maxHeartbeats 4000000 in
set_option maxRecDepth 100000 in
theorem c_X0_distanceTo {l : Launch} {D : va_G} {cI cL cR : ClassId} {ad : Nat → Nat} {f : St} {C : List Nat} {n b q : Nat} {k : Nat} {j : Nat} (hx : xw n b q f C) (hk : k < n) (hj : j < n) (hpk : hpB f k = true) (hpj : hpB f j = true) : ctI l D vwCl (tyW cI cL cR) yX0_distanceTo wsX0_distanceTo { frames := 1, cells := 0, slots := 0, locals := 20 } [.ref (ad (5 + k)), .ref (ad (5 + j))] (wX cI cL cR ad C f) (fun v u => v = (ds f k j) ∧ u = (wX cI cL cR ad C f)) 0 0 := by
  refine ctI_of (cc := cX0_distanceTo) (maxL := 3) (ret := (some .int)) (by decide) rfl rfl (Nat.le_of_ble_eq_true rfl) (by simp [Value.category]) [(0, .ref (ad (5 + k))), (1, .ref (ad (5 + j)))] rfl ?_
  intro p e s m args below meth c sz h hrt hlk hnm
  have hn24 := hx.1
  have hb8 := hx.2.1
  have hq8 := hx.2.2.1
  refine j_aload_nR h dX0_distanceTo_0 rfl ?_
  refine xc0_callVI h (by omega) dX0_distanceTo_1 (c_X0_place hx hk) (cwV 0 h.2.2.2.2.1 gX0_distanceTo_X0_place rfl rfl rfl (by decide +kernel) ⟨Nat.le_of_ble_eq_true rfl, Nat.le_of_ble_eq_true rfl⟩) (by first | exact hx.c (by omega) | exact hx.l (by omega) | exact hx.r (by omega) | exact hx.s (by omega)) rfl rfl (Nat.le_of_ble_eq_true rfl) ⟨Nat.le_of_ble_eq_true rfl, Nat.le_of_ble_eq_true rfl⟩ (fun r1 u1 hu1 => ?_)
  obtain ⟨rfl, rfl⟩ := hu1
  rw [if_pos hpk]
  refine j_aload_nR h dX0_distanceTo_4 rfl ?_
  refine xc0_callVI h (by omega) dX0_distanceTo_5 (c_X0_place hx hj) (cwV 0 h.2.2.2.2.1 gX0_distanceTo_X0_place rfl rfl rfl (by decide +kernel) ⟨Nat.le_of_ble_eq_true rfl, Nat.le_of_ble_eq_true rfl⟩) (by first | exact hx.c (by omega) | exact hx.l (by omega) | exact hx.r (by omega) | exact hx.s (by omega)) rfl rfl (Nat.le_of_ble_eq_true rfl) ⟨Nat.le_of_ble_eq_true rfl, Nat.le_of_ble_eq_true rfl⟩ (fun r5 u5 hu5 => ?_)
  obtain ⟨rfl, rfl⟩ := hu5
  rw [if_pos hpj]
  refine j_isub h dX0_distanceTo_8 ?_
  refine j_istore_n (i := 2) h dX0_distanceTo_9 rfl (by decide) ?_
  refine j_iload_n h dX0_distanceTo_10 rfl ?_
  refine j_if_ge (tgt := 19) h dX0_distanceTo_11 (by decide) (fun c11 => ?_) (fun c11 => ?_)
  · -- t
    refine j_iload_n h dX0_distanceTo_19 rfl ?_
    exact j_iret h hrt hlk dX0_distanceTo_20 (by decide) (by decide) (⟨by simp only [ds]; first | rw [if_neg (Int32.not_lt.mpr c11)] | rw [if_pos (Int32.not_le.mp c11)], rfl⟩)
  · -- f
    refine j_iload_n h dX0_distanceTo_14 rfl ?_
    refine j_ineg h dX0_distanceTo_15 ?_
    refine j_goto (tgt := 20) h dX0_distanceTo_16 (by decide) ?_
    exact j_iret h hrt hlk dX0_distanceTo_20 (by decide) (by decide) (⟨by simp only [ds]; first | rw [if_neg (Int32.not_lt.mpr c11)] | rw [if_pos (Int32.not_le.mp c11)], rfl⟩)
set_option maxHeartbeats 4000000 in
set_option maxRecDepth 100000 in
theorem c_X0_darken {l : Launch} {D : va_G} {cI cL cR : ClassId} {ad : Nat → Nat} {f : St} {C : List Nat} {n b q : Nat} {k : Nat} (hx : xw n b q f C) (hk : k < n) (hs : stO f n) : ctV l D vwCl (tyW cI cL cR) yX0_darken wsX0_darken { frames := 0, cells := 0, slots := 0, locals := 0 } [.ref (ad (5 + k))] (wX cI cL cR ad C f) (fun u => u = wX cI cL cR ad C (dkF f k)) 0 0 := by
  refine ctV_of (cc := cX0_darken) (maxL := 1) (ret := none) (by decide) rfl rfl (Nat.le_of_ble_eq_true rfl) (by simp [Value.category]) [(0, .ref (ad (5 + k)))] rfl ?_
  intro p e s m args below meth c sz h hrt hlk hnm
  have hin0 : ∀ x ∈ wsX00, x ∈ wsX0_darken := by decide +kernel
  have hn24 := hx.1
  have hb8 := hx.2.1
  have hq8 := hx.2.2.1
  refine j_aload_nR h dX0_darken_0 rfl ?_
  refine x0_get3 h hin0 (by decide +kernel) dX0_darken_1 (by omega) (by first | exact hx.c (by omega) | exact hx.l (by omega) | exact hx.r (by omega) | exact hx.s (by omega)) ?_
  refine j_iconst (v := 1) h dX0_darken_4 (by decide) ?_
  refine j_icmp_ne (tgt := 13) h dX0_darken_5 (by decide) (fun c5 => ?_) (fun c5 => ?_)
  · -- t
    exact j_vret h hrt hlk dX0_darken_13 (by decide) (by decide) (by first | rw [dkF_1 c5] | rw [dkF_n (hs k hk) c5])
  · -- f
    refine j_aload_nR h dX0_darken_8 rfl ?_
    refine j_iconst (v := 0) h dX0_darken_9 (by decide) ?_
    refine x0_put3 h hin0 (by decide +kernel) dX0_darken_10 (by omega) (by first | exact hx.c (by omega) | exact hx.l (by omega) | exact hx.r (by omega) | exact hx.s (by omega)) ?_
    exact j_vret h hrt hlk dX0_darken_13 (by decide) (by decide) (by first | rw [dkF_1 c5] | rw [dkF_n (hs k hk) c5])
set_option maxHeartbeats 4000000 in
set_option maxRecDepth 100000 in
theorem c_X0_burnOneMinute {l : Launch} {D : va_G} {cI cL cR : ClassId} {ad : Nat → Nat} {f : St} {C : List Nat} {n b q : Nat} {k : Nat} {a : Nat} (hx : xw n b q f C) (hk : k < n) (h1 : f 3 k = 1) (ha : f 4 k = nI a) (ha1 : 1 ≤ a) (ha2 : a < 100) : ctV l D vwCl (tyW cI cL cR) yX0_burnOneMinute wsX0_burnOneMinute { frames := 0, cells := 0, slots := 0, locals := 0 } [.ref (ad (5 + k))] (wX cI cL cR ad C f) (fun u => u = wX cI cL cR ad C (up2 (up2 f 4 k (f 4 k - 1)) 3 k (if f 4 k - 1 = 0 then 2 else 1))) 0 0 := by
  refine ctV_of (cc := cX0_burnOneMinute) (maxL := 1) (ret := none) (by decide) rfl rfl (Nat.le_of_ble_eq_true rfl) (by simp [Value.category]) [(0, .ref (ad (5 + k)))] rfl ?_
  intro p e s m args below meth c sz h hrt hlk hnm
  have hin0 : ∀ x ∈ wsX00, x ∈ wsX0_burnOneMinute := by decide +kernel
  have hn24 := hx.1
  have hb8 := hx.2.1
  have hq8 := hx.2.2.1
  have hm : f 4 k - 1 = nI (a - 1) := by rw [ha]; exact pk_sub (b := 1) ha1
  refine j_aload_nR h dX0_burnOneMinute_0 rfl ?_
  refine j_dup h dX0_burnOneMinute_1 rfl ?_
  refine x0_get4 h hin0 (by decide +kernel) dX0_burnOneMinute_2 (by omega) (by first | exact hx.c (by omega) | exact hx.l (by omega) | exact hx.r (by omega) | exact hx.s (by omega)) ?_
  refine j_iconst (v := 1) h dX0_burnOneMinute_5 (by decide) ?_
  refine j_isub h dX0_burnOneMinute_6 ?_
  refine x0_put4 h hin0 (by decide +kernel) dX0_burnOneMinute_7 (by omega) (by first | exact hx.c (by omega) | exact hx.l (by omega) | exact hx.r (by omega) | exact hx.s (by omega)) ?_
  refine j_aload_nR h dX0_burnOneMinute_10 rfl ?_
  refine x0_get4 h hin0 (by decide +kernel) dX0_burnOneMinute_11 (by omega) (by first | exact hx.c (by omega) | exact hx.l (by omega) | exact hx.r (by omega) | exact hx.s (by omega)) ?_
  refine j_if_gt (tgt := 22) h dX0_burnOneMinute_14 (by decide) (fun c14 => ?_) (fun c14 => ?_)
  · -- t
    have z : ¬ f 4 k - 1 = 0 := fun z => by rw [up2_self, z] at c14; exact absurd c14 (by decide)
    exact j_vret h hrt hlk dX0_burnOneMinute_22 (by decide) (by decide) (by first | rw [if_pos z] | (rw [if_neg z]; congr 1; funext x y; by_cases hx3 : x = 3 <;> by_cases hy : y = k <;> simp [up2, hx3, hy, h1]))
  · -- f
    have z : f 4 k - 1 = 0 := by rw [up2_self, hm, show (0 : Int32) = nI 0 from rfl, nI_ltI (by omega) (by omega)] at c14; rw [hm, show a - 1 = 0 by omega]; rfl
    refine j_aload_nR h dX0_burnOneMinute_17 rfl ?_
    refine j_iconst (v := 2) h dX0_burnOneMinute_18 (by decide) ?_
    refine x0_put3 h hin0 (by decide +kernel) dX0_burnOneMinute_19 (by omega) (by first | exact hx.c (by omega) | exact hx.l (by omega) | exact hx.r (by omega) | exact hx.s (by omega)) ?_
    exact j_vret h hrt hlk dX0_burnOneMinute_22 (by decide) (by decide) (by first | rw [if_pos z] | (rw [if_neg z]; congr 1; funext x y; by_cases hx3 : x = 3 <;> by_cases hy : y = k <;> simp [up2, hx3, hy, h1]))
