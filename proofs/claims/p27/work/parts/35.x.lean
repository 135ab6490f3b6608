set_option maxHeartbeats 4000000 in
set_option maxRecDepth 100000 in
theorem c_X2_nearest {l : Launch} {D : va_G} {cI cL cR : ClassId} (hl : l.stackTraces = false) {ad : Nat → Nat} {f : St} {C : List Nat} {n b q : Nat} {x : Int32} (hx : xw n b q f C) (hlp : lpF f n) (hor : ∀ r, r < b → f 10 r = 1 → ∃ o, o < q ∧ f 24 r = nI o) : ctT l D vwCl (tyW cI cL cR) yX2_nearest wsX2_nearest { frames := 7, cells := 1, slots := 6, locals := 104 } [.ref (ad 0), .int x] (wX cI cL cR ad C f) (fun v u => tL f x = 0 ∧ v = neC f q x.toNatClampNeg ∧ u = (wX cI cL cR ad C f)) (fun E => E = "java/lang/IndexOutOfBoundsException" ∧ tL f x = 1) 1 6 := by
  refine ctT_of (cc := cX2_nearest) (maxL := 7) (ret := (some .int)) (by decide) rfl rfl (Nat.le_of_ble_eq_true rfl) (by simp [Value.category]) [(0, .ref (ad 0)), (1, .int x)] rfl ?_
  intro p e s m args below meth c sz h hrt hlk hout
  have hin0 : ∀ x ∈ wsX00, x ∈ wsX2_nearest := by decide +kernel
  have hin1 : ∀ x ∈ wsX10, x ∈ wsX2_nearest := by decide +kernel
  have hn24 := hx.1
  have hb8 := hx.2.1
  have hq8 := hx.2.2.1
  have hfn := hx.2.2.2.2.1
  have hfb := hx.2.2.2.2.2.1
  have hfq := hx.2.2.2.2.2.2.1
  obtain ⟨q9, hw9⟩ := wX_recv (cI := cI) (cL := cL) (cR := cR) (ad := ad) (f := f) (hx.c (show 0 < 5 by decide))
  rw [gX_0] at hw9
  refine j_aload_nR h dX2_nearest_0 rfl ?_
  refine j_iload_n h dX2_nearest_1 rfl ?_
  refine j_callTQ (vc := (RX2, TX2, 12)) h hout hlk dX2_nearest_2 (c_X2_lanternNumbered hl hx) (cwV 1 h.2.2.2.2.1 gX2_nearest_X2_lanternNumbered rfl rfl rfl (by decide +kernel) ⟨Nat.le_of_ble_eq_true rfl, Nat.le_of_ble_eq_true rfl⟩) q9 hw9 rfl rfl rfl (Nat.le_of_ble_eq_true rfl) ⟨Nat.le_of_ble_eq_true rfl, Nat.le_of_ble_eq_true rfl⟩ (Nat.le_of_ble_eq_true rfl) (Nat.le_of_ble_eq_true rfl) (fun E z => ⟨z.1, tL_1 z.2⟩) (fun r2 u2 hu2 => ?_)
  obtain ⟨a, ha, rfl, rfl, rfl⟩ := hu2
  have hac : (nI a).toNatClampNeg = a := nI_clamp (by omega)
  have hL : isL f (nI a) = true := isL_yes hfn (by omega) ha
  have hT := tL_0 hL
  refine j_astore_nR (i := 2) h dX2_nearest_5 rfl (by decide) ?_
  refine j_aload_nR h dX2_nearest_6 rfl ?_
  refine xl_get5 h (by first | assumption | exact hx.up (by omega) _ _ | exact (hx.up (by omega) _ _).up (by omega) _ _) hin0 (by decide +kernel) dX2_nearest_7 (by omega) (fun e7 => ?_) (fun r7 hr7 e7 => ?_)
  · -- n
    have hp : hpB f a = false := by simp [hpB, e7]
    refine j_astore_nN (i := 3) h dX2_nearest_10 rfl (by decide) ?_
    refine j_aload_n h dX2_nearest_11 rfl (Or.inl rfl) ?_
    refine j_ifnullN (tgt := 23) h dX2_nearest_12 (by decide) ?_
    refine j_iconst (v := (-1)) h dX2_nearest_23 (by decide) ?_
    exact jj_vx (j_iret h hrt hlk dX2_nearest_24 (by decide) (by decide) (⟨hT, by rw [hac, neC, hp]; rfl, rfl⟩))
  · -- r
    have hrc : (nI r7).toNatClampNeg = r7 := nI_clamp (by omega)
    refine j_astore_nR (i := 3) h dX2_nearest_10 rfl (by decide) ?_
    refine j_aload_nR h dX2_nearest_11 rfl ?_
    refine j_ifnullR h dX2_nearest_12 ?_
    refine j_aload_nR h dX2_nearest_15 rfl ?_
    refine x1_get4 h hin1 (by decide +kernel) dX2_nearest_16 (by omega) (by first | exact hx.c (by omega) | exact hx.l (by omega) | exact hx.r (by omega) | exact hx.s (by omega)) ?_
    refine j_iconst (v := 1) h dX2_nearest_19 (by decide) ?_
    refine j_icmp_eq (tgt := 25) h dX2_nearest_20 (by decide) (fun c20 => ?_) (fun c20 => ?_)
    · -- t
      have hp : hpB f a = true := by simp [hpB, e7, hrc, c20, nI_nm1 (show r7 < 2 ^ 31 by omega)]
      obtain ⟨o, ho, eo⟩ := hor r7 hr7 c20
      have hoc : (nI o).toNatClampNeg = o := nI_clamp (by omega)
      refine j_aload_nR h dX2_nearest_25 rfl ?_
      refine j_aload_nR h dX2_nearest_26 rfl ?_
      refine xc1_callVI h (by omega) dX2_nearest_27 (c_X1_nearestLit hx hr7 ha hp hlp) (cwV 1 h.2.2.2.2.1 gX2_nearest_X1_nearestLit rfl rfl rfl (by decide +kernel) ⟨Nat.le_of_ble_eq_true rfl, Nat.le_of_ble_eq_true rfl⟩) (by first | exact hx.c (by omega) | exact hx.l (by omega) | exact hx.r (by omega) | exact hx.s (by omega)) rfl rfl (Nat.le_of_ble_eq_true rfl) ⟨Nat.le_of_ble_eq_true rfl, Nat.le_of_ble_eq_true rfl⟩ (fun r27 u27 hu27 => ?_)
      obtain ⟨rfl, rfl⟩ := hu27
      refine j_istore h dX2_nearest_30 (by decide) ?_
      refine j_aload_nR h dX2_nearest_32 rfl ?_
      refine j_aload_nR h dX2_nearest_33 rfl ?_
      refine j_aload_nR h dX2_nearest_34 rfl ?_
      refine x1_get6 h hin1 (by decide +kernel) dX2_nearest_35 (by omega) (by first | exact hx.c (by omega) | exact hx.l (by omega) | exact hx.r (by omega) | exact hx.s (by omega)) ?_
      rw [eo]
      refine xc2_callVI h dX2_nearest_38 (c_X2_nearestAhead hx ha hp hlp ho) (cwV 2 h.2.2.2.2.1 gX2_nearest_X2_nearestAhead rfl rfl rfl (by decide +kernel) ⟨Nat.le_of_ble_eq_true rfl, Nat.le_of_ble_eq_true rfl⟩) (by first | exact hx.c (by omega) | exact hx.l (by omega) | exact hx.r (by omega) | exact hx.s (by omega)) rfl rfl (Nat.le_of_ble_eq_true rfl) ⟨Nat.le_of_ble_eq_true rfl, Nat.le_of_ble_eq_true rfl⟩ (fun r38 u38 hu38 => ?_)
      obtain ⟨rfl, rfl⟩ := hu38
      refine j_istore h dX2_nearest_41 (by decide) ?_
      refine j_aload_nR h dX2_nearest_43 rfl ?_
      refine j_aload_nR h dX2_nearest_44 rfl ?_
      refine j_aload_nR h dX2_nearest_45 rfl ?_
      refine x1_get6 h hin1 (by decide +kernel) dX2_nearest_46 (by omega) (by first | exact hx.c (by omega) | exact hx.l (by omega) | exact hx.r (by omega) | exact hx.s (by omega)) ?_
      rw [eo]
      refine xc2_callVI h dX2_nearest_49 (c_X2_nearestBehind hx ha hp hlp ho) (cwV 2 h.2.2.2.2.1 gX2_nearest_X2_nearestBehind rfl rfl rfl (by decide +kernel) ⟨Nat.le_of_ble_eq_true rfl, Nat.le_of_ble_eq_true rfl⟩) (by first | exact hx.c (by omega) | exact hx.l (by omega) | exact hx.r (by omega) | exact hx.s (by omega)) rfl rfl (Nat.le_of_ble_eq_true rfl) ⟨Nat.le_of_ble_eq_true rfl, Nat.le_of_ble_eq_true rfl⟩ (fun r49 u49 hu49 => ?_)
      obtain ⟨rfl, rfl⟩ := hu49
      refine j_istore h dX2_nearest_52 (by decide) ?_
      refine j_iload h dX2_nearest_54 rfl ?_
      refine j_iload h dX2_nearest_56 rfl ?_
      refine j_iload h dX2_nearest_58 rfl ?_
      refine j_callSI h dX2_nearest_60 (c_X2_nearer) (va_cwS 2 h.2.2.2.2.1 gX2_nearest_X2_nearer rfl rfl rfl (by decide +kernel) ⟨Nat.le_of_ble_eq_true rfl, Nat.le_of_ble_eq_true rfl⟩) rfl rfl (Nat.le_of_ble_eq_true rfl) ⟨Nat.le_of_ble_eq_true rfl, Nat.le_of_ble_eq_true rfl⟩ (fun r60 u60 hu60 => ?_)
      obtain ⟨rfl, rfl⟩ := hu60
      refine j_callSI h dX2_nearest_63 (c_X2_nearer) (va_cwS 2 h.2.2.2.2.1 gX2_nearest_X2_nearer rfl rfl rfl (by decide +kernel) ⟨Nat.le_of_ble_eq_true rfl, Nat.le_of_ble_eq_true rfl⟩) rfl rfl (Nat.le_of_ble_eq_true rfl) ⟨Nat.le_of_ble_eq_true rfl, Nat.le_of_ble_eq_true rfl⟩ (fun r63 u63 hu63 => ?_)
      obtain ⟨rfl, rfl⟩ := hu63
      exact jj_vx (j_iret h hrt hlk dX2_nearest_66 (by decide) (by decide) (⟨hT, by rw [hac, neC, if_pos hp, e7, hrc, eo, hoc], rfl⟩))
    · -- f
      have hp : hpB f a = false := by simp [hpB, e7, hrc, c20]
      refine j_iconst (v := (-1)) h dX2_nearest_23 (by decide) ?_
      exact jj_vx (j_iret h hrt hlk dX2_nearest_24 (by decide) (by decide) (⟨hT, by rw [hac, neC, hp]; rfl, rfl⟩))
set_option maxHeartbeats 4000000 in
set_option maxRecDepth 100000 in
theorem c_X2_prize {l : Launch} {D : va_G} {cI cL cR : ClassId} (hl : l.stackTraces = false) {ad : Nat → Nat} {f : St} {C : List Nat} {n b q : Nat} {g : Int32} (hx : xw n b q f C) : ctT l D vwCl (tyW cI cL cR) yX2_prize wsX2_prize { frames := 6, cells := 1, slots := 6, locals := 82 } [.ref (ad 0), .int g] (wX cI cL cR ad C f) (fun v u => tPrize g = 0 ∧ v = (pzF f g q).1 ∧ u = (wX cI cL cR ad C f)) (fun E => E = "java/lang/IllegalArgumentException" ∧ tPrize g = 1) 1 6 := by
  refine ctT_of (cc := cX2_prize) (maxL := 8) (ret := (some .int)) (by decide) rfl rfl (Nat.le_of_ble_eq_true rfl) (by simp [Value.category]) [(0, .ref (ad 0)), (1, .int g)] rfl ?_
  intro p e s m args below meth c sz h hrt hlk hout
  have hin1 : ∀ x ∈ wsX10, x ∈ wsX2_prize := by decide +kernel
  have hin2 : ∀ x ∈ wsX20, x ∈ wsX2_prize := by decide +kernel
  have hn24 := hx.1
  have hb8 := hx.2.1
  have hq8 := hx.2.2.1
  have hfn := hx.2.2.2.2.1
  have hfb := hx.2.2.2.2.2.1
  have hfq := hx.2.2.2.2.2.2.1
  obtain ⟨q9, hw9⟩ := wX_recv (cI := cI) (cL := cL) (cR := cR) (ad := ad) (f := f) (hx.c (show 0 < 5 by decide))
  rw [gX_0] at hw9
  refine j_iload_n h dX2_prize_0 rfl ?_
  refine j_iconst (v := 0) h dX2_prize_1 (by decide) ?_
  refine j_sipush (v := 1023) h dX2_prize_2 (by decide) ?_
  refine j_callSI h dX2_prize_5 (c_X2_within) (va_cwS 3 h.2.2.2.2.1 gX2_prize_X2_within rfl rfl rfl (by decide +kernel) ⟨Nat.le_of_ble_eq_true rfl, Nat.le_of_ble_eq_true rfl⟩) rfl rfl (Nat.le_of_ble_eq_true rfl) ⟨Nat.le_of_ble_eq_true rfl, Nat.le_of_ble_eq_true rfl⟩ (fun r5 u5 hu5 => ?_)
  obtain ⟨rfl, rfl⟩ := hu5
  refine j_if_ne (tgt := 21) h dX2_prize_8 (by decide) (fun c8 => ?_) (fun c8 => ?_)
  · -- t
    have hT : tPrize g = 0 := by rw [tPrize, bi_n0.mp c8]; rfl
    refine j_iconst (v := (-1)) h dX2_prize_21 (by decide) ?_
    refine j_istore_n (i := 2) h dX2_prize_22 rfl (by decide) ?_
    refine j_iconst (v := (-1)) h dX2_prize_23 (by decide) ?_
    refine j_istore_n (i := 3) h dX2_prize_24 rfl (by decide) ?_
    refine j_aload_nR h dX2_prize_25 rfl ?_
    refine x2_get2 h hin2 (by decide +kernel) dX2_prize_26 (by first | exact hx.c (by omega) | exact hx.l (by omega) | exact hx.r (by omega) | exact hx.s (by omega)) ?_
    refine j_astoreR h dX2_prize_29 (by decide) ?_
    refine j_aloadR h dX2_prize_31 rfl ?_
    refine x2_alen2 h dX2_prize_33 (by first | exact hx.c (by omega) | exact hx.l (by omega) | exact hx.r (by omega) | exact hx.s (by omega)) ?_
    refine j_istore h dX2_prize_34 (by decide) ?_
    refine j_iconst (v := 0) h dX2_prize_36 (by decide) ?_
    refine j_istore h dX2_prize_37 (by decide) ?_
    refine jj_loop (fun i : Nat => [(0, .ref (ad 0)), (1, .int g), (2, .int (pzF f g (min i q)).1), (3, .int (pzF f g (min i q)).2), (4, .ref (ad 3)), (5, .int 8), (6, .int (nI i))]) (fun i : Nat => (wX cI cL cR ad C f)) (fun i : Nat => i ≤ 8) (fun i : Nat => 8 - i) 0 ⟨rfl, rfl, by rw [Nat.zero_min]; rfl, by rw [Nat.zero_min]; rfl, rfl, rfl, rfl, trivial⟩ rfl (by first | omega | exact ⟨by omega, by rw [Nat.zero_min]; rfl⟩) (fun i hi ihi => ?_)
    refine j_iload h dX2_prize_39 rfl ?_
    refine j_iload h dX2_prize_41 rfl ?_
    refine j_icmp_ge (tgt := 96) h dX2_prize_43 (by decide) (fun c43 => ?_) (fun c43 => ?_)
    · -- t
      rw [show (8 : Int32) = nI 8 from rfl, nI_leI (by omega) (by omega)] at c43
      refine j_iload_n h dX2_prize_96 rfl ?_
      exact jj_vx (j_iret h hrt hlk dX2_prize_97 (by decide) (by decide) (⟨hT, by rw [show min i q = q by omega], rfl⟩))
    · -- f
      rw [show (8 : Int32) = nI 8 from rfl, nI_leI (by omega) (by omega)] at c43
      refine j_aloadR h dX2_prize_46 rfl ?_
      refine j_iload h dX2_prize_48 rfl ?_
      refine xl_ald2 h (by first | assumption | exact hx.up (by omega) _ _ | exact (hx.up (by omega) _ _).up (by omega) _ _) dX2_prize_50 rfl (by omega) (fun e50 => ?_) (fun r50 hq50 hr50 e50 => ?_)
      · -- n
        have hE : pzF f g (min (i + 1) q) = pzF f g (min i q) := by rw [show min (i + 1) q = min i q by omega]
        refine j_astoreN h dX2_prize_51 (by decide) ?_
        refine j_aload h dX2_prize_53 rfl (Or.inl rfl) ?_
        refine j_ifnullN (tgt := 90) h dX2_prize_55 (by decide) ?_
        refine j_iinc h dX2_prize_90 rfl rfl (by decide) ?_
        refine j_goto (tgt := 39) h dX2_prize_93 (by decide) ?_
        exact ihi (i + 1) (by omega) (by omega) _ ⟨rfl, rfl, by rw [hE]; rfl, by rw [hE]; rfl, rfl, rfl, by simp [lget, nI_succ], trivial⟩
      · -- r
        have hmi : min i q = i := by omega
        have hmi1 : min (i + 1) q = i + 1 := by omega
        have hrc : (nI r50).toNatClampNeg = r50 := nI_clamp (by omega)
        refine j_astoreR h dX2_prize_51 (by decide) ?_
        refine j_aloadR h dX2_prize_53 rfl ?_
        refine j_ifnullR h dX2_prize_55 ?_
        refine j_aloadR h dX2_prize_58 rfl ?_
        refine x1_get4 h hin1 (by decide +kernel) dX2_prize_60 (by omega) (by first | exact hx.c (by omega) | exact hx.l (by omega) | exact hx.r (by omega) | exact hx.s (by omega)) ?_
        refine j_iconst (v := 1) h dX2_prize_63 (by decide) ?_
        refine j_icmp_ne (tgt := 90) h dX2_prize_64 (by decide) (fun c64 => ?_) (fun c64 => ?_)
        · -- t
          have hE : pzF f g (min (i + 1) q) = pzF f g (min i q) := by rw [hmi, hmi1, pzF, e50, hrc, if_neg (fun z => c64 z.1)]
          refine j_iinc h dX2_prize_90 rfl rfl (by decide) ?_
          refine j_goto (tgt := 39) h dX2_prize_93 (by decide) ?_
          exact ihi (i + 1) (by omega) (by omega) _ ⟨rfl, rfl, by rw [hE]; rfl, by rw [hE]; rfl, rfl, rfl, by simp [lget, nI_succ], trivial⟩
        · -- f
          refine j_aloadR h dX2_prize_67 rfl ?_
          refine j_iload_n h dX2_prize_69 rfl ?_
          refine xc1_callVI h (by omega) dX2_prize_70 (c_X1_alike hx hr50) (cwV 1 h.2.2.2.2.1 gX2_prize_X1_alike rfl rfl rfl (by decide +kernel) ⟨Nat.le_of_ble_eq_true rfl, Nat.le_of_ble_eq_true rfl⟩) (by first | exact hx.c (by omega) | exact hx.l (by omega) | exact hx.r (by omega) | exact hx.s (by omega)) rfl rfl (Nat.le_of_ble_eq_true rfl) ⟨Nat.le_of_ble_eq_true rfl, Nat.le_of_ble_eq_true rfl⟩ (fun r70 u70 hu70 => ?_)
          obtain ⟨rfl, rfl⟩ := hu70
          refine j_iload_n h dX2_prize_73 rfl ?_
          refine j_icmp_le (tgt := 90) h dX2_prize_74 (by decide) (fun c74 => ?_) (fun c74 => ?_)
          · -- t
            have hE : pzF f g (min (i + 1) q) = pzF f g (min i q) := by rw [hmi, hmi1, pzF, e50, hrc, if_neg (fun z => absurd z.2 (Int32.not_lt.mpr (by rw [hmi] at c74; exact c74)))]
            refine j_iinc h dX2_prize_90 rfl rfl (by decide) ?_
            refine j_goto (tgt := 39) h dX2_prize_93 (by decide) ?_
            exact ihi (i + 1) (by omega) (by omega) _ ⟨rfl, rfl, by rw [hE]; rfl, by rw [hE]; rfl, rfl, rfl, by simp [lget, nI_succ], trivial⟩
          · -- f
            have hE : pzF f g (min (i + 1) q) = (nI r50, axS f r50 g 10) := by rw [hmi1, pzF, e50, hrc, if_pos ⟨c64, Int32.not_le.mp (by rw [hmi] at c74; exact c74)⟩]
            refine j_aloadR h dX2_prize_77 rfl ?_
            refine x1_get0 h hin1 (by decide +kernel) dX2_prize_79 (by omega) (by first | exact hx.c (by omega) | exact hx.l (by omega) | exact hx.r (by omega) | exact hx.s (by omega)) ?_
            rw [hx.nr _ hr50]
            refine j_istore_n (i := 2) h dX2_prize_82 rfl (by decide) ?_
            refine j_aloadR h dX2_prize_83 rfl ?_
            refine j_iload_n h dX2_prize_85 rfl ?_
            refine xc1_callVI h (by omega) dX2_prize_86 (c_X1_alike hx hr50) (cwV 1 h.2.2.2.2.1 gX2_prize_X1_alike rfl rfl rfl (by decide +kernel) ⟨Nat.le_of_ble_eq_true rfl, Nat.le_of_ble_eq_true rfl⟩) (by first | exact hx.c (by omega) | exact hx.l (by omega) | exact hx.r (by omega) | exact hx.s (by omega)) rfl rfl (Nat.le_of_ble_eq_true rfl) ⟨Nat.le_of_ble_eq_true rfl, Nat.le_of_ble_eq_true rfl⟩ (fun r86 u86 hu86 => ?_)
            obtain ⟨rfl, rfl⟩ := hu86
            refine j_istore_n (i := 3) h dX2_prize_89 rfl (by decide) ?_
            refine j_iinc h dX2_prize_90 rfl rfl (by decide) ?_
            refine j_goto (tgt := 39) h dX2_prize_93 (by decide) ?_
            exact ihi (i + 1) (by omega) (by omega) _ ⟨rfl, rfl, by rw [hE]; rfl, by rw [hE]; rfl, rfl, rfl, by simp [lget, nI_succ], trivial⟩
  · -- f
    have hT : tPrize g = 1 := by rw [tPrize, bi_0.mp c8]; rfl
    exact j_throwA (is := 192) (text := "figure is out of range") h hl hout hlk (by decide) (by decide +kernel) (by decide +kernel) (by decide +kernel) dX2_prize_11 dX2_prize_14 dX2_prize_15 dX2_prize_17 dX2_prize_20 (Nat.le_of_ble_eq_true rfl) (Nat.le_of_ble_eq_true rfl) (Nat.le_of_ble_eq_true rfl) (Nat.le_of_ble_eq_true rfl) (Nat.le_of_ble_eq_true rfl) (Nat.le_of_ble_eq_true rfl) (⟨rfl, hT⟩)
set_option maxHeartbeats 4000000 in
set_option maxRecDepth 100000 in
theorem c_X2_pass {l : Launch} {D : va_G} {cI cL cR : ClassId} (hl : l.stackTraces = false) {ad : Nat → Nat} {f : St} {C : List Nat} {n b q : Nat} {x : Int32} {tm : Nat} (hx : xw n b q f C) (htm : tm < 2 ^ 28) (hM : ∀ k, k ≤ 60 → MI n b q (psC f n q tm k) (tm + k) C) : ctT l D vwCl (tyW cI cL cR) yX2_pass wsX2_pass { frames := 6, cells := 1, slots := 6, locals := 130 } [.ref (ad 0), .int x] (wX cI cL cR ad C f) (fun v u => tPass x = 0 ∧ v = ltS f n - ltS (psC f n q tm x.toNatClampNeg) n ∧ u = wX cI cL cR ad C (psC f n q tm x.toNatClampNeg)) (fun E => E = "java/lang/IllegalArgumentException" ∧ tPass x = 1) 1 6 := by
  refine ctT_of (cc := cX2_pass) (maxL := 4) (ret := (some .int)) (by decide) rfl rfl (Nat.le_of_ble_eq_true rfl) (by simp [Value.category]) [(0, .ref (ad 0)), (1, .int x)] rfl ?_
  intro p e s m args below meth c sz h hrt hlk hout
  have hn24 := hx.1
  have hb8 := hx.2.1
  have hq8 := hx.2.2.1
  have hfn := hx.2.2.2.2.1
  have hfb := hx.2.2.2.2.2.1
  have hfq := hx.2.2.2.2.2.2.1
  obtain ⟨q9, hw9⟩ := wX_recv (cI := cI) (cL := cL) (cR := cR) (ad := ad) (f := f) (hx.c (show 0 < 5 by decide))
  rw [gX_0] at hw9
  refine j_iload_n h dX2_pass_0 rfl ?_
  refine j_iconst (v := 1) h dX2_pass_1 (by decide) ?_
  refine j_bipush (v := 60) h dX2_pass_2 (by decide) ?_
  refine j_callSI h dX2_pass_4 (c_X2_within) (va_cwS 3 h.2.2.2.2.1 gX2_pass_X2_within rfl rfl rfl (by decide +kernel) ⟨Nat.le_of_ble_eq_true rfl, Nat.le_of_ble_eq_true rfl⟩) rfl rfl (Nat.le_of_ble_eq_true rfl) ⟨Nat.le_of_ble_eq_true rfl, Nat.le_of_ble_eq_true rfl⟩ (fun r4 u4 hu4 => ?_)
  obtain ⟨rfl, rfl⟩ := hu4
  refine j_if_ne (tgt := 20) h dX2_pass_7 (by decide) (fun c7 => ?_) (fun c7 => ?_)
  · -- t
    have hT : tPass x = 0 := by rw [tPass, bi_n0.mp c7]; rfl
    obtain ⟨m0, hm1, hm2, rfl⟩ := inB_1 (m := 60) (by decide) (show inB x 1 (nI 60) = true from bi_n0.mp c7)
    have hmc : (nI m0).toNatClampNeg = m0 := nI_clamp (by omega)
    refine j_aload_nR h dX2_pass_20 rfl ?_
    refine xc2_callVI h dX2_pass_21 (c_X2_litLanterns hx) (cwV 0 h.2.2.2.2.1 gX2_pass_X2_litLanterns rfl rfl rfl (by decide +kernel) ⟨Nat.le_of_ble_eq_true rfl, Nat.le_of_ble_eq_true rfl⟩) (by first | exact hx.c (by omega) | exact hx.l (by omega) | exact hx.r (by omega) | exact hx.s (by omega)) rfl rfl (Nat.le_of_ble_eq_true rfl) ⟨Nat.le_of_ble_eq_true rfl, Nat.le_of_ble_eq_true rfl⟩ (fun r21 u21 hu21 => ?_)
    obtain ⟨rfl, rfl⟩ := hu21
    refine j_istore_n (i := 2) h dX2_pass_24 rfl (by decide) ?_
    refine j_iconst (v := 0) h dX2_pass_25 (by decide) ?_
    refine j_istore_n (i := 3) h dX2_pass_26 rfl (by decide) ?_
    refine jj_loop (fun i : Nat => [(0, .ref (ad 0)), (1, .int (nI m0)), (2, .int (ltS f n)), (3, .int (nI i))]) (fun i : Nat => wX cI cL cR ad C (psC f n q tm i)) (fun i : Nat => i ≤ m0) (fun i : Nat => m0 - i) 0 ⟨rfl, rfl, rfl, rfl, trivial⟩ rfl (by first | omega | exact ⟨by omega, by rw [Nat.zero_min]; rfl⟩) (fun i hi ihi => ?_)
    obtain ⟨hxi, hsi, hpi, hfi, hti, hgi⟩ := hM i (by omega)
    refine j_iload_n h dX2_pass_27 rfl ?_
    refine j_iload_n h dX2_pass_28 rfl ?_
    refine j_icmp_ge (tgt := 42) h dX2_pass_29 (by decide) (fun c29 => ?_) (fun c29 => ?_)
    · -- t
      rw [nI_leI (by omega) (by omega)] at c29
      obtain rfl : i = m0 := by omega
      refine j_iload_n h dX2_pass_42 rfl ?_
      refine j_aload_nR h dX2_pass_43 rfl ?_
      refine xc2_callVI h dX2_pass_44 (c_X2_litLanterns hxi) (cwV 0 h.2.2.2.2.1 gX2_pass_X2_litLanterns rfl rfl rfl (by decide +kernel) ⟨Nat.le_of_ble_eq_true rfl, Nat.le_of_ble_eq_true rfl⟩) (by first | exact hx.c (by omega) | exact hx.l (by omega) | exact hx.r (by omega) | exact hx.s (by omega)) rfl rfl (Nat.le_of_ble_eq_true rfl) ⟨Nat.le_of_ble_eq_true rfl, Nat.le_of_ble_eq_true rfl⟩ (fun r44 u44 hu44 => ?_)
      obtain ⟨rfl, rfl⟩ := hu44
      refine j_isub h dX2_pass_47 ?_
      exact jj_vx (j_iret h hrt hlk dX2_pass_48 (by decide) (by decide) (⟨hT, by rw [hmc], by rw [hmc]⟩))
    · -- f
      rw [nI_leI (by omega) (by omega)] at c29
      refine j_aload_nR h dX2_pass_32 rfl ?_
      refine xc2_callVV h dX2_pass_33 (c_X2_passOne hxi hsi hpi hfi hti (by omega) hgi) (cwV 0 h.2.2.2.2.1 gX2_pass_X2_passOne rfl rfl rfl (by decide +kernel) ⟨Nat.le_of_ble_eq_true rfl, Nat.le_of_ble_eq_true rfl⟩) (by first | exact hx.c (by omega) | exact hx.l (by omega) | exact hx.r (by omega) | exact hx.s (by omega)) rfl rfl (Nat.le_of_ble_eq_true rfl) ⟨Nat.le_of_ble_eq_true rfl, Nat.le_of_ble_eq_true rfl⟩ (fun u33 hu33 => ?_)
      obtain rfl := hu33
      refine j_iinc h dX2_pass_36 rfl rfl (by decide) ?_
      refine j_goto (tgt := 27) h dX2_pass_39 (by decide) ?_
      exact ihi (i + 1) (by omega) (by omega) _ ⟨rfl, rfl, rfl, by simp [lget, nI_succ], trivial⟩
  · -- f
    have hT : tPass x = 1 := by rw [tPass, bi_0.mp c7]; rfl
    exact j_throwA (is := 166) (text := "minutes is out of range") h hl hout hlk (by decide) (by decide +kernel) (by decide +kernel) (by decide +kernel) dX2_pass_10 dX2_pass_13 dX2_pass_14 dX2_pass_16 dX2_pass_19 (Nat.le_of_ble_eq_true rfl) (Nat.le_of_ble_eq_true rfl) (Nat.le_of_ble_eq_true rfl) (Nat.le_of_ble_eq_true rfl) (Nat.le_of_ble_eq_true rfl) (Nat.le_of_ble_eq_true rfl) (⟨rfl, hT⟩)
