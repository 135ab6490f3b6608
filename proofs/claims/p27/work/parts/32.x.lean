set_option maxHeartbeats 4000000 in
set_option maxRecDepth 100000 in
theorem c_X2_time {l : Launch} {D : va_G} {cI cL cR : ClassId} {ad : Nat → Nat} {f : St} {C : List Nat} {n b q : Nat} (hx : xw n b q f C) : ctI l D vwCl (tyW cI cL cR) yX2_time wsX2_time { frames := 0, cells := 0, slots := 0, locals := 0 } [.ref (ad 0)] (wX cI cL cR ad C f) (fun v u => v = (f 18 0) ∧ u = (wX cI cL cR ad C f)) 0 0 := by
  refine ctI_of (cc := cX2_time) (maxL := 1) (ret := (some .int)) (by decide) rfl rfl (Nat.le_of_ble_eq_true rfl) (by simp [Value.category]) [(0, .ref (ad 0))] rfl ?_
  intro p e s m args below meth c sz h hrt hlk hnm
  have hin2 : ∀ x ∈ wsX20, x ∈ wsX2_time := by decide +kernel
  have hn24 := hx.1
  have hb8 := hx.2.1
  have hq8 := hx.2.2.1
  refine j_aload_nR h dX2_time_0 rfl ?_
  refine x2_get7 h hin2 (by decide +kernel) dX2_time_1 (by first | exact hx.c (by omega) | exact hx.l (by omega) | exact hx.r (by omega) | exact hx.s (by omega)) ?_
  exact j_iret h hrt hlk dX2_time_4 (by decide) (by decide) (⟨rfl, rfl⟩)
set_option maxHeartbeats 4000000 in
set_option maxRecDepth 100000 in
theorem c_X2_lanterns {l : Launch} {D : va_G} {cI cL cR : ClassId} {ad : Nat → Nat} {f : St} {C : List Nat} {n b q : Nat} (hx : xw n b q f C) : ctI l D vwCl (tyW cI cL cR) yX2_lanterns wsX2_lanterns { frames := 0, cells := 0, slots := 0, locals := 0 } [.ref (ad 0)] (wX cI cL cR ad C f) (fun v u => v = (f 7 0) ∧ u = (wX cI cL cR ad C f)) 0 0 := by
  refine ctI_of (cc := cX2_lanterns) (maxL := 1) (ret := (some .int)) (by decide) rfl rfl (Nat.le_of_ble_eq_true rfl) (by simp [Value.category]) [(0, .ref (ad 0))] rfl ?_
  intro p e s m args below meth c sz h hrt hlk hnm
  have hin2 : ∀ x ∈ wsX20, x ∈ wsX2_lanterns := by decide +kernel
  have hn24 := hx.1
  have hb8 := hx.2.1
  have hq8 := hx.2.2.1
  refine j_aload_nR h dX2_lanterns_0 rfl ?_
  refine x2_get4 h hin2 (by decide +kernel) dX2_lanterns_1 (by first | exact hx.c (by omega) | exact hx.l (by omega) | exact hx.r (by omega) | exact hx.s (by omega)) ?_
  exact j_iret h hrt hlk dX2_lanterns_4 (by decide) (by decide) (⟨rfl, rfl⟩)
set_option maxHeartbeats 4000000 in
set_option maxRecDepth 100000 in
theorem c_X2_blownOut {l : Launch} {D : va_G} {cI cL cR : ClassId} {ad : Nat → Nat} {f : St} {C : List Nat} {n b q : Nat} (hx : xw n b q f C) : ctI l D vwCl (tyW cI cL cR) yX2_blownOut wsX2_blownOut { frames := 0, cells := 0, slots := 0, locals := 0 } [.ref (ad 0)] (wX cI cL cR ad C f) (fun v u => v = (f 19 0) ∧ u = (wX cI cL cR ad C f)) 0 0 := by
  refine ctI_of (cc := cX2_blownOut) (maxL := 1) (ret := (some .int)) (by decide) rfl rfl (Nat.le_of_ble_eq_true rfl) (by simp [Value.category]) [(0, .ref (ad 0))] rfl ?_
  intro p e s m args below meth c sz h hrt hlk hnm
  have hin2 : ∀ x ∈ wsX20, x ∈ wsX2_blownOut := by decide +kernel
  have hn24 := hx.1
  have hb8 := hx.2.1
  have hq8 := hx.2.2.1
  refine j_aload_nR h dX2_blownOut_0 rfl ?_
  refine x2_get10 h hin2 (by decide +kernel) dX2_blownOut_1 (by first | exact hx.c (by omega) | exact hx.l (by omega) | exact hx.r (by omega) | exact hx.s (by omega)) ?_
  exact j_iret h hrt hlk dX2_blownOut_4 (by decide) (by decide) (⟨rfl, rfl⟩)
set_option maxHeartbeats 4000000 in
set_option maxRecDepth 100000 in
theorem c_X2_ordered {l : Launch} {D : va_G} {cI cL cR : ClassId} {ad : Nat → Nat} {f : St} {C : List Nat} {n b q : Nat} (hx : xw n b q f C) : ctI l D vwCl (tyW cI cL cR) yX2_ordered wsX2_ordered { frames := 0, cells := 0, slots := 0, locals := 0 } [.ref (ad 0)] (wX cI cL cR ad C f) (fun v u => v = (f 20 0) ∧ u = (wX cI cL cR ad C f)) 0 0 := by
  refine ctI_of (cc := cX2_ordered) (maxL := 1) (ret := (some .int)) (by decide) rfl rfl (Nat.le_of_ble_eq_true rfl) (by simp [Value.category]) [(0, .ref (ad 0))] rfl ?_
  intro p e s m args below meth c sz h hrt hlk hnm
  have hin2 : ∀ x ∈ wsX20, x ∈ wsX2_ordered := by decide +kernel
  have hn24 := hx.1
  have hb8 := hx.2.1
  have hq8 := hx.2.2.1
  refine j_aload_nR h dX2_ordered_0 rfl ?_
  refine x2_get11 h hin2 (by decide +kernel) dX2_ordered_1 (by first | exact hx.c (by omega) | exact hx.l (by omega) | exact hx.r (by omega) | exact hx.s (by omega)) ?_
  exact j_iret h hrt hlk dX2_ordered_4 (by decide) (by decide) (⟨rfl, rfl⟩)
set_option maxHeartbeats 4000000 in
set_option maxRecDepth 100000 in
theorem c_X2_setRules {l : Launch} {D : va_G} {cI cL cR : ClassId} (hl : l.stackTraces = false) {ad : Nat → Nat} {f : St} {C : List Nat} {n b q : Nat} {x y : Int32} (hx : xw n b q f C) : ctT l D vwCl (tyW cI cL cR) yX2_setRules wsX2_setRules { frames := 6, cells := 1, slots := 6, locals := 82 } [.ref (ad 0), .int x, .int y] (wX cI cL cR ad C f) (fun v u => tRules x y = 0 ∧ v = f 15 0 ∧ u = wX cI cL cR ad C (up2 (up2 f 15 0 x) 16 0 y)) (fun E => E = "java/lang/IllegalArgumentException" ∧ tRules x y = 1) 1 6 := by
  refine ctT_of (cc := cX2_setRules) (maxL := 4) (ret := (some .int)) (by decide) rfl rfl (Nat.le_of_ble_eq_true rfl) (by simp [Value.category]) [(0, .ref (ad 0)), (1, .int x), (2, .int y)] rfl ?_
  intro p e s m args below meth c sz h hrt hlk hout
  have hin2 : ∀ x ∈ wsX20, x ∈ wsX2_setRules := by decide +kernel
  have hn24 := hx.1
  have hb8 := hx.2.1
  have hq8 := hx.2.2.1
  have hfn := hx.2.2.2.2.1
  have hfb := hx.2.2.2.2.2.1
  have hfq := hx.2.2.2.2.2.2.1
  obtain ⟨q9, hw9⟩ := wX_recv (cI := cI) (cL := cL) (cR := cR) (ad := ad) (f := f) (hx.c (show 0 < 5 by decide))
  rw [gX_0] at hw9
  refine j_iload_n h dX2_setRules_0 rfl ?_
  refine j_iconst (v := 1) h dX2_setRules_1 (by decide) ?_
  refine j_bipush (v := 20) h dX2_setRules_2 (by decide) ?_
  refine j_callSI h dX2_setRules_4 (c_X2_within) (va_cwS 3 h.2.2.2.2.1 gX2_setRules_X2_within rfl rfl rfl (by decide +kernel) ⟨Nat.le_of_ble_eq_true rfl, Nat.le_of_ble_eq_true rfl⟩) rfl rfl (Nat.le_of_ble_eq_true rfl) ⟨Nat.le_of_ble_eq_true rfl, Nat.le_of_ble_eq_true rfl⟩ (fun r4 u4 hu4 => ?_)
  obtain ⟨rfl, rfl⟩ := hu4
  refine j_if_eq (tgt := 20) h dX2_setRules_7 (by decide) (fun c7 => ?_) (fun c7 => ?_)
  · -- t
    have hT : tRules x y = 1 := by rw [tRules, bi_0.mp c7]; rfl
    exact j_throwA (is := 162) (text := "gap or base is out of range") h hl hout hlk (by decide) (by decide +kernel) (by decide +kernel) (by decide +kernel) dX2_setRules_20 dX2_setRules_23 dX2_setRules_24 dX2_setRules_26 dX2_setRules_29 (Nat.le_of_ble_eq_true rfl) (Nat.le_of_ble_eq_true rfl) (Nat.le_of_ble_eq_true rfl) (Nat.le_of_ble_eq_true rfl) (Nat.le_of_ble_eq_true rfl) (Nat.le_of_ble_eq_true rfl) (⟨rfl, hT⟩)
  · -- f
    refine j_iload_n h dX2_setRules_10 rfl ?_
    refine j_iconst (v := 0) h dX2_setRules_11 (by decide) ?_
    refine j_bipush (v := 9) h dX2_setRules_12 (by decide) ?_
    refine j_callSI h dX2_setRules_14 (c_X2_within) (va_cwS 3 h.2.2.2.2.1 gX2_setRules_X2_within rfl rfl rfl (by decide +kernel) ⟨Nat.le_of_ble_eq_true rfl, Nat.le_of_ble_eq_true rfl⟩) rfl rfl (Nat.le_of_ble_eq_true rfl) ⟨Nat.le_of_ble_eq_true rfl, Nat.le_of_ble_eq_true rfl⟩ (fun r14 u14 hu14 => ?_)
    obtain ⟨rfl, rfl⟩ := hu14
    refine j_if_ne (tgt := 30) h dX2_setRules_17 (by decide) (fun c17 => ?_) (fun c17 => ?_)
    · -- t
      refine j_aload_nR h dX2_setRules_30 rfl ?_
      refine x2_get8 h hin2 (by decide +kernel) dX2_setRules_31 (by first | exact hx.c (by omega) | exact hx.l (by omega) | exact hx.r (by omega) | exact hx.s (by omega)) ?_
      refine j_istore_n (i := 3) h dX2_setRules_34 rfl (by decide) ?_
      refine j_aload_nR h dX2_setRules_35 rfl ?_
      refine j_iload_n h dX2_setRules_36 rfl ?_
      refine x2_put8 h hin2 (by decide +kernel) dX2_setRules_37 (by first | exact hx.c (by omega) | exact hx.l (by omega) | exact hx.r (by omega) | exact hx.s (by omega)) ?_
      refine j_aload_nR h dX2_setRules_40 rfl ?_
      refine j_iload_n h dX2_setRules_41 rfl ?_
      refine x2_put9 h hin2 (by decide +kernel) dX2_setRules_42 (by first | exact hx.c (by omega) | exact hx.l (by omega) | exact hx.r (by omega) | exact hx.s (by omega)) ?_
      refine j_iload_n h dX2_setRules_45 rfl ?_
      exact jj_vx (j_iret h hrt hlk dX2_setRules_46 (by decide) (by decide) (⟨by rw [tRules, bi_n0.mp c7, bi_n0.mp c17]; rfl, rfl, rfl⟩))
    · -- f
      have hT : tRules x y = 1 := by rw [tRules, bi_n0.mp c7, bi_0.mp c17]; rfl
      exact j_throwA (is := 162) (text := "gap or base is out of range") h hl hout hlk (by decide) (by decide +kernel) (by decide +kernel) (by decide +kernel) dX2_setRules_20 dX2_setRules_23 dX2_setRules_24 dX2_setRules_26 dX2_setRules_29 (Nat.le_of_ble_eq_true rfl) (Nat.le_of_ble_eq_true rfl) (Nat.le_of_ble_eq_true rfl) (Nat.le_of_ble_eq_true rfl) (Nat.le_of_ble_eq_true rfl) (Nat.le_of_ble_eq_true rfl) (⟨rfl, hT⟩)
set_option maxHeartbeats 4000000 in
set_option maxRecDepth 100000 in
theorem c_X2_setGust {l : Launch} {D : va_G} {cI cL cR : ClassId} (hl : l.stackTraces = false) {ad : Nat → Nat} {f : St} {C : List Nat} {n b q : Nat} {x y : Int32} (hx : xw n b q f C) : ctT l D vwCl (tyW cI cL cR) yX2_setGust wsX2_setGust { frames := 6, cells := 1, slots := 6, locals := 82 } [.ref (ad 0), .int x, .int y] (wX cI cL cR ad C f) (fun v u => tGust x y = 0 ∧ v = f 17 x.toNatClampNeg ∧ u = wX cI cL cR ad C (up2 f 17 x.toNatClampNeg y)) (fun E => E = "java/lang/IllegalArgumentException" ∧ tGust x y = 1) 1 6 := by
  refine ctT_of (cc := cX2_setGust) (maxL := 4) (ret := (some .int)) (by decide) rfl rfl (Nat.le_of_ble_eq_true rfl) (by simp [Value.category]) [(0, .ref (ad 0)), (1, .int x), (2, .int y)] rfl ?_
  intro p e s m args below meth c sz h hrt hlk hout
  have hin2 : ∀ x ∈ wsX20, x ∈ wsX2_setGust := by decide +kernel
  have hn24 := hx.1
  have hb8 := hx.2.1
  have hq8 := hx.2.2.1
  have hfn := hx.2.2.2.2.1
  have hfb := hx.2.2.2.2.2.1
  have hfq := hx.2.2.2.2.2.2.1
  obtain ⟨q9, hw9⟩ := wX_recv (cI := cI) (cL := cL) (cR := cR) (ad := ad) (f := f) (hx.c (show 0 < 5 by decide))
  rw [gX_0] at hw9
  refine j_iload_n h dX2_setGust_0 rfl ?_
  refine j_iconst (v := 1) h dX2_setGust_1 (by decide) ?_
  refine j_sipush (v := 400) h dX2_setGust_2 (by decide) ?_
  refine j_callSI h dX2_setGust_5 (c_X2_within) (va_cwS 3 h.2.2.2.2.1 gX2_setGust_X2_within rfl rfl rfl (by decide +kernel) ⟨Nat.le_of_ble_eq_true rfl, Nat.le_of_ble_eq_true rfl⟩) rfl rfl (Nat.le_of_ble_eq_true rfl) ⟨Nat.le_of_ble_eq_true rfl, Nat.le_of_ble_eq_true rfl⟩ (fun r5 u5 hu5 => ?_)
  obtain ⟨rfl, rfl⟩ := hu5
  refine j_if_eq (tgt := 21) h dX2_setGust_8 (by decide) (fun c8 => ?_) (fun c8 => ?_)
  · -- t
    have hT : tGust x y = 1 := by rw [tGust, bi_0.mp c8]; rfl
    exact j_throwA (is := 164) (text := "minute or strength is out of range") h hl hout hlk (by decide) (by decide +kernel) (by decide +kernel) (by decide +kernel) dX2_setGust_21 dX2_setGust_24 dX2_setGust_25 dX2_setGust_27 dX2_setGust_30 (Nat.le_of_ble_eq_true rfl) (Nat.le_of_ble_eq_true rfl) (Nat.le_of_ble_eq_true rfl) (Nat.le_of_ble_eq_true rfl) (Nat.le_of_ble_eq_true rfl) (Nat.le_of_ble_eq_true rfl) (⟨rfl, hT⟩)
  · -- f
    refine j_iload_n h dX2_setGust_11 rfl ?_
    refine j_iconst (v := 0) h dX2_setGust_12 (by decide) ?_
    refine j_bipush (v := 9) h dX2_setGust_13 (by decide) ?_
    refine j_callSI h dX2_setGust_15 (c_X2_within) (va_cwS 3 h.2.2.2.2.1 gX2_setGust_X2_within rfl rfl rfl (by decide +kernel) ⟨Nat.le_of_ble_eq_true rfl, Nat.le_of_ble_eq_true rfl⟩) rfl rfl (Nat.le_of_ble_eq_true rfl) ⟨Nat.le_of_ble_eq_true rfl, Nat.le_of_ble_eq_true rfl⟩ (fun r15 u15 hu15 => ?_)
    obtain ⟨rfl, rfl⟩ := hu15
    refine j_if_ne (tgt := 31) h dX2_setGust_18 (by decide) (fun c18 => ?_) (fun c18 => ?_)
    · -- t
      have hT : tGust x y = 0 := by rw [tGust, bi_n0.mp c8, bi_n0.mp c18]; rfl
      obtain ⟨a, ha1, ha2, rfl⟩ := inB_1 (m := 400) (by decide) (show inB x 1 (nI 400) = true from bi_n0.mp c8)
      have hac : (nI a).toNatClampNeg = a := nI_clamp (by omega)
      refine j_aload_nR h dX2_setGust_31 rfl ?_
      refine x2_get3 h hin2 (by decide +kernel) dX2_setGust_32 (by first | exact hx.c (by omega) | exact hx.l (by omega) | exact hx.r (by omega) | exact hx.s (by omega)) ?_
      refine j_iload_n h dX2_setGust_35 rfl ?_
      refine x2_ald3 h dX2_setGust_36 (by first | exact hx.c (by omega) | exact hx.l (by omega) | exact hx.r (by omega) | exact hx.s (by omega)) rfl (by omega) ?_
      refine j_istore_n (i := 3) h dX2_setGust_37 rfl (by decide) ?_
      refine j_aload_nR h dX2_setGust_38 rfl ?_
      refine x2_get3 h hin2 (by decide +kernel) dX2_setGust_39 (by first | exact hx.c (by omega) | exact hx.l (by omega) | exact hx.r (by omega) | exact hx.s (by omega)) ?_
      refine j_iload_n h dX2_setGust_42 rfl ?_
      refine j_iload_n h dX2_setGust_43 rfl ?_
      refine x2_ast3 h dX2_setGust_44 (by first | exact hx.c (by omega) | exact hx.l (by omega) | exact hx.r (by omega) | exact hx.s (by omega)) rfl (by omega) ?_
      refine j_iload_n h dX2_setGust_45 rfl ?_
      exact jj_vx (j_iret h hrt hlk dX2_setGust_46 (by decide) (by decide) (⟨hT, by rw [hac], by rw [hac]⟩))
    · -- f
      have hT : tGust x y = 1 := by rw [tGust, bi_n0.mp c8, bi_0.mp c18]; rfl
      exact j_throwA (is := 164) (text := "minute or strength is out of range") h hl hout hlk (by decide) (by decide +kernel) (by decide +kernel) (by decide +kernel) dX2_setGust_21 dX2_setGust_24 dX2_setGust_25 dX2_setGust_27 dX2_setGust_30 (Nat.le_of_ble_eq_true rfl) (Nat.le_of_ble_eq_true rfl) (Nat.le_of_ble_eq_true rfl) (Nat.le_of_ble_eq_true rfl) (Nat.le_of_ble_eq_true rfl) (Nat.le_of_ble_eq_true rfl) (⟨rfl, hT⟩)
set_option maxHeartbeats 4000000 in
set_option maxRecDepth 100000 in
theorem c_X2_putOut {l : Launch} {D : va_G} {cI cL cR : ClassId} (hl : l.stackTraces = false) {ad : Nat → Nat} {f : St} {C : List Nat} {n b q : Nat} {x : Int32} (hx : xw n b q f C) (hst : stO f n) : ctT l D vwCl (tyW cI cL cR) yX2_putOut wsX2_putOut { frames := 7, cells := 2, slots := 12, locals := 104 } [.ref (ad 0), .int x] (wX cI cL cR ad C f) (fun v u => tPutOut f x = 0 ∧ v = f 4 x.toNatClampNeg ∧ u = wX cI cL cR ad C (up2 f 3 x.toNatClampNeg 0)) (fun E => (E = "java/lang/IndexOutOfBoundsException" ∧ tPutOut f x = 1) ∨ (E = "java/lang/IllegalStateException" ∧ tPutOut f x = 2)) 2 12 := by
  refine ctT_of (cc := cX2_putOut) (maxL := 3) (ret := (some .int)) (by decide) rfl rfl (Nat.le_of_ble_eq_true rfl) (by simp [Value.category]) [(0, .ref (ad 0)), (1, .int x)] rfl ?_
  intro p e s m args below meth c sz h hrt hlk hout
  have hin0 : ∀ x ∈ wsX00, x ∈ wsX2_putOut := by decide +kernel
  have hn24 := hx.1
  have hb8 := hx.2.1
  have hq8 := hx.2.2.1
  have hfn := hx.2.2.2.2.1
  have hfb := hx.2.2.2.2.2.1
  have hfq := hx.2.2.2.2.2.2.1
  obtain ⟨q9, hw9⟩ := wX_recv (cI := cI) (cL := cL) (cR := cR) (ad := ad) (f := f) (hx.c (show 0 < 5 by decide))
  rw [gX_0] at hw9
  refine j_aload_nR h dX2_putOut_0 rfl ?_
  refine j_iload_n h dX2_putOut_1 rfl ?_
  refine j_callTQ (vc := (RX2, TX2, 12)) h hout hlk dX2_putOut_2 (c_X2_lanternNumbered hl hx) (cwV 1 h.2.2.2.2.1 gX2_putOut_X2_lanternNumbered rfl rfl rfl (by decide +kernel) ⟨Nat.le_of_ble_eq_true rfl, Nat.le_of_ble_eq_true rfl⟩) q9 hw9 rfl rfl rfl (Nat.le_of_ble_eq_true rfl) ⟨Nat.le_of_ble_eq_true rfl, Nat.le_of_ble_eq_true rfl⟩ (Nat.le_of_ble_eq_true rfl) (Nat.le_of_ble_eq_true rfl) (fun E z => Or.inl ⟨z.1, by rw [tPutOut, z.2]; rfl⟩) (fun r2 u2 hu2 => ?_)
  obtain ⟨a, ha, rfl, rfl, rfl⟩ := hu2
  have hac : (nI a).toNatClampNeg = a := nI_clamp (by omega)
  have hL : isL f (nI a) = true := isL_yes hfn (by omega) ha
  refine j_astore_nR (i := 2) h dX2_putOut_5 rfl (by decide) ?_
  refine j_aload_nR h dX2_putOut_6 rfl ?_
  refine x0_get3 h hin0 (by decide +kernel) dX2_putOut_7 (by omega) (by first | exact hx.c (by omega) | exact hx.l (by omega) | exact hx.r (by omega) | exact hx.s (by omega)) ?_
  refine j_iconst (v := 1) h dX2_putOut_10 (by decide) ?_
  refine j_icmp_eq (tgt := 24) h dX2_putOut_11 (by decide) (fun c11 => ?_) (fun c11 => ?_)
  · -- t
    have hT : tPutOut f (nI a) = 0 := by rw [tPutOut, hL, hac, c11]; rfl
    refine j_aload_nR h dX2_putOut_24 rfl ?_
    refine xc0_callVV h (by omega) dX2_putOut_25 (c_X0_darken hx ha hst) (cwV 0 h.2.2.2.2.1 gX2_putOut_X0_darken rfl rfl rfl (by decide +kernel) ⟨Nat.le_of_ble_eq_true rfl, Nat.le_of_ble_eq_true rfl⟩) (by first | exact hx.c (by omega) | exact hx.l (by omega) | exact hx.r (by omega) | exact hx.s (by omega)) rfl rfl (Nat.le_of_ble_eq_true rfl) ⟨Nat.le_of_ble_eq_true rfl, Nat.le_of_ble_eq_true rfl⟩ (fun u25 hu25 => ?_)
    obtain rfl := hu25
    rw [dkF_1 c11]
    refine j_aload_nR h dX2_putOut_28 rfl ?_
    refine x0_get4 h hin0 (by decide +kernel) dX2_putOut_29 (by omega) (by first | exact hx.c (by omega) | exact hx.l (by omega) | exact hx.r (by omega) | exact hx.s (by omega)) ?_
    exact jj_vx (j_iret h hrt hlk dX2_putOut_32 (by decide) (by decide) (⟨hT, by rw [hac]; rfl, by rw [hac]⟩))
  · -- f
    have hT : tPutOut f (nI a) = 2 := by rw [tPutOut, hL, hac, decide_eq_false c11]; rfl
    exact j_throwS (is := 140) (text := "the lantern is not lit") h hl hout hlk (by decide) (by decide +kernel) (by decide +kernel) (by decide +kernel) dX2_putOut_14 dX2_putOut_17 dX2_putOut_18 dX2_putOut_20 dX2_putOut_23 (Nat.le_of_ble_eq_true rfl) (Nat.le_of_ble_eq_true rfl) (Nat.le_of_ble_eq_true rfl) (Nat.le_of_ble_eq_true rfl) (Nat.le_of_ble_eq_true rfl) (Nat.le_of_ble_eq_true rfl) (Or.inr ⟨rfl, hT⟩)
set_option maxHeartbeats 4000000 in
set_option maxRecDepth 100000 in
theorem c_X2_light {l : Launch} {D : va_G} {cI cL cR : ClassId} (hl : l.stackTraces = false) {ad : Nat → Nat} {f : St} {C : List Nat} {n b q : Nat} {x : Int32} (hx : xw n b q f C) (hlp : lpF f n) (hpn : plN f n) : ctT l D vwCl (tyW cI cL cR) yX2_light wsX2_light { frames := 7, cells := 2, slots := 12, locals := 104 } [.ref (ad 0), .int x] (wX cI cL cR ad C f) (fun v u => tLight f n x = 0 ∧ v = f 4 x.toNatClampNeg ∧ u = wX cI cL cR ad C (up2 f 3 x.toNatClampNeg 1)) (fun E => (E = "java/lang/IndexOutOfBoundsException" ∧ tLight f n x = 1) ∨ (E = "java/lang/IllegalStateException" ∧ tLight f n x = 2)) 2 12 := by
  refine ctT_of (cc := cX2_light) (maxL := 3) (ret := (some .int)) (by decide) rfl rfl (Nat.le_of_ble_eq_true rfl) (by simp [Value.category]) [(0, .ref (ad 0)), (1, .int x)] rfl ?_
  intro p e s m args below meth c sz h hrt hlk hout
  have hin0 : ∀ x ∈ wsX00, x ∈ wsX2_light := by decide +kernel
  have hn24 := hx.1
  have hb8 := hx.2.1
  have hq8 := hx.2.2.1
  have hfn := hx.2.2.2.2.1
  have hfb := hx.2.2.2.2.2.1
  have hfq := hx.2.2.2.2.2.2.1
  obtain ⟨q9, hw9⟩ := wX_recv (cI := cI) (cL := cL) (cR := cR) (ad := ad) (f := f) (hx.c (show 0 < 5 by decide))
  rw [gX_0] at hw9
  refine j_aload_nR h dX2_light_0 rfl ?_
  refine j_iload_n h dX2_light_1 rfl ?_
  refine j_callTQ (vc := (RX2, TX2, 12)) h hout hlk dX2_light_2 (c_X2_lanternNumbered hl hx) (cwV 1 h.2.2.2.2.1 gX2_light_X2_lanternNumbered rfl rfl rfl (by decide +kernel) ⟨Nat.le_of_ble_eq_true rfl, Nat.le_of_ble_eq_true rfl⟩) q9 hw9 rfl rfl rfl (Nat.le_of_ble_eq_true rfl) ⟨Nat.le_of_ble_eq_true rfl, Nat.le_of_ble_eq_true rfl⟩ (Nat.le_of_ble_eq_true rfl) (Nat.le_of_ble_eq_true rfl) (fun E z => Or.inl ⟨z.1, by rw [tLight, z.2]; rfl⟩) (fun r2 u2 hu2 => ?_)
  obtain ⟨a, ha, rfl, rfl, rfl⟩ := hu2
  have hac : (nI a).toNatClampNeg = a := nI_clamp (by omega)
  have hL : isL f (nI a) = true := isL_yes hfn (by omega) ha
  refine j_astore_nR (i := 2) h dX2_light_5 rfl (by decide) ?_
  refine j_aload_nR h dX2_light_6 rfl ?_
  refine x0_get3 h hin0 (by decide +kernel) dX2_light_7 (by omega) (by first | exact hx.c (by omega) | exact hx.l (by omega) | exact hx.r (by omega) | exact hx.s (by omega)) ?_
  refine j_if_ne (tgt := 31) h dX2_light_10 (by decide) (fun c10 => ?_) (fun c10 => ?_)
  · -- t
    have hT : tLight f n (nI a) = 2 := by rw [tLight, hL, hac, decide_eq_false c10]; cases hpB f a <;> rfl
    exact j_throwS (is := 135) (text := "the lantern cannot be lit") h hl hout hlk (by decide) (by decide +kernel) (by decide +kernel) (by decide +kernel) dX2_light_31 dX2_light_34 dX2_light_35 dX2_light_37 dX2_light_40 (Nat.le_of_ble_eq_true rfl) (Nat.le_of_ble_eq_true rfl) (Nat.le_of_ble_eq_true rfl) (Nat.le_of_ble_eq_true rfl) (Nat.le_of_ble_eq_true rfl) (Nat.le_of_ble_eq_true rfl) (Or.inr ⟨rfl, hT⟩)
  · -- f
    have c7 := c10
    refine j_aload_nR h dX2_light_13 rfl ?_
    refine xc0_callVI h (by omega) dX2_light_14 (c_X0_place hx ha) (cwV 0 h.2.2.2.2.1 gX2_light_X0_place rfl rfl rfl (by decide +kernel) ⟨Nat.le_of_ble_eq_true rfl, Nat.le_of_ble_eq_true rfl⟩) (by first | exact hx.c (by omega) | exact hx.l (by omega) | exact hx.r (by omega) | exact hx.s (by omega)) rfl rfl (Nat.le_of_ble_eq_true rfl) ⟨Nat.le_of_ble_eq_true rfl, Nat.le_of_ble_eq_true rfl⟩ (fun r14 u14 hu14 => ?_)
    obtain ⟨rfl, rfl⟩ := hu14
    refine j_iconst (v := (-1)) h dX2_light_17 (by decide) ?_
    refine j_icmp_eq (tgt := 31) h dX2_light_18 (by decide) (fun c18 => ?_) (fun c18 => ?_)
    · -- t
      have hp : hpB f a = false := by
        cases hB : hpB f a with
        | false => rfl
        | true => rw [hB, if_pos rfl] at c18; exact absurd c18 (hpn a ha hB)
      have hT : tLight f n (nI a) = 2 := by rw [tLight, hL, hac, hp]; rfl
      exact j_throwS (is := 135) (text := "the lantern cannot be lit") h hl hout hlk (by decide) (by decide +kernel) (by decide +kernel) (by decide +kernel) dX2_light_31 dX2_light_34 dX2_light_35 dX2_light_37 dX2_light_40 (Nat.le_of_ble_eq_true rfl) (Nat.le_of_ble_eq_true rfl) (Nat.le_of_ble_eq_true rfl) (Nat.le_of_ble_eq_true rfl) (Nat.le_of_ble_eq_true rfl) (Nat.le_of_ble_eq_true rfl) (Or.inr ⟨rfl, hT⟩)
    · -- f
      have hp : hpB f a = true := by
        cases hB : hpB f a with
        | true => rfl
        | false => rw [hB] at c18; exact absurd rfl c18
      refine j_aload_nR h dX2_light_21 rfl ?_
      refine j_aload_nR h dX2_light_22 rfl ?_
      refine j_bipush (v := 24) h dX2_light_23 (by decide) ?_
      refine xc2_callVI h dX2_light_25 (c_X2_isCrowded hx (k := a) (B := 24) ha (by decide) hp hlp (Or.inl (by rw [c7]; decide))) (cwV 2 h.2.2.2.2.1 gX2_light_X2_isCrowded rfl rfl rfl (by decide +kernel) ⟨Nat.le_of_ble_eq_true rfl, Nat.le_of_ble_eq_true rfl⟩) (by first | exact hx.c (by omega) | exact hx.l (by omega) | exact hx.r (by omega) | exact hx.s (by omega)) rfl rfl (Nat.le_of_ble_eq_true rfl) ⟨Nat.le_of_ble_eq_true rfl, Nat.le_of_ble_eq_true rfl⟩ (fun r25 u25 hu25 => ?_)
      obtain ⟨rfl, rfl⟩ := hu25
      rw [show min 24 n = n by omega]
      refine j_if_eq (tgt := 41) h dX2_light_28 (by decide) (fun c28 => ?_) (fun c28 => ?_)
      · -- t
        have hT : tLight f n (nI a) = 0 := by rw [tLight, hL, hac, hp, decide_eq_true c10, bi_0.mp c28]; rfl
        refine j_aload_nR h dX2_light_41 rfl ?_
        refine j_iconst (v := 1) h dX2_light_42 (by decide) ?_
        refine x0_put3 h hin0 (by decide +kernel) dX2_light_43 (by omega) (by first | exact hx.c (by omega) | exact hx.l (by omega) | exact hx.r (by omega) | exact hx.s (by omega)) ?_
        refine j_aload_nR h dX2_light_46 rfl ?_
        refine x0_get4 h hin0 (by decide +kernel) dX2_light_47 (by omega) (by first | exact hx.c (by omega) | exact hx.l (by omega) | exact hx.r (by omega) | exact hx.s (by omega)) ?_
        exact jj_vx (j_iret h hrt hlk dX2_light_50 (by decide) (by decide) (⟨hT, by rw [hac]; rfl, by rw [hac]⟩))
      · -- f
        have hT : tLight f n (nI a) = 2 := by rw [tLight, hL, hac, hp, decide_eq_true c10, bi_n0.mp c28]; rfl
        exact j_throwS (is := 135) (text := "the lantern cannot be lit") h hl hout hlk (by decide) (by decide +kernel) (by decide +kernel) (by decide +kernel) dX2_light_31 dX2_light_34 dX2_light_35 dX2_light_37 dX2_light_40 (Nat.le_of_ble_eq_true rfl) (Nat.le_of_ble_eq_true rfl) (Nat.le_of_ble_eq_true rfl) (Nat.le_of_ble_eq_true rfl) (Nat.le_of_ble_eq_true rfl) (Nat.le_of_ble_eq_true rfl) (Or.inr ⟨rfl, hT⟩)
set_option maxHeartbeats 4000000 in
set_option maxRecDepth 100000 in
theorem c_X2_takeDown {l : Launch} {D : va_G} {cI cL cR : ClassId} (hl : l.stackTraces = false) {ad : Nat → Nat} {f : St} {C : List Nat} {n b q : Nat} {x : Int32} (hx : xw n b q f C) (hst : stO f n) : ctT l D vwCl (tyW cI cL cR) yX2_takeDown wsX2_takeDown { frames := 7, cells := 2, slots := 12, locals := 104 } [.ref (ad 0), .int x] (wX cI cL cR ad C f) (fun v u => tTake f x = 0 ∧ v = f 5 x.toNatClampNeg ∧ u = wX cI cL cR ad C (dkF (up2 (up2 (frF f (f 5 x.toNatClampNeg).toNatClampNeg x.toNatClampNeg 10) 5 x.toNatClampNeg (-1)) 6 x.toNatClampNeg (-1)) x.toNatClampNeg)) (fun E => (E = "java/lang/IndexOutOfBoundsException" ∧ tTake f x = 1) ∨ (E = "java/lang/IllegalStateException" ∧ tTake f x = 2)) 2 12 := by
  refine ctT_of (cc := cX2_takeDown) (maxL := 4) (ret := (some .int)) (by decide) rfl rfl (Nat.le_of_ble_eq_true rfl) (by simp [Value.category]) [(0, .ref (ad 0)), (1, .int x)] rfl ?_
  intro p e s m args below meth c sz h hrt hlk hout
  have hin0 : ∀ x ∈ wsX00, x ∈ wsX2_takeDown := by decide +kernel
  have hin1 : ∀ x ∈ wsX10, x ∈ wsX2_takeDown := by decide +kernel
  have hn24 := hx.1
  have hb8 := hx.2.1
  have hq8 := hx.2.2.1
  have hfn := hx.2.2.2.2.1
  have hfb := hx.2.2.2.2.2.1
  have hfq := hx.2.2.2.2.2.2.1
  obtain ⟨q9, hw9⟩ := wX_recv (cI := cI) (cL := cL) (cR := cR) (ad := ad) (f := f) (hx.c (show 0 < 5 by decide))
  rw [gX_0] at hw9
  refine j_aload_nR h dX2_takeDown_0 rfl ?_
  refine j_iload_n h dX2_takeDown_1 rfl ?_
  refine j_callTQ (vc := (RX2, TX2, 12)) h hout hlk dX2_takeDown_2 (c_X2_lanternNumbered hl hx) (cwV 1 h.2.2.2.2.1 gX2_takeDown_X2_lanternNumbered rfl rfl rfl (by decide +kernel) ⟨Nat.le_of_ble_eq_true rfl, Nat.le_of_ble_eq_true rfl⟩) q9 hw9 rfl rfl rfl (Nat.le_of_ble_eq_true rfl) ⟨Nat.le_of_ble_eq_true rfl, Nat.le_of_ble_eq_true rfl⟩ (Nat.le_of_ble_eq_true rfl) (Nat.le_of_ble_eq_true rfl) (fun E z => Or.inl ⟨z.1, by rw [tTake, z.2]; rfl⟩) (fun r2 u2 hu2 => ?_)
  obtain ⟨a, ha, rfl, rfl, rfl⟩ := hu2
  have hac : (nI a).toNatClampNeg = a := nI_clamp (by omega)
  have hL : isL f (nI a) = true := isL_yes hfn (by omega) ha
  refine j_astore_nR (i := 2) h dX2_takeDown_5 rfl (by decide) ?_
  refine j_aload_nR h dX2_takeDown_6 rfl ?_
  refine xl_get5 h (by first | assumption | exact hx.up (by omega) _ _ | exact (hx.up (by omega) _ _).up (by omega) _ _) hin0 (by decide +kernel) dX2_takeDown_7 (by omega) (fun e7 => ?_) (fun r7 hr7 e7 => ?_)
  · -- n
    have hT : tTake f (nI a) = 2 := by rw [tTake, hL, hac, e7]; rfl
    refine j_astore_nN (i := 3) h dX2_takeDown_10 rfl (by decide) ?_
    refine j_aload_n h dX2_takeDown_11 rfl (Or.inl rfl) ?_
    refine j_ifnonnullN h dX2_takeDown_12 ?_
    exact j_throwS (is := 113) (text := "the lantern hangs on no float") h hl hout hlk (by decide) (by decide +kernel) (by decide +kernel) (by decide +kernel) dX2_takeDown_15 dX2_takeDown_18 dX2_takeDown_19 dX2_takeDown_21 dX2_takeDown_24 (Nat.le_of_ble_eq_true rfl) (Nat.le_of_ble_eq_true rfl) (Nat.le_of_ble_eq_true rfl) (Nat.le_of_ble_eq_true rfl) (Nat.le_of_ble_eq_true rfl) (Nat.le_of_ble_eq_true rfl) (Or.inr ⟨rfl, hT⟩)
  · -- r
    have hrc : (nI r7).toNatClampNeg = r7 := nI_clamp (by omega)
    have hT : tTake f (nI a) = 0 := by rw [tTake, hL, hac, e7, decide_eq_true (nI_nm1 (by omega))]; rfl
    have hx2 : xw n b q (up2 (up2 (frF f r7 a 10) 5 a (-1)) 6 a (-1)) C := (((hx.fr r7 a 10).up5 a (Or.inl rfl)).up (by omega) _ _)
    have hs2 : stO (up2 (up2 (frF f r7 a 10) 5 a (-1)) 6 a (-1)) n := hst.eqv (by rw [up2_fld _ _ _ (by decide), up2_fld _ _ _ (by decide), kp_fr (by decide)])
    refine j_astore_nR (i := 3) h dX2_takeDown_10 rfl (by decide) ?_
    refine j_aload_nR h dX2_takeDown_11 rfl ?_
    refine j_ifnonnullR (tgt := 25) h dX2_takeDown_12 (by decide) ?_
    refine j_aload_nR h dX2_takeDown_25 rfl ?_
    refine j_aload_nR h dX2_takeDown_26 rfl ?_
    refine xc1_callVV h (by omega) dX2_takeDown_27 (c_X1_free hx (r := r7) hr7 ha) (cwV 1 h.2.2.2.2.1 gX2_takeDown_X1_free rfl rfl rfl (by decide +kernel) ⟨Nat.le_of_ble_eq_true rfl, Nat.le_of_ble_eq_true rfl⟩) (by first | exact hx.c (by omega) | exact hx.l (by omega) | exact hx.r (by omega) | exact hx.s (by omega)) rfl rfl (Nat.le_of_ble_eq_true rfl) ⟨Nat.le_of_ble_eq_true rfl, Nat.le_of_ble_eq_true rfl⟩ (fun u27 hu27 => ?_)
    obtain rfl := hu27
    refine j_aload_nR h dX2_takeDown_30 rfl ?_
    refine xc0_callVV h (by omega) dX2_takeDown_31 (c_X0_darken hx2 ha hs2) (cwV 0 h.2.2.2.2.1 gX2_takeDown_X0_darken rfl rfl rfl (by decide +kernel) ⟨Nat.le_of_ble_eq_true rfl, Nat.le_of_ble_eq_true rfl⟩) (by first | exact hx.c (by omega) | exact hx.l (by omega) | exact hx.r (by omega) | exact hx.s (by omega)) rfl rfl (Nat.le_of_ble_eq_true rfl) ⟨Nat.le_of_ble_eq_true rfl, Nat.le_of_ble_eq_true rfl⟩ (fun u31 hu31 => ?_)
    obtain rfl := hu31
    refine j_aload_nR h dX2_takeDown_34 rfl ?_
    refine x1_get0 h hin1 (by decide +kernel) dX2_takeDown_35 (by omega) (by first | exact hx.c (by omega) | exact hx.l (by omega) | exact hx.r (by omega) | exact hx.s (by omega)) ?_
    exact jj_vx (j_iret h hrt hlk dX2_takeDown_38 (by decide) (by decide) (⟨hT, by rw [hac, dkF, up2_fld _ _ _ (by decide), up2_fld _ _ _ (by decide), up2_fld _ _ _ (by decide), kp_fr (by decide), hx.nr _ hr7, e7], by rw [hac, e7, hrc]⟩))
set_option maxHeartbeats 4000000 in
set_option maxRecDepth 100000 in
theorem c_X2_likeness {l : Launch} {D : va_G} {cI cL cR : ClassId} (hl : l.stackTraces = false) {ad : Nat → Nat} {f : St} {C : List Nat} {n b q : Nat} {x g : Int32} (hx : xw n b q f C) : ctT l D vwCl (tyW cI cL cR) yX2_likeness wsX2_likeness { frames := 7, cells := 2, slots := 12, locals := 104 } [.ref (ad 0), .int x, .int g] (wX cI cL cR ad C f) (fun v u => tLike f x g = 0 ∧ v = axS f x.toNatClampNeg g 10 ∧ u = (wX cI cL cR ad C f)) (fun E => (E = "java/lang/IndexOutOfBoundsException" ∧ tLike f x g = 1) ∨ (E = "java/lang/IllegalArgumentException" ∧ tLike f x g = 2)) 2 12 := by
  refine ctT_of (cc := cX2_likeness) (maxL := 4) (ret := (some .int)) (by decide) rfl rfl (Nat.le_of_ble_eq_true rfl) (by simp [Value.category]) [(0, .ref (ad 0)), (1, .int x), (2, .int g)] rfl ?_
  intro p e s m args below meth c sz h hrt hlk hout
  have hn24 := hx.1
  have hb8 := hx.2.1
  have hq8 := hx.2.2.1
  have hfn := hx.2.2.2.2.1
  have hfb := hx.2.2.2.2.2.1
  have hfq := hx.2.2.2.2.2.2.1
  obtain ⟨q9, hw9⟩ := wX_recv (cI := cI) (cL := cL) (cR := cR) (ad := ad) (f := f) (hx.c (show 0 < 5 by decide))
  rw [gX_0] at hw9
  refine j_aload_nR h dX2_likeness_0 rfl ?_
  refine j_iload_n h dX2_likeness_1 rfl ?_
  refine j_callTQ (vc := (RX2, TX2, 12)) h hout hlk dX2_likeness_2 (c_X2_raftNumbered hl hx) (cwV 1 h.2.2.2.2.1 gX2_likeness_X2_raftNumbered rfl rfl rfl (by decide +kernel) ⟨Nat.le_of_ble_eq_true rfl, Nat.le_of_ble_eq_true rfl⟩) q9 hw9 rfl rfl rfl (Nat.le_of_ble_eq_true rfl) ⟨Nat.le_of_ble_eq_true rfl, Nat.le_of_ble_eq_true rfl⟩ (Nat.le_of_ble_eq_true rfl) (Nat.le_of_ble_eq_true rfl) (fun E z => Or.inl ⟨z.1, by rw [tLike, z.2]; rfl⟩) (fun r2 u2 hu2 => ?_)
  obtain ⟨a, ha, rfl, rfl, rfl⟩ := hu2
  have hac : (nI a).toNatClampNeg = a := nI_clamp (by omega)
  have hFa : isF f (nI a) = true := isF_yes hfb (by omega) ha
  refine j_astore_nR (i := 3) h dX2_likeness_5 rfl (by decide) ?_
  refine j_iload_n h dX2_likeness_6 rfl ?_
  refine j_iconst (v := 0) h dX2_likeness_7 (by decide) ?_
  refine j_sipush (v := 1023) h dX2_likeness_8 (by decide) ?_
  refine j_callSI h dX2_likeness_11 (c_X2_within) (va_cwS 3 h.2.2.2.2.1 gX2_likeness_X2_within rfl rfl rfl (by decide +kernel) ⟨Nat.le_of_ble_eq_true rfl, Nat.le_of_ble_eq_true rfl⟩) rfl rfl (Nat.le_of_ble_eq_true rfl) ⟨Nat.le_of_ble_eq_true rfl, Nat.le_of_ble_eq_true rfl⟩ (fun r11 u11 hu11 => ?_)
  obtain ⟨rfl, rfl⟩ := hu11
  refine j_if_ne (tgt := 27) h dX2_likeness_14 (by decide) (fun c14 => ?_) (fun c14 => ?_)
  · -- t
    have hT : tLike f (nI a) g = 0 := by rw [tLike, hFa, bi_n0.mp c14]; rfl
    refine j_aload_nR h dX2_likeness_27 rfl ?_
    refine j_iload_n h dX2_likeness_28 rfl ?_
    refine xc1_callVI h (by omega) dX2_likeness_29 (c_X1_alike hx ha) (cwV 1 h.2.2.2.2.1 gX2_likeness_X1_alike rfl rfl rfl (by decide +kernel) ⟨Nat.le_of_ble_eq_true rfl, Nat.le_of_ble_eq_true rfl⟩) (by first | exact hx.c (by omega) | exact hx.l (by omega) | exact hx.r (by omega) | exact hx.s (by omega)) rfl rfl (Nat.le_of_ble_eq_true rfl) ⟨Nat.le_of_ble_eq_true rfl, Nat.le_of_ble_eq_true rfl⟩ (fun r29 u29 hu29 => ?_)
    obtain ⟨rfl, rfl⟩ := hu29
    exact jj_vx (j_iret h hrt hlk dX2_likeness_32 (by decide) (by decide) (⟨hT, by rw [hac], rfl⟩))
  · -- f
    have hT : tLike f (nI a) g = 2 := by rw [tLike, hFa, bi_0.mp c14]; rfl
    exact j_throwA (is := 192) (text := "figure is out of range") h hl hout hlk (by decide) (by decide +kernel) (by decide +kernel) (by decide +kernel) dX2_likeness_17 dX2_likeness_20 dX2_likeness_21 dX2_likeness_23 dX2_likeness_26 (Nat.le_of_ble_eq_true rfl) (Nat.le_of_ble_eq_true rfl) (Nat.le_of_ble_eq_true rfl) (Nat.le_of_ble_eq_true rfl) (Nat.le_of_ble_eq_true rfl) (Nat.le_of_ble_eq_true rfl) (Or.inr ⟨rfl, hT⟩)
