set_option maxHeartbeats 4000000 in
set_option maxRecDepth 100000 in
theorem c_X2_lanternNumbered {l : Launch} {D : va_G} {cI cL cR : ClassId} (hl : l.stackTraces = false) {ad : Nat → Nat} {f : St} {C : List Nat} {n b q : Nat} {x : Int32} (hx : xw n b q f C) : ctU l D vwCl (tyW cI cL cR) yX2_lanternNumbered wsX2_lanternNumbered { frames := 6, cells := 1, slots := 6, locals := 82 } [.ref (ad 0), .int x] (wX cI cL cR ad C f) (fun v u => ∃ a, a < n ∧ x = nI a ∧ v = some (ad (5 + a)) ∧ u = (wX cI cL cR ad C f)) (fun E => E = "java/lang/IndexOutOfBoundsException" ∧ isL f x = false) 1 6 := by
  refine ctU_of (cc := cX2_lanternNumbered) (maxL := 3) (ret := (some (.object "Festoon$Lantern"))) (by decide) rfl rfl (Nat.le_of_ble_eq_true rfl) (by simp [Value.category]) [(0, .ref (ad 0)), (1, .int x)] rfl ?_
  intro p e s m args below meth c sz h hrt hlk hout
  have hin2 : ∀ x ∈ wsX20, x ∈ wsX2_lanternNumbered := by decide +kernel
  have hn24 := hx.1
  have hb8 := hx.2.1
  have hq8 := hx.2.2.1
  have hfn := hx.2.2.2.2.1
  have hfb := hx.2.2.2.2.2.1
  have hfq := hx.2.2.2.2.2.2.1
  obtain ⟨q9, hw9⟩ := wX_recv (cI := cI) (cL := cL) (cR := cR) (ad := ad) (f := f) (hx.c (show 0 < 5 by decide))
  rw [gX_0] at hw9
  refine j_iload_n h dX2_lanternNumbered_0 rfl ?_
  refine j_iconst (v := 0) h dX2_lanternNumbered_1 (by decide) ?_
  refine j_aload_nR h dX2_lanternNumbered_2 rfl ?_
  refine x2_get0 h hin2 (by decide +kernel) dX2_lanternNumbered_3 (by first | exact hx.c (by omega) | exact hx.l (by omega) | exact hx.r (by omega) | exact hx.s (by omega)) ?_
  refine x2_alen0 h dX2_lanternNumbered_6 (by first | exact hx.c (by omega) | exact hx.l (by omega) | exact hx.r (by omega) | exact hx.s (by omega)) ?_
  refine j_iconst (v := 1) h dX2_lanternNumbered_7 (by decide) ?_
  refine j_isub h dX2_lanternNumbered_8 ?_
  rw [show ((24 : Int32) - 1) = nI 24 - 1 from rfl]
  refine j_callSI h dX2_lanternNumbered_9 (c_X2_within) (va_cwS 3 h.2.2.2.2.1 gX2_lanternNumbered_X2_within rfl rfl rfl (by decide +kernel) ⟨Nat.le_of_ble_eq_true rfl, Nat.le_of_ble_eq_true rfl⟩) rfl rfl (Nat.le_of_ble_eq_true rfl) ⟨Nat.le_of_ble_eq_true rfl, Nat.le_of_ble_eq_true rfl⟩ (fun r9 u9 hu9 => ?_)
  obtain ⟨rfl, rfl⟩ := hu9
  refine j_if_eq (tgt := 24) h dX2_lanternNumbered_12 (by decide) (fun c12 => ?_) (fun c12 => ?_)
  · -- t
    have hF : isL f x = false := isL_no hfn (by omega) (bi_0.mp c12)
    refine j_null h dX2_lanternNumbered_24 ?_
    refine j_astore_nN (i := 2) h dX2_lanternNumbered_25 rfl (by decide) ?_
    refine j_aload_n h dX2_lanternNumbered_26 rfl (Or.inl rfl) ?_
    refine j_ifnonnullN h dX2_lanternNumbered_27 ?_
    exact j_throwI (is := 198) (text := "no such lantern") h hl hout hlk (by decide) (by decide +kernel) (by decide +kernel) (by decide +kernel) dX2_lanternNumbered_30 dX2_lanternNumbered_33 dX2_lanternNumbered_34 dX2_lanternNumbered_36 dX2_lanternNumbered_39 (Nat.le_of_ble_eq_true rfl) (Nat.le_of_ble_eq_true rfl) (Nat.le_of_ble_eq_true rfl) (Nat.le_of_ble_eq_true rfl) (Nat.le_of_ble_eq_true rfl) (Nat.le_of_ble_eq_true rfl) (⟨rfl, hF⟩)
  · -- f
    obtain ⟨a, ha, rfl⟩ := inB_ix (n := 24) (by decide) (bi_n0.mp c12)
    refine j_aload_nR h dX2_lanternNumbered_15 rfl ?_
    refine x2_get0 h hin2 (by decide +kernel) dX2_lanternNumbered_16 (by first | exact hx.c (by omega) | exact hx.l (by omega) | exact hx.r (by omega) | exact hx.s (by omega)) ?_
    refine j_iload_n h dX2_lanternNumbered_19 rfl ?_
    refine xl_ald0 h (by first | assumption | exact hx.up (by omega) _ _ | exact (hx.up (by omega) _ _).up (by omega) _ _) dX2_lanternNumbered_20 rfl (by omega) (fun e20 => ?_) (fun e20 => ?_)
    · -- n
      have hF : isL f (nI a) = false := isL_nI hfn (by omega) e20 (by omega)
      refine j_goto (tgt := 25) h dX2_lanternNumbered_21 (by decide) ?_
      refine j_astore_nN (i := 2) h dX2_lanternNumbered_25 rfl (by decide) ?_
      refine j_aload_n h dX2_lanternNumbered_26 rfl (Or.inl rfl) ?_
      refine j_ifnonnullN h dX2_lanternNumbered_27 ?_
      exact j_throwI (is := 198) (text := "no such lantern") h hl hout hlk (by decide) (by decide +kernel) (by decide +kernel) (by decide +kernel) dX2_lanternNumbered_30 dX2_lanternNumbered_33 dX2_lanternNumbered_34 dX2_lanternNumbered_36 dX2_lanternNumbered_39 (Nat.le_of_ble_eq_true rfl) (Nat.le_of_ble_eq_true rfl) (Nat.le_of_ble_eq_true rfl) (Nat.le_of_ble_eq_true rfl) (Nat.le_of_ble_eq_true rfl) (Nat.le_of_ble_eq_true rfl) (⟨rfl, hF⟩)
    · -- r
      refine j_goto (tgt := 25) h dX2_lanternNumbered_21 (by decide) ?_
      refine j_astore_nR (i := 2) h dX2_lanternNumbered_25 rfl (by decide) ?_
      refine j_aload_nR h dX2_lanternNumbered_26 rfl ?_
      refine j_ifnonnullR (tgt := 40) h dX2_lanternNumbered_27 (by decide) ?_
      refine j_aload_nR h dX2_lanternNumbered_40 rfl ?_
      exact jj_vx (j_qret (v := some _) h hrt hlk dX2_lanternNumbered_41 (by decide) (by decide) (⟨a, e20, rfl, rfl, rfl⟩))
set_option maxHeartbeats 4000000 in
set_option maxRecDepth 100000 in
theorem c_X2_raftNumbered {l : Launch} {D : va_G} {cI cL cR : ClassId} (hl : l.stackTraces = false) {ad : Nat → Nat} {f : St} {C : List Nat} {n b q : Nat} {x : Int32} (hx : xw n b q f C) : ctU l D vwCl (tyW cI cL cR) yX2_raftNumbered wsX2_raftNumbered { frames := 6, cells := 1, slots := 6, locals := 82 } [.ref (ad 0), .int x] (wX cI cL cR ad C f) (fun v u => ∃ a, a < b ∧ x = nI a ∧ v = some (ad (29 + a)) ∧ u = (wX cI cL cR ad C f)) (fun E => E = "java/lang/IndexOutOfBoundsException" ∧ isF f x = false) 1 6 := by
  refine ctU_of (cc := cX2_raftNumbered) (maxL := 3) (ret := (some (.object "Festoon$Raft"))) (by decide) rfl rfl (Nat.le_of_ble_eq_true rfl) (by simp [Value.category]) [(0, .ref (ad 0)), (1, .int x)] rfl ?_
  intro p e s m args below meth c sz h hrt hlk hout
  have hin2 : ∀ x ∈ wsX20, x ∈ wsX2_raftNumbered := by decide +kernel
  have hn24 := hx.1
  have hb8 := hx.2.1
  have hq8 := hx.2.2.1
  have hfn := hx.2.2.2.2.1
  have hfb := hx.2.2.2.2.2.1
  have hfq := hx.2.2.2.2.2.2.1
  obtain ⟨q9, hw9⟩ := wX_recv (cI := cI) (cL := cL) (cR := cR) (ad := ad) (f := f) (hx.c (show 0 < 5 by decide))
  rw [gX_0] at hw9
  refine j_iload_n h dX2_raftNumbered_0 rfl ?_
  refine j_iconst (v := 0) h dX2_raftNumbered_1 (by decide) ?_
  refine j_aload_nR h dX2_raftNumbered_2 rfl ?_
  refine x2_get1 h hin2 (by decide +kernel) dX2_raftNumbered_3 (by first | exact hx.c (by omega) | exact hx.l (by omega) | exact hx.r (by omega) | exact hx.s (by omega)) ?_
  refine x2_alen1 h dX2_raftNumbered_6 (by first | exact hx.c (by omega) | exact hx.l (by omega) | exact hx.r (by omega) | exact hx.s (by omega)) ?_
  refine j_iconst (v := 1) h dX2_raftNumbered_7 (by decide) ?_
  refine j_isub h dX2_raftNumbered_8 ?_
  rw [show ((8 : Int32) - 1) = nI 8 - 1 from rfl]
  refine j_callSI h dX2_raftNumbered_9 (c_X2_within) (va_cwS 3 h.2.2.2.2.1 gX2_raftNumbered_X2_within rfl rfl rfl (by decide +kernel) ⟨Nat.le_of_ble_eq_true rfl, Nat.le_of_ble_eq_true rfl⟩) rfl rfl (Nat.le_of_ble_eq_true rfl) ⟨Nat.le_of_ble_eq_true rfl, Nat.le_of_ble_eq_true rfl⟩ (fun r9 u9 hu9 => ?_)
  obtain ⟨rfl, rfl⟩ := hu9
  refine j_if_eq (tgt := 24) h dX2_raftNumbered_12 (by decide) (fun c12 => ?_) (fun c12 => ?_)
  · -- t
    have hF : isF f x = false := isF_no hfb (by omega) (bi_0.mp c12)
    refine j_null h dX2_raftNumbered_24 ?_
    refine j_astore_nN (i := 2) h dX2_raftNumbered_25 rfl (by decide) ?_
    refine j_aload_n h dX2_raftNumbered_26 rfl (Or.inl rfl) ?_
    refine j_ifnonnullN h dX2_raftNumbered_27 ?_
    exact j_throwI (is := 200) (text := "no such float") h hl hout hlk (by decide) (by decide +kernel) (by decide +kernel) (by decide +kernel) dX2_raftNumbered_30 dX2_raftNumbered_33 dX2_raftNumbered_34 dX2_raftNumbered_36 dX2_raftNumbered_39 (Nat.le_of_ble_eq_true rfl) (Nat.le_of_ble_eq_true rfl) (Nat.le_of_ble_eq_true rfl) (Nat.le_of_ble_eq_true rfl) (Nat.le_of_ble_eq_true rfl) (Nat.le_of_ble_eq_true rfl) (⟨rfl, hF⟩)
  · -- f
    obtain ⟨a, ha, rfl⟩ := inB_ix (n := 8) (by decide) (bi_n0.mp c12)
    refine j_aload_nR h dX2_raftNumbered_15 rfl ?_
    refine x2_get1 h hin2 (by decide +kernel) dX2_raftNumbered_16 (by first | exact hx.c (by omega) | exact hx.l (by omega) | exact hx.r (by omega) | exact hx.s (by omega)) ?_
    refine j_iload_n h dX2_raftNumbered_19 rfl ?_
    refine xl_ald1 h (by first | assumption | exact hx.up (by omega) _ _ | exact (hx.up (by omega) _ _).up (by omega) _ _) dX2_raftNumbered_20 rfl (by omega) (fun e20 => ?_) (fun e20 => ?_)
    · -- n
      have hF : isF f (nI a) = false := isF_nI hfb (by omega) e20 (by omega)
      refine j_goto (tgt := 25) h dX2_raftNumbered_21 (by decide) ?_
      refine j_astore_nN (i := 2) h dX2_raftNumbered_25 rfl (by decide) ?_
      refine j_aload_n h dX2_raftNumbered_26 rfl (Or.inl rfl) ?_
      refine j_ifnonnullN h dX2_raftNumbered_27 ?_
      exact j_throwI (is := 200) (text := "no such float") h hl hout hlk (by decide) (by decide +kernel) (by decide +kernel) (by decide +kernel) dX2_raftNumbered_30 dX2_raftNumbered_33 dX2_raftNumbered_34 dX2_raftNumbered_36 dX2_raftNumbered_39 (Nat.le_of_ble_eq_true rfl) (Nat.le_of_ble_eq_true rfl) (Nat.le_of_ble_eq_true rfl) (Nat.le_of_ble_eq_true rfl) (Nat.le_of_ble_eq_true rfl) (Nat.le_of_ble_eq_true rfl) (⟨rfl, hF⟩)
    · -- r
      refine j_goto (tgt := 25) h dX2_raftNumbered_21 (by decide) ?_
      refine j_astore_nR (i := 2) h dX2_raftNumbered_25 rfl (by decide) ?_
      refine j_aload_nR h dX2_raftNumbered_26 rfl ?_
      refine j_ifnonnullR (tgt := 40) h dX2_raftNumbered_27 (by decide) ?_
      refine j_aload_nR h dX2_raftNumbered_40 rfl ?_
      exact jj_vx (j_qret (v := some _) h hrt hlk dX2_raftNumbered_41 (by decide) (by decide) (⟨a, e20, rfl, rfl, rfl⟩))
set_option maxHeartbeats 4000000 in
set_option maxRecDepth 100000 in
theorem c_X2_stateOf {l : Launch} {D : va_G} {cI cL cR : ClassId} (hl : l.stackTraces = false) {ad : Nat → Nat} {f : St} {C : List Nat} {n b q : Nat} {x : Int32} (hx : xw n b q f C) : ctT l D vwCl (tyW cI cL cR) yX2_stateOf wsX2_stateOf { frames := 7, cells := 1, slots := 6, locals := 104 } [.ref (ad 0), .int x] (wX cI cL cR ad C f) (fun v u => tL f x = 0 ∧ v = (f 3 x.toNatClampNeg) ∧ u = (wX cI cL cR ad C f)) (fun E => E = "java/lang/IndexOutOfBoundsException" ∧ tL f x = 1) 1 6 := by
  refine ctT_of (cc := cX2_stateOf) (maxL := 3) (ret := (some .int)) (by decide) rfl rfl (Nat.le_of_ble_eq_true rfl) (by simp [Value.category]) [(0, .ref (ad 0)), (1, .int x)] rfl ?_
  intro p e s m args below meth c sz h hrt hlk hout
  have hin0 : ∀ x ∈ wsX00, x ∈ wsX2_stateOf := by decide +kernel
  have hn24 := hx.1
  have hb8 := hx.2.1
  have hq8 := hx.2.2.1
  have hfn := hx.2.2.2.2.1
  have hfb := hx.2.2.2.2.2.1
  have hfq := hx.2.2.2.2.2.2.1
  obtain ⟨q9, hw9⟩ := wX_recv (cI := cI) (cL := cL) (cR := cR) (ad := ad) (f := f) (hx.c (show 0 < 5 by decide))
  rw [gX_0] at hw9
  refine j_aload_nR h dX2_stateOf_0 rfl ?_
  refine j_iload_n h dX2_stateOf_1 rfl ?_
  refine j_callTQ (vc := (RX2, TX2, 12)) h hout hlk dX2_stateOf_2 (c_X2_lanternNumbered hl hx) (cwV 1 h.2.2.2.2.1 gX2_stateOf_X2_lanternNumbered rfl rfl rfl (by decide +kernel) ⟨Nat.le_of_ble_eq_true rfl, Nat.le_of_ble_eq_true rfl⟩) q9 hw9 rfl rfl rfl (Nat.le_of_ble_eq_true rfl) ⟨Nat.le_of_ble_eq_true rfl, Nat.le_of_ble_eq_true rfl⟩ (Nat.le_of_ble_eq_true rfl) (Nat.le_of_ble_eq_true rfl) (fun E z => ⟨z.1, tL_1 z.2⟩) (fun r2 u2 hu2 => ?_)
  obtain ⟨a, ha, rfl, rfl, rfl⟩ := hu2
  have hac : (nI a).toNatClampNeg = a := nI_clamp (by omega)
  have hT : tL f (nI a) = 0 := tL_0 (isL_yes hfn (by omega) ha)
  refine j_astore_nR (i := 2) h dX2_stateOf_5 rfl (by decide) ?_
  refine j_aload_nR h dX2_stateOf_6 rfl ?_
  refine x0_get3 h hin0 (by decide +kernel) dX2_stateOf_7 (by omega) (by first | exact hx.c (by omega) | exact hx.l (by omega) | exact hx.r (by omega) | exact hx.s (by omega)) ?_
  exact jj_vx (j_iret h hrt hlk dX2_stateOf_10 (by decide) (by decide) (⟨hT, by rw [hac], rfl⟩))
set_option maxHeartbeats 4000000 in
set_option maxRecDepth 100000 in
theorem c_X2_left {l : Launch} {D : va_G} {cI cL cR : ClassId} (hl : l.stackTraces = false) {ad : Nat → Nat} {f : St} {C : List Nat} {n b q : Nat} {x : Int32} (hx : xw n b q f C) : ctT l D vwCl (tyW cI cL cR) yX2_left wsX2_left { frames := 7, cells := 1, slots := 6, locals := 104 } [.ref (ad 0), .int x] (wX cI cL cR ad C f) (fun v u => tL f x = 0 ∧ v = (f 4 x.toNatClampNeg) ∧ u = (wX cI cL cR ad C f)) (fun E => E = "java/lang/IndexOutOfBoundsException" ∧ tL f x = 1) 1 6 := by
  refine ctT_of (cc := cX2_left) (maxL := 3) (ret := (some .int)) (by decide) rfl rfl (Nat.le_of_ble_eq_true rfl) (by simp [Value.category]) [(0, .ref (ad 0)), (1, .int x)] rfl ?_
  intro p e s m args below meth c sz h hrt hlk hout
  have hin0 : ∀ x ∈ wsX00, x ∈ wsX2_left := by decide +kernel
  have hn24 := hx.1
  have hb8 := hx.2.1
  have hq8 := hx.2.2.1
  have hfn := hx.2.2.2.2.1
  have hfb := hx.2.2.2.2.2.1
  have hfq := hx.2.2.2.2.2.2.1
  obtain ⟨q9, hw9⟩ := wX_recv (cI := cI) (cL := cL) (cR := cR) (ad := ad) (f := f) (hx.c (show 0 < 5 by decide))
  rw [gX_0] at hw9
  refine j_aload_nR h dX2_left_0 rfl ?_
  refine j_iload_n h dX2_left_1 rfl ?_
  refine j_callTQ (vc := (RX2, TX2, 12)) h hout hlk dX2_left_2 (c_X2_lanternNumbered hl hx) (cwV 1 h.2.2.2.2.1 gX2_left_X2_lanternNumbered rfl rfl rfl (by decide +kernel) ⟨Nat.le_of_ble_eq_true rfl, Nat.le_of_ble_eq_true rfl⟩) q9 hw9 rfl rfl rfl (Nat.le_of_ble_eq_true rfl) ⟨Nat.le_of_ble_eq_true rfl, Nat.le_of_ble_eq_true rfl⟩ (Nat.le_of_ble_eq_true rfl) (Nat.le_of_ble_eq_true rfl) (fun E z => ⟨z.1, tL_1 z.2⟩) (fun r2 u2 hu2 => ?_)
  obtain ⟨a, ha, rfl, rfl, rfl⟩ := hu2
  have hac : (nI a).toNatClampNeg = a := nI_clamp (by omega)
  have hT : tL f (nI a) = 0 := tL_0 (isL_yes hfn (by omega) ha)
  refine j_astore_nR (i := 2) h dX2_left_5 rfl (by decide) ?_
  refine j_aload_nR h dX2_left_6 rfl ?_
  refine x0_get4 h hin0 (by decide +kernel) dX2_left_7 (by omega) (by first | exact hx.c (by omega) | exact hx.l (by omega) | exact hx.r (by omega) | exact hx.s (by omega)) ?_
  exact jj_vx (j_iret h hrt hlk dX2_left_10 (by decide) (by decide) (⟨hT, by rw [hac], rfl⟩))
set_option maxHeartbeats 4000000 in
set_option maxRecDepth 100000 in
theorem c_X2_placeOf {l : Launch} {D : va_G} {cI cL cR : ClassId} (hl : l.stackTraces = false) {ad : Nat → Nat} {f : St} {C : List Nat} {n b q : Nat} {x : Int32} (hx : xw n b q f C) : ctT l D vwCl (tyW cI cL cR) yX2_placeOf wsX2_placeOf { frames := 7, cells := 1, slots := 6, locals := 104 } [.ref (ad 0), .int x] (wX cI cL cR ad C f) (fun v u => tL f x = 0 ∧ v = (if hpB f x.toNatClampNeg = true then pl f x.toNatClampNeg else -1) ∧ u = (wX cI cL cR ad C f)) (fun E => E = "java/lang/IndexOutOfBoundsException" ∧ tL f x = 1) 1 6 := by
  refine ctT_of (cc := cX2_placeOf) (maxL := 3) (ret := (some .int)) (by decide) rfl rfl (Nat.le_of_ble_eq_true rfl) (by simp [Value.category]) [(0, .ref (ad 0)), (1, .int x)] rfl ?_
  intro p e s m args below meth c sz h hrt hlk hout
  have hn24 := hx.1
  have hb8 := hx.2.1
  have hq8 := hx.2.2.1
  have hfn := hx.2.2.2.2.1
  have hfb := hx.2.2.2.2.2.1
  have hfq := hx.2.2.2.2.2.2.1
  obtain ⟨q9, hw9⟩ := wX_recv (cI := cI) (cL := cL) (cR := cR) (ad := ad) (f := f) (hx.c (show 0 < 5 by decide))
  rw [gX_0] at hw9
  refine j_aload_nR h dX2_placeOf_0 rfl ?_
  refine j_iload_n h dX2_placeOf_1 rfl ?_
  refine j_callTQ (vc := (RX2, TX2, 12)) h hout hlk dX2_placeOf_2 (c_X2_lanternNumbered hl hx) (cwV 1 h.2.2.2.2.1 gX2_placeOf_X2_lanternNumbered rfl rfl rfl (by decide +kernel) ⟨Nat.le_of_ble_eq_true rfl, Nat.le_of_ble_eq_true rfl⟩) q9 hw9 rfl rfl rfl (Nat.le_of_ble_eq_true rfl) ⟨Nat.le_of_ble_eq_true rfl, Nat.le_of_ble_eq_true rfl⟩ (Nat.le_of_ble_eq_true rfl) (Nat.le_of_ble_eq_true rfl) (fun E z => ⟨z.1, tL_1 z.2⟩) (fun r2 u2 hu2 => ?_)
  obtain ⟨a, ha, rfl, rfl, rfl⟩ := hu2
  have hac : (nI a).toNatClampNeg = a := nI_clamp (by omega)
  have hT : tL f (nI a) = 0 := tL_0 (isL_yes hfn (by omega) ha)
  refine j_astore_nR (i := 2) h dX2_placeOf_5 rfl (by decide) ?_
  refine j_aload_nR h dX2_placeOf_6 rfl ?_
  refine xc0_callVI h (by omega) dX2_placeOf_7 (c_X0_place hx ha) (cwV 0 h.2.2.2.2.1 gX2_placeOf_X0_place rfl rfl rfl (by decide +kernel) ⟨Nat.le_of_ble_eq_true rfl, Nat.le_of_ble_eq_true rfl⟩) (by first | exact hx.c (by omega) | exact hx.l (by omega) | exact hx.r (by omega) | exact hx.s (by omega)) rfl rfl (Nat.le_of_ble_eq_true rfl) ⟨Nat.le_of_ble_eq_true rfl, Nat.le_of_ble_eq_true rfl⟩ (fun r7 u7 hu7 => ?_)
  obtain ⟨rfl, rfl⟩ := hu7
  exact jj_vx (j_iret h hrt hlk dX2_placeOf_10 (by decide) (by decide) (⟨hT, by rw [hac], rfl⟩))
set_option maxHeartbeats 4000000 in
set_option maxRecDepth 100000 in
theorem c_X2_sortOf {l : Launch} {D : va_G} {cI cL cR : ClassId} (hl : l.stackTraces = false) {ad : Nat → Nat} {f : St} {C : List Nat} {n b q : Nat} {x : Int32} (hx : xw n b q f C) : ctT l D vwCl (tyW cI cL cR) yX2_sortOf wsX2_sortOf { frames := 7, cells := 1, slots := 6, locals := 104 } [.ref (ad 0), .int x] (wX cI cL cR ad C f) (fun v u => tF f x = 0 ∧ v = (f 10 x.toNatClampNeg) ∧ u = (wX cI cL cR ad C f)) (fun E => E = "java/lang/IndexOutOfBoundsException" ∧ tF f x = 1) 1 6 := by
  refine ctT_of (cc := cX2_sortOf) (maxL := 3) (ret := (some .int)) (by decide) rfl rfl (Nat.le_of_ble_eq_true rfl) (by simp [Value.category]) [(0, .ref (ad 0)), (1, .int x)] rfl ?_
  intro p e s m args below meth c sz h hrt hlk hout
  have hin1 : ∀ x ∈ wsX10, x ∈ wsX2_sortOf := by decide +kernel
  have hn24 := hx.1
  have hb8 := hx.2.1
  have hq8 := hx.2.2.1
  have hfn := hx.2.2.2.2.1
  have hfb := hx.2.2.2.2.2.1
  have hfq := hx.2.2.2.2.2.2.1
  obtain ⟨q9, hw9⟩ := wX_recv (cI := cI) (cL := cL) (cR := cR) (ad := ad) (f := f) (hx.c (show 0 < 5 by decide))
  rw [gX_0] at hw9
  refine j_aload_nR h dX2_sortOf_0 rfl ?_
  refine j_iload_n h dX2_sortOf_1 rfl ?_
  refine j_callTQ (vc := (RX2, TX2, 12)) h hout hlk dX2_sortOf_2 (c_X2_raftNumbered hl hx) (cwV 1 h.2.2.2.2.1 gX2_sortOf_X2_raftNumbered rfl rfl rfl (by decide +kernel) ⟨Nat.le_of_ble_eq_true rfl, Nat.le_of_ble_eq_true rfl⟩) q9 hw9 rfl rfl rfl (Nat.le_of_ble_eq_true rfl) ⟨Nat.le_of_ble_eq_true rfl, Nat.le_of_ble_eq_true rfl⟩ (Nat.le_of_ble_eq_true rfl) (Nat.le_of_ble_eq_true rfl) (fun E z => ⟨z.1, tF_1 z.2⟩) (fun r2 u2 hu2 => ?_)
  obtain ⟨a, ha, rfl, rfl, rfl⟩ := hu2
  have hac : (nI a).toNatClampNeg = a := nI_clamp (by omega)
  have hT : tF f (nI a) = 0 := tF_0 (isF_yes hfb (by omega) ha)
  refine j_astore_nR (i := 2) h dX2_sortOf_5 rfl (by decide) ?_
  refine j_aload_nR h dX2_sortOf_6 rfl ?_
  refine x1_get4 h hin1 (by decide +kernel) dX2_sortOf_7 (by omega) (by first | exact hx.c (by omega) | exact hx.l (by omega) | exact hx.r (by omega) | exact hx.s (by omega)) ?_
  exact jj_vx (j_iret h hrt hlk dX2_sortOf_10 (by decide) (by decide) (⟨hT, by rw [hac], rfl⟩))
set_option maxHeartbeats 4000000 in
set_option maxRecDepth 100000 in
theorem c_X2_front {l : Launch} {D : va_G} {cI cL cR : ClassId} (hl : l.stackTraces = false) {ad : Nat → Nat} {f : St} {C : List Nat} {n b q : Nat} {x : Int32} (hx : xw n b q f C) : ctT l D vwCl (tyW cI cL cR) yX2_front wsX2_front { frames := 7, cells := 1, slots := 6, locals := 104 } [.ref (ad 0), .int x] (wX cI cL cR ad C f) (fun v u => tF f x = 0 ∧ v = (if f 10 x.toNatClampNeg = 1 then f 11 x.toNatClampNeg else -1) ∧ u = (wX cI cL cR ad C f)) (fun E => E = "java/lang/IndexOutOfBoundsException" ∧ tF f x = 1) 1 6 := by
  refine ctT_of (cc := cX2_front) (maxL := 3) (ret := (some .int)) (by decide) rfl rfl (Nat.le_of_ble_eq_true rfl) (by simp [Value.category]) [(0, .ref (ad 0)), (1, .int x)] rfl ?_
  intro p e s m args below meth c sz h hrt hlk hout
  have hin1 : ∀ x ∈ wsX10, x ∈ wsX2_front := by decide +kernel
  have hn24 := hx.1
  have hb8 := hx.2.1
  have hq8 := hx.2.2.1
  have hfn := hx.2.2.2.2.1
  have hfb := hx.2.2.2.2.2.1
  have hfq := hx.2.2.2.2.2.2.1
  obtain ⟨q9, hw9⟩ := wX_recv (cI := cI) (cL := cL) (cR := cR) (ad := ad) (f := f) (hx.c (show 0 < 5 by decide))
  rw [gX_0] at hw9
  refine j_aload_nR h dX2_front_0 rfl ?_
  refine j_iload_n h dX2_front_1 rfl ?_
  refine j_callTQ (vc := (RX2, TX2, 12)) h hout hlk dX2_front_2 (c_X2_raftNumbered hl hx) (cwV 1 h.2.2.2.2.1 gX2_front_X2_raftNumbered rfl rfl rfl (by decide +kernel) ⟨Nat.le_of_ble_eq_true rfl, Nat.le_of_ble_eq_true rfl⟩) q9 hw9 rfl rfl rfl (Nat.le_of_ble_eq_true rfl) ⟨Nat.le_of_ble_eq_true rfl, Nat.le_of_ble_eq_true rfl⟩ (Nat.le_of_ble_eq_true rfl) (Nat.le_of_ble_eq_true rfl) (fun E z => ⟨z.1, tF_1 z.2⟩) (fun r2 u2 hu2 => ?_)
  obtain ⟨a, ha, rfl, rfl, rfl⟩ := hu2
  have hac : (nI a).toNatClampNeg = a := nI_clamp (by omega)
  have hT : tF f (nI a) = 0 := tF_0 (isF_yes hfb (by omega) ha)
  refine j_astore_nR (i := 2) h dX2_front_5 rfl (by decide) ?_
  refine j_aload_nR h dX2_front_6 rfl ?_
  refine x1_get4 h hin1 (by decide +kernel) dX2_front_7 (by omega) (by first | exact hx.c (by omega) | exact hx.l (by omega) | exact hx.r (by omega) | exact hx.s (by omega)) ?_
  refine j_iconst (v := 1) h dX2_front_10 (by decide) ?_
  refine j_icmp_ne (tgt := 21) h dX2_front_11 (by decide) (fun c11 => ?_) (fun c11 => ?_)
  · -- t
    refine j_iconst (v := (-1)) h dX2_front_21 (by decide) ?_
    exact jj_vx (j_iret h hrt hlk dX2_front_22 (by decide) (by decide) (⟨hT, by rw [hac]; simp [*], rfl⟩))
  · -- f
    refine j_aload_nR h dX2_front_14 rfl ?_
    refine x1_get5 h hin1 (by decide +kernel) dX2_front_15 (by omega) (by first | exact hx.c (by omega) | exact hx.l (by omega) | exact hx.r (by omega) | exact hx.s (by omega)) ?_
    refine j_goto (tgt := 22) h dX2_front_18 (by decide) ?_
    exact jj_vx (j_iret h hrt hlk dX2_front_22 (by decide) (by decide) (⟨hT, by rw [hac]; simp [*], rfl⟩))
set_option maxHeartbeats 4000000 in
set_option maxRecDepth 100000 in
theorem c_X2_load {l : Launch} {D : va_G} {cI cL cR : ClassId} (hl : l.stackTraces = false) {ad : Nat → Nat} {f : St} {C : List Nat} {n b q : Nat} {x : Int32} (hx : xw n b q f C) : ctT l D vwCl (tyW cI cL cR) yX2_load wsX2_load { frames := 7, cells := 1, slots := 6, locals := 104 } [.ref (ad 0), .int x] (wX cI cL cR ad C f) (fun v u => tF f x = 0 ∧ v = (wtS f x.toNatClampNeg 10) ∧ u = (wX cI cL cR ad C f)) (fun E => E = "java/lang/IndexOutOfBoundsException" ∧ tF f x = 1) 1 6 := by
  refine ctT_of (cc := cX2_load) (maxL := 3) (ret := (some .int)) (by decide) rfl rfl (Nat.le_of_ble_eq_true rfl) (by simp [Value.category]) [(0, .ref (ad 0)), (1, .int x)] rfl ?_
  intro p e s m args below meth c sz h hrt hlk hout
  have hn24 := hx.1
  have hb8 := hx.2.1
  have hq8 := hx.2.2.1
  have hfn := hx.2.2.2.2.1
  have hfb := hx.2.2.2.2.2.1
  have hfq := hx.2.2.2.2.2.2.1
  obtain ⟨q9, hw9⟩ := wX_recv (cI := cI) (cL := cL) (cR := cR) (ad := ad) (f := f) (hx.c (show 0 < 5 by decide))
  rw [gX_0] at hw9
  refine j_aload_nR h dX2_load_0 rfl ?_
  refine j_iload_n h dX2_load_1 rfl ?_
  refine j_callTQ (vc := (RX2, TX2, 12)) h hout hlk dX2_load_2 (c_X2_raftNumbered hl hx) (cwV 1 h.2.2.2.2.1 gX2_load_X2_raftNumbered rfl rfl rfl (by decide +kernel) ⟨Nat.le_of_ble_eq_true rfl, Nat.le_of_ble_eq_true rfl⟩) q9 hw9 rfl rfl rfl (Nat.le_of_ble_eq_true rfl) ⟨Nat.le_of_ble_eq_true rfl, Nat.le_of_ble_eq_true rfl⟩ (Nat.le_of_ble_eq_true rfl) (Nat.le_of_ble_eq_true rfl) (fun E z => ⟨z.1, tF_1 z.2⟩) (fun r2 u2 hu2 => ?_)
  obtain ⟨a, ha, rfl, rfl, rfl⟩ := hu2
  have hac : (nI a).toNatClampNeg = a := nI_clamp (by omega)
  have hT : tF f (nI a) = 0 := tF_0 (isF_yes hfb (by omega) ha)
  refine j_astore_nR (i := 2) h dX2_load_5 rfl (by decide) ?_
  refine j_aload_nR h dX2_load_6 rfl ?_
  refine xc1_callVI h (by omega) dX2_load_7 (c_X1_weight hx ha) (cwV 0 h.2.2.2.2.1 gX2_load_X1_weight rfl rfl rfl (by decide +kernel) ⟨Nat.le_of_ble_eq_true rfl, Nat.le_of_ble_eq_true rfl⟩) (by first | exact hx.c (by omega) | exact hx.l (by omega) | exact hx.r (by omega) | exact hx.s (by omega)) rfl rfl (Nat.le_of_ble_eq_true rfl) ⟨Nat.le_of_ble_eq_true rfl, Nat.le_of_ble_eq_true rfl⟩ (fun r7 u7 hu7 => ?_)
  obtain ⟨rfl, rfl⟩ := hu7
  exact jj_vx (j_iret h hrt hlk dX2_load_10 (by decide) (by decide) (⟨hT, by rw [hac], rfl⟩))
