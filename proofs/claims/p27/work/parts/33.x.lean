set_option maxHeartbeats 4000000 in
set_option maxRecDepth 100000 in
theorem c_X2_hang {l : Launch} {D : va_G} {cI cL cR : ClassId} (hl : l.stackTraces = false) {ad : Nat → Nat} {f : St} {C : List Nat} {n b q : Nat} {x y z : Int32} (hx : xw n b q f C) : ctT l D vwCl (tyW cI cL cR) yX2_hang wsX2_hang { frames := 7, cells := 3, slots := 18, locals := 104 } [.ref (ad 0), .int x, .int y, .int z] (wX cI cL cR ad C f) (fun v u => cHang f x y z = 0 ∧ v = wtS (up2 (up2 (up2 f (30 + y.toNatClampNeg) z.toNatClampNeg x) 5 x.toNatClampNeg y) 6 x.toNatClampNeg z) y.toNatClampNeg 10 ∧ u = wX cI cL cR ad C (up2 (up2 (up2 f (30 + y.toNatClampNeg) z.toNatClampNeg x) 5 x.toNatClampNeg y) 6 x.toNatClampNeg z)) (fun E => (E = "java/lang/IndexOutOfBoundsException" ∧ cHang f x y z = 1) ∨ (E = "java/lang/IllegalArgumentException" ∧ cHang f x y z = 2) ∨ (E = "java/lang/IllegalStateException" ∧ cHang f x y z = 3)) 3 18 := by
  refine ctT_of (cc := cX2_hang) (maxL := 6) (ret := (some .int)) (by decide) rfl rfl (Nat.le_of_ble_eq_true rfl) (by simp [Value.category]) [(0, .ref (ad 0)), (1, .int x), (2, .int y), (3, .int z)] rfl ?_
  intro p e s m args below meth c sz h hrt hlk hout
  have hin0 : ∀ x ∈ wsX00, x ∈ wsX2_hang := by decide +kernel
  have hin1 : ∀ x ∈ wsX10, x ∈ wsX2_hang := by decide +kernel
  have hn24 := hx.1
  have hb8 := hx.2.1
  have hq8 := hx.2.2.1
  have hfn := hx.2.2.2.2.1
  have hfb := hx.2.2.2.2.2.1
  have hfq := hx.2.2.2.2.2.2.1
  obtain ⟨q9, hw9⟩ := wX_recv (cI := cI) (cL := cL) (cR := cR) (ad := ad) (f := f) (hx.c (show 0 < 5 by decide))
  rw [gX_0] at hw9
  refine j_aload_nR h dX2_hang_0 rfl ?_
  refine j_iload_n h dX2_hang_1 rfl ?_
  refine j_callTQ (vc := (RX2, TX2, 12)) h hout hlk dX2_hang_2 (c_X2_lanternNumbered hl hx) (cwV 1 h.2.2.2.2.1 gX2_hang_X2_lanternNumbered rfl rfl rfl (by decide +kernel) ⟨Nat.le_of_ble_eq_true rfl, Nat.le_of_ble_eq_true rfl⟩) q9 hw9 rfl rfl rfl (Nat.le_of_ble_eq_true rfl) ⟨Nat.le_of_ble_eq_true rfl, Nat.le_of_ble_eq_true rfl⟩ (Nat.le_of_ble_eq_true rfl) (Nat.le_of_ble_eq_true rfl) (fun E z => Or.inl ⟨z.1, by rw [cHang, z.2]; rfl⟩) (fun r2 u2 hu2 => ?_)
  obtain ⟨a, ha, rfl, rfl, rfl⟩ := hu2
  have hac : (nI a).toNatClampNeg = a := nI_clamp (by omega)
  have hL : isL f (nI a) = true := isL_yes hfn (by omega) ha
  refine j_astoreR h dX2_hang_5 (by decide) ?_
  refine j_aload_nR h dX2_hang_7 rfl ?_
  refine j_iload_n h dX2_hang_8 rfl ?_
  refine j_callTQ (vc := (RX2, TX2, 12)) h hout hlk dX2_hang_9 (c_X2_raftNumbered hl hx) (cwV 1 h.2.2.2.2.1 gX2_hang_X2_raftNumbered rfl rfl rfl (by decide +kernel) ⟨Nat.le_of_ble_eq_true rfl, Nat.le_of_ble_eq_true rfl⟩) q9 hw9 rfl rfl rfl (Nat.le_of_ble_eq_true rfl) ⟨Nat.le_of_ble_eq_true rfl, Nat.le_of_ble_eq_true rfl⟩ (Nat.le_of_ble_eq_true rfl) (Nat.le_of_ble_eq_true rfl) (fun E z => Or.inl ⟨z.1, by rw [cHang, hL, z.2]; rfl⟩) (fun r9 u9 hu9 => ?_)
  obtain ⟨b2, hb2, rfl, rfl, rfl⟩ := hu9
  have hb2c : (nI b2).toNatClampNeg = b2 := nI_clamp (by omega)
  have hFb2 : isF f (nI b2) = true := isF_yes hfb (by omega) hb2
  refine j_astoreR h dX2_hang_12 (by decide) ?_
  refine j_iload_n h dX2_hang_14 rfl ?_
  refine j_iconst (v := 0) h dX2_hang_15 (by decide) ?_
  refine j_bipush (v := 9) h dX2_hang_16 (by decide) ?_
  refine j_callSI h dX2_hang_18 (c_X2_within) (va_cwS 3 h.2.2.2.2.1 gX2_hang_X2_within rfl rfl rfl (by decide +kernel) ⟨Nat.le_of_ble_eq_true rfl, Nat.le_of_ble_eq_true rfl⟩) rfl rfl (Nat.le_of_ble_eq_true rfl) ⟨Nat.le_of_ble_eq_true rfl, Nat.le_of_ble_eq_true rfl⟩ (fun r18 u18 hu18 => ?_)
  obtain ⟨rfl, rfl⟩ := hu18
  refine j_if_ne (tgt := 34) h dX2_hang_21 (by decide) (fun c21 => ?_) (fun c21 => ?_)
  · -- t
    have hB3 := bi_n0.mp c21
    obtain ⟨a3, ha3, rfl⟩ := inB_ix (n := 10) (by decide) (show inB z 0 (nI 10 - 1) = true from hB3)
    have ha3c : (nI a3).toNatClampNeg = a3 := nI_clamp (by omega)
    refine j_aloadR h dX2_hang_34 rfl ?_
    refine j_iload_n h dX2_hang_36 rfl ?_
    refine xc1_callVQ h (by omega) dX2_hang_37 (c_X1_lanternIn hx hb2) (cwV 1 h.2.2.2.2.1 gX2_hang_X1_lanternIn rfl rfl rfl (by decide +kernel) ⟨Nat.le_of_ble_eq_true rfl, Nat.le_of_ble_eq_true rfl⟩) (by first | exact hx.c (by omega) | exact hx.l (by omega) | exact hx.r (by omega) | exact hx.s (by omega)) rfl rfl (Nat.le_of_ble_eq_true rfl) ⟨Nat.le_of_ble_eq_true rfl, Nat.le_of_ble_eq_true rfl⟩ (fun r37 u37 hu37 => ?_)
    obtain ⟨rfl, rfl⟩ := hu37
    rw [if_pos hB3, ha3c]
    rcases hx.sl b2 a3 hb2 ha3 with e40 | ⟨k40, hk40, e40⟩
    · rw [e40, ro_n]
      refine j_ifnullN (tgt := 53) h dX2_hang_40 (by decide) ?_
      refine j_aloadR h dX2_hang_53 rfl ?_
      refine xl_get5 h (by first | assumption | exact hx.up (by omega) _ _ | exact (hx.up (by omega) _ _).up (by omega) _ _) hin0 (by decide +kernel) dX2_hang_55 (by omega) (fun e55 => ?_) (fun r55 hr55 e55 => ?_)
      · -- n
        refine j_ifnonnullN h dX2_hang_58 ?_
        refine j_aloadR h dX2_hang_61 rfl ?_
        refine x1_get4 h hin1 (by decide +kernel) dX2_hang_63 (by omega) (by first | exact hx.c (by omega) | exact hx.l (by omega) | exact hx.r (by omega) | exact hx.s (by omega)) ?_
        refine j_iconst (v := 2) h dX2_hang_66 (by decide) ?_
        refine j_icmp_ne (tgt := 80) h dX2_hang_67 (by decide) (fun c67 => ?_) (fun c67 => ?_)
        · -- t
          refine j_aloadR h dX2_hang_80 rfl ?_
          refine xc1_callVI h (by omega) dX2_hang_82 (c_X1_weight hx hb2) (cwV 0 h.2.2.2.2.1 gX2_hang_X1_weight rfl rfl rfl (by decide +kernel) ⟨Nat.le_of_ble_eq_true rfl, Nat.le_of_ble_eq_true rfl⟩) (by first | exact hx.c (by omega) | exact hx.l (by omega) | exact hx.r (by omega) | exact hx.s (by omega)) rfl rfl (Nat.le_of_ble_eq_true rfl) ⟨Nat.le_of_ble_eq_true rfl, Nat.le_of_ble_eq_true rfl⟩ (fun r82 u82 hu82 => ?_)
          obtain ⟨rfl, rfl⟩ := hu82
          refine j_aloadR h dX2_hang_85 rfl ?_
          refine xc0_callVI h (by omega) dX2_hang_87 (c_X0_weight hx ha) (cwV 0 h.2.2.2.2.1 gX2_hang_X0_weight rfl rfl rfl (by decide +kernel) ⟨Nat.le_of_ble_eq_true rfl, Nat.le_of_ble_eq_true rfl⟩) (by first | exact hx.c (by omega) | exact hx.l (by omega) | exact hx.r (by omega) | exact hx.s (by omega)) rfl rfl (Nat.le_of_ble_eq_true rfl) ⟨Nat.le_of_ble_eq_true rfl, Nat.le_of_ble_eq_true rfl⟩ (fun r87 u87 hu87 => ?_)
          obtain ⟨rfl, rfl⟩ := hu87
          refine j_iadd h dX2_hang_90 ?_
          refine j_aloadR h dX2_hang_91 rfl ?_
          refine x1_get2 h hin1 (by decide +kernel) dX2_hang_93 (by omega) (by first | exact hx.c (by omega) | exact hx.l (by omega) | exact hx.r (by omega) | exact hx.s (by omega)) ?_
          refine j_icmp_le (tgt := 109) h dX2_hang_96 (by decide) (fun c96 => ?_) (fun c96 => ?_)
          · -- t
            have hT : cHang f (nI a) (nI b2) (nI a3) = 0 := by rw [cHang, hL, hFb2, hB3, hb2c, ha3c, hac, e40, e55, decide_eq_true c96, decide_eq_true c67]; rfl
            have hx4 : xw n b q (up2 (up2 (up2 f (30 + b2) a3 (nI a)) 5 a (nI b2)) 6 a (nI a3)) C := (((hx.ups b2 a3 (Or.inr ⟨a, ha, rfl⟩)).up5 a (Or.inr ⟨b2, hb2, rfl⟩)).up (by omega) _ _)
            refine j_aloadR h dX2_hang_109 rfl ?_
            refine j_aloadR h dX2_hang_111 rfl ?_
            refine j_iload_n h dX2_hang_113 rfl ?_
            refine xc1_callVV h (by omega) dX2_hang_114 (c_X1_put hx hb2 ha ha3) (cwV 2 h.2.2.2.2.1 gX2_hang_X1_put rfl rfl rfl (by decide +kernel) ⟨Nat.le_of_ble_eq_true rfl, Nat.le_of_ble_eq_true rfl⟩) (by first | exact hx.c (by omega) | exact hx.l (by omega) | exact hx.r (by omega) | exact hx.s (by omega)) rfl rfl (Nat.le_of_ble_eq_true rfl) ⟨Nat.le_of_ble_eq_true rfl, Nat.le_of_ble_eq_true rfl⟩ (fun u114 hu114 => ?_)
            obtain rfl := hu114
            refine j_aloadR h dX2_hang_117 rfl ?_
            refine xc1_callVI h (by omega) dX2_hang_119 (c_X1_weight hx4 hb2) (cwV 0 h.2.2.2.2.1 gX2_hang_X1_weight rfl rfl rfl (by decide +kernel) ⟨Nat.le_of_ble_eq_true rfl, Nat.le_of_ble_eq_true rfl⟩) (by first | exact hx.c (by omega) | exact hx.l (by omega) | exact hx.r (by omega) | exact hx.s (by omega)) rfl rfl (Nat.le_of_ble_eq_true rfl) ⟨Nat.le_of_ble_eq_true rfl, Nat.le_of_ble_eq_true rfl⟩ (fun r119 u119 hu119 => ?_)
            obtain ⟨rfl, rfl⟩ := hu119
            exact jj_vx (j_iret h hrt hlk dX2_hang_122 (by decide) (by decide) (⟨hT, by rw [hac, hb2c], by rw [hac, hb2c]⟩))
          · -- f
            have hT : cHang f (nI a) (nI b2) (nI a3) = 3 := by rw [cHang, hL, hFb2, hB3, hb2c, ha3c, hac, e40, e55, decide_eq_false c96, decide_eq_true c67]; rfl
            exact j_throwS (is := 107) (text := "the float would have more load than it bears") h hl hout hlk (by decide) (by decide +kernel) (by decide +kernel) (by decide +kernel) dX2_hang_99 dX2_hang_102 dX2_hang_103 dX2_hang_105 dX2_hang_108 (Nat.le_of_ble_eq_true rfl) (Nat.le_of_ble_eq_true rfl) (Nat.le_of_ble_eq_true rfl) (Nat.le_of_ble_eq_true rfl) (Nat.le_of_ble_eq_true rfl) (Nat.le_of_ble_eq_true rfl) (Or.inr (Or.inr ⟨rfl, hT⟩))
        · -- f
          have hT : cHang f (nI a) (nI b2) (nI a3) = 3 := by rw [cHang, hL, hFb2, hB3, hb2c, ha3c, hac, e40, e55, c67]; rfl
          exact j_throwS (is := 97) (text := "the lantern hangs on a float, or the float is gone") h hl hout hlk (by decide) (by decide +kernel) (by decide +kernel) (by decide +kernel) dX2_hang_70 dX2_hang_73 dX2_hang_74 dX2_hang_76 dX2_hang_79 (Nat.le_of_ble_eq_true rfl) (Nat.le_of_ble_eq_true rfl) (Nat.le_of_ble_eq_true rfl) (Nat.le_of_ble_eq_true rfl) (Nat.le_of_ble_eq_true rfl) (Nat.le_of_ble_eq_true rfl) (Or.inr (Or.inr ⟨rfl, hT⟩))
      · -- r
        have hT : cHang f (nI a) (nI b2) (nI a3) = 3 := by rw [cHang, hL, hFb2, hB3, hb2c, ha3c, hac, e40, e55, decide_eq_false (nI_nm1 (by omega))]; rfl
        refine j_ifnonnullR (tgt := 70) h dX2_hang_58 (by decide) ?_
        exact j_throwS (is := 97) (text := "the lantern hangs on a float, or the float is gone") h hl hout hlk (by decide) (by decide +kernel) (by decide +kernel) (by decide +kernel) dX2_hang_70 dX2_hang_73 dX2_hang_74 dX2_hang_76 dX2_hang_79 (Nat.le_of_ble_eq_true rfl) (Nat.le_of_ble_eq_true rfl) (Nat.le_of_ble_eq_true rfl) (Nat.le_of_ble_eq_true rfl) (Nat.le_of_ble_eq_true rfl) (Nat.le_of_ble_eq_true rfl) (Or.inr (Or.inr ⟨rfl, hT⟩))
    · have hT : cHang f (nI a) (nI b2) (nI a3) = 2 := by rw [cHang, hL, hFb2, hB3, hb2c, ha3c, e40, decide_eq_false (nI_nm1 (by omega))]; rfl
      rw [e40, ro_s _ _ (by omega)]
      refine j_ifnullR h dX2_hang_40 ?_
      exact j_throwA (is := 88) (text := "the slot has a lantern") h hl hout hlk (by decide) (by decide +kernel) (by decide +kernel) (by decide +kernel) dX2_hang_43 dX2_hang_46 dX2_hang_47 dX2_hang_49 dX2_hang_52 (Nat.le_of_ble_eq_true rfl) (Nat.le_of_ble_eq_true rfl) (Nat.le_of_ble_eq_true rfl) (Nat.le_of_ble_eq_true rfl) (Nat.le_of_ble_eq_true rfl) (Nat.le_of_ble_eq_true rfl) (Or.inr (Or.inl ⟨rfl, hT⟩))
    done
  · -- f
    have hT : cHang f (nI a) (nI b2) z = 1 := by rw [cHang, hL, hFb2, bi_0.mp c21]; rfl
    exact j_throwI (is := 82) (text := "no such slot") h hl hout hlk (by decide) (by decide +kernel) (by decide +kernel) (by decide +kernel) dX2_hang_24 dX2_hang_27 dX2_hang_28 dX2_hang_30 dX2_hang_33 (Nat.le_of_ble_eq_true rfl) (Nat.le_of_ble_eq_true rfl) (Nat.le_of_ble_eq_true rfl) (Nat.le_of_ble_eq_true rfl) (Nat.le_of_ble_eq_true rfl) (Nat.le_of_ble_eq_true rfl) (Or.inl ⟨rfl, hT⟩)
set_option maxHeartbeats 4000000 in
set_option maxRecDepth 100000 in
theorem c_X2_launch {l : Launch} {D : va_G} {cI cL cR : ClassId} (hl : l.stackTraces = false) {ad : Nat → Nat} {f : St} {C : List Nat} {n b q : Nat} {x : Int32} (hx : xw n b q f C) (hql : ∀ r, r < b → f 10 r = 0 → q < 8) : ctT l D vwCl (tyW cI cL cR) yX2_launch wsX2_launch { frames := 7, cells := 2, slots := 12, locals := 104 } [.ref (ad 0), .int x] (wX cI cL cR ad C f) (fun v u => tLaunch f q x = 0 ∧ v = roS (laF f q x.toNatClampNeg) (q + 1) ∧ u = wX cI cL cR ad C (laF f q x.toNatClampNeg)) (fun E => (E = "java/lang/IndexOutOfBoundsException" ∧ tLaunch f q x = 1) ∨ (E = "java/lang/IllegalStateException" ∧ tLaunch f q x = 2)) 2 12 := by
  refine ctT_of (cc := cX2_launch) (maxL := 3) (ret := (some .int)) (by decide) rfl rfl (Nat.le_of_ble_eq_true rfl) (by simp [Value.category]) [(0, .ref (ad 0)), (1, .int x)] rfl ?_
  intro p e s m args below meth c sz h hrt hlk hout
  have hin1 : ∀ x ∈ wsX10, x ∈ wsX2_launch := by decide +kernel
  have hin2 : ∀ x ∈ wsX20, x ∈ wsX2_launch := by decide +kernel
  have hn24 := hx.1
  have hb8 := hx.2.1
  have hq8 := hx.2.2.1
  have hfn := hx.2.2.2.2.1
  have hfb := hx.2.2.2.2.2.1
  have hfq := hx.2.2.2.2.2.2.1
  obtain ⟨q9, hw9⟩ := wX_recv (cI := cI) (cL := cL) (cR := cR) (ad := ad) (f := f) (hx.c (show 0 < 5 by decide))
  rw [gX_0] at hw9
  refine j_aload_nR h dX2_launch_0 rfl ?_
  refine j_iload_n h dX2_launch_1 rfl ?_
  refine j_callTQ (vc := (RX2, TX2, 12)) h hout hlk dX2_launch_2 (c_X2_raftNumbered hl hx) (cwV 1 h.2.2.2.2.1 gX2_launch_X2_raftNumbered rfl rfl rfl (by decide +kernel) ⟨Nat.le_of_ble_eq_true rfl, Nat.le_of_ble_eq_true rfl⟩) q9 hw9 rfl rfl rfl (Nat.le_of_ble_eq_true rfl) ⟨Nat.le_of_ble_eq_true rfl, Nat.le_of_ble_eq_true rfl⟩ (Nat.le_of_ble_eq_true rfl) (Nat.le_of_ble_eq_true rfl) (fun E z => Or.inl ⟨z.1, by rw [tLaunch, z.2]; rfl⟩) (fun r2 u2 hu2 => ?_)
  obtain ⟨a, ha, rfl, rfl, rfl⟩ := hu2
  have hac : (nI a).toNatClampNeg = a := nI_clamp (by omega)
  have hFa : isF f (nI a) = true := isF_yes hfb (by omega) ha
  refine j_astore_nR (i := 2) h dX2_launch_5 rfl (by decide) ?_
  refine j_aload_nR h dX2_launch_6 rfl ?_
  refine x1_get4 h hin1 (by decide +kernel) dX2_launch_7 (by omega) (by first | exact hx.c (by omega) | exact hx.l (by omega) | exact hx.r (by omega) | exact hx.s (by omega)) ?_
  refine j_if_ne (tgt := 32) h dX2_launch_10 (by decide) (fun c10 => ?_) (fun c10 => ?_)
  · -- t
    have hT : tLaunch f q (nI a) = 2 := by rw [tLaunch, hFa, hac, decide_eq_false c10]; rfl
    exact j_throwS (is := 151) (text := "the float is not ashore, or the last is too near") h hl hout hlk (by decide) (by decide +kernel) (by decide +kernel) (by decide +kernel) dX2_launch_32 dX2_launch_35 dX2_launch_36 dX2_launch_38 dX2_launch_41 (Nat.le_of_ble_eq_true rfl) (Nat.le_of_ble_eq_true rfl) (Nat.le_of_ble_eq_true rfl) (Nat.le_of_ble_eq_true rfl) (Nat.le_of_ble_eq_true rfl) (Nat.le_of_ble_eq_true rfl) (Or.inr ⟨rfl, hT⟩)
  · -- f
    have hq9 := hql a ha c10
    refine j_aload_nR h dX2_launch_13 rfl ?_
    refine xc2_callVI h dX2_launch_14 (c_X2_hasRoomToLaunch hx) (cwV 0 h.2.2.2.2.1 gX2_launch_X2_hasRoomToLaunch rfl rfl rfl (by decide +kernel) ⟨Nat.le_of_ble_eq_true rfl, Nat.le_of_ble_eq_true rfl⟩) (by first | exact hx.c (by omega) | exact hx.l (by omega) | exact hx.r (by omega) | exact hx.s (by omega)) rfl rfl (Nat.le_of_ble_eq_true rfl) ⟨Nat.le_of_ble_eq_true rfl, Nat.le_of_ble_eq_true rfl⟩ (fun r14 u14 hu14 => ?_)
    obtain ⟨rfl, rfl⟩ := hu14
    refine j_if_eq (tgt := 32) h dX2_launch_17 (by decide) (fun c17 => ?_) (fun c17 => ?_)
    · -- t
      have hT : tLaunch f q (nI a) = 2 := by rw [tLaunch, hFa, hac, bi_0.mp c17]; cases decide (f 10 a = 0) <;> rfl
      exact j_throwS (is := 151) (text := "the float is not ashore, or the last is too near") h hl hout hlk (by decide) (by decide +kernel) (by decide +kernel) (by decide +kernel) dX2_launch_32 dX2_launch_35 dX2_launch_36 dX2_launch_38 dX2_launch_41 (Nat.le_of_ble_eq_true rfl) (Nat.le_of_ble_eq_true rfl) (Nat.le_of_ble_eq_true rfl) (Nat.le_of_ble_eq_true rfl) (Nat.le_of_ble_eq_true rfl) (Nat.le_of_ble_eq_true rfl) (Or.inr ⟨rfl, hT⟩)
    · -- f
      have hT : tLaunch f q (nI a) = 0 := by rw [tLaunch, hFa, hac, decide_eq_true c10, bi_n0.mp c17]; rfl
      refine j_aload_nR h dX2_launch_20 rfl ?_
      refine x2_get6 h hin2 (by decide +kernel) dX2_launch_21 (by first | exact hx.c (by omega) | exact hx.l (by omega) | exact hx.r (by omega) | exact hx.s (by omega)) ?_
      rw [hfq]
      refine j_aload_nR h dX2_launch_24 rfl ?_
      refine x2_get2 h hin2 (by decide +kernel) dX2_launch_25 (by first | exact hx.c (by omega) | exact hx.l (by omega) | exact hx.r (by omega) | exact hx.s (by omega)) ?_
      refine x2_alen2 h dX2_launch_28 (by first | exact hx.c (by omega) | exact hx.l (by omega) | exact hx.r (by omega) | exact hx.s (by omega)) ?_
      refine j_icmp_lt (tgt := 42) h dX2_launch_29 (by decide) (fun c29 => ?_) (fun c29 => ?_)
      · -- t
        have hx4 := hx.la ha hq9
        refine j_aload_nR h dX2_launch_42 rfl ?_
        refine j_iconst (v := 1) h dX2_launch_43 (by decide) ?_
        refine x1_put4 h hin1 (by decide +kernel) dX2_launch_44 (by omega) (by first | exact hx.c (by omega) | exact hx.l (by omega) | exact hx.r (by omega) | exact hx.s (by omega)) ?_
        refine j_aload_nR h dX2_launch_47 rfl ?_
        refine j_bipush (v := 9) h dX2_launch_48 (by decide) ?_
        refine x1_put5 h hin1 (by decide +kernel) dX2_launch_50 (by omega) (by first | exact hx.c (by omega) | exact hx.l (by omega) | exact hx.r (by omega) | exact hx.s (by omega)) ?_
        refine j_aload_nR h dX2_launch_53 rfl ?_
        refine j_aload_nR h dX2_launch_54 rfl ?_
        refine x2_get6 h hin2 (by decide +kernel) dX2_launch_55 (by first | exact hx.c (by omega) | exact hx.l (by omega) | exact hx.r (by omega) | exact hx.s (by omega)) ?_
        rw [show up2 (up2 f 10 a 1) 11 a 9 13 0 = nI q from hfq]
        refine x1_put6 h hin1 (by decide +kernel) dX2_launch_58 (by omega) (by first | exact hx.c (by omega) | exact hx.l (by omega) | exact hx.r (by omega) | exact hx.s (by omega)) ?_
        refine j_aload_nR h dX2_launch_61 rfl ?_
        refine x2_get2 h hin2 (by decide +kernel) dX2_launch_62 (by first | exact hx.c (by omega) | exact hx.l (by omega) | exact hx.r (by omega) | exact hx.s (by omega)) ?_
        refine j_aload_nR h dX2_launch_65 rfl ?_
        refine x2_get6 h hin2 (by decide +kernel) dX2_launch_66 (by first | exact hx.c (by omega) | exact hx.l (by omega) | exact hx.r (by omega) | exact hx.s (by omega)) ?_
        rw [show up2 (up2 (up2 f 10 a 1) 11 a 9) 24 a (nI q) 13 0 = nI q from hfq]
        refine j_aload_nR h dX2_launch_69 rfl ?_
        refine x2_ast2R h dX2_launch_70 (by first | exact hx.c (by omega) | exact hx.l (by omega) | exact hx.r (by omega) | exact hx.s (by omega)) (by omega) (by first | exact hx.c (by omega) | exact hx.l (by omega) | exact hx.r (by omega) | exact hx.s (by omega)) rfl (by omega) ?_
        refine j_aload_nR h dX2_launch_71 rfl ?_
        refine j_dup h dX2_launch_72 rfl ?_
        refine x2_get6 h hin2 (by decide +kernel) dX2_launch_73 (by first | exact hx.c (by omega) | exact hx.l (by omega) | exact hx.r (by omega) | exact hx.s (by omega)) ?_
        refine j_iconst (v := 1) h dX2_launch_76 (by decide) ?_
        refine j_iadd h dX2_launch_77 ?_
        rw [show up2 (up2 (up2 (up2 f 10 a 1) 11 a 9) 24 a (nI q)) 12 q (nI a) 13 0 = nI q from hfq, nI_1]
        refine x2_put6 h hin2 (by decide +kernel) dX2_launch_78 (by first | exact hx.c (by omega) | exact hx.l (by omega) | exact hx.r (by omega) | exact hx.s (by omega)) ?_
        refine jj_ws (show _ = wX cI cL cR ad C (laF f q a) from rfl) ?_
        refine j_aload_nR h dX2_launch_81 rfl ?_
        refine xc2_callVI h dX2_launch_82 (c_X2_raftsOnRiver hx4) (cwV 0 h.2.2.2.2.1 gX2_launch_X2_raftsOnRiver rfl rfl rfl (by decide +kernel) ⟨Nat.le_of_ble_eq_true rfl, Nat.le_of_ble_eq_true rfl⟩) (by first | exact hx.c (by omega) | exact hx.l (by omega) | exact hx.r (by omega) | exact hx.s (by omega)) rfl rfl (Nat.le_of_ble_eq_true rfl) ⟨Nat.le_of_ble_eq_true rfl, Nat.le_of_ble_eq_true rfl⟩ (fun r82 u82 hu82 => ?_)
        obtain ⟨rfl, rfl⟩ := hu82
        exact jj_vx (j_iret h hrt hlk dX2_launch_85 (by decide) (by decide) (⟨hT, by rw [hac], by rw [hac]⟩))
      · -- f
        exact absurd (nI_lt (a := q) (b := 8) hq9 (by decide)) c29
set_option maxHeartbeats 4000000 in
set_option maxRecDepth 100000 in
theorem c_X2_nearestOfAll {l : Launch} {D : va_G} {cI cL cR : ClassId} (hl : l.stackTraces = false) {ad : Nat → Nat} {f : St} {C : List Nat} {n b q : Nat} {x : Int32} (hx : xw n b q f C) (hlp : lpF f n) (hpn : plN f n) : ctT l D vwCl (tyW cI cL cR) yX2_nearestOfAll wsX2_nearestOfAll { frames := 7, cells := 1, slots := 6, locals := 104 } [.ref (ad 0), .int x] (wX cI cL cR ad C f) (fun v u => tL f x = 0 ∧ v = (if hpB f x.toNatClampNeg = true then noF f x.toNatClampNeg n else -1) ∧ u = (wX cI cL cR ad C f)) (fun E => E = "java/lang/IndexOutOfBoundsException" ∧ tL f x = 1) 1 6 := by
  refine ctT_of (cc := cX2_nearestOfAll) (maxL := 8) (ret := (some .int)) (by decide) rfl rfl (Nat.le_of_ble_eq_true rfl) (by simp [Value.category]) [(0, .ref (ad 0)), (1, .int x)] rfl ?_
  intro p e s m args below meth c sz h hrt hlk hout
  have hin0 : ∀ x ∈ wsX00, x ∈ wsX2_nearestOfAll := by decide +kernel
  have hin2 : ∀ x ∈ wsX20, x ∈ wsX2_nearestOfAll := by decide +kernel
  have hn24 := hx.1
  have hb8 := hx.2.1
  have hq8 := hx.2.2.1
  have hfn := hx.2.2.2.2.1
  have hfb := hx.2.2.2.2.2.1
  have hfq := hx.2.2.2.2.2.2.1
  obtain ⟨q9, hw9⟩ := wX_recv (cI := cI) (cL := cL) (cR := cR) (ad := ad) (f := f) (hx.c (show 0 < 5 by decide))
  rw [gX_0] at hw9
  refine j_aload_nR h dX2_nearestOfAll_0 rfl ?_
  refine j_iload_n h dX2_nearestOfAll_1 rfl ?_
  refine j_callTQ (vc := (RX2, TX2, 12)) h hout hlk dX2_nearestOfAll_2 (c_X2_lanternNumbered hl hx) (cwV 1 h.2.2.2.2.1 gX2_nearestOfAll_X2_lanternNumbered rfl rfl rfl (by decide +kernel) ⟨Nat.le_of_ble_eq_true rfl, Nat.le_of_ble_eq_true rfl⟩) q9 hw9 rfl rfl rfl (Nat.le_of_ble_eq_true rfl) ⟨Nat.le_of_ble_eq_true rfl, Nat.le_of_ble_eq_true rfl⟩ (Nat.le_of_ble_eq_true rfl) (Nat.le_of_ble_eq_true rfl) (fun E z => ⟨z.1, tL_1 z.2⟩) (fun r2 u2 hu2 => ?_)
  obtain ⟨a, ha, rfl, rfl, rfl⟩ := hu2
  have hac : (nI a).toNatClampNeg = a := nI_clamp (by omega)
  have hL : isL f (nI a) = true := isL_yes hfn (by omega) ha
  have hT := tL_0 hL
  refine j_astore_nR (i := 2) h dX2_nearestOfAll_5 rfl (by decide) ?_
  refine j_iconst (v := (-1)) h dX2_nearestOfAll_6 (by decide) ?_
  refine j_istore_n (i := 3) h dX2_nearestOfAll_7 rfl (by decide) ?_
  refine j_aload_nR h dX2_nearestOfAll_8 rfl ?_
  refine xc0_callVI h (by omega) dX2_nearestOfAll_9 (c_X0_place hx ha) (cwV 0 h.2.2.2.2.1 gX2_nearestOfAll_X0_place rfl rfl rfl (by decide +kernel) ⟨Nat.le_of_ble_eq_true rfl, Nat.le_of_ble_eq_true rfl⟩) (by first | exact hx.c (by omega) | exact hx.l (by omega) | exact hx.r (by omega) | exact hx.s (by omega)) rfl rfl (Nat.le_of_ble_eq_true rfl) ⟨Nat.le_of_ble_eq_true rfl, Nat.le_of_ble_eq_true rfl⟩ (fun r9 u9 hu9 => ?_)
  obtain ⟨rfl, rfl⟩ := hu9
  refine j_iconst (v := (-1)) h dX2_nearestOfAll_12 (by decide) ?_
  refine j_icmp_eq (tgt := 81) h dX2_nearestOfAll_13 (by decide) (fun c13 => ?_) (fun c13 => ?_)
  · -- t
    have hp : hpB f a = false := by
      cases hB : hpB f a with
      | false => rfl
      | true => rw [hB, if_pos rfl] at c13; exact absurd c13 (hpn a ha hB)
    refine j_iload_n h dX2_nearestOfAll_81 rfl ?_
    exact jj_vx (j_iret h hrt hlk dX2_nearestOfAll_82 (by decide) (by decide) (⟨hT, by rw [hac, hp]; first | rfl | rw [if_pos rfl, show min i n = n by omega], rfl⟩))
  · -- f
    have hp : hpB f a = true := by
      cases hB : hpB f a with
      | true => rfl
      | false => rw [hB] at c13; exact absurd rfl c13
    refine j_aload_nR h dX2_nearestOfAll_16 rfl ?_
    refine x2_get0 h hin2 (by decide +kernel) dX2_nearestOfAll_17 (by first | exact hx.c (by omega) | exact hx.l (by omega) | exact hx.r (by omega) | exact hx.s (by omega)) ?_
    refine j_astoreR h dX2_nearestOfAll_20 (by decide) ?_
    refine j_aloadR h dX2_nearestOfAll_22 rfl ?_
    refine x2_alen0 h dX2_nearestOfAll_24 (by first | exact hx.c (by omega) | exact hx.l (by omega) | exact hx.r (by omega) | exact hx.s (by omega)) ?_
    refine j_istore h dX2_nearestOfAll_25 (by decide) ?_
    refine j_iconst (v := 0) h dX2_nearestOfAll_27 (by decide) ?_
    refine j_istore h dX2_nearestOfAll_28 (by decide) ?_
    refine jj_loop (fun i : Nat => [(0, .ref (ad 0)), (2, .ref (ad (5 + a))), (3, .int (noF f a (min i n))), (4, .ref (ad 1)), (5, .int 24), (6, .int (nI i))]) (fun i : Nat => (wX cI cL cR ad C f)) (fun i : Nat => i ≤ 24) (fun i : Nat => 24 - i) 0 ⟨rfl, rfl, by rw [Nat.zero_min]; rfl, rfl, rfl, rfl, trivial⟩ rfl (by first | omega | exact ⟨by omega, by rw [Nat.zero_min]; rfl⟩) (fun i hi ihi => ?_)
    refine j_iload h dX2_nearestOfAll_30 rfl ?_
    refine j_iload h dX2_nearestOfAll_32 rfl ?_
    refine j_icmp_ge (tgt := 81) h dX2_nearestOfAll_34 (by decide) (fun c34 => ?_) (fun c34 => ?_)
    · -- t
      rw [show (24 : Int32) = nI 24 from rfl, nI_leI (by omega) (by omega)] at c34
      refine j_iload_n h dX2_nearestOfAll_81 rfl ?_
      exact jj_vx (j_iret h hrt hlk dX2_nearestOfAll_82 (by decide) (by decide) (⟨hT, by rw [hac, hp]; first | rfl | rw [if_pos rfl, show min i n = n by omega], rfl⟩))
    · -- f
      rw [show (24 : Int32) = nI 24 from rfl, nI_leI (by omega) (by omega)] at c34
      refine j_aloadR h dX2_nearestOfAll_37 rfl ?_
      refine j_iload h dX2_nearestOfAll_39 rfl ?_
      refine xl_ald0 h (by first | assumption | exact hx.up (by omega) _ _ | exact (hx.up (by omega) _ _).up (by omega) _ _) dX2_nearestOfAll_41 rfl (by omega) (fun e41 => ?_) (fun e41 => ?_)
      · -- n
        have hE : noF f a (min (i + 1) n) = noF f a (min i n) := by rw [show min (i + 1) n = min i n by omega]
        refine j_astoreN h dX2_nearestOfAll_42 (by decide) ?_
        refine j_aload h dX2_nearestOfAll_44 rfl (Or.inl rfl) ?_
        refine j_ifnullN (tgt := 75) h dX2_nearestOfAll_46 (by decide) ?_
        refine j_iinc h dX2_nearestOfAll_75 rfl rfl (by decide) ?_
        refine j_goto (tgt := 30) h dX2_nearestOfAll_78 (by decide) ?_
        exact ihi (i + 1) (by omega) (by omega) _ ⟨rfl, rfl, by rw [hE]; rfl, rfl, rfl, by simp [lget, nI_succ], trivial⟩
      · -- r
        have hmi : min i n = i := by omega
        have hmi1 : min (i + 1) n = i + 1 := by omega
        refine j_astoreR h dX2_nearestOfAll_42 (by decide) ?_
        refine j_aloadR h dX2_nearestOfAll_44 rfl ?_
        refine j_ifnullR h dX2_nearestOfAll_46 ?_
        refine j_aloadR h dX2_nearestOfAll_49 rfl ?_
        refine j_aload_nR h dX2_nearestOfAll_51 rfl ?_
        refine x_acmp_eq (tgt := 75) h dX2_nearestOfAll_52 (by decide) (by first | exact hx.c (by omega) | exact hx.l (by omega) | exact hx.r (by omega) | exact hx.s (by omega)) (by first | exact hx.c (by omega) | exact hx.l (by omega) | exact hx.r (by omega) | exact hx.s (by omega)) (fun c52 => ?_) (fun c52 => ?_)
        · -- t
          have hE : noF f a (min (i + 1) n) = noF f a (min i n) := by rw [hmi, hmi1, noF, if_neg (fun z => z.1 (by omega))]
          refine j_iinc h dX2_nearestOfAll_75 rfl rfl (by decide) ?_
          refine j_goto (tgt := 30) h dX2_nearestOfAll_78 (by decide) ?_
          exact ihi (i + 1) (by omega) (by omega) _ ⟨rfl, rfl, by rw [hE]; rfl, rfl, rfl, by simp [lget, nI_succ], trivial⟩
        · -- f
          refine j_aloadR h dX2_nearestOfAll_55 rfl ?_
          refine x0_get3 h hin0 (by decide +kernel) dX2_nearestOfAll_57 (by omega) (by first | exact hx.c (by omega) | exact hx.l (by omega) | exact hx.r (by omega) | exact hx.s (by omega)) ?_
          refine j_iconst (v := 1) h dX2_nearestOfAll_60 (by decide) ?_
          refine j_icmp_ne (tgt := 75) h dX2_nearestOfAll_61 (by decide) (fun c61 => ?_) (fun c61 => ?_)
          · -- t
            have hE : noF f a (min (i + 1) n) = noF f a (min i n) := by rw [hmi, hmi1, noF, if_neg (fun z => c61 z.2)]
            refine j_iinc h dX2_nearestOfAll_75 rfl rfl (by decide) ?_
            refine j_goto (tgt := 30) h dX2_nearestOfAll_78 (by decide) ?_
            exact ihi (i + 1) (by omega) (by omega) _ ⟨rfl, rfl, by rw [hE]; rfl, rfl, rfl, by simp [lget, nI_succ], trivial⟩
          · -- f
            refine j_iload_n h dX2_nearestOfAll_64 rfl ?_
            refine j_aload_nR h dX2_nearestOfAll_65 rfl ?_
            refine j_aloadR h dX2_nearestOfAll_66 rfl ?_
            refine xc0_callVI h (by omega) dX2_nearestOfAll_68 (c_X0_distanceTo hx ha (by omega) hp (hlp i (by omega) c61)) (cwV 1 h.2.2.2.2.1 gX2_nearestOfAll_X0_distanceTo rfl rfl rfl (by decide +kernel) ⟨Nat.le_of_ble_eq_true rfl, Nat.le_of_ble_eq_true rfl⟩) (by first | exact hx.c (by omega) | exact hx.l (by omega) | exact hx.r (by omega) | exact hx.s (by omega)) rfl rfl (Nat.le_of_ble_eq_true rfl) ⟨Nat.le_of_ble_eq_true rfl, Nat.le_of_ble_eq_true rfl⟩ (fun r68 u68 hu68 => ?_)
            obtain ⟨rfl, rfl⟩ := hu68
            refine j_callSI h dX2_nearestOfAll_71 (c_X2_nearer) (va_cwS 2 h.2.2.2.2.1 gX2_nearestOfAll_X2_nearer rfl rfl rfl (by decide +kernel) ⟨Nat.le_of_ble_eq_true rfl, Nat.le_of_ble_eq_true rfl⟩) rfl rfl (Nat.le_of_ble_eq_true rfl) ⟨Nat.le_of_ble_eq_true rfl, Nat.le_of_ble_eq_true rfl⟩ (fun r71 u71 hu71 => ?_)
            obtain ⟨rfl, rfl⟩ := hu71
            have hE : noF f a (min (i + 1) n) = nrI (noF f a (min i n)) (ds f a i) := by rw [hmi, hmi1, noF, if_pos ⟨fun z => c52 (by omega), c61⟩]
            refine j_istore_n (i := 3) h dX2_nearestOfAll_74 rfl (by decide) ?_
            refine j_iinc h dX2_nearestOfAll_75 rfl rfl (by decide) ?_
            refine j_goto (tgt := 30) h dX2_nearestOfAll_78 (by decide) ?_
            exact ihi (i + 1) (by omega) (by omega) _ ⟨rfl, rfl, by rw [hE]; rfl, rfl, rfl, by simp [lget, nI_succ], trivial⟩
