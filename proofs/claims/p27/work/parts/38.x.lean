set_option maxHeartbeats 4000000 in
set_option maxRecDepth 100000 in
theorem c_X2_make {l : Launch} {D : va_G} {cI cL cR : ClassId} (hl : l.stackTraces = false) {ad : Nat → Nat} {f : St} {C : List Nat} {n b q : Nat} {x y z : Int32} (hx : xw n b q f C) (hv : xv b f) : ctT l D vwCl (tyW cI cL cR) yX2_make wsX2_make { frames := 6, cells := 1, slots := 7, locals := 82 } [.ref (ad 0), .int x, .int y, .int z] (wX cI cL cR ad C f) (fun v u => tMake f x y z = 0 ∧ v = f 7 0 ∧ ∃ ad' : Nat → Nat, ad 0 = ad' 0 ∧ u = wX cI cL cR ad' (C ++ [5 + n]) (mkF f n x y z)) (fun E => (E = "java/lang/IllegalArgumentException" ∧ tMake f x y z = 1) ∨ (E = "java/lang/IllegalStateException" ∧ tMake f x y z = 2)) 1 7 := by
  refine ctT_of (cc := cX2_make) (maxL := 4) (ret := (some .int)) (by decide) rfl rfl (Nat.le_of_ble_eq_true rfl) (by simp [Value.category]) [(0, .ref (ad 0)), (1, .int x), (2, .int y), (3, .int z)] rfl ?_
  intro p e s m args below meth c sz h hrt hlk hout
  have hin2 : ∀ x ∈ wsX20, x ∈ wsX2_make := by decide +kernel
  have hn24 := hx.1
  have hb8 := hx.2.1
  have hq8 := hx.2.2.1
  have hfn := hx.2.2.2.2.1
  have hfb := hx.2.2.2.2.2.1
  have hfq := hx.2.2.2.2.2.2.1
  obtain ⟨q9, hw9⟩ := wX_recv (cI := cI) (cL := cL) (cR := cR) (ad := ad) (f := f) (hx.c (show 0 < 5 by decide))
  rw [gX_0] at hw9
  have hin0 : ∀ x ∈ wsX00, x ∈ wsX2_make := by decide +kernel
  refine j_iload_n h dX2_make_0 rfl ?_
  refine j_iconst (v := 4) h dX2_make_1 (by decide) ?_
  refine j_bipush (v := 12) h dX2_make_2 (by decide) ?_
  refine j_callSI h dX2_make_4 (c_X2_within) (va_cwS 3 h.2.2.2.2.1 gX2_make_X2_within rfl rfl rfl (by decide +kernel) ⟨Nat.le_of_ble_eq_true rfl, Nat.le_of_ble_eq_true rfl⟩) rfl rfl (Nat.le_of_ble_eq_true rfl) ⟨Nat.le_of_ble_eq_true rfl, Nat.le_of_ble_eq_true rfl⟩ (fun r4 u4 hu4 => ?_)
  obtain ⟨rfl, rfl⟩ := hu4
  refine j_if_eq (tgt := 28) h dX2_make_7 (by decide) (fun c7 => ?_) (fun c7 => ?_)
  · -- t
    have hT : tMake f x y z = 1 := by rw [tMake, bi_0.mp c7]; rfl
    exact j_throwA (is := 59) (text := "ribs, paper or candle is out of range") h hl hout hlk (by decide) (by decide +kernel) (by decide +kernel) (by decide +kernel) dX2_make_28 dX2_make_31 dX2_make_32 dX2_make_34 dX2_make_37 (Nat.le_of_ble_eq_true rfl) (Nat.le_of_ble_eq_true rfl) (Nat.le_of_ble_eq_true rfl) (Nat.le_of_ble_eq_true rfl) (Nat.le_of_ble_eq_true rfl) (Nat.le_of_ble_eq_true rfl) (Or.inl ⟨rfl, hT⟩)
  · -- f
    refine j_iload_n h dX2_make_10 rfl ?_
    refine j_iconst (v := 0) h dX2_make_11 (by decide) ?_
    refine j_iconst (v := 3) h dX2_make_12 (by decide) ?_
    refine j_callSI h dX2_make_13 (c_X2_within) (va_cwS 3 h.2.2.2.2.1 gX2_make_X2_within rfl rfl rfl (by decide +kernel) ⟨Nat.le_of_ble_eq_true rfl, Nat.le_of_ble_eq_true rfl⟩) rfl rfl (Nat.le_of_ble_eq_true rfl) ⟨Nat.le_of_ble_eq_true rfl, Nat.le_of_ble_eq_true rfl⟩ (fun r13 u13 hu13 => ?_)
    obtain ⟨rfl, rfl⟩ := hu13
    refine j_if_eq (tgt := 28) h dX2_make_16 (by decide) (fun c16 => ?_) (fun c16 => ?_)
    · -- t
      have hT : tMake f x y z = 1 := by rw [tMake, bi_n0.mp c7, bi_0.mp c16]; rfl
      exact j_throwA (is := 59) (text := "ribs, paper or candle is out of range") h hl hout hlk (by decide) (by decide +kernel) (by decide +kernel) (by decide +kernel) dX2_make_28 dX2_make_31 dX2_make_32 dX2_make_34 dX2_make_37 (Nat.le_of_ble_eq_true rfl) (Nat.le_of_ble_eq_true rfl) (Nat.le_of_ble_eq_true rfl) (Nat.le_of_ble_eq_true rfl) (Nat.le_of_ble_eq_true rfl) (Nat.le_of_ble_eq_true rfl) (Or.inl ⟨rfl, hT⟩)
    · -- f
      refine j_iload_n h dX2_make_19 rfl ?_
      refine j_iconst (v := 1) h dX2_make_20 (by decide) ?_
      refine j_iconst (v := 4) h dX2_make_21 (by decide) ?_
      refine j_callSI h dX2_make_22 (c_X2_within) (va_cwS 3 h.2.2.2.2.1 gX2_make_X2_within rfl rfl rfl (by decide +kernel) ⟨Nat.le_of_ble_eq_true rfl, Nat.le_of_ble_eq_true rfl⟩) rfl rfl (Nat.le_of_ble_eq_true rfl) ⟨Nat.le_of_ble_eq_true rfl, Nat.le_of_ble_eq_true rfl⟩ (fun r22 u22 hu22 => ?_)
      obtain ⟨rfl, rfl⟩ := hu22
      refine j_if_ne (tgt := 38) h dX2_make_25 (by decide) (fun c25 => ?_) (fun c25 => ?_)
      · -- t
        refine j_aload_nR h dX2_make_38 rfl ?_
        refine x2_get4 h hin2 (by decide +kernel) dX2_make_39 (by first | exact hx.c (by omega) | exact hx.l (by omega) | exact hx.r (by omega) | exact hx.s (by omega)) ?_
        rw [hfn]
        refine j_aload_nR h dX2_make_42 rfl ?_
        refine x2_get0 h hin2 (by decide +kernel) dX2_make_43 (by first | exact hx.c (by omega) | exact hx.l (by omega) | exact hx.r (by omega) | exact hx.s (by omega)) ?_
        refine x2_alen0 h dX2_make_46 (by first | exact hx.c (by omega) | exact hx.l (by omega) | exact hx.r (by omega) | exact hx.s (by omega)) ?_
        refine j_icmp_lt (tgt := 60) h dX2_make_47 (by decide) (fun c47 => ?_) (fun c47 => ?_)
        · -- t
          have hn9 : n < 24 := (nI_ltI (a := n) (b := 24) (by omega) (by decide)).mp c47
          have hT : tMake f x y z = 0 := by rw [tMake, bi_n0.mp c7, bi_n0.mp c16, bi_n0.mp c25, hfn, decide_eq_true c47]; rfl
          refine j_aload_nR h dX2_make_60 rfl ?_
          refine x2_get0 h hin2 (by decide +kernel) dX2_make_61 (by first | exact hx.c (by omega) | exact hx.l (by omega) | exact hx.r (by omega) | exact hx.s (by omega)) ?_
          refine j_aload_nR h dX2_make_64 rfl ?_
          refine x2_get4 h hin2 (by decide +kernel) dX2_make_65 (by first | exact hx.c (by omega) | exact hx.l (by omega) | exact hx.r (by omega) | exact hx.s (by omega)) ?_
          rw [hfn]
          refine j_new (C := RX0) (T := TX0) (N := 7) (ci := 0) h hin0 tyX0 tyX0_ok (by decide +kernel) (by decide +kernel) (by decide +kernel) rfl (fs := [.int 0, .int 0, .int 0, .int 0, .int 0, .null, .int 0]) (fun j hj => by rcases j with _ | _ | _ | _ | _ | _ | _ | j <;> first | rfl | omega) (Nat.le_of_ble_eq_true rfl) (Nat.le_of_ble_eq_true rfl) dX2_make_68 (fun q1 => ?_)
          refine j_dup h dX2_make_71 rfl ?_
          refine j_iload_n h dX2_make_72 rfl ?_
          refine j_iload_n h dX2_make_73 rfl ?_
          refine j_iload_n h dX2_make_74 rfl ?_
          refine j_callIF (wr := wX cI cL cR ad C f) (wc := [(q1, .inr (0, [.int 0, .int 0, .int 0, .int 0, .int 0, .null, .int 0]))]) (As := [.int x, .int y, .int z]) h dX2_make_75 c_X0_init ⟨callB_of 3 h.2.2.2.2.1 gX2_make_X0_init rfl rfl rfl (h.2.2.2.2.1 _ (by decide +kernel)) (h.2.2.2.2.1 _ (by decide +kernel)) (by decide +kernel) ⟨Nat.le_of_ble_eq_true rfl, Nat.le_of_ble_eq_true rfl⟩, rfl, h.2.2.2.2.1 _ (by decide +kernel)⟩ rfl rfl (Nat.le_of_ble_eq_true rfl) ⟨Nat.le_of_ble_eq_true rfl, Nat.le_of_ble_eq_true rfl⟩ (fun u9 hu9 => ?_)
          obtain rfl := hu9
          refine jj_ws (wX_ln hx hv hn9) ?_
          have hx0 := hx
          have hx := hx0.mk hn9 x y z
          obtain ⟨ad', had⟩ : ∃ ad' : Nat → Nat, ad' = (fun c => if c = 5 + n then q1 else ad c) := ⟨_, rfl⟩
          have e0 : ad 0 = ad' 0 := by rw [had]; exact (if_neg (by omega)).symm
          have e1 : ad 1 = ad' 1 := by rw [had]; exact (if_neg (by omega)).symm
          have eq1 : q1 = ad' (5 + n) := by rw [had]; exact (if_pos rfl).symm
          rw [← had, e0, e1, eq1]
          refine x2_ast0R (b := n) (r := n) h dX2_make_78 (hx.c (by decide)) hn9 (hx.l (by omega)) rfl (by omega) ?_
          refine j_aload_nR h dX2_make_79 rfl ?_
          refine j_dup h dX2_make_80 rfl ?_
          refine x2_get4 h hin2 (by decide +kernel) dX2_make_81 (by first | exact hx.c (by omega) | exact hx.l (by omega) | exact hx.r (by omega) | exact hx.s (by omega)) ?_
          rw [show up2 (lnF f n x y z) 22 n (nI n) 7 0 = nI n from hfn]
          refine j_iconst (v := 1) h dX2_make_84 (by decide) ?_
          refine j_iadd h dX2_make_85 ?_
          rw [nI_1]
          refine x2_put4 h hin2 (by decide +kernel) dX2_make_86 (by first | exact hx.c (by omega) | exact hx.l (by omega) | exact hx.r (by omega) | exact hx.s (by omega)) ?_
          refine jj_ws (show _ = wX cI cL cR ad' (C ++ [5 + n]) (mkF f n x y z) from rfl) ?_
          refine j_aload_nR h dX2_make_89 rfl ?_
          refine x2_get4 h hin2 (by decide +kernel) dX2_make_90 (by first | exact hx.c (by omega) | exact hx.l (by omega) | exact hx.r (by omega) | exact hx.s (by omega)) ?_
          refine j_iconst (v := 1) h dX2_make_93 (by decide) ?_
          refine j_isub h dX2_make_94 ?_
          exact jj_vx (j_iret h hrt hlk dX2_make_95 (by decide) (by decide) (⟨hT, by rw [show mkF f n x y z 7 0 = nI (n + 1) from rfl, nI_pred], ad', rfl, rfl⟩))
        · -- f
          have hT : tMake f x y z = 2 := by rw [tMake, bi_n0.mp c7, bi_n0.mp c16, bi_n0.mp c25, hfn, decide_eq_false c47]; rfl
          exact j_throwS (is := 66) (text := "24 lanterns were made") h hl hout hlk (by decide) (by decide +kernel) (by decide +kernel) (by decide +kernel) dX2_make_50 dX2_make_53 dX2_make_54 dX2_make_56 dX2_make_59 (Nat.le_of_ble_eq_true rfl) (Nat.le_of_ble_eq_true rfl) (Nat.le_of_ble_eq_true rfl) (Nat.le_of_ble_eq_true rfl) (Nat.le_of_ble_eq_true rfl) (Nat.le_of_ble_eq_true rfl) (Or.inr ⟨rfl, hT⟩)
      · -- f
        have hT : tMake f x y z = 1 := by rw [tMake, bi_n0.mp c7, bi_n0.mp c16, bi_0.mp c25]; rfl
        exact j_throwA (is := 59) (text := "ribs, paper or candle is out of range") h hl hout hlk (by decide) (by decide +kernel) (by decide +kernel) (by decide +kernel) dX2_make_28 dX2_make_31 dX2_make_32 dX2_make_34 dX2_make_37 (Nat.le_of_ble_eq_true rfl) (Nat.le_of_ble_eq_true rfl) (Nat.le_of_ble_eq_true rfl) (Nat.le_of_ble_eq_true rfl) (Nat.le_of_ble_eq_true rfl) (Nat.le_of_ble_eq_true rfl) (Or.inl ⟨rfl, hT⟩)
set_option maxHeartbeats 4000000 in
set_option maxRecDepth 100000 in
theorem c_X2_build {l : Launch} {D : va_G} {cI cL cR : ClassId} (hl : l.stackTraces = false) {ad : Nat → Nat} {f : St} {C : List Nat} {n b q : Nat} {x y : Int32} (hx : xw n b q f C) (hv : xv b f) : ctT l D vwCl (tyW cI cL cR) yX2_build wsX2_build { frames := 6, cells := 2, slots := 17, locals := 82 } [.ref (ad 0), .int x, .int y] (wX cI cL cR ad C f) (fun v u => tBuild f x y = 0 ∧ v = f 14 0 ∧ ∃ ad' : Nat → Nat, ad 0 = ad' 0 ∧ u = wX cI cL cR ad' (C ++ [29 + b, 37 + b]) (bdF f b x y)) (fun E => (E = "java/lang/IllegalArgumentException" ∧ tBuild f x y = 1) ∨ (E = "java/lang/IllegalStateException" ∧ tBuild f x y = 2)) 2 17 := by
  refine ctT_of (cc := cX2_build) (maxL := 3) (ret := (some .int)) (by decide) rfl rfl (Nat.le_of_ble_eq_true rfl) (by simp [Value.category]) [(0, .ref (ad 0)), (1, .int x), (2, .int y)] rfl ?_
  intro p e s m args below meth c sz h hrt hlk hout
  have hin2 : ∀ x ∈ wsX20, x ∈ wsX2_build := by decide +kernel
  have hn24 := hx.1
  have hb8 := hx.2.1
  have hq8 := hx.2.2.1
  have hfn := hx.2.2.2.2.1
  have hfb := hx.2.2.2.2.2.1
  have hfq := hx.2.2.2.2.2.2.1
  obtain ⟨q9, hw9⟩ := wX_recv (cI := cI) (cL := cL) (cR := cR) (ad := ad) (f := f) (hx.c (show 0 < 5 by decide))
  rw [gX_0] at hw9
  have hin1 : ∀ x ∈ wsX10, x ∈ wsX2_build := by decide +kernel
  refine j_iload_n h dX2_build_0 rfl ?_
  refine j_iconst (v := 1) h dX2_build_1 (by decide) ?_
  refine j_bipush (v := 9) h dX2_build_2 (by decide) ?_
  refine j_callSI h dX2_build_4 (c_X2_within) (va_cwS 3 h.2.2.2.2.1 gX2_build_X2_within rfl rfl rfl (by decide +kernel) ⟨Nat.le_of_ble_eq_true rfl, Nat.le_of_ble_eq_true rfl⟩) rfl rfl (Nat.le_of_ble_eq_true rfl) ⟨Nat.le_of_ble_eq_true rfl, Nat.le_of_ble_eq_true rfl⟩ (fun r4 u4 hu4 => ?_)
  obtain ⟨rfl, rfl⟩ := hu4
  refine j_if_eq (tgt := 22) h dX2_build_7 (by decide) (fun c7 => ?_) (fun c7 => ?_)
  · -- t
    have hT : tBuild f x y = 1 := by rw [tBuild, bi_0.mp c7]; rfl
    exact j_throwA (is := 142) (text := "speed or bears is out of range") h hl hout hlk (by decide) (by decide +kernel) (by decide +kernel) (by decide +kernel) dX2_build_22 dX2_build_25 dX2_build_26 dX2_build_28 dX2_build_31 (Nat.le_of_ble_eq_true rfl) (Nat.le_of_ble_eq_true rfl) (Nat.le_of_ble_eq_true rfl) (Nat.le_of_ble_eq_true rfl) (Nat.le_of_ble_eq_true rfl) (Nat.le_of_ble_eq_true rfl) (Or.inl ⟨rfl, hT⟩)
  · -- f
    refine j_iload_n h dX2_build_10 rfl ?_
    refine j_bipush (v := 100) h dX2_build_11 (by decide) ?_
    refine j_sipush (v := 9999) h dX2_build_13 (by decide) ?_
    refine j_callSI h dX2_build_16 (c_X2_within) (va_cwS 3 h.2.2.2.2.1 gX2_build_X2_within rfl rfl rfl (by decide +kernel) ⟨Nat.le_of_ble_eq_true rfl, Nat.le_of_ble_eq_true rfl⟩) rfl rfl (Nat.le_of_ble_eq_true rfl) ⟨Nat.le_of_ble_eq_true rfl, Nat.le_of_ble_eq_true rfl⟩ (fun r16 u16 hu16 => ?_)
    obtain ⟨rfl, rfl⟩ := hu16
    refine j_if_ne (tgt := 32) h dX2_build_19 (by decide) (fun c19 => ?_) (fun c19 => ?_)
    · -- t
      refine j_aload_nR h dX2_build_32 rfl ?_
      refine x2_get5 h hin2 (by decide +kernel) dX2_build_33 (by first | exact hx.c (by omega) | exact hx.l (by omega) | exact hx.r (by omega) | exact hx.s (by omega)) ?_
      rw [hfb]
      refine j_aload_nR h dX2_build_36 rfl ?_
      refine x2_get1 h hin2 (by decide +kernel) dX2_build_37 (by first | exact hx.c (by omega) | exact hx.l (by omega) | exact hx.r (by omega) | exact hx.s (by omega)) ?_
      refine x2_alen1 h dX2_build_40 (by first | exact hx.c (by omega) | exact hx.l (by omega) | exact hx.r (by omega) | exact hx.s (by omega)) ?_
      refine j_icmp_lt (tgt := 54) h dX2_build_41 (by decide) (fun c41 => ?_) (fun c41 => ?_)
      · -- t
        have hb9 : b < 8 := (nI_ltI (a := b) (b := 8) (by omega) (by decide)).mp c41
        have hT : tBuild f x y = 0 := by rw [tBuild, bi_n0.mp c7, bi_n0.mp c19, hfb, decide_eq_true c41]; rfl
        refine j_aload_nR h dX2_build_54 rfl ?_
        refine x2_get1 h hin2 (by decide +kernel) dX2_build_55 (by first | exact hx.c (by omega) | exact hx.l (by omega) | exact hx.r (by omega) | exact hx.s (by omega)) ?_
        refine j_aload_nR h dX2_build_58 rfl ?_
        refine x2_get5 h hin2 (by decide +kernel) dX2_build_59 (by first | exact hx.c (by omega) | exact hx.l (by omega) | exact hx.r (by omega) | exact hx.s (by omega)) ?_
        rw [hfb]
        refine j_new (C := RX1) (T := TX1) (N := 7) (ci := 1) h hin1 tyX1 tyX1_ok (by decide +kernel) (by decide +kernel) (by decide +kernel) rfl (fs := [.int 0, .int 0, .int 0, .null, .int 0, .int 0, .int 0]) (fun j hj => by rcases j with _ | _ | _ | _ | _ | _ | _ | j <;> first | rfl | omega) (Nat.le_of_ble_eq_true rfl) (Nat.le_of_ble_eq_true rfl) dX2_build_62 (fun q1 => ?_)
        refine j_dup h dX2_build_65 rfl ?_
        refine j_aload_nR h dX2_build_66 rfl ?_
        refine j_get (ref := RX2) h q9 5 dX2_build_67 hin2 rfl (by decide) (by decide +kernel) (fun _ h9 => h9) (by rw [List.getElem?_append_left (List.getElem?_eq_some_iff.mp hw9).1]; exact hw9) rfl ?_
        rw [hfb]
        refine j_iload_n h dX2_build_70 rfl ?_
        refine j_iload_n h dX2_build_71 rfl ?_
        refine j_callIF (wr := wX cI cL cR ad C f) (wc := [(q1, .inr (1, [.int 0, .int 0, .int 0, .null, .int 0, .int 0, .int 0]))]) (As := [.int (nI b), .int x, .int y]) h dX2_build_72 c_X1_init ⟨callB_of 3 h.2.2.2.2.1 gX2_build_X1_init rfl rfl rfl (h.2.2.2.2.1 _ (by decide +kernel)) (h.2.2.2.2.1 _ (by decide +kernel)) (by decide +kernel) ⟨Nat.le_of_ble_eq_true rfl, Nat.le_of_ble_eq_true rfl⟩, rfl, h.2.2.2.2.1 _ (by decide +kernel)⟩ rfl rfl (Nat.le_of_ble_eq_true rfl) ⟨Nat.le_of_ble_eq_true rfl, Nat.le_of_ble_eq_true rfl⟩ (fun u9 hu9 => ?_)
        obtain ⟨q2, rfl⟩ := hu9
        refine jj_ws (wX_rf hx hv hb9) ?_
        have hx0 := hx
        have hx := hx0.bd hb9 x y
        obtain ⟨ad', had⟩ : ∃ ad' : Nat → Nat, ad' = (fun c => if c = 29 + b then q1 else if c = 37 + b then q2 else ad c) := ⟨_, rfl⟩
        have e0 : ad 0 = ad' 0 := by rw [had]; show _ = if (0 : Nat) = 29 + b then q1 else if (0 : Nat) = 37 + b then q2 else ad 0; rw [if_neg (by omega), if_neg (by omega)]
        have e2 : ad 2 = ad' 2 := by rw [had]; show _ = if (2 : Nat) = 29 + b then q1 else if (2 : Nat) = 37 + b then q2 else ad 2; rw [if_neg (by omega), if_neg (by omega)]
        have eq1 : q1 = ad' (29 + b) := by rw [had]; exact (if_pos rfl).symm
        rw [← had, e0, e2, eq1]
        refine x2_ast1R (b := b) (r := b) h dX2_build_75 (hx.c (by decide)) hb9 (hx.r (by omega)) rfl (by omega) ?_
        refine j_aload_nR h dX2_build_76 rfl ?_
        refine j_dup h dX2_build_77 rfl ?_
        refine x2_get5 h hin2 (by decide +kernel) dX2_build_78 (by first | exact hx.c (by omega) | exact hx.l (by omega) | exact hx.r (by omega) | exact hx.s (by omega)) ?_
        rw [show up2 (rfF f b x y) 23 b (nI b) 14 0 = nI b from (by rw [up2_fld _ _ _ (by decide)]; unfold rfF setF; rw [if_neg (by omega)]; exact hfb)]
        refine j_iconst (v := 1) h dX2_build_81 (by decide) ?_
        refine j_iadd h dX2_build_82 ?_
        rw [nI_1]
        refine x2_put5 h hin2 (by decide +kernel) dX2_build_83 (by first | exact hx.c (by omega) | exact hx.l (by omega) | exact hx.r (by omega) | exact hx.s (by omega)) ?_
        refine jj_ws (show _ = wX cI cL cR ad' (C ++ [29 + b, 37 + b]) (bdF f b x y) from rfl) ?_
        refine j_aload_nR h dX2_build_86 rfl ?_
        refine x2_get5 h hin2 (by decide +kernel) dX2_build_87 (by first | exact hx.c (by omega) | exact hx.l (by omega) | exact hx.r (by omega) | exact hx.s (by omega)) ?_
        refine j_iconst (v := 1) h dX2_build_90 (by decide) ?_
        refine j_isub h dX2_build_91 ?_
        exact jj_vx (j_iret h hrt hlk dX2_build_92 (by decide) (by decide) (⟨hT, by rw [show bdF f b x y 14 0 = nI (b + 1) from up2_self _ _ _ _, nI_pred], ad', rfl, rfl⟩))
      · -- f
        have hT : tBuild f x y = 2 := by rw [tBuild, bi_n0.mp c7, bi_n0.mp c19, hfb, decide_eq_false c41]; rfl
        exact j_throwS (is := 144) (text := "8 floats were built") h hl hout hlk (by decide) (by decide +kernel) (by decide +kernel) (by decide +kernel) dX2_build_44 dX2_build_47 dX2_build_48 dX2_build_50 dX2_build_53 (Nat.le_of_ble_eq_true rfl) (Nat.le_of_ble_eq_true rfl) (Nat.le_of_ble_eq_true rfl) (Nat.le_of_ble_eq_true rfl) (Nat.le_of_ble_eq_true rfl) (Nat.le_of_ble_eq_true rfl) (Or.inr ⟨rfl, hT⟩)
    · -- f
      have hT : tBuild f x y = 1 := by rw [tBuild, bi_n0.mp c7, bi_0.mp c19]; rfl
      exact j_throwA (is := 142) (text := "speed or bears is out of range") h hl hout hlk (by decide) (by decide +kernel) (by decide +kernel) (by decide +kernel) dX2_build_22 dX2_build_25 dX2_build_26 dX2_build_28 dX2_build_31 (Nat.le_of_ble_eq_true rfl) (Nat.le_of_ble_eq_true rfl) (Nat.le_of_ble_eq_true rfl) (Nat.le_of_ble_eq_true rfl) (Nat.le_of_ble_eq_true rfl) (Nat.le_of_ble_eq_true rfl) (Or.inl ⟨rfl, hT⟩)
