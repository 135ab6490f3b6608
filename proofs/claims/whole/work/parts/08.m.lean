set_option maxHeartbeats 4000000 in
set_option maxRecDepth 100000 in
theorem c_X3_make {l : Launch} {D : va_G} {cI cL cR : ClassId} {ad : Nat → Nat} {f : St} {t : Int32} {x y z : Int32} {n : Nat} (hn : f 7 0 = nI n) (hn24 : n ≤ 24) : ctI l D vwCl (tyW cI cL cR) yX3_make wsX3_make { frames := 1, cells := 0, slots := 0, locals := 23 } [.ref (ad 0), .int x, .int y, .int z] (wM cI ad f t) (fun r u => (¬ tMake f x y z = 0 → u = wM cI ad f (tMake f x y z)) ∧ (tMake f x y z = 0 → n < 24 ∧ r = nI n ∧ u = wM cI ad (up2 (up2 (up2 (up2 (up2 (up2 f 0 n x) 1 n y) 2 n z) 4 n (20 * z)) 5 n (-1)) 7 0 (nI (n + 1))) 0)) 0 0 := by
  refine ctI_of (cc := cX3_make) (maxL := 4) (ret := (some .int)) (by decide) rfl rfl (Nat.le_of_ble_eq_true rfl) (by simp [Value.category]) [(0, .ref (ad 0)), (1, .int x), (2, .int y), (3, .int z)] rfl ?_
  intro p e s m args below meth c sz h hrt hlk hnm
  have hin3 : ∀ x ∈ wsX30, x ∈ wsX3_make := by decide +kernel
  refine j_aload_nR h dX3_make_0 rfl ?_
  refine jj_cut 34 [(0, .ref (ad 0)), (1, .int x), (2, .int y), (3, .int z)] [.ref (ad 0)] (fun v => v = bi (inB x 4 12 && inB y 0 3 && inB z 1 4)) (fun v34 hv34 => ?_) (fun cut34 => ?_)
  · -- behind
    obtain rfl := hv34
    refine j_aload_nR h dX3_make_34 rfl ?_
    refine jj_cut 48 [(0, .ref (ad 0)), (1, .int x), (2, .int y), (3, .int z)] [.int (bi (inB x 4 12 && inB y 0 3 && inB z 1 4)), .ref (ad 0)] (fun v => v = bi (decide (f 7 0 < 24))) (fun v48 hv48 => ?_) (fun cut48 => ?_)
    · -- behind
      obtain rfl := hv48
      refine j_iconst (v := 1) h dX3_make_48 (by decide) ?_
      refine j_callVI (vc := (RX3, TX3, 22)) h dX3_make_49 (c_X3_goes) (cwV 3 h.2.2.2.2.1 gX3_make_X3_goes rfl rfl rfl (by decide +kernel) ⟨Nat.le_of_ble_eq_true rfl, Nat.le_of_ble_eq_true rfl⟩) 0 rfl rfl rfl rfl (Nat.le_of_ble_eq_true rfl) ⟨Nat.le_of_ble_eq_true rfl, Nat.le_of_ble_eq_true rfl⟩ (fun r49 u49 hu49 => ?_)
      obtain ⟨rfl, rfl⟩ := hu49
      refine j_if_ne (tgt := 57) h dX3_make_52 (by decide) (fun c52 => ?_) (fun c52 => ?_)
      · -- t
        have hT : tMake f x y z = 0 := of_decide_eq_true (bi_n0.mp c52)
        obtain ⟨hA, hB⟩ := gl_2.mp hT
        have hn2 : n < 24 := by rw [hn] at hB; exact (nI_ltI (by omega) (by decide)).mp (of_decide_eq_true hB)
        refine j_aload_nR h dX3_make_57 rfl ?_
        refine m_get0 h hin3 (by decide +kernel) dX3_make_58 ?_
        refine j_aload_nR h dX3_make_61 rfl ?_
        refine m_get7 h hin3 (by decide +kernel) dX3_make_62 ?_
        refine j_iload_n h dX3_make_65 rfl ?_
        refine m_ast0 h dX3_make_66 hn (by omega) ?_
        refine j_aload_nR h dX3_make_67 rfl ?_
        refine m_get1 h hin3 (by decide +kernel) dX3_make_68 ?_
        refine j_aload_nR h dX3_make_71 rfl ?_
        refine m_get7 h hin3 (by decide +kernel) dX3_make_72 ?_
        refine j_iload_n h dX3_make_75 rfl ?_
        refine m_ast1 h dX3_make_76 hn (by omega) ?_
        refine j_aload_nR h dX3_make_77 rfl ?_
        refine m_get2 h hin3 (by decide +kernel) dX3_make_78 ?_
        refine j_aload_nR h dX3_make_81 rfl ?_
        refine m_get7 h hin3 (by decide +kernel) dX3_make_82 ?_
        refine j_iload_n h dX3_make_85 rfl ?_
        refine m_ast2 h dX3_make_86 hn (by omega) ?_
        refine j_aload_nR h dX3_make_87 rfl ?_
        refine m_get4 h hin3 (by decide +kernel) dX3_make_88 ?_
        refine j_aload_nR h dX3_make_91 rfl ?_
        refine m_get7 h hin3 (by decide +kernel) dX3_make_92 ?_
        refine j_bipush (v := 20) h dX3_make_95 (by decide) ?_
        refine j_iload_n h dX3_make_97 rfl ?_
        refine j_imul h dX3_make_98 ?_
        refine m_ast4 h dX3_make_99 hn (by omega) ?_
        refine j_aload_nR h dX3_make_100 rfl ?_
        refine m_get5 h hin3 (by decide +kernel) dX3_make_101 ?_
        refine j_aload_nR h dX3_make_104 rfl ?_
        refine m_get7 h hin3 (by decide +kernel) dX3_make_105 ?_
        refine j_iconst (v := (-1)) h dX3_make_108 (by decide) ?_
        refine m_ast5 h dX3_make_109 hn (by omega) ?_
        refine j_aload_nR h dX3_make_110 rfl ?_
        refine j_dup h dX3_make_111 rfl ?_
        refine m_get7 h hin3 (by decide +kernel) dX3_make_112 ?_
        refine j_iconst (v := 1) h dX3_make_115 (by decide) ?_
        refine j_iadd h dX3_make_116 ?_
        refine m_put7 h hin3 (by decide +kernel) dX3_make_117 ?_
        refine j_aload_nR h dX3_make_120 rfl ?_
        refine m_get7 h hin3 (by decide +kernel) dX3_make_121 ?_
        refine j_iconst (v := 1) h dX3_make_124 (by decide) ?_
        refine j_isub h dX3_make_125 ?_
        exact j_iret h hrt hlk dX3_make_126 (by decide) (by decide) (⟨fun z => absurd hT z, fun _ => ⟨hn2, by show f 7 0 + 1 - 1 = nI n; rw [hn]; exact pk_addsub _ _, by rw [← nI_1, ← hn]; exact congrArg (wM cI ad _) hT⟩⟩)
      · -- f
        have hT : ¬ tMake f x y z = 0 := of_decide_eq_false (bi_0.mp c52)
        refine j_iconst (v := 0) h dX3_make_55 (by decide) ?_
        exact j_iret h hrt hlk dX3_make_56 (by decide) (by decide) (⟨fun _ => rfl, fun z => absurd z hT⟩)
    · -- ahead
      refine m_get7 h hin3 (by decide +kernel) dX3_make_35 ?_
      refine j_bipush (v := 24) h dX3_make_38 (by decide) ?_
      refine j_icmp_ge (tgt := 47) h dX3_make_40 (by decide) (fun c40 => ?_) (fun c40 => ?_)
      · -- t
        refine j_iconst (v := 0) h dX3_make_47 (by decide) ?_
        exact cut48 _ (by simp_all [bi, ← Int32.not_le]) _ ⟨rfl, rfl, rfl, rfl, trivial⟩
      · -- f
        refine j_iconst (v := 1) h dX3_make_43 (by decide) ?_
        refine j_goto (tgt := 48) h dX3_make_44 (by decide) ?_
        exact cut48 _ (by simp_all [bi, ← Int32.not_le]) _ ⟨rfl, rfl, rfl, rfl, trivial⟩
  · -- ahead
    refine j_iload_n h dX3_make_1 rfl ?_
    refine j_iconst (v := 4) h dX3_make_2 (by decide) ?_
    refine j_bipush (v := 12) h dX3_make_3 (by decide) ?_
    refine j_callSI h dX3_make_5 (c_X3_in) (va_cwS 3 h.2.2.2.2.1 gX3_make_X3_in rfl rfl rfl (by decide +kernel) ⟨Nat.le_of_ble_eq_true rfl, Nat.le_of_ble_eq_true rfl⟩) rfl rfl (Nat.le_of_ble_eq_true rfl) ⟨Nat.le_of_ble_eq_true rfl, Nat.le_of_ble_eq_true rfl⟩ (fun r5 u5 hu5 => ?_)
    obtain ⟨rfl, rfl⟩ := hu5
    refine j_if_eq (tgt := 33) h dX3_make_8 (by decide) (fun c8 => ?_) (fun c8 => ?_)
    · -- t
      refine j_iconst (v := 0) h dX3_make_33 (by decide) ?_
      exact cut34 _ (by simp_all [bi]) _ ⟨rfl, rfl, rfl, rfl, trivial⟩
    · -- f
      refine j_iload_n h dX3_make_11 rfl ?_
      refine j_iconst (v := 0) h dX3_make_12 (by decide) ?_
      refine j_iconst (v := 3) h dX3_make_13 (by decide) ?_
      refine j_callSI h dX3_make_14 (c_X3_in) (va_cwS 3 h.2.2.2.2.1 gX3_make_X3_in rfl rfl rfl (by decide +kernel) ⟨Nat.le_of_ble_eq_true rfl, Nat.le_of_ble_eq_true rfl⟩) rfl rfl (Nat.le_of_ble_eq_true rfl) ⟨Nat.le_of_ble_eq_true rfl, Nat.le_of_ble_eq_true rfl⟩ (fun r14 u14 hu14 => ?_)
      obtain ⟨rfl, rfl⟩ := hu14
      refine j_if_eq (tgt := 33) h dX3_make_17 (by decide) (fun c17 => ?_) (fun c17 => ?_)
      · -- t
        refine j_iconst (v := 0) h dX3_make_33 (by decide) ?_
        exact cut34 _ (by simp_all [bi]) _ ⟨rfl, rfl, rfl, rfl, trivial⟩
      · -- f
        refine j_iload_n h dX3_make_20 rfl ?_
        refine j_iconst (v := 1) h dX3_make_21 (by decide) ?_
        refine j_iconst (v := 4) h dX3_make_22 (by decide) ?_
        refine j_callSI h dX3_make_23 (c_X3_in) (va_cwS 3 h.2.2.2.2.1 gX3_make_X3_in rfl rfl rfl (by decide +kernel) ⟨Nat.le_of_ble_eq_true rfl, Nat.le_of_ble_eq_true rfl⟩) rfl rfl (Nat.le_of_ble_eq_true rfl) ⟨Nat.le_of_ble_eq_true rfl, Nat.le_of_ble_eq_true rfl⟩ (fun r23 u23 hu23 => ?_)
        obtain ⟨rfl, rfl⟩ := hu23
        refine j_if_eq (tgt := 33) h dX3_make_26 (by decide) (fun c26 => ?_) (fun c26 => ?_)
        · -- t
          refine j_iconst (v := 0) h dX3_make_33 (by decide) ?_
          exact cut34 _ (by simp_all [bi]) _ ⟨rfl, rfl, rfl, rfl, trivial⟩
        · -- f
          refine j_iconst (v := 1) h dX3_make_29 (by decide) ?_
          refine j_goto (tgt := 34) h dX3_make_30 (by decide) ?_
          exact cut34 _ (by simp_all [bi]) _ ⟨rfl, rfl, rfl, rfl, trivial⟩
set_option maxHeartbeats 4000000 in
set_option maxRecDepth 100000 in
theorem c_X3_build {l : Launch} {D : va_G} {cI cL cR : ClassId} {ad : Nat → Nat} {f : St} {t : Int32} {x y : Int32} {b : Nat} (hb : f 14 0 = nI b) (hb8 : b ≤ 8) : ctI l D vwCl (tyW cI cL cR) yX3_build wsX3_build { frames := 1, cells := 0, slots := 0, locals := 23 } [.ref (ad 0), .int x, .int y] (wM cI ad f t) (fun r u => (¬ tBuild f x y = 0 → u = wM cI ad f (tBuild f x y)) ∧ (tBuild f x y = 0 → b < 8 ∧ r = nI b ∧ u = wM cI ad (up2 (up2 (up2 f 8 b x) 9 b y) 14 0 (nI (b + 1))) 0)) 0 0 := by
  refine ctI_of (cc := cX3_build) (maxL := 3) (ret := (some .int)) (by decide) rfl rfl (Nat.le_of_ble_eq_true rfl) (by simp [Value.category]) [(0, .ref (ad 0)), (1, .int x), (2, .int y)] rfl ?_
  intro p e s m args below meth c sz h hrt hlk hnm
  have hin3 : ∀ x ∈ wsX30, x ∈ wsX3_build := by decide +kernel
  refine j_aload_nR h dX3_build_0 rfl ?_
  refine jj_cut 28 [(0, .ref (ad 0)), (1, .int x), (2, .int y)] [.ref (ad 0)] (fun v => v = bi (inB x 1 9 && inB y 100 9999)) (fun v28 hv28 => ?_) (fun cut28 => ?_)
  · -- behind
    obtain rfl := hv28
    refine j_aload_nR h dX3_build_28 rfl ?_
    refine jj_cut 42 [(0, .ref (ad 0)), (1, .int x), (2, .int y)] [.int (bi (inB x 1 9 && inB y 100 9999)), .ref (ad 0)] (fun v => v = bi (decide (f 14 0 < 8))) (fun v42 hv42 => ?_) (fun cut42 => ?_)
    · -- behind
      obtain rfl := hv42
      refine j_iconst (v := 1) h dX3_build_42 (by decide) ?_
      refine j_callVI (vc := (RX3, TX3, 22)) h dX3_build_43 (c_X3_goes) (cwV 3 h.2.2.2.2.1 gX3_build_X3_goes rfl rfl rfl (by decide +kernel) ⟨Nat.le_of_ble_eq_true rfl, Nat.le_of_ble_eq_true rfl⟩) 0 rfl rfl rfl rfl (Nat.le_of_ble_eq_true rfl) ⟨Nat.le_of_ble_eq_true rfl, Nat.le_of_ble_eq_true rfl⟩ (fun r43 u43 hu43 => ?_)
      obtain ⟨rfl, rfl⟩ := hu43
      refine j_if_ne (tgt := 51) h dX3_build_46 (by decide) (fun c46 => ?_) (fun c46 => ?_)
      · -- t
        have hT : tBuild f x y = 0 := of_decide_eq_true (bi_n0.mp c46)
        obtain ⟨hA, hB⟩ := gl_2.mp hT
        have hn2 : b < 8 := by rw [hb] at hB; exact (nI_ltI (by omega) (by decide)).mp (of_decide_eq_true hB)
        refine j_aload_nR h dX3_build_51 rfl ?_
        refine m_get8 h hin3 (by decide +kernel) dX3_build_52 ?_
        refine j_aload_nR h dX3_build_55 rfl ?_
        refine m_get14 h hin3 (by decide +kernel) dX3_build_56 ?_
        refine j_iload_n h dX3_build_59 rfl ?_
        refine m_ast8 h dX3_build_60 hb (by omega) ?_
        refine j_aload_nR h dX3_build_61 rfl ?_
        refine m_get9 h hin3 (by decide +kernel) dX3_build_62 ?_
        refine j_aload_nR h dX3_build_65 rfl ?_
        refine m_get14 h hin3 (by decide +kernel) dX3_build_66 ?_
        refine j_iload_n h dX3_build_69 rfl ?_
        refine m_ast9 h dX3_build_70 hb (by omega) ?_
        refine j_aload_nR h dX3_build_71 rfl ?_
        refine j_dup h dX3_build_72 rfl ?_
        refine m_get14 h hin3 (by decide +kernel) dX3_build_73 ?_
        refine j_iconst (v := 1) h dX3_build_76 (by decide) ?_
        refine j_iadd h dX3_build_77 ?_
        refine m_put14 h hin3 (by decide +kernel) dX3_build_78 ?_
        refine j_aload_nR h dX3_build_81 rfl ?_
        refine m_get14 h hin3 (by decide +kernel) dX3_build_82 ?_
        refine j_iconst (v := 1) h dX3_build_85 (by decide) ?_
        refine j_isub h dX3_build_86 ?_
        exact j_iret h hrt hlk dX3_build_87 (by decide) (by decide) (⟨fun z => absurd hT z, fun _ => ⟨hn2, by show f 14 0 + 1 - 1 = nI b; rw [hb]; exact pk_addsub _ _, by rw [← nI_1, ← hb]; exact congrArg (wM cI ad _) hT⟩⟩)
      · -- f
        have hT : ¬ tBuild f x y = 0 := of_decide_eq_false (bi_0.mp c46)
        refine j_iconst (v := 0) h dX3_build_49 (by decide) ?_
        exact j_iret h hrt hlk dX3_build_50 (by decide) (by decide) (⟨fun _ => rfl, fun z => absurd z hT⟩)
    · -- ahead
      refine m_get14 h hin3 (by decide +kernel) dX3_build_29 ?_
      refine j_bipush (v := 8) h dX3_build_32 (by decide) ?_
      refine j_icmp_ge (tgt := 41) h dX3_build_34 (by decide) (fun c34 => ?_) (fun c34 => ?_)
      · -- t
        refine j_iconst (v := 0) h dX3_build_41 (by decide) ?_
        exact cut42 _ (by simp_all [bi, ← Int32.not_le]) _ ⟨rfl, rfl, rfl, trivial⟩
      · -- f
        refine j_iconst (v := 1) h dX3_build_37 (by decide) ?_
        refine j_goto (tgt := 42) h dX3_build_38 (by decide) ?_
        exact cut42 _ (by simp_all [bi, ← Int32.not_le]) _ ⟨rfl, rfl, rfl, trivial⟩
  · -- ahead
    refine j_iload_n h dX3_build_1 rfl ?_
    refine j_iconst (v := 1) h dX3_build_2 (by decide) ?_
    refine j_bipush (v := 9) h dX3_build_3 (by decide) ?_
    refine j_callSI h dX3_build_5 (c_X3_in) (va_cwS 3 h.2.2.2.2.1 gX3_build_X3_in rfl rfl rfl (by decide +kernel) ⟨Nat.le_of_ble_eq_true rfl, Nat.le_of_ble_eq_true rfl⟩) rfl rfl (Nat.le_of_ble_eq_true rfl) ⟨Nat.le_of_ble_eq_true rfl, Nat.le_of_ble_eq_true rfl⟩ (fun r5 u5 hu5 => ?_)
    obtain ⟨rfl, rfl⟩ := hu5
    refine j_if_eq (tgt := 27) h dX3_build_8 (by decide) (fun c8 => ?_) (fun c8 => ?_)
    · -- t
      refine j_iconst (v := 0) h dX3_build_27 (by decide) ?_
      exact cut28 _ (by simp_all [bi]) _ ⟨rfl, rfl, rfl, trivial⟩
    · -- f
      refine j_iload_n h dX3_build_11 rfl ?_
      refine j_bipush (v := 100) h dX3_build_12 (by decide) ?_
      refine j_sipush (v := 9999) h dX3_build_14 (by decide) ?_
      refine j_callSI h dX3_build_17 (c_X3_in) (va_cwS 3 h.2.2.2.2.1 gX3_build_X3_in rfl rfl rfl (by decide +kernel) ⟨Nat.le_of_ble_eq_true rfl, Nat.le_of_ble_eq_true rfl⟩) rfl rfl (Nat.le_of_ble_eq_true rfl) ⟨Nat.le_of_ble_eq_true rfl, Nat.le_of_ble_eq_true rfl⟩ (fun r17 u17 hu17 => ?_)
      obtain ⟨rfl, rfl⟩ := hu17
      refine j_if_eq (tgt := 27) h dX3_build_20 (by decide) (fun c20 => ?_) (fun c20 => ?_)
      · -- t
        refine j_iconst (v := 0) h dX3_build_27 (by decide) ?_
        exact cut28 _ (by simp_all [bi]) _ ⟨rfl, rfl, rfl, trivial⟩
      · -- f
        refine j_iconst (v := 1) h dX3_build_23 (by decide) ?_
        refine j_goto (tgt := 28) h dX3_build_24 (by decide) ?_
        exact cut28 _ (by simp_all [bi]) _ ⟨rfl, rfl, rfl, trivial⟩
set_option maxHeartbeats 4000000 in
set_option maxRecDepth 100000 in
theorem c_X3_setRules {l : Launch} {D : va_G} {cI cL cR : ClassId} {ad : Nat → Nat} {f : St} {t : Int32} {x y : Int32}  : ctI l D vwCl (tyW cI cL cR) yX3_setRules wsX3_setRules { frames := 1, cells := 0, slots := 0, locals := 23 } [.ref (ad 0), .int x, .int y] (wM cI ad f t) (fun r u => (¬ tRules x y = 0 → u = wM cI ad f (tRules x y)) ∧ (tRules x y = 0 → r = f 15 0 ∧ u = wM cI ad (up2 (up2 f 15 0 x) 16 0 y) 0)) 0 0 := by
  refine ctI_of (cc := cX3_setRules) (maxL := 4) (ret := (some .int)) (by decide) rfl rfl (Nat.le_of_ble_eq_true rfl) (by simp [Value.category]) [(0, .ref (ad 0)), (1, .int x), (2, .int y)] rfl ?_
  intro p e s m args below meth c sz h hrt hlk hnm
  have hin3 : ∀ x ∈ wsX30, x ∈ wsX3_setRules := by decide +kernel
  refine j_aload_nR h dX3_setRules_0 rfl ?_
  refine jj_cut 26 [(0, .ref (ad 0)), (1, .int x), (2, .int y)] [.ref (ad 0)] (fun v => v = bi (inB x 1 20 && inB y 0 9)) (fun v26 hv26 => ?_) (fun cut26 => ?_)
  · -- behind
    obtain rfl := hv26
    refine j_iconst (v := 1) h dX3_setRules_26 (by decide) ?_
    refine j_iconst (v := 1) h dX3_setRules_27 (by decide) ?_
    refine j_callVI (vc := (RX3, TX3, 22)) h dX3_setRules_28 (c_X3_goes) (cwV 3 h.2.2.2.2.1 gX3_setRules_X3_goes rfl rfl rfl (by decide +kernel) ⟨Nat.le_of_ble_eq_true rfl, Nat.le_of_ble_eq_true rfl⟩) 0 rfl rfl rfl rfl (Nat.le_of_ble_eq_true rfl) ⟨Nat.le_of_ble_eq_true rfl, Nat.le_of_ble_eq_true rfl⟩ (fun r28 u28 hu28 => ?_)
    obtain ⟨rfl, rfl⟩ := hu28
    refine j_if_ne (tgt := 36) h dX3_setRules_31 (by decide) (fun c31 => ?_) (fun c31 => ?_)
    · -- t
      have hT : tRules x y = 0 := of_decide_eq_true (bi_n0.mp c31)
      refine j_aload_nR h dX3_setRules_36 rfl ?_
      refine m_get15 h hin3 (by decide +kernel) dX3_setRules_37 ?_
      refine j_istore_n (i := 3) h dX3_setRules_40 rfl (by decide) ?_
      refine j_aload_nR h dX3_setRules_41 rfl ?_
      refine j_iload_n h dX3_setRules_42 rfl ?_
      refine m_put15 h hin3 (by decide +kernel) dX3_setRules_43 ?_
      refine j_aload_nR h dX3_setRules_46 rfl ?_
      refine j_iload_n h dX3_setRules_47 rfl ?_
      refine m_put16 h hin3 (by decide +kernel) dX3_setRules_48 ?_
      refine j_iload_n h dX3_setRules_51 rfl ?_
      exact j_iret h hrt hlk dX3_setRules_52 (by decide) (by decide) (⟨fun z => absurd hT z, fun _ => ⟨rfl, congrArg (wM cI ad _) hT⟩⟩)
    · -- f
      have hT : ¬ tRules x y = 0 := of_decide_eq_false (bi_0.mp c31)
      refine j_iconst (v := 0) h dX3_setRules_34 (by decide) ?_
      exact j_iret h hrt hlk dX3_setRules_35 (by decide) (by decide) (⟨fun _ => rfl, fun z => absurd z hT⟩)
  · -- ahead
    refine j_iload_n h dX3_setRules_1 rfl ?_
    refine j_iconst (v := 1) h dX3_setRules_2 (by decide) ?_
    refine j_bipush (v := 20) h dX3_setRules_3 (by decide) ?_
    refine j_callSI h dX3_setRules_5 (c_X3_in) (va_cwS 3 h.2.2.2.2.1 gX3_setRules_X3_in rfl rfl rfl (by decide +kernel) ⟨Nat.le_of_ble_eq_true rfl, Nat.le_of_ble_eq_true rfl⟩) rfl rfl (Nat.le_of_ble_eq_true rfl) ⟨Nat.le_of_ble_eq_true rfl, Nat.le_of_ble_eq_true rfl⟩ (fun r5 u5 hu5 => ?_)
    obtain ⟨rfl, rfl⟩ := hu5
    refine j_if_eq (tgt := 25) h dX3_setRules_8 (by decide) (fun c8 => ?_) (fun c8 => ?_)
    · -- t
      refine j_iconst (v := 0) h dX3_setRules_25 (by decide) ?_
      exact cut26 _ (by simp_all [bi]) _ ⟨rfl, rfl, rfl, trivial⟩
    · -- f
      refine j_iload_n h dX3_setRules_11 rfl ?_
      refine j_iconst (v := 0) h dX3_setRules_12 (by decide) ?_
      refine j_bipush (v := 9) h dX3_setRules_13 (by decide) ?_
      refine j_callSI h dX3_setRules_15 (c_X3_in) (va_cwS 3 h.2.2.2.2.1 gX3_setRules_X3_in rfl rfl rfl (by decide +kernel) ⟨Nat.le_of_ble_eq_true rfl, Nat.le_of_ble_eq_true rfl⟩) rfl rfl (Nat.le_of_ble_eq_true rfl) ⟨Nat.le_of_ble_eq_true rfl, Nat.le_of_ble_eq_true rfl⟩ (fun r15 u15 hu15 => ?_)
      obtain ⟨rfl, rfl⟩ := hu15
      refine j_if_eq (tgt := 25) h dX3_setRules_18 (by decide) (fun c18 => ?_) (fun c18 => ?_)
      · -- t
        refine j_iconst (v := 0) h dX3_setRules_25 (by decide) ?_
        exact cut26 _ (by simp_all [bi]) _ ⟨rfl, rfl, rfl, trivial⟩
      · -- f
        refine j_iconst (v := 1) h dX3_setRules_21 (by decide) ?_
        refine j_goto (tgt := 26) h dX3_setRules_22 (by decide) ?_
        exact cut26 _ (by simp_all [bi]) _ ⟨rfl, rfl, rfl, trivial⟩
set_option maxHeartbeats 4000000 in
set_option maxRecDepth 100000 in
theorem c_X3_setGust {l : Launch} {D : va_G} {cI cL cR : ClassId} {ad : Nat → Nat} {f : St} {t : Int32} {x y : Int32}  : ctI l D vwCl (tyW cI cL cR) yX3_setGust wsX3_setGust { frames := 1, cells := 0, slots := 0, locals := 23 } [.ref (ad 0), .int x, .int y] (wM cI ad f t) (fun r u => (¬ tGust x y = 0 → u = wM cI ad f (tGust x y)) ∧ (tGust x y = 0 → ∃ a, a < 401 ∧ x = nI a ∧ 1 ≤ a ∧ r = f 17 a ∧ u = wM cI ad (up2 f 17 a y) 0)) 0 0 := by
  refine ctI_of (cc := cX3_setGust) (maxL := 4) (ret := (some .int)) (by decide) rfl rfl (Nat.le_of_ble_eq_true rfl) (by simp [Value.category]) [(0, .ref (ad 0)), (1, .int x), (2, .int y)] rfl ?_
  intro p e s m args below meth c sz h hrt hlk hnm
  have hin3 : ∀ x ∈ wsX30, x ∈ wsX3_setGust := by decide +kernel
  refine j_aload_nR h dX3_setGust_0 rfl ?_
  refine jj_cut 27 [(0, .ref (ad 0)), (1, .int x), (2, .int y)] [.ref (ad 0)] (fun v => v = bi (inB x 1 400 && inB y 0 9)) (fun v27 hv27 => ?_) (fun cut27 => ?_)
  · -- behind
    obtain rfl := hv27
    refine j_iconst (v := 1) h dX3_setGust_27 (by decide) ?_
    refine j_iconst (v := 1) h dX3_setGust_28 (by decide) ?_
    refine j_callVI (vc := (RX3, TX3, 22)) h dX3_setGust_29 (c_X3_goes) (cwV 3 h.2.2.2.2.1 gX3_setGust_X3_goes rfl rfl rfl (by decide +kernel) ⟨Nat.le_of_ble_eq_true rfl, Nat.le_of_ble_eq_true rfl⟩) 0 rfl rfl rfl rfl (Nat.le_of_ble_eq_true rfl) ⟨Nat.le_of_ble_eq_true rfl, Nat.le_of_ble_eq_true rfl⟩ (fun r29 u29 hu29 => ?_)
    obtain ⟨rfl, rfl⟩ := hu29
    refine j_if_ne (tgt := 37) h dX3_setGust_32 (by decide) (fun c32 => ?_) (fun c32 => ?_)
    · -- t
      have hT : tGust x y = 0 := of_decide_eq_true (bi_n0.mp c32)
      have hA : inB x 1 400 = true := by have z := gl_1.mp hT; simp only [Bool.and_eq_true] at z; exact z.1
      obtain ⟨a, ha1, ha, rfl⟩ := inB_1 (m := 400) (by decide) hA
      refine j_aload_nR h dX3_setGust_37 rfl ?_
      refine m_get17 h hin3 (by decide +kernel) dX3_setGust_38 ?_
      refine j_iload_n h dX3_setGust_41 rfl ?_
      refine m_ald17 h dX3_setGust_42 rfl (by omega) ?_
      refine j_istore_n (i := 3) h dX3_setGust_43 rfl (by decide) ?_
      refine j_aload_nR h dX3_setGust_44 rfl ?_
      refine m_get17 h hin3 (by decide +kernel) dX3_setGust_45 ?_
      refine j_iload_n h dX3_setGust_48 rfl ?_
      refine j_iload_n h dX3_setGust_49 rfl ?_
      refine m_ast17 h dX3_setGust_50 rfl (by omega) ?_
      refine j_iload_n h dX3_setGust_51 rfl ?_
      exact j_iret h hrt hlk dX3_setGust_52 (by decide) (by decide) (⟨fun z => absurd hT z, fun _ => ⟨a, by omega, rfl, ha1, rfl, congrArg (wM cI ad _) hT⟩⟩)
    · -- f
      have hT : ¬ tGust x y = 0 := of_decide_eq_false (bi_0.mp c32)
      refine j_iconst (v := 0) h dX3_setGust_35 (by decide) ?_
      exact j_iret h hrt hlk dX3_setGust_36 (by decide) (by decide) (⟨fun _ => rfl, fun z => absurd z hT⟩)
  · -- ahead
    refine j_iload_n h dX3_setGust_1 rfl ?_
    refine j_iconst (v := 1) h dX3_setGust_2 (by decide) ?_
    refine j_sipush (v := 400) h dX3_setGust_3 (by decide) ?_
    refine j_callSI h dX3_setGust_6 (c_X3_in) (va_cwS 3 h.2.2.2.2.1 gX3_setGust_X3_in rfl rfl rfl (by decide +kernel) ⟨Nat.le_of_ble_eq_true rfl, Nat.le_of_ble_eq_true rfl⟩) rfl rfl (Nat.le_of_ble_eq_true rfl) ⟨Nat.le_of_ble_eq_true rfl, Nat.le_of_ble_eq_true rfl⟩ (fun r6 u6 hu6 => ?_)
    obtain ⟨rfl, rfl⟩ := hu6
    refine j_if_eq (tgt := 26) h dX3_setGust_9 (by decide) (fun c9 => ?_) (fun c9 => ?_)
    · -- t
      refine j_iconst (v := 0) h dX3_setGust_26 (by decide) ?_
      exact cut27 _ (by simp_all [bi]) _ ⟨rfl, rfl, rfl, trivial⟩
    · -- f
      refine j_iload_n h dX3_setGust_12 rfl ?_
      refine j_iconst (v := 0) h dX3_setGust_13 (by decide) ?_
      refine j_bipush (v := 9) h dX3_setGust_14 (by decide) ?_
      refine j_callSI h dX3_setGust_16 (c_X3_in) (va_cwS 3 h.2.2.2.2.1 gX3_setGust_X3_in rfl rfl rfl (by decide +kernel) ⟨Nat.le_of_ble_eq_true rfl, Nat.le_of_ble_eq_true rfl⟩) rfl rfl (Nat.le_of_ble_eq_true rfl) ⟨Nat.le_of_ble_eq_true rfl, Nat.le_of_ble_eq_true rfl⟩ (fun r16 u16 hu16 => ?_)
      obtain ⟨rfl, rfl⟩ := hu16
      refine j_if_eq (tgt := 26) h dX3_setGust_19 (by decide) (fun c19 => ?_) (fun c19 => ?_)
      · -- t
        refine j_iconst (v := 0) h dX3_setGust_26 (by decide) ?_
        exact cut27 _ (by simp_all [bi]) _ ⟨rfl, rfl, rfl, trivial⟩
      · -- f
        refine j_iconst (v := 1) h dX3_setGust_22 (by decide) ?_
        refine j_goto (tgt := 27) h dX3_setGust_23 (by decide) ?_
        exact cut27 _ (by simp_all [bi]) _ ⟨rfl, rfl, rfl, trivial⟩
set_option maxHeartbeats 4000000 in
set_option maxRecDepth 100000 in
theorem c_X3_takeDown {l : Launch} {D : va_G} {cI cL cR : ClassId} {ad : Nat → Nat} {f : St} {t : Int32} {x : Int32} {n : Nat} (hn : f 7 0 = nI n) (hn24 : n ≤ 24) : ctI l D vwCl (tyW cI cL cR) yX3_takeDown wsX3_takeDown { frames := 2, cells := 0, slots := 0, locals := 43 } [.ref (ad 0), .int x] (wM cI ad f t) (fun r u => (¬ tTake f x = 0 → u = wM cI ad f (tTake f x)) ∧ (tTake f x = 0 → ∃ a, a < n ∧ x = nI a ∧ r = f 5 a ∧ u = wM cI ad (dkF (up2 f 5 a (-1)) a) 0)) 0 0 := by
  refine ctI_of (cc := cX3_takeDown) (maxL := 4) (ret := (some .int)) (by decide) rfl rfl (Nat.le_of_ble_eq_true rfl) (by simp [Value.category]) [(0, .ref (ad 0)), (1, .int x)] rfl ?_
  intro p e s m args below meth c sz h hrt hlk hnm
  have hin3 : ∀ x ∈ wsX30, x ∈ wsX3_takeDown := by decide +kernel
  refine j_aload_nR h dX3_takeDown_0 rfl ?_
  refine j_iload_n h dX3_takeDown_1 rfl ?_
  refine j_callVI (vc := (RX3, TX3, 22)) h dX3_takeDown_2 (c_X3_isLantern) (cwV 1 h.2.2.2.2.1 gX3_takeDown_X3_isLantern rfl rfl rfl (by decide +kernel) ⟨Nat.le_of_ble_eq_true rfl, Nat.le_of_ble_eq_true rfl⟩) 0 rfl rfl rfl rfl (Nat.le_of_ble_eq_true rfl) ⟨Nat.le_of_ble_eq_true rfl, Nat.le_of_ble_eq_true rfl⟩ (fun r2 u2 hu2 => ?_)
  obtain ⟨rfl, rfl⟩ := hu2
  refine j_istore_n (i := 2) h dX3_takeDown_5 rfl (by decide) ?_
  refine j_aload_nR h dX3_takeDown_6 rfl ?_
  refine j_iload_n h dX3_takeDown_7 rfl ?_
  refine jj_cut 27 [(0, .ref (ad 0)), (1, .int x), (2, .int (bi (isL f x)))] [.int (bi (isL f x)), .ref (ad 0)] (fun v => v = bi (isL f x && decide (f 5 x.toNatClampNeg ≠ -1))) (fun v27 hv27 => ?_) (fun cut27 => ?_)
  · -- behind
    obtain rfl := hv27
    refine j_iconst (v := 1) h dX3_takeDown_27 (by decide) ?_
    refine j_callVI (vc := (RX3, TX3, 22)) h dX3_takeDown_28 (c_X3_goes) (cwV 3 h.2.2.2.2.1 gX3_takeDown_X3_goes rfl rfl rfl (by decide +kernel) ⟨Nat.le_of_ble_eq_true rfl, Nat.le_of_ble_eq_true rfl⟩) 0 rfl rfl rfl rfl (Nat.le_of_ble_eq_true rfl) ⟨Nat.le_of_ble_eq_true rfl, Nat.le_of_ble_eq_true rfl⟩ (fun r28 u28 hu28 => ?_)
    obtain ⟨rfl, rfl⟩ := hu28
    refine j_if_ne (tgt := 36) h dX3_takeDown_31 (by decide) (fun c31 => ?_) (fun c31 => ?_)
    · -- t
      have hT : tTake f x = 0 := of_decide_eq_true (bi_n0.mp c31)
      obtain ⟨hL, hB⟩ := gl_2.mp hT
      obtain ⟨a, ha, rfl⟩ := inB_ix (n := n) (by omega) (by rw [← hn]; exact hL)
      have hac : (nI a).toNatClampNeg = a := nI_clamp (by omega)
      refine j_aload_nR h dX3_takeDown_36 rfl ?_
      refine m_get5 h hin3 (by decide +kernel) dX3_takeDown_37 ?_
      refine j_iload_n h dX3_takeDown_40 rfl ?_
      refine m_ald5 h dX3_takeDown_41 rfl (by omega) ?_
      refine j_istore_n (i := 3) h dX3_takeDown_42 rfl (by decide) ?_
      refine j_aload_nR h dX3_takeDown_43 rfl ?_
      refine m_get5 h hin3 (by decide +kernel) dX3_takeDown_44 ?_
      refine j_iload_n h dX3_takeDown_47 rfl ?_
      refine j_iconst (v := (-1)) h dX3_takeDown_48 (by decide) ?_
      refine m_ast5 h dX3_takeDown_49 rfl (by omega) ?_
      refine j_aload_nR h dX3_takeDown_50 rfl ?_
      refine j_iload_n h dX3_takeDown_51 rfl ?_
      refine j_callVV (vc := (RX3, TX3, 22)) h dX3_takeDown_52 (c_X3_darkens (a := a) (by omega)) (cwV 1 h.2.2.2.2.1 gX3_takeDown_X3_darkens rfl rfl rfl (by decide +kernel) ⟨Nat.le_of_ble_eq_true rfl, Nat.le_of_ble_eq_true rfl⟩) 0 rfl rfl rfl rfl (Nat.le_of_ble_eq_true rfl) ⟨Nat.le_of_ble_eq_true rfl, Nat.le_of_ble_eq_true rfl⟩ (fun u52 hu52 => ?_)
      obtain rfl := hu52
      refine j_iload_n h dX3_takeDown_55 rfl ?_
      exact j_iret h hrt hlk dX3_takeDown_56 (by decide) (by decide) (⟨fun z => absurd hT z, fun _ => ⟨a, ha, rfl, rfl, congrArg (wM cI ad _) hT⟩⟩)
    · -- f
      have hT : ¬ tTake f x = 0 := of_decide_eq_false (bi_0.mp c31)
      refine j_iconst (v := 0) h dX3_takeDown_34 (by decide) ?_
      exact j_iret h hrt hlk dX3_takeDown_35 (by decide) (by decide) (⟨fun _ => rfl, fun z => absurd z hT⟩)
  · -- ahead
    refine j_iload_n h dX3_takeDown_8 rfl ?_
    refine j_if_eq (tgt := 26) h dX3_takeDown_9 (by decide) (fun c9 => ?_) (fun c9 => ?_)
    · -- t
      have hL : isL f x = false := bi_0.mp c9
      refine j_iconst (v := 0) h dX3_takeDown_26 (by decide) ?_
      exact cut27 _ (by simp_all [bi]) _ ⟨rfl, rfl, rfl, trivial⟩
    · -- f
      have hL : isL f x = true := bi_n0.mp c9
      obtain ⟨a, ha, rfl⟩ := inB_ix (n := n) (by omega) (by rw [← hn]; exact hL)
      have hac : (nI a).toNatClampNeg = a := nI_clamp (by omega)
      refine j_aload_nR h dX3_takeDown_12 rfl ?_
      refine m_get5 h hin3 (by decide +kernel) dX3_takeDown_13 ?_
      refine j_iload_n h dX3_takeDown_16 rfl ?_
      refine m_ald5 h dX3_takeDown_17 rfl (by omega) ?_
      refine j_iconst (v := (-1)) h dX3_takeDown_18 (by decide) ?_
      refine j_icmp_eq (tgt := 26) h dX3_takeDown_19 (by decide) (fun c19 => ?_) (fun c19 => ?_)
      · -- t
        refine j_iconst (v := 0) h dX3_takeDown_26 (by decide) ?_
        exact cut27 _ (by simp_all [bi]) _ ⟨rfl, rfl, rfl, trivial⟩
      · -- f
        refine j_iconst (v := 1) h dX3_takeDown_22 (by decide) ?_
        refine j_goto (tgt := 27) h dX3_takeDown_23 (by decide) ?_
        exact cut27 _ (by simp_all [bi]) _ ⟨rfl, rfl, rfl, trivial⟩
set_option maxHeartbeats 4000000 in
set_option maxRecDepth 100000 in
theorem c_X3_putOut {l : Launch} {D : va_G} {cI cL cR : ClassId} {ad : Nat → Nat} {f : St} {t : Int32} {x : Int32} {n : Nat} (hn : f 7 0 = nI n) (hn24 : n ≤ 24) : ctI l D vwCl (tyW cI cL cR) yX3_putOut wsX3_putOut { frames := 2, cells := 0, slots := 0, locals := 43 } [.ref (ad 0), .int x] (wM cI ad f t) (fun r u => (¬ tPutOut f x = 0 → u = wM cI ad f (tPutOut f x)) ∧ (tPutOut f x = 0 → ∃ a, a < n ∧ x = nI a ∧ r = f 4 a ∧ u = wM cI ad (up2 f 3 a 0) 0)) 0 0 := by
  refine ctI_of (cc := cX3_putOut) (maxL := 3) (ret := (some .int)) (by decide) rfl rfl (Nat.le_of_ble_eq_true rfl) (by simp [Value.category]) [(0, .ref (ad 0)), (1, .int x)] rfl ?_
  intro p e s m args below meth c sz h hrt hlk hnm
  have hin3 : ∀ x ∈ wsX30, x ∈ wsX3_putOut := by decide +kernel
  refine j_aload_nR h dX3_putOut_0 rfl ?_
  refine j_iload_n h dX3_putOut_1 rfl ?_
  refine j_callVI (vc := (RX3, TX3, 22)) h dX3_putOut_2 (c_X3_isLantern) (cwV 1 h.2.2.2.2.1 gX3_putOut_X3_isLantern rfl rfl rfl (by decide +kernel) ⟨Nat.le_of_ble_eq_true rfl, Nat.le_of_ble_eq_true rfl⟩) 0 rfl rfl rfl rfl (Nat.le_of_ble_eq_true rfl) ⟨Nat.le_of_ble_eq_true rfl, Nat.le_of_ble_eq_true rfl⟩ (fun r2 u2 hu2 => ?_)
  obtain ⟨rfl, rfl⟩ := hu2
  refine j_istore_n (i := 2) h dX3_putOut_5 rfl (by decide) ?_
  refine j_aload_nR h dX3_putOut_6 rfl ?_
  refine j_iload_n h dX3_putOut_7 rfl ?_
  refine jj_cut 27 [(0, .ref (ad 0)), (1, .int x), (2, .int (bi (isL f x)))] [.int (bi (isL f x)), .ref (ad 0)] (fun v => v = bi (isL f x && decide (f 3 x.toNatClampNeg = 1))) (fun v27 hv27 => ?_) (fun cut27 => ?_)
  · -- behind
    obtain rfl := hv27
    refine j_iconst (v := 1) h dX3_putOut_27 (by decide) ?_
    refine j_callVI (vc := (RX3, TX3, 22)) h dX3_putOut_28 (c_X3_goes) (cwV 3 h.2.2.2.2.1 gX3_putOut_X3_goes rfl rfl rfl (by decide +kernel) ⟨Nat.le_of_ble_eq_true rfl, Nat.le_of_ble_eq_true rfl⟩) 0 rfl rfl rfl rfl (Nat.le_of_ble_eq_true rfl) ⟨Nat.le_of_ble_eq_true rfl, Nat.le_of_ble_eq_true rfl⟩ (fun r28 u28 hu28 => ?_)
    obtain ⟨rfl, rfl⟩ := hu28
    refine j_if_ne (tgt := 36) h dX3_putOut_31 (by decide) (fun c31 => ?_) (fun c31 => ?_)
    · -- t
      have hT : tPutOut f x = 0 := of_decide_eq_true (bi_n0.mp c31)
      obtain ⟨hL, hB⟩ := gl_2.mp hT
      obtain ⟨a, ha, rfl⟩ := inB_ix (n := n) (by omega) (by rw [← hn]; exact hL)
      have hac : (nI a).toNatClampNeg = a := nI_clamp (by omega)
      refine j_aload_nR h dX3_putOut_36 rfl ?_
      refine m_get3 h hin3 (by decide +kernel) dX3_putOut_37 ?_
      refine j_iload_n h dX3_putOut_40 rfl ?_
      refine j_iconst (v := 0) h dX3_putOut_41 (by decide) ?_
      refine m_ast3 h dX3_putOut_42 rfl (by omega) ?_
      refine j_aload_nR h dX3_putOut_43 rfl ?_
      refine m_get4 h hin3 (by decide +kernel) dX3_putOut_44 ?_
      refine j_iload_n h dX3_putOut_47 rfl ?_
      refine m_ald4 h dX3_putOut_48 rfl (by omega) ?_
      exact j_iret h hrt hlk dX3_putOut_49 (by decide) (by decide) (⟨fun z => absurd hT z, fun _ => ⟨a, ha, rfl, rfl, congrArg (wM cI ad _) hT⟩⟩)
    · -- f
      have hT : ¬ tPutOut f x = 0 := of_decide_eq_false (bi_0.mp c31)
      refine j_iconst (v := 0) h dX3_putOut_34 (by decide) ?_
      exact j_iret h hrt hlk dX3_putOut_35 (by decide) (by decide) (⟨fun _ => rfl, fun z => absurd z hT⟩)
  · -- ahead
    refine j_iload_n h dX3_putOut_8 rfl ?_
    refine j_if_eq (tgt := 26) h dX3_putOut_9 (by decide) (fun c9 => ?_) (fun c9 => ?_)
    · -- t
      have hL : isL f x = false := bi_0.mp c9
      refine j_iconst (v := 0) h dX3_putOut_26 (by decide) ?_
      exact cut27 _ (by simp_all [bi]) _ ⟨rfl, rfl, rfl, trivial⟩
    · -- f
      have hL : isL f x = true := bi_n0.mp c9
      obtain ⟨a, ha, rfl⟩ := inB_ix (n := n) (by omega) (by rw [← hn]; exact hL)
      have hac : (nI a).toNatClampNeg = a := nI_clamp (by omega)
      refine j_aload_nR h dX3_putOut_12 rfl ?_
      refine m_get3 h hin3 (by decide +kernel) dX3_putOut_13 ?_
      refine j_iload_n h dX3_putOut_16 rfl ?_
      refine m_ald3 h dX3_putOut_17 rfl (by omega) ?_
      refine j_iconst (v := 1) h dX3_putOut_18 (by decide) ?_
      refine j_icmp_ne (tgt := 26) h dX3_putOut_19 (by decide) (fun c19 => ?_) (fun c19 => ?_)
      · -- t
        refine j_iconst (v := 0) h dX3_putOut_26 (by decide) ?_
        exact cut27 _ (by simp_all [bi]) _ ⟨rfl, rfl, rfl, trivial⟩
      · -- f
        refine j_iconst (v := 1) h dX3_putOut_22 (by decide) ?_
        refine j_goto (tgt := 27) h dX3_putOut_23 (by decide) ?_
        exact cut27 _ (by simp_all [bi]) _ ⟨rfl, rfl, rfl, trivial⟩
set_option maxHeartbeats 4000000 in
set_option maxRecDepth 100000 in
theorem c_X3_light {l : Launch} {D : va_G} {cI cL cR : ClassId} {ad : Nat → Nat} {f : St} {t : Int32} {x : Int32} {n : Nat} (hn : f 7 0 = nI n) (hn24 : n ≤ 24) (ho : ∀ k, k < n → f 5 k = -1 ∨ ∃ r, r < 8 ∧ f 5 k = nI r) (hlit : ∀ k, k < n → f 3 k = 1 → ∃ r, r < 8 ∧ f 5 k = nI r) : ctI l D vwCl (tyW cI cL cR) yX3_light wsX3_light { frames := 3, cells := 0, slots := 0, locals := 68 } [.ref (ad 0), .int x] (wM cI ad f t) (fun r u => (¬ tLight f n x = 0 → u = wM cI ad f (tLight f n x)) ∧ (tLight f n x = 0 → ∃ a, a < n ∧ x = nI a ∧ r = f 4 a ∧ u = wM cI ad (up2 f 3 a 1) 0)) 0 0 := by
  refine ctI_of (cc := cX3_light) (maxL := 4) (ret := (some .int)) (by decide) rfl rfl (Nat.le_of_ble_eq_true rfl) (by simp [Value.category]) [(0, .ref (ad 0)), (1, .int x)] rfl ?_
  intro p e s m args below meth c sz h hrt hlk hnm
  have hin3 : ∀ x ∈ wsX30, x ∈ wsX3_light := by decide +kernel
  refine j_aload_nR h dX3_light_0 rfl ?_
  refine j_iload_n h dX3_light_1 rfl ?_
  refine j_callVI (vc := (RX3, TX3, 22)) h dX3_light_2 (c_X3_isLantern) (cwV 1 h.2.2.2.2.1 gX3_light_X3_isLantern rfl rfl rfl (by decide +kernel) ⟨Nat.le_of_ble_eq_true rfl, Nat.le_of_ble_eq_true rfl⟩) 0 rfl rfl rfl rfl (Nat.le_of_ble_eq_true rfl) ⟨Nat.le_of_ble_eq_true rfl, Nat.le_of_ble_eq_true rfl⟩ (fun r2 u2 hu2 => ?_)
  obtain ⟨rfl, rfl⟩ := hu2
  refine j_istore_n (i := 2) h dX3_light_5 rfl (by decide) ?_
  refine jj_cut 44 [(0, .ref (ad 0)), (1, .int x), (2, .int (bi (isL f x)))] [] (fun v => v = bi (isL f x && hpB f x.toNatClampNeg && decide (f 3 x.toNatClampNeg = 0) && !nearB f x.toNatClampNeg n)) (fun v44 hv44 => ?_) (fun cut44 => ?_)
  · -- behind
    obtain rfl := hv44
    refine j_istore_n (i := 3) h dX3_light_44 rfl (by decide) ?_
    refine j_aload_nR h dX3_light_45 rfl ?_
    refine j_iload_n h dX3_light_46 rfl ?_
    refine j_iload_n h dX3_light_47 rfl ?_
    refine j_iconst (v := 1) h dX3_light_48 (by decide) ?_
    refine j_callVI (vc := (RX3, TX3, 22)) h dX3_light_49 (c_X3_goes) (cwV 3 h.2.2.2.2.1 gX3_light_X3_goes rfl rfl rfl (by decide +kernel) ⟨Nat.le_of_ble_eq_true rfl, Nat.le_of_ble_eq_true rfl⟩) 0 rfl rfl rfl rfl (Nat.le_of_ble_eq_true rfl) ⟨Nat.le_of_ble_eq_true rfl, Nat.le_of_ble_eq_true rfl⟩ (fun r49 u49 hu49 => ?_)
    obtain ⟨rfl, rfl⟩ := hu49
    refine j_if_ne (tgt := 57) h dX3_light_52 (by decide) (fun c52 => ?_) (fun c52 => ?_)
    · -- t
      have hT : tLight f n x = 0 := of_decide_eq_true (bi_n0.mp c52)
      obtain ⟨hL, hB⟩ := gl_2.mp hT
      obtain ⟨a, ha, rfl⟩ := inB_ix (n := n) (by omega) (by rw [← hn]; exact hL)
      have hac : (nI a).toNatClampNeg = a := nI_clamp (by omega)
      refine j_aload_nR h dX3_light_57 rfl ?_
      refine m_get3 h hin3 (by decide +kernel) dX3_light_58 ?_
      refine j_iload_n h dX3_light_61 rfl ?_
      refine j_iconst (v := 1) h dX3_light_62 (by decide) ?_
      refine m_ast3 h dX3_light_63 rfl (by omega) ?_
      refine j_aload_nR h dX3_light_64 rfl ?_
      refine m_get4 h hin3 (by decide +kernel) dX3_light_65 ?_
      refine j_iload_n h dX3_light_68 rfl ?_
      refine m_ald4 h dX3_light_69 rfl (by omega) ?_
      exact j_iret h hrt hlk dX3_light_70 (by decide) (by decide) (⟨fun z => absurd hT z, fun _ => ⟨a, ha, rfl, rfl, congrArg (wM cI ad _) hT⟩⟩)
    · -- f
      have hT : ¬ tLight f n x = 0 := of_decide_eq_false (bi_0.mp c52)
      refine j_iconst (v := 0) h dX3_light_55 (by decide) ?_
      exact j_iret h hrt hlk dX3_light_56 (by decide) (by decide) (⟨fun _ => rfl, fun z => absurd z hT⟩)
  · -- ahead
    refine j_iload_n h dX3_light_6 rfl ?_
    refine j_if_eq (tgt := 43) h dX3_light_7 (by decide) (fun c7 => ?_) (fun c7 => ?_)
    · -- t
      have hL : isL f x = false := bi_0.mp c7
      refine j_iconst (v := 0) h dX3_light_43 (by decide) ?_
      exact cut44 _ (by simp_all [bi]) _ ⟨rfl, rfl, by first | rfl | (simp only [isL, hn]; rfl), trivial⟩
    · -- f
      have hL : isL f x = true := bi_n0.mp c7
      obtain ⟨a, ha, rfl⟩ := inB_ix (n := n) (by omega) (by rw [← hn]; exact hL)
      have hac : (nI a).toNatClampNeg = a := nI_clamp (by omega)
      refine j_aload_nR h dX3_light_10 rfl ?_
      refine j_iload_n h dX3_light_11 rfl ?_
      refine j_callVI (vc := (RX3, TX3, 22)) h dX3_light_12 (c_X3_hasPlace (a := a) (by omega) (ho a ha)) (cwV 1 h.2.2.2.2.1 gX3_light_X3_hasPlace rfl rfl rfl (by decide +kernel) ⟨Nat.le_of_ble_eq_true rfl, Nat.le_of_ble_eq_true rfl⟩) 0 rfl rfl rfl rfl (Nat.le_of_ble_eq_true rfl) ⟨Nat.le_of_ble_eq_true rfl, Nat.le_of_ble_eq_true rfl⟩ (fun r12 u12 hu12 => ?_)
      obtain ⟨rfl, rfl⟩ := hu12
      refine j_if_eq (tgt := 43) h dX3_light_15 (by decide) (fun c15 => ?_) (fun c15 => ?_)
      · -- t
        have hp : hpB f a = false := bi_0.mp c15
        refine j_iconst (v := 0) h dX3_light_43 (by decide) ?_
        exact cut44 _ (by simp_all [bi]) _ ⟨rfl, rfl, by first | rfl | (simp only [isL, hn]; rfl), trivial⟩
      · -- f
        have hp : hpB f a = true := bi_n0.mp c15
        obtain ⟨r, hr8, hr⟩ := (ho a ha).resolve_left (by have z := hp; simp only [hpB, Bool.and_eq_true, decide_eq_true_eq] at z; exact z.1)
        refine j_aload_nR h dX3_light_18 rfl ?_
        refine m_get3 h hin3 (by decide +kernel) dX3_light_19 ?_
        refine j_iload_n h dX3_light_22 rfl ?_
        refine m_ald3 h dX3_light_23 rfl (by omega) ?_
        refine j_if_ne (tgt := 43) h dX3_light_24 (by decide) (fun c24 => ?_) (fun c24 => ?_)
        · -- t
          refine j_iconst (v := 0) h dX3_light_43 (by decide) ?_
          exact cut44 _ (by simp_all [bi]) _ ⟨rfl, rfl, by first | rfl | (simp only [isL, hn]; rfl), trivial⟩
        · -- f
          refine j_aload_nR h dX3_light_27 rfl ?_
          refine j_iload_n h dX3_light_28 rfl ?_
          refine j_aload_nR h dX3_light_29 rfl ?_
          refine m_get7 h hin3 (by decide +kernel) dX3_light_30 ?_
          rw [hn]
          refine j_callVI (vc := (RX3, TX3, 22)) h dX3_light_33 (c_X3_isNear (a := a) (B := n) (r := r) (by omega) hn24 hr8 hr hlit) (cwV 2 h.2.2.2.2.1 gX3_light_X3_isNear rfl rfl rfl (by decide +kernel) ⟨Nat.le_of_ble_eq_true rfl, Nat.le_of_ble_eq_true rfl⟩) 0 rfl rfl rfl rfl (Nat.le_of_ble_eq_true rfl) ⟨Nat.le_of_ble_eq_true rfl, Nat.le_of_ble_eq_true rfl⟩ (fun r33 u33 hu33 => ?_)
          obtain ⟨rfl, rfl⟩ := hu33
          refine j_if_ne (tgt := 43) h dX3_light_36 (by decide) (fun c36 => ?_) (fun c36 => ?_)
          · -- t
            refine j_iconst (v := 0) h dX3_light_43 (by decide) ?_
            exact cut44 _ (by simp_all [bi]) _ ⟨rfl, rfl, by first | rfl | (simp only [isL, hn]; rfl), trivial⟩
          · -- f
            refine j_iconst (v := 1) h dX3_light_39 (by decide) ?_
            refine j_goto (tgt := 44) h dX3_light_40 (by decide) ?_
            exact cut44 _ (by simp_all [bi]) _ ⟨rfl, rfl, by first | rfl | (simp only [isL, hn]; rfl), trivial⟩
