set_option maxHeartbeats 4000000 in
set_option maxRecDepth 100000 in
theorem c_X3_launch {l : Launch} {D : va_G} {cI cL cR : ClassId} {ad : Nat → Nat} {f : St} {t : Int32} {x : Int32} {b q : Nat} (hb : f 14 0 = nI b) (hb8 : b ≤ 8) (hq : f 13 0 = nI q) (hq8 : q ≤ 8) (ho : ∀ i, i < q → ∃ r, r < 8 ∧ f 12 i = nI r) (hqb : ∀ a, a < b → f 10 a = 0 → q < 8) : ctI l D vwCl (tyW cI cL cR) yX3_launch wsX3_launch { frames := 2, cells := 0, slots := 0, locals := 43 } [.ref (ad 0), .int x] (wM cI ad f t) (fun r u => (¬ tLaunch f q x = 0 → u = wM cI ad f (tLaunch f q x)) ∧ (tLaunch f q x = 0 → ∃ a, a < b ∧ x = nI a ∧ q < 8 ∧ r = afS (up2 (up2 (up2 (up2 f 10 a 1) 11 a 9) 12 q (nI a)) 13 0 (nI (q + 1))) b ∧ u = wM cI ad (up2 (up2 (up2 (up2 f 10 a 1) 11 a 9) 12 q (nI a)) 13 0 (nI (q + 1))) 0)) 0 0 := by
  refine ctI_of (cc := cX3_launch) (maxL := 5) (ret := (some .int)) (by decide) rfl rfl (Nat.le_of_ble_eq_true rfl) (by simp [Value.category]) [(0, .ref (ad 0)), (1, .int x)] rfl ?_
  intro p e s m args below meth c sz h hrt hlk hnm
  have hin3 : ∀ x ∈ wsX30, x ∈ wsX3_launch := by decide +kernel
  refine j_aload_nR h dX3_launch_0 rfl ?_
  refine j_iload_n h dX3_launch_1 rfl ?_
  refine j_callVI (vc := (RX3, TX3, 22)) h dX3_launch_2 (c_X3_isFloat) (cwV 1 h.2.2.2.2.1 gX3_launch_X3_isFloat rfl rfl rfl (by decide +kernel) ⟨Nat.le_of_ble_eq_true rfl, Nat.le_of_ble_eq_true rfl⟩) 0 rfl rfl rfl rfl (Nat.le_of_ble_eq_true rfl) ⟨Nat.le_of_ble_eq_true rfl, Nat.le_of_ble_eq_true rfl⟩ (fun r2 u2 hu2 => ?_)
  obtain ⟨rfl, rfl⟩ := hu2
  refine j_istore_n (i := 2) h dX3_launch_5 rfl (by decide) ?_
  refine j_aload_nR h dX3_launch_6 rfl ?_
  refine j_callVI (vc := (RX3, TX3, 22)) h dX3_launch_7 (c_X3_rearmost (q := q) hq hq8 ho) (cwV 0 h.2.2.2.2.1 gX3_launch_X3_rearmost rfl rfl rfl (by decide +kernel) ⟨Nat.le_of_ble_eq_true rfl, Nat.le_of_ble_eq_true rfl⟩) 0 rfl rfl rfl rfl (Nat.le_of_ble_eq_true rfl) ⟨Nat.le_of_ble_eq_true rfl, Nat.le_of_ble_eq_true rfl⟩ (fun r7 u7 hu7 => ?_)
  obtain ⟨rfl, rfl⟩ := hu7
  refine j_istore_n (i := 3) h dX3_launch_10 rfl (by decide) ?_
  refine jj_cut 53 [(0, .ref (ad 0)), (1, .int x), (2, .int (bi (isF f x))), (3, .int (rmS f q))] [] (fun v => v = bi (isF f x && decide (f 10 x.toNatClampNeg = 0) && (decide (rmS f q = -1) || decide (9 + f 15 0 ≤ f 11 (rmS f q).toNatClampNeg - 9)))) (fun v53 hv53 => ?_) (fun cut53 => ?_)
  · -- behind
    obtain rfl := hv53
    refine j_istore h dX3_launch_53 (by decide) ?_
    refine j_aload_nR h dX3_launch_55 rfl ?_
    refine j_iload_n h dX3_launch_56 rfl ?_
    refine j_iload h dX3_launch_57 rfl ?_
    refine j_iconst (v := 1) h dX3_launch_59 (by decide) ?_
    refine j_callVI (vc := (RX3, TX3, 22)) h dX3_launch_60 (c_X3_goes) (cwV 3 h.2.2.2.2.1 gX3_launch_X3_goes rfl rfl rfl (by decide +kernel) ⟨Nat.le_of_ble_eq_true rfl, Nat.le_of_ble_eq_true rfl⟩) 0 rfl rfl rfl rfl (Nat.le_of_ble_eq_true rfl) ⟨Nat.le_of_ble_eq_true rfl, Nat.le_of_ble_eq_true rfl⟩ (fun r60 u60 hu60 => ?_)
    obtain ⟨rfl, rfl⟩ := hu60
    refine j_if_ne (tgt := 68) h dX3_launch_63 (by decide) (fun c63 => ?_) (fun c63 => ?_)
    · -- t
      have hT : tLaunch f q x = 0 := of_decide_eq_true (bi_n0.mp c63)
      obtain ⟨hL, hB⟩ := gl_2.mp hT
      obtain ⟨a, ha, rfl⟩ := inB_ix (n := b) (by omega) (by rw [← hb]; exact hL)
      have hac : (nI a).toNatClampNeg = a := nI_clamp (by omega)
      have hq7 : q < 8 := hqb a ha (by simp only [hac, Bool.and_eq_true, decide_eq_true_eq] at hB; exact hB.1.2)
      refine j_aload_nR h dX3_launch_68 rfl ?_
      refine m_get10 h hin3 (by decide +kernel) dX3_launch_69 ?_
      refine j_iload_n h dX3_launch_72 rfl ?_
      refine j_iconst (v := 1) h dX3_launch_73 (by decide) ?_
      refine m_ast10 h dX3_launch_74 rfl (by omega) ?_
      refine j_aload_nR h dX3_launch_75 rfl ?_
      refine m_get11 h hin3 (by decide +kernel) dX3_launch_76 ?_
      refine j_iload_n h dX3_launch_79 rfl ?_
      refine j_bipush (v := 9) h dX3_launch_80 (by decide) ?_
      refine m_ast11 h dX3_launch_82 rfl (by omega) ?_
      refine j_aload_nR h dX3_launch_83 rfl ?_
      refine m_get12 h hin3 (by decide +kernel) dX3_launch_84 ?_
      refine j_aload_nR h dX3_launch_87 rfl ?_
      refine m_get13 h hin3 (by decide +kernel) dX3_launch_88 ?_
      refine j_iload_n h dX3_launch_91 rfl ?_
      refine m_ast12 h dX3_launch_92 hq (by omega) ?_
      refine j_aload_nR h dX3_launch_93 rfl ?_
      refine j_dup h dX3_launch_94 rfl ?_
      refine m_get13 h hin3 (by decide +kernel) dX3_launch_95 ?_
      refine j_iconst (v := 1) h dX3_launch_98 (by decide) ?_
      refine j_iadd h dX3_launch_99 ?_
      refine m_put13 h hin3 (by decide +kernel) dX3_launch_100 ?_
      refine j_aload_nR h dX3_launch_103 rfl ?_
      refine j_callVI (vc := (RX3, TX3, 22)) h dX3_launch_104 (c_X3_afloat (b := b) hb hb8) (cwV 0 h.2.2.2.2.1 gX3_launch_X3_afloat rfl rfl rfl (by decide +kernel) ⟨Nat.le_of_ble_eq_true rfl, Nat.le_of_ble_eq_true rfl⟩) 0 rfl rfl rfl rfl (Nat.le_of_ble_eq_true rfl) ⟨Nat.le_of_ble_eq_true rfl, Nat.le_of_ble_eq_true rfl⟩ (fun r104 u104 hu104 => ?_)
      obtain ⟨rfl, rfl⟩ := hu104
      exact j_iret h hrt hlk dX3_launch_107 (by decide) (by decide) (⟨fun z => absurd hT z, fun _ => ⟨a, ha, rfl, hq7, by rw [← nI_1, ← hq]; rfl, by rw [← nI_1, ← hq]; exact congrArg (wM cI ad _) hT⟩⟩)
    · -- f
      have hT : ¬ tLaunch f q x = 0 := of_decide_eq_false (bi_0.mp c63)
      refine j_iconst (v := 0) h dX3_launch_66 (by decide) ?_
      exact j_iret h hrt hlk dX3_launch_67 (by decide) (by decide) (⟨fun _ => rfl, fun z => absurd z hT⟩)
  · -- ahead
    refine j_iload_n h dX3_launch_11 rfl ?_
    refine j_if_eq (tgt := 52) h dX3_launch_12 (by decide) (fun c12 => ?_) (fun c12 => ?_)
    · -- t
      have hL : isF f x = false := bi_0.mp c12
      refine j_iconst (v := 0) h dX3_launch_52 (by decide) ?_
      exact cut53 _ (by simp_all [bi]) _ ⟨rfl, rfl, rfl, rfl, trivial⟩
    · -- f
      have hL : isF f x = true := bi_n0.mp c12
      obtain ⟨a, ha, rfl⟩ := inB_ix (n := b) (by omega) (by rw [← hb]; exact hL)
      have hac : (nI a).toNatClampNeg = a := nI_clamp (by omega)
      refine j_aload_nR h dX3_launch_15 rfl ?_
      refine m_get10 h hin3 (by decide +kernel) dX3_launch_16 ?_
      refine j_iload_n h dX3_launch_19 rfl ?_
      refine m_ald10 h dX3_launch_20 rfl (by omega) ?_
      refine j_if_ne (tgt := 52) h dX3_launch_21 (by decide) (fun c21 => ?_) (fun c21 => ?_)
      · -- t
        refine j_iconst (v := 0) h dX3_launch_52 (by decide) ?_
        exact cut53 _ (by simp_all [bi]) _ ⟨rfl, rfl, rfl, rfl, trivial⟩
      · -- f
        refine j_iload_n h dX3_launch_24 rfl ?_
        refine j_iconst (v := (-1)) h dX3_launch_25 (by decide) ?_
        refine j_icmp_eq (tgt := 48) h dX3_launch_26 (by decide) (fun c26 => ?_) (fun c26 => ?_)
        · -- t
          refine j_iconst (v := 1) h dX3_launch_48 (by decide) ?_
          refine j_goto (tgt := 53) h dX3_launch_49 (by decide) ?_
          exact cut53 _ (by simp_all [bi]) _ ⟨rfl, rfl, rfl, rfl, trivial⟩
        · -- f
          obtain ⟨rr, hrr8, hrr⟩ := (rmS_in ho).resolve_left c26
          have hrc : (nI rr).toNatClampNeg = rr := nI_clamp (by omega)
          refine j_aload_nR h dX3_launch_29 rfl ?_
          refine m_get11 h hin3 (by decide +kernel) dX3_launch_30 ?_
          refine j_iload_n h dX3_launch_33 rfl ?_
          refine m_ald11 h dX3_launch_34 hrr hrr8 ?_
          refine j_bipush (v := 9) h dX3_launch_35 (by decide) ?_
          refine j_isub h dX3_launch_37 ?_
          refine j_bipush (v := 9) h dX3_launch_38 (by decide) ?_
          refine j_aload_nR h dX3_launch_40 rfl ?_
          refine m_get15 h hin3 (by decide +kernel) dX3_launch_41 ?_
          refine j_iadd h dX3_launch_44 ?_
          refine j_icmp_lt (tgt := 52) h dX3_launch_45 (by decide) (fun c45 => ?_) (fun c45 => ?_)
          · -- t
            rw [← Int32.not_le] at c45
            refine j_iconst (v := 0) h dX3_launch_52 (by decide) ?_
            exact cut53 _ (by simp_all [bi]) _ ⟨rfl, rfl, rfl, rfl, trivial⟩
          · -- f
            rw [Int32.not_lt] at c45
            refine j_iconst (v := 1) h dX3_launch_48 (by decide) ?_
            refine j_goto (tgt := 53) h dX3_launch_49 (by decide) ?_
            exact cut53 _ (by simp_all [bi]) _ ⟨rfl, rfl, rfl, rfl, trivial⟩
set_option maxHeartbeats 4000000 in
set_option maxRecDepth 100000 in
theorem c_X3_hang {l : Launch} {D : va_G} {cI cL cR : ClassId} {ad : Nat → Nat} {f : St} {t : Int32} {x y z : Int32} {n b : Nat} (hn : f 7 0 = nI n) (hn24 : n ≤ 24) (hb : f 14 0 = nI b) (hb8 : b ≤ 8) : ctI l D vwCl (tyW cI cL cR) yX3_hang wsX3_hang { frames := 2, cells := 0, slots := 0, locals := 44 } [.ref (ad 0), .int x, .int y, .int z] (wM cI ad f t) (fun r u => (¬ tHang f n x y z = 0 → u = wM cI ad f (tHang f n x y z)) ∧ (tHang f n x y z = 0 → ∃ a c, a < n ∧ x = nI a ∧ c < b ∧ y = nI c ∧ r = ldS (up2 (up2 f 5 a y) 6 a z) y n ∧ u = wM cI ad (up2 (up2 f 5 a y) 6 a z) 0)) 0 0 := by
  refine ctI_of (cc := cX3_hang) (maxL := 6) (ret := (some .int)) (by decide) rfl rfl (Nat.le_of_ble_eq_true rfl) (by simp [Value.category]) [(0, .ref (ad 0)), (1, .int x), (2, .int y), (3, .int z)] rfl ?_
  intro p e s m args below meth c sz h hrt hlk hnm
  have hin3 : ∀ x ∈ wsX30, x ∈ wsX3_hang := by decide +kernel
  refine jj_cut 31 [(0, .ref (ad 0)), (1, .int x), (2, .int y), (3, .int z)] [] (fun v => v = bi (isL f x && isF f y && inB z 0 9)) (fun v31 hv31 => ?_) (fun cut31 => ?_)
  · -- behind
    obtain rfl := hv31
    refine j_istore h dX3_hang_31 (by decide) ?_
    refine jj_cut 83 [(0, .ref (ad 0)), (1, .int x), (2, .int y), (3, .int z), (4, .int (bi (isL f x && isF f y && inB z 0 9)))] [] (fun v => v = bi (okHang f n x y z)) (fun v83 hv83 => ?_) (fun cut83 => ?_)
    · -- behind
      obtain rfl := hv83
      refine j_istore h dX3_hang_83 (by decide) ?_
      refine j_aload_nR h dX3_hang_85 rfl ?_
      refine j_iload h dX3_hang_86 rfl ?_
      refine jj_cut 107 [(0, .ref (ad 0)), (1, .int x), (2, .int y), (3, .int z), (5, .int (bi (okHang f n x y z)))] [.int (bi (isL f x && isF f y && inB z 0 9)), .ref (ad 0)] (fun v => v = bi ((isL f x && isF f y && inB z 0 9) && !tkB f y z n)) (fun v107 hv107 => ?_) (fun cut107 => ?_)
      · -- behind
        obtain rfl := hv107
        refine j_iload h dX3_hang_107 rfl ?_
        refine j_callVI (vc := (RX3, TX3, 22)) h dX3_hang_109 (c_X3_goes) (cwV 3 h.2.2.2.2.1 gX3_hang_X3_goes rfl rfl rfl (by decide +kernel) ⟨Nat.le_of_ble_eq_true rfl, Nat.le_of_ble_eq_true rfl⟩) 0 rfl rfl rfl rfl (Nat.le_of_ble_eq_true rfl) ⟨Nat.le_of_ble_eq_true rfl, Nat.le_of_ble_eq_true rfl⟩ (fun r109 u109 hu109 => ?_)
        obtain ⟨rfl, rfl⟩ := hu109
        refine j_if_ne (tgt := 117) h dX3_hang_112 (by decide) (fun c112 => ?_) (fun c112 => ?_)
        · -- t
          have hT : tHang f n x y z = 0 := of_decide_eq_true (bi_n0.mp c112)
          obtain ⟨hk, hB, hC⟩ := gl_iff.mp hT
          simp only [Bool.and_eq_true] at hk
          obtain ⟨a, ha, rfl⟩ := inB_ix (n := n) (by omega) (by rw [← hn]; exact hk.1.1)
          obtain ⟨c9, hc9, rfl⟩ := inB_ix (n := b) (by omega) (by rw [← hb]; exact hk.1.2)
          refine j_aload_nR h dX3_hang_117 rfl ?_
          refine m_get5 h hin3 (by decide +kernel) dX3_hang_118 ?_
          refine j_iload_n h dX3_hang_121 rfl ?_
          refine j_iload_n h dX3_hang_122 rfl ?_
          refine m_ast5 h dX3_hang_123 rfl (by omega) ?_
          refine j_aload_nR h dX3_hang_124 rfl ?_
          refine m_get6 h hin3 (by decide +kernel) dX3_hang_125 ?_
          refine j_iload_n h dX3_hang_128 rfl ?_
          refine j_iload_n h dX3_hang_129 rfl ?_
          refine m_ast6 h dX3_hang_130 rfl (by omega) ?_
          refine j_aload_nR h dX3_hang_131 rfl ?_
          refine j_iload_n h dX3_hang_132 rfl ?_
          refine j_callVI (vc := (RX3, TX3, 22)) h dX3_hang_133 (c_X3_loadOf (n := n) hn hn24) (cwV 1 h.2.2.2.2.1 gX3_hang_X3_loadOf rfl rfl rfl (by decide +kernel) ⟨Nat.le_of_ble_eq_true rfl, Nat.le_of_ble_eq_true rfl⟩) 0 rfl rfl rfl rfl (Nat.le_of_ble_eq_true rfl) ⟨Nat.le_of_ble_eq_true rfl, Nat.le_of_ble_eq_true rfl⟩ (fun r133 u133 hu133 => ?_)
          obtain ⟨rfl, rfl⟩ := hu133
          exact j_iret h hrt hlk dX3_hang_136 (by decide) (by decide) (⟨fun z => absurd hT z, fun _ => ⟨a, c9, ha, rfl, hc9, rfl, rfl, congrArg (wM cI ad _) hT⟩⟩)
        · -- f
          have hT : ¬ tHang f n x y z = 0 := of_decide_eq_false (bi_0.mp c112)
          refine j_iconst (v := 0) h dX3_hang_115 (by decide) ?_
          exact j_iret h hrt hlk dX3_hang_116 (by decide) (by decide) (⟨fun _ => rfl, fun z => absurd z hT⟩)
      · -- ahead
        refine j_iload h dX3_hang_88 rfl ?_
        refine j_if_eq (tgt := 106) h dX3_hang_90 (by decide) (fun c90 => ?_) (fun c90 => ?_)
        · -- t
          refine j_iconst (v := 0) h dX3_hang_106 (by decide) ?_
          exact cut107 _ (by simp_all [bi]) _ ⟨rfl, rfl, rfl, rfl, rfl, trivial⟩
        · -- f
          refine j_aload_nR h dX3_hang_93 rfl ?_
          refine j_iload_n h dX3_hang_94 rfl ?_
          refine j_iload_n h dX3_hang_95 rfl ?_
          refine j_callVI (vc := (RX3, TX3, 22)) h dX3_hang_96 (c_X3_isTaken (n := n) hn hn24) (cwV 2 h.2.2.2.2.1 gX3_hang_X3_isTaken rfl rfl rfl (by decide +kernel) ⟨Nat.le_of_ble_eq_true rfl, Nat.le_of_ble_eq_true rfl⟩) 0 rfl rfl rfl rfl (Nat.le_of_ble_eq_true rfl) ⟨Nat.le_of_ble_eq_true rfl, Nat.le_of_ble_eq_true rfl⟩ (fun r96 u96 hu96 => ?_)
          obtain ⟨rfl, rfl⟩ := hu96
          refine j_if_ne (tgt := 106) h dX3_hang_99 (by decide) (fun c99 => ?_) (fun c99 => ?_)
          · -- t
            refine j_iconst (v := 0) h dX3_hang_106 (by decide) ?_
            exact cut107 _ (by simp_all [bi]) _ ⟨rfl, rfl, rfl, rfl, rfl, trivial⟩
          · -- f
            refine j_iconst (v := 1) h dX3_hang_102 (by decide) ?_
            refine j_goto (tgt := 107) h dX3_hang_103 (by decide) ?_
            exact cut107 _ (by simp_all [bi]) _ ⟨rfl, rfl, rfl, rfl, rfl, trivial⟩
    · -- ahead
      refine j_iload h dX3_hang_33 rfl ?_
      refine j_if_eq (tgt := 82) h dX3_hang_35 (by decide) (fun c35 => ?_) (fun c35 => ?_)
      · -- t
        have hk := bi_0.mp c35
        refine j_iconst (v := 0) h dX3_hang_82 (by decide) ?_
        exact cut83 _ (by simp_all [bi, okHang]) _ ⟨rfl, rfl, rfl, rfl, rfl, trivial⟩
      · -- f
        have hk := bi_n0.mp c35
        have hk2 := hk
        simp only [Bool.and_eq_true] at hk2
        obtain ⟨a, ha, rfl⟩ := inB_ix (n := n) (by omega) (by rw [← hn]; exact hk2.1.1)
        obtain ⟨c9, hc9, rfl⟩ := inB_ix (n := b) (by omega) (by rw [← hb]; exact hk2.1.2)
        have hac : (nI a).toNatClampNeg = a := nI_clamp (by omega)
        have hcc : (nI c9).toNatClampNeg = c9 := nI_clamp (by omega)
        refine j_aload_nR h dX3_hang_38 rfl ?_
        refine m_get5 h hin3 (by decide +kernel) dX3_hang_39 ?_
        refine j_iload_n h dX3_hang_42 rfl ?_
        refine m_ald5 h dX3_hang_43 rfl (by omega) ?_
        refine j_iconst (v := (-1)) h dX3_hang_44 (by decide) ?_
        refine j_icmp_ne (tgt := 82) h dX3_hang_45 (by decide) (fun c45 => ?_) (fun c45 => ?_)
        · -- t
          refine j_iconst (v := 0) h dX3_hang_82 (by decide) ?_
          exact cut83 _ (by simp_all [bi, okHang]) _ ⟨rfl, rfl, rfl, rfl, rfl, trivial⟩
        · -- f
          refine j_aload_nR h dX3_hang_48 rfl ?_
          refine m_get10 h hin3 (by decide +kernel) dX3_hang_49 ?_
          refine j_iload_n h dX3_hang_52 rfl ?_
          refine m_ald10 h dX3_hang_53 rfl (by omega) ?_
          refine j_iconst (v := 2) h dX3_hang_54 (by decide) ?_
          refine j_icmp_eq (tgt := 82) h dX3_hang_55 (by decide) (fun c55 => ?_) (fun c55 => ?_)
          · -- t
            refine j_iconst (v := 0) h dX3_hang_82 (by decide) ?_
            exact cut83 _ (by simp_all [bi, okHang]) _ ⟨rfl, rfl, rfl, rfl, rfl, trivial⟩
          · -- f
            refine j_aload_nR h dX3_hang_58 rfl ?_
            refine j_iload_n h dX3_hang_59 rfl ?_
            refine j_callVI (vc := (RX3, TX3, 22)) h dX3_hang_60 (c_X3_loadOf (n := n) hn hn24) (cwV 1 h.2.2.2.2.1 gX3_hang_X3_loadOf rfl rfl rfl (by decide +kernel) ⟨Nat.le_of_ble_eq_true rfl, Nat.le_of_ble_eq_true rfl⟩) 0 rfl rfl rfl rfl (Nat.le_of_ble_eq_true rfl) ⟨Nat.le_of_ble_eq_true rfl, Nat.le_of_ble_eq_true rfl⟩ (fun r60 u60 hu60 => ?_)
            obtain ⟨rfl, rfl⟩ := hu60
            refine j_aload_nR h dX3_hang_63 rfl ?_
            refine j_iload_n h dX3_hang_64 rfl ?_
            refine j_callVI (vc := (RX3, TX3, 22)) h dX3_hang_65 (c_X3_weight (a := a) (by omega)) (cwV 1 h.2.2.2.2.1 gX3_hang_X3_weight rfl rfl rfl (by decide +kernel) ⟨Nat.le_of_ble_eq_true rfl, Nat.le_of_ble_eq_true rfl⟩) 0 rfl rfl rfl rfl (Nat.le_of_ble_eq_true rfl) ⟨Nat.le_of_ble_eq_true rfl, Nat.le_of_ble_eq_true rfl⟩ (fun r65 u65 hu65 => ?_)
            obtain ⟨rfl, rfl⟩ := hu65
            refine j_iadd h dX3_hang_68 ?_
            refine j_aload_nR h dX3_hang_69 rfl ?_
            refine m_get9 h hin3 (by decide +kernel) dX3_hang_70 ?_
            refine j_iload_n h dX3_hang_73 rfl ?_
            refine m_ald9 h dX3_hang_74 rfl (by omega) ?_
            refine j_icmp_gt (tgt := 82) h dX3_hang_75 (by decide) (fun c75 => ?_) (fun c75 => ?_)
            · -- t
              rw [← Int32.not_le] at c75
              refine j_iconst (v := 0) h dX3_hang_82 (by decide) ?_
              exact cut83 _ (by simp_all [bi, okHang]) _ ⟨rfl, rfl, rfl, rfl, rfl, trivial⟩
            · -- f
              rw [Int32.not_lt] at c75
              refine j_iconst (v := 1) h dX3_hang_78 (by decide) ?_
              refine j_goto (tgt := 83) h dX3_hang_79 (by decide) ?_
              exact cut83 _ (by simp_all [bi, okHang]) _ ⟨rfl, rfl, rfl, rfl, rfl, trivial⟩
  · -- ahead
    refine j_aload_nR h dX3_hang_0 rfl ?_
    refine j_iload_n h dX3_hang_1 rfl ?_
    refine j_callVI (vc := (RX3, TX3, 22)) h dX3_hang_2 (c_X3_isLantern) (cwV 1 h.2.2.2.2.1 gX3_hang_X3_isLantern rfl rfl rfl (by decide +kernel) ⟨Nat.le_of_ble_eq_true rfl, Nat.le_of_ble_eq_true rfl⟩) 0 rfl rfl rfl rfl (Nat.le_of_ble_eq_true rfl) ⟨Nat.le_of_ble_eq_true rfl, Nat.le_of_ble_eq_true rfl⟩ (fun r2 u2 hu2 => ?_)
    obtain ⟨rfl, rfl⟩ := hu2
    refine j_if_eq (tgt := 30) h dX3_hang_5 (by decide) (fun c5 => ?_) (fun c5 => ?_)
    · -- t
      refine j_iconst (v := 0) h dX3_hang_30 (by decide) ?_
      exact cut31 _ (by simp_all [bi]) _ ⟨rfl, rfl, rfl, rfl, trivial⟩
    · -- f
      refine j_aload_nR h dX3_hang_8 rfl ?_
      refine j_iload_n h dX3_hang_9 rfl ?_
      refine j_callVI (vc := (RX3, TX3, 22)) h dX3_hang_10 (c_X3_isFloat) (cwV 1 h.2.2.2.2.1 gX3_hang_X3_isFloat rfl rfl rfl (by decide +kernel) ⟨Nat.le_of_ble_eq_true rfl, Nat.le_of_ble_eq_true rfl⟩) 0 rfl rfl rfl rfl (Nat.le_of_ble_eq_true rfl) ⟨Nat.le_of_ble_eq_true rfl, Nat.le_of_ble_eq_true rfl⟩ (fun r10 u10 hu10 => ?_)
      obtain ⟨rfl, rfl⟩ := hu10
      refine j_if_eq (tgt := 30) h dX3_hang_13 (by decide) (fun c13 => ?_) (fun c13 => ?_)
      · -- t
        refine j_iconst (v := 0) h dX3_hang_30 (by decide) ?_
        exact cut31 _ (by simp_all [bi]) _ ⟨rfl, rfl, rfl, rfl, trivial⟩
      · -- f
        refine j_iload_n h dX3_hang_16 rfl ?_
        refine j_iconst (v := 0) h dX3_hang_17 (by decide) ?_
        refine j_bipush (v := 9) h dX3_hang_18 (by decide) ?_
        refine j_callSI h dX3_hang_20 (c_X3_in) (va_cwS 3 h.2.2.2.2.1 gX3_hang_X3_in rfl rfl rfl (by decide +kernel) ⟨Nat.le_of_ble_eq_true rfl, Nat.le_of_ble_eq_true rfl⟩) rfl rfl (Nat.le_of_ble_eq_true rfl) ⟨Nat.le_of_ble_eq_true rfl, Nat.le_of_ble_eq_true rfl⟩ (fun r20 u20 hu20 => ?_)
        obtain ⟨rfl, rfl⟩ := hu20
        refine j_if_eq (tgt := 30) h dX3_hang_23 (by decide) (fun c23 => ?_) (fun c23 => ?_)
        · -- t
          refine j_iconst (v := 0) h dX3_hang_30 (by decide) ?_
          exact cut31 _ (by simp_all [bi]) _ ⟨rfl, rfl, rfl, rfl, trivial⟩
        · -- f
          refine j_iconst (v := 1) h dX3_hang_26 (by decide) ?_
          refine j_goto (tgt := 31) h dX3_hang_27 (by decide) ?_
          exact cut31 _ (by simp_all [bi]) _ ⟨rfl, rfl, rfl, rfl, trivial⟩
set_option maxHeartbeats 4000000 in
set_option maxRecDepth 100000 in
theorem c_X3_alike {l : Launch} {D : va_G} {cI cL cR : ClassId} {ad : Nat → Nat} {f : St} {t : Int32} {x g : Int32} {n : Nat} (hn : f 7 0 = nI n) (hn24 : n ≤ 24) : ctI l D vwCl (tyW cI cL cR) yX3_alike wsX3_alike { frames := 0, cells := 0, slots := 0, locals := 0 } [.ref (ad 0), .int x, .int g] (wM cI ad f t) (fun r u => r = lkS f n x g ∧ u = (wM cI ad f t)) 0 0 := by
  refine ctI_of (cc := cX3_alike) (maxL := 6) (ret := (some .int)) (by decide) rfl rfl (Nat.le_of_ble_eq_true rfl) (by simp [Value.category]) [(0, .ref (ad 0)), (1, .int x), (2, .int g)] rfl ?_
  intro p e s m args below meth c sz h hrt hlk hnm
  have hin3 : ∀ x ∈ wsX30, x ∈ wsX3_alike := by decide +kernel
  refine j_iconst (v := 0) h dX3_alike_0 (by decide) ?_
  refine j_istore_n (i := 3) h dX3_alike_1 rfl (by decide) ?_
  refine j_iconst (v := 0) h dX3_alike_2 (by decide) ?_
  refine j_istore h dX3_alike_3 (by decide) ?_
  refine jj_loop (fun i : Nat => [(0, .ref (ad 0)), (1, .int x), (2, .int g), (3, .int (setS f x i)), (4, .int (nI i))]) (fun i : Nat => (wM cI ad f t)) (fun i : Nat => i ≤ n) (fun i : Nat => n - i) 0 ⟨rfl, rfl, rfl, rfl, rfl, trivial⟩ rfl (by omega) (fun i hi ih => ?_)
  refine j_iload h dX3_alike_5 rfl ?_
  refine j_aload_nR h dX3_alike_7 rfl ?_
  refine m_get7 h hin3 (by decide +kernel) dX3_alike_8 ?_
  refine j_icmp_ge (tgt := 58) h dX3_alike_11 (by decide) (fun c11 => ?_) (fun c11 => ?_)
  · -- t
    rw [hn, nI_leI (by omega) (by omega)] at c11
    refine j_iconst (v := 0) h dX3_alike_58 (by decide) ?_
    refine j_istore h dX3_alike_59 (by decide) ?_
    refine j_iconst (v := 0) h dX3_alike_61 (by decide) ?_
    refine j_istore h dX3_alike_62 (by decide) ?_
    refine jj_loop (fun j : Nat => [(0, .ref (ad 0)), (1, .int x), (2, .int g), (3, .int (setS f x n)), (4, .int (alS (setS f x n) g j)), (5, .int (nI j))]) (fun j : Nat => (wM cI ad f t)) (fun j : Nat => j ≤ 10) (fun j : Nat => 10 - j) 0 ⟨rfl, rfl, rfl, by rw [show n = i by omega]; rfl, rfl, rfl, trivial⟩ rfl (by omega) (fun j hj ih2 => ?_)
    refine j_iload h dX3_alike_64 rfl ?_
    refine j_bipush (v := 10) h dX3_alike_66 (by decide) ?_
    refine j_icmp_ge (tgt := 102) h dX3_alike_68 (by decide) (fun c68 => ?_) (fun c68 => ?_)
    · -- t
      rw [show (10 : Int32) = nI 10 from rfl, nI_leI (by omega) (by omega)] at c68
      refine j_iload h dX3_alike_102 rfl ?_
      exact j_iret h hrt hlk dX3_alike_104 (by decide) (by decide) (⟨by rw [show j = 10 by omega]; rfl, rfl⟩)
    · -- f
      rw [show (10 : Int32) = nI 10 from rfl, nI_leI (by omega) (by omega)] at c68
      refine j_iload h dX3_alike_71 rfl ?_
      refine j_iload_n h dX3_alike_73 rfl ?_
      refine j_iload h dX3_alike_74 rfl ?_
      refine j_ishr h dX3_alike_76 ?_
      refine j_iconst (v := 1) h dX3_alike_77 (by decide) ?_
      refine j_iand h dX3_alike_78 ?_
      refine j_iload_n h dX3_alike_79 rfl ?_
      refine j_iload h dX3_alike_80 rfl ?_
      refine j_ishr h dX3_alike_82 ?_
      refine j_iconst (v := 1) h dX3_alike_83 (by decide) ?_
      refine j_iand h dX3_alike_84 ?_
      refine j_icmp_ne (tgt := 92) h dX3_alike_85 (by decide) (fun c85 => ?_) (fun c85 => ?_)
      · -- t
        refine j_iconst (v := 0) h dX3_alike_92 (by decide) ?_
        refine j_iadd h dX3_alike_93 ?_
        refine j_istore h dX3_alike_94 (by decide) ?_
        refine j_iinc h dX3_alike_96 rfl rfl (by decide) ?_
        refine j_goto (tgt := 64) h dX3_alike_99 (by decide) ?_
        exact ih2 (j + 1) (by omega) (by omega) _ ⟨rfl, rfl, rfl, rfl, by simp [alS, lget, c85], by simp [lget, nI_succ], trivial⟩
      · -- f
        refine j_iconst (v := 1) h dX3_alike_88 (by decide) ?_
        refine j_goto (tgt := 93) h dX3_alike_89 (by decide) ?_
        refine j_iadd h dX3_alike_93 ?_
        refine j_istore h dX3_alike_94 (by decide) ?_
        refine j_iinc h dX3_alike_96 rfl rfl (by decide) ?_
        refine j_goto (tgt := 64) h dX3_alike_99 (by decide) ?_
        exact ih2 (j + 1) (by omega) (by omega) _ ⟨rfl, rfl, rfl, rfl, by simp [alS, lget, c85], by simp [lget, nI_succ], trivial⟩
  · -- f
    rw [hn, nI_leI (by omega) (by omega)] at c11
    refine j_iload_n h dX3_alike_14 rfl ?_
    refine j_aload_nR h dX3_alike_15 rfl ?_
    refine m_get5 h hin3 (by decide +kernel) dX3_alike_16 ?_
    refine j_iload h dX3_alike_19 rfl ?_
    refine m_ald5 h dX3_alike_21 rfl (by omega) ?_
    refine j_iload_n h dX3_alike_22 rfl ?_
    refine j_icmp_ne (tgt := 49) h dX3_alike_23 (by decide) (fun c23 => ?_) (fun c23 => ?_)
    · -- t
      refine j_iconst (v := 0) h dX3_alike_49 (by decide) ?_
      refine j_ior h dX3_alike_50 ?_
      refine j_istore_n (i := 3) h dX3_alike_51 rfl (by decide) ?_
      refine j_iinc h dX3_alike_52 rfl rfl (by decide) ?_
      refine j_goto (tgt := 5) h dX3_alike_55 (by decide) ?_
      exact ih (i + 1) (by omega) (by omega) _ ⟨rfl, rfl, rfl, by simp [setS, lget, *], by simp [lget, nI_succ], trivial⟩
    · -- f
      refine j_aload_nR h dX3_alike_26 rfl ?_
      refine m_get3 h hin3 (by decide +kernel) dX3_alike_27 ?_
      refine j_iload h dX3_alike_30 rfl ?_
      refine m_ald3 h dX3_alike_32 rfl (by omega) ?_
      refine j_iconst (v := 1) h dX3_alike_33 (by decide) ?_
      refine j_icmp_ne (tgt := 49) h dX3_alike_34 (by decide) (fun c34 => ?_) (fun c34 => ?_)
      · -- t
        refine j_iconst (v := 0) h dX3_alike_49 (by decide) ?_
        refine j_ior h dX3_alike_50 ?_
        refine j_istore_n (i := 3) h dX3_alike_51 rfl (by decide) ?_
        refine j_iinc h dX3_alike_52 rfl rfl (by decide) ?_
        refine j_goto (tgt := 5) h dX3_alike_55 (by decide) ?_
        exact ih (i + 1) (by omega) (by omega) _ ⟨rfl, rfl, rfl, by simp [setS, lget, *], by simp [lget, nI_succ], trivial⟩
      · -- f
        refine j_iconst (v := 1) h dX3_alike_37 (by decide) ?_
        refine j_aload_nR h dX3_alike_38 rfl ?_
        refine m_get6 h hin3 (by decide +kernel) dX3_alike_39 ?_
        refine j_iload h dX3_alike_42 rfl ?_
        refine m_ald6 h dX3_alike_44 rfl (by omega) ?_
        refine j_ishl h dX3_alike_45 ?_
        refine j_goto (tgt := 50) h dX3_alike_46 (by decide) ?_
        refine j_ior h dX3_alike_50 ?_
        refine j_istore_n (i := 3) h dX3_alike_51 rfl (by decide) ?_
        refine j_iinc h dX3_alike_52 rfl rfl (by decide) ?_
        refine j_goto (tgt := 5) h dX3_alike_55 (by decide) ?_
        exact ih (i + 1) (by omega) (by omega) _ ⟨rfl, rfl, rfl, by simp [setS, lget, *], by simp [lget, nI_succ], trivial⟩
set_option maxHeartbeats 4000000 in
set_option maxRecDepth 100000 in
theorem c_X3_likeness {l : Launch} {D : va_G} {cI cL cR : ClassId} {ad : Nat → Nat} {f : St} {t : Int32} {x g : Int32} {n b : Nat} (hn : f 7 0 = nI n) (hn24 : n ≤ 24) : ctI l D vwCl (tyW cI cL cR) yX3_likeness wsX3_likeness { frames := 2, cells := 0, slots := 0, locals := 43 } [.ref (ad 0), .int x, .int g] (wM cI ad f t) (fun r u => u = wM cI ad f (tLike f x g) ∧ (tLike f x g = 0 → r = lkS f n x g)) 0 0 := by
  refine ctI_of (cc := cX3_likeness) (maxL := 3) (ret := (some .int)) (by decide) rfl rfl (Nat.le_of_ble_eq_true rfl) (by simp [Value.category]) [(0, .ref (ad 0)), (1, .int x), (2, .int g)] rfl ?_
  intro p e s m args below meth c sz h hrt hlk hnm
  have hin3 : ∀ x ∈ wsX30, x ∈ wsX3_likeness := by decide +kernel
  refine j_aload_nR h dX3_likeness_0 rfl ?_
  refine j_aload_nR h dX3_likeness_1 rfl ?_
  refine j_iload_n h dX3_likeness_2 rfl ?_
  refine j_callVI (vc := (RX3, TX3, 22)) h dX3_likeness_3 (c_X3_isFloat) (cwV 1 h.2.2.2.2.1 gX3_likeness_X3_isFloat rfl rfl rfl (by decide +kernel) ⟨Nat.le_of_ble_eq_true rfl, Nat.le_of_ble_eq_true rfl⟩) 0 rfl rfl rfl rfl (Nat.le_of_ble_eq_true rfl) ⟨Nat.le_of_ble_eq_true rfl, Nat.le_of_ble_eq_true rfl⟩ (fun r3 u3 hu3 => ?_)
  obtain ⟨rfl, rfl⟩ := hu3
  refine j_iload_n h dX3_likeness_6 rfl ?_
  refine j_iconst (v := 0) h dX3_likeness_7 (by decide) ?_
  refine j_sipush (v := 1023) h dX3_likeness_8 (by decide) ?_
  refine j_callSI h dX3_likeness_11 (c_X3_in) (va_cwS 3 h.2.2.2.2.1 gX3_likeness_X3_in rfl rfl rfl (by decide +kernel) ⟨Nat.le_of_ble_eq_true rfl, Nat.le_of_ble_eq_true rfl⟩) rfl rfl (Nat.le_of_ble_eq_true rfl) ⟨Nat.le_of_ble_eq_true rfl, Nat.le_of_ble_eq_true rfl⟩ (fun r11 u11 hu11 => ?_)
  obtain ⟨rfl, rfl⟩ := hu11
  refine j_iconst (v := 1) h dX3_likeness_14 (by decide) ?_
  refine j_callVI (vc := (RX3, TX3, 22)) h dX3_likeness_15 (c_X3_goes) (cwV 3 h.2.2.2.2.1 gX3_likeness_X3_goes rfl rfl rfl (by decide +kernel) ⟨Nat.le_of_ble_eq_true rfl, Nat.le_of_ble_eq_true rfl⟩) 0 rfl rfl rfl rfl (Nat.le_of_ble_eq_true rfl) ⟨Nat.le_of_ble_eq_true rfl, Nat.le_of_ble_eq_true rfl⟩ (fun r15 u15 hu15 => ?_)
  obtain ⟨rfl, rfl⟩ := hu15
  refine j_if_eq (tgt := 30) h dX3_likeness_18 (by decide) (fun c18 => ?_) (fun c18 => ?_)
  · -- t
    have hT : ¬ tLike f x g = 0 := of_decide_eq_false (bi_0.mp c18)
    refine j_iconst (v := 0) h dX3_likeness_30 (by decide) ?_
    exact j_iret h hrt hlk dX3_likeness_31 (by decide) (by decide) (by first | exact ⟨rfl, fun z => absurd z hT⟩ | exact ⟨rfl, fun _ => rfl⟩)
  · -- f
    have hT : tLike f x g = 0 := of_decide_eq_true (bi_n0.mp c18)
    refine j_aload_nR h dX3_likeness_21 rfl ?_
    refine j_iload_n h dX3_likeness_22 rfl ?_
    refine j_iload_n h dX3_likeness_23 rfl ?_
    refine j_callVI (vc := (RX3, TX3, 22)) h dX3_likeness_24 (c_X3_alike (n := n) hn hn24) (cwV 2 h.2.2.2.2.1 gX3_likeness_X3_alike rfl rfl rfl (by decide +kernel) ⟨Nat.le_of_ble_eq_true rfl, Nat.le_of_ble_eq_true rfl⟩) 0 rfl rfl rfl rfl (Nat.le_of_ble_eq_true rfl) ⟨Nat.le_of_ble_eq_true rfl, Nat.le_of_ble_eq_true rfl⟩ (fun r24 u24 hu24 => ?_)
    obtain ⟨rfl, rfl⟩ := hu24
    refine j_goto (tgt := 31) h dX3_likeness_27 (by decide) ?_
    exact j_iret h hrt hlk dX3_likeness_31 (by decide) (by decide) (by first | exact ⟨rfl, fun z => absurd z hT⟩ | exact ⟨rfl, fun _ => rfl⟩)
set_option maxHeartbeats 4000000 in
set_option maxRecDepth 100000 in
theorem c_X3_prize {l : Launch} {D : va_G} {cI cL cR : ClassId} {ad : Nat → Nat} {f : St} {t : Int32} {g : Int32} {n q : Nat} (hn : f 7 0 = nI n) (hn24 : n ≤ 24) (hq : f 13 0 = nI q) (hq8 : q ≤ 8) (ho : ∀ i, i < q → ∃ r, r < 8 ∧ f 12 i = nI r) : ctI l D vwCl (tyW cI cL cR) yX3_prize wsX3_prize { frames := 1, cells := 0, slots := 0, locals := 25 } [.ref (ad 0), .int g] (wM cI ad f t) (fun r u => u = wM cI ad f (tPrize g) ∧ (tPrize g = 0 → r = prS f n g q)) 0 0 := by
  refine ctI_of (cc := cX3_prize) (maxL := 5) (ret := (some .int)) (by decide) rfl rfl (Nat.le_of_ble_eq_true rfl) (by simp [Value.category]) [(0, .ref (ad 0)), (1, .int g)] rfl ?_
  intro p e s m args below meth c sz h hrt hlk hnm
  have hin3 : ∀ x ∈ wsX30, x ∈ wsX3_prize := by decide +kernel
  refine j_aload_nR h dX3_prize_0 rfl ?_
  refine j_iload_n h dX3_prize_1 rfl ?_
  refine j_iconst (v := 0) h dX3_prize_2 (by decide) ?_
  refine j_sipush (v := 1023) h dX3_prize_3 (by decide) ?_
  refine j_callSI h dX3_prize_6 (c_X3_in) (va_cwS 3 h.2.2.2.2.1 gX3_prize_X3_in rfl rfl rfl (by decide +kernel) ⟨Nat.le_of_ble_eq_true rfl, Nat.le_of_ble_eq_true rfl⟩) rfl rfl (Nat.le_of_ble_eq_true rfl) ⟨Nat.le_of_ble_eq_true rfl, Nat.le_of_ble_eq_true rfl⟩ (fun r6 u6 hu6 => ?_)
  obtain ⟨rfl, rfl⟩ := hu6
  refine j_iconst (v := 1) h dX3_prize_9 (by decide) ?_
  refine j_iconst (v := 1) h dX3_prize_10 (by decide) ?_
  refine j_callVI (vc := (RX3, TX3, 22)) h dX3_prize_11 (c_X3_goes) (cwV 3 h.2.2.2.2.1 gX3_prize_X3_goes rfl rfl rfl (by decide +kernel) ⟨Nat.le_of_ble_eq_true rfl, Nat.le_of_ble_eq_true rfl⟩) 0 rfl rfl rfl rfl (Nat.le_of_ble_eq_true rfl) ⟨Nat.le_of_ble_eq_true rfl, Nat.le_of_ble_eq_true rfl⟩ (fun r11 u11 hu11 => ?_)
  obtain ⟨rfl, rfl⟩ := hu11
  refine j_if_ne (tgt := 19) h dX3_prize_14 (by decide) (fun c14 => ?_) (fun c14 => ?_)
  · -- t
    have hT : tPrize g = 0 := of_decide_eq_true (bi_n0.mp c14)
    refine j_iconst (v := (-1)) h dX3_prize_19 (by decide) ?_
    refine j_istore_n (i := 2) h dX3_prize_20 rfl (by decide) ?_
    refine j_iconst (v := 0) h dX3_prize_21 (by decide) ?_
    refine j_istore_n (i := 3) h dX3_prize_22 rfl (by decide) ?_
    refine jj_loop (fun i : Nat => [(0, .ref (ad 0)), (1, .int g), (2, .int (prS f n g i)), (3, .int (nI i))]) (fun i : Nat => wM cI ad f (tPrize g)) (fun i : Nat => i ≤ q) (fun i : Nat => q - i) 0 ⟨rfl, rfl, rfl, rfl, trivial⟩ rfl (by omega) (fun i hi ih => ?_)
    refine j_iload_n h dX3_prize_23 rfl ?_
    refine j_aload_nR h dX3_prize_24 rfl ?_
    refine m_get13 h hin3 (by decide +kernel) dX3_prize_25 ?_
    refine j_icmp_ge (tgt := 100) h dX3_prize_28 (by decide) (fun c28 => ?_) (fun c28 => ?_)
    · -- t
      rw [hq, nI_leI (by omega) (by omega)] at c28
      refine j_iload_n h dX3_prize_100 rfl ?_
      exact j_iret h hrt hlk dX3_prize_101 (by decide) (by decide) (⟨rfl, fun _ => by rw [show i = q by omega]⟩)
    · -- f
      rw [hq, nI_leI (by omega) (by omega)] at c28
      obtain ⟨r, hr8, hr⟩ := ho i (by omega)
      have hrc : (nI r).toNatClampNeg = r := nI_clamp (by omega)
      refine jj_cut 61 [(0, .ref (ad 0)), (1, .int g), (2, .int (prS f n g i)), (3, .int (nI i))] [] (fun v => v = bi (decide (prS f n g i = -1) || decide (lkS f n (prS f n g i) g < lkS f n (f 12 i) g))) (fun v61 hv61 => ?_) (fun cut61 => ?_)
      · -- behind
        obtain rfl := hv61
        refine j_istore h dX3_prize_61 (by decide) ?_
        refine j_aload_nR h dX3_prize_63 rfl ?_
        refine m_get10 h hin3 (by decide +kernel) dX3_prize_64 ?_
        refine j_aload_nR h dX3_prize_67 rfl ?_
        refine m_get12 h hin3 (by decide +kernel) dX3_prize_68 ?_
        refine j_iload_n h dX3_prize_71 rfl ?_
        refine m_ald12 h dX3_prize_72 rfl (by omega) ?_
        refine m_ald10 h dX3_prize_73 hr hr8 ?_
        refine j_iconst (v := 1) h dX3_prize_74 (by decide) ?_
        refine j_icmp_ne (tgt := 92) h dX3_prize_75 (by decide) (fun c75 => ?_) (fun c75 => ?_)
        · -- t
          refine j_iload_n h dX3_prize_92 rfl ?_
          refine j_istore_n (i := 2) h dX3_prize_93 rfl (by decide) ?_
          refine j_iinc h dX3_prize_94 rfl rfl (by decide) ?_
          refine j_goto (tgt := 23) h dX3_prize_97 (by decide) ?_
          exact ih (i + 1) (by omega) (by omega) _ ⟨rfl, rfl, by first | (rw [prS_t (by rw [hr, hrc]; exact c75) c80]; rfl) | (rw [prS_f2 c80]; rfl) | (rw [prS_f1 (by rw [hr, hrc]; exact c75)]; rfl), by simp [lget, nI_succ], trivial⟩
        · -- f
          refine j_iload h dX3_prize_78 rfl ?_
          refine j_if_eq (tgt := 92) h dX3_prize_80 (by decide) (fun c80 => ?_) (fun c80 => ?_)
          · -- t
            have c80 : ¬ (prS f n g i = -1 ∨ lkS f n (prS f n g i) g < lkS f n (f 12 i) g) := by have z := bi_0.mp c80; simpa using z
            refine j_iload_n h dX3_prize_92 rfl ?_
            refine j_istore_n (i := 2) h dX3_prize_93 rfl (by decide) ?_
            refine j_iinc h dX3_prize_94 rfl rfl (by decide) ?_
            refine j_goto (tgt := 23) h dX3_prize_97 (by decide) ?_
            exact ih (i + 1) (by omega) (by omega) _ ⟨rfl, rfl, by first | (rw [prS_t (by rw [hr, hrc]; exact c75) c80]; rfl) | (rw [prS_f2 c80]; rfl) | (rw [prS_f1 (by rw [hr, hrc]; exact c75)]; rfl), by simp [lget, nI_succ], trivial⟩
          · -- f
            have c80 : prS f n g i = -1 ∨ lkS f n (prS f n g i) g < lkS f n (f 12 i) g := by have z := bi_n0.mp c80; simpa using z
            refine j_aload_nR h dX3_prize_83 rfl ?_
            refine m_get12 h hin3 (by decide +kernel) dX3_prize_84 ?_
            refine j_iload_n h dX3_prize_87 rfl ?_
            refine m_ald12 h dX3_prize_88 rfl (by omega) ?_
            refine j_goto (tgt := 93) h dX3_prize_89 (by decide) ?_
            refine j_istore_n (i := 2) h dX3_prize_93 rfl (by decide) ?_
            refine j_iinc h dX3_prize_94 rfl rfl (by decide) ?_
            refine j_goto (tgt := 23) h dX3_prize_97 (by decide) ?_
            exact ih (i + 1) (by omega) (by omega) _ ⟨rfl, rfl, by first | (rw [prS_t (by rw [hr, hrc]; exact c75) c80]; rfl) | (rw [prS_f2 c80]; rfl) | (rw [prS_f1 (by rw [hr, hrc]; exact c75)]; rfl), by simp [lget, nI_succ], trivial⟩
      · -- ahead
        refine j_iload_n h dX3_prize_31 rfl ?_
        refine j_iconst (v := (-1)) h dX3_prize_32 (by decide) ?_
        refine j_icmp_eq (tgt := 56) h dX3_prize_33 (by decide) (fun c33 => ?_) (fun c33 => ?_)
        · -- t
          refine j_iconst (v := 1) h dX3_prize_56 (by decide) ?_
          refine j_goto (tgt := 61) h dX3_prize_57 (by decide) ?_
          exact cut61 _ (by simp_all [bi]) _ ⟨rfl, rfl, rfl, rfl, trivial⟩
        · -- f
          refine j_aload_nR h dX3_prize_36 rfl ?_
          refine j_aload_nR h dX3_prize_37 rfl ?_
          refine m_get12 h hin3 (by decide +kernel) dX3_prize_38 ?_
          refine j_iload_n h dX3_prize_41 rfl ?_
          refine m_ald12 h dX3_prize_42 rfl (by omega) ?_
          refine j_iload_n h dX3_prize_43 rfl ?_
          refine j_callVI (vc := (RX3, TX3, 22)) h dX3_prize_44 (c_X3_alike (n := n) hn hn24) (cwV 2 h.2.2.2.2.1 gX3_prize_X3_alike rfl rfl rfl (by decide +kernel) ⟨Nat.le_of_ble_eq_true rfl, Nat.le_of_ble_eq_true rfl⟩) 0 rfl rfl rfl rfl (Nat.le_of_ble_eq_true rfl) ⟨Nat.le_of_ble_eq_true rfl, Nat.le_of_ble_eq_true rfl⟩ (fun r44 u44 hu44 => ?_)
          obtain ⟨rfl, rfl⟩ := hu44
          refine j_aload_nR h dX3_prize_47 rfl ?_
          refine j_iload_n h dX3_prize_48 rfl ?_
          refine j_iload_n h dX3_prize_49 rfl ?_
          refine j_callVI (vc := (RX3, TX3, 22)) h dX3_prize_50 (c_X3_alike (n := n) hn hn24) (cwV 2 h.2.2.2.2.1 gX3_prize_X3_alike rfl rfl rfl (by decide +kernel) ⟨Nat.le_of_ble_eq_true rfl, Nat.le_of_ble_eq_true rfl⟩) 0 rfl rfl rfl rfl (Nat.le_of_ble_eq_true rfl) ⟨Nat.le_of_ble_eq_true rfl, Nat.le_of_ble_eq_true rfl⟩ (fun r50 u50 hu50 => ?_)
          obtain ⟨rfl, rfl⟩ := hu50
          refine j_icmp_le (tgt := 60) h dX3_prize_53 (by decide) (fun c53 => ?_) (fun c53 => ?_)
          · -- t
            rw [← Int32.not_lt] at c53
            refine j_iconst (v := 0) h dX3_prize_60 (by decide) ?_
            exact cut61 _ (by simp_all [bi]) _ ⟨rfl, rfl, rfl, rfl, trivial⟩
          · -- f
            rw [Int32.not_le] at c53
            refine j_iconst (v := 1) h dX3_prize_56 (by decide) ?_
            refine j_goto (tgt := 61) h dX3_prize_57 (by decide) ?_
            exact cut61 _ (by simp_all [bi]) _ ⟨rfl, rfl, rfl, rfl, trivial⟩
  · -- f
    have hT : ¬ tPrize g = 0 := of_decide_eq_false (bi_0.mp c14)
    refine j_iconst (v := 0) h dX3_prize_17 (by decide) ?_
    exact j_iret h hrt hlk dX3_prize_18 (by decide) (by decide) (⟨rfl, fun z => absurd z hT⟩)
