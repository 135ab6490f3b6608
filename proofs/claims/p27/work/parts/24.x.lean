set_option maxHeartbeats 4000000 in
set_option maxRecDepth 100000 in
theorem c_X2_isTooNear {l : Launch} {D : va_G} {cI cL cR : ClassId} {ad : Nat → Nat} {f : St} {C : List Nat} {n b q : Nat} {k j : Nat} (hx : xw n b q f C) (hk : k < n) (hj : j < n) (hpk : hpB f k = true) (hpj : hpB f j = true) : ctI l D vwCl (tyW cI cL cR) yX2_isTooNear wsX2_isTooNear { frames := 2, cells := 0, slots := 0, locals := 42 } [.ref (ad 0), .ref (ad (5 + k)), .ref (ad (5 + j))] (wX cI cL cR ad C f) (fun v u => v = (bi (decide (ds f j k < f 2 j + f 2 k + f 16 0))) ∧ u = (wX cI cL cR ad C f)) 0 0 := by
  refine ctI_of (cc := cX2_isTooNear) (maxL := 3) (ret := (some .boolean)) (by decide) rfl rfl (Nat.le_of_ble_eq_true rfl) (by simp [Value.category]) [(0, .ref (ad 0)), (1, .ref (ad (5 + k))), (2, .ref (ad (5 + j)))] rfl ?_
  intro p e s m args below meth c sz h hrt hlk hnm
  have hin0 : ∀ x ∈ wsX00, x ∈ wsX2_isTooNear := by decide +kernel
  have hin2 : ∀ x ∈ wsX20, x ∈ wsX2_isTooNear := by decide +kernel
  have hn24 := hx.1
  have hb8 := hx.2.1
  have hq8 := hx.2.2.1
  refine j_aload_nR h dX2_isTooNear_0 rfl ?_
  refine j_aload_nR h dX2_isTooNear_1 rfl ?_
  refine xc0_callVI h (by omega) dX2_isTooNear_2 (c_X0_distanceTo hx hk hj hpk hpj) (cwV 1 h.2.2.2.2.1 gX2_isTooNear_X0_distanceTo rfl rfl rfl (by decide +kernel) ⟨Nat.le_of_ble_eq_true rfl, Nat.le_of_ble_eq_true rfl⟩) (by first | exact hx.c (by omega) | exact hx.l (by omega) | exact hx.r (by omega) | exact hx.s (by omega)) rfl rfl (Nat.le_of_ble_eq_true rfl) ⟨Nat.le_of_ble_eq_true rfl, Nat.le_of_ble_eq_true rfl⟩ (fun r2 u2 hu2 => ?_)
  obtain ⟨rfl, rfl⟩ := hu2
  have hE : (f 2 k + f 2 j) = f 2 j + f 2 k := Int32.add_comm _ _
  have hD := ds_comm f k j
  refine j_aload_nR h dX2_isTooNear_5 rfl ?_
  refine x0_get2 h hin0 (by decide +kernel) dX2_isTooNear_6 (by omega) (by first | exact hx.c (by omega) | exact hx.l (by omega) | exact hx.r (by omega) | exact hx.s (by omega)) ?_
  refine j_aload_nR h dX2_isTooNear_9 rfl ?_
  refine x0_get2 h hin0 (by decide +kernel) dX2_isTooNear_10 (by omega) (by first | exact hx.c (by omega) | exact hx.l (by omega) | exact hx.r (by omega) | exact hx.s (by omega)) ?_
  refine j_iadd h dX2_isTooNear_13 ?_
  refine j_aload_nR h dX2_isTooNear_14 rfl ?_
  refine x2_get9 h hin2 (by decide +kernel) dX2_isTooNear_15 (by first | exact hx.c (by omega) | exact hx.l (by omega) | exact hx.r (by omega) | exact hx.s (by omega)) ?_
  refine j_iadd h dX2_isTooNear_18 ?_
  refine j_icmp_ge (tgt := 26) h dX2_isTooNear_19 (by decide) (fun c19 => ?_) (fun c19 => ?_)
  · -- t
    rw [hD, hE, ← Int32.not_lt] at c19
    refine j_iconst (v := 0) h dX2_isTooNear_26 (by decide) ?_
    exact j_zret h hrt hlk dX2_isTooNear_27 (by first | exact Or.inl rfl | exact Or.inr rfl) (by decide) (by decide) (⟨by simp [bi, c19], rfl⟩)
  · -- f
    rw [hD, hE, Int32.not_le] at c19
    refine j_iconst (v := 1) h dX2_isTooNear_22 (by decide) ?_
    refine j_goto (tgt := 27) h dX2_isTooNear_23 (by decide) ?_
    exact j_zret h hrt hlk dX2_isTooNear_27 (by first | exact Or.inl rfl | exact Or.inr rfl) (by decide) (by decide) (⟨by simp [bi, c19], rfl⟩)
set_option maxHeartbeats 4000000 in
set_option maxRecDepth 100000 in
theorem c_X2_isCrowded {l : Launch} {D : va_G} {cI cL cR : ClassId} {ad : Nat → Nat} {f : St} {C : List Nat} {n b q : Nat} {k B : Nat} (hx : xw n b q f C) (hk : k < n) (hB : B ≤ 24) (hpk : hpB f k = true) (hlp : lpF f n) (hkB : f 3 k ≠ 1 ∨ B ≤ k) : ctI l D vwCl (tyW cI cL cR) yX2_isCrowded wsX2_isCrowded { frames := 3, cells := 0, slots := 0, locals := 64 } [.ref (ad 0), .ref (ad (5 + k)), .int (nI B)] (wX cI cL cR ad C f) (fun v u => v = (bi (nearB f k (min B n))) ∧ u = (wX cI cL cR ad C f)) 0 0 := by
  refine ctI_of (cc := cX2_isCrowded) (maxL := 5) (ret := (some .boolean)) (by decide) rfl rfl (Nat.le_of_ble_eq_true rfl) (by simp [Value.category]) [(0, .ref (ad 0)), (1, .ref (ad (5 + k))), (2, .int (nI B))] rfl ?_
  intro p e s m args below meth c sz h hrt hlk hnm
  have hin0 : ∀ x ∈ wsX00, x ∈ wsX2_isCrowded := by decide +kernel
  have hin2 : ∀ x ∈ wsX20, x ∈ wsX2_isCrowded := by decide +kernel
  have hn24 := hx.1
  have hb8 := hx.2.1
  have hq8 := hx.2.2.1
  refine j_iconst (v := 0) h dX2_isCrowded_0 (by decide) ?_
  refine j_istore_n (i := 3) h dX2_isCrowded_1 rfl (by decide) ?_
  refine jj_loop (fun i : Nat => [(0, .ref (ad 0)), (1, .ref (ad (5 + k))), (2, .int (nI B)), (3, .int (nI i))]) (fun i : Nat => (wX cI cL cR ad C f)) (fun i : Nat => (i ≤ B ∧ nearB f k (min i n) = false)) (fun i : Nat => 24 - i) 0 ⟨rfl, rfl, rfl, rfl, trivial⟩ rfl (by first | omega | exact ⟨by omega, by rw [Nat.zero_min]; rfl⟩) (fun i hi ihi => ?_)
  obtain ⟨hi, hN⟩ := hi
  refine j_iload_n h dX2_isCrowded_2 rfl ?_
  refine j_iload_n h dX2_isCrowded_3 rfl ?_
  refine j_icmp_ge (tgt := 56) h dX2_isCrowded_4 (by decide) (fun c4 => ?_) (fun c4 => ?_)
  · -- t
    rw [nI_leI (by omega) (by omega)] at c4
    refine j_iconst (v := 0) h dX2_isCrowded_56 (by decide) ?_
    exact j_zret h hrt hlk dX2_isCrowded_57 (Or.inl rfl) (by decide) (by decide) (⟨by rw [show min B n = min i n by omega, hN]; rfl, rfl⟩)
  · -- f
    rw [nI_leI (by omega) (by omega)] at c4
    refine j_iload_n h dX2_isCrowded_7 rfl ?_
    refine j_aload_nR h dX2_isCrowded_8 rfl ?_
    refine x2_get0 h hin2 (by decide +kernel) dX2_isCrowded_9 (by first | exact hx.c (by omega) | exact hx.l (by omega) | exact hx.r (by omega) | exact hx.s (by omega)) ?_
    refine x2_alen0 h dX2_isCrowded_12 (by first | exact hx.c (by omega) | exact hx.l (by omega) | exact hx.r (by omega) | exact hx.s (by omega)) ?_
    refine j_icmp_ge (tgt := 56) h dX2_isCrowded_13 (by decide) (fun c13 => ?_) (fun c13 => ?_)
    · -- t
      rw [show (24 : Int32) = nI 24 from rfl, nI_leI (by omega) (by omega)] at c13
      refine j_iconst (v := 0) h dX2_isCrowded_56 (by decide) ?_
      exact j_zret h hrt hlk dX2_isCrowded_57 (Or.inl rfl) (by decide) (by decide) (⟨by rw [show min B n = min i n by omega, hN]; rfl, rfl⟩)
    · -- f
      rw [show (24 : Int32) = nI 24 from rfl, nI_leI (by omega) (by omega)] at c13
      refine j_aload_nR h dX2_isCrowded_16 rfl ?_
      refine x2_get0 h hin2 (by decide +kernel) dX2_isCrowded_17 (by first | exact hx.c (by omega) | exact hx.l (by omega) | exact hx.r (by omega) | exact hx.s (by omega)) ?_
      refine j_iload_n h dX2_isCrowded_20 rfl ?_
      refine xl_ald0 h (by first | assumption | exact hx.up (by omega) _ _ | exact (hx.up (by omega) _ _).up (by omega) _ _) dX2_isCrowded_21 rfl (by omega) (fun e21 => ?_) (fun e21 => ?_)
      · -- n
        have hE : nearB f k (min (i + 1) n) = false := by rw [show min (i + 1) n = min i n by omega]; exact hN
        refine j_astoreN h dX2_isCrowded_22 (by decide) ?_
        refine j_aload h dX2_isCrowded_24 rfl (Or.inl rfl) ?_
        refine j_ifnullN (tgt := 50) h dX2_isCrowded_26 (by decide) ?_
        refine j_iinc h dX2_isCrowded_50 rfl rfl (by decide) ?_
        refine j_goto (tgt := 2) h dX2_isCrowded_53 (by decide) ?_
        exact ihi (i + 1) ⟨by omega, hE⟩ (by omega) _ ⟨rfl, rfl, rfl, by simp [lget, nI_succ], trivial⟩
      · -- r
        have hmi : min i n = i := by omega
        have hmi1 : min (i + 1) n = i + 1 := by omega
        rw [hmi] at hN
        refine j_astoreR h dX2_isCrowded_22 (by decide) ?_
        refine j_aloadR h dX2_isCrowded_24 rfl ?_
        refine j_ifnullR h dX2_isCrowded_26 ?_
        refine j_aloadR h dX2_isCrowded_29 rfl ?_
        refine x0_get3 h hin0 (by decide +kernel) dX2_isCrowded_31 (by omega) (by first | exact hx.c (by omega) | exact hx.l (by omega) | exact hx.r (by omega) | exact hx.s (by omega)) ?_
        refine j_iconst (v := 1) h dX2_isCrowded_34 (by decide) ?_
        refine j_icmp_ne (tgt := 50) h dX2_isCrowded_35 (by decide) (fun c35 => ?_) (fun c35 => ?_)
        · -- t
          have hE : nearB f k (min (i + 1) n) = false := by rw [hmi1, nearB, hN]; simp [nearT, c35]
          refine j_iinc h dX2_isCrowded_50 rfl rfl (by decide) ?_
          refine j_goto (tgt := 2) h dX2_isCrowded_53 (by decide) ?_
          exact ihi (i + 1) ⟨by omega, hE⟩ (by omega) _ ⟨rfl, rfl, rfl, by simp [lget, nI_succ], trivial⟩
        · -- f
          refine j_aload_nR h dX2_isCrowded_38 rfl ?_
          refine j_aload_nR h dX2_isCrowded_39 rfl ?_
          refine j_aloadR h dX2_isCrowded_40 rfl ?_
          refine xc2_callVI h dX2_isCrowded_42 (c_X2_isTooNear hx (k := k) (j := i) hk (by omega) hpk (hlp i (by omega) c35)) (cwV 2 h.2.2.2.2.1 gX2_isCrowded_X2_isTooNear rfl rfl rfl (by decide +kernel) ⟨Nat.le_of_ble_eq_true rfl, Nat.le_of_ble_eq_true rfl⟩) (by first | exact hx.c (by omega) | exact hx.l (by omega) | exact hx.r (by omega) | exact hx.s (by omega)) rfl rfl (Nat.le_of_ble_eq_true rfl) ⟨Nat.le_of_ble_eq_true rfl, Nat.le_of_ble_eq_true rfl⟩ (fun r42 u42 hu42 => ?_)
          obtain ⟨rfl, rfl⟩ := hu42
          refine j_if_eq (tgt := 50) h dX2_isCrowded_45 (by decide) (fun c45 => ?_) (fun c45 => ?_)
          · -- t
            have hE : nearB f k (min (i + 1) n) = false := by rw [hmi1, nearB, hN]; simp only [nearT, bi_0.mp c45]; simp
            refine j_iinc h dX2_isCrowded_50 rfl rfl (by decide) ?_
            refine j_goto (tgt := 2) h dX2_isCrowded_53 (by decide) ?_
            exact ihi (i + 1) ⟨by omega, hE⟩ (by omega) _ ⟨rfl, rfl, rfl, by simp [lget, nI_succ], trivial⟩
          · -- f
            have hE : nearB f k (i + 1) = true := by rw [nearB, hN]; simp only [nearT, bi_n0.mp c45]; simp only [Bool.false_or, Bool.and_true, Bool.and_eq_true, decide_eq_true_eq]; exact ⟨fun z => hkB.elim (fun w => w (by rw [← z]; exact c35)) (fun w => by omega), c35⟩
            have hF : nearB f k (min B n) = true := nearB_up (by omega) hE
            refine j_iconst (v := 1) h dX2_isCrowded_48 (by decide) ?_
            exact j_zret h hrt hlk dX2_isCrowded_49 (Or.inr rfl) (by decide) (by decide) (⟨by rw [hF]; rfl, rfl⟩)
set_option maxHeartbeats 4000000 in
set_option maxRecDepth 100000 in
theorem c_X2_litLanterns {l : Launch} {D : va_G} {cI cL cR : ClassId} {ad : Nat → Nat} {f : St} {C : List Nat} {n b q : Nat} (hx : xw n b q f C) : ctI l D vwCl (tyW cI cL cR) yX2_litLanterns wsX2_litLanterns { frames := 0, cells := 0, slots := 0, locals := 0 } [.ref (ad 0)] (wX cI cL cR ad C f) (fun v u => v = (ltS f n) ∧ u = (wX cI cL cR ad C f)) 0 0 := by
  refine ctI_of (cc := cX2_litLanterns) (maxL := 6) (ret := (some .int)) (by decide) rfl rfl (Nat.le_of_ble_eq_true rfl) (by simp [Value.category]) [(0, .ref (ad 0))] rfl ?_
  intro p e s m args below meth c sz h hrt hlk hnm
  have hin0 : ∀ x ∈ wsX00, x ∈ wsX2_litLanterns := by decide +kernel
  have hin2 : ∀ x ∈ wsX20, x ∈ wsX2_litLanterns := by decide +kernel
  have hn24 := hx.1
  have hb8 := hx.2.1
  have hq8 := hx.2.2.1
  refine j_iconst (v := 0) h dX2_litLanterns_0 (by decide) ?_
  refine j_istore_n (i := 1) h dX2_litLanterns_1 rfl (by decide) ?_
  refine j_aload_nR h dX2_litLanterns_2 rfl ?_
  refine x2_get0 h hin2 (by decide +kernel) dX2_litLanterns_3 (by first | exact hx.c (by omega) | exact hx.l (by omega) | exact hx.r (by omega) | exact hx.s (by omega)) ?_
  refine j_astore_nR (i := 2) h dX2_litLanterns_6 rfl (by decide) ?_
  refine j_aload_nR h dX2_litLanterns_7 rfl ?_
  refine x2_alen0 h dX2_litLanterns_8 (by first | exact hx.c (by omega) | exact hx.l (by omega) | exact hx.r (by omega) | exact hx.s (by omega)) ?_
  refine j_istore_n (i := 3) h dX2_litLanterns_9 rfl (by decide) ?_
  refine j_iconst (v := 0) h dX2_litLanterns_10 (by decide) ?_
  refine j_istore h dX2_litLanterns_11 (by decide) ?_
  refine jj_loop (fun i : Nat => [(1, .int (ltS f (min i n))), (2, .ref (ad 1)), (3, .int 24), (4, .int (nI i))]) (fun i : Nat => (wX cI cL cR ad C f)) (fun i : Nat => i ≤ 24) (fun i : Nat => 24 - i) 0 ⟨by rw [show min 0 n = 0 by omega]; rfl, rfl, rfl, rfl, trivial⟩ rfl (by first | omega | exact ⟨by omega, by rw [Nat.zero_min]; rfl⟩) (fun i hi ihi => ?_)
  refine j_iload h dX2_litLanterns_13 rfl ?_
  refine j_iload_n h dX2_litLanterns_15 rfl ?_
  refine j_icmp_ge (tgt := 48) h dX2_litLanterns_16 (by decide) (fun c16 => ?_) (fun c16 => ?_)
  · -- t
    rw [show (24 : Int32) = nI 24 from rfl, nI_leI (by omega) (by omega)] at c16
    refine j_iload_n h dX2_litLanterns_48 rfl ?_
    exact j_iret h hrt hlk dX2_litLanterns_49 (by decide) (by decide) (⟨by rw [show min i n = n by omega], rfl⟩)
  · -- f
    rw [show (24 : Int32) = nI 24 from rfl, nI_leI (by omega) (by omega)] at c16
    refine j_aload_nR h dX2_litLanterns_19 rfl ?_
    refine j_iload h dX2_litLanterns_20 rfl ?_
    refine xl_ald0 h (by first | assumption | exact hx.up (by omega) _ _ | exact (hx.up (by omega) _ _).up (by omega) _ _) dX2_litLanterns_22 rfl (by omega) (fun e22 => ?_) (fun e22 => ?_)
    · -- n
      have hE : ltS f (min (i + 1) n) = ltS f (min i n) := by rw [show min (i + 1) n = min i n by omega]
      refine j_astoreN h dX2_litLanterns_23 (by decide) ?_
      refine j_aload h dX2_litLanterns_25 rfl (Or.inl rfl) ?_
      refine j_ifnullN (tgt := 42) h dX2_litLanterns_27 (by decide) ?_
      refine j_iinc h dX2_litLanterns_42 rfl rfl (by decide) ?_
      refine j_goto (tgt := 13) h dX2_litLanterns_45 (by decide) ?_
      exact ihi (i + 1) (by omega) (by omega) _ ⟨by rw [hE]; rfl, rfl, rfl, by simp [lget, nI_succ], trivial⟩
    · -- r
      have hmi : min i n = i := by omega
      have hmi1 : min (i + 1) n = i + 1 := by omega
      refine j_astoreR h dX2_litLanterns_23 (by decide) ?_
      refine j_aloadR h dX2_litLanterns_25 rfl ?_
      refine j_ifnullR h dX2_litLanterns_27 ?_
      refine j_aloadR h dX2_litLanterns_30 rfl ?_
      refine x0_get3 h hin0 (by decide +kernel) dX2_litLanterns_32 (by omega) (by first | exact hx.c (by omega) | exact hx.l (by omega) | exact hx.r (by omega) | exact hx.s (by omega)) ?_
      refine j_iconst (v := 1) h dX2_litLanterns_35 (by decide) ?_
      refine j_icmp_ne (tgt := 42) h dX2_litLanterns_36 (by decide) (fun c36 => ?_) (fun c36 => ?_)
      · -- t
        have hE : ltS f (min (i + 1) n) = ltS f (min i n) := by rw [hmi, hmi1, ltS, if_neg c36]; simp
        refine j_iinc h dX2_litLanterns_42 rfl rfl (by decide) ?_
        refine j_goto (tgt := 13) h dX2_litLanterns_45 (by decide) ?_
        exact ihi (i + 1) (by omega) (by omega) _ ⟨by rw [hE]; rfl, rfl, rfl, by simp [lget, nI_succ], trivial⟩
      · -- f
        have hE : ltS f (min (i + 1) n) = ltS f (min i n) + 1 := by rw [hmi, hmi1, ltS, if_pos c36]
        refine j_iinc h dX2_litLanterns_39 rfl rfl (by decide) ?_
        refine j_iinc h dX2_litLanterns_42 rfl rfl (by decide) ?_
        refine j_goto (tgt := 13) h dX2_litLanterns_45 (by decide) ?_
        exact ihi (i + 1) (by omega) (by omega) _ ⟨by rw [hE]; rfl, rfl, rfl, by simp [lget, nI_succ], trivial⟩
set_option maxHeartbeats 4000000 in
set_option maxRecDepth 100000 in
theorem c_X2_raftsOnRiver {l : Launch} {D : va_G} {cI cL cR : ClassId} {ad : Nat → Nat} {f : St} {C : List Nat} {n b q : Nat} (hx : xw n b q f C) : ctI l D vwCl (tyW cI cL cR) yX2_raftsOnRiver wsX2_raftsOnRiver { frames := 0, cells := 0, slots := 0, locals := 0 } [.ref (ad 0)] (wX cI cL cR ad C f) (fun v u => v = (roS f q) ∧ u = (wX cI cL cR ad C f)) 0 0 := by
  refine ctI_of (cc := cX2_raftsOnRiver) (maxL := 6) (ret := (some .int)) (by decide) rfl rfl (Nat.le_of_ble_eq_true rfl) (by simp [Value.category]) [(0, .ref (ad 0))] rfl ?_
  intro p e s m args below meth c sz h hrt hlk hnm
  have hin1 : ∀ x ∈ wsX10, x ∈ wsX2_raftsOnRiver := by decide +kernel
  have hin2 : ∀ x ∈ wsX20, x ∈ wsX2_raftsOnRiver := by decide +kernel
  have hn24 := hx.1
  have hb8 := hx.2.1
  have hq8 := hx.2.2.1
  refine j_iconst (v := 0) h dX2_raftsOnRiver_0 (by decide) ?_
  refine j_istore_n (i := 1) h dX2_raftsOnRiver_1 rfl (by decide) ?_
  refine j_aload_nR h dX2_raftsOnRiver_2 rfl ?_
  refine x2_get2 h hin2 (by decide +kernel) dX2_raftsOnRiver_3 (by first | exact hx.c (by omega) | exact hx.l (by omega) | exact hx.r (by omega) | exact hx.s (by omega)) ?_
  refine j_astore_nR (i := 2) h dX2_raftsOnRiver_6 rfl (by decide) ?_
  refine j_aload_nR h dX2_raftsOnRiver_7 rfl ?_
  refine x2_alen2 h dX2_raftsOnRiver_8 (by first | exact hx.c (by omega) | exact hx.l (by omega) | exact hx.r (by omega) | exact hx.s (by omega)) ?_
  refine j_istore_n (i := 3) h dX2_raftsOnRiver_9 rfl (by decide) ?_
  refine j_iconst (v := 0) h dX2_raftsOnRiver_10 (by decide) ?_
  refine j_istore h dX2_raftsOnRiver_11 (by decide) ?_
  refine jj_loop (fun i : Nat => [(1, .int (roS f (min i q))), (2, .ref (ad 3)), (3, .int 8), (4, .int (nI i))]) (fun i : Nat => (wX cI cL cR ad C f)) (fun i : Nat => i ≤ 8) (fun i : Nat => 8 - i) 0 ⟨by rw [show min 0 q = 0 by omega]; rfl, rfl, rfl, rfl, trivial⟩ rfl (by first | omega | exact ⟨by omega, by rw [Nat.zero_min]; rfl⟩) (fun i hi ihi => ?_)
  refine j_iload h dX2_raftsOnRiver_13 rfl ?_
  refine j_iload_n h dX2_raftsOnRiver_15 rfl ?_
  refine j_icmp_ge (tgt := 48) h dX2_raftsOnRiver_16 (by decide) (fun c16 => ?_) (fun c16 => ?_)
  · -- t
    rw [show (8 : Int32) = nI 8 from rfl, nI_leI (by omega) (by omega)] at c16
    refine j_iload_n h dX2_raftsOnRiver_48 rfl ?_
    exact j_iret h hrt hlk dX2_raftsOnRiver_49 (by decide) (by decide) (⟨by rw [show min i q = q by omega], rfl⟩)
  · -- f
    rw [show (8 : Int32) = nI 8 from rfl, nI_leI (by omega) (by omega)] at c16
    refine j_aload_nR h dX2_raftsOnRiver_19 rfl ?_
    refine j_iload h dX2_raftsOnRiver_20 rfl ?_
    refine xl_ald2 h (by first | assumption | exact hx.up (by omega) _ _ | exact (hx.up (by omega) _ _).up (by omega) _ _) dX2_raftsOnRiver_22 rfl (by omega) (fun e22 => ?_) (fun r22 hq22 hr22 e22 => ?_)
    · -- n
      have hE : roS f (min (i + 1) q) = roS f (min i q) := by rw [show min (i + 1) q = min i q by omega]
      refine j_astoreN h dX2_raftsOnRiver_23 (by decide) ?_
      refine j_aload h dX2_raftsOnRiver_25 rfl (Or.inl rfl) ?_
      refine j_ifnullN (tgt := 42) h dX2_raftsOnRiver_27 (by decide) ?_
      refine j_iinc h dX2_raftsOnRiver_42 rfl rfl (by decide) ?_
      refine j_goto (tgt := 13) h dX2_raftsOnRiver_45 (by decide) ?_
      exact ihi (i + 1) (by omega) (by omega) _ ⟨by rw [hE]; rfl, rfl, rfl, by simp [lget, nI_succ], trivial⟩
    · -- r
      have hmi : min i q = i := by omega
      have hmi1 : min (i + 1) q = i + 1 := by omega
      have hrc : (nI r22).toNatClampNeg = r22 := nI_clamp (by omega)
      refine j_astoreR h dX2_raftsOnRiver_23 (by decide) ?_
      refine j_aloadR h dX2_raftsOnRiver_25 rfl ?_
      refine j_ifnullR h dX2_raftsOnRiver_27 ?_
      refine j_aloadR h dX2_raftsOnRiver_30 rfl ?_
      refine x1_get4 h hin1 (by decide +kernel) dX2_raftsOnRiver_32 (by omega) (by first | exact hx.c (by omega) | exact hx.l (by omega) | exact hx.r (by omega) | exact hx.s (by omega)) ?_
      refine j_iconst (v := 1) h dX2_raftsOnRiver_35 (by decide) ?_
      refine j_icmp_ne (tgt := 42) h dX2_raftsOnRiver_36 (by decide) (fun c36 => ?_) (fun c36 => ?_)
      · -- t
        have hE : roS f (min (i + 1) q) = roS f (min i q) := by rw [hmi, hmi1, roS, e22, hrc, if_neg c36]; simp
        refine j_iinc h dX2_raftsOnRiver_42 rfl rfl (by decide) ?_
        refine j_goto (tgt := 13) h dX2_raftsOnRiver_45 (by decide) ?_
        exact ihi (i + 1) (by omega) (by omega) _ ⟨by rw [hE]; rfl, rfl, rfl, by simp [lget, nI_succ], trivial⟩
      · -- f
        have hE : roS f (min (i + 1) q) = roS f (min i q) + 1 := by rw [hmi, hmi1, roS, e22, hrc, if_pos c36]
        refine j_iinc h dX2_raftsOnRiver_39 rfl rfl (by decide) ?_
        refine j_iinc h dX2_raftsOnRiver_42 rfl rfl (by decide) ?_
        refine j_goto (tgt := 13) h dX2_raftsOnRiver_45 (by decide) ?_
        exact ihi (i + 1) (by omega) (by omega) _ ⟨by rw [hE]; rfl, rfl, rfl, by simp [lget, nI_succ], trivial⟩
set_option maxHeartbeats 4000000 in
set_option maxRecDepth 100000 in
theorem c_X2_burnCandles {l : Launch} {D : va_G} {cI cL cR : ClassId} {ad : Nat → Nat} {f : St} {C : List Nat} {n b q : Nat} (hx : xw n b q f C) (hlf : lfF f n) : ctV l D vwCl (tyW cI cL cR) yX2_burnCandles wsX2_burnCandles { frames := 1, cells := 0, slots := 0, locals := 20 } [.ref (ad 0)] (wX cI cL cR ad C f) (fun u => u = wX cI cL cR ad C (buF f n)) 0 0 := by
  refine ctV_of (cc := cX2_burnCandles) (maxL := 5) (ret := none) (by decide) rfl rfl (Nat.le_of_ble_eq_true rfl) (by simp [Value.category]) [(0, .ref (ad 0))] rfl ?_
  intro p e s m args below meth c sz h hrt hlk hnm
  have hin0 : ∀ x ∈ wsX00, x ∈ wsX2_burnCandles := by decide +kernel
  have hin2 : ∀ x ∈ wsX20, x ∈ wsX2_burnCandles := by decide +kernel
  have hn24 := hx.1
  have hb8 := hx.2.1
  have hq8 := hx.2.2.1
  refine j_aload_nR h dX2_burnCandles_0 rfl ?_
  refine x2_get0 h hin2 (by decide +kernel) dX2_burnCandles_1 (by first | exact hx.c (by omega) | exact hx.l (by omega) | exact hx.r (by omega) | exact hx.s (by omega)) ?_
  refine j_astore_nR (i := 1) h dX2_burnCandles_4 rfl (by decide) ?_
  refine j_aload_nR h dX2_burnCandles_5 rfl ?_
  refine x2_alen0 h dX2_burnCandles_6 (by first | exact hx.c (by omega) | exact hx.l (by omega) | exact hx.r (by omega) | exact hx.s (by omega)) ?_
  refine j_istore_n (i := 2) h dX2_burnCandles_7 rfl (by decide) ?_
  refine j_iconst (v := 0) h dX2_burnCandles_8 (by decide) ?_
  refine j_istore_n (i := 3) h dX2_burnCandles_9 rfl (by decide) ?_
  refine jj_loop (fun i : Nat => [(1, .ref (ad 1)), (2, .int 24), (3, .int (nI i))]) (fun i : Nat => wX cI cL cR ad C (buF f (min i n))) (fun i : Nat => i ≤ 24) (fun i : Nat => 24 - i) 0 ⟨rfl, rfl, rfl, trivial⟩ rfl (by first | omega | exact ⟨by omega, by rw [Nat.zero_min]; rfl⟩) (fun i hi ihi => ?_)
  have hxi := hx.bu (min i n)
  refine j_iload_n h dX2_burnCandles_10 rfl ?_
  refine j_iload_n h dX2_burnCandles_11 rfl ?_
  refine j_icmp_ge (tgt := 45) h dX2_burnCandles_12 (by decide) (fun c12 => ?_) (fun c12 => ?_)
  · -- t
    rw [show (24 : Int32) = nI 24 from rfl, nI_leI (by omega) (by omega)] at c12
    exact j_vret h hrt hlk dX2_burnCandles_45 (by decide) (by decide) (by rw [show min i n = n by omega])
  · -- f
    rw [show (24 : Int32) = nI 24 from rfl, nI_leI (by omega) (by omega)] at c12
    refine j_aload_nR h dX2_burnCandles_15 rfl ?_
    refine j_iload_n h dX2_burnCandles_16 rfl ?_
    refine xl_ald0 h hxi dX2_burnCandles_17 rfl (by omega) (fun e17 => ?_) (fun e17 => ?_)
    · -- n
      have hE : buF f (min (i + 1) n) = buF f (min i n) := by rw [show min (i + 1) n = min i n by omega]
      refine j_astoreN h dX2_burnCandles_18 (by decide) ?_
      refine j_aload h dX2_burnCandles_20 rfl (Or.inl rfl) ?_
      refine j_ifnullN (tgt := 39) h dX2_burnCandles_22 (by decide) ?_
      refine j_iinc h dX2_burnCandles_39 rfl rfl (by decide) ?_
      refine j_goto (tgt := 10) h dX2_burnCandles_42 (by decide) ?_
      exact jj_ws (by rw [hE]) (ihi (i + 1) (by omega) (by omega) _ ⟨rfl, rfl, by simp [lget, nI_succ], trivial⟩)
    · -- r
      have hmi : min i n = i := by omega
      have hmi1 : min (i + 1) n = i + 1 := by omega
      have h3 : buF f (min i n) 3 i = f 3 i := buF_get f _ (by omega) (Or.inl rfl)
      have h4 : buF f (min i n) 4 i = f 4 i := buF_get f _ (by omega) (Or.inr rfl)
      refine j_astoreR h dX2_burnCandles_18 (by decide) ?_
      refine j_aloadR h dX2_burnCandles_20 rfl ?_
      refine j_ifnullR h dX2_burnCandles_22 ?_
      refine j_aloadR h dX2_burnCandles_25 rfl ?_
      refine x0_get3 h hin0 (by decide +kernel) dX2_burnCandles_27 (by omega) (by first | exact hx.c (by omega) | exact hx.l (by omega) | exact hx.r (by omega) | exact hx.s (by omega)) ?_
      refine j_iconst (v := 1) h dX2_burnCandles_30 (by decide) ?_
      refine j_icmp_ne (tgt := 39) h dX2_burnCandles_31 (by decide) (fun c31 => ?_) (fun c31 => ?_)
      · -- t
        have hE : buF f (min (i + 1) n) = buF f (min i n) := by rw [hmi, hmi1, buF, if_neg (by rw [hmi] at c31; exact c31)]
        refine j_iinc h dX2_burnCandles_39 rfl rfl (by decide) ?_
        refine j_goto (tgt := 10) h dX2_burnCandles_42 (by decide) ?_
        exact jj_ws (by rw [hE]) (ihi (i + 1) (by omega) (by omega) _ ⟨rfl, rfl, by simp [lget, nI_succ], trivial⟩)
      · -- f
        obtain ⟨a, ha1, ha2, ha⟩ := hlf i (by omega) (h3.symm.trans c31)
        refine j_aloadR h dX2_burnCandles_34 rfl ?_
        refine xc0_callVV h (by omega) dX2_burnCandles_36 (c_X0_burnOneMinute hxi (k := i) (a := a) (by omega) c31 (h4.trans ha) ha1 (by omega)) (cwV 0 h.2.2.2.2.1 gX2_burnCandles_X0_burnOneMinute rfl rfl rfl (by decide +kernel) ⟨Nat.le_of_ble_eq_true rfl, Nat.le_of_ble_eq_true rfl⟩) (by first | exact hx.c (by omega) | exact hx.l (by omega) | exact hx.r (by omega) | exact hx.s (by omega)) rfl rfl (Nat.le_of_ble_eq_true rfl) ⟨Nat.le_of_ble_eq_true rfl, Nat.le_of_ble_eq_true rfl⟩ (fun u36 hu36 => ?_)
        obtain rfl := hu36
        have hE : buF f (min (i + 1) n) = up2 (up2 (buF f (min i n)) 4 i (buF f (min i n) 4 i - 1)) 3 i (if buF f (min i n) 4 i - 1 = 0 then 2 else 1) := by rw [hmi1, buF, if_pos (by rw [hmi] at c31; exact c31), hmi]
        refine j_iinc h dX2_burnCandles_39 rfl rfl (by decide) ?_
        refine j_goto (tgt := 10) h dX2_burnCandles_42 (by decide) ?_
        exact jj_ws (by rw [hE]) (ihi (i + 1) (by omega) (by omega) _ ⟨rfl, rfl, by simp [lget, nI_succ], trivial⟩)
set_option maxHeartbeats 4000000 in
set_option maxRecDepth 100000 in
theorem c_X2_sendMarshal {l : Launch} {D : va_G} {cI cL cR : ClassId} {ad : Nat → Nat} {f : St} {C : List Nat} {n b q : Nat} (hx : xw n b q f C) (hst : stO f n) (hlp : lpF f n) : ctV l D vwCl (tyW cI cL cR) yX2_sendMarshal wsX2_sendMarshal { frames := 4, cells := 0, slots := 0, locals := 88 } [.ref (ad 0)] (wX cI cL cR ad C f) (fun u => u = wX cI cL cR ad C (maF f n)) 0 0 := by
  refine ctV_of (cc := cX2_sendMarshal) (maxL := 3) (ret := none) (by decide) rfl rfl (Nat.le_of_ble_eq_true rfl) (by simp [Value.category]) [(0, .ref (ad 0))] rfl ?_
  intro p e s m args below meth c sz h hrt hlk hnm
  have hin0 : ∀ x ∈ wsX00, x ∈ wsX2_sendMarshal := by decide +kernel
  have hin2 : ∀ x ∈ wsX20, x ∈ wsX2_sendMarshal := by decide +kernel
  have hn24 := hx.1
  have hb8 := hx.2.1
  have hq8 := hx.2.2.1
  refine j_iconst (v := 0) h dX2_sendMarshal_0 (by decide) ?_
  refine j_istore_n (i := 1) h dX2_sendMarshal_1 rfl (by decide) ?_
  refine jj_loop (fun i : Nat => [(0, .ref (ad 0)), (1, .int (nI i))]) (fun i : Nat => wX cI cL cR ad C (maF f (min i n))) (fun i : Nat => i ≤ 24) (fun i : Nat => 24 - i) 0 ⟨rfl, rfl, trivial⟩ rfl (by first | omega | exact ⟨by omega, by rw [Nat.zero_min]; rfl⟩) (fun i hi ihi => ?_)
  have hxi := hx.ma (min i n)
  have hsi := hst.ma (min i n)
  have hli : lpF (maF f (min i n)) n := hlp.dec (dec.ma _ _) (kp_ma (by decide) (by decide) _ _)
  refine j_iload_n h dX2_sendMarshal_2 rfl ?_
  refine j_aload_nR h dX2_sendMarshal_3 rfl ?_
  refine x2_get0 h hin2 (by decide +kernel) dX2_sendMarshal_4 (by first | exact hx.c (by omega) | exact hx.l (by omega) | exact hx.r (by omega) | exact hx.s (by omega)) ?_
  refine x2_alen0 h dX2_sendMarshal_7 (by first | exact hx.c (by omega) | exact hx.l (by omega) | exact hx.r (by omega) | exact hx.s (by omega)) ?_
  refine j_icmp_ge (tgt := 59) h dX2_sendMarshal_8 (by decide) (fun c8 => ?_) (fun c8 => ?_)
  · -- t
    rw [show (24 : Int32) = nI 24 from rfl, nI_leI (by omega) (by omega)] at c8
    exact j_vret h hrt hlk dX2_sendMarshal_59 (by decide) (by decide) (by rw [show min i n = n by omega])
  · -- f
    rw [show (24 : Int32) = nI 24 from rfl, nI_leI (by omega) (by omega)] at c8
    refine j_aload_nR h dX2_sendMarshal_11 rfl ?_
    refine x2_get0 h hin2 (by decide +kernel) dX2_sendMarshal_12 (by first | exact hx.c (by omega) | exact hx.l (by omega) | exact hx.r (by omega) | exact hx.s (by omega)) ?_
    refine j_iload_n h dX2_sendMarshal_15 rfl ?_
    refine xl_ald0 h hxi dX2_sendMarshal_16 rfl (by omega) (fun e16 => ?_) (fun e16 => ?_)
    · -- n
      have hE : maF f (min (i + 1) n) = maF f (min i n) := by rw [show min (i + 1) n = min i n by omega]
      refine j_astore_nN (i := 2) h dX2_sendMarshal_17 rfl (by decide) ?_
      refine j_aload_n h dX2_sendMarshal_18 rfl (Or.inl rfl) ?_
      refine j_ifnullN (tgt := 53) h dX2_sendMarshal_19 (by decide) ?_
      refine j_iinc h dX2_sendMarshal_53 rfl rfl (by decide) ?_
      refine j_goto (tgt := 2) h dX2_sendMarshal_56 (by decide) ?_
      exact jj_ws (by rw [hE]) (ihi (i + 1) (by omega) (by omega) _ ⟨rfl, by simp [lget, nI_succ], trivial⟩)
    · -- r
      have hmi : min i n = i := by omega
      have hmi1 : min (i + 1) n = i + 1 := by omega
      rw [hmi] at hxi hsi hli ⊢
      refine j_astore_nR (i := 2) h dX2_sendMarshal_17 rfl (by decide) ?_
      refine j_aload_nR h dX2_sendMarshal_18 rfl ?_
      refine j_ifnullR h dX2_sendMarshal_19 ?_
      refine j_aload_nR h dX2_sendMarshal_22 rfl ?_
      refine x0_get3 h hin0 (by decide +kernel) dX2_sendMarshal_23 (by omega) (by first | exact hx.c (by omega) | exact hx.l (by omega) | exact hx.r (by omega) | exact hx.s (by omega)) ?_
      refine j_iconst (v := 1) h dX2_sendMarshal_26 (by decide) ?_
      refine j_icmp_ne (tgt := 53) h dX2_sendMarshal_27 (by decide) (fun c27 => ?_) (fun c27 => ?_)
      · -- t
        have hE : maF f (min (i + 1) n) = maF f i := by rw [hmi1, maF, if_neg (fun z => c27 z.1)]
        refine j_iinc h dX2_sendMarshal_53 rfl rfl (by decide) ?_
        refine j_goto (tgt := 2) h dX2_sendMarshal_56 (by decide) ?_
        exact jj_ws (by rw [hE]) (ihi (i + 1) (by omega) (by omega) _ ⟨rfl, by simp [lget, nI_succ], trivial⟩)
      · -- f
        refine j_aload_nR h dX2_sendMarshal_30 rfl ?_
        refine j_aload_nR h dX2_sendMarshal_31 rfl ?_
        refine j_iload_n h dX2_sendMarshal_32 rfl ?_
        refine xc2_callVI h dX2_sendMarshal_33 (c_X2_isCrowded hxi (k := i) (B := i) (by omega) (by omega) (hli i (by omega) c27) hli (Or.inr (Nat.le_refl i))) (cwV 2 h.2.2.2.2.1 gX2_sendMarshal_X2_isCrowded rfl rfl rfl (by decide +kernel) ⟨Nat.le_of_ble_eq_true rfl, Nat.le_of_ble_eq_true rfl⟩) (by first | exact hx.c (by omega) | exact hx.l (by omega) | exact hx.r (by omega) | exact hx.s (by omega)) rfl rfl (Nat.le_of_ble_eq_true rfl) ⟨Nat.le_of_ble_eq_true rfl, Nat.le_of_ble_eq_true rfl⟩ (fun r33 u33 hu33 => ?_)
        obtain ⟨rfl, rfl⟩ := hu33
        rw [hmi]
        refine j_if_eq (tgt := 53) h dX2_sendMarshal_36 (by decide) (fun c36 => ?_) (fun c36 => ?_)
        · -- t
          have hE : maF f (min (i + 1) n) = maF f i := by rw [hmi1, maF, if_neg (fun z => by rw [z.2] at c36; exact absurd c36 (by decide))]
          refine j_iinc h dX2_sendMarshal_53 rfl rfl (by decide) ?_
          refine j_goto (tgt := 2) h dX2_sendMarshal_56 (by decide) ?_
          exact jj_ws (by rw [hE]) (ihi (i + 1) (by omega) (by omega) _ ⟨rfl, by simp [lget, nI_succ], trivial⟩)
        · -- f
          refine j_aload_nR h dX2_sendMarshal_39 rfl ?_
          refine xc0_callVV h (by omega) dX2_sendMarshal_40 (c_X0_darken hxi (k := i) (by omega) hsi) (cwV 0 h.2.2.2.2.1 gX2_sendMarshal_X0_darken rfl rfl rfl (by decide +kernel) ⟨Nat.le_of_ble_eq_true rfl, Nat.le_of_ble_eq_true rfl⟩) (by first | exact hx.c (by omega) | exact hx.l (by omega) | exact hx.r (by omega) | exact hx.s (by omega)) rfl rfl (Nat.le_of_ble_eq_true rfl) ⟨Nat.le_of_ble_eq_true rfl, Nat.le_of_ble_eq_true rfl⟩ (fun u40 hu40 => ?_)
          obtain rfl := hu40
          have hE : maF f (min (i + 1) n) = up2 (dkF (maF f i) i) 20 0 (dkF (maF f i) i 20 0 + 1) := by rw [hmi1, maF, if_pos ⟨c27, bi_n0.mp c36⟩, dkF_1 c27]; rfl
          refine j_aload_nR h dX2_sendMarshal_43 rfl ?_
          refine j_dup h dX2_sendMarshal_44 rfl ?_
          refine x2_get11 h hin2 (by decide +kernel) dX2_sendMarshal_45 (by first | exact hx.c (by omega) | exact hx.l (by omega) | exact hx.r (by omega) | exact hx.s (by omega)) ?_
          refine j_iconst (v := 1) h dX2_sendMarshal_48 (by decide) ?_
          refine j_iadd h dX2_sendMarshal_49 ?_
          refine x2_put11 h hin2 (by decide +kernel) dX2_sendMarshal_50 (by first | exact hx.c (by omega) | exact hx.l (by omega) | exact hx.r (by omega) | exact hx.s (by omega)) ?_
          refine j_iinc h dX2_sendMarshal_53 rfl rfl (by decide) ?_
          refine j_goto (tgt := 2) h dX2_sendMarshal_56 (by decide) ?_
          exact jj_ws (by rw [hE]) (ihi (i + 1) (by omega) (by omega) _ ⟨rfl, by simp [lget, nI_succ], trivial⟩)
set_option maxHeartbeats 4000000 in
set_option maxRecDepth 100000 in
theorem c_X2_blowGust {l : Launch} {D : va_G} {cI cL cR : ClassId} {ad : Nat → Nat} {f : St} {C : List Nat} {n b q : Nat} {tm : Nat} (hx : xw n b q f C) (hst : stO f n) (ht : f 18 0 = nI tm) (htm : tm < 2 ^ 30) (htm1 : 1 ≤ tm) : ctV l D vwCl (tyW cI cL cR) yX2_blowGust wsX2_blowGust { frames := 1, cells := 0, slots := 0, locals := 22 } [.ref (ad 0)] (wX cI cL cR ad C f) (fun u => u = wX cI cL cR ad C (blF f (guF f tm) n)) 0 0 := by
  refine ctV_of (cc := cX2_blowGust) (maxL := 6) (ret := none) (by decide) rfl rfl (Nat.le_of_ble_eq_true rfl) (by simp [Value.category]) [(0, .ref (ad 0))] rfl ?_
  intro p e s m args below meth c sz h hrt hlk hnm
  have hin0 : ∀ x ∈ wsX00, x ∈ wsX2_blowGust := by decide +kernel
  have hin2 : ∀ x ∈ wsX20, x ∈ wsX2_blowGust := by decide +kernel
  have hn24 := hx.1
  have hb8 := hx.2.1
  have hq8 := hx.2.2.1
  refine jj_cut 27 [(0, .ref (ad 0))] [] (fun v => v = guF f tm) (fun v27 hv27 => ?_) (fun cut27 => ?_)
  · -- behind
    obtain rfl := hv27
    refine j_istore_n (i := 1) h dX2_blowGust_27 rfl (by decide) ?_
    refine j_aload_nR h dX2_blowGust_28 rfl ?_
    refine x2_get0 h hin2 (by decide +kernel) dX2_blowGust_29 (by first | exact hx.c (by omega) | exact hx.l (by omega) | exact hx.r (by omega) | exact hx.s (by omega)) ?_
    refine j_astore_nR (i := 2) h dX2_blowGust_32 rfl (by decide) ?_
    refine j_aload_nR h dX2_blowGust_33 rfl ?_
    refine x2_alen0 h dX2_blowGust_34 (by first | exact hx.c (by omega) | exact hx.l (by omega) | exact hx.r (by omega) | exact hx.s (by omega)) ?_
    refine j_istore_n (i := 3) h dX2_blowGust_35 rfl (by decide) ?_
    refine j_iconst (v := 0) h dX2_blowGust_36 (by decide) ?_
    refine j_istore h dX2_blowGust_37 (by decide) ?_
    refine jj_loop (fun i : Nat => [(0, .ref (ad 0)), (1, .int (guF f tm)), (2, .ref (ad 1)), (3, .int 24), (4, .int (nI i))]) (fun i : Nat => wX cI cL cR ad C (blF f (guF f tm) (min i n))) (fun i : Nat => i ≤ 24) (fun i : Nat => 24 - i) 0 ⟨rfl, rfl, rfl, rfl, rfl, trivial⟩ rfl (by first | omega | exact ⟨by omega, by rw [Nat.zero_min]; rfl⟩) (fun i hi ihi => ?_)
    have hxi := hx.bl (guF f tm) (min i n)
    have hsi := hst.bl (guF f tm) (min i n)
    refine j_iload h dX2_blowGust_39 rfl ?_
    refine j_iload_n h dX2_blowGust_41 rfl ?_
    refine j_icmp_ge (tgt := 95) h dX2_blowGust_42 (by decide) (fun c42 => ?_) (fun c42 => ?_)
    · -- t
      rw [show (24 : Int32) = nI 24 from rfl, nI_leI (by omega) (by omega)] at c42
      exact j_vret h hrt hlk dX2_blowGust_95 (by decide) (by decide) (by rw [show min i n = n by omega])
    · -- f
      rw [show (24 : Int32) = nI 24 from rfl, nI_leI (by omega) (by omega)] at c42
      refine j_aload_nR h dX2_blowGust_45 rfl ?_
      refine j_iload h dX2_blowGust_46 rfl ?_
      refine xl_ald0 h hxi dX2_blowGust_48 rfl (by omega) (fun e48 => ?_) (fun e48 => ?_)
      · -- n
        have hE : blF f (guF f tm) (min (i + 1) n) = blF f (guF f tm) (min i n) := by rw [show min (i + 1) n = min i n by omega]
        refine j_astoreN h dX2_blowGust_49 (by decide) ?_
        refine j_aload h dX2_blowGust_51 rfl (Or.inl rfl) ?_
        refine j_ifnullN (tgt := 89) h dX2_blowGust_53 (by decide) ?_
        refine j_iinc h dX2_blowGust_89 rfl rfl (by decide) ?_
        refine j_goto (tgt := 39) h dX2_blowGust_92 (by decide) ?_
        exact jj_ws (by rw [hE]) (ihi (i + 1) (by omega) (by omega) _ ⟨rfl, rfl, rfl, rfl, by simp [lget, nI_succ], trivial⟩)
      · -- r
        have hmi : min i n = i := by omega
        have hmi1 : min (i + 1) n = i + 1 := by omega
        rw [hmi] at hxi hsi ⊢
        refine j_astoreR h dX2_blowGust_49 (by decide) ?_
        refine j_aloadR h dX2_blowGust_51 rfl ?_
        refine j_ifnullR h dX2_blowGust_53 ?_
        refine j_aloadR h dX2_blowGust_56 rfl ?_
        refine x0_get3 h hin0 (by decide +kernel) dX2_blowGust_58 (by omega) (by first | exact hx.c (by omega) | exact hx.l (by omega) | exact hx.r (by omega) | exact hx.s (by omega)) ?_
        refine j_iconst (v := 1) h dX2_blowGust_61 (by decide) ?_
        refine j_icmp_ne (tgt := 89) h dX2_blowGust_62 (by decide) (fun c62 => ?_) (fun c62 => ?_)
        · -- t
          have hE : blF f (guF f tm) (min (i + 1) n) = blF f (guF f tm) i := by rw [hmi1, blF, if_neg (fun z => c62 z.1)]
          refine j_iinc h dX2_blowGust_89 rfl rfl (by decide) ?_
          refine j_goto (tgt := 39) h dX2_blowGust_92 (by decide) ?_
          exact jj_ws (by rw [hE]) (ihi (i + 1) (by omega) (by omega) _ ⟨rfl, rfl, rfl, rfl, by simp [lget, nI_succ], trivial⟩)
        · -- f
          refine j_aloadR h dX2_blowGust_65 rfl ?_
          refine xc0_callVI h (by omega) dX2_blowGust_67 (c_X0_firmness hxi (k := i) (by omega)) (cwV 0 h.2.2.2.2.1 gX2_blowGust_X0_firmness rfl rfl rfl (by decide +kernel) ⟨Nat.le_of_ble_eq_true rfl, Nat.le_of_ble_eq_true rfl⟩) (by first | exact hx.c (by omega) | exact hx.l (by omega) | exact hx.r (by omega) | exact hx.s (by omega)) rfl rfl (Nat.le_of_ble_eq_true rfl) ⟨Nat.le_of_ble_eq_true rfl, Nat.le_of_ble_eq_true rfl⟩ (fun r67 u67 hu67 => ?_)
          obtain ⟨rfl, rfl⟩ := hu67
          refine j_iload_n h dX2_blowGust_70 rfl ?_
          refine j_icmp_ge (tgt := 89) h dX2_blowGust_71 (by decide) (fun c71 => ?_) (fun c71 => ?_)
          · -- t
            have hE : blF f (guF f tm) (min (i + 1) n) = blF f (guF f tm) i := by rw [hmi1, blF, if_neg (fun z => absurd z.2 (Int32.not_lt.mpr c71))]
            refine j_iinc h dX2_blowGust_89 rfl rfl (by decide) ?_
            refine j_goto (tgt := 39) h dX2_blowGust_92 (by decide) ?_
            exact jj_ws (by rw [hE]) (ihi (i + 1) (by omega) (by omega) _ ⟨rfl, rfl, rfl, rfl, by simp [lget, nI_succ], trivial⟩)
          · -- f
            refine j_aloadR h dX2_blowGust_74 rfl ?_
            refine xc0_callVV h (by omega) dX2_blowGust_76 (c_X0_darken hxi (k := i) (by omega) hsi) (cwV 0 h.2.2.2.2.1 gX2_blowGust_X0_darken rfl rfl rfl (by decide +kernel) ⟨Nat.le_of_ble_eq_true rfl, Nat.le_of_ble_eq_true rfl⟩) (by first | exact hx.c (by omega) | exact hx.l (by omega) | exact hx.r (by omega) | exact hx.s (by omega)) rfl rfl (Nat.le_of_ble_eq_true rfl) ⟨Nat.le_of_ble_eq_true rfl, Nat.le_of_ble_eq_true rfl⟩ (fun u76 hu76 => ?_)
            obtain rfl := hu76
            have hE : blF f (guF f tm) (min (i + 1) n) = up2 (dkF (blF f (guF f tm) i) i) 19 0 (dkF (blF f (guF f tm) i) i 19 0 + 1) := by rw [hmi1, blF, if_pos ⟨c62, Int32.not_le.mp c71⟩, dkF_1 c62]; rfl
            refine j_aload_nR h dX2_blowGust_79 rfl ?_
            refine j_dup h dX2_blowGust_80 rfl ?_
            refine x2_get10 h hin2 (by decide +kernel) dX2_blowGust_81 (by first | exact hx.c (by omega) | exact hx.l (by omega) | exact hx.r (by omega) | exact hx.s (by omega)) ?_
            refine j_iconst (v := 1) h dX2_blowGust_84 (by decide) ?_
            refine j_iadd h dX2_blowGust_85 ?_
            refine x2_put10 h hin2 (by decide +kernel) dX2_blowGust_86 (by first | exact hx.c (by omega) | exact hx.l (by omega) | exact hx.r (by omega) | exact hx.s (by omega)) ?_
            refine j_iinc h dX2_blowGust_89 rfl rfl (by decide) ?_
            refine j_goto (tgt := 39) h dX2_blowGust_92 (by decide) ?_
            exact jj_ws (by rw [hE]) (ihi (i + 1) (by omega) (by omega) _ ⟨rfl, rfl, rfl, rfl, by simp [lget, nI_succ], trivial⟩)
  · -- ahead
    refine j_aload_nR h dX2_blowGust_0 rfl ?_
    refine x2_get7 h hin2 (by decide +kernel) dX2_blowGust_1 (by first | exact hx.c (by omega) | exact hx.l (by omega) | exact hx.r (by omega) | exact hx.s (by omega)) ?_
    refine j_iconst (v := 1) h dX2_blowGust_4 (by decide) ?_
    refine j_sipush (v := 400) h dX2_blowGust_5 (by decide) ?_
    rw [ht]
    refine j_callSI h dX2_blowGust_8 (c_X2_within) (va_cwS 3 h.2.2.2.2.1 gX2_blowGust_X2_within rfl rfl rfl (by decide +kernel) ⟨Nat.le_of_ble_eq_true rfl, Nat.le_of_ble_eq_true rfl⟩) rfl rfl (Nat.le_of_ble_eq_true rfl) ⟨Nat.le_of_ble_eq_true rfl, Nat.le_of_ble_eq_true rfl⟩ (fun r8 u8 hu8 => ?_)
    obtain ⟨rfl, rfl⟩ := hu8
    refine j_if_eq (tgt := 26) h dX2_blowGust_11 (by decide) (fun c11 => ?_) (fun c11 => ?_)
    · -- t
      have hle : ¬ tm ≤ 400 := fun z => absurd (bi_0.mp c11) (by rw [show inB (nI tm) 1 400 = true from inB_iff.mpr ⟨(nI_leI (a := 1) (b := tm) (by decide) (by omega)).mpr htm1, (nI_leI (a := tm) (b := 400) (by omega) (by decide)).mpr z⟩]; decide)
      refine j_iconst (v := 0) h dX2_blowGust_26 (by decide) ?_
      exact cut27 _ (by first | (rw [guF, if_pos (by omega)]; done) | (rw [guF, if_neg (by omega)]; done)) _ ⟨rfl, trivial⟩
    · -- f
      have hB := inB_iff.mp (bi_n0.mp c11)
      have hle : tm ≤ 400 := by have z := hB.2; rw [show (400 : Int32) = nI 400 from rfl, nI_leI (by omega) (by omega)] at z; exact z
      refine j_aload_nR h dX2_blowGust_14 rfl ?_
      refine x2_get3 h hin2 (by decide +kernel) dX2_blowGust_15 (by first | exact hx.c (by omega) | exact hx.l (by omega) | exact hx.r (by omega) | exact hx.s (by omega)) ?_
      refine j_aload_nR h dX2_blowGust_18 rfl ?_
      refine x2_get7 h hin2 (by decide +kernel) dX2_blowGust_19 (by first | exact hx.c (by omega) | exact hx.l (by omega) | exact hx.r (by omega) | exact hx.s (by omega)) ?_
      refine x2_ald3 h dX2_blowGust_22 (by first | exact hx.c (by omega) | exact hx.l (by omega) | exact hx.r (by omega) | exact hx.s (by omega)) ht (by omega) ?_
      refine j_goto (tgt := 27) h dX2_blowGust_23 (by decide) ?_
      exact cut27 _ (by first | (rw [guF, if_pos (by omega)]; done) | (rw [guF, if_neg (by omega)]; done)) _ ⟨rfl, trivial⟩
