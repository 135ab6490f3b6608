set_option maxHeartbeats 4000000 in
set_option maxRecDepth 100000 in
theorem c_X3_thrown {l : Launch} {D : va_G} {cI cL cR : ClassId} {ad : Nat → Nat} {f : St} {t : Int32}  : ctI l D vwCl (tyW cI cL cR) yX3_thrown wsX3_thrown { frames := 0, cells := 0, slots := 0, locals := 0 } [.ref (ad 0)] (wM cI ad f t) (fun r u => r = t ∧ u = (wM cI ad f t)) 0 0 := by
  refine ctI_of (cc := cX3_thrown) (maxL := 1) (ret := (some .int)) (by decide) rfl rfl (Nat.le_of_ble_eq_true rfl) (by simp [Value.category]) [(0, .ref (ad 0))] rfl ?_
  intro p e s m args below meth c sz h hrt hlk hnm
  have hin3 : ∀ x ∈ wsX30, x ∈ wsX3_thrown := by decide +kernel
  refine j_aload_nR h dX3_thrown_0 rfl ?_
  refine m_get21 h hin3 (by decide +kernel) dX3_thrown_1 ?_
  exact j_iret h hrt hlk dX3_thrown_4 (by decide) (by decide) (⟨rfl, rfl⟩)
set_option maxHeartbeats 4000000 in
set_option maxRecDepth 100000 in
theorem c_X3_in {l : Launch} {D : va_G} {cI cL cR : ClassId} {ws : va_W} {v a b : Int32}  : ctI l D vwCl (tyW cI cL cR) yX3_in wsX3_in { frames := 0, cells := 0, slots := 0, locals := 0 } [.int v, .int a, .int b] ws (fun r u => r = bi (inB v a b) ∧ u = ws) 0 0 := by
  refine ctI_of (cc := cX3_in) (maxL := 3) (ret := (some .boolean)) (by decide) rfl rfl (Nat.le_of_ble_eq_true rfl) (by simp [Value.category]) [(0, .int v), (1, .int a), (2, .int b)] rfl ?_
  intro p e s m args below meth c sz h hrt hlk hnm
  refine j_iload_n h dX3_in_0 rfl ?_
  refine j_iload_n h dX3_in_1 rfl ?_
  refine j_icmp_lt (tgt := 14) h dX3_in_2 (by decide) (fun c2 => ?_) (fun c2 => ?_)
  · -- t
    refine j_iconst (v := 0) h dX3_in_14 (by decide) ?_
    exact j_zret h hrt hlk dX3_in_15 (by first | exact Or.inl rfl | exact Or.inr rfl) (by decide) (by decide) (⟨by simp only [inB, bi_dec]; first | (rw [if_pos]; exact ⟨Int32.not_lt.mp c2, Int32.not_lt.mp c7⟩) | (rw [if_neg]; exact fun z => absurd z.1 (Int32.not_le.mpr c2)) | (rw [if_neg]; exact fun z => absurd z.2 (Int32.not_le.mpr c7)), rfl⟩)
  · -- f
    refine j_iload_n h dX3_in_5 rfl ?_
    refine j_iload_n h dX3_in_6 rfl ?_
    refine j_icmp_gt (tgt := 14) h dX3_in_7 (by decide) (fun c7 => ?_) (fun c7 => ?_)
    · -- t
      refine j_iconst (v := 0) h dX3_in_14 (by decide) ?_
      exact j_zret h hrt hlk dX3_in_15 (by first | exact Or.inl rfl | exact Or.inr rfl) (by decide) (by decide) (⟨by simp only [inB, bi_dec]; first | (rw [if_pos]; exact ⟨Int32.not_lt.mp c2, Int32.not_lt.mp c7⟩) | (rw [if_neg]; exact fun z => absurd z.1 (Int32.not_le.mpr c2)) | (rw [if_neg]; exact fun z => absurd z.2 (Int32.not_le.mpr c7)), rfl⟩)
    · -- f
      refine j_iconst (v := 1) h dX3_in_10 (by decide) ?_
      refine j_goto (tgt := 15) h dX3_in_11 (by decide) ?_
      exact j_zret h hrt hlk dX3_in_15 (by first | exact Or.inl rfl | exact Or.inr rfl) (by decide) (by decide) (⟨by simp only [inB, bi_dec]; first | (rw [if_pos]; exact ⟨Int32.not_lt.mp c2, Int32.not_lt.mp c7⟩) | (rw [if_neg]; exact fun z => absurd z.1 (Int32.not_le.mpr c2)) | (rw [if_neg]; exact fun z => absurd z.2 (Int32.not_le.mpr c7)), rfl⟩)
set_option maxHeartbeats 4000000 in
set_option maxRecDepth 100000 in
theorem c_X3_goes {l : Launch} {D : va_G} {cI cL cR : ClassId} {ad : Nat → Nat} {f : St} {t : Int32} {a b d : Int32}  : ctI l D vwCl (tyW cI cL cR) yX3_goes wsX3_goes { frames := 0, cells := 0, slots := 0, locals := 0 } [.ref (ad 0), .int a, .int b, .int d] (wM cI ad f t) (fun r u => r = bi (decide (gl a b d = 0)) ∧ u = wM cI ad f (gl a b d)) 0 0 := by
  refine ctI_of (cc := cX3_goes) (maxL := 4) (ret := (some .boolean)) (by decide) rfl rfl (Nat.le_of_ble_eq_true rfl) (by simp [Value.category]) [(0, .ref (ad 0)), (1, .int a), (2, .int b), (3, .int d)] rfl ?_
  intro p e s m args below meth c sz h hrt hlk hnm
  have hin3 : ∀ x ∈ wsX30, x ∈ wsX3_goes := by decide +kernel
  refine j_aload_nR h dX3_goes_0 rfl ?_
  refine j_iload_n h dX3_goes_1 rfl ?_
  refine j_if_ne (tgt := 9) h dX3_goes_2 (by decide) (fun c2 => ?_) (fun c2 => ?_)
  · -- t
    refine j_iload_n h dX3_goes_9 rfl ?_
    refine j_if_ne (tgt := 17) h dX3_goes_10 (by decide) (fun c10 => ?_) (fun c10 => ?_)
    · -- t
      refine j_iload_n h dX3_goes_17 rfl ?_
      refine j_if_eq (tgt := 25) h dX3_goes_18 (by decide) (fun c18 => ?_) (fun c18 => ?_)
      · -- t
        refine j_iconst (v := 3) h dX3_goes_25 (by decide) ?_
        refine m_put21 h hin3 (by decide +kernel) dX3_goes_26 ?_
        refine j_aload_nR h dX3_goes_29 rfl ?_
        refine m_get21 h hin3 (by decide +kernel) dX3_goes_30 ?_
        refine j_if_ne (tgt := 40) h dX3_goes_33 (by decide) (fun c33 => ?_) (fun c33 => ?_)
        · -- t
          refine j_iconst (v := 0) h dX3_goes_40 (by decide) ?_
          exact j_zret h hrt hlk dX3_goes_41 (by first | exact Or.inl rfl | exact Or.inr rfl) (by decide) (by decide) (⟨by simp_all [gl, bi], by simp_all [gl]⟩)
        · -- f
          refine j_iconst (v := 1) h dX3_goes_36 (by decide) ?_
          refine j_goto (tgt := 41) h dX3_goes_37 (by decide) ?_
          exact j_zret h hrt hlk dX3_goes_41 (by first | exact Or.inl rfl | exact Or.inr rfl) (by decide) (by decide) (⟨by simp_all [gl, bi], by simp_all [gl]⟩)
      · -- f
        refine j_iconst (v := 0) h dX3_goes_21 (by decide) ?_
        refine j_goto (tgt := 26) h dX3_goes_22 (by decide) ?_
        refine m_put21 h hin3 (by decide +kernel) dX3_goes_26 ?_
        refine j_aload_nR h dX3_goes_29 rfl ?_
        refine m_get21 h hin3 (by decide +kernel) dX3_goes_30 ?_
        refine j_if_ne (tgt := 40) h dX3_goes_33 (by decide) (fun c33 => ?_) (fun c33 => ?_)
        · -- t
          refine j_iconst (v := 0) h dX3_goes_40 (by decide) ?_
          exact j_zret h hrt hlk dX3_goes_41 (by first | exact Or.inl rfl | exact Or.inr rfl) (by decide) (by decide) (⟨by simp_all [gl, bi], by simp_all [gl]⟩)
        · -- f
          refine j_iconst (v := 1) h dX3_goes_36 (by decide) ?_
          refine j_goto (tgt := 41) h dX3_goes_37 (by decide) ?_
          exact j_zret h hrt hlk dX3_goes_41 (by first | exact Or.inl rfl | exact Or.inr rfl) (by decide) (by decide) (⟨by simp_all [gl, bi], by simp_all [gl]⟩)
    · -- f
      refine j_iconst (v := 2) h dX3_goes_13 (by decide) ?_
      refine j_goto (tgt := 26) h dX3_goes_14 (by decide) ?_
      refine m_put21 h hin3 (by decide +kernel) dX3_goes_26 ?_
      refine j_aload_nR h dX3_goes_29 rfl ?_
      refine m_get21 h hin3 (by decide +kernel) dX3_goes_30 ?_
      refine j_if_ne (tgt := 40) h dX3_goes_33 (by decide) (fun c33 => ?_) (fun c33 => ?_)
      · -- t
        refine j_iconst (v := 0) h dX3_goes_40 (by decide) ?_
        exact j_zret h hrt hlk dX3_goes_41 (by first | exact Or.inl rfl | exact Or.inr rfl) (by decide) (by decide) (⟨by simp_all [gl, bi], by simp_all [gl]⟩)
      · -- f
        refine j_iconst (v := 1) h dX3_goes_36 (by decide) ?_
        refine j_goto (tgt := 41) h dX3_goes_37 (by decide) ?_
        exact j_zret h hrt hlk dX3_goes_41 (by first | exact Or.inl rfl | exact Or.inr rfl) (by decide) (by decide) (⟨by simp_all [gl, bi], by simp_all [gl]⟩)
  · -- f
    refine j_iconst (v := 1) h dX3_goes_5 (by decide) ?_
    refine j_goto (tgt := 26) h dX3_goes_6 (by decide) ?_
    refine m_put21 h hin3 (by decide +kernel) dX3_goes_26 ?_
    refine j_aload_nR h dX3_goes_29 rfl ?_
    refine m_get21 h hin3 (by decide +kernel) dX3_goes_30 ?_
    refine j_if_ne (tgt := 40) h dX3_goes_33 (by decide) (fun c33 => ?_) (fun c33 => ?_)
    · -- t
      refine j_iconst (v := 0) h dX3_goes_40 (by decide) ?_
      exact j_zret h hrt hlk dX3_goes_41 (by first | exact Or.inl rfl | exact Or.inr rfl) (by decide) (by decide) (⟨by simp_all [gl, bi], by simp_all [gl]⟩)
    · -- f
      refine j_iconst (v := 1) h dX3_goes_36 (by decide) ?_
      refine j_goto (tgt := 41) h dX3_goes_37 (by decide) ?_
      exact j_zret h hrt hlk dX3_goes_41 (by first | exact Or.inl rfl | exact Or.inr rfl) (by decide) (by decide) (⟨by simp_all [gl, bi], by simp_all [gl]⟩)
set_option maxHeartbeats 4000000 in
set_option maxRecDepth 100000 in
theorem c_X3_isLantern {l : Launch} {D : va_G} {cI cL cR : ClassId} {ad : Nat → Nat} {f : St} {t : Int32} {x : Int32}  : ctI l D vwCl (tyW cI cL cR) yX3_isLantern wsX3_isLantern { frames := 1, cells := 0, slots := 0, locals := 22 } [.ref (ad 0), .int x] (wM cI ad f t) (fun r u => r = bi (isL f x) ∧ u = (wM cI ad f t)) 0 0 := by
  refine ctI_of (cc := cX3_isLantern) (maxL := 2) (ret := (some .boolean)) (by decide) rfl rfl (Nat.le_of_ble_eq_true rfl) (by simp [Value.category]) [(0, .ref (ad 0)), (1, .int x)] rfl ?_
  intro p e s m args below meth c sz h hrt hlk hnm
  have hin3 : ∀ x ∈ wsX30, x ∈ wsX3_isLantern := by decide +kernel
  refine j_iload_n h dX3_isLantern_0 rfl ?_
  refine j_iconst (v := 0) h dX3_isLantern_1 (by decide) ?_
  refine j_aload_nR h dX3_isLantern_2 rfl ?_
  refine m_get7 h hin3 (by decide +kernel) dX3_isLantern_3 ?_
  refine j_iconst (v := 1) h dX3_isLantern_6 (by decide) ?_
  refine j_isub h dX3_isLantern_7 ?_
  refine j_callSI h dX3_isLantern_8 (c_X3_in) (va_cwS 3 h.2.2.2.2.1 gX3_isLantern_X3_in rfl rfl rfl (by decide +kernel) ⟨Nat.le_of_ble_eq_true rfl, Nat.le_of_ble_eq_true rfl⟩) rfl rfl (Nat.le_of_ble_eq_true rfl) ⟨Nat.le_of_ble_eq_true rfl, Nat.le_of_ble_eq_true rfl⟩ (fun r8 u8 hu8 => ?_)
  obtain ⟨rfl, rfl⟩ := hu8
  exact j_zret h hrt hlk dX3_isLantern_11 (bi_or _) (by decide) (by decide) (⟨rfl, rfl⟩)
set_option maxHeartbeats 4000000 in
set_option maxRecDepth 100000 in
theorem c_X3_isFloat {l : Launch} {D : va_G} {cI cL cR : ClassId} {ad : Nat → Nat} {f : St} {t : Int32} {x : Int32}  : ctI l D vwCl (tyW cI cL cR) yX3_isFloat wsX3_isFloat { frames := 1, cells := 0, slots := 0, locals := 22 } [.ref (ad 0), .int x] (wM cI ad f t) (fun r u => r = bi (isF f x) ∧ u = (wM cI ad f t)) 0 0 := by
  refine ctI_of (cc := cX3_isFloat) (maxL := 2) (ret := (some .boolean)) (by decide) rfl rfl (Nat.le_of_ble_eq_true rfl) (by simp [Value.category]) [(0, .ref (ad 0)), (1, .int x)] rfl ?_
  intro p e s m args below meth c sz h hrt hlk hnm
  have hin3 : ∀ x ∈ wsX30, x ∈ wsX3_isFloat := by decide +kernel
  refine j_iload_n h dX3_isFloat_0 rfl ?_
  refine j_iconst (v := 0) h dX3_isFloat_1 (by decide) ?_
  refine j_aload_nR h dX3_isFloat_2 rfl ?_
  refine m_get14 h hin3 (by decide +kernel) dX3_isFloat_3 ?_
  refine j_iconst (v := 1) h dX3_isFloat_6 (by decide) ?_
  refine j_isub h dX3_isFloat_7 ?_
  refine j_callSI h dX3_isFloat_8 (c_X3_in) (va_cwS 3 h.2.2.2.2.1 gX3_isFloat_X3_in rfl rfl rfl (by decide +kernel) ⟨Nat.le_of_ble_eq_true rfl, Nat.le_of_ble_eq_true rfl⟩) rfl rfl (Nat.le_of_ble_eq_true rfl) ⟨Nat.le_of_ble_eq_true rfl, Nat.le_of_ble_eq_true rfl⟩ (fun r8 u8 hu8 => ?_)
  obtain ⟨rfl, rfl⟩ := hu8
  exact j_zret h hrt hlk dX3_isFloat_11 (bi_or _) (by decide) (by decide) (⟨rfl, rfl⟩)
set_option maxHeartbeats 4000000 in
set_option maxRecDepth 100000 in
theorem c_X3_weight {l : Launch} {D : va_G} {cI cL cR : ClassId} {ad : Nat → Nat} {f : St} {t : Int32} {a : Nat} (ha : a < 24) : ctI l D vwCl (tyW cI cL cR) yX3_weight wsX3_weight { frames := 0, cells := 0, slots := 0, locals := 0 } [.ref (ad 0), .int (nI a)] (wM cI ad f t) (fun r u => r = wt f a ∧ u = (wM cI ad f t)) 0 0 := by
  refine ctI_of (cc := cX3_weight) (maxL := 2) (ret := (some .int)) (by decide) rfl rfl (Nat.le_of_ble_eq_true rfl) (by simp [Value.category]) [(0, .ref (ad 0)), (1, .int (nI a))] rfl ?_
  intro p e s m args below meth c sz h hrt hlk hnm
  have hin3 : ∀ x ∈ wsX30, x ∈ wsX3_weight := by decide +kernel
  refine j_bipush (v := 20) h dX3_weight_0 (by decide) ?_
  refine j_aload_nR h dX3_weight_2 rfl ?_
  refine m_get0 h hin3 (by decide +kernel) dX3_weight_3 ?_
  refine j_iload_n h dX3_weight_6 rfl ?_
  refine m_ald0 h dX3_weight_7 rfl ha ?_
  refine j_imul h dX3_weight_8 ?_
  refine j_bipush (v := 30) h dX3_weight_9 (by decide) ?_
  refine j_aload_nR h dX3_weight_11 rfl ?_
  refine m_get1 h hin3 (by decide +kernel) dX3_weight_12 ?_
  refine j_iload_n h dX3_weight_15 rfl ?_
  refine m_ald1 h dX3_weight_16 rfl ha ?_
  refine j_imul h dX3_weight_17 ?_
  refine j_iadd h dX3_weight_18 ?_
  refine j_bipush (v := 50) h dX3_weight_19 (by decide) ?_
  refine j_aload_nR h dX3_weight_21 rfl ?_
  refine m_get2 h hin3 (by decide +kernel) dX3_weight_22 ?_
  refine j_iload_n h dX3_weight_25 rfl ?_
  refine m_ald2 h dX3_weight_26 rfl ha ?_
  refine j_imul h dX3_weight_27 ?_
  refine j_iadd h dX3_weight_28 ?_
  exact j_iret h hrt hlk dX3_weight_29 (by decide) (by decide) (⟨rfl, rfl⟩)
set_option maxHeartbeats 4000000 in
set_option maxRecDepth 100000 in
theorem c_X3_loadOf {l : Launch} {D : va_G} {cI cL cR : ClassId} {ad : Nat → Nat} {f : St} {t : Int32} {x : Int32} {n : Nat} (hn : f 7 0 = nI n) (hn24 : n ≤ 24) : ctI l D vwCl (tyW cI cL cR) yX3_loadOf wsX3_loadOf { frames := 1, cells := 0, slots := 0, locals := 21 } [.ref (ad 0), .int x] (wM cI ad f t) (fun r u => r = ldS f x n ∧ u = (wM cI ad f t)) 0 0 := by
  refine ctI_of (cc := cX3_loadOf) (maxL := 4) (ret := (some .int)) (by decide) rfl rfl (Nat.le_of_ble_eq_true rfl) (by simp [Value.category]) [(0, .ref (ad 0)), (1, .int x)] rfl ?_
  intro p e s m args below meth c sz h hrt hlk hnm
  have hin3 : ∀ x ∈ wsX30, x ∈ wsX3_loadOf := by decide +kernel
  refine j_iconst (v := 0) h dX3_loadOf_0 (by decide) ?_
  refine j_istore_n (i := 2) h dX3_loadOf_1 rfl (by decide) ?_
  refine j_iconst (v := 0) h dX3_loadOf_2 (by decide) ?_
  refine j_istore_n (i := 3) h dX3_loadOf_3 rfl (by decide) ?_
  refine jj_loop (fun i : Nat => [(0, .ref (ad 0)), (1, .int x), (2, .int (ldS f x i)), (3, .int (nI i))]) (fun i : Nat => (wM cI ad f t)) (fun i : Nat => i ≤ n) (fun i : Nat => n - i) 0 ⟨rfl, rfl, rfl, rfl, trivial⟩ rfl (by first | omega | decide | simp) (fun i hi ih => ?_)
  refine j_iload_n h dX3_loadOf_4 rfl ?_
  refine j_aload_nR h dX3_loadOf_5 rfl ?_
  refine m_get7 h hin3 (by decide +kernel) dX3_loadOf_6 ?_
  refine j_icmp_ge (tgt := 40) h dX3_loadOf_9 (by decide) (fun c9 => ?_) (fun c9 => ?_)
  · -- t
    rw [hn, nI_leI (by omega) (by omega)] at c9
    refine j_iload_n h dX3_loadOf_40 rfl ?_
    exact j_iret h hrt hlk dX3_loadOf_41 (by decide) (by decide) (⟨by rw [show i = n by omega], rfl⟩)
  · -- f
    rw [hn, nI_leI (by omega) (by omega)] at c9
    refine j_iload_n h dX3_loadOf_12 rfl ?_
    refine j_aload_nR h dX3_loadOf_13 rfl ?_
    refine m_get5 h hin3 (by decide +kernel) dX3_loadOf_14 ?_
    refine j_iload_n h dX3_loadOf_17 rfl ?_
    refine m_ald5 h dX3_loadOf_18 rfl (by omega) ?_
    refine j_iload_n h dX3_loadOf_19 rfl ?_
    refine j_icmp_ne (tgt := 31) h dX3_loadOf_20 (by decide) (fun c20 => ?_) (fun c20 => ?_)
    · -- t
      refine j_iconst (v := 0) h dX3_loadOf_31 (by decide) ?_
      refine j_iadd h dX3_loadOf_32 ?_
      refine j_istore_n (i := 2) h dX3_loadOf_33 rfl (by decide) ?_
      refine j_iinc h dX3_loadOf_34 rfl rfl (by decide) ?_
      refine j_goto (tgt := 4) h dX3_loadOf_37 (by decide) ?_
      exact ih (i + 1) (by omega) (by omega) _ ⟨rfl, rfl, by simp [ldS, lget, c20], by simp [lget, nI_succ], trivial⟩
    · -- f
      refine j_aload_nR h dX3_loadOf_23 rfl ?_
      refine j_iload_n h dX3_loadOf_24 rfl ?_
      refine j_callVI (vc := (RX3, TX3, 22)) h dX3_loadOf_25 (c_X3_weight (a := i) (by omega)) (cwV 1 h.2.2.2.2.1 gX3_loadOf_X3_weight rfl rfl rfl (by decide +kernel) ⟨Nat.le_of_ble_eq_true rfl, Nat.le_of_ble_eq_true rfl⟩) 0 rfl rfl rfl rfl (Nat.le_of_ble_eq_true rfl) ⟨Nat.le_of_ble_eq_true rfl, Nat.le_of_ble_eq_true rfl⟩ (fun r25 u25 hu25 => ?_)
      obtain ⟨rfl, rfl⟩ := hu25
      refine j_goto (tgt := 32) h dX3_loadOf_28 (by decide) ?_
      refine j_iadd h dX3_loadOf_32 ?_
      refine j_istore_n (i := 2) h dX3_loadOf_33 rfl (by decide) ?_
      refine j_iinc h dX3_loadOf_34 rfl rfl (by decide) ?_
      refine j_goto (tgt := 4) h dX3_loadOf_37 (by decide) ?_
      exact ih (i + 1) (by omega) (by omega) _ ⟨rfl, rfl, by simp [ldS, lget, c20], by simp [lget, nI_succ], trivial⟩
set_option maxHeartbeats 4000000 in
set_option maxRecDepth 100000 in
theorem c_X3_isTaken {l : Launch} {D : va_G} {cI cL cR : ClassId} {ad : Nat → Nat} {f : St} {t : Int32} {x y : Int32} {n : Nat} (hn : f 7 0 = nI n) (hn24 : n ≤ 24) : ctI l D vwCl (tyW cI cL cR) yX3_isTaken wsX3_isTaken { frames := 0, cells := 0, slots := 0, locals := 0 } [.ref (ad 0), .int x, .int y] (wM cI ad f t) (fun r u => r = bi (tkB f x y n) ∧ u = (wM cI ad f t)) 0 0 := by
  refine ctI_of (cc := cX3_isTaken) (maxL := 5) (ret := (some .boolean)) (by decide) rfl rfl (Nat.le_of_ble_eq_true rfl) (by simp [Value.category]) [(0, .ref (ad 0)), (1, .int x), (2, .int y)] rfl ?_
  intro p e s m args below meth c sz h hrt hlk hnm
  have hin3 : ∀ x ∈ wsX30, x ∈ wsX3_isTaken := by decide +kernel
  refine j_iconst (v := 0) h dX3_isTaken_0 (by decide) ?_
  refine j_istore_n (i := 3) h dX3_isTaken_1 rfl (by decide) ?_
  refine j_iconst (v := 0) h dX3_isTaken_2 (by decide) ?_
  refine j_istore h dX3_isTaken_3 (by decide) ?_
  refine jj_loop (fun i : Nat => [(0, .ref (ad 0)), (1, .int x), (2, .int y), (3, .int (bi (tkB f x y i))), (4, .int (nI i))]) (fun i : Nat => (wM cI ad f t)) (fun i : Nat => i ≤ n) (fun i : Nat => n - i) 0 ⟨rfl, rfl, rfl, rfl, rfl, trivial⟩ rfl (by first | omega | decide | simp) (fun i hi ih => ?_)
  refine j_iload h dX3_isTaken_5 rfl ?_
  refine j_aload_nR h dX3_isTaken_7 rfl ?_
  refine m_get7 h hin3 (by decide +kernel) dX3_isTaken_8 ?_
  refine j_icmp_ge (tgt := 52) h dX3_isTaken_11 (by decide) (fun c11 => ?_) (fun c11 => ?_)
  · -- t
    rw [hn, nI_leI (by omega) (by omega)] at c11
    refine j_iload_n h dX3_isTaken_52 rfl ?_
    exact j_zret h hrt hlk dX3_isTaken_53 (bi_or _) (by decide) (by decide) (⟨by rw [show i = n by omega], rfl⟩)
  · -- f
    rw [hn, nI_leI (by omega) (by omega)] at c11
    refine j_iload_n h dX3_isTaken_14 rfl ?_
    refine j_if_ne (tgt := 40) h dX3_isTaken_15 (by decide) (fun c15 => ?_) (fun c15 => ?_)
    · -- t
      refine j_iconst (v := 1) h dX3_isTaken_40 (by decide) ?_
      refine j_goto (tgt := 45) h dX3_isTaken_41 (by decide) ?_
      refine j_istore_n (i := 3) h dX3_isTaken_45 rfl (by decide) ?_
      refine j_iinc h dX3_isTaken_46 rfl rfl (by decide) ?_
      refine j_goto (tgt := 5) h dX3_isTaken_49 (by decide) ?_
      exact ih (i + 1) (by omega) (by omega) _ ⟨rfl, rfl, rfl, by simp_all [tkB, lget, bi], by simp [lget, nI_succ], trivial⟩
    · -- f
      refine j_aload_nR h dX3_isTaken_18 rfl ?_
      refine m_get5 h hin3 (by decide +kernel) dX3_isTaken_19 ?_
      refine j_iload h dX3_isTaken_22 rfl ?_
      refine m_ald5 h dX3_isTaken_24 rfl (by omega) ?_
      refine j_iload_n h dX3_isTaken_25 rfl ?_
      refine j_icmp_ne (tgt := 44) h dX3_isTaken_26 (by decide) (fun c26 => ?_) (fun c26 => ?_)
      · -- t
        refine j_iconst (v := 0) h dX3_isTaken_44 (by decide) ?_
        refine j_istore_n (i := 3) h dX3_isTaken_45 rfl (by decide) ?_
        refine j_iinc h dX3_isTaken_46 rfl rfl (by decide) ?_
        refine j_goto (tgt := 5) h dX3_isTaken_49 (by decide) ?_
        exact ih (i + 1) (by omega) (by omega) _ ⟨rfl, rfl, rfl, by simp_all [tkB, lget, bi], by simp [lget, nI_succ], trivial⟩
      · -- f
        refine j_aload_nR h dX3_isTaken_29 rfl ?_
        refine m_get6 h hin3 (by decide +kernel) dX3_isTaken_30 ?_
        refine j_iload h dX3_isTaken_33 rfl ?_
        refine m_ald6 h dX3_isTaken_35 rfl (by omega) ?_
        refine j_iload_n h dX3_isTaken_36 rfl ?_
        refine j_icmp_ne (tgt := 44) h dX3_isTaken_37 (by decide) (fun c37 => ?_) (fun c37 => ?_)
        · -- t
          refine j_iconst (v := 0) h dX3_isTaken_44 (by decide) ?_
          refine j_istore_n (i := 3) h dX3_isTaken_45 rfl (by decide) ?_
          refine j_iinc h dX3_isTaken_46 rfl rfl (by decide) ?_
          refine j_goto (tgt := 5) h dX3_isTaken_49 (by decide) ?_
          exact ih (i + 1) (by omega) (by omega) _ ⟨rfl, rfl, rfl, by simp_all [tkB, lget, bi], by simp [lget, nI_succ], trivial⟩
        · -- f
          refine j_iconst (v := 1) h dX3_isTaken_40 (by decide) ?_
          refine j_goto (tgt := 45) h dX3_isTaken_41 (by decide) ?_
          refine j_istore_n (i := 3) h dX3_isTaken_45 rfl (by decide) ?_
          refine j_iinc h dX3_isTaken_46 rfl rfl (by decide) ?_
          refine j_goto (tgt := 5) h dX3_isTaken_49 (by decide) ?_
          exact ih (i + 1) (by omega) (by omega) _ ⟨rfl, rfl, rfl, by simp_all [tkB, lget, bi], by simp [lget, nI_succ], trivial⟩
set_option maxHeartbeats 4000000 in
set_option maxRecDepth 100000 in
theorem c_X3_darkens {l : Launch} {D : va_G} {cI cL cR : ClassId} {ad : Nat → Nat} {f : St} {t : Int32} {a : Nat} (ha : a < 24) : ctV l D vwCl (tyW cI cL cR) yX3_darkens wsX3_darkens { frames := 0, cells := 0, slots := 0, locals := 0 } [.ref (ad 0), .int (nI a)] (wM cI ad f t) (fun u => u = wM cI ad (dkF f a) t) 0 0 := by
  refine ctV_of (cc := cX3_darkens) (maxL := 2) (ret := none) (by decide) rfl rfl (Nat.le_of_ble_eq_true rfl) (by simp [Value.category]) [(0, .ref (ad 0)), (1, .int (nI a))] rfl ?_
  intro p e s m args below meth c sz h hrt hlk hnm
  have hin3 : ∀ x ∈ wsX30, x ∈ wsX3_darkens := by decide +kernel
  refine j_aload_nR h dX3_darkens_0 rfl ?_
  refine m_get3 h hin3 (by decide +kernel) dX3_darkens_1 ?_
  refine j_iload_n h dX3_darkens_4 rfl ?_
  refine j_aload_nR h dX3_darkens_5 rfl ?_
  refine m_get3 h hin3 (by decide +kernel) dX3_darkens_6 ?_
  refine j_iload_n h dX3_darkens_9 rfl ?_
  refine m_ald3 h dX3_darkens_10 rfl ha ?_
  refine j_iconst (v := 2) h dX3_darkens_11 (by decide) ?_
  refine j_icmp_ne (tgt := 19) h dX3_darkens_12 (by decide) (fun c12 => ?_) (fun c12 => ?_)
  · -- t
    refine j_iconst (v := 0) h dX3_darkens_19 (by decide) ?_
    refine m_ast3 h dX3_darkens_20 rfl ha ?_
    exact j_vret h hrt hlk dX3_darkens_21 (by decide) (by decide) (by simp only [dkF]; first | rw [if_pos c12] | rw [if_neg c12])
  · -- f
    refine j_iconst (v := 2) h dX3_darkens_15 (by decide) ?_
    refine j_goto (tgt := 20) h dX3_darkens_16 (by decide) ?_
    refine m_ast3 h dX3_darkens_20 rfl ha ?_
    exact j_vret h hrt hlk dX3_darkens_21 (by decide) (by decide) (by simp only [dkF]; first | rw [if_pos c12] | rw [if_neg c12])
set_option maxHeartbeats 4000000 in
set_option maxRecDepth 100000 in
theorem c_X3_hasPlace {l : Launch} {D : va_G} {cI cL cR : ClassId} {ad : Nat → Nat} {f : St} {t : Int32} {a : Nat} (ha : a < 24) (hr : f 5 a = -1 ∨ ∃ r, r < 8 ∧ f 5 a = nI r) : ctI l D vwCl (tyW cI cL cR) yX3_hasPlace wsX3_hasPlace { frames := 0, cells := 0, slots := 0, locals := 0 } [.ref (ad 0), .int (nI a)] (wM cI ad f t) (fun r u => r = bi (hpB f a) ∧ u = (wM cI ad f t)) 0 0 := by
  refine ctI_of (cc := cX3_hasPlace) (maxL := 2) (ret := (some .boolean)) (by decide) rfl rfl (Nat.le_of_ble_eq_true rfl) (by simp [Value.category]) [(0, .ref (ad 0)), (1, .int (nI a))] rfl ?_
  intro p e s m args below meth c sz h hrt hlk hnm
  have hin3 : ∀ x ∈ wsX30, x ∈ wsX3_hasPlace := by decide +kernel
  refine j_aload_nR h dX3_hasPlace_0 rfl ?_
  refine m_get5 h hin3 (by decide +kernel) dX3_hasPlace_1 ?_
  refine j_iload_n h dX3_hasPlace_4 rfl ?_
  refine m_ald5 h dX3_hasPlace_5 rfl ha ?_
  refine j_iconst (v := (-1)) h dX3_hasPlace_6 (by decide) ?_
  refine j_icmp_eq (tgt := 29) h dX3_hasPlace_7 (by decide) (fun c7 => ?_) (fun c7 => ?_)
  · -- t
    refine j_iconst (v := 0) h dX3_hasPlace_29 (by decide) ?_
    exact j_zret h hrt hlk dX3_hasPlace_30 (by first | exact Or.inl rfl | exact Or.inr rfl) (by decide) (by decide) (⟨by simp_all [hpB, bi], rfl⟩)
  · -- f
    obtain ⟨r, hr8, hr⟩ := hr.resolve_left c7
    have hrc : (nI r).toNatClampNeg = r := nI_clamp (by omega)
    refine j_aload_nR h dX3_hasPlace_10 rfl ?_
    refine m_get10 h hin3 (by decide +kernel) dX3_hasPlace_11 ?_
    refine j_aload_nR h dX3_hasPlace_14 rfl ?_
    refine m_get5 h hin3 (by decide +kernel) dX3_hasPlace_15 ?_
    refine j_iload_n h dX3_hasPlace_18 rfl ?_
    refine m_ald5 h dX3_hasPlace_19 rfl ha ?_
    refine m_ald10 h dX3_hasPlace_20 hr hr8 ?_
    refine j_iconst (v := 1) h dX3_hasPlace_21 (by decide) ?_
    refine j_icmp_ne (tgt := 29) h dX3_hasPlace_22 (by decide) (fun c22 => ?_) (fun c22 => ?_)
    · -- t
      refine j_iconst (v := 0) h dX3_hasPlace_29 (by decide) ?_
      exact j_zret h hrt hlk dX3_hasPlace_30 (by first | exact Or.inl rfl | exact Or.inr rfl) (by decide) (by decide) (⟨by simp_all [hpB, bi], rfl⟩)
    · -- f
      refine j_iconst (v := 1) h dX3_hasPlace_25 (by decide) ?_
      refine j_goto (tgt := 30) h dX3_hasPlace_26 (by decide) ?_
      exact j_zret h hrt hlk dX3_hasPlace_30 (by first | exact Or.inl rfl | exact Or.inr rfl) (by decide) (by decide) (⟨by simp_all [hpB, bi], rfl⟩)
set_option maxHeartbeats 4000000 in
set_option maxRecDepth 100000 in
theorem c_X3_place {l : Launch} {D : va_G} {cI cL cR : ClassId} {ad : Nat → Nat} {f : St} {t : Int32} {a r : Nat} (ha : a < 24) (hr8 : r < 8) (hr : f 5 a = nI r) : ctI l D vwCl (tyW cI cL cR) yX3_place wsX3_place { frames := 0, cells := 0, slots := 0, locals := 0 } [.ref (ad 0), .int (nI a)] (wM cI ad f t) (fun r u => r = pl f a ∧ u = (wM cI ad f t)) 0 0 := by
  refine ctI_of (cc := cX3_place) (maxL := 2) (ret := (some .int)) (by decide) rfl rfl (Nat.le_of_ble_eq_true rfl) (by simp [Value.category]) [(0, .ref (ad 0)), (1, .int (nI a))] rfl ?_
  intro p e s m args below meth c sz h hrt hlk hnm
  have hin3 : ∀ x ∈ wsX30, x ∈ wsX3_place := by decide +kernel
  refine j_aload_nR h dX3_place_0 rfl ?_
  refine m_get11 h hin3 (by decide +kernel) dX3_place_1 ?_
  refine j_aload_nR h dX3_place_4 rfl ?_
  refine m_get5 h hin3 (by decide +kernel) dX3_place_5 ?_
  refine j_iload_n h dX3_place_8 rfl ?_
  refine m_ald5 h dX3_place_9 rfl ha ?_
  refine m_ald11 h dX3_place_10 hr hr8 ?_
  refine j_aload_nR h dX3_place_11 rfl ?_
  refine m_get6 h hin3 (by decide +kernel) dX3_place_12 ?_
  refine j_iload_n h dX3_place_15 rfl ?_
  refine m_ald6 h dX3_place_16 rfl ha ?_
  refine j_isub h dX3_place_17 ?_
  exact j_iret h hrt hlk dX3_place_18 (by decide) (by decide) (⟨by simp only [pl]; rw [hr, nI_clamp (by omega)], rfl⟩)
set_option maxHeartbeats 4000000 in
set_option maxRecDepth 100000 in
theorem c_X3_distance {l : Launch} {D : va_G} {cI cL cR : ClassId} {ad : Nat → Nat} {f : St} {t : Int32} {a r b r2 : Nat} (ha : a < 24) (hr8 : r < 8) (hr : f 5 a = nI r) (hb : b < 24) (hr28 : r2 < 8) (hr2 : f 5 b = nI r2) : ctI l D vwCl (tyW cI cL cR) yX3_distance wsX3_distance { frames := 1, cells := 0, slots := 0, locals := 21 } [.ref (ad 0), .int (nI a), .int (nI b)] (wM cI ad f t) (fun r u => r = ds f a b ∧ u = (wM cI ad f t)) 0 0 := by
  refine ctI_of (cc := cX3_distance) (maxL := 4) (ret := (some .int)) (by decide) rfl rfl (Nat.le_of_ble_eq_true rfl) (by simp [Value.category]) [(0, .ref (ad 0)), (1, .int (nI a)), (2, .int (nI b))] rfl ?_
  intro p e s m args below meth c sz h hrt hlk hnm
  have hin3 : ∀ x ∈ wsX30, x ∈ wsX3_distance := by decide +kernel
  refine j_aload_nR h dX3_distance_0 rfl ?_
  refine j_iload_n h dX3_distance_1 rfl ?_
  refine j_callVI (vc := (RX3, TX3, 22)) h dX3_distance_2 (c_X3_place (a := a) (r := r) ha hr8 hr) (cwV 1 h.2.2.2.2.1 gX3_distance_X3_place rfl rfl rfl (by decide +kernel) ⟨Nat.le_of_ble_eq_true rfl, Nat.le_of_ble_eq_true rfl⟩) 0 rfl rfl rfl rfl (Nat.le_of_ble_eq_true rfl) ⟨Nat.le_of_ble_eq_true rfl, Nat.le_of_ble_eq_true rfl⟩ (fun r2 u2 hu2 => ?_)
  obtain ⟨rfl, rfl⟩ := hu2
  refine j_aload_nR h dX3_distance_5 rfl ?_
  refine j_iload_n h dX3_distance_6 rfl ?_
  refine j_callVI (vc := (RX3, TX3, 22)) h dX3_distance_7 (c_X3_place (a := b) (r := r2) hb hr28 hr2) (cwV 1 h.2.2.2.2.1 gX3_distance_X3_place rfl rfl rfl (by decide +kernel) ⟨Nat.le_of_ble_eq_true rfl, Nat.le_of_ble_eq_true rfl⟩) 0 rfl rfl rfl rfl (Nat.le_of_ble_eq_true rfl) ⟨Nat.le_of_ble_eq_true rfl, Nat.le_of_ble_eq_true rfl⟩ (fun r7 u7 hu7 => ?_)
  obtain ⟨rfl, rfl⟩ := hu7
  refine j_isub h dX3_distance_10 ?_
  refine j_istore_n (i := 3) h dX3_distance_11 rfl (by decide) ?_
  refine j_iload_n h dX3_distance_12 rfl ?_
  refine j_if_ge (tgt := 21) h dX3_distance_13 (by decide) (fun c13 => ?_) (fun c13 => ?_)
  · -- t
    refine j_iload_n h dX3_distance_21 rfl ?_
    exact j_iret h hrt hlk dX3_distance_22 (by decide) (by decide) (⟨by simp only [ds]; first | rw [if_neg (Int32.not_lt.mpr c13)] | rw [if_pos (Int32.not_le.mp c13)], rfl⟩)
  · -- f
    refine j_iload_n h dX3_distance_16 rfl ?_
    refine j_ineg h dX3_distance_17 ?_
    refine j_goto (tgt := 22) h dX3_distance_18 (by decide) ?_
    exact j_iret h hrt hlk dX3_distance_22 (by decide) (by decide) (⟨by simp only [ds]; first | rw [if_neg (Int32.not_lt.mpr c13)] | rw [if_pos (Int32.not_le.mp c13)], rfl⟩)
set_option maxHeartbeats 4000000 in
set_option maxRecDepth 100000 in
theorem c_X3_isNear {l : Launch} {D : va_G} {cI cL cR : ClassId} {ad : Nat → Nat} {f : St} {t : Int32} {a B r : Nat} (ha : a < 24) (hB : B ≤ 24) (hr8 : r < 8) (hr : f 5 a = nI r) (hlit : ∀ k, k < B → f 3 k = 1 → ∃ r, r < 8 ∧ f 5 k = nI r) : ctI l D vwCl (tyW cI cL cR) yX3_isNear wsX3_isNear { frames := 2, cells := 0, slots := 0, locals := 44 } [.ref (ad 0), .int (nI a), .int (nI B)] (wM cI ad f t) (fun r u => r = bi (nearB f a B) ∧ u = (wM cI ad f t)) 0 0 := by
  refine ctI_of (cc := cX3_isNear) (maxL := 5) (ret := (some .boolean)) (by decide) rfl rfl (Nat.le_of_ble_eq_true rfl) (by simp [Value.category]) [(0, .ref (ad 0)), (1, .int (nI a)), (2, .int (nI B))] rfl ?_
  intro p e s m args below meth c sz h hrt hlk hnm
  have hin3 : ∀ x ∈ wsX30, x ∈ wsX3_isNear := by decide +kernel
  refine j_iconst (v := 0) h dX3_isNear_0 (by decide) ?_
  refine j_istore_n (i := 3) h dX3_isNear_1 rfl (by decide) ?_
  refine j_iconst (v := 0) h dX3_isNear_2 (by decide) ?_
  refine j_istore h dX3_isNear_3 (by decide) ?_
  refine jj_loop (fun i : Nat => [(0, .ref (ad 0)), (1, .int (nI a)), (2, .int (nI B)), (3, .int (bi (nearB f a i))), (4, .int (nI i))]) (fun i : Nat => (wM cI ad f t)) (fun i : Nat => i ≤ B) (fun i : Nat => B - i) 0 ⟨rfl, rfl, rfl, rfl, rfl, trivial⟩ rfl (by first | omega | decide | simp) (fun i hi ih => ?_)
  refine j_iload h dX3_isNear_5 rfl ?_
  refine j_iload_n h dX3_isNear_7 rfl ?_
  refine j_icmp_ge (tgt := 73) h dX3_isNear_8 (by decide) (fun c8 => ?_) (fun c8 => ?_)
  · -- t
    rw [nI_leI (by omega) (by omega)] at c8
    refine j_iload_n h dX3_isNear_73 rfl ?_
    exact j_zret h hrt hlk dX3_isNear_74 (bi_or _) (by decide) (by decide) (⟨by rw [show i = B by omega], rfl⟩)
  · -- f
    rw [nI_leI (by omega) (by omega)] at c8
    refine j_iload_n h dX3_isNear_11 rfl ?_
    refine j_if_ne (tgt := 61) h dX3_isNear_12 (by decide) (fun c12 => ?_) (fun c12 => ?_)
    · -- t
      refine j_iconst (v := 1) h dX3_isNear_61 (by decide) ?_
      refine j_goto (tgt := 66) h dX3_isNear_62 (by decide) ?_
      refine j_istore_n (i := 3) h dX3_isNear_66 rfl (by decide) ?_
      refine j_iinc h dX3_isNear_67 rfl rfl (by decide) ?_
      refine j_goto (tgt := 5) h dX3_isNear_70 (by decide) ?_
      exact ih (i + 1) (by omega) (by omega) _ ⟨rfl, rfl, rfl, by simp_all [nearB, nearT, lget, bi], by simp [lget, nI_succ], trivial⟩
    · -- f
      refine j_iload h dX3_isNear_15 rfl ?_
      refine j_iload_n h dX3_isNear_17 rfl ?_
      refine j_icmp_eq (tgt := 65) h dX3_isNear_18 (by decide) (fun c18 => ?_) (fun c18 => ?_)
      · -- t
        rw [nI_eq (by omega) (by omega)] at c18
        refine j_iconst (v := 0) h dX3_isNear_65 (by decide) ?_
        refine j_istore_n (i := 3) h dX3_isNear_66 rfl (by decide) ?_
        refine j_iinc h dX3_isNear_67 rfl rfl (by decide) ?_
        refine j_goto (tgt := 5) h dX3_isNear_70 (by decide) ?_
        exact ih (i + 1) (by omega) (by omega) _ ⟨rfl, rfl, rfl, by simp_all [nearB, nearT, lget, bi], by simp [lget, nI_succ], trivial⟩
      · -- f
        rw [nI_eq (by omega) (by omega)] at c18
        refine j_aload_nR h dX3_isNear_21 rfl ?_
        refine m_get3 h hin3 (by decide +kernel) dX3_isNear_22 ?_
        refine j_iload h dX3_isNear_25 rfl ?_
        refine m_ald3 h dX3_isNear_27 rfl (by omega) ?_
        refine j_iconst (v := 1) h dX3_isNear_28 (by decide) ?_
        refine j_icmp_ne (tgt := 65) h dX3_isNear_29 (by decide) (fun c29 => ?_) (fun c29 => ?_)
        · -- t
          refine j_iconst (v := 0) h dX3_isNear_65 (by decide) ?_
          refine j_istore_n (i := 3) h dX3_isNear_66 rfl (by decide) ?_
          refine j_iinc h dX3_isNear_67 rfl rfl (by decide) ?_
          refine j_goto (tgt := 5) h dX3_isNear_70 (by decide) ?_
          exact ih (i + 1) (by omega) (by omega) _ ⟨rfl, rfl, rfl, by simp_all [nearB, nearT, lget, bi], by simp [lget, nI_succ], trivial⟩
        · -- f
          obtain ⟨rk, hrk8, hrk⟩ := hlit i (by omega) c29
          refine j_aload_nR h dX3_isNear_32 rfl ?_
          refine j_iload h dX3_isNear_33 rfl ?_
          refine j_iload_n h dX3_isNear_35 rfl ?_
          refine j_callVI (vc := (RX3, TX3, 22)) h dX3_isNear_36 (c_X3_distance (a := i) (r := rk) (b := a) (r2 := r) (by omega) hrk8 hrk ha hr8 hr) (cwV 2 h.2.2.2.2.1 gX3_isNear_X3_distance rfl rfl rfl (by decide +kernel) ⟨Nat.le_of_ble_eq_true rfl, Nat.le_of_ble_eq_true rfl⟩) 0 rfl rfl rfl rfl (Nat.le_of_ble_eq_true rfl) ⟨Nat.le_of_ble_eq_true rfl, Nat.le_of_ble_eq_true rfl⟩ (fun r36 u36 hu36 => ?_)
          obtain ⟨rfl, rfl⟩ := hu36
          refine j_aload_nR h dX3_isNear_39 rfl ?_
          refine m_get2 h hin3 (by decide +kernel) dX3_isNear_40 ?_
          refine j_iload h dX3_isNear_43 rfl ?_
          refine m_ald2 h dX3_isNear_45 rfl (by omega) ?_
          refine j_aload_nR h dX3_isNear_46 rfl ?_
          refine m_get2 h hin3 (by decide +kernel) dX3_isNear_47 ?_
          refine j_iload_n h dX3_isNear_50 rfl ?_
          refine m_ald2 h dX3_isNear_51 rfl ha ?_
          refine j_iadd h dX3_isNear_52 ?_
          refine j_aload_nR h dX3_isNear_53 rfl ?_
          refine m_get16 h hin3 (by decide +kernel) dX3_isNear_54 ?_
          refine j_iadd h dX3_isNear_57 ?_
          refine j_icmp_ge (tgt := 65) h dX3_isNear_58 (by decide) (fun c58 => ?_) (fun c58 => ?_)
          · -- t
            refine j_iconst (v := 0) h dX3_isNear_65 (by decide) ?_
            refine j_istore_n (i := 3) h dX3_isNear_66 rfl (by decide) ?_
            refine j_iinc h dX3_isNear_67 rfl rfl (by decide) ?_
            refine j_goto (tgt := 5) h dX3_isNear_70 (by decide) ?_
            exact ih (i + 1) (by omega) (by omega) _ ⟨rfl, rfl, rfl, by simp_all [nearB, nearT, lget, bi], by simp [lget, nI_succ], trivial⟩
          · -- f
            refine j_iconst (v := 1) h dX3_isNear_61 (by decide) ?_
            refine j_goto (tgt := 66) h dX3_isNear_62 (by decide) ?_
            refine j_istore_n (i := 3) h dX3_isNear_66 rfl (by decide) ?_
            refine j_iinc h dX3_isNear_67 rfl rfl (by decide) ?_
            refine j_goto (tgt := 5) h dX3_isNear_70 (by decide) ?_
            exact ih (i + 1) (by omega) (by omega) _ ⟨rfl, rfl, rfl, by simp_all [nearB, nearT, lget, bi], by simp [lget, nI_succ], trivial⟩
set_option maxHeartbeats 4000000 in
set_option maxRecDepth 100000 in
theorem c_X3_rearmost {l : Launch} {D : va_G} {cI cL cR : ClassId} {ad : Nat → Nat} {f : St} {t : Int32} {q : Nat} (hq : f 13 0 = nI q) (hq8 : q ≤ 8) (ho : ∀ i, i < q → ∃ r, r < 8 ∧ f 12 i = nI r) : ctI l D vwCl (tyW cI cL cR) yX3_rearmost wsX3_rearmost { frames := 0, cells := 0, slots := 0, locals := 0 } [.ref (ad 0)] (wM cI ad f t) (fun r u => r = rmS f q ∧ u = (wM cI ad f t)) 0 0 := by
  refine ctI_of (cc := cX3_rearmost) (maxL := 3) (ret := (some .int)) (by decide) rfl rfl (Nat.le_of_ble_eq_true rfl) (by simp [Value.category]) [(0, .ref (ad 0))] rfl ?_
  intro p e s m args below meth c sz h hrt hlk hnm
  have hin3 : ∀ x ∈ wsX30, x ∈ wsX3_rearmost := by decide +kernel
  refine j_iconst (v := (-1)) h dX3_rearmost_0 (by decide) ?_
  refine j_istore_n (i := 1) h dX3_rearmost_1 rfl (by decide) ?_
  refine j_iconst (v := 0) h dX3_rearmost_2 (by decide) ?_
  refine j_istore_n (i := 2) h dX3_rearmost_3 rfl (by decide) ?_
  refine jj_loop (fun i : Nat => [(0, .ref (ad 0)), (1, .int (rmS f i)), (2, .int (nI i))]) (fun i : Nat => (wM cI ad f t)) (fun i : Nat => i ≤ q) (fun i : Nat => q - i) 0 ⟨rfl, rfl, rfl, trivial⟩ rfl (by first | omega | decide | simp) (fun i hi ih => ?_)
  refine j_iload_n h dX3_rearmost_4 rfl ?_
  refine j_aload_nR h dX3_rearmost_5 rfl ?_
  refine m_get13 h hin3 (by decide +kernel) dX3_rearmost_6 ?_
  refine j_icmp_ge (tgt := 44) h dX3_rearmost_9 (by decide) (fun c9 => ?_) (fun c9 => ?_)
  · -- t
    rw [hq, nI_leI (by omega) (by omega)] at c9
    refine j_iload_n h dX3_rearmost_44 rfl ?_
    exact j_iret h hrt hlk dX3_rearmost_45 (by decide) (by decide) (⟨by rw [show i = q by omega], rfl⟩)
  · -- f
    rw [hq, nI_leI (by omega) (by omega)] at c9
    obtain ⟨r, hor8, hor⟩ := ho i (by omega)
    have hrc : (nI r).toNatClampNeg = r := nI_clamp (by omega)
    refine j_aload_nR h dX3_rearmost_12 rfl ?_
    refine m_get10 h hin3 (by decide +kernel) dX3_rearmost_13 ?_
    refine j_aload_nR h dX3_rearmost_16 rfl ?_
    refine m_get12 h hin3 (by decide +kernel) dX3_rearmost_17 ?_
    refine j_iload_n h dX3_rearmost_20 rfl ?_
    refine m_ald12 h dX3_rearmost_21 rfl (by omega) ?_
    refine m_ald10 h dX3_rearmost_22 hor hor8 ?_
    refine j_iconst (v := 1) h dX3_rearmost_23 (by decide) ?_
    refine j_icmp_ne (tgt := 36) h dX3_rearmost_24 (by decide) (fun c24 => ?_) (fun c24 => ?_)
    · -- t
      refine j_iload_n h dX3_rearmost_36 rfl ?_
      refine j_istore_n (i := 1) h dX3_rearmost_37 rfl (by decide) ?_
      refine j_iinc h dX3_rearmost_38 rfl rfl (by decide) ?_
      refine j_goto (tgt := 4) h dX3_rearmost_41 (by decide) ?_
      exact ih (i + 1) (by omega) (by omega) _ ⟨rfl, by simp_all [rmS, lget, nI_clamp], by simp [lget, nI_succ], trivial⟩
    · -- f
      refine j_aload_nR h dX3_rearmost_27 rfl ?_
      refine m_get12 h hin3 (by decide +kernel) dX3_rearmost_28 ?_
      refine j_iload_n h dX3_rearmost_31 rfl ?_
      refine m_ald12 h dX3_rearmost_32 rfl (by omega) ?_
      refine j_goto (tgt := 37) h dX3_rearmost_33 (by decide) ?_
      refine j_istore_n (i := 1) h dX3_rearmost_37 rfl (by decide) ?_
      refine j_iinc h dX3_rearmost_38 rfl rfl (by decide) ?_
      refine j_goto (tgt := 4) h dX3_rearmost_41 (by decide) ?_
      exact ih (i + 1) (by omega) (by omega) _ ⟨rfl, by simp_all [rmS, lget, nI_clamp], by simp [lget, nI_succ], trivial⟩
set_option maxHeartbeats 4000000 in
set_option maxRecDepth 100000 in
theorem c_X3_afloat {l : Launch} {D : va_G} {cI cL cR : ClassId} {ad : Nat → Nat} {f : St} {t : Int32} {b : Nat} (hb : f 14 0 = nI b) (hb8 : b ≤ 8) : ctI l D vwCl (tyW cI cL cR) yX3_afloat wsX3_afloat { frames := 0, cells := 0, slots := 0, locals := 0 } [.ref (ad 0)] (wM cI ad f t) (fun r u => r = afS f b ∧ u = (wM cI ad f t)) 0 0 := by
  refine ctI_of (cc := cX3_afloat) (maxL := 3) (ret := (some .int)) (by decide) rfl rfl (Nat.le_of_ble_eq_true rfl) (by simp [Value.category]) [(0, .ref (ad 0))] rfl ?_
  intro p e s m args below meth c sz h hrt hlk hnm
  have hin3 : ∀ x ∈ wsX30, x ∈ wsX3_afloat := by decide +kernel
  refine j_iconst (v := 0) h dX3_afloat_0 (by decide) ?_
  refine j_istore_n (i := 1) h dX3_afloat_1 rfl (by decide) ?_
  refine j_iconst (v := 0) h dX3_afloat_2 (by decide) ?_
  refine j_istore_n (i := 2) h dX3_afloat_3 rfl (by decide) ?_
  refine jj_loop (fun i : Nat => [(0, .ref (ad 0)), (1, .int (afS f i)), (2, .int (nI i))]) (fun i : Nat => (wM cI ad f t)) (fun i : Nat => i ≤ b) (fun i : Nat => b - i) 0 ⟨rfl, rfl, rfl, trivial⟩ rfl (by first | omega | decide | simp) (fun i hi ih => ?_)
  refine j_iload_n h dX3_afloat_4 rfl ?_
  refine j_aload_nR h dX3_afloat_5 rfl ?_
  refine m_get14 h hin3 (by decide +kernel) dX3_afloat_6 ?_
  refine j_icmp_ge (tgt := 36) h dX3_afloat_9 (by decide) (fun c9 => ?_) (fun c9 => ?_)
  · -- t
    rw [hb, nI_leI (by omega) (by omega)] at c9
    refine j_iload_n h dX3_afloat_36 rfl ?_
    exact j_iret h hrt hlk dX3_afloat_37 (by decide) (by decide) (⟨by rw [show i = b by omega], rfl⟩)
  · -- f
    rw [hb, nI_leI (by omega) (by omega)] at c9
    refine j_iload_n h dX3_afloat_12 rfl ?_
    refine j_aload_nR h dX3_afloat_13 rfl ?_
    refine m_get10 h hin3 (by decide +kernel) dX3_afloat_14 ?_
    refine j_iload_n h dX3_afloat_17 rfl ?_
    refine m_ald10 h dX3_afloat_18 rfl (by omega) ?_
    refine j_iconst (v := 1) h dX3_afloat_19 (by decide) ?_
    refine j_icmp_ne (tgt := 27) h dX3_afloat_20 (by decide) (fun c20 => ?_) (fun c20 => ?_)
    · -- t
      refine j_iconst (v := 0) h dX3_afloat_27 (by decide) ?_
      refine j_iadd h dX3_afloat_28 ?_
      refine j_istore_n (i := 1) h dX3_afloat_29 rfl (by decide) ?_
      refine j_iinc h dX3_afloat_30 rfl rfl (by decide) ?_
      refine j_goto (tgt := 4) h dX3_afloat_33 (by decide) ?_
      exact ih (i + 1) (by omega) (by omega) _ ⟨rfl, by simp [afS, lget, c20], by simp [lget, nI_succ], trivial⟩
    · -- f
      refine j_iconst (v := 1) h dX3_afloat_23 (by decide) ?_
      refine j_goto (tgt := 28) h dX3_afloat_24 (by decide) ?_
      refine j_iadd h dX3_afloat_28 ?_
      refine j_istore_n (i := 1) h dX3_afloat_29 rfl (by decide) ?_
      refine j_iinc h dX3_afloat_30 rfl rfl (by decide) ?_
      refine j_goto (tgt := 4) h dX3_afloat_33 (by decide) ?_
      exact ih (i + 1) (by omega) (by omega) _ ⟨rfl, by simp [afS, lget, c20], by simp [lget, nI_succ], trivial⟩
set_option maxHeartbeats 4000000 in
set_option maxRecDepth 100000 in
theorem c_X3_lit {l : Launch} {D : va_G} {cI cL cR : ClassId} {ad : Nat → Nat} {f : St} {t : Int32} {n : Nat} (hn : f 7 0 = nI n) (hn24 : n ≤ 24) : ctI l D vwCl (tyW cI cL cR) yX3_lit wsX3_lit { frames := 0, cells := 0, slots := 0, locals := 0 } [.ref (ad 0)] (wM cI ad f t) (fun r u => r = ltS f n ∧ u = (wM cI ad f t)) 0 0 := by
  refine ctI_of (cc := cX3_lit) (maxL := 3) (ret := (some .int)) (by decide) rfl rfl (Nat.le_of_ble_eq_true rfl) (by simp [Value.category]) [(0, .ref (ad 0))] rfl ?_
  intro p e s m args below meth c sz h hrt hlk hnm
  have hin3 : ∀ x ∈ wsX30, x ∈ wsX3_lit := by decide +kernel
  refine j_iconst (v := 0) h dX3_lit_0 (by decide) ?_
  refine j_istore_n (i := 1) h dX3_lit_1 rfl (by decide) ?_
  refine j_iconst (v := 0) h dX3_lit_2 (by decide) ?_
  refine j_istore_n (i := 2) h dX3_lit_3 rfl (by decide) ?_
  refine jj_loop (fun i : Nat => [(0, .ref (ad 0)), (1, .int (ltS f i)), (2, .int (nI i))]) (fun i : Nat => (wM cI ad f t)) (fun i : Nat => i ≤ n) (fun i : Nat => n - i) 0 ⟨rfl, rfl, rfl, trivial⟩ rfl (by first | omega | decide | simp) (fun i hi ih => ?_)
  refine j_iload_n h dX3_lit_4 rfl ?_
  refine j_aload_nR h dX3_lit_5 rfl ?_
  refine m_get7 h hin3 (by decide +kernel) dX3_lit_6 ?_
  refine j_icmp_ge (tgt := 36) h dX3_lit_9 (by decide) (fun c9 => ?_) (fun c9 => ?_)
  · -- t
    rw [hn, nI_leI (by omega) (by omega)] at c9
    refine j_iload_n h dX3_lit_36 rfl ?_
    exact j_iret h hrt hlk dX3_lit_37 (by decide) (by decide) (⟨by rw [show i = n by omega], rfl⟩)
  · -- f
    rw [hn, nI_leI (by omega) (by omega)] at c9
    refine j_iload_n h dX3_lit_12 rfl ?_
    refine j_aload_nR h dX3_lit_13 rfl ?_
    refine m_get3 h hin3 (by decide +kernel) dX3_lit_14 ?_
    refine j_iload_n h dX3_lit_17 rfl ?_
    refine m_ald3 h dX3_lit_18 rfl (by omega) ?_
    refine j_iconst (v := 1) h dX3_lit_19 (by decide) ?_
    refine j_icmp_ne (tgt := 27) h dX3_lit_20 (by decide) (fun c20 => ?_) (fun c20 => ?_)
    · -- t
      refine j_iconst (v := 0) h dX3_lit_27 (by decide) ?_
      refine j_iadd h dX3_lit_28 ?_
      refine j_istore_n (i := 1) h dX3_lit_29 rfl (by decide) ?_
      refine j_iinc h dX3_lit_30 rfl rfl (by decide) ?_
      refine j_goto (tgt := 4) h dX3_lit_33 (by decide) ?_
      exact ih (i + 1) (by omega) (by omega) _ ⟨rfl, by simp [ltS, lget, c20], by simp [lget, nI_succ], trivial⟩
    · -- f
      refine j_iconst (v := 1) h dX3_lit_23 (by decide) ?_
      refine j_goto (tgt := 28) h dX3_lit_24 (by decide) ?_
      refine j_iadd h dX3_lit_28 ?_
      refine j_istore_n (i := 1) h dX3_lit_29 rfl (by decide) ?_
      refine j_iinc h dX3_lit_30 rfl rfl (by decide) ?_
      refine j_goto (tgt := 4) h dX3_lit_33 (by decide) ?_
      exact ih (i + 1) (by omega) (by omega) _ ⟨rfl, by simp [ltS, lget, c20], by simp [lget, nI_succ], trivial⟩
