set_option maxHeartbeats 4000000 in
set_option maxRecDepth 100000 in
theorem c_X3_stateOf {l : Launch} {D : va_G} {cI cL cR : ClassId} {ad : Nat → Nat} {f : St} {t : Int32} {x : Int32} {n : Nat} (hn : f 7 0 = nI n) (hn24 : n ≤ 24)  : ctI l D vwCl (tyW cI cL cR) yX3_stateOf wsX3_stateOf { frames := 2, cells := 0, slots := 0, locals := 43 } [.ref (ad 0), .int x] (wM cI ad f t) (fun r u => u = wM cI ad f (tL f x) ∧ (tL f x = 0 → r = f 3 x.toNatClampNeg)) 0 0 := by
  refine ctI_of (cc := cX3_stateOf) (maxL := 2) (ret := (some .int)) (by decide) rfl rfl (Nat.le_of_ble_eq_true rfl) (by simp [Value.category]) [(0, .ref (ad 0)), (1, .int x)] rfl ?_
  intro p e s m args below meth c sz h hrt hlk hnm
  have hin3 : ∀ x ∈ wsX30, x ∈ wsX3_stateOf := by decide +kernel
  refine j_aload_nR h dX3_stateOf_0 rfl ?_
  refine j_aload_nR h dX3_stateOf_1 rfl ?_
  refine j_iload_n h dX3_stateOf_2 rfl ?_
  refine j_callVI (vc := (RX3, TX3, 22)) h dX3_stateOf_3 (c_X3_isLantern) (cwV 1 h.2.2.2.2.1 gX3_stateOf_X3_isLantern rfl rfl rfl (by decide +kernel) ⟨Nat.le_of_ble_eq_true rfl, Nat.le_of_ble_eq_true rfl⟩) 0 rfl rfl rfl rfl (Nat.le_of_ble_eq_true rfl) ⟨Nat.le_of_ble_eq_true rfl, Nat.le_of_ble_eq_true rfl⟩ (fun r3 u3 hu3 => ?_)
  obtain ⟨rfl, rfl⟩ := hu3
  refine j_iconst (v := 1) h dX3_stateOf_6 (by decide) ?_
  refine j_iconst (v := 1) h dX3_stateOf_7 (by decide) ?_
  refine j_callVI (vc := (RX3, TX3, 22)) h dX3_stateOf_8 (c_X3_goes) (cwV 3 h.2.2.2.2.1 gX3_stateOf_X3_goes rfl rfl rfl (by decide +kernel) ⟨Nat.le_of_ble_eq_true rfl, Nat.le_of_ble_eq_true rfl⟩) 0 rfl rfl rfl rfl (Nat.le_of_ble_eq_true rfl) ⟨Nat.le_of_ble_eq_true rfl, Nat.le_of_ble_eq_true rfl⟩ (fun r8 u8 hu8 => ?_)
  obtain ⟨rfl, rfl⟩ := hu8
  refine j_if_eq (tgt := 23) h dX3_stateOf_11 (by decide) (fun c11 => ?_) (fun c11 => ?_)
  · -- t
    have hT : ¬ tL f x = 0 := of_decide_eq_false (bi_0.mp c11)
    refine j_iconst (v := 0) h dX3_stateOf_23 (by decide) ?_
    exact j_iret h hrt hlk dX3_stateOf_24 (by decide) (by decide) (by first | exact ⟨rfl, fun z => absurd z hT⟩ | exact ⟨rfl, fun _ => by rw [hac]⟩)
  · -- f
    have hT : isL f x = true := gl_1.mp (of_decide_eq_true (bi_n0.mp c11))
    obtain ⟨a, ha, rfl⟩ := inB_ix (n := n) (by omega) (by rw [← hn]; exact hT)
    have hac : (nI a).toNatClampNeg = a := nI_clamp (by omega)
    refine j_aload_nR h dX3_stateOf_14 rfl ?_
    refine m_get3 h hin3 (by decide +kernel) dX3_stateOf_15 ?_
    refine j_iload_n h dX3_stateOf_18 rfl ?_
    refine m_ald3 h dX3_stateOf_19 rfl (by omega) ?_
    refine j_goto (tgt := 24) h dX3_stateOf_20 (by decide) ?_
    exact j_iret h hrt hlk dX3_stateOf_24 (by decide) (by decide) (by first | exact ⟨rfl, fun z => absurd z hT⟩ | exact ⟨rfl, fun _ => by rw [hac]⟩)
set_option maxHeartbeats 4000000 in
set_option maxRecDepth 100000 in
theorem c_X3_left {l : Launch} {D : va_G} {cI cL cR : ClassId} {ad : Nat → Nat} {f : St} {t : Int32} {x : Int32} {n : Nat} (hn : f 7 0 = nI n) (hn24 : n ≤ 24)  : ctI l D vwCl (tyW cI cL cR) yX3_left wsX3_left { frames := 2, cells := 0, slots := 0, locals := 43 } [.ref (ad 0), .int x] (wM cI ad f t) (fun r u => u = wM cI ad f (tL f x) ∧ (tL f x = 0 → r = f 4 x.toNatClampNeg)) 0 0 := by
  refine ctI_of (cc := cX3_left) (maxL := 2) (ret := (some .int)) (by decide) rfl rfl (Nat.le_of_ble_eq_true rfl) (by simp [Value.category]) [(0, .ref (ad 0)), (1, .int x)] rfl ?_
  intro p e s m args below meth c sz h hrt hlk hnm
  have hin3 : ∀ x ∈ wsX30, x ∈ wsX3_left := by decide +kernel
  refine j_aload_nR h dX3_left_0 rfl ?_
  refine j_aload_nR h dX3_left_1 rfl ?_
  refine j_iload_n h dX3_left_2 rfl ?_
  refine j_callVI (vc := (RX3, TX3, 22)) h dX3_left_3 (c_X3_isLantern) (cwV 1 h.2.2.2.2.1 gX3_left_X3_isLantern rfl rfl rfl (by decide +kernel) ⟨Nat.le_of_ble_eq_true rfl, Nat.le_of_ble_eq_true rfl⟩) 0 rfl rfl rfl rfl (Nat.le_of_ble_eq_true rfl) ⟨Nat.le_of_ble_eq_true rfl, Nat.le_of_ble_eq_true rfl⟩ (fun r3 u3 hu3 => ?_)
  obtain ⟨rfl, rfl⟩ := hu3
  refine j_iconst (v := 1) h dX3_left_6 (by decide) ?_
  refine j_iconst (v := 1) h dX3_left_7 (by decide) ?_
  refine j_callVI (vc := (RX3, TX3, 22)) h dX3_left_8 (c_X3_goes) (cwV 3 h.2.2.2.2.1 gX3_left_X3_goes rfl rfl rfl (by decide +kernel) ⟨Nat.le_of_ble_eq_true rfl, Nat.le_of_ble_eq_true rfl⟩) 0 rfl rfl rfl rfl (Nat.le_of_ble_eq_true rfl) ⟨Nat.le_of_ble_eq_true rfl, Nat.le_of_ble_eq_true rfl⟩ (fun r8 u8 hu8 => ?_)
  obtain ⟨rfl, rfl⟩ := hu8
  refine j_if_eq (tgt := 23) h dX3_left_11 (by decide) (fun c11 => ?_) (fun c11 => ?_)
  · -- t
    have hT : ¬ tL f x = 0 := of_decide_eq_false (bi_0.mp c11)
    refine j_iconst (v := 0) h dX3_left_23 (by decide) ?_
    exact j_iret h hrt hlk dX3_left_24 (by decide) (by decide) (by first | exact ⟨rfl, fun z => absurd z hT⟩ | exact ⟨rfl, fun _ => by rw [hac]⟩)
  · -- f
    have hT : isL f x = true := gl_1.mp (of_decide_eq_true (bi_n0.mp c11))
    obtain ⟨a, ha, rfl⟩ := inB_ix (n := n) (by omega) (by rw [← hn]; exact hT)
    have hac : (nI a).toNatClampNeg = a := nI_clamp (by omega)
    refine j_aload_nR h dX3_left_14 rfl ?_
    refine m_get4 h hin3 (by decide +kernel) dX3_left_15 ?_
    refine j_iload_n h dX3_left_18 rfl ?_
    refine m_ald4 h dX3_left_19 rfl (by omega) ?_
    refine j_goto (tgt := 24) h dX3_left_20 (by decide) ?_
    exact j_iret h hrt hlk dX3_left_24 (by decide) (by decide) (by first | exact ⟨rfl, fun z => absurd z hT⟩ | exact ⟨rfl, fun _ => by rw [hac]⟩)
set_option maxHeartbeats 4000000 in
set_option maxRecDepth 100000 in
theorem c_X3_placeOf {l : Launch} {D : va_G} {cI cL cR : ClassId} {ad : Nat → Nat} {f : St} {t : Int32} {x : Int32} {n : Nat} (hn : f 7 0 = nI n) (hn24 : n ≤ 24) (ho : ∀ k, k < n → f 5 k = -1 ∨ ∃ r, r < 8 ∧ f 5 k = nI r) : ctI l D vwCl (tyW cI cL cR) yX3_placeOf wsX3_placeOf { frames := 2, cells := 0, slots := 0, locals := 43 } [.ref (ad 0), .int x] (wM cI ad f t) (fun r u => u = wM cI ad f (tL f x) ∧ (tL f x = 0 → r = if hpB f x.toNatClampNeg = true then pl f x.toNatClampNeg else -1)) 0 0 := by
  refine ctI_of (cc := cX3_placeOf) (maxL := 2) (ret := (some .int)) (by decide) rfl rfl (Nat.le_of_ble_eq_true rfl) (by simp [Value.category]) [(0, .ref (ad 0)), (1, .int x)] rfl ?_
  intro p e s m args below meth c sz h hrt hlk hnm
  have hin3 : ∀ x ∈ wsX30, x ∈ wsX3_placeOf := by decide +kernel
  refine j_aload_nR h dX3_placeOf_0 rfl ?_
  refine j_aload_nR h dX3_placeOf_1 rfl ?_
  refine j_iload_n h dX3_placeOf_2 rfl ?_
  refine j_callVI (vc := (RX3, TX3, 22)) h dX3_placeOf_3 (c_X3_isLantern) (cwV 1 h.2.2.2.2.1 gX3_placeOf_X3_isLantern rfl rfl rfl (by decide +kernel) ⟨Nat.le_of_ble_eq_true rfl, Nat.le_of_ble_eq_true rfl⟩) 0 rfl rfl rfl rfl (Nat.le_of_ble_eq_true rfl) ⟨Nat.le_of_ble_eq_true rfl, Nat.le_of_ble_eq_true rfl⟩ (fun r3 u3 hu3 => ?_)
  obtain ⟨rfl, rfl⟩ := hu3
  refine j_iconst (v := 1) h dX3_placeOf_6 (by decide) ?_
  refine j_iconst (v := 1) h dX3_placeOf_7 (by decide) ?_
  refine j_callVI (vc := (RX3, TX3, 22)) h dX3_placeOf_8 (c_X3_goes) (cwV 3 h.2.2.2.2.1 gX3_placeOf_X3_goes rfl rfl rfl (by decide +kernel) ⟨Nat.le_of_ble_eq_true rfl, Nat.le_of_ble_eq_true rfl⟩) 0 rfl rfl rfl rfl (Nat.le_of_ble_eq_true rfl) ⟨Nat.le_of_ble_eq_true rfl, Nat.le_of_ble_eq_true rfl⟩ (fun r8 u8 hu8 => ?_)
  obtain ⟨rfl, rfl⟩ := hu8
  refine j_if_eq (tgt := 34) h dX3_placeOf_11 (by decide) (fun c11 => ?_) (fun c11 => ?_)
  · -- t
    have hT : ¬ tL f x = 0 := of_decide_eq_false (bi_0.mp c11)
    refine j_iconst (v := 0) h dX3_placeOf_34 (by decide) ?_
    exact j_iret h hrt hlk dX3_placeOf_35 (by decide) (by decide) (by first | exact ⟨rfl, fun z => absurd z hT⟩ | exact ⟨rfl, fun _ => by rw [hac]; simp_all [bi]⟩)
  · -- f
    have hT : isL f x = true := gl_1.mp (of_decide_eq_true (bi_n0.mp c11))
    obtain ⟨a, ha, rfl⟩ := inB_ix (n := n) (by omega) (by rw [← hn]; exact hT)
    have hac : (nI a).toNatClampNeg = a := nI_clamp (by omega)
    refine j_aload_nR h dX3_placeOf_14 rfl ?_
    refine j_iload_n h dX3_placeOf_15 rfl ?_
    refine j_callVI (vc := (RX3, TX3, 22)) h dX3_placeOf_16 (c_X3_hasPlace (a := a) (by omega) (ho a ha)) (cwV 1 h.2.2.2.2.1 gX3_placeOf_X3_hasPlace rfl rfl rfl (by decide +kernel) ⟨Nat.le_of_ble_eq_true rfl, Nat.le_of_ble_eq_true rfl⟩) 0 rfl rfl rfl rfl (Nat.le_of_ble_eq_true rfl) ⟨Nat.le_of_ble_eq_true rfl, Nat.le_of_ble_eq_true rfl⟩ (fun r16 u16 hu16 => ?_)
    obtain ⟨rfl, rfl⟩ := hu16
    refine j_if_eq (tgt := 30) h dX3_placeOf_19 (by decide) (fun c19 => ?_) (fun c19 => ?_)
    · -- t
      refine j_iconst (v := (-1)) h dX3_placeOf_30 (by decide) ?_
      refine j_goto (tgt := 35) h dX3_placeOf_31 (by decide) ?_
      exact j_iret h hrt hlk dX3_placeOf_35 (by decide) (by decide) (by first | exact ⟨rfl, fun z => absurd z hT⟩ | exact ⟨rfl, fun _ => by rw [hac]; simp_all [bi]⟩)
    · -- f
      have hp : hpB f a = true := bi_n0.mp c19
      obtain ⟨r, hr8, hr⟩ := (ho a ha).resolve_left (by simp only [hpB, Bool.and_eq_true, decide_eq_true_eq] at hp; exact hp.1)
      refine j_aload_nR h dX3_placeOf_22 rfl ?_
      refine j_iload_n h dX3_placeOf_23 rfl ?_
      refine j_callVI (vc := (RX3, TX3, 22)) h dX3_placeOf_24 (c_X3_place (a := a) (r := r) (by omega) hr8 hr) (cwV 1 h.2.2.2.2.1 gX3_placeOf_X3_place rfl rfl rfl (by decide +kernel) ⟨Nat.le_of_ble_eq_true rfl, Nat.le_of_ble_eq_true rfl⟩) 0 rfl rfl rfl rfl (Nat.le_of_ble_eq_true rfl) ⟨Nat.le_of_ble_eq_true rfl, Nat.le_of_ble_eq_true rfl⟩ (fun r24 u24 hu24 => ?_)
      obtain ⟨rfl, rfl⟩ := hu24
      refine j_goto (tgt := 35) h dX3_placeOf_27 (by decide) ?_
      exact j_iret h hrt hlk dX3_placeOf_35 (by decide) (by decide) (by first | exact ⟨rfl, fun z => absurd z hT⟩ | exact ⟨rfl, fun _ => by rw [hac]; simp_all [bi]⟩)
set_option maxHeartbeats 4000000 in
set_option maxRecDepth 100000 in
theorem c_X3_sortOf {l : Launch} {D : va_G} {cI cL cR : ClassId} {ad : Nat → Nat} {f : St} {t : Int32} {x : Int32} {b : Nat} (hn : f 14 0 = nI b) (hn24 : b ≤ 8)  : ctI l D vwCl (tyW cI cL cR) yX3_sortOf wsX3_sortOf { frames := 2, cells := 0, slots := 0, locals := 43 } [.ref (ad 0), .int x] (wM cI ad f t) (fun r u => u = wM cI ad f (tF f x) ∧ (tF f x = 0 → r = f 10 x.toNatClampNeg)) 0 0 := by
  refine ctI_of (cc := cX3_sortOf) (maxL := 2) (ret := (some .int)) (by decide) rfl rfl (Nat.le_of_ble_eq_true rfl) (by simp [Value.category]) [(0, .ref (ad 0)), (1, .int x)] rfl ?_
  intro p e s m args below meth c sz h hrt hlk hnm
  have hin3 : ∀ x ∈ wsX30, x ∈ wsX3_sortOf := by decide +kernel
  refine j_aload_nR h dX3_sortOf_0 rfl ?_
  refine j_aload_nR h dX3_sortOf_1 rfl ?_
  refine j_iload_n h dX3_sortOf_2 rfl ?_
  refine j_callVI (vc := (RX3, TX3, 22)) h dX3_sortOf_3 (c_X3_isFloat) (cwV 1 h.2.2.2.2.1 gX3_sortOf_X3_isFloat rfl rfl rfl (by decide +kernel) ⟨Nat.le_of_ble_eq_true rfl, Nat.le_of_ble_eq_true rfl⟩) 0 rfl rfl rfl rfl (Nat.le_of_ble_eq_true rfl) ⟨Nat.le_of_ble_eq_true rfl, Nat.le_of_ble_eq_true rfl⟩ (fun r3 u3 hu3 => ?_)
  obtain ⟨rfl, rfl⟩ := hu3
  refine j_iconst (v := 1) h dX3_sortOf_6 (by decide) ?_
  refine j_iconst (v := 1) h dX3_sortOf_7 (by decide) ?_
  refine j_callVI (vc := (RX3, TX3, 22)) h dX3_sortOf_8 (c_X3_goes) (cwV 3 h.2.2.2.2.1 gX3_sortOf_X3_goes rfl rfl rfl (by decide +kernel) ⟨Nat.le_of_ble_eq_true rfl, Nat.le_of_ble_eq_true rfl⟩) 0 rfl rfl rfl rfl (Nat.le_of_ble_eq_true rfl) ⟨Nat.le_of_ble_eq_true rfl, Nat.le_of_ble_eq_true rfl⟩ (fun r8 u8 hu8 => ?_)
  obtain ⟨rfl, rfl⟩ := hu8
  refine j_if_eq (tgt := 23) h dX3_sortOf_11 (by decide) (fun c11 => ?_) (fun c11 => ?_)
  · -- t
    have hT : ¬ tF f x = 0 := of_decide_eq_false (bi_0.mp c11)
    refine j_iconst (v := 0) h dX3_sortOf_23 (by decide) ?_
    exact j_iret h hrt hlk dX3_sortOf_24 (by decide) (by decide) (by first | exact ⟨rfl, fun z => absurd z hT⟩ | exact ⟨rfl, fun _ => by rw [hac]⟩)
  · -- f
    have hT : isF f x = true := gl_1.mp (of_decide_eq_true (bi_n0.mp c11))
    obtain ⟨a, ha, rfl⟩ := inB_ix (n := b) (by omega) (by rw [← hn]; exact hT)
    have hac : (nI a).toNatClampNeg = a := nI_clamp (by omega)
    refine j_aload_nR h dX3_sortOf_14 rfl ?_
    refine m_get10 h hin3 (by decide +kernel) dX3_sortOf_15 ?_
    refine j_iload_n h dX3_sortOf_18 rfl ?_
    refine m_ald10 h dX3_sortOf_19 rfl (by omega) ?_
    refine j_goto (tgt := 24) h dX3_sortOf_20 (by decide) ?_
    exact j_iret h hrt hlk dX3_sortOf_24 (by decide) (by decide) (by first | exact ⟨rfl, fun z => absurd z hT⟩ | exact ⟨rfl, fun _ => by rw [hac]⟩)
set_option maxHeartbeats 4000000 in
set_option maxRecDepth 100000 in
theorem c_X3_front {l : Launch} {D : va_G} {cI cL cR : ClassId} {ad : Nat → Nat} {f : St} {t : Int32} {x : Int32} {b : Nat} (hn : f 14 0 = nI b) (hn24 : b ≤ 8)  : ctI l D vwCl (tyW cI cL cR) yX3_front wsX3_front { frames := 2, cells := 0, slots := 0, locals := 43 } [.ref (ad 0), .int x] (wM cI ad f t) (fun r u => u = wM cI ad f (tF f x) ∧ (tF f x = 0 → r = if f 10 x.toNatClampNeg = 1 then f 11 x.toNatClampNeg else -1)) 0 0 := by
  refine ctI_of (cc := cX3_front) (maxL := 2) (ret := (some .int)) (by decide) rfl rfl (Nat.le_of_ble_eq_true rfl) (by simp [Value.category]) [(0, .ref (ad 0)), (1, .int x)] rfl ?_
  intro p e s m args below meth c sz h hrt hlk hnm
  have hin3 : ∀ x ∈ wsX30, x ∈ wsX3_front := by decide +kernel
  refine j_aload_nR h dX3_front_0 rfl ?_
  refine j_aload_nR h dX3_front_1 rfl ?_
  refine j_iload_n h dX3_front_2 rfl ?_
  refine j_callVI (vc := (RX3, TX3, 22)) h dX3_front_3 (c_X3_isFloat) (cwV 1 h.2.2.2.2.1 gX3_front_X3_isFloat rfl rfl rfl (by decide +kernel) ⟨Nat.le_of_ble_eq_true rfl, Nat.le_of_ble_eq_true rfl⟩) 0 rfl rfl rfl rfl (Nat.le_of_ble_eq_true rfl) ⟨Nat.le_of_ble_eq_true rfl, Nat.le_of_ble_eq_true rfl⟩ (fun r3 u3 hu3 => ?_)
  obtain ⟨rfl, rfl⟩ := hu3
  refine j_iconst (v := 1) h dX3_front_6 (by decide) ?_
  refine j_iconst (v := 1) h dX3_front_7 (by decide) ?_
  refine j_callVI (vc := (RX3, TX3, 22)) h dX3_front_8 (c_X3_goes) (cwV 3 h.2.2.2.2.1 gX3_front_X3_goes rfl rfl rfl (by decide +kernel) ⟨Nat.le_of_ble_eq_true rfl, Nat.le_of_ble_eq_true rfl⟩) 0 rfl rfl rfl rfl (Nat.le_of_ble_eq_true rfl) ⟨Nat.le_of_ble_eq_true rfl, Nat.le_of_ble_eq_true rfl⟩ (fun r8 u8 hu8 => ?_)
  obtain ⟨rfl, rfl⟩ := hu8
  refine j_if_eq (tgt := 37) h dX3_front_11 (by decide) (fun c11 => ?_) (fun c11 => ?_)
  · -- t
    have hT : ¬ tF f x = 0 := of_decide_eq_false (bi_0.mp c11)
    refine j_iconst (v := 0) h dX3_front_37 (by decide) ?_
    exact j_iret h hrt hlk dX3_front_38 (by decide) (by decide) (by first | exact ⟨rfl, fun z => absurd z hT⟩ | exact ⟨rfl, fun _ => by rw [hac]; simp_all⟩)
  · -- f
    have hT : isF f x = true := gl_1.mp (of_decide_eq_true (bi_n0.mp c11))
    obtain ⟨a, ha, rfl⟩ := inB_ix (n := b) (by omega) (by rw [← hn]; exact hT)
    have hac : (nI a).toNatClampNeg = a := nI_clamp (by omega)
    refine j_aload_nR h dX3_front_14 rfl ?_
    refine m_get10 h hin3 (by decide +kernel) dX3_front_15 ?_
    refine j_iload_n h dX3_front_18 rfl ?_
    refine m_ald10 h dX3_front_19 rfl (by omega) ?_
    refine j_iconst (v := 1) h dX3_front_20 (by decide) ?_
    refine j_icmp_ne (tgt := 33) h dX3_front_21 (by decide) (fun c21 => ?_) (fun c21 => ?_)
    · -- t
      refine j_iconst (v := (-1)) h dX3_front_33 (by decide) ?_
      refine j_goto (tgt := 38) h dX3_front_34 (by decide) ?_
      exact j_iret h hrt hlk dX3_front_38 (by decide) (by decide) (by first | exact ⟨rfl, fun z => absurd z hT⟩ | exact ⟨rfl, fun _ => by rw [hac]; simp_all⟩)
    · -- f
      refine j_aload_nR h dX3_front_24 rfl ?_
      refine m_get11 h hin3 (by decide +kernel) dX3_front_25 ?_
      refine j_iload_n h dX3_front_28 rfl ?_
      refine m_ald11 h dX3_front_29 rfl (by omega) ?_
      refine j_goto (tgt := 38) h dX3_front_30 (by decide) ?_
      exact j_iret h hrt hlk dX3_front_38 (by decide) (by decide) (by first | exact ⟨rfl, fun z => absurd z hT⟩ | exact ⟨rfl, fun _ => by rw [hac]; simp_all⟩)
set_option maxHeartbeats 4000000 in
set_option maxRecDepth 100000 in
theorem c_X3_load {l : Launch} {D : va_G} {cI cL cR : ClassId} {ad : Nat → Nat} {f : St} {t : Int32} {x : Int32} {b : Nat} {n : Nat} (hn : f 14 0 = nI b) (hn24 : b ≤ 8) (hnn : f 7 0 = nI n) (hnn24 : n ≤ 24) : ctI l D vwCl (tyW cI cL cR) yX3_load wsX3_load { frames := 2, cells := 0, slots := 0, locals := 44 } [.ref (ad 0), .int x] (wM cI ad f t) (fun r u => u = wM cI ad f (tF f x) ∧ (tF f x = 0 → r = ldS f x n)) 0 0 := by
  refine ctI_of (cc := cX3_load) (maxL := 2) (ret := (some .int)) (by decide) rfl rfl (Nat.le_of_ble_eq_true rfl) (by simp [Value.category]) [(0, .ref (ad 0)), (1, .int x)] rfl ?_
  intro p e s m args below meth c sz h hrt hlk hnm
  have hin3 : ∀ x ∈ wsX30, x ∈ wsX3_load := by decide +kernel
  refine j_aload_nR h dX3_load_0 rfl ?_
  refine j_aload_nR h dX3_load_1 rfl ?_
  refine j_iload_n h dX3_load_2 rfl ?_
  refine j_callVI (vc := (RX3, TX3, 22)) h dX3_load_3 (c_X3_isFloat) (cwV 1 h.2.2.2.2.1 gX3_load_X3_isFloat rfl rfl rfl (by decide +kernel) ⟨Nat.le_of_ble_eq_true rfl, Nat.le_of_ble_eq_true rfl⟩) 0 rfl rfl rfl rfl (Nat.le_of_ble_eq_true rfl) ⟨Nat.le_of_ble_eq_true rfl, Nat.le_of_ble_eq_true rfl⟩ (fun r3 u3 hu3 => ?_)
  obtain ⟨rfl, rfl⟩ := hu3
  refine j_iconst (v := 1) h dX3_load_6 (by decide) ?_
  refine j_iconst (v := 1) h dX3_load_7 (by decide) ?_
  refine j_callVI (vc := (RX3, TX3, 22)) h dX3_load_8 (c_X3_goes) (cwV 3 h.2.2.2.2.1 gX3_load_X3_goes rfl rfl rfl (by decide +kernel) ⟨Nat.le_of_ble_eq_true rfl, Nat.le_of_ble_eq_true rfl⟩) 0 rfl rfl rfl rfl (Nat.le_of_ble_eq_true rfl) ⟨Nat.le_of_ble_eq_true rfl, Nat.le_of_ble_eq_true rfl⟩ (fun r8 u8 hu8 => ?_)
  obtain ⟨rfl, rfl⟩ := hu8
  refine j_if_eq (tgt := 22) h dX3_load_11 (by decide) (fun c11 => ?_) (fun c11 => ?_)
  · -- t
    have hT : ¬ tF f x = 0 := of_decide_eq_false (bi_0.mp c11)
    refine j_iconst (v := 0) h dX3_load_22 (by decide) ?_
    exact j_iret h hrt hlk dX3_load_23 (by decide) (by decide) (by first | exact ⟨rfl, fun z => absurd z hT⟩ | exact ⟨rfl, fun _ => rfl⟩)
  · -- f
    have hT : isF f x = true := gl_1.mp (of_decide_eq_true (bi_n0.mp c11))
    obtain ⟨a, ha, rfl⟩ := inB_ix (n := b) (by omega) (by rw [← hn]; exact hT)
    have hac : (nI a).toNatClampNeg = a := nI_clamp (by omega)
    refine j_aload_nR h dX3_load_14 rfl ?_
    refine j_iload_n h dX3_load_15 rfl ?_
    refine j_callVI (vc := (RX3, TX3, 22)) h dX3_load_16 (c_X3_loadOf (n := n) hnn hnn24) (cwV 1 h.2.2.2.2.1 gX3_load_X3_loadOf rfl rfl rfl (by decide +kernel) ⟨Nat.le_of_ble_eq_true rfl, Nat.le_of_ble_eq_true rfl⟩) 0 rfl rfl rfl rfl (Nat.le_of_ble_eq_true rfl) ⟨Nat.le_of_ble_eq_true rfl, Nat.le_of_ble_eq_true rfl⟩ (fun r16 u16 hu16 => ?_)
    obtain ⟨rfl, rfl⟩ := hu16
    refine j_goto (tgt := 23) h dX3_load_19 (by decide) ?_
    exact j_iret h hrt hlk dX3_load_23 (by decide) (by decide) (by first | exact ⟨rfl, fun z => absurd z hT⟩ | exact ⟨rfl, fun _ => rfl⟩)
set_option maxHeartbeats 4000000 in
set_option maxRecDepth 100000 in
theorem c_X3_nearest {l : Launch} {D : va_G} {cI cL cR : ClassId} {ad : Nat → Nat} {f : St} {t : Int32} {x : Int32} {n : Nat} (hn : f 7 0 = nI n) (hn24 : n ≤ 24) (ho : ∀ k, k < n → f 5 k = -1 ∨ ∃ r, r < 8 ∧ f 5 k = nI r) (hlit : ∀ k, k < n → f 3 k = 1 → ∃ r, r < 8 ∧ f 5 k = nI r) : ctI l D vwCl (tyW cI cL cR) yX3_nearest wsX3_nearest { frames := 2, cells := 0, slots := 0, locals := 44 } [.ref (ad 0), .int x] (wM cI ad f t) (fun r u => u = wM cI ad f (tL f x) ∧ (tL f x = 0 → r = if hpB f x.toNatClampNeg = true then nrS f x.toNatClampNeg n else -1)) 0 0 := by
  refine ctI_of (cc := cX3_nearest) (maxL := 5) (ret := (some .int)) (by decide) rfl rfl (Nat.le_of_ble_eq_true rfl) (by simp [Value.category]) [(0, .ref (ad 0)), (1, .int x)] rfl ?_
  intro p e s m args below meth c sz h hrt hlk hnm
  have hin3 : ∀ x ∈ wsX30, x ∈ wsX3_nearest := by decide +kernel
  refine j_aload_nR h dX3_nearest_0 rfl ?_
  refine j_aload_nR h dX3_nearest_1 rfl ?_
  refine j_iload_n h dX3_nearest_2 rfl ?_
  refine j_callVI (vc := (RX3, TX3, 22)) h dX3_nearest_3 (c_X3_isLantern) (cwV 1 h.2.2.2.2.1 gX3_nearest_X3_isLantern rfl rfl rfl (by decide +kernel) ⟨Nat.le_of_ble_eq_true rfl, Nat.le_of_ble_eq_true rfl⟩) 0 rfl rfl rfl rfl (Nat.le_of_ble_eq_true rfl) ⟨Nat.le_of_ble_eq_true rfl, Nat.le_of_ble_eq_true rfl⟩ (fun r3 u3 hu3 => ?_)
  obtain ⟨rfl, rfl⟩ := hu3
  refine j_iconst (v := 1) h dX3_nearest_6 (by decide) ?_
  refine j_iconst (v := 1) h dX3_nearest_7 (by decide) ?_
  refine j_callVI (vc := (RX3, TX3, 22)) h dX3_nearest_8 (c_X3_goes) (cwV 3 h.2.2.2.2.1 gX3_nearest_X3_goes rfl rfl rfl (by decide +kernel) ⟨Nat.le_of_ble_eq_true rfl, Nat.le_of_ble_eq_true rfl⟩) 0 rfl rfl rfl rfl (Nat.le_of_ble_eq_true rfl) ⟨Nat.le_of_ble_eq_true rfl, Nat.le_of_ble_eq_true rfl⟩ (fun r8 u8 hu8 => ?_)
  obtain ⟨rfl, rfl⟩ := hu8
  refine j_if_ne (tgt := 16) h dX3_nearest_11 (by decide) (fun c11 => ?_) (fun c11 => ?_)
  · -- t
    have hT : isL f x = true := gl_1.mp (of_decide_eq_true (bi_n0.mp c11))
    obtain ⟨a, ha, rfl⟩ := inB_ix (n := n) (by omega) (by rw [← hn]; exact hT)
    have hac : (nI a).toNatClampNeg = a := nI_clamp (by omega)
    refine j_iconst (v := (-1)) h dX3_nearest_16 (by decide) ?_
    refine j_istore_n (i := 2) h dX3_nearest_17 rfl (by decide) ?_
    refine j_iconst (v := 0) h dX3_nearest_18 (by decide) ?_
    refine j_istore_n (i := 3) h dX3_nearest_19 rfl (by decide) ?_
    refine jj_loop (fun i : Nat => [(0, .ref (ad 0)), (1, .int (nI a)), (2, .int (nrS f a i)), (3, .int (nI i))]) (fun i : Nat => wM cI ad f (tL f (nI a))) (fun i : Nat => i ≤ n ∧ (hpB f a = true ∨ i = 0)) (fun i : Nat => n - i) 0 ⟨rfl, rfl, rfl, rfl, trivial⟩ rfl ⟨by omega, Or.inr rfl⟩ (fun i hi ih => ?_)
    obtain ⟨hi, hi0⟩ := hi
    refine j_iload_n h dX3_nearest_20 rfl ?_
    refine j_aload_nR h dX3_nearest_21 rfl ?_
    refine m_get7 h hin3 (by decide +kernel) dX3_nearest_22 ?_
    refine j_icmp_ge (tgt := 83) h dX3_nearest_25 (by decide) (fun c25 => ?_) (fun c25 => ?_)
    · -- t
      rw [hn, nI_leI (by omega) (by omega)] at c25
      refine j_iload_n h dX3_nearest_83 rfl ?_
      exact j_iret h hrt hlk dX3_nearest_84 (by decide) (by decide) (⟨rfl, fun _ => by rw [hac]; first | rw [if_neg hp, (hi0.resolve_left hp)]; rfl | (rw [show i = n by omega, if_pos (hi0.resolve_right (by omega))])⟩)
    · -- f
      rw [hn, nI_leI (by omega) (by omega)] at c25
      refine j_aload_nR h dX3_nearest_28 rfl ?_
      refine j_iload_n h dX3_nearest_29 rfl ?_
      refine j_callVI (vc := (RX3, TX3, 22)) h dX3_nearest_30 (c_X3_hasPlace (a := a) (by omega) (ho a ha)) (cwV 1 h.2.2.2.2.1 gX3_nearest_X3_hasPlace rfl rfl rfl (by decide +kernel) ⟨Nat.le_of_ble_eq_true rfl, Nat.le_of_ble_eq_true rfl⟩) 0 rfl rfl rfl rfl (Nat.le_of_ble_eq_true rfl) ⟨Nat.le_of_ble_eq_true rfl, Nat.le_of_ble_eq_true rfl⟩ (fun r30 u30 hu30 => ?_)
      obtain ⟨rfl, rfl⟩ := hu30
      refine j_if_eq (tgt := 83) h dX3_nearest_33 (by decide) (fun c33 => ?_) (fun c33 => ?_)
      · -- t
        have hp : ¬ hpB f a = true := by rw [bi_0.mp c33]; decide
        refine j_iload_n h dX3_nearest_83 rfl ?_
        exact j_iret h hrt hlk dX3_nearest_84 (by decide) (by decide) (⟨rfl, fun _ => by rw [hac]; first | rw [if_neg hp, (hi0.resolve_left hp)]; rfl | (rw [show i = n by omega, if_pos (hi0.resolve_right (by omega))])⟩)
      · -- f
        have hp : hpB f a = true := bi_n0.mp c33
        obtain ⟨r, hr8, hr⟩ := (ho a ha).resolve_left (by simp only [hpB, Bool.and_eq_true, decide_eq_true_eq] at hp; exact hp.1)
        refine j_iload_n h dX3_nearest_36 rfl ?_
        refine j_iload_n h dX3_nearest_37 rfl ?_
        refine j_icmp_eq (tgt := 77) h dX3_nearest_38 (by decide) (fun c38 => ?_) (fun c38 => ?_)
        · -- t
          rw [nI_eq (by omega) (by omega)] at c38
          refine j_iinc h dX3_nearest_77 rfl rfl (by decide) ?_
          refine j_goto (tgt := 20) h dX3_nearest_80 (by decide) ?_
          exact ih (i + 1) ⟨by omega, Or.inl hp⟩ (by omega) _ ⟨rfl, rfl, by first | (simp_all [nrS, lget]; done) | (simp [nrS, lget, c38, c48, c61, Int32.not_lt.mpr c67]; done), by simp [lget, nI_succ], trivial⟩
        · -- f
          rw [nI_eq (by omega) (by omega)] at c38
          refine j_aload_nR h dX3_nearest_41 rfl ?_
          refine m_get3 h hin3 (by decide +kernel) dX3_nearest_42 ?_
          refine j_iload_n h dX3_nearest_45 rfl ?_
          refine m_ald3 h dX3_nearest_46 rfl (by omega) ?_
          refine j_iconst (v := 1) h dX3_nearest_47 (by decide) ?_
          refine j_icmp_ne (tgt := 77) h dX3_nearest_48 (by decide) (fun c48 => ?_) (fun c48 => ?_)
          · -- t
            refine j_iinc h dX3_nearest_77 rfl rfl (by decide) ?_
            refine j_goto (tgt := 20) h dX3_nearest_80 (by decide) ?_
            exact ih (i + 1) ⟨by omega, Or.inl hp⟩ (by omega) _ ⟨rfl, rfl, by first | (simp_all [nrS, lget]; done) | (simp [nrS, lget, c38, c48, c61, Int32.not_lt.mpr c67]; done), by simp [lget, nI_succ], trivial⟩
          · -- f
            obtain ⟨rk, hrk8, hrk⟩ := hlit i (by omega) c48
            refine j_aload_nR h dX3_nearest_51 rfl ?_
            refine j_iload_n h dX3_nearest_52 rfl ?_
            refine j_iload_n h dX3_nearest_53 rfl ?_
            refine j_callVI (vc := (RX3, TX3, 22)) h dX3_nearest_54 (c_X3_distance (a := i) (r := rk) (b := a) (r2 := r) (by omega) hrk8 hrk (by omega) hr8 hr) (cwV 2 h.2.2.2.2.1 gX3_nearest_X3_distance rfl rfl rfl (by decide +kernel) ⟨Nat.le_of_ble_eq_true rfl, Nat.le_of_ble_eq_true rfl⟩) 0 rfl rfl rfl rfl (Nat.le_of_ble_eq_true rfl) ⟨Nat.le_of_ble_eq_true rfl, Nat.le_of_ble_eq_true rfl⟩ (fun r54 u54 hu54 => ?_)
            obtain ⟨rfl, rfl⟩ := hu54
            refine j_istore h dX3_nearest_57 (by decide) ?_
            refine j_iload_n h dX3_nearest_59 rfl ?_
            refine j_iconst (v := (-1)) h dX3_nearest_60 (by decide) ?_
            refine j_icmp_eq (tgt := 70) h dX3_nearest_61 (by decide) (fun c61 => ?_) (fun c61 => ?_)
            · -- t
              refine j_iload h dX3_nearest_70 rfl ?_
              refine j_goto (tgt := 76) h dX3_nearest_72 (by decide) ?_
              refine j_istore_n (i := 2) h dX3_nearest_76 rfl (by decide) ?_
              refine j_iinc h dX3_nearest_77 rfl rfl (by decide) ?_
              refine j_goto (tgt := 20) h dX3_nearest_80 (by decide) ?_
              exact ih (i + 1) ⟨by omega, Or.inl hp⟩ (by omega) _ ⟨rfl, rfl, by first | (simp_all [nrS, lget]; done) | (simp [nrS, lget, c38, c48, c61, Int32.not_lt.mpr c67]; done), by simp [lget, nI_succ], trivial⟩
            · -- f
              refine j_iload h dX3_nearest_64 rfl ?_
              refine j_iload_n h dX3_nearest_66 rfl ?_
              refine j_icmp_ge (tgt := 75) h dX3_nearest_67 (by decide) (fun c67 => ?_) (fun c67 => ?_)
              · -- t
                refine j_iload_n h dX3_nearest_75 rfl ?_
                refine j_istore_n (i := 2) h dX3_nearest_76 rfl (by decide) ?_
                refine j_iinc h dX3_nearest_77 rfl rfl (by decide) ?_
                refine j_goto (tgt := 20) h dX3_nearest_80 (by decide) ?_
                exact ih (i + 1) ⟨by omega, Or.inl hp⟩ (by omega) _ ⟨rfl, rfl, by first | (simp_all [nrS, lget]; done) | (simp [nrS, lget, c38, c48, c61, Int32.not_lt.mpr c67]; done), by simp [lget, nI_succ], trivial⟩
              · -- f
                rw [Int32.not_le] at c67
                refine j_iload h dX3_nearest_70 rfl ?_
                refine j_goto (tgt := 76) h dX3_nearest_72 (by decide) ?_
                refine j_istore_n (i := 2) h dX3_nearest_76 rfl (by decide) ?_
                refine j_iinc h dX3_nearest_77 rfl rfl (by decide) ?_
                refine j_goto (tgt := 20) h dX3_nearest_80 (by decide) ?_
                exact ih (i + 1) ⟨by omega, Or.inl hp⟩ (by omega) _ ⟨rfl, rfl, by first | (simp_all [nrS, lget]; done) | (simp [nrS, lget, c38, c48, c61, Int32.not_lt.mpr c67]; done), by simp [lget, nI_succ], trivial⟩
  · -- f
    have hT : ¬ tL f x = 0 := of_decide_eq_false (bi_0.mp c11)
    refine j_iconst (v := 0) h dX3_nearest_14 (by decide) ?_
    exact j_iret h hrt hlk dX3_nearest_15 (by decide) (by decide) (⟨rfl, fun z => absurd z hT⟩)
set_option maxHeartbeats 4000000 in
set_option maxRecDepth 100000 in
theorem c_X3_nearestOfAll {l : Launch} {D : va_G} {cI cL cR : ClassId} {ad : Nat → Nat} {f : St} {t : Int32} {x : Int32} {n : Nat} (hn : f 7 0 = nI n) (hn24 : n ≤ 24) (ho : ∀ k, k < n → f 5 k = -1 ∨ ∃ r, r < 8 ∧ f 5 k = nI r) (hlit : ∀ k, k < n → f 3 k = 1 → ∃ r, r < 8 ∧ f 5 k = nI r) : ctI l D vwCl (tyW cI cL cR) yX3_nearestOfAll wsX3_nearestOfAll { frames := 3, cells := 0, slots := 0, locals := 68 } [.ref (ad 0), .int x] (wM cI ad f t) (fun r u => u = wM cI ad f (tL f x) ∧ (tL f x = 0 → r = if hpB f x.toNatClampNeg = true then nrS f x.toNatClampNeg n else -1)) 0 0 := by
  refine ctI_of (cc := cX3_nearestOfAll) (maxL := 2) (ret := (some .int)) (by decide) rfl rfl (Nat.le_of_ble_eq_true rfl) (by simp [Value.category]) [(0, .ref (ad 0)), (1, .int x)] rfl ?_
  intro p e s m args below meth c sz h hrt hlk hnm
  have hin3 : ∀ x ∈ wsX30, x ∈ wsX3_nearestOfAll := by decide +kernel
  refine j_aload_nR h dX3_nearestOfAll_0 rfl ?_
  refine j_iload_n h dX3_nearestOfAll_1 rfl ?_
  refine j_callVI (vc := (RX3, TX3, 22)) h dX3_nearestOfAll_2 (c_X3_nearest (n := n) hn hn24 ho hlit) (cwV 1 h.2.2.2.2.1 gX3_nearestOfAll_X3_nearest rfl rfl rfl (by decide +kernel) ⟨Nat.le_of_ble_eq_true rfl, Nat.le_of_ble_eq_true rfl⟩) 0 rfl rfl rfl rfl (Nat.le_of_ble_eq_true rfl) ⟨Nat.le_of_ble_eq_true rfl, Nat.le_of_ble_eq_true rfl⟩ (fun r2 u2 hu2 => ?_)
  obtain ⟨rfl, hq2⟩ := hu2
  exact j_iret h hrt hlk dX3_nearestOfAll_5 (by decide) (by decide) (⟨rfl, hq2⟩)
set_option maxHeartbeats 4000000 in
set_option maxRecDepth 100000 in
theorem c_X3_time {l : Launch} {D : va_G} {cI cL cR : ClassId} {ad : Nat → Nat} {f : St} {t : Int32}  : ctI l D vwCl (tyW cI cL cR) yX3_time wsX3_time { frames := 0, cells := 0, slots := 0, locals := 0 } [.ref (ad 0)] (wM cI ad f t) (fun r u => r = f 18 0 ∧ u = wM cI ad f 0) 0 0 := by
  refine ctI_of (cc := cX3_time) (maxL := 1) (ret := (some .int)) (by decide) rfl rfl (Nat.le_of_ble_eq_true rfl) (by simp [Value.category]) [(0, .ref (ad 0))] rfl ?_
  intro p e s m args below meth c sz h hrt hlk hnm
  have hin3 : ∀ x ∈ wsX30, x ∈ wsX3_time := by decide +kernel
  refine j_aload_nR h dX3_time_0 rfl ?_
  refine j_iconst (v := 0) h dX3_time_1 (by decide) ?_
  refine m_put21 h hin3 (by decide +kernel) dX3_time_2 ?_
  refine j_aload_nR h dX3_time_5 rfl ?_
  refine m_get18 h hin3 (by decide +kernel) dX3_time_6 ?_
  exact j_iret h hrt hlk dX3_time_9 (by decide) (by decide) (⟨rfl, rfl⟩)
set_option maxHeartbeats 4000000 in
set_option maxRecDepth 100000 in
theorem c_X3_lanterns {l : Launch} {D : va_G} {cI cL cR : ClassId} {ad : Nat → Nat} {f : St} {t : Int32}  : ctI l D vwCl (tyW cI cL cR) yX3_lanterns wsX3_lanterns { frames := 0, cells := 0, slots := 0, locals := 0 } [.ref (ad 0)] (wM cI ad f t) (fun r u => r = f 7 0 ∧ u = wM cI ad f 0) 0 0 := by
  refine ctI_of (cc := cX3_lanterns) (maxL := 1) (ret := (some .int)) (by decide) rfl rfl (Nat.le_of_ble_eq_true rfl) (by simp [Value.category]) [(0, .ref (ad 0))] rfl ?_
  intro p e s m args below meth c sz h hrt hlk hnm
  have hin3 : ∀ x ∈ wsX30, x ∈ wsX3_lanterns := by decide +kernel
  refine j_aload_nR h dX3_lanterns_0 rfl ?_
  refine j_iconst (v := 0) h dX3_lanterns_1 (by decide) ?_
  refine m_put21 h hin3 (by decide +kernel) dX3_lanterns_2 ?_
  refine j_aload_nR h dX3_lanterns_5 rfl ?_
  refine m_get7 h hin3 (by decide +kernel) dX3_lanterns_6 ?_
  exact j_iret h hrt hlk dX3_lanterns_9 (by decide) (by decide) (⟨rfl, rfl⟩)
set_option maxHeartbeats 4000000 in
set_option maxRecDepth 100000 in
theorem c_X3_blownOut {l : Launch} {D : va_G} {cI cL cR : ClassId} {ad : Nat → Nat} {f : St} {t : Int32}  : ctI l D vwCl (tyW cI cL cR) yX3_blownOut wsX3_blownOut { frames := 0, cells := 0, slots := 0, locals := 0 } [.ref (ad 0)] (wM cI ad f t) (fun r u => r = f 19 0 ∧ u = wM cI ad f 0) 0 0 := by
  refine ctI_of (cc := cX3_blownOut) (maxL := 1) (ret := (some .int)) (by decide) rfl rfl (Nat.le_of_ble_eq_true rfl) (by simp [Value.category]) [(0, .ref (ad 0))] rfl ?_
  intro p e s m args below meth c sz h hrt hlk hnm
  have hin3 : ∀ x ∈ wsX30, x ∈ wsX3_blownOut := by decide +kernel
  refine j_aload_nR h dX3_blownOut_0 rfl ?_
  refine j_iconst (v := 0) h dX3_blownOut_1 (by decide) ?_
  refine m_put21 h hin3 (by decide +kernel) dX3_blownOut_2 ?_
  refine j_aload_nR h dX3_blownOut_5 rfl ?_
  refine m_get19 h hin3 (by decide +kernel) dX3_blownOut_6 ?_
  exact j_iret h hrt hlk dX3_blownOut_9 (by decide) (by decide) (⟨rfl, rfl⟩)
set_option maxHeartbeats 4000000 in
set_option maxRecDepth 100000 in
theorem c_X3_ordered {l : Launch} {D : va_G} {cI cL cR : ClassId} {ad : Nat → Nat} {f : St} {t : Int32}  : ctI l D vwCl (tyW cI cL cR) yX3_ordered wsX3_ordered { frames := 0, cells := 0, slots := 0, locals := 0 } [.ref (ad 0)] (wM cI ad f t) (fun r u => r = f 20 0 ∧ u = wM cI ad f 0) 0 0 := by
  refine ctI_of (cc := cX3_ordered) (maxL := 1) (ret := (some .int)) (by decide) rfl rfl (Nat.le_of_ble_eq_true rfl) (by simp [Value.category]) [(0, .ref (ad 0))] rfl ?_
  intro p e s m args below meth c sz h hrt hlk hnm
  have hin3 : ∀ x ∈ wsX30, x ∈ wsX3_ordered := by decide +kernel
  refine j_aload_nR h dX3_ordered_0 rfl ?_
  refine j_iconst (v := 0) h dX3_ordered_1 (by decide) ?_
  refine m_put21 h hin3 (by decide +kernel) dX3_ordered_2 ?_
  refine j_aload_nR h dX3_ordered_5 rfl ?_
  refine m_get20 h hin3 (by decide +kernel) dX3_ordered_6 ?_
  exact j_iret h hrt hlk dX3_ordered_9 (by decide) (by decide) (⟨rfl, rfl⟩)
