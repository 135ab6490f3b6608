set_option maxHeartbeats 4000000 in
set_option maxRecDepth 100000 in
theorem c_X1_rear {l : Launch} {D : va_G} {cI cL cR : ClassId} {ad : Nat → Nat} {f : St} {C : List Nat} {n b q : Nat} {r : Nat} (hx : xw n b q f C) (hr : r < b) : ctI l D vwCl (tyW cI cL cR) yX1_rear wsX1_rear { frames := 0, cells := 0, slots := 0, locals := 0 } [.ref (ad (29 + r))] (wX cI cL cR ad C f) (fun v u => v = (f 11 r - 9) ∧ u = (wX cI cL cR ad C f)) 0 0 := by
  refine ctI_of (cc := cX1_rear) (maxL := 1) (ret := (some .int)) (by decide) rfl rfl (Nat.le_of_ble_eq_true rfl) (by simp [Value.category]) [(0, .ref (ad (29 + r)))] rfl ?_
  intro p e s m args below meth c sz h hrt hlk hnm
  have hin1 : ∀ x ∈ wsX10, x ∈ wsX1_rear := by decide +kernel
  have hn24 := hx.1
  have hb8 := hx.2.1
  have hq8 := hx.2.2.1
  refine j_aload_nR h dX1_rear_0 rfl ?_
  refine x1_get5 h hin1 (by decide +kernel) dX1_rear_1 (by omega) (by first | exact hx.c (by omega) | exact hx.l (by omega) | exact hx.r (by omega) | exact hx.s (by omega)) ?_
  refine j_bipush (v := 9) h dX1_rear_4 (by decide) ?_
  refine j_isub h dX1_rear_6 ?_
  exact j_iret h hrt hlk dX1_rear_7 (by decide) (by decide) (⟨rfl, rfl⟩)
set_option maxHeartbeats 4000000 in
set_option maxRecDepth 100000 in
theorem c_X1_lanternIn {l : Launch} {D : va_G} {cI cL cR : ClassId} {ad : Nat → Nat} {f : St} {C : List Nat} {n b q : Nat} {r : Nat} {x : Int32} (hx : xw n b q f C) (hr : r < b) : ctQ l D vwCl (tyW cI cL cR) yX1_lanternIn wsX1_lanternIn { frames := 1, cells := 0, slots := 0, locals := 22 } [.ref (ad (29 + r)), .int x] (wX cI cL cR ad C f) (fun v u => v = (if inB x 0 9 = true then ro ad 5 (f (30 + r) x.toNatClampNeg) else none) ∧ u = (wX cI cL cR ad C f)) 0 0 := by
  refine ctQ_of (cc := cX1_lanternIn) (maxL := 2) (ret := (some (.object "Festoon$Lantern"))) (by decide) rfl rfl (Nat.le_of_ble_eq_true rfl) (by simp [Value.category]) [(0, .ref (ad (29 + r))), (1, .int x)] rfl ?_
  intro p e s m args below meth c sz h hrt hlk hnm
  have hin1 : ∀ x ∈ wsX10, x ∈ wsX1_lanternIn := by decide +kernel
  have hn24 := hx.1
  have hb8 := hx.2.1
  have hq8 := hx.2.2.1
  obtain ⟨B9, -, -, hxe9⟩ := id h.2.2.2.2.2.2.2
  refine j_iload_n h dX1_lanternIn_0 rfl ?_
  refine j_iconst (v := 0) h dX1_lanternIn_1 (by decide) ?_
  refine j_aload_nR h dX1_lanternIn_2 rfl ?_
  refine x1_get3 h hin1 (by decide +kernel) dX1_lanternIn_3 (by omega) (by first | exact hx.c (by omega) | exact hx.l (by omega) | exact hx.r (by omega) | exact hx.s (by omega)) ?_
  refine x1_alen3 h dX1_lanternIn_6 (by first | exact hx.c (by omega) | exact hx.l (by omega) | exact hx.r (by omega) | exact hx.s (by omega)) ?_
  refine j_iconst (v := 1) h dX1_lanternIn_7 (by decide) ?_
  refine j_isub h dX1_lanternIn_8 ?_
  rw [show ((10 : Int32) - 1) = 9 from rfl]
  refine j_callNI h dX1_lanternIn_9 (c_X2_within) ⟨va_cnB (host := RX2) 3 h.2.2.2.2.1 gX1_lanternIn_X2_within_n36 rfl rfl rfl hxe9.2.2.2.1 (h.2.2.2.2.1 _ (by decide +kernel)) (by decide +kernel) ⟨Nat.le_of_ble_eq_true rfl, Nat.le_of_ble_eq_true rfl⟩, h.2.2.2.2.1 _ (by decide +kernel), trivial⟩ rfl rfl (Nat.le_of_ble_eq_true rfl) ⟨Nat.le_of_ble_eq_true rfl, Nat.le_of_ble_eq_true rfl⟩ (fun r9 u9 hu9 => ?_)
  obtain ⟨rfl, rfl⟩ := hu9
  refine j_if_eq (tgt := 24) h dX1_lanternIn_12 (by decide) (fun c12 => ?_) (fun c12 => ?_)
  · -- t
    have hB : inB x 0 9 = false := bi_0.mp c12
    refine j_null h dX1_lanternIn_24 ?_
    exact j_qret (v := none) h hrt hlk dX1_lanternIn_25 (by decide) (by decide) (⟨by simp [hB, *, ro_s, ro_n], rfl⟩)
  · -- f
    have hB : inB x 0 9 = true := bi_n0.mp c12
    obtain ⟨a, ha, rfl⟩ := inB_ix (n := 10) (by decide) hB
    have hac : (nI a).toNatClampNeg = a := nI_clamp (by omega)
    refine j_aload_nR h dX1_lanternIn_15 rfl ?_
    refine x1_get3 h hin1 (by decide +kernel) dX1_lanternIn_16 (by omega) (by first | exact hx.c (by omega) | exact hx.l (by omega) | exact hx.r (by omega) | exact hx.s (by omega)) ?_
    refine j_iload_n h dX1_lanternIn_19 rfl ?_
    refine xl_alds h (by first | assumption | exact hx.up (by omega) _ _ | exact (hx.up (by omega) _ _).up (by omega) _ _) dX1_lanternIn_20 (by omega) rfl (by omega) (fun e20 => ?_) (fun r20 hr20 e20 => ?_)
    · -- n
      refine j_goto (tgt := 25) h dX1_lanternIn_21 (by decide) ?_
      exact j_qret (v := none) h hrt hlk dX1_lanternIn_25 (by decide) (by decide) (⟨by simp [hB, *, ro_s, ro_n], rfl⟩)
    · -- r
      have hro : ro ad 5 (nI r20) = some (ad (5 + r20)) := ro_s _ _ (by omega)
      refine j_goto (tgt := 25) h dX1_lanternIn_21 (by decide) ?_
      exact j_qret (v := some _) h hrt hlk dX1_lanternIn_25 (by decide) (by decide) (⟨by simp [hB, *, ro_s, ro_n], rfl⟩)
set_option maxHeartbeats 4000000 in
set_option maxRecDepth 100000 in
theorem c_X1_put {l : Launch} {D : va_G} {cI cL cR : ClassId} {ad : Nat → Nat} {f : St} {C : List Nat} {n b q : Nat} {r : Nat} {k a : Nat} (hx : xw n b q f C) (hr : r < b) (hk : k < n) (ha : a < 10) : ctV l D vwCl (tyW cI cL cR) yX1_put wsX1_put { frames := 1, cells := 0, slots := 0, locals := 22 } [.ref (ad (29 + r)), .ref (ad (5 + k)), .int (nI a)] (wX cI cL cR ad C f) (fun u => u = wX cI cL cR ad C (up2 (up2 (up2 f (30 + r) a (nI k)) 5 k (nI r)) 6 k (nI a))) 0 0 := by
  refine ctV_of (cc := cX1_put) (maxL := 3) (ret := none) (by decide) rfl rfl (Nat.le_of_ble_eq_true rfl) (by simp [Value.category]) [(0, .ref (ad (29 + r))), (1, .ref (ad (5 + k))), (2, .int (nI a))] rfl ?_
  intro p e s m args below meth c sz h hrt hlk hnm
  have hin0 : ∀ x ∈ wsX00, x ∈ wsX1_put := by decide +kernel
  have hin1 : ∀ x ∈ wsX10, x ∈ wsX1_put := by decide +kernel
  have hn24 := hx.1
  have hb8 := hx.2.1
  have hq8 := hx.2.2.1
  obtain ⟨B9, -, -, hxe9⟩ := id h.2.2.2.2.2.2.2
  refine j_iload_n h dX1_put_0 rfl ?_
  refine j_iconst (v := 0) h dX1_put_1 (by decide) ?_
  refine j_aload_nR h dX1_put_2 rfl ?_
  refine x1_get3 h hin1 (by decide +kernel) dX1_put_3 (by omega) (by first | exact hx.c (by omega) | exact hx.l (by omega) | exact hx.r (by omega) | exact hx.s (by omega)) ?_
  refine x1_alen3 h dX1_put_6 (by first | exact hx.c (by omega) | exact hx.l (by omega) | exact hx.r (by omega) | exact hx.s (by omega)) ?_
  refine j_iconst (v := 1) h dX1_put_7 (by decide) ?_
  refine j_isub h dX1_put_8 ?_
  rw [show ((10 : Int32) - 1) = 9 from rfl]
  refine j_callNI h dX1_put_9 (c_X2_within) ⟨va_cnB (host := RX2) 3 h.2.2.2.2.1 gX1_put_X2_within_n36 rfl rfl rfl hxe9.2.2.2.1 (h.2.2.2.2.1 _ (by decide +kernel)) (by decide +kernel) ⟨Nat.le_of_ble_eq_true rfl, Nat.le_of_ble_eq_true rfl⟩, h.2.2.2.2.1 _ (by decide +kernel), trivial⟩ rfl rfl (Nat.le_of_ble_eq_true rfl) ⟨Nat.le_of_ble_eq_true rfl, Nat.le_of_ble_eq_true rfl⟩ (fun r9 u9 hu9 => ?_)
  obtain ⟨rfl, rfl⟩ := hu9
  refine j_if_eq (tgt := 32) h dX1_put_12 (by decide) (fun c12 => ?_) (fun c12 => ?_)
  · -- t
    exact absurd (bi_0.mp c12) (by rw [show inB (nI a) 0 9 = true from ix_inB (n := 10) (by decide) ha]; decide)
  · -- f
    refine j_aload_nR h dX1_put_15 rfl ?_
    refine x1_get3 h hin1 (by decide +kernel) dX1_put_16 (by omega) (by first | exact hx.c (by omega) | exact hx.l (by omega) | exact hx.r (by omega) | exact hx.s (by omega)) ?_
    refine j_iload_n h dX1_put_19 rfl ?_
    refine j_aload_nR h dX1_put_20 rfl ?_
    refine x1_ast3R h dX1_put_21 (by first | exact hx.c (by omega) | exact hx.l (by omega) | exact hx.r (by omega) | exact hx.s (by omega)) (by omega) (by first | exact hx.c (by omega) | exact hx.l (by omega) | exact hx.r (by omega) | exact hx.s (by omega)) rfl (by omega) ?_
    refine j_aload_nR h dX1_put_22 rfl ?_
    refine j_aload_nR h dX1_put_23 rfl ?_
    refine x0_put5R (by omega) h hin0 (by decide +kernel) dX1_put_24 (by omega) (by first | exact hx.c (by omega) | exact hx.l (by omega) | exact hx.r (by omega) | exact hx.s (by omega)) ?_
    refine j_aload_nR h dX1_put_27 rfl ?_
    refine j_iload_n h dX1_put_28 rfl ?_
    refine x0_put6 h hin0 (by decide +kernel) dX1_put_29 (by omega) (by first | exact hx.c (by omega) | exact hx.l (by omega) | exact hx.r (by omega) | exact hx.s (by omega)) ?_
    exact j_vret h hrt hlk dX1_put_32 (by decide) (by decide) (rfl)
set_option maxHeartbeats 4000000 in
set_option maxRecDepth 100000 in
theorem c_X1_free {l : Launch} {D : va_G} {cI cL cR : ClassId} {ad : Nat → Nat} {f : St} {C : List Nat} {n b q : Nat} {r : Nat} {k : Nat} (hx : xw n b q f C) (hr : r < b) (hk : k < n) : ctV l D vwCl (tyW cI cL cR) yX1_free wsX1_free { frames := 0, cells := 0, slots := 0, locals := 0 } [.ref (ad (29 + r)), .ref (ad (5 + k))] (wX cI cL cR ad C f) (fun u => u = wX cI cL cR ad C (up2 (up2 (frF f r k 10) 5 k (-1)) 6 k (-1))) 0 0 := by
  refine ctV_of (cc := cX1_free) (maxL := 3) (ret := none) (by decide) rfl rfl (Nat.le_of_ble_eq_true rfl) (by simp [Value.category]) [(0, .ref (ad (29 + r))), (1, .ref (ad (5 + k)))] rfl ?_
  intro p e s m args below meth c sz h hrt hlk hnm
  have hin0 : ∀ x ∈ wsX00, x ∈ wsX1_free := by decide +kernel
  have hin1 : ∀ x ∈ wsX10, x ∈ wsX1_free := by decide +kernel
  have hn24 := hx.1
  have hb8 := hx.2.1
  have hq8 := hx.2.2.1
  refine j_iconst (v := 0) h dX1_free_0 (by decide) ?_
  refine j_istore_n (i := 2) h dX1_free_1 rfl (by decide) ?_
  refine jj_loop (fun i : Nat => [(0, .ref (ad (29 + r))), (1, .ref (ad (5 + k))), (2, .int (nI i))]) (fun i : Nat => wX cI cL cR ad C (frF f r k i)) (fun i : Nat => i ≤ 10) (fun i : Nat => 10 - i) 0 ⟨rfl, rfl, rfl, trivial⟩ rfl (by first | omega | exact ⟨by omega, by rw [Nat.zero_min]; rfl⟩) (fun i hi ihi => ?_)
  have hxi := hx.fr r k i
  have hfi := frF_get f r k i (Nat.le_refl i)
  refine j_iload_n h dX1_free_2 rfl ?_
  refine j_aload_nR h dX1_free_3 rfl ?_
  refine x1_get3 h hin1 (by decide +kernel) dX1_free_4 (by omega) (by first | exact hx.c (by omega) | exact hx.l (by omega) | exact hx.r (by omega) | exact hx.s (by omega)) ?_
  refine x1_alen3 h dX1_free_7 (by first | exact hx.c (by omega) | exact hx.l (by omega) | exact hx.r (by omega) | exact hx.s (by omega)) ?_
  refine j_icmp_ge (tgt := 34) h dX1_free_8 (by decide) (fun c8 => ?_) (fun c8 => ?_)
  · -- t
    rw [show (10 : Int32) = nI 10 from rfl, nI_leI (by omega) (by omega)] at c8
    obtain rfl : i = 10 := by omega
    refine j_aload_nR h dX1_free_34 rfl ?_
    refine j_null h dX1_free_35 ?_
    refine x0_put5N h hin0 (by decide +kernel) dX1_free_36 (by omega) (by first | exact hx.c (by omega) | exact hx.l (by omega) | exact hx.r (by omega) | exact hx.s (by omega)) ?_
    refine j_aload_nR h dX1_free_39 rfl ?_
    refine j_iconst (v := (-1)) h dX1_free_40 (by decide) ?_
    refine x0_put6 h hin0 (by decide +kernel) dX1_free_41 (by omega) (by first | exact hx.c (by omega) | exact hx.l (by omega) | exact hx.r (by omega) | exact hx.s (by omega)) ?_
    exact j_vret h hrt hlk dX1_free_44 (by decide) (by decide) (rfl)
  · -- f
    rw [show (10 : Int32) = nI 10 from rfl, nI_leI (by omega) (by omega)] at c8
    refine j_aload_nR h dX1_free_11 rfl ?_
    refine x1_get3 h hin1 (by decide +kernel) dX1_free_12 (by omega) (by first | exact hx.c (by omega) | exact hx.l (by omega) | exact hx.r (by omega) | exact hx.s (by omega)) ?_
    refine j_iload_n h dX1_free_15 rfl ?_
    refine xl_alds h hxi dX1_free_16 (by omega) rfl (by omega) (fun e16 => ?_) (fun r16 hr16 e16 => ?_)
    · -- n
      have hs : f (30 + r) i = -1 := hfi.symm.trans e16
      have hE : frF f r k (i + 1) = frF f r k i := by rw [frF, if_neg (fun z => nI_nm1 (show k < 2 ^ 31 by omega) (z.symm.trans hs))]
      refine j_aload_nR h dX1_free_17 rfl ?_
      refine j_acmp_neNR (tgt := 28) h dX1_free_18 (by decide) ?_
      refine j_iinc h dX1_free_28 rfl rfl (by decide) ?_
      refine j_goto (tgt := 2) h dX1_free_31 (by decide) ?_
      exact jj_ws (by rw [hE]) (ihi (i + 1) (by omega) (by omega) _ ⟨rfl, rfl, by simp [lget, nI_succ], trivial⟩)
    · -- r
      have hs : f (30 + r) i = nI r16 := hfi.symm.trans e16
      refine j_aload_nR h dX1_free_17 rfl ?_
      refine x_acmp_ne (tgt := 28) h dX1_free_18 (by decide) (by first | exact hx.c (by omega) | exact hx.l (by omega) | exact hx.r (by omega) | exact hx.s (by omega)) (by first | exact hx.c (by omega) | exact hx.l (by omega) | exact hx.r (by omega) | exact hx.s (by omega)) (fun c18 => ?_) (fun c18 => ?_)
      · -- t
        have hne : ¬ nI k = nI r16 := fun z => c18 (by rw [(nI_eq (by omega) (by omega)).mp z])
        have hE : frF f r k (i + 1) = frF f r k i := by rw [frF, if_neg (fun z => hne (z.symm.trans hs))]
        refine j_iinc h dX1_free_28 rfl rfl (by decide) ?_
        refine j_goto (tgt := 2) h dX1_free_31 (by decide) ?_
        exact jj_ws (by rw [hE]) (ihi (i + 1) (by omega) (by omega) _ ⟨rfl, rfl, by simp [lget, nI_succ], trivial⟩)
      · -- f
        have hkr : r16 = k := by omega
        have hE : frF f r k (i + 1) = up2 (frF f r k i) (30 + r) i (-1) := by rw [frF, if_pos (by rw [hs, hkr])]
        refine j_aload_nR h dX1_free_21 rfl ?_
        refine x1_get3 h hin1 (by decide +kernel) dX1_free_22 (by omega) (by first | exact hx.c (by omega) | exact hx.l (by omega) | exact hx.r (by omega) | exact hx.s (by omega)) ?_
        refine j_iload_n h dX1_free_25 rfl ?_
        refine j_null h dX1_free_26 ?_
        refine x1_ast3N h dX1_free_27 (by first | exact hx.c (by omega) | exact hx.l (by omega) | exact hx.r (by omega) | exact hx.s (by omega)) rfl (by omega) ?_
        refine j_iinc h dX1_free_28 rfl rfl (by decide) ?_
        refine j_goto (tgt := 2) h dX1_free_31 (by decide) ?_
        exact jj_ws (by rw [hE]) (ihi (i + 1) (by omega) (by omega) _ ⟨rfl, rfl, by simp [lget, nI_succ], trivial⟩)
set_option maxHeartbeats 4000000 in
set_option maxRecDepth 100000 in
theorem c_X1_weight {l : Launch} {D : va_G} {cI cL cR : ClassId} {ad : Nat → Nat} {f : St} {C : List Nat} {n b q : Nat} {r : Nat} (hx : xw n b q f C) (hr : r < b) : ctI l D vwCl (tyW cI cL cR) yX1_weight wsX1_weight { frames := 1, cells := 0, slots := 0, locals := 20 } [.ref (ad (29 + r))] (wX cI cL cR ad C f) (fun v u => v = (wtS f r 10) ∧ u = (wX cI cL cR ad C f)) 0 0 := by
  refine ctI_of (cc := cX1_weight) (maxL := 6) (ret := (some .int)) (by decide) rfl rfl (Nat.le_of_ble_eq_true rfl) (by simp [Value.category]) [(0, .ref (ad (29 + r)))] rfl ?_
  intro p e s m args below meth c sz h hrt hlk hnm
  have hin1 : ∀ x ∈ wsX10, x ∈ wsX1_weight := by decide +kernel
  have hn24 := hx.1
  have hb8 := hx.2.1
  have hq8 := hx.2.2.1
  refine j_iconst (v := 0) h dX1_weight_0 (by decide) ?_
  refine j_istore_n (i := 1) h dX1_weight_1 rfl (by decide) ?_
  refine j_aload_nR h dX1_weight_2 rfl ?_
  refine x1_get3 h hin1 (by decide +kernel) dX1_weight_3 (by omega) (by first | exact hx.c (by omega) | exact hx.l (by omega) | exact hx.r (by omega) | exact hx.s (by omega)) ?_
  refine j_astore_nR (i := 2) h dX1_weight_6 rfl (by decide) ?_
  refine j_aload_nR h dX1_weight_7 rfl ?_
  refine x1_alen3 h dX1_weight_8 (by first | exact hx.c (by omega) | exact hx.l (by omega) | exact hx.r (by omega) | exact hx.s (by omega)) ?_
  refine j_istore_n (i := 3) h dX1_weight_9 rfl (by decide) ?_
  refine j_iconst (v := 0) h dX1_weight_10 (by decide) ?_
  refine j_istore h dX1_weight_11 (by decide) ?_
  refine jj_loop (fun i : Nat => [(1, .int (wtS f r i)), (2, .ref (ad (37 + r))), (3, .int 10), (4, .int (nI i))]) (fun i : Nat => (wX cI cL cR ad C f)) (fun i : Nat => i ≤ 10) (fun i : Nat => 10 - i) 0 ⟨rfl, rfl, rfl, rfl, trivial⟩ rfl (by first | omega | exact ⟨by omega, by rw [Nat.zero_min]; rfl⟩) (fun i hi ihi => ?_)
  refine j_iload h dX1_weight_13 rfl ?_
  refine j_iload_n h dX1_weight_15 rfl ?_
  refine j_icmp_ge (tgt := 44) h dX1_weight_16 (by decide) (fun c16 => ?_) (fun c16 => ?_)
  · -- t
    rw [show (10 : Int32) = nI 10 from rfl, nI_leI (by omega) (by omega)] at c16
    refine j_iload_n h dX1_weight_44 rfl ?_
    exact j_iret h hrt hlk dX1_weight_45 (by decide) (by decide) (⟨by rw [show i = 10 by omega], rfl⟩)
  · -- f
    rw [show (10 : Int32) = nI 10 from rfl, nI_leI (by omega) (by omega)] at c16
    refine j_aload_nR h dX1_weight_19 rfl ?_
    refine j_iload h dX1_weight_20 rfl ?_
    refine xl_alds h (by first | assumption | exact hx.up (by omega) _ _ | exact (hx.up (by omega) _ _).up (by omega) _ _) dX1_weight_22 (by omega) rfl (by omega) (fun e22 => ?_) (fun r22 hr22 e22 => ?_)
    · -- n
      refine j_astoreN h dX1_weight_23 (by decide) ?_
      refine j_aload h dX1_weight_25 rfl (Or.inl rfl) ?_
      refine j_ifnullN (tgt := 38) h dX1_weight_27 (by decide) ?_
      refine j_iinc h dX1_weight_38 rfl rfl (by decide) ?_
      refine j_goto (tgt := 13) h dX1_weight_41 (by decide) ?_
      exact ihi (i + 1) (by omega) (by omega) _ ⟨by simp [wtS, lget, *], rfl, rfl, by simp [lget, nI_succ], trivial⟩
    · -- r
      have hrc : (nI r22).toNatClampNeg = r22 := nI_clamp (by omega)
      have hrn : ¬ nI r22 = -1 := nI_nm1 (by omega)
      refine j_astoreR h dX1_weight_23 (by decide) ?_
      refine j_aloadR h dX1_weight_25 rfl ?_
      refine j_ifnullR h dX1_weight_27 ?_
      refine j_iload_n h dX1_weight_30 rfl ?_
      refine j_aloadR h dX1_weight_31 rfl ?_
      refine xc0_callVI h (by omega) dX1_weight_33 (c_X0_weight hx (k := r22) (by omega)) (cwV 0 h.2.2.2.2.1 gX1_weight_X0_weight rfl rfl rfl (by decide +kernel) ⟨Nat.le_of_ble_eq_true rfl, Nat.le_of_ble_eq_true rfl⟩) (by first | exact hx.c (by omega) | exact hx.l (by omega) | exact hx.r (by omega) | exact hx.s (by omega)) rfl rfl (Nat.le_of_ble_eq_true rfl) ⟨Nat.le_of_ble_eq_true rfl, Nat.le_of_ble_eq_true rfl⟩ (fun r33 u33 hu33 => ?_)
      obtain ⟨rfl, rfl⟩ := hu33
      refine j_iadd h dX1_weight_36 ?_
      refine j_istore_n (i := 1) h dX1_weight_37 rfl (by decide) ?_
      refine j_iinc h dX1_weight_38 rfl rfl (by decide) ?_
      refine j_goto (tgt := 13) h dX1_weight_41 (by decide) ?_
      exact ihi (i + 1) (by omega) (by omega) _ ⟨by simp [wtS, lget, *], rfl, rfl, by simp [lget, nI_succ], trivial⟩
set_option maxHeartbeats 4000000 in
set_option maxRecDepth 100000 in
theorem c_X1_darkenAll {l : Launch} {D : va_G} {cI cL cR : ClassId} {ad : Nat → Nat} {f : St} {C : List Nat} {n b q : Nat} {r : Nat} (hx : xw n b q f C) (hr : r < b) (hst : stO f n) : ctV l D vwCl (tyW cI cL cR) yX1_darkenAll wsX1_darkenAll { frames := 1, cells := 0, slots := 0, locals := 20 } [.ref (ad (29 + r))] (wX cI cL cR ad C f) (fun u => u = wX cI cL cR ad C (daF f r 10)) 0 0 := by
  refine ctV_of (cc := cX1_darkenAll) (maxL := 5) (ret := none) (by decide) rfl rfl (Nat.le_of_ble_eq_true rfl) (by simp [Value.category]) [(0, .ref (ad (29 + r)))] rfl ?_
  intro p e s m args below meth c sz h hrt hlk hnm
  have hin1 : ∀ x ∈ wsX10, x ∈ wsX1_darkenAll := by decide +kernel
  have hn24 := hx.1
  have hb8 := hx.2.1
  have hq8 := hx.2.2.1
  refine j_aload_nR h dX1_darkenAll_0 rfl ?_
  refine x1_get3 h hin1 (by decide +kernel) dX1_darkenAll_1 (by omega) (by first | exact hx.c (by omega) | exact hx.l (by omega) | exact hx.r (by omega) | exact hx.s (by omega)) ?_
  refine j_astore_nR (i := 1) h dX1_darkenAll_4 rfl (by decide) ?_
  refine j_aload_nR h dX1_darkenAll_5 rfl ?_
  refine x1_alen3 h dX1_darkenAll_6 (by first | exact hx.c (by omega) | exact hx.l (by omega) | exact hx.r (by omega) | exact hx.s (by omega)) ?_
  refine j_istore_n (i := 2) h dX1_darkenAll_7 rfl (by decide) ?_
  refine j_iconst (v := 0) h dX1_darkenAll_8 (by decide) ?_
  refine j_istore_n (i := 3) h dX1_darkenAll_9 rfl (by decide) ?_
  refine jj_loop (fun i : Nat => [(1, .ref (ad (37 + r))), (2, .int 10), (3, .int (nI i))]) (fun i : Nat => wX cI cL cR ad C (daF f r i)) (fun i : Nat => i ≤ 10) (fun i : Nat => 10 - i) 0 ⟨rfl, rfl, rfl, trivial⟩ rfl (by first | omega | exact ⟨by omega, by rw [Nat.zero_min]; rfl⟩) (fun i hi ihi => ?_)
  have hxi := hx.da r i
  have hsi := hst.da r i
  have hfi : daF f r i (30 + r) i = f (30 + r) i := by rw [kp_da (by omega)]
  refine j_iload_n h dX1_darkenAll_10 rfl ?_
  refine j_iload_n h dX1_darkenAll_11 rfl ?_
  refine j_icmp_ge (tgt := 36) h dX1_darkenAll_12 (by decide) (fun c12 => ?_) (fun c12 => ?_)
  · -- t
    rw [show (10 : Int32) = nI 10 from rfl, nI_leI (by omega) (by omega)] at c12
    exact j_vret h hrt hlk dX1_darkenAll_36 (by decide) (by decide) (by rw [show i = 10 by omega])
  · -- f
    rw [show (10 : Int32) = nI 10 from rfl, nI_leI (by omega) (by omega)] at c12
    refine j_aload_nR h dX1_darkenAll_15 rfl ?_
    refine j_iload_n h dX1_darkenAll_16 rfl ?_
    refine xl_alds h hxi dX1_darkenAll_17 (by omega) rfl (by omega) (fun e17 => ?_) (fun r17 hr17 e17 => ?_)
    · -- n
      have hs : f (30 + r) i = -1 := hfi.symm.trans e17
      refine j_astoreN h dX1_darkenAll_18 (by decide) ?_
      refine j_aload h dX1_darkenAll_20 rfl (Or.inl rfl) ?_
      refine j_ifnullN (tgt := 30) h dX1_darkenAll_22 (by decide) ?_
      refine j_iinc h dX1_darkenAll_30 rfl rfl (by decide) ?_
      refine j_goto (tgt := 10) h dX1_darkenAll_33 (by decide) ?_
      first
        | exact jj_ws (by rw [daF, if_pos hs]) (ihi (i + 1) (by omega) (by omega) _ ⟨rfl, rfl, by simp [lget, nI_succ], trivial⟩)
        | exact jj_ws (by rw [daF, if_neg (by rw [hs]; exact nI_nm1 (by omega)), hs, nI_clamp (by omega)]) (ihi (i + 1) (by omega) (by omega) _ ⟨rfl, rfl, by simp [lget, nI_succ], trivial⟩)
    · -- r
      have hs : f (30 + r) i = nI r17 := hfi.symm.trans e17
      refine j_astoreR h dX1_darkenAll_18 (by decide) ?_
      refine j_aloadR h dX1_darkenAll_20 rfl ?_
      refine j_ifnullR h dX1_darkenAll_22 ?_
      refine j_aloadR h dX1_darkenAll_25 rfl ?_
      refine xc0_callVV h (by omega) dX1_darkenAll_27 (c_X0_darken hxi (k := r17) (by omega) hsi) (cwV 0 h.2.2.2.2.1 gX1_darkenAll_X0_darken rfl rfl rfl (by decide +kernel) ⟨Nat.le_of_ble_eq_true rfl, Nat.le_of_ble_eq_true rfl⟩) (by first | exact hx.c (by omega) | exact hx.l (by omega) | exact hx.r (by omega) | exact hx.s (by omega)) rfl rfl (Nat.le_of_ble_eq_true rfl) ⟨Nat.le_of_ble_eq_true rfl, Nat.le_of_ble_eq_true rfl⟩ (fun u27 hu27 => ?_)
      obtain rfl := hu27
      refine j_iinc h dX1_darkenAll_30 rfl rfl (by decide) ?_
      refine j_goto (tgt := 10) h dX1_darkenAll_33 (by decide) ?_
      first
        | exact jj_ws (by rw [daF, if_pos hs]) (ihi (i + 1) (by omega) (by omega) _ ⟨rfl, rfl, by simp [lget, nI_succ], trivial⟩)
        | exact jj_ws (by rw [daF, if_neg (by rw [hs]; exact nI_nm1 (by omega)), hs, nI_clamp (by omega)]) (ihi (i + 1) (by omega) (by omega) _ ⟨rfl, rfl, by simp [lget, nI_succ], trivial⟩)
set_option maxHeartbeats 4000000 in
set_option maxRecDepth 100000 in
theorem c_X1_nearestLit {l : Launch} {D : va_G} {cI cL cR : ClassId} {ad : Nat → Nat} {f : St} {C : List Nat} {n b q : Nat} {r : Nat} {k : Nat} (hx : xw n b q f C) (hr : r < b) (hk : k < n) (hpk : hpB f k = true) (hlp : lpF f n) : ctI l D vwCl (tyW cI cL cR) yX1_nearestLit wsX1_nearestLit { frames := 2, cells := 0, slots := 0, locals := 42 } [.ref (ad (29 + r)), .ref (ad (5 + k))] (wX cI cL cR ad C f) (fun v u => v = (nlS f r k 10) ∧ u = (wX cI cL cR ad C f)) 0 0 := by
  refine ctI_of (cc := cX1_nearestLit) (maxL := 7) (ret := (some .int)) (by decide) rfl rfl (Nat.le_of_ble_eq_true rfl) (by simp [Value.category]) [(0, .ref (ad (29 + r))), (1, .ref (ad (5 + k)))] rfl ?_
  intro p e s m args below meth c sz h hrt hlk hnm
  have hin0 : ∀ x ∈ wsX00, x ∈ wsX1_nearestLit := by decide +kernel
  have hin1 : ∀ x ∈ wsX10, x ∈ wsX1_nearestLit := by decide +kernel
  have hn24 := hx.1
  have hb8 := hx.2.1
  have hq8 := hx.2.2.1
  obtain ⟨B9, -, -, hxe9⟩ := id h.2.2.2.2.2.2.2
  refine j_iconst (v := (-1)) h dX1_nearestLit_0 (by decide) ?_
  refine j_istore_n (i := 2) h dX1_nearestLit_1 rfl (by decide) ?_
  refine j_aload_nR h dX1_nearestLit_2 rfl ?_
  refine x1_get3 h hin1 (by decide +kernel) dX1_nearestLit_3 (by omega) (by first | exact hx.c (by omega) | exact hx.l (by omega) | exact hx.r (by omega) | exact hx.s (by omega)) ?_
  refine j_astore_nR (i := 3) h dX1_nearestLit_6 rfl (by decide) ?_
  refine j_aload_nR h dX1_nearestLit_7 rfl ?_
  refine x1_alen3 h dX1_nearestLit_8 (by first | exact hx.c (by omega) | exact hx.l (by omega) | exact hx.r (by omega) | exact hx.s (by omega)) ?_
  refine j_istore h dX1_nearestLit_9 (by decide) ?_
  refine j_iconst (v := 0) h dX1_nearestLit_11 (by decide) ?_
  refine j_istore h dX1_nearestLit_12 (by decide) ?_
  refine jj_loop (fun i : Nat => [(1, .ref (ad (5 + k))), (2, .int (nlS f r k i)), (3, .ref (ad (37 + r))), (4, .int 10), (5, .int (nI i))]) (fun i : Nat => (wX cI cL cR ad C f)) (fun i : Nat => i ≤ 10) (fun i : Nat => 10 - i) 0 ⟨rfl, rfl, rfl, rfl, rfl, trivial⟩ rfl (by first | omega | exact ⟨by omega, by rw [Nat.zero_min]; rfl⟩) (fun i hi ihi => ?_)
  have hT : 0 = 0 := rfl
  have hfi : 0 = 0 := rfl
  refine j_iload h dX1_nearestLit_14 rfl ?_
  refine j_iload h dX1_nearestLit_16 rfl ?_
  refine j_icmp_ge (tgt := 64) h dX1_nearestLit_18 (by decide) (fun c18 => ?_) (fun c18 => ?_)
  · -- t
    rw [show (10 : Int32) = nI 10 from rfl, nI_leI (by omega) (by omega)] at c18
    refine j_iload_n h dX1_nearestLit_64 rfl ?_
    exact j_iret h hrt hlk dX1_nearestLit_65 (by decide) (by decide) (⟨by rw [show i = 10 by omega], rfl⟩)
  · -- f
    rw [show (10 : Int32) = nI 10 from rfl, nI_leI (by omega) (by omega)] at c18
    refine j_aload_nR h dX1_nearestLit_21 rfl ?_
    refine j_iload h dX1_nearestLit_22 rfl ?_
    refine xl_alds h (by first | assumption | exact hx.up (by omega) _ _ | exact (hx.up (by omega) _ _).up (by omega) _ _) dX1_nearestLit_24 (by omega) rfl (by omega) (fun e24 => ?_) (fun r24 hr24 e24 => ?_)
    · -- n
      have hT := nlT_n (k := k) e24
      refine j_astoreN h dX1_nearestLit_25 (by decide) ?_
      refine j_aload h dX1_nearestLit_27 rfl (Or.inl rfl) ?_
      refine j_ifnullN (tgt := 58) h dX1_nearestLit_29 (by decide) ?_
      refine j_iinc h dX1_nearestLit_58 rfl rfl (by decide) ?_
      refine j_goto (tgt := 14) h dX1_nearestLit_61 (by decide) ?_
      first
        | exact ihi (i + 1) (by omega) (by omega) _ ⟨rfl, by rw [nlS, hT]; rfl, rfl, rfl, by simp [lget, nI_succ], trivial⟩
        | exact ihi (i + 1) (by omega) (by omega) _ ⟨rfl, by rw [nlS, hT, hfi]; rfl, rfl, rfl, by simp [lget, nI_succ], trivial⟩
    · -- r
      have hrc : (nI r24).toNatClampNeg = r24 := nI_clamp (by omega)
      have hfi : (f (30 + r) i).toNatClampNeg = r24 := by rw [e24]; exact hrc
      refine j_astoreR h dX1_nearestLit_25 (by decide) ?_
      refine j_aloadR h dX1_nearestLit_27 rfl ?_
      refine j_ifnullR h dX1_nearestLit_29 ?_
      refine j_aloadR h dX1_nearestLit_32 rfl ?_
      refine j_aload_nR h dX1_nearestLit_34 rfl ?_
      refine x_acmp_eq (tgt := 58) h dX1_nearestLit_35 (by decide) (by first | exact hx.c (by omega) | exact hx.l (by omega) | exact hx.r (by omega) | exact hx.s (by omega)) (by first | exact hx.c (by omega) | exact hx.l (by omega) | exact hx.r (by omega) | exact hx.s (by omega)) (fun c35 => ?_) (fun c35 => ?_)
      · -- t
        obtain rfl : r24 = k := by omega
        have hT := nlT_k e24
        refine j_iinc h dX1_nearestLit_58 rfl rfl (by decide) ?_
        refine j_goto (tgt := 14) h dX1_nearestLit_61 (by decide) ?_
        first
          | exact ihi (i + 1) (by omega) (by omega) _ ⟨rfl, by rw [nlS, hT]; rfl, rfl, rfl, by simp [lget, nI_succ], trivial⟩
          | exact ihi (i + 1) (by omega) (by omega) _ ⟨rfl, by rw [nlS, hT, hfi]; rfl, rfl, rfl, by simp [lget, nI_succ], trivial⟩
      · -- f
        have hrk : ¬ nI r24 = nI k := fun z => c35 (by rw [(nI_eq (by omega) (by omega)).mp z])
        refine j_aloadR h dX1_nearestLit_38 rfl ?_
        refine x0_get3 h hin0 (by decide +kernel) dX1_nearestLit_40 (by omega) (by first | exact hx.c (by omega) | exact hx.l (by omega) | exact hx.r (by omega) | exact hx.s (by omega)) ?_
        refine j_iconst (v := 1) h dX1_nearestLit_43 (by decide) ?_
        refine j_icmp_ne (tgt := 58) h dX1_nearestLit_44 (by decide) (fun c44 => ?_) (fun c44 => ?_)
        · -- t
          have hT : nlT f r k i = false := by simp [nlT, hfi, c44]
          refine j_iinc h dX1_nearestLit_58 rfl rfl (by decide) ?_
          refine j_goto (tgt := 14) h dX1_nearestLit_61 (by decide) ?_
          first
            | exact ihi (i + 1) (by omega) (by omega) _ ⟨rfl, by rw [nlS, hT]; rfl, rfl, rfl, by simp [lget, nI_succ], trivial⟩
            | exact ihi (i + 1) (by omega) (by omega) _ ⟨rfl, by rw [nlS, hT, hfi]; rfl, rfl, rfl, by simp [lget, nI_succ], trivial⟩
        · -- f
          have hT : nlT f r k i = true := by simp [nlT, hrc, c44, e24, hrk, nI_nm1 (show r24 < 2 ^ 31 by omega)]
          refine j_iload_n h dX1_nearestLit_47 rfl ?_
          refine j_aload_nR h dX1_nearestLit_48 rfl ?_
          refine j_aloadR h dX1_nearestLit_49 rfl ?_
          refine xc0_callVI h (by omega) dX1_nearestLit_51 (c_X0_distanceTo hx (k := k) (j := r24) hk (by omega) hpk (hlp r24 (by omega) c44)) (cwV 1 h.2.2.2.2.1 gX1_nearestLit_X0_distanceTo rfl rfl rfl (by decide +kernel) ⟨Nat.le_of_ble_eq_true rfl, Nat.le_of_ble_eq_true rfl⟩) (by first | exact hx.c (by omega) | exact hx.l (by omega) | exact hx.r (by omega) | exact hx.s (by omega)) rfl rfl (Nat.le_of_ble_eq_true rfl) ⟨Nat.le_of_ble_eq_true rfl, Nat.le_of_ble_eq_true rfl⟩ (fun r51 u51 hu51 => ?_)
          obtain ⟨rfl, rfl⟩ := hu51
          refine j_callNI h dX1_nearestLit_54 (c_X2_nearer) ⟨va_cnB (host := RX2) 2 h.2.2.2.2.1 gX1_nearestLit_X2_nearer_n73 rfl rfl rfl hxe9.2.2.2.2.1 (h.2.2.2.2.1 _ (by decide +kernel)) (by decide +kernel) ⟨Nat.le_of_ble_eq_true rfl, Nat.le_of_ble_eq_true rfl⟩, h.2.2.2.2.1 _ (by decide +kernel), trivial⟩ rfl rfl (Nat.le_of_ble_eq_true rfl) ⟨Nat.le_of_ble_eq_true rfl, Nat.le_of_ble_eq_true rfl⟩ (fun r54 u54 hu54 => ?_)
          obtain ⟨rfl, rfl⟩ := hu54
          refine j_istore_n (i := 2) h dX1_nearestLit_57 rfl (by decide) ?_
          refine j_iinc h dX1_nearestLit_58 rfl rfl (by decide) ?_
          refine j_goto (tgt := 14) h dX1_nearestLit_61 (by decide) ?_
          first
            | exact ihi (i + 1) (by omega) (by omega) _ ⟨rfl, by rw [nlS, hT]; rfl, rfl, rfl, by simp [lget, nI_succ], trivial⟩
            | exact ihi (i + 1) (by omega) (by omega) _ ⟨rfl, by rw [nlS, hT, hfi]; rfl, rfl, rfl, by simp [lget, nI_succ], trivial⟩
set_option maxHeartbeats 4000000 in
set_option maxRecDepth 100000 in
theorem c_X1_alike {l : Launch} {D : va_G} {cI cL cR : ClassId} {ad : Nat → Nat} {f : St} {C : List Nat} {n b q : Nat} {r : Nat} {g : Int32} (hx : xw n b q f C) (hr : r < b) : ctI l D vwCl (tyW cI cL cR) yX1_alike wsX1_alike { frames := 0, cells := 0, slots := 0, locals := 0 } [.ref (ad (29 + r)), .int g] (wX cI cL cR ad C f) (fun v u => v = (axS f r g 10) ∧ u = (wX cI cL cR ad C f)) 0 0 := by
  refine ctI_of (cc := cX1_alike) (maxL := 7) (ret := (some .int)) (by decide) rfl rfl (Nat.le_of_ble_eq_true rfl) (by simp [Value.category]) [(0, .ref (ad (29 + r))), (1, .int g)] rfl ?_
  intro p e s m args below meth c sz h hrt hlk hnm
  have hin0 : ∀ x ∈ wsX00, x ∈ wsX1_alike := by decide +kernel
  have hin1 : ∀ x ∈ wsX10, x ∈ wsX1_alike := by decide +kernel
  have hn24 := hx.1
  have hb8 := hx.2.1
  have hq8 := hx.2.2.1
  refine j_iconst (v := 0) h dX1_alike_0 (by decide) ?_
  refine j_istore_n (i := 2) h dX1_alike_1 rfl (by decide) ?_
  refine j_iconst (v := 0) h dX1_alike_2 (by decide) ?_
  refine j_istore_n (i := 3) h dX1_alike_3 rfl (by decide) ?_
  refine jj_loop (fun i : Nat => [(0, .ref (ad (29 + r))), (1, .int g), (2, .int (axS f r g i)), (3, .int (nI i))]) (fun i : Nat => (wX cI cL cR ad C f)) (fun i : Nat => i ≤ 10) (fun i : Nat => 10 - i) 0 ⟨rfl, rfl, rfl, rfl, trivial⟩ rfl (by first | omega | exact ⟨by omega, by rw [Nat.zero_min]; rfl⟩) (fun i hi ihi => ?_)
  have hq9 : 0 = 0 := rfl
  refine j_iload_n h dX1_alike_4 rfl ?_
  refine j_aload_nR h dX1_alike_5 rfl ?_
  refine x1_get3 h hin1 (by decide +kernel) dX1_alike_6 (by omega) (by first | exact hx.c (by omega) | exact hx.l (by omega) | exact hx.r (by omega) | exact hx.s (by omega)) ?_
  refine x1_alen3 h dX1_alike_9 (by first | exact hx.c (by omega) | exact hx.l (by omega) | exact hx.r (by omega) | exact hx.s (by omega)) ?_
  refine j_icmp_ge (tgt := 74) h dX1_alike_10 (by decide) (fun c10 => ?_) (fun c10 => ?_)
  · -- t
    rw [show (10 : Int32) = nI 10 from rfl, nI_leI (by omega) (by omega)] at c10
    refine j_iload_n h dX1_alike_74 rfl ?_
    exact j_iret h hrt hlk dX1_alike_75 (by decide) (by decide) (⟨by rw [show i = 10 by omega], rfl⟩)
  · -- f
    rw [show (10 : Int32) = nI 10 from rfl, nI_leI (by omega) (by omega)] at c10
    refine jj_cut 40 [(0, .ref (ad (29 + r))), (1, .int g), (2, .int (axS f r g i)), (3, .int (nI i))] [] (fun v => v = bi (shB f r i)) (fun v40 hv40 => ?_) (fun cut40 => ?_)
    · -- behind
      obtain rfl := hv40
      refine j_istore h dX1_alike_40 (by decide) ?_
      refine jj_cut 56 [(0, .ref (ad (29 + r))), (1, .int g), (2, .int (axS f r g i)), (3, .int (nI i)), (5, .int (bi (shB f r i)))] [] (fun v => v = bi (decide ((g >>> (nI i &&& 31)) &&& 1 = 1))) (fun v56 hv56 => ?_) (fun cut56 => ?_)
      · -- behind
        obtain rfl := hv56
        refine j_istore h dX1_alike_56 (by decide) ?_
        refine j_iload h dX1_alike_58 rfl ?_
        refine j_iload h dX1_alike_60 rfl ?_
        refine j_icmp_ne (tgt := 68) h dX1_alike_62 (by decide) (fun c62 => ?_) (fun c62 => ?_)
        · -- t
          have hq9 : (if shB f r i = decide ((g >>> (nI i &&& 31)) &&& 1 = 1) then (1 : Int32) else 0) = 0 := by rw [if_neg (fun z => c62 (by rw [z]))]
          refine j_iinc h dX1_alike_68 rfl rfl (by decide) ?_
          refine j_goto (tgt := 4) h dX1_alike_71 (by decide) ?_
          exact ihi (i + 1) (by omega) (by omega) _ ⟨rfl, rfl, by simp [axS, lget, hq9], by simp [lget, nI_succ], trivial⟩
        · -- f
          have hq9 : (if shB f r i = decide ((g >>> (nI i &&& 31)) &&& 1 = 1) then (1 : Int32) else 0) = 1 := by rw [if_pos (bi_inj c62)]
          refine j_iinc h dX1_alike_65 rfl rfl (by decide) ?_
          refine j_iinc h dX1_alike_68 rfl rfl (by decide) ?_
          refine j_goto (tgt := 4) h dX1_alike_71 (by decide) ?_
          exact ihi (i + 1) (by omega) (by omega) _ ⟨rfl, rfl, by simp [axS, lget, hq9], by simp [lget, nI_succ], trivial⟩
      · -- ahead
        refine j_iload_n h dX1_alike_42 rfl ?_
        refine j_iload_n h dX1_alike_43 rfl ?_
        refine j_ishr h dX1_alike_44 ?_
        refine j_iconst (v := 1) h dX1_alike_45 (by decide) ?_
        refine j_iand h dX1_alike_46 ?_
        refine j_iconst (v := 1) h dX1_alike_47 (by decide) ?_
        refine j_icmp_ne (tgt := 55) h dX1_alike_48 (by decide) (fun c48 => ?_) (fun c48 => ?_)
        · -- t
          refine j_iconst (v := 0) h dX1_alike_55 (by decide) ?_
          exact cut56 _ (by simp [bi, c48]) _ ⟨rfl, rfl, rfl, rfl, rfl, trivial⟩
        · -- f
          refine j_iconst (v := 1) h dX1_alike_51 (by decide) ?_
          refine j_goto (tgt := 56) h dX1_alike_52 (by decide) ?_
          exact cut56 _ (by simp [bi, c48]) _ ⟨rfl, rfl, rfl, rfl, rfl, trivial⟩
    · -- ahead
      refine j_aload_nR h dX1_alike_13 rfl ?_
      refine x1_get3 h hin1 (by decide +kernel) dX1_alike_14 (by omega) (by first | exact hx.c (by omega) | exact hx.l (by omega) | exact hx.r (by omega) | exact hx.s (by omega)) ?_
      refine j_iload_n h dX1_alike_17 rfl ?_
      refine xl_alds h (by first | assumption | exact hx.up (by omega) _ _ | exact (hx.up (by omega) _ _).up (by omega) _ _) dX1_alike_18 (by omega) rfl (by omega) (fun e18 => ?_) (fun r18 hr18 e18 => ?_)
      · -- n
        have r18 : Nat := 0
        have c32 : 0 = 0 := rfl
        refine j_astoreN h dX1_alike_19 (by decide) ?_
        refine j_aload h dX1_alike_21 rfl (Or.inl rfl) ?_
        refine j_ifnullN (tgt := 39) h dX1_alike_23 (by decide) ?_
        refine j_iconst (v := 0) h dX1_alike_39 (by decide) ?_
        exact cut40 _ (by first | (simp [shB, e18, bi]; done) | (simp [shB, e18, bi, nI_clamp (show r18 < 2 ^ 31 by omega), nI_nm1 (show r18 < 2 ^ 31 by omega), c32]; done)) _ ⟨rfl, rfl, rfl, rfl, trivial⟩
      · -- r
        refine j_astoreR h dX1_alike_19 (by decide) ?_
        refine j_aloadR h dX1_alike_21 rfl ?_
        refine j_ifnullR h dX1_alike_23 ?_
        refine j_aloadR h dX1_alike_26 rfl ?_
        refine x0_get3 h hin0 (by decide +kernel) dX1_alike_28 (by omega) (by first | exact hx.c (by omega) | exact hx.l (by omega) | exact hx.r (by omega) | exact hx.s (by omega)) ?_
        refine j_iconst (v := 1) h dX1_alike_31 (by decide) ?_
        refine j_icmp_ne (tgt := 39) h dX1_alike_32 (by decide) (fun c32 => ?_) (fun c32 => ?_)
        · -- t
          refine j_iconst (v := 0) h dX1_alike_39 (by decide) ?_
          exact cut40 _ (by first | (simp [shB, e18, bi]; done) | (simp [shB, e18, bi, nI_clamp (show r18 < 2 ^ 31 by omega), nI_nm1 (show r18 < 2 ^ 31 by omega), c32]; done)) _ ⟨rfl, rfl, rfl, rfl, trivial⟩
        · -- f
          refine j_iconst (v := 1) h dX1_alike_35 (by decide) ?_
          refine j_goto (tgt := 40) h dX1_alike_36 (by decide) ?_
          exact cut40 _ (by first | (simp [shB, e18, bi]; done) | (simp [shB, e18, bi, nI_clamp (show r18 < 2 ^ 31 by omega), nI_nm1 (show r18 < 2 ^ 31 by omega), c32]; done)) _ ⟨rfl, rfl, rfl, rfl, trivial⟩
set_option maxHeartbeats 4000000 in
set_option maxRecDepth 100000 in
theorem c_X1_moveBehind {l : Launch} {D : va_G} {cI cL cR : ClassId} {ad : Nat → Nat} {f : St} {C : List Nat} {n b q : Nat} {r : Nat} {x g : Int32} (hx : xw n b q f C) (hr : r < b) (hxa : x = -1 ∨ ∃ a, a < b ∧ x = nI a) : ctV l D vwCl (tyW cI cL cR) yX1_moveBehind wsX1_moveBehind { frames := 1, cells := 0, slots := 0, locals := 21 } [.ref (ad (29 + r)), va_rf (ro ad 29 x), .int g] (wX cI cL cR ad C f) (fun u => u = wX cI cL cR ad C (up2 f 11 r (mbV f r x g))) 0 0 := by
  have hn24 := hx.1
  have hb8 := hx.2.1
  have hq8 := hx.2.2.1
  rcases hxa with rfl | ⟨a, ha, rfl⟩
  · rw [ro_n]
    refine ctV_of (cc := cX1_moveBehind) (maxL := 4) (ret := none) (by decide) rfl rfl (Nat.le_of_ble_eq_true rfl) (by simp [Value.category, va_rf]) [(0, .ref (ad (29 + r))), (1, .null), (2, .int g)] rfl ?_
    intro p e s m args below meth c sz h hrt hlk hnm
    have hin1 : ∀ x ∈ wsX10, x ∈ wsX1_moveBehind := by decide +kernel
    refine j_aload_nR h dX1_moveBehind_0 rfl ?_
    refine x1_get5 h hin1 (by decide +kernel) dX1_moveBehind_1 (by omega) (by first | exact hx.c (by omega) | exact hx.l (by omega) | exact hx.r (by omega) | exact hx.s (by omega)) ?_
    refine j_aload_nR h dX1_moveBehind_4 rfl ?_
    refine x1_get1 h hin1 (by decide +kernel) dX1_moveBehind_5 (by omega) (by first | exact hx.c (by omega) | exact hx.l (by omega) | exact hx.r (by omega) | exact hx.s (by omega)) ?_
    refine j_iadd h dX1_moveBehind_8 ?_
    refine j_istore_n (i := 3) h dX1_moveBehind_9 rfl (by decide) ?_
    refine j_aload_n h dX1_moveBehind_10 rfl (Or.inl rfl) ?_
    refine j_ifnullN (tgt := 25) h dX1_moveBehind_11 (by decide) ?_
    refine j_aload_nR h dX1_moveBehind_25 rfl ?_
    refine j_aload_nR h dX1_moveBehind_26 rfl ?_
    refine x1_get5 h hin1 (by decide +kernel) dX1_moveBehind_27 (by omega) (by first | exact hx.c (by omega) | exact hx.l (by omega) | exact hx.r (by omega) | exact hx.s (by omega)) ?_
    refine j_iload_n h dX1_moveBehind_30 rfl ?_
    refine j_mmax h dX1_moveBehind_31 (by decide +kernel) (by decide +kernel) (by decide +kernel) (by decide +kernel) (Nat.le_of_ble_eq_true rfl) (Nat.le_of_ble_eq_true rfl) (Nat.le_of_ble_eq_true rfl) (Nat.le_of_ble_eq_true rfl) ?_
    refine x1_put5 h hin1 (by decide +kernel) dX1_moveBehind_34 (by omega) (by first | exact hx.c (by omega) | exact hx.l (by omega) | exact hx.r (by omega) | exact hx.s (by omega)) ?_
    exact j_vret h hrt hlk dX1_moveBehind_37 (by decide) (by decide) (by simp only [mbV, *, reduceIte])
  · rw [ro_s _ _ (by omega)]
    have hac : (nI a).toNatClampNeg = a := nI_clamp (by omega)
    have han : ¬ nI a = -1 := nI_nm1 (by omega)
    refine ctV_of (cc := cX1_moveBehind) (maxL := 4) (ret := none) (by decide) rfl rfl (Nat.le_of_ble_eq_true rfl) (by simp [Value.category, va_rf]) [(0, .ref (ad (29 + r))), (1, .ref (ad (29 + a))), (2, .int g)] rfl ?_
    intro p e s m args below meth c sz h hrt hlk hnm
    have hin1 : ∀ x ∈ wsX10, x ∈ wsX1_moveBehind := by decide +kernel
    refine j_aload_nR h dX1_moveBehind_0 rfl ?_
    refine x1_get5 h hin1 (by decide +kernel) dX1_moveBehind_1 (by omega) (by first | exact hx.c (by omega) | exact hx.l (by omega) | exact hx.r (by omega) | exact hx.s (by omega)) ?_
    refine j_aload_nR h dX1_moveBehind_4 rfl ?_
    refine x1_get1 h hin1 (by decide +kernel) dX1_moveBehind_5 (by omega) (by first | exact hx.c (by omega) | exact hx.l (by omega) | exact hx.r (by omega) | exact hx.s (by omega)) ?_
    refine j_iadd h dX1_moveBehind_8 ?_
    refine j_istore_n (i := 3) h dX1_moveBehind_9 rfl (by decide) ?_
    refine j_aload_nR h dX1_moveBehind_10 rfl ?_
    refine j_ifnullR h dX1_moveBehind_11 ?_
    refine j_iload_n h dX1_moveBehind_14 rfl ?_
    refine j_aload_nR h dX1_moveBehind_15 rfl ?_
    refine xc1_callVI h (by omega) dX1_moveBehind_16 (c_X1_rear hx (r := a) ha) (cwV 0 h.2.2.2.2.1 gX1_moveBehind_X1_rear rfl rfl rfl (by decide +kernel) ⟨Nat.le_of_ble_eq_true rfl, Nat.le_of_ble_eq_true rfl⟩) (by first | exact hx.c (by omega) | exact hx.l (by omega) | exact hx.r (by omega) | exact hx.s (by omega)) rfl rfl (Nat.le_of_ble_eq_true rfl) ⟨Nat.le_of_ble_eq_true rfl, Nat.le_of_ble_eq_true rfl⟩ (fun r16 u16 hu16 => ?_)
    obtain ⟨rfl, rfl⟩ := hu16
    refine j_iload_n h dX1_moveBehind_19 rfl ?_
    refine j_isub h dX1_moveBehind_20 ?_
    refine j_mmin h dX1_moveBehind_21 (by decide +kernel) (by decide +kernel) (by decide +kernel) (by decide +kernel) (Nat.le_of_ble_eq_true rfl) (Nat.le_of_ble_eq_true rfl) (Nat.le_of_ble_eq_true rfl) (Nat.le_of_ble_eq_true rfl) ?_
    refine j_istore_n (i := 3) h dX1_moveBehind_24 rfl (by decide) ?_
    refine j_aload_nR h dX1_moveBehind_25 rfl ?_
    refine j_aload_nR h dX1_moveBehind_26 rfl ?_
    refine x1_get5 h hin1 (by decide +kernel) dX1_moveBehind_27 (by omega) (by first | exact hx.c (by omega) | exact hx.l (by omega) | exact hx.r (by omega) | exact hx.s (by omega)) ?_
    refine j_iload_n h dX1_moveBehind_30 rfl ?_
    refine j_mmax h dX1_moveBehind_31 (by decide +kernel) (by decide +kernel) (by decide +kernel) (by decide +kernel) (Nat.le_of_ble_eq_true rfl) (Nat.le_of_ble_eq_true rfl) (Nat.le_of_ble_eq_true rfl) (Nat.le_of_ble_eq_true rfl) ?_
    refine x1_put5 h hin1 (by decide +kernel) dX1_moveBehind_34 (by omega) (by first | exact hx.c (by omega) | exact hx.l (by omega) | exact hx.r (by omega) | exact hx.s (by omega)) ?_
    exact j_vret h hrt hlk dX1_moveBehind_37 (by decide) (by decide) (by simp only [mbV, *, reduceIte])
