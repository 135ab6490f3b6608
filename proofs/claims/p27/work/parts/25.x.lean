set_option maxHeartbeats 4000000 in
set_option maxRecDepth 100000 in
theorem c_X2_moveRafts {l : Launch} {D : va_G} {cI cL cR : ClassId} {ad : Nat → Nat} {f : St} {C : List Nat} {n b q : Nat} (hx : xw n b q f C) : ctV l D vwCl (tyW cI cL cR) yX2_moveRafts wsX2_moveRafts { frames := 2, cells := 0, slots := 0, locals := 44 } [.ref (ad 0)] (wX cI cL cR ad C f) (fun u => u = wX cI cL cR ad C (mvF f q).1) 0 0 := by
  refine ctV_of (cc := cX2_moveRafts) (maxL := 6) (ret := none) (by decide) rfl rfl (Nat.le_of_ble_eq_true rfl) (by simp [Value.category]) [(0, .ref (ad 0))] rfl ?_
  intro p e s m args below meth c sz h hrt hlk hnm
  have hin1 : ∀ x ∈ wsX10, x ∈ wsX2_moveRafts := by decide +kernel
  have hin2 : ∀ x ∈ wsX20, x ∈ wsX2_moveRafts := by decide +kernel
  have hn24 := hx.1
  have hb8 := hx.2.1
  have hq8 := hx.2.2.1
  refine j_null h dX2_moveRafts_0 ?_
  refine j_astore_nN (i := 1) h dX2_moveRafts_1 rfl (by decide) ?_
  refine j_aload_nR h dX2_moveRafts_2 rfl ?_
  refine x2_get2 h hin2 (by decide +kernel) dX2_moveRafts_3 (by first | exact hx.c (by omega) | exact hx.l (by omega) | exact hx.r (by omega) | exact hx.s (by omega)) ?_
  refine j_astore_nR (i := 2) h dX2_moveRafts_6 rfl (by decide) ?_
  refine j_aload_nR h dX2_moveRafts_7 rfl ?_
  refine x2_alen2 h dX2_moveRafts_8 (by first | exact hx.c (by omega) | exact hx.l (by omega) | exact hx.r (by omega) | exact hx.s (by omega)) ?_
  refine j_istore_n (i := 3) h dX2_moveRafts_9 rfl (by decide) ?_
  refine j_iconst (v := 0) h dX2_moveRafts_10 (by decide) ?_
  refine j_istore h dX2_moveRafts_11 (by decide) ?_
  refine jj_loop (fun i : Nat => [(0, .ref (ad 0)), (1, va_rf (ro ad 29 (mvF f (min i q)).2)), (2, .ref (ad 3)), (3, .int 8), (4, .int (nI i))]) (fun i : Nat => wX cI cL cR ad C (mvF f (min i q)).1) (fun i : Nat => i ≤ 8) (fun i : Nat => 8 - i) 0 ⟨rfl, by rw [Nat.zero_min]; rfl, rfl, rfl, rfl, trivial⟩ rfl (by first | omega | exact ⟨by omega, by rw [Nat.zero_min]; rfl⟩) (fun i hi ihi => ?_)
  have hxi := hx.mv (min i q)
  have h12 : (mvF f (min i q)).1 12 = f 12 := mvF_k _ _ (by decide)
  have h10 : (mvF f (min i q)).1 10 = f 10 := mvF_k _ _ (by decide)
  have hin := mvF_inb hx.o (i := min i q) (by omega)
  refine j_iload h dX2_moveRafts_13 rfl ?_
  refine j_iload_n h dX2_moveRafts_15 rfl ?_
  refine j_icmp_ge (tgt := 58) h dX2_moveRafts_16 (by decide) (fun c16 => ?_) (fun c16 => ?_)
  · -- t
    rw [show (8 : Int32) = nI 8 from rfl, nI_leI (by omega) (by omega)] at c16
    exact j_vret h hrt hlk dX2_moveRafts_58 (by decide) (by decide) (by rw [show min i q = q by omega])
  · -- f
    rw [show (8 : Int32) = nI 8 from rfl, nI_leI (by omega) (by omega)] at c16
    refine j_aload_nR h dX2_moveRafts_19 rfl ?_
    refine j_iload h dX2_moveRafts_20 rfl ?_
    refine xl_ald2 h hxi dX2_moveRafts_22 rfl (by omega) (fun e22 => ?_) (fun r22 hq22 hr22 e22 => ?_)
    · -- n
      have hE : mvF f (min (i + 1) q) = mvF f (min i q) := by rw [show min (i + 1) q = min i q by omega]
      refine j_astoreN h dX2_moveRafts_23 (by decide) ?_
      refine j_aload h dX2_moveRafts_25 rfl (Or.inl rfl) ?_
      refine j_ifnullN (tgt := 52) h dX2_moveRafts_27 (by decide) ?_
      refine j_iinc h dX2_moveRafts_52 rfl rfl (by decide) ?_
      refine j_goto (tgt := 13) h dX2_moveRafts_55 (by decide) ?_
      exact jj_ws (by rw [hE]) (ihi (i + 1) (by omega) (by omega) _ ⟨rfl, by rw [hE]; first | rfl | (rw [e22, ro_s _ _ (by omega)]; rfl), rfl, rfl, by simp [lget, nI_succ], trivial⟩)
    · -- r
      have hmi : min i q = i := by omega
      have hmi1 : min (i + 1) q = i + 1 := by omega
      have hrc : (nI r22).toNatClampNeg = r22 := nI_clamp (by omega)
      rw [h12] at e22
      refine j_astoreR h dX2_moveRafts_23 (by decide) ?_
      refine j_aloadR h dX2_moveRafts_25 rfl ?_
      refine j_ifnullR h dX2_moveRafts_27 ?_
      refine j_aloadR h dX2_moveRafts_30 rfl ?_
      refine x1_get4 h hin1 (by decide +kernel) dX2_moveRafts_32 (by omega) (by first | exact hx.c (by omega) | exact hx.l (by omega) | exact hx.r (by omega) | exact hx.s (by omega)) ?_
      refine j_iconst (v := 1) h dX2_moveRafts_35 (by decide) ?_
      refine j_icmp_ne (tgt := 52) h dX2_moveRafts_36 (by decide) (fun c36 => ?_) (fun c36 => ?_)
      · -- t
        have hE : mvF f (min (i + 1) q) = mvF f (min i q) := by rw [hmi, hmi1, mvF_n (by rw [e22, hrc, ← h10]; exact c36)]
        refine j_iinc h dX2_moveRafts_52 rfl rfl (by decide) ?_
        refine j_goto (tgt := 13) h dX2_moveRafts_55 (by decide) ?_
        exact jj_ws (by rw [hE]) (ihi (i + 1) (by omega) (by omega) _ ⟨rfl, by rw [hE]; first | rfl | (rw [e22, ro_s _ _ (by omega)]; rfl), rfl, rfl, by simp [lget, nI_succ], trivial⟩)
      · -- f
        refine j_aloadR h dX2_moveRafts_39 rfl ?_
        refine j_aload_n h dX2_moveRafts_41 rfl (va_rf_or _) ?_
        refine j_aload_nR h dX2_moveRafts_42 rfl ?_
        refine x2_get8 h hin2 (by decide +kernel) dX2_moveRafts_43 (by first | exact hx.c (by omega) | exact hx.l (by omega) | exact hx.r (by omega) | exact hx.s (by omega)) ?_
        refine xc1_callVV h (by omega) dX2_moveRafts_46 (c_X1_moveBehind hxi (r := r22) (by omega) hin) (cwV 2 h.2.2.2.2.1 gX2_moveRafts_X1_moveBehind rfl rfl rfl (by decide +kernel) ⟨Nat.le_of_ble_eq_true rfl, Nat.le_of_ble_eq_true rfl⟩) (by first | exact hx.c (by omega) | exact hx.l (by omega) | exact hx.r (by omega) | exact hx.s (by omega)) rfl rfl (Nat.le_of_ble_eq_true rfl) ⟨Nat.le_of_ble_eq_true rfl, Nat.le_of_ble_eq_true rfl⟩ (fun u46 hu46 => ?_)
        obtain rfl := hu46
        rw [mb_eq]
        have hE : mvF f (min (i + 1) q) = (up2 (mvF f (min i q)).1 11 r22 (moveF (mvF f (min i q)).1 (mvF f (min i q)).2 r22), f 12 i) := by rw [hmi, hmi1, mvF_s (by rw [e22, hrc, ← h10]; exact c36), e22, hrc]
        refine j_aloadR h dX2_moveRafts_49 rfl ?_
        refine j_astore_nR (i := 1) h dX2_moveRafts_51 rfl (by decide) ?_
        refine j_iinc h dX2_moveRafts_52 rfl rfl (by decide) ?_
        refine j_goto (tgt := 13) h dX2_moveRafts_55 (by decide) ?_
        exact jj_ws (by rw [hE]) (ihi (i + 1) (by omega) (by omega) _ ⟨rfl, by rw [hE]; first | rfl | (rw [e22, ro_s _ _ (by omega)]; rfl), rfl, rfl, by simp [lget, nI_succ], trivial⟩)
set_option maxHeartbeats 4000000 in
set_option maxRecDepth 100000 in
theorem c_X2_letRaftsGo {l : Launch} {D : va_G} {cI cL cR : ClassId} {ad : Nat → Nat} {f : St} {C : List Nat} {n b q : Nat} (hx : xw n b q f C) (hst : stO f n) : ctV l D vwCl (tyW cI cL cR) yX2_letRaftsGo wsX2_letRaftsGo { frames := 2, cells := 0, slots := 0, locals := 44 } [.ref (ad 0)] (wX cI cL cR ad C f) (fun u => u = wX cI cL cR ad C (lgF f q)) 0 0 := by
  refine ctV_of (cc := cX2_letRaftsGo) (maxL := 5) (ret := none) (by decide) rfl rfl (Nat.le_of_ble_eq_true rfl) (by simp [Value.category]) [(0, .ref (ad 0))] rfl ?_
  intro p e s m args below meth c sz h hrt hlk hnm
  have hin1 : ∀ x ∈ wsX10, x ∈ wsX2_letRaftsGo := by decide +kernel
  have hin2 : ∀ x ∈ wsX20, x ∈ wsX2_letRaftsGo := by decide +kernel
  have hn24 := hx.1
  have hb8 := hx.2.1
  have hq8 := hx.2.2.1
  refine j_aload_nR h dX2_letRaftsGo_0 rfl ?_
  refine x2_get2 h hin2 (by decide +kernel) dX2_letRaftsGo_1 (by first | exact hx.c (by omega) | exact hx.l (by omega) | exact hx.r (by omega) | exact hx.s (by omega)) ?_
  refine j_astore_nR (i := 1) h dX2_letRaftsGo_4 rfl (by decide) ?_
  refine j_aload_nR h dX2_letRaftsGo_5 rfl ?_
  refine x2_alen2 h dX2_letRaftsGo_6 (by first | exact hx.c (by omega) | exact hx.l (by omega) | exact hx.r (by omega) | exact hx.s (by omega)) ?_
  refine j_istore_n (i := 2) h dX2_letRaftsGo_7 rfl (by decide) ?_
  refine j_iconst (v := 0) h dX2_letRaftsGo_8 (by decide) ?_
  refine j_istore_n (i := 3) h dX2_letRaftsGo_9 rfl (by decide) ?_
  refine jj_loop (fun i : Nat => [(1, .ref (ad 3)), (2, .int 8), (3, .int (nI i))]) (fun i : Nat => wX cI cL cR ad C (lgF f (min i q))) (fun i : Nat => i ≤ 8) (fun i : Nat => 8 - i) 0 ⟨rfl, rfl, rfl, trivial⟩ rfl (by first | omega | exact ⟨by omega, by rw [Nat.zero_min]; rfl⟩) (fun i hi ihi => ?_)
  have hxi := hx.lg (min i q)
  have hsi := hst.lg (min i q)
  have h12 : lgF f (min i q) 12 = f 12 := kp_lg (by decide) (by decide) _ _
  refine j_iload_n h dX2_letRaftsGo_10 rfl ?_
  refine j_iload_n h dX2_letRaftsGo_11 rfl ?_
  refine j_icmp_ge (tgt := 62) h dX2_letRaftsGo_12 (by decide) (fun c12 => ?_) (fun c12 => ?_)
  · -- t
    rw [show (8 : Int32) = nI 8 from rfl, nI_leI (by omega) (by omega)] at c12
    exact j_vret h hrt hlk dX2_letRaftsGo_62 (by decide) (by decide) (by rw [show min i q = q by omega])
  · -- f
    rw [show (8 : Int32) = nI 8 from rfl, nI_leI (by omega) (by omega)] at c12
    refine j_aload_nR h dX2_letRaftsGo_15 rfl ?_
    refine j_iload_n h dX2_letRaftsGo_16 rfl ?_
    refine xl_ald2 h hxi dX2_letRaftsGo_17 rfl (by omega) (fun e17 => ?_) (fun r17 hq17 hr17 e17 => ?_)
    · -- n
      have hE : lgF f (min (i + 1) q) = lgF f (min i q) := by rw [show min (i + 1) q = min i q by omega]
      refine j_astoreN h dX2_letRaftsGo_18 (by decide) ?_
      refine j_aload h dX2_letRaftsGo_20 rfl (Or.inl rfl) ?_
      refine j_ifnullN (tgt := 56) h dX2_letRaftsGo_22 (by decide) ?_
      refine j_iinc h dX2_letRaftsGo_56 rfl rfl (by decide) ?_
      refine j_goto (tgt := 10) h dX2_letRaftsGo_59 (by decide) ?_
      exact jj_ws (by rw [hE]) (ihi (i + 1) (by omega) (by omega) _ ⟨rfl, rfl, by simp [lget, nI_succ], trivial⟩)
    · -- r
      have hmi : min i q = i := by omega
      have hmi1 : min (i + 1) q = i + 1 := by omega
      have hrc : (nI r17).toNatClampNeg = r17 := nI_clamp (by omega)
      rw [h12] at e17
      rw [hmi] at hxi hsi ⊢
      refine j_astoreR h dX2_letRaftsGo_18 (by decide) ?_
      refine j_aloadR h dX2_letRaftsGo_20 rfl ?_
      refine j_ifnullR h dX2_letRaftsGo_22 ?_
      refine j_aloadR h dX2_letRaftsGo_25 rfl ?_
      refine x1_get4 h hin1 (by decide +kernel) dX2_letRaftsGo_27 (by omega) (by first | exact hx.c (by omega) | exact hx.l (by omega) | exact hx.r (by omega) | exact hx.s (by omega)) ?_
      refine j_iconst (v := 1) h dX2_letRaftsGo_30 (by decide) ?_
      refine j_icmp_ne (tgt := 56) h dX2_letRaftsGo_31 (by decide) (fun c31 => ?_) (fun c31 => ?_)
      · -- t
        have hE : lgF f (min (i + 1) q) = lgF f i := by rw [hmi1, lgF, e17, hrc, if_neg (fun z => c31 z.1)]
        refine j_iinc h dX2_letRaftsGo_56 rfl rfl (by decide) ?_
        refine j_goto (tgt := 10) h dX2_letRaftsGo_59 (by decide) ?_
        exact jj_ws (by rw [hE]) (ihi (i + 1) (by omega) (by omega) _ ⟨rfl, rfl, by simp [lget, nI_succ], trivial⟩)
      · -- f
        refine j_aloadR h dX2_letRaftsGo_34 rfl ?_
        refine x1_get5 h hin1 (by decide +kernel) dX2_letRaftsGo_36 (by omega) (by first | exact hx.c (by omega) | exact hx.l (by omega) | exact hx.r (by omega) | exact hx.s (by omega)) ?_
        refine j_sipush (v := 500) h dX2_letRaftsGo_39 (by decide) ?_
        refine j_icmp_lt (tgt := 56) h dX2_letRaftsGo_42 (by decide) (fun c42 => ?_) (fun c42 => ?_)
        · -- t
          have hE : lgF f (min (i + 1) q) = lgF f i := by rw [hmi1, lgF, e17, hrc, if_neg (fun z => absurd z.2 (Int32.not_le.mpr c42))]
          refine j_iinc h dX2_letRaftsGo_56 rfl rfl (by decide) ?_
          refine j_goto (tgt := 10) h dX2_letRaftsGo_59 (by decide) ?_
          exact jj_ws (by rw [hE]) (ihi (i + 1) (by omega) (by omega) _ ⟨rfl, rfl, by simp [lget, nI_succ], trivial⟩)
        · -- f
          refine j_aloadR h dX2_letRaftsGo_45 rfl ?_
          refine j_iconst (v := 2) h dX2_letRaftsGo_47 (by decide) ?_
          refine x1_put4 h hin1 (by decide +kernel) dX2_letRaftsGo_48 (by omega) (by first | exact hx.c (by omega) | exact hx.l (by omega) | exact hx.r (by omega) | exact hx.s (by omega)) ?_
          refine j_aloadR h dX2_letRaftsGo_51 rfl ?_
          refine xc1_callVV h (by omega) dX2_letRaftsGo_53 (c_X1_darkenAll (hxi.up (by omega) _ _) (r := r17) (by omega) (hsi.eqv (up2_fld _ _ _ (by decide)))) (cwV 0 h.2.2.2.2.1 gX2_letRaftsGo_X1_darkenAll rfl rfl rfl (by decide +kernel) ⟨Nat.le_of_ble_eq_true rfl, Nat.le_of_ble_eq_true rfl⟩) (by first | exact hx.c (by omega) | exact hx.l (by omega) | exact hx.r (by omega) | exact hx.s (by omega)) rfl rfl (Nat.le_of_ble_eq_true rfl) ⟨Nat.le_of_ble_eq_true rfl, Nat.le_of_ble_eq_true rfl⟩ (fun u53 hu53 => ?_)
          obtain rfl := hu53
          have hE : lgF f (min (i + 1) q) = daF (up2 (lgF f i) 10 r17 2) r17 10 := by rw [hmi1, lgF, e17, hrc, if_pos ⟨c31, Int32.not_lt.mp c42⟩]
          refine j_iinc h dX2_letRaftsGo_56 rfl rfl (by decide) ?_
          refine j_goto (tgt := 10) h dX2_letRaftsGo_59 (by decide) ?_
          exact jj_ws (by rw [hE]) (ihi (i + 1) (by omega) (by omega) _ ⟨rfl, rfl, by simp [lget, nI_succ], trivial⟩)
set_option maxHeartbeats 4000000 in
set_option maxRecDepth 100000 in
theorem c_X2_hasRoomToLaunch {l : Launch} {D : va_G} {cI cL cR : ClassId} {ad : Nat → Nat} {f : St} {C : List Nat} {n b q : Nat} (hx : xw n b q f C) : ctI l D vwCl (tyW cI cL cR) yX2_hasRoomToLaunch wsX2_hasRoomToLaunch { frames := 1, cells := 0, slots := 0, locals := 20 } [.ref (ad 0)] (wX cI cL cR ad C f) (fun v u => v = (bi (decide (rmS f q = -1) || decide (9 + f 15 0 ≤ f 11 (rmS f q).toNatClampNeg - 9))) ∧ u = (wX cI cL cR ad C f)) 0 0 := by
  refine ctI_of (cc := cX2_hasRoomToLaunch) (maxL := 6) (ret := (some .boolean)) (by decide) rfl rfl (Nat.le_of_ble_eq_true rfl) (by simp [Value.category]) [(0, .ref (ad 0))] rfl ?_
  intro p e s m args below meth c sz h hrt hlk hnm
  have hin1 : ∀ x ∈ wsX10, x ∈ wsX2_hasRoomToLaunch := by decide +kernel
  have hin2 : ∀ x ∈ wsX20, x ∈ wsX2_hasRoomToLaunch := by decide +kernel
  have hn24 := hx.1
  have hb8 := hx.2.1
  have hq8 := hx.2.2.1
  refine j_null h dX2_hasRoomToLaunch_0 ?_
  refine j_astore_nN (i := 1) h dX2_hasRoomToLaunch_1 rfl (by decide) ?_
  refine j_aload_nR h dX2_hasRoomToLaunch_2 rfl ?_
  refine x2_get2 h hin2 (by decide +kernel) dX2_hasRoomToLaunch_3 (by first | exact hx.c (by omega) | exact hx.l (by omega) | exact hx.r (by omega) | exact hx.s (by omega)) ?_
  refine j_astore_nR (i := 2) h dX2_hasRoomToLaunch_6 rfl (by decide) ?_
  refine j_aload_nR h dX2_hasRoomToLaunch_7 rfl ?_
  refine x2_alen2 h dX2_hasRoomToLaunch_8 (by first | exact hx.c (by omega) | exact hx.l (by omega) | exact hx.r (by omega) | exact hx.s (by omega)) ?_
  refine j_istore_n (i := 3) h dX2_hasRoomToLaunch_9 rfl (by decide) ?_
  refine j_iconst (v := 0) h dX2_hasRoomToLaunch_10 (by decide) ?_
  refine j_istore h dX2_hasRoomToLaunch_11 (by decide) ?_
  refine jj_loop (fun i : Nat => [(0, .ref (ad 0)), (1, va_rf (ro ad 29 (rmS f (min i q)))), (2, .ref (ad 3)), (3, .int 8), (4, .int (nI i))]) (fun i : Nat => (wX cI cL cR ad C f)) (fun i : Nat => i ≤ 8) (fun i : Nat => 8 - i) 0 ⟨rfl, by rw [Nat.zero_min]; rfl, rfl, rfl, rfl, trivial⟩ rfl (by first | omega | exact ⟨by omega, by rw [Nat.zero_min]; rfl⟩) (fun i hi ihi => ?_)
  refine j_iload h dX2_hasRoomToLaunch_13 rfl ?_
  refine j_iload_n h dX2_hasRoomToLaunch_15 rfl ?_
  refine j_icmp_ge (tgt := 48) h dX2_hasRoomToLaunch_16 (by decide) (fun c16 => ?_) (fun c16 => ?_)
  · -- t
    rw [show (8 : Int32) = nI 8 from rfl, nI_leI (by omega) (by omega)] at c16
    rw [show min i q = q by omega]
    rcases rmS_inb hx.o with hR | ⟨ra, hra, hR⟩
    · rw [hR, ro_n]
      refine j_aload_n h dX2_hasRoomToLaunch_48 rfl (Or.inl rfl) ?_
      refine j_ifnullN (tgt := 66) h dX2_hasRoomToLaunch_49 (by decide) ?_
      refine j_iconst (v := 1) h dX2_hasRoomToLaunch_66 (by decide) ?_
      refine j_goto (tgt := 71) h dX2_hasRoomToLaunch_67 (by decide) ?_
      exact j_zret h hrt hlk dX2_hasRoomToLaunch_71 (Or.inr rfl) (by decide) (by decide) ⟨by simp [bi], rfl⟩
    rw [hR, ro_s _ _ (by omega)]
    have hrac : (nI ra).toNatClampNeg = ra := nI_clamp (by omega)
    have hran : ¬ nI ra = -1 := nI_nm1 (by omega)
    refine jj_ws rfl ?_
    refine j_aload_nR h dX2_hasRoomToLaunch_48 rfl ?_
    refine j_ifnullR h dX2_hasRoomToLaunch_49 ?_
    refine j_aload_nR h dX2_hasRoomToLaunch_52 rfl ?_
    refine xc1_callVI h (by omega) dX2_hasRoomToLaunch_53 (c_X1_rear hx (r := ra) hra) (cwV 0 h.2.2.2.2.1 gX2_hasRoomToLaunch_X1_rear rfl rfl rfl (by decide +kernel) ⟨Nat.le_of_ble_eq_true rfl, Nat.le_of_ble_eq_true rfl⟩) (by first | exact hx.c (by omega) | exact hx.l (by omega) | exact hx.r (by omega) | exact hx.s (by omega)) rfl rfl (Nat.le_of_ble_eq_true rfl) ⟨Nat.le_of_ble_eq_true rfl, Nat.le_of_ble_eq_true rfl⟩ (fun r53 u53 hu53 => ?_)
    obtain ⟨rfl, rfl⟩ := hu53
    refine j_bipush (v := 9) h dX2_hasRoomToLaunch_56 (by decide) ?_
    refine j_aload_nR h dX2_hasRoomToLaunch_58 rfl ?_
    refine x2_get8 h hin2 (by decide +kernel) dX2_hasRoomToLaunch_59 (by first | exact hx.c (by omega) | exact hx.l (by omega) | exact hx.r (by omega) | exact hx.s (by omega)) ?_
    refine j_iadd h dX2_hasRoomToLaunch_62 ?_
    refine j_icmp_lt (tgt := 70) h dX2_hasRoomToLaunch_63 (by decide) (fun c63 => ?_) (fun c63 => ?_)
    · -- t
      rw [← Int32.not_le] at c63
      refine j_iconst (v := 0) h dX2_hasRoomToLaunch_70 (by decide) ?_
      exact j_zret h hrt hlk dX2_hasRoomToLaunch_71 (by first | exact Or.inl rfl | exact Or.inr rfl) (by decide) (by decide) (⟨by simp [bi, hrac, hran, c63], rfl⟩)
    · -- f
      rw [Int32.not_lt] at c63
      refine j_iconst (v := 1) h dX2_hasRoomToLaunch_66 (by decide) ?_
      refine j_goto (tgt := 71) h dX2_hasRoomToLaunch_67 (by decide) ?_
      exact j_zret h hrt hlk dX2_hasRoomToLaunch_71 (by first | exact Or.inl rfl | exact Or.inr rfl) (by decide) (by decide) (⟨by simp [bi, hrac, hran, c63], rfl⟩)
  · -- f
    rw [show (8 : Int32) = nI 8 from rfl, nI_leI (by omega) (by omega)] at c16
    refine j_aload_nR h dX2_hasRoomToLaunch_19 rfl ?_
    refine j_iload h dX2_hasRoomToLaunch_20 rfl ?_
    refine xl_ald2 h (by first | assumption | exact hx.up (by omega) _ _ | exact (hx.up (by omega) _ _).up (by omega) _ _) dX2_hasRoomToLaunch_22 rfl (by omega) (fun e22 => ?_) (fun r22 hq22 hr22 e22 => ?_)
    · -- n
      have hE : rmS f (min (i + 1) q) = rmS f (min i q) := by rw [show min (i + 1) q = min i q by omega]
      refine j_astoreN h dX2_hasRoomToLaunch_23 (by decide) ?_
      refine j_aload h dX2_hasRoomToLaunch_25 rfl (Or.inl rfl) ?_
      refine j_ifnullN (tgt := 42) h dX2_hasRoomToLaunch_27 (by decide) ?_
      refine j_iinc h dX2_hasRoomToLaunch_42 rfl rfl (by decide) ?_
      refine j_goto (tgt := 13) h dX2_hasRoomToLaunch_45 (by decide) ?_
      exact ihi (i + 1) (by omega) (by omega) _ ⟨rfl, by rw [hE]; first | rfl | (rw [e22, ro_s _ _ (by omega)]; rfl), rfl, rfl, by simp [lget, nI_succ], trivial⟩
    · -- r
      have hmi : min i q = i := by omega
      have hmi1 : min (i + 1) q = i + 1 := by omega
      have hrc : (nI r22).toNatClampNeg = r22 := nI_clamp (by omega)
      refine j_astoreR h dX2_hasRoomToLaunch_23 (by decide) ?_
      refine j_aloadR h dX2_hasRoomToLaunch_25 rfl ?_
      refine j_ifnullR h dX2_hasRoomToLaunch_27 ?_
      refine j_aloadR h dX2_hasRoomToLaunch_30 rfl ?_
      refine x1_get4 h hin1 (by decide +kernel) dX2_hasRoomToLaunch_32 (by omega) (by first | exact hx.c (by omega) | exact hx.l (by omega) | exact hx.r (by omega) | exact hx.s (by omega)) ?_
      refine j_iconst (v := 1) h dX2_hasRoomToLaunch_35 (by decide) ?_
      refine j_icmp_ne (tgt := 42) h dX2_hasRoomToLaunch_36 (by decide) (fun c36 => ?_) (fun c36 => ?_)
      · -- t
        have hE : rmS f (min (i + 1) q) = rmS f (min i q) := by rw [hmi, hmi1, rmS, e22, hrc, if_neg c36]
        refine j_iinc h dX2_hasRoomToLaunch_42 rfl rfl (by decide) ?_
        refine j_goto (tgt := 13) h dX2_hasRoomToLaunch_45 (by decide) ?_
        exact ihi (i + 1) (by omega) (by omega) _ ⟨rfl, by rw [hE]; first | rfl | (rw [e22, ro_s _ _ (by omega)]; rfl), rfl, rfl, by simp [lget, nI_succ], trivial⟩
      · -- f
        have hE : rmS f (min (i + 1) q) = f 12 i := by rw [hmi1, rmS, e22, hrc, if_pos c36]
        refine j_aloadR h dX2_hasRoomToLaunch_39 rfl ?_
        refine j_astore_nR (i := 1) h dX2_hasRoomToLaunch_41 rfl (by decide) ?_
        refine j_iinc h dX2_hasRoomToLaunch_42 rfl rfl (by decide) ?_
        refine j_goto (tgt := 13) h dX2_hasRoomToLaunch_45 (by decide) ?_
        exact ihi (i + 1) (by omega) (by omega) _ ⟨rfl, by rw [hE]; first | rfl | (rw [e22, ro_s _ _ (by omega)]; rfl), rfl, rfl, by simp [lget, nI_succ], trivial⟩
set_option maxHeartbeats 4000000 in
set_option maxRecDepth 100000 in
theorem c_X2_passOne {l : Launch} {D : va_G} {cI cL cR : ClassId} {ad : Nat → Nat} {f : St} {C : List Nat} {n b q : Nat} {tm : Nat} (hx : xw n b q f C) (hst : stO f n) (hlp : lpF f n) (hlf : lfF f n) (ht : f 18 0 = nI tm) (htm : tm < 2 ^ 29) (hlg : ∀ g : St, g = (mvF (up2 f 18 0 (nI (tm + 1))) q).1 → lpF (lgF g q) n) : ctV l D vwCl (tyW cI cL cR) yX2_passOne wsX2_passOne { frames := 5, cells := 0, slots := 0, locals := 110 } [.ref (ad 0)] (wX cI cL cR ad C f) (fun u => u = wX cI cL cR ad C (maF (buF (blF (lgF (mvF (up2 f 18 0 (nI (tm + 1))) q).1 q) (guF (lgF (mvF (up2 f 18 0 (nI (tm + 1))) q).1 q) (tm + 1)) n) n) n)) 0 0 := by
  refine ctV_of (cc := cX2_passOne) (maxL := 1) (ret := none) (by decide) rfl rfl (Nat.le_of_ble_eq_true rfl) (by simp [Value.category]) [(0, .ref (ad 0))] rfl ?_
  intro p e s m args below meth c sz h hrt hlk hnm
  have hin2 : ∀ x ∈ wsX20, x ∈ wsX2_passOne := by decide +kernel
  have hn24 := hx.1
  have hb8 := hx.2.1
  have hq8 := hx.2.2.1
  refine j_aload_nR h dX2_passOne_0 rfl ?_
  refine j_dup h dX2_passOne_1 rfl ?_
  refine x2_get7 h hin2 (by decide +kernel) dX2_passOne_2 (by first | exact hx.c (by omega) | exact hx.l (by omega) | exact hx.r (by omega) | exact hx.s (by omega)) ?_
  refine j_iconst (v := 1) h dX2_passOne_5 (by decide) ?_
  refine j_iadd h dX2_passOne_6 ?_
  refine x2_put7 h hin2 (by decide +kernel) dX2_passOne_7 (by first | exact hx.c (by omega) | exact hx.l (by omega) | exact hx.r (by omega) | exact hx.s (by omega)) ?_
  rw [ht, nI_1]
  have hx1 := hx.up (j := 18) (by omega) 0 (nI (tm + 1))
  refine j_aload_nR h dX2_passOne_10 rfl ?_
  refine xc2_callVV h dX2_passOne_11 (c_X2_moveRafts hx1) (cwV 0 h.2.2.2.2.1 gX2_passOne_X2_moveRafts rfl rfl rfl (by decide +kernel) ⟨Nat.le_of_ble_eq_true rfl, Nat.le_of_ble_eq_true rfl⟩) (by first | exact hx.c (by omega) | exact hx.l (by omega) | exact hx.r (by omega) | exact hx.s (by omega)) rfl rfl (Nat.le_of_ble_eq_true rfl) ⟨Nat.le_of_ble_eq_true rfl, Nat.le_of_ble_eq_true rfl⟩ (fun u11 hu11 => ?_)
  obtain rfl := hu11
  have hx2 := hx1.mv q
  have hs2 : stO (mvF (up2 f 18 0 (nI (tm + 1))) q).1 n := hst.eqv (by rw [mvF_k _ _ (by decide), up2_fld _ _ _ (by decide)])
  refine j_aload_nR h dX2_passOne_14 rfl ?_
  refine xc2_callVV h dX2_passOne_15 (c_X2_letRaftsGo hx2 hs2) (cwV 0 h.2.2.2.2.1 gX2_passOne_X2_letRaftsGo rfl rfl rfl (by decide +kernel) ⟨Nat.le_of_ble_eq_true rfl, Nat.le_of_ble_eq_true rfl⟩) (by first | exact hx.c (by omega) | exact hx.l (by omega) | exact hx.r (by omega) | exact hx.s (by omega)) rfl rfl (Nat.le_of_ble_eq_true rfl) ⟨Nat.le_of_ble_eq_true rfl, Nat.le_of_ble_eq_true rfl⟩ (fun u15 hu15 => ?_)
  obtain rfl := hu15
  have hx3 := hx2.lg q
  have hs3 := hs2.lg q
  have ht3 : lgF (mvF (up2 f 18 0 (nI (tm + 1))) q).1 q 18 0 = nI (tm + 1) := by rw [kp_lg (by decide) (by decide), mvF_k _ _ (by decide), up2_self]
  have hd3 : dec (lgF (mvF (up2 f 18 0 (nI (tm + 1))) q).1 q) f := (dec.lg _ _).tr ((dec.mv _ _).tr (dec.up _ _ _ (by omega)))
  have h43 : lgF (mvF (up2 f 18 0 (nI (tm + 1))) q).1 q 4 = f 4 := by rw [kp_lg (by decide) (by decide), mvF_k _ _ (by decide), up2_fld _ _ _ (by decide)]
  have hl3 := hlg _ rfl
  refine j_aload_nR h dX2_passOne_18 rfl ?_
  refine xc2_callVV h dX2_passOne_19 (c_X2_blowGust hx3 (tm := tm + 1) hs3 ht3 (by omega) (by omega)) (cwV 0 h.2.2.2.2.1 gX2_passOne_X2_blowGust rfl rfl rfl (by decide +kernel) ⟨Nat.le_of_ble_eq_true rfl, Nat.le_of_ble_eq_true rfl⟩) (by first | exact hx.c (by omega) | exact hx.l (by omega) | exact hx.r (by omega) | exact hx.s (by omega)) rfl rfl (Nat.le_of_ble_eq_true rfl) ⟨Nat.le_of_ble_eq_true rfl, Nat.le_of_ble_eq_true rfl⟩ (fun u19 hu19 => ?_)
  obtain rfl := hu19
  have hx4 := hx3.bl (guF (lgF (mvF (up2 f 18 0 (nI (tm + 1))) q).1 q) (tm + 1)) n
  have hs4 := hs3.bl (guF (lgF (mvF (up2 f 18 0 (nI (tm + 1))) q).1 q) (tm + 1)) n
  have hd4 := (dec.bl _ (guF (lgF (mvF (up2 f 18 0 (nI (tm + 1))) q).1 q) (tm + 1)) n).tr hd3
  have hl4 := hl3.dec (dec.bl _ (guF (lgF (mvF (up2 f 18 0 (nI (tm + 1))) q).1 q) (tm + 1)) n) (kp_bl (by decide) (by decide) _ _ _)
  have hf4 := hlf.dec hd4 (by rw [kp_bl (by decide) (by decide)]; exact h43)
  refine j_aload_nR h dX2_passOne_22 rfl ?_
  refine xc2_callVV h dX2_passOne_23 (c_X2_burnCandles hx4 hf4) (cwV 0 h.2.2.2.2.1 gX2_passOne_X2_burnCandles rfl rfl rfl (by decide +kernel) ⟨Nat.le_of_ble_eq_true rfl, Nat.le_of_ble_eq_true rfl⟩) (by first | exact hx.c (by omega) | exact hx.l (by omega) | exact hx.r (by omega) | exact hx.s (by omega)) rfl rfl (Nat.le_of_ble_eq_true rfl) ⟨Nat.le_of_ble_eq_true rfl, Nat.le_of_ble_eq_true rfl⟩ (fun u23 hu23 => ?_)
  obtain rfl := hu23
  have hx5 := hx4.bu n
  have hs5 := hs4.bu n
  have hl5 := hl4.dec (dec.bu _ n) (kp_bu (by decide) (by decide) _ _)
  refine j_aload_nR h dX2_passOne_26 rfl ?_
  refine xc2_callVV h dX2_passOne_27 (c_X2_sendMarshal hx5 hs5 hl5) (cwV 0 h.2.2.2.2.1 gX2_passOne_X2_sendMarshal rfl rfl rfl (by decide +kernel) ⟨Nat.le_of_ble_eq_true rfl, Nat.le_of_ble_eq_true rfl⟩) (by first | exact hx.c (by omega) | exact hx.l (by omega) | exact hx.r (by omega) | exact hx.s (by omega)) rfl rfl (Nat.le_of_ble_eq_true rfl) ⟨Nat.le_of_ble_eq_true rfl, Nat.le_of_ble_eq_true rfl⟩ (fun u27 hu27 => ?_)
  obtain rfl := hu27
  exact j_vret h hrt hlk dX2_passOne_30 (by decide) (by decide) (rfl)
