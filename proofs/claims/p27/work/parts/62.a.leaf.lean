set_option maxHeartbeats 4000000 in
set_option maxRecDepth 100000 in
theorem c_L_from {l : Launch} {D : va_G} {cI cL cR : ClassId}  {ws : va_W} {sb L : Nat} {xs : Nat → Int32} {k d : Nat} (hL : L ≤ 260) (hk : k < 2 ^ 20) (hd0 : 0 < d) (hd1 : d < 2 ^ 30) : ctS l D vwCl (tyW cI cL cR) yL_from wsL_from { frames := 0, cells := 0, slots := 0, locals := 0 } [.ref sb, .int (nI k), .int (nI d)] (ws) sb L xs (fun r u => ∃ a, a < d ∧ r = nI a ∧ u = ws) 0 0 := by
  refine ctS_of (cc := cL_from) (maxL := 4) (ret := (some .int)) (by decide) rfl rfl (Nat.le_of_ble_eq_true rfl) (by simp [Value.category]) [(0, .ref sb), (1, .int (nI k)), (2, .int (nI d))] rfl ?_
  intro p e s m args below meth c sz h hrt hlk hnc hX hbl hbA
  refine jj_cut 28 [(0, .ref sb), (1, .int (nI k)), (2, .int (nI d))] [] (fun _ => True) (fun v28 hv28 => ?_) (fun cut28 => ?_)
  · -- behind
    refine j_istore_n (i := 3) h dL_from_28 rfl (by decide) ?_
    refine j_iload_n h dL_from_29 rfl ?_
    refine j_ldc (v := 2147483647) h dL_from_30 (by decide +kernel) ?_
    refine j_iand h dL_from_32 ?_
    refine j_top (pk_and v28 31 (by decide +kernel)) ?_
    refine j_iload_n h dL_from_33 rfl ?_
    refine j_iremN (a := (v28.toBitVec.toNat % 2 ^ 31)) (d := d) h dL_from_34 rfl rfl (by omega) (by omega) (by omega) ?_
    exact j_iret h hrt hlk dL_from_35 (by decide) (by decide) (⟨_, Nat.mod_lt _ hd0, rfl, rfl⟩)
  · -- ahead
    refine j_aload_nR h dL_from_0 rfl ?_
    refine j_slen h hX hbl hbA dL_from_1 ?_
    refine j_if_ne (tgt := 17) h dL_from_2 (by decide) (fun c2 => ?_) (fun c2 => ?_)
    · -- t
      have hL0 : 0 < L := Nat.pos_of_ne_zero (fun z => c2 (by rw [z]; rfl))
      refine j_aload_nR h dL_from_17 rfl ?_
      refine j_iload_n h dL_from_18 rfl ?_
      refine j_aload_nR h dL_from_19 rfl ?_
      refine j_slen h hX hbl hbA dL_from_20 ?_
      refine j_iremN (a := k) (d := L) h dL_from_21 rfl rfl (by omega) (by omega) (by omega) ?_
      refine j_sldS (a := k % L) h hX hbl hbA (by omega) rfl (Nat.mod_lt _ hL0) dL_from_22 ?_
      refine j_ldc (v := 162649) h dL_from_23 (by decide +kernel) ?_
      refine j_iload_n h dL_from_25 rfl ?_
      refine j_imul h dL_from_26 ?_
      refine j_ixor h dL_from_27 ?_
      exact cut28 _ trivial _ ⟨rfl, rfl, rfl, trivial⟩
    · -- f
      refine j_sipush (v := 193) h dL_from_5 (by decide) ?_
      refine j_iload_n h dL_from_8 rfl ?_
      refine j_imul h dL_from_9 ?_
      refine j_sipush (v := 167) h dL_from_10 (by decide) ?_
      refine j_iadd h dL_from_13 ?_
      refine j_goto (tgt := 28) h dL_from_14 (by decide) ?_
      exact cut28 _ trivial _ ⟨rfl, rfl, rfl, trivial⟩
set_option maxHeartbeats 4000000 in
set_option maxRecDepth 100000 in
theorem c_L_place {l : Launch} {D : va_G} {cI cL cR : ClassId} {aJ : Nat → Nat} {ψ : St} {a : Nat} (ha : a < 8) (h5 : ψ 5 a = -1 ∨ ∃ r, r < 5 ∧ ψ 5 a = nI r) : ctI l D vwCl (tyW cI cL cR) yL_place wsL_place { frames := 0, cells := 0, slots := 0, locals := 0 } [.ref (aJ 0), .ref (aJ 1), .int (nI a)] (wJ cI aJ ψ) (fun r u => r = plJ ψ a ∧ u = wJ cI aJ ψ) 0 0 := by
  refine ctI_of (cc := cL_place) (maxL := 4) (ret := (some .int)) (by decide) rfl rfl (Nat.le_of_ble_eq_true rfl) (by simp [Value.category]) [(0, .ref (aJ 0)), (1, .ref (aJ 1)), (2, .int (nI a))] rfl ?_
  intro p e s m args below meth c sz h hrt hlk hnm
  refine jj_ws (List.append_nil _).symm ?_
  rcases h5 with h5 | ⟨r, hr, h5⟩
  · skip
    refine j_aload_nR h dL_place_0 rfl ?_
    refine j_bipush (v := 8) h dL_place_1 (by decide) ?_
    refine j_iload_n h dL_place_3 rfl ?_
    refine j_imul h dL_place_4 ?_
    refine j_iconst (v := 5) h dL_place_5 (by decide) ?_
    refine j_iadd h dL_place_6 ?_
    refine jl_ald a 5 h dL_place_7 (ix8_5 _) (by decide) (by omega) ?_
    refine j_top h5 ?_
    refine j_istore_n (i := 3) h dL_place_8 rfl (by decide) ?_
    refine j_iload_n h dL_place_9 rfl ?_
    refine j_if_lt (tgt := 24) h dL_place_10 (by decide) (fun c10 => ?_) (fun c10 => absurd c10 (by decide))
    refine j_sipush (v := (-1000)) h dL_place_24 (by decide) ?_
    refine j_goto (tgt := 47) h dL_place_27 (by decide) ?_
    exact j_iret h hrt hlk dL_place_47 (by decide) (by decide) (⟨by rw [plJ, if_neg (by rw [hpB_no h5]; decide)], List.append_nil _⟩)
  · have hP := hpB_of h5 (show r < 2 ^ 31 by omega)
    refine j_aload_nR h dL_place_0 rfl ?_
    refine j_bipush (v := 8) h dL_place_1 (by decide) ?_
    refine j_iload_n h dL_place_3 rfl ?_
    refine j_imul h dL_place_4 ?_
    refine j_iconst (v := 5) h dL_place_5 (by decide) ?_
    refine j_iadd h dL_place_6 ?_
    refine jl_ald a 5 h dL_place_7 (ix8_5 _) (by decide) (by omega) ?_
    refine j_top h5 ?_
    refine j_istore_n (i := 3) h dL_place_8 rfl (by decide) ?_
    refine j_iload_n h dL_place_9 rfl ?_
    refine j_if_lt (tgt := 24) h dL_place_10 (by decide) (fun c10 => absurd c10 (nI_pos (by omega))) (fun c10 => ?_)
    refine j_aload_nR h dL_place_13 rfl ?_
    refine j_iconst (v := 4) h dL_place_14 (by decide) ?_
    refine j_iload_n h dL_place_15 rfl ?_
    refine j_imul h dL_place_16 ?_
    refine j_iconst (v := 2) h dL_place_17 (by decide) ?_
    refine j_iadd h dL_place_18 ?_
    refine jf_ald2 r h dL_place_19 (ix4_2 _) (by omega) ?_
    refine j_iconst (v := 1) h dL_place_20 (by decide) ?_
    refine j_icmp_eq (tgt := 30) h dL_place_21 (by decide) (fun c21 => ?_) (fun c21 => ?_)
    · -- t
      refine j_aload_nR h dL_place_30 rfl ?_
      refine j_iconst (v := 4) h dL_place_31 (by decide) ?_
      refine j_iload_n h dL_place_32 rfl ?_
      refine j_imul h dL_place_33 ?_
      refine j_iconst (v := 3) h dL_place_34 (by decide) ?_
      refine j_iadd h dL_place_35 ?_
      refine jf_ald3 r h dL_place_36 (ix4_3 _) (by omega) ?_
      refine j_aload_nR h dL_place_37 rfl ?_
      refine j_bipush (v := 8) h dL_place_38 (by decide) ?_
      refine j_iload_n h dL_place_40 rfl ?_
      refine j_imul h dL_place_41 ?_
      refine j_bipush (v := 6) h dL_place_42 (by decide) ?_
      refine j_iadd h dL_place_44 ?_
      refine jl_ald a 6 h dL_place_45 (ix8_6 _) (by decide) (by omega) ?_
      refine j_isub h dL_place_46 ?_
      exact j_iret h hrt hlk dL_place_47 (by decide) (by decide) (⟨by first | rw [plJ, if_pos (by rw [hP]; exact decide_eq_true c21), pl, h5, nI_clamp (by omega)] | rw [plJ, if_neg (by rw [hP, decide_eq_false c21]; decide)], List.append_nil _⟩)
    · -- f
      refine j_sipush (v := (-1000)) h dL_place_24 (by decide) ?_
      refine j_goto (tgt := 47) h dL_place_27 (by decide) ?_
      exact j_iret h hrt hlk dL_place_47 (by decide) (by decide) (⟨by first | rw [plJ, if_pos (by rw [hP]; exact decide_eq_true c21), pl, h5, nI_clamp (by omega)] | rw [plJ, if_neg (by rw [hP, decide_eq_false c21]; decide)], List.append_nil _⟩)
set_option maxHeartbeats 4000000 in
set_option maxRecDepth 100000 in
theorem c_L_apart {l : Launch} {D : va_G} {cI cL cR : ClassId} {aJ : Nat → Nat} {ψ : St} {a b : Nat} (ha : a < 8) (hb : b < 8) (h5 : ψ 5 a = -1 ∨ ∃ r, r < 5 ∧ ψ 5 a = nI r) (h6 : ψ 5 b = -1 ∨ ∃ r, r < 5 ∧ ψ 5 b = nI r) : ctI l D vwCl (tyW cI cL cR) yL_apart wsL_apart { frames := 1, cells := 0, slots := 0, locals := 23 } [.ref (aJ 0), .ref (aJ 1), .int (nI a), .int (nI b)] (wJ cI aJ ψ) (fun r u => r = apJ ψ a b ∧ u = wJ cI aJ ψ) 0 0 := by
  refine ctI_of (cc := cL_apart) (maxL := 6) (ret := (some .int)) (by decide) rfl rfl (Nat.le_of_ble_eq_true rfl) (by simp [Value.category]) [(0, .ref (aJ 0)), (1, .ref (aJ 1)), (2, .int (nI a)), (3, .int (nI b))] rfl ?_
  intro p e s m args below meth c sz h hrt hlk hnm
  refine jj_ws (List.append_nil _).symm ?_
  refine j_aload_nR h dL_apart_0 rfl ?_
  refine j_aload_nR h dL_apart_1 rfl ?_
  refine j_iload_n h dL_apart_2 rfl ?_
  refine j_callFI (wc := wJ cI aJ _) h dL_apart_3 (c_L_place (a := a) ha h5) (va_cwS 3 h.2.2.2.2.1 gL_apart_L_place rfl rfl rfl (by decide +kernel) ⟨(Nat.le_of_ble_eq_true rfl), (Nat.le_of_ble_eq_true rfl)⟩) rfl rfl (Nat.le_of_ble_eq_true rfl) ⟨(Nat.le_of_ble_eq_true rfl), (Nat.le_of_ble_eq_true rfl)⟩ (fun r3 u3 hu3 => ?_)
  obtain ⟨rfl, rfl⟩ := hu3
  refine j_istore h dL_apart_6 (by decide) ?_
  refine j_aload_nR h dL_apart_8 rfl ?_
  refine j_aload_nR h dL_apart_9 rfl ?_
  refine j_iload_n h dL_apart_10 rfl ?_
  refine j_callFI (wc := wJ cI aJ _) h dL_apart_11 (c_L_place (a := b) hb h6) (va_cwS 3 h.2.2.2.2.1 gL_apart_L_place rfl rfl rfl (by decide +kernel) ⟨(Nat.le_of_ble_eq_true rfl), (Nat.le_of_ble_eq_true rfl)⟩) rfl rfl (Nat.le_of_ble_eq_true rfl) ⟨(Nat.le_of_ble_eq_true rfl), (Nat.le_of_ble_eq_true rfl)⟩ (fun r11 u11 hu11 => ?_)
  obtain ⟨rfl, rfl⟩ := hu11
  refine j_istore h dL_apart_14 (by decide) ?_
  refine j_iload h dL_apart_16 rfl ?_
  refine j_iload h dL_apart_18 rfl ?_
  refine j_icmp_le (tgt := 31) h dL_apart_20 (by decide) (fun c20 => ?_) (fun c20 => ?_)
  · -- t
    refine j_iload h dL_apart_31 rfl ?_
    refine j_iload h dL_apart_33 rfl ?_
    refine j_isub h dL_apart_35 ?_
    exact j_iret h hrt hlk dL_apart_36 (by decide) (by decide) (⟨by rw [apJ]; first | rw [if_pos (Int32.not_le.mp c20)] | rw [if_neg (Int32.not_lt.mpr c20)] | rw [if_pos c20] | rw [if_neg c20], List.append_nil _⟩)
  · -- f
    refine j_iload h dL_apart_23 rfl ?_
    refine j_iload h dL_apart_25 rfl ?_
    refine j_isub h dL_apart_27 ?_
    refine j_goto (tgt := 36) h dL_apart_28 (by decide) ?_
    exact j_iret h hrt hlk dL_apart_36 (by decide) (by decide) (⟨by rw [apJ]; first | rw [if_pos (Int32.not_le.mp c20)] | rw [if_neg (Int32.not_lt.mpr c20)] | rw [if_pos c20] | rw [if_neg c20], List.append_nil _⟩)
set_option maxHeartbeats 4000000 in
set_option maxRecDepth 100000 in
theorem c_L_isClose {l : Launch} {D : va_G} {cI cL cR : ClassId} {aJ : Nat → Nat} {ψ : St} {n x B : Nat} (hn : n ≤ 8) (hx : x < n) (hB : B ≤ n) (h5 : ∀ k, k < n → ψ 5 k = -1 ∨ ∃ r, r < 5 ∧ ψ 5 k = nI r) : ctI l D vwCl (tyW cI cL cR) yL_isClose wsL_isClose { frames := 2, cells := 0, slots := 0, locals := 48 } [.ref (aJ 0), .ref (aJ 1), .ref (aJ 4), .int (nI x), .int (nI B)] (wJ cI aJ ψ) (fun r u => r = bi (ncB ψ x B) ∧ u = wJ cI aJ ψ) 0 0 := by
  refine ctI_of (cc := cL_isClose) (maxL := 8) (ret := (some .boolean)) (by decide) rfl rfl (Nat.le_of_ble_eq_true rfl) (by simp [Value.category]) [(0, .ref (aJ 0)), (1, .ref (aJ 1)), (2, .ref (aJ 4)), (3, .int (nI x)), (4, .int (nI B))] rfl ?_
  intro p e s m args below meth c sz h hrt hlk hnm
  refine jj_ws (List.append_nil _).symm ?_
  refine j_iconst (v := 0) h dL_isClose_0 (by decide) ?_
  refine j_istore h dL_isClose_1 (by decide) ?_
  refine j_iload h dL_isClose_3 rfl ?_
  refine j_iconst (v := 1) h dL_isClose_5 (by decide) ?_
  refine j_isub h dL_isClose_6 ?_
  refine j_istore h dL_isClose_7 (by decide) ?_
  refine jj_loop (fun d : Nat => [(0, .ref (aJ 0)), (1, .ref (aJ 1)), (2, .ref (aJ 4)), (3, .int (nI x)), (4, .int (nI B)), (5, .int (bi (ncD ψ x B d))), (6, .int (nI (B - d) - 1))]) (fun d : Nat => wJ cI aJ ψ ++ []) (fun d : Nat => d ≤ B) (fun d : Nat => B - d) 0 ⟨rfl, rfl, rfl, rfl, rfl, rfl, rfl, trivial⟩ rfl (by omega) (fun d hd ihd => ?_)
  refine j_iload h dL_isClose_9 rfl ?_
  refine j_if_lt (tgt := 88) h dL_isClose_11 (by decide) (fun c11 => ?_) (fun c11 => ?_)
  · -- t
    have hdB : d = B := by
      rcases Nat.lt_or_ge d B with z | z
      · obtain ⟨y, hy⟩ : ∃ y, B - d = y + 1 := ⟨B - d - 1, by omega⟩
        rw [hy, nI_pred] at c11
        exact absurd c11 (nI_pos (by omega))
      · omega
    subst hdB
    refine j_iload h dL_isClose_88 rfl ?_
    exact j_zret h hrt hlk dL_isClose_90 (bi_or _) (by decide) (by decide) (⟨by rw [ncD_eq], List.append_nil _⟩)
  · -- f
    have hdB : d < B := by
      rcases Nat.lt_or_ge d B with z | z
      · exact z
      · rw [show B - d = 0 by omega] at c11
        exact absurd (by decide) c11
    have e6 : nI (B - d) - 1 = nI (B - d - 1) := by
      rw [show B - d = (B - d - 1) + 1 by omega, nI_pred]; rfl
    rw [e6]
    have hcm : ∀ b : Bool, (ncT ψ x (B - d - 1) = b → ncD ψ x B (d + 1) = (ncD ψ x B d || b)) := fun b z => by rw [ncD, Nat.sub_right_comm, z]
    refine j_aload_nR h dL_isClose_14 rfl ?_
    refine j_bipush (v := 8) h dL_isClose_15 (by decide) ?_
    refine j_iload h dL_isClose_17 rfl ?_
    refine j_imul h dL_isClose_19 ?_
    refine j_iconst (v := 2) h dL_isClose_20 (by decide) ?_
    refine j_iadd h dL_isClose_21 ?_
    refine jl_ald ((B - d - 1)) 2 h dL_isClose_22 (ix8_2 _) (by decide) (by omega) ?_
    refine j_aload_nR h dL_isClose_23 rfl ?_
    refine j_bipush (v := 8) h dL_isClose_24 (by decide) ?_
    refine j_iload_n h dL_isClose_26 rfl ?_
    refine j_imul h dL_isClose_27 ?_
    refine j_iconst (v := 2) h dL_isClose_28 (by decide) ?_
    refine j_iadd h dL_isClose_29 ?_
    refine jl_ald x 2 h dL_isClose_30 (ix8_2 _) (by decide) (by omega) ?_
    refine j_iadd h dL_isClose_31 ?_
    refine j_aload_nR h dL_isClose_32 rfl ?_
    refine j_iconst (v := 4) h dL_isClose_33 (by decide) ?_
    refine jm_ald4 h dL_isClose_34 ?_
    refine j_iadd h dL_isClose_35 ?_
    refine j_istore h dL_isClose_36 (by decide) ?_
    refine jj_cut 80 [(0, .ref (aJ 0)), (1, .ref (aJ 1)), (2, .ref (aJ 4)), (3, .int (nI x)), (4, .int (nI B)), (5, .int (bi (ncD ψ x B d))), (6, .int (nI (B - d - 1))), (7, .int (ψ 2 (B - d - 1) + ψ 2 x + ψ 16 0))] [] (fun v => v = bi (ncD ψ x B (d + 1))) (fun v80 hv80 => ?_) (fun cut80 => ?_)
    · -- behind
      obtain rfl := hv80
      refine j_istore h dL_isClose_80 (by decide) ?_
      refine j_iinc h dL_isClose_82 rfl rfl (by decide) ?_
      refine j_goto (tgt := 9) h dL_isClose_85 (by decide) ?_
      exact ihd (d + 1) (by omega) (by omega) _ ⟨rfl, rfl, rfl, rfl, rfl, rfl, by show some (Value.int _) = _; rw [incm1, Nat.sub_sub], trivial⟩
    · -- ahead
      refine j_iload h dL_isClose_38 rfl ?_
      refine j_if_ne (tgt := 75) h dL_isClose_40 (by decide) (fun c40 => ?_) (fun c40 => ?_)
      · -- t
        refine j_iconst (v := 1) h dL_isClose_75 (by decide) ?_
        refine j_goto (tgt := 80) h dL_isClose_76 (by decide) ?_
        have c46 : True := trivial
        have c59 : True := trivial
        have c72 : True := trivial
        exact cut80 _ (by first | (rw [hcm _ rfl, bi_n0.mp c40]; rfl) | (rw [hcm false (ncT_x ((nI_eq (by omega) (by omega)).mp c46)), bi_0.mp c40]; rfl) | (rw [hcm false (ncT_s c59), bi_0.mp c40]; rfl) | (rw [hcm _ (ncT_v (fun z => c46 (by rw [z])) c59), bi_0.mp c40]; (first | rw [decide_eq_true c72] | rw [decide_eq_true (Int32.not_le.mp c72)] | rw [decide_eq_false c72] | rw [decide_eq_false (Int32.not_lt.mpr c72)]); rfl)) _ ⟨rfl, rfl, rfl, rfl, rfl, rfl, rfl, rfl, trivial⟩
      · -- f
        refine j_iload h dL_isClose_43 rfl ?_
        refine j_iload_n h dL_isClose_45 rfl ?_
        refine j_icmp_eq (tgt := 79) h dL_isClose_46 (by decide) (fun c46 => ?_) (fun c46 => ?_)
        · -- t
          refine j_iconst (v := 0) h dL_isClose_79 (by decide) ?_
          have c59 : True := trivial
          have c72 : True := trivial
          exact cut80 _ (by first | (rw [hcm _ rfl, bi_n0.mp c40]; rfl) | (rw [hcm false (ncT_x ((nI_eq (by omega) (by omega)).mp c46)), bi_0.mp c40]; rfl) | (rw [hcm false (ncT_s c59), bi_0.mp c40]; rfl) | (rw [hcm _ (ncT_v (fun z => c46 (by rw [z])) c59), bi_0.mp c40]; (first | rw [decide_eq_true c72] | rw [decide_eq_true (Int32.not_le.mp c72)] | rw [decide_eq_false c72] | rw [decide_eq_false (Int32.not_lt.mpr c72)]); rfl)) _ ⟨rfl, rfl, rfl, rfl, rfl, rfl, rfl, rfl, trivial⟩
        · -- f
          refine j_aload_nR h dL_isClose_49 rfl ?_
          refine j_bipush (v := 8) h dL_isClose_50 (by decide) ?_
          refine j_iload h dL_isClose_52 rfl ?_
          refine j_imul h dL_isClose_54 ?_
          refine j_iconst (v := 3) h dL_isClose_55 (by decide) ?_
          refine j_iadd h dL_isClose_56 ?_
          refine jl_ald ((B - d - 1)) 3 h dL_isClose_57 (ix8_3 _) (by decide) (by omega) ?_
          refine j_iconst (v := 1) h dL_isClose_58 (by decide) ?_
          refine j_icmp_ne (tgt := 79) h dL_isClose_59 (by decide) (fun c59 => ?_) (fun c59 => ?_)
          · -- t
            refine j_iconst (v := 0) h dL_isClose_79 (by decide) ?_
            have c72 : True := trivial
            exact cut80 _ (by first | (rw [hcm _ rfl, bi_n0.mp c40]; rfl) | (rw [hcm false (ncT_x ((nI_eq (by omega) (by omega)).mp c46)), bi_0.mp c40]; rfl) | (rw [hcm false (ncT_s c59), bi_0.mp c40]; rfl) | (rw [hcm _ (ncT_v (fun z => c46 (by rw [z])) c59), bi_0.mp c40]; (first | rw [decide_eq_true c72] | rw [decide_eq_true (Int32.not_le.mp c72)] | rw [decide_eq_false c72] | rw [decide_eq_false (Int32.not_lt.mpr c72)]); rfl)) _ ⟨rfl, rfl, rfl, rfl, rfl, rfl, rfl, rfl, trivial⟩
          · -- f
            refine j_aload_nR h dL_isClose_62 rfl ?_
            refine j_aload_nR h dL_isClose_63 rfl ?_
            refine j_iload h dL_isClose_64 rfl ?_
            refine j_iload_n h dL_isClose_66 rfl ?_
            refine j_callFI (wc := wJ cI aJ _) h dL_isClose_67 (c_L_apart (a := B - d - 1) (b := x) (by omega) (by omega) (h5 _ (by omega)) (h5 _ hx)) (va_cwS 4 h.2.2.2.2.1 gL_isClose_L_apart rfl rfl rfl (by decide +kernel) ⟨(Nat.le_of_ble_eq_true rfl), (Nat.le_of_ble_eq_true rfl)⟩) rfl rfl (Nat.le_of_ble_eq_true rfl) ⟨(Nat.le_of_ble_eq_true rfl), (Nat.le_of_ble_eq_true rfl)⟩ (fun r67 u67 hu67 => ?_)
            obtain ⟨rfl, rfl⟩ := hu67
            refine j_iload h dL_isClose_70 rfl ?_
            refine j_icmp_ge (tgt := 79) h dL_isClose_72 (by decide) (fun c72 => ?_) (fun c72 => ?_)
            · -- t
              refine j_iconst (v := 0) h dL_isClose_79 (by decide) ?_
              exact cut80 _ (by first | (rw [hcm _ rfl, bi_n0.mp c40]; rfl) | (rw [hcm false (ncT_x ((nI_eq (by omega) (by omega)).mp c46)), bi_0.mp c40]; rfl) | (rw [hcm false (ncT_s c59), bi_0.mp c40]; rfl) | (rw [hcm _ (ncT_v (fun z => c46 (by rw [z])) c59), bi_0.mp c40]; (first | rw [decide_eq_true c72] | rw [decide_eq_true (Int32.not_le.mp c72)] | rw [decide_eq_false c72] | rw [decide_eq_false (Int32.not_lt.mpr c72)]); rfl)) _ ⟨rfl, rfl, rfl, rfl, rfl, rfl, rfl, rfl, trivial⟩
            · -- f
              refine j_iconst (v := 1) h dL_isClose_75 (by decide) ?_
              refine j_goto (tgt := 80) h dL_isClose_76 (by decide) ?_
              exact cut80 _ (by first | (rw [hcm _ rfl, bi_n0.mp c40]; rfl) | (rw [hcm false (ncT_x ((nI_eq (by omega) (by omega)).mp c46)), bi_0.mp c40]; rfl) | (rw [hcm false (ncT_s c59), bi_0.mp c40]; rfl) | (rw [hcm _ (ncT_v (fun z => c46 (by rw [z])) c59), bi_0.mp c40]; (first | rw [decide_eq_true c72] | rw [decide_eq_true (Int32.not_le.mp c72)] | rw [decide_eq_false c72] | rw [decide_eq_false (Int32.not_lt.mpr c72)]); rfl)) _ ⟨rfl, rfl, rfl, rfl, rfl, rfl, rfl, rfl, trivial⟩
set_option maxHeartbeats 4000000 in
set_option maxRecDepth 100000 in
theorem c_L_load {l : Launch} {D : va_G} {cI cL cR : ClassId} {aJ : Nat → Nat} {ψ : St} {n : Nat} {x : Int32} (h7 : ψ 7 0 = nI n) (hn : n ≤ 8) : ctI l D vwCl (tyW cI cL cR) yL_load wsL_load { frames := 0, cells := 0, slots := 0, locals := 0 } [.ref (aJ 0), .ref (aJ 4), .int x] (wJ cI aJ ψ) (fun r u => r = ldS ψ x n ∧ u = wJ cI aJ ψ) 0 0 := by
  refine ctI_of (cc := cL_load) (maxL := 5) (ret := (some .int)) (by decide) rfl rfl (Nat.le_of_ble_eq_true rfl) (by simp [Value.category]) [(0, .ref (aJ 0)), (1, .ref (aJ 4)), (2, .int x)] rfl ?_
  intro p e s m args below meth c sz h hrt hlk hnm
  refine jj_ws (List.append_nil _).symm ?_
  refine j_iconst (v := 0) h dL_load_0 (by decide) ?_
  refine j_istore_n (i := 3) h dL_load_1 rfl (by decide) ?_
  refine j_iconst (v := 0) h dL_load_2 (by decide) ?_
  refine j_istore h dL_load_3 (by decide) ?_
  refine jj_loop (fun i : Nat => [(0, .ref (aJ 0)), (1, .ref (aJ 4)), (2, .int x), (3, .int (ldS ψ x i)), (4, .int (nI i))]) (fun i : Nat => wJ cI aJ ψ ++ []) (fun i : Nat => i ≤ n) (fun i : Nat => n - i) 0 ⟨rfl, rfl, rfl, rfl, rfl, trivial⟩ rfl (by omega) (fun i hi ihi => ?_)
  refine j_iload h dL_load_5 rfl ?_
  refine j_aload_nR h dL_load_7 rfl ?_
  refine j_iconst (v := 0) h dL_load_8 (by decide) ?_
  refine jm_ald0 h dL_load_9 ?_
  refine j_top h7 ?_
  refine j_icmp_ge (tgt := 75) h dL_load_10 (by decide) (fun c10 => ?_) (fun c10 => ?_)
  · -- t
    rw [nI_leI (by omega) (by omega)] at c10
    refine j_iload_n h dL_load_75 rfl ?_
    exact j_iret h hrt hlk dL_load_76 (by decide) (by decide) (⟨by rw [show i = n by omega], List.append_nil _⟩)
  · -- f
    rw [nI_leI (by omega) (by omega)] at c10
    refine j_iload_n h dL_load_13 rfl ?_
    refine j_aload_nR h dL_load_14 rfl ?_
    refine j_bipush (v := 8) h dL_load_15 (by decide) ?_
    refine j_iload h dL_load_17 rfl ?_
    refine j_imul h dL_load_19 ?_
    refine j_iconst (v := 5) h dL_load_20 (by decide) ?_
    refine j_iadd h dL_load_21 ?_
    refine jl_ald i 5 h dL_load_22 (ix8_5 _) (by decide) (by omega) ?_
    refine j_iload_n h dL_load_23 rfl ?_
    refine j_icmp_ne (tgt := 66) h dL_load_24 (by decide) (fun c24 => ?_) (fun c24 => ?_)
    · -- t
      refine j_iconst (v := 0) h dL_load_66 (by decide) ?_
      refine j_iadd h dL_load_67 ?_
      refine j_istore_n (i := 3) h dL_load_68 rfl (by decide) ?_
      refine j_iinc h dL_load_69 rfl rfl (by decide) ?_
      refine j_goto (tgt := 5) h dL_load_72 (by decide) ?_
      exact ihi (i + 1) (by omega) (by omega) _ ⟨rfl, rfl, rfl, by simp [lget, ldS, wt, *], by simp [lget, nI_succ], trivial⟩
    · -- f
      refine j_bipush (v := 20) h dL_load_27 (by decide) ?_
      refine j_aload_nR h dL_load_29 rfl ?_
      refine j_bipush (v := 8) h dL_load_30 (by decide) ?_
      refine j_iload h dL_load_32 rfl ?_
      refine j_imul h dL_load_34 ?_
      refine jl_ald i 0 h dL_load_35 (ix8_0 _) (by decide) (by omega) ?_
      refine j_imul h dL_load_36 ?_
      refine j_bipush (v := 30) h dL_load_37 (by decide) ?_
      refine j_aload_nR h dL_load_39 rfl ?_
      refine j_bipush (v := 8) h dL_load_40 (by decide) ?_
      refine j_iload h dL_load_42 rfl ?_
      refine j_imul h dL_load_44 ?_
      refine j_iconst (v := 1) h dL_load_45 (by decide) ?_
      refine j_iadd h dL_load_46 ?_
      refine jl_ald i 1 h dL_load_47 (ix8_1 _) (by decide) (by omega) ?_
      refine j_imul h dL_load_48 ?_
      refine j_iadd h dL_load_49 ?_
      refine j_bipush (v := 50) h dL_load_50 (by decide) ?_
      refine j_aload_nR h dL_load_52 rfl ?_
      refine j_bipush (v := 8) h dL_load_53 (by decide) ?_
      refine j_iload h dL_load_55 rfl ?_
      refine j_imul h dL_load_57 ?_
      refine j_iconst (v := 2) h dL_load_58 (by decide) ?_
      refine j_iadd h dL_load_59 ?_
      refine jl_ald i 2 h dL_load_60 (ix8_2 _) (by decide) (by omega) ?_
      refine j_imul h dL_load_61 ?_
      refine j_iadd h dL_load_62 ?_
      refine j_goto (tgt := 67) h dL_load_63 (by decide) ?_
      refine j_iadd h dL_load_67 ?_
      refine j_istore_n (i := 3) h dL_load_68 rfl (by decide) ?_
      refine j_iinc h dL_load_69 rfl rfl (by decide) ?_
      refine j_goto (tgt := 5) h dL_load_72 (by decide) ?_
      exact ihi (i + 1) (by omega) (by omega) _ ⟨rfl, rfl, rfl, by simp [lget, ldS, wt, *], by simp [lget, nI_succ], trivial⟩
set_option maxHeartbeats 4000000 in
set_option maxRecDepth 100000 in
theorem c_L_likeness {l : Launch} {D : va_G} {cI cL cR : ClassId} {aJ : Nat → Nat} {ψ : St} {n g0 : Nat} {x : Int32} (h7 : ψ 7 0 = nI n) (hn : n ≤ 8) (hg0 : g0 < 1024) (h6 : ∀ k, k < n → ψ 5 k = x → ψ 3 k = 1 → ∃ s, s < 10 ∧ ψ 6 k = nI s) : ctI l D vwCl (tyW cI cL cR) yL_likeness wsL_likeness { frames := 0, cells := 0, slots := 0, locals := 0 } [.ref (aJ 0), .ref (aJ 4), .int x, .int (nI g0)] (wJ cI aJ ψ) (fun r u => r = nI 10 - nI (pcN (rsJ ψ x g0 n)) ∧ u = wJ cI aJ ψ) 0 0 := by
  refine ctI_of (cc := cL_likeness) (maxL := 7) (ret := (some .int)) (by decide) rfl rfl (Nat.le_of_ble_eq_true rfl) (by simp [Value.category]) [(0, .ref (aJ 0)), (1, .ref (aJ 4)), (2, .int x), (3, .int (nI g0))] rfl ?_
  intro p e s m args below meth c sz h hrt hlk hnm
  refine jj_ws (List.append_nil _).symm ?_
  have hrs : ∀ i, i ≤ n → rsJ ψ x g0 i < 1024 := fun i _ => rsJ_lt ψ x hg0 i
  refine j_bipush (v := 10) h dL_likeness_0 (by decide) ?_
  refine j_istore h dL_likeness_2 (by decide) ?_
  refine j_iload_n h dL_likeness_4 rfl ?_
  refine j_istore h dL_likeness_5 (by decide) ?_
  refine j_iconst (v := 0) h dL_likeness_7 (by decide) ?_
  refine j_istore h dL_likeness_8 (by decide) ?_
  refine jj_loop (fun i : Nat => [(0, .ref (aJ 0)), (1, .ref (aJ 4)), (2, .int x), (3, .int (nI g0)), (4, .int (nI 10)), (5, .int (nI (rsJ ψ x g0 i))), (6, .int (nI i))]) (fun i : Nat => wJ cI aJ ψ ++ []) (fun i : Nat => i ≤ n) (fun i : Nat => n - i) 0 ⟨rfl, rfl, rfl, rfl, rfl, rfl, rfl, trivial⟩ rfl (by omega) (fun i hi ihi => ?_)
  refine j_iload h dL_likeness_10 rfl ?_
  refine j_aload_nR h dL_likeness_12 rfl ?_
  refine j_iconst (v := 0) h dL_likeness_13 (by decide) ?_
  refine jm_ald0 h dL_likeness_14 ?_
  refine j_top h7 ?_
  refine j_icmp_ge (tgt := 71) h dL_likeness_15 (by decide) (fun c15 => ?_) (fun c15 => ?_)
  · -- t
    rw [nI_leI (by omega) (by omega)] at c15
    obtain rfl : n = i := by omega
    refine j_iload h dL_likeness_71 rfl ?_
    refine j_istore h dL_likeness_73 (by decide) ?_
    refine jj_loop (fun y : Nat => [(4, .int (nI 10 - nI (pcN (rsJ ψ x g0 n)) + nI (pcN y))), (6, .int (nI y))]) (fun y : Nat => wJ cI aJ ψ ++ []) (fun y : Nat => y < 1024) (fun y : Nat => y) (rsJ ψ x g0 n) ⟨by show some (Value.int _) = _; rw [Int32.sub_add_cancel], rfl, trivial⟩ rfl (hrs n (Nat.le_refl n)) (fun y hy ihy => ?_)
    refine j_iload h dL_likeness_75 rfl ?_
    refine j_if_eq (tgt := 95) h dL_likeness_77 (by decide) (fun c77 => ?_) (fun c77 => ?_)
    · -- t
      have hy0 : y = 0 := (nI_eq (by omega) (by omega)).mp (c77.trans rfl)
      subst hy0
      refine j_iload h dL_likeness_95 rfl ?_
      exact j_iret h hrt hlk dL_likeness_97 (by decide) (by decide) (⟨by rw [show nI (pcN 0) = 0 from rfl, Int32.add_zero], List.append_nil _⟩)
    · -- f
      have hy0 : y ≠ 0 := fun z => c77 (by rw [z]; rfl)
      refine j_iinc h dL_likeness_80 rfl rfl (by decide) ?_
      refine j_iload h dL_likeness_83 rfl ?_
      refine j_iload h dL_likeness_85 rfl ?_
      refine j_iconst (v := 1) h dL_likeness_87 (by decide) ?_
      refine j_isub h dL_likeness_88 ?_
      refine j_iand h dL_likeness_89 ?_
      refine j_istore h dL_likeness_90 (by decide) ?_
      refine j_goto (tgt := 75) h dL_likeness_92 (by decide) ?_
      obtain ⟨k1, k2, k3⟩ := kern y hy hy0
      exact ihy (y &&& (y - 1)) (by omega) k2 _ ⟨by show some (Value.int _) = _; rw [k3]; exact congrArg (fun z => some (Value.int z)) (incm2 _ _), by show some (Value.int _) = _; rw [k1], trivial⟩
  · -- f
    rw [nI_leI (by omega) (by omega)] at c15
    refine j_iload h dL_likeness_18 rfl ?_
    refine j_aload_nR h dL_likeness_20 rfl ?_
    refine j_bipush (v := 8) h dL_likeness_21 (by decide) ?_
    refine j_iload h dL_likeness_23 rfl ?_
    refine j_imul h dL_likeness_25 ?_
    refine j_iconst (v := 5) h dL_likeness_26 (by decide) ?_
    refine j_iadd h dL_likeness_27 ?_
    refine jl_ald i 5 h dL_likeness_28 (ix8_5 _) (by decide) (by omega) ?_
    refine j_iload_n h dL_likeness_29 rfl ?_
    refine j_icmp_ne (tgt := 61) h dL_likeness_30 (by decide) (fun c30 => ?_) (fun c30 => ?_)
    · -- t
      refine j_iconst (v := 0) h dL_likeness_61 (by decide) ?_
      refine j_ixor h dL_likeness_62 ?_
      refine j_istore h dL_likeness_63 (by decide) ?_
      refine j_iinc h dL_likeness_65 rfl rfl (by decide) ?_
      refine j_goto (tgt := 10) h dL_likeness_68 (by decide) ?_
      have c43 : True := trivial
      exact ihi (i + 1) (by omega) (by omega) _ ⟨rfl, rfl, rfl, rfl, rfl, by first | (show some (Value.int _) = _; rw [rsJ_y ψ g0 ⟨c30, c43⟩ (h6 i (by omega) c30 c43)]; done) | (show some (Value.int _) = _; rw [rsJ_n g0 (fun z => c30 z.1), Int32.xor_zero]; done) | (show some (Value.int _) = _; rw [rsJ_n g0 (fun z => c43 z.2), Int32.xor_zero]; done), by simp [lget, nI_succ], trivial⟩
    · -- f
      refine j_aload_nR h dL_likeness_33 rfl ?_
      refine j_bipush (v := 8) h dL_likeness_34 (by decide) ?_
      refine j_iload h dL_likeness_36 rfl ?_
      refine j_imul h dL_likeness_38 ?_
      refine j_iconst (v := 3) h dL_likeness_39 (by decide) ?_
      refine j_iadd h dL_likeness_40 ?_
      refine jl_ald i 3 h dL_likeness_41 (ix8_3 _) (by decide) (by omega) ?_
      refine j_iconst (v := 1) h dL_likeness_42 (by decide) ?_
      refine j_icmp_ne (tgt := 61) h dL_likeness_43 (by decide) (fun c43 => ?_) (fun c43 => ?_)
      · -- t
        refine j_iconst (v := 0) h dL_likeness_61 (by decide) ?_
        refine j_ixor h dL_likeness_62 ?_
        refine j_istore h dL_likeness_63 (by decide) ?_
        refine j_iinc h dL_likeness_65 rfl rfl (by decide) ?_
        refine j_goto (tgt := 10) h dL_likeness_68 (by decide) ?_
        exact ihi (i + 1) (by omega) (by omega) _ ⟨rfl, rfl, rfl, rfl, rfl, by first | (show some (Value.int _) = _; rw [rsJ_y ψ g0 ⟨c30, c43⟩ (h6 i (by omega) c30 c43)]; done) | (show some (Value.int _) = _; rw [rsJ_n g0 (fun z => c30 z.1), Int32.xor_zero]; done) | (show some (Value.int _) = _; rw [rsJ_n g0 (fun z => c43 z.2), Int32.xor_zero]; done), by simp [lget, nI_succ], trivial⟩
      · -- f
        refine j_iconst (v := 1) h dL_likeness_46 (by decide) ?_
        refine j_aload_nR h dL_likeness_47 rfl ?_
        refine j_bipush (v := 8) h dL_likeness_48 (by decide) ?_
        refine j_iload h dL_likeness_50 rfl ?_
        refine j_imul h dL_likeness_52 ?_
        refine j_bipush (v := 6) h dL_likeness_53 (by decide) ?_
        refine j_iadd h dL_likeness_55 ?_
        refine jl_ald i 6 h dL_likeness_56 (ix8_6 _) (by decide) (by omega) ?_
        refine j_ishl h dL_likeness_57 ?_
        refine j_goto (tgt := 62) h dL_likeness_58 (by decide) ?_
        refine j_ixor h dL_likeness_62 ?_
        refine j_istore h dL_likeness_63 (by decide) ?_
        refine j_iinc h dL_likeness_65 rfl rfl (by decide) ?_
        refine j_goto (tgt := 10) h dL_likeness_68 (by decide) ?_
        exact ihi (i + 1) (by omega) (by omega) _ ⟨rfl, rfl, rfl, rfl, rfl, by first | (show some (Value.int _) = _; rw [rsJ_y ψ g0 ⟨c30, c43⟩ (h6 i (by omega) c30 c43)]; done) | (show some (Value.int _) = _; rw [rsJ_n g0 (fun z => c30 z.1), Int32.xor_zero]; done) | (show some (Value.int _) = _; rw [rsJ_n g0 (fun z => c43 z.2), Int32.xor_zero]; done), by simp [lget, nI_succ], trivial⟩
