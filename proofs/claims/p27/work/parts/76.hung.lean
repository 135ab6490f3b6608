section HUNG
variable {n b q d tm : Nat} {φ ψ : St} {C : List Nat}
theorem J_hang_T (I : IV n b q tm φ C) (R : Jr n b q d φ ψ) {a r s1 : Nat} (ha : a < n) (hr : r < b) (hs : s1 < 10) : cHang φ (nI a) (nI r) (nI s1) = if tkB ψ (nI r) (nI s1) n = true then 2 else if decide (ψ 5 a < 0 ∧ ψ 10 r < 2 ∧ ldS ψ (nI r) n + 20 * ψ 0 a + 30 * ψ 1 a + 50 * ψ 2 a ≤ ψ 9 r) = true then 0 else 3 := by
  have hb := I.x.2.1
  have hn := I.x.1
  have sl : slF n b φ := fun r s hr hs => I.x.sl r s hr hs
  have e1 : tkB ψ (nI r) (nI s1) n = !decide (φ (30 + r) s1 = -1) := by rw [← tkB_ov φ, ← R.r.tk r (by omega) _ (Nat.le_refl n), tk_iff sl I.sc hb hn hr hs]
  have e2 : decide (ψ 5 a < 0 ∧ ψ 10 r < 2 ∧ ldS ψ (nI r) n + 20 * ψ 0 a + 30 * ψ 1 a + 50 * ψ 2 a ≤ ψ 9 r) = (decide (φ 5 a = -1) && decide (φ 10 r ≠ 2) && decide (wtS φ r 10 + wt φ a ≤ φ 9 r)) := by
    rw [J_load I R hr, ← R.f (j := 9) (by decide) hr, ← R.f (j := 10) (by decide) hr, ← R.l (j := 0) (by decide) ha, ← R.l (j := 1) (by decide) ha, ← R.l (j := 2) (by decide) ha, ← R.l (j := 5) (by decide) ha]
    have a1 : φ 5 a < 0 ↔ φ 5 a = -1 := by
      rcases I.x.h a ha with e | ⟨r2, hr2, e⟩
      · rw [e]; exact ⟨fun _ => rfl, fun _ => by decide⟩
      · rw [e]; exact ⟨fun z => absurd z (nI_pos (by omega)), fun z => absurd z (nI_nm1 (by omega))⟩
    have a2 : φ 10 r < 2 ↔ φ 10 r ≠ 2 := by
      rcases I.lc.2.1 r hr with e | e | e <;> rw [e] <;> decide
    have a3 : wtS φ r 10 + 20 * φ 0 a + 30 * φ 1 a + 50 * φ 2 a = wtS φ r 10 + wt φ a := by
      unfold wt
      rw [Int32.add_assoc, Int32.add_assoc, Int32.add_assoc]
    rw [a3, Bool.eq_iff_iff, Bool.and_eq_true, Bool.and_eq_true, decide_eq_true_eq, decide_eq_true_eq, decide_eq_true_eq, decide_eq_true_eq, a1, a2]
    exact ⟨fun z => ⟨⟨z.1, z.2.1⟩, z.2.2⟩, fun z => ⟨z.1.1, z.1.2, z.2⟩⟩
  have i9 : inB (nI s1) 0 9 = true := ix_inB (n := 10) (by decide) hs
  unfold cHang
  rw [nI_clamp (show a < 2 ^ 31 by omega), nI_clamp (show r < 2 ^ 31 by omega), nI_clamp (show s1 < 2 ^ 31 by omega), e2, e1, isLz9 I ha, isFz9 I hr, i9]
  cases decide (φ (30 + r) s1 = -1) <;> cases (decide (φ 5 a = -1) && decide (φ 10 r ≠ 2) && decide (wtS φ r 10 + wt φ a ≤ φ 9 r)) <;> rfl
theorem J_hang_ok (I : IV n b q tm φ C) {a r s1 : Nat} (hT : cHang φ (nI a) (nI r) (nI s1) = 0) (ha : a < n) (hr : r < b) (hs : s1 < 10) : φ 5 a = -1 ∧ φ (30 + r) s1 = -1 := by
  have hb := I.x.2.1
  have hn := I.x.1
  obtain ⟨-, z2, z3⟩ := gl_iff.mp hT
  rw [nI_clamp (by omega), nI_clamp (by omega)] at z2
  rw [nI_clamp (by omega), Bool.and_eq_true, Bool.and_eq_true] at z3
  exact ⟨of_decide_eq_true z3.1.1, of_decide_eq_true z2⟩
theorem J_take_T (I : IV n b q tm φ C) {a : Nat} (ha : a < n) : tTake φ (nI a) = if φ 5 a = -1 then 2 else 0 := by
  have hn := I.x.1
  unfold tTake
  rw [isLz9 I ha, nI_clamp (by omega)]
  by_cases c : φ 5 a = -1
  · rw [if_pos c, decide_eq_false (fun z => z c)]; rfl
  · rw [if_neg c, decide_eq_true c]; rfl
theorem J_put_T (I : IV n b q tm φ C) {a : Nat} (ha : a < n) : tPutOut φ (nI a) = if φ 3 a = 1 then 0 else 2 := by
  have hn := I.x.1
  unfold tPutOut
  rw [isLz9 I ha, nI_clamp (by omega)]
  by_cases c : φ 3 a = 1
  · rw [if_pos c, decide_eq_true c]; rfl
  · rw [if_neg c, decide_eq_false c]; rfl
theorem J_light_T (I : IV n b q tm φ C) {a : Nat} (ha : a < n) : tLight φ n (nI a) = if hpB φ a = true ∧ φ 3 a = 0 ∧ nearB φ a n = false then 0 else 2 := by
  have hn := I.x.1
  unfold tLight
  rw [isLz9 I ha, nI_clamp (by omega)]
  by_cases c : φ 3 a = 0
  · rw [decide_eq_true c]
    cases hpB φ a <;> cases nearB φ a n <;> simp [c] <;> decide
  · rw [decide_eq_false c, if_neg (fun z => c z.2.1)]
    cases hpB φ a <;> cases nearB φ a n <;> rfl
end HUNG
set_option maxHeartbeats 8000000 in
set_option maxRecDepth 100000 in
theorem c_L_isHung {l : Launch} {D : va_G} {cI cL cR : ClassId} (hl : l.stackTraces = false) {aJ ad : Nat → Nat} {φ ψ : St} {C : List Nat} {n b q d tm wy z : Nat} (I : IV n b q tm φ C) (R : Jr n b q d φ ψ) (hn1 : 1 ≤ n) (hb1 : 1 ≤ b) (hz : z < 2 ^ 30) : ctL l D vwCl (tyW cI cL cR) yL_isHung wsL_isHung { frames := 9, cells := 3, slots := 18, locals := 153 } [.ref (ad 0), .ref (aJ 0), .ref (aJ 1), .ref (aJ 4), .int (nI wy), .int (nI z)] (wJ cI aJ ψ ++ wX cI cL cR ad C φ) (fun v u => v = 1 ∧ ∃ φ' ψ', IV n b q tm φ' C ∧ Jr n b q d φ' ψ' ∧ u = wJ cI aJ ψ' ++ wX cI cL cR ad C φ') 3 18 := by
  refine ctN_of (cc := cL_isHung) (maxL := 12) (ret := (some .boolean)) (by decide) rfl rfl (Nat.le_of_ble_eq_true rfl) (by simp [Value.category]) [(0, .ref (ad 0)), (1, .ref (aJ 0)), (2, .ref (aJ 1)), (3, .ref (aJ 4)), (4, .int (nI wy)), (5, .int (nI z))] rfl ?_
  intro p e s m args below meth c sz h hrt hlk hnc
  have hn8 := R.n8
  have hb5 := R.b5
  have hdq := R.dq
  refine j_iload h dL_isHung_0 rfl ?_
  refine j_aload_nR h dL_isHung_2 rfl ?_
  refine j_iconst (v := 0) h dL_isHung_3 (by decide) ?_
  refine jm_ald0 h dL_isHung_4 ?_
  refine j_top (R.h7 I) ?_
  refine j_iremN (a := z) (d := n) h dL_isHung_5 rfl rfl (by omega) (by omega) (by omega) ?_
  refine j_istore h dL_isHung_6 (by decide) ?_
  refine j_bipush (v := 8) h dL_isHung_8 (by decide) ?_
  refine j_iload h dL_isHung_10 rfl ?_
  refine j_imul h dL_isHung_12 ?_
  refine j_istore h dL_isHung_13 (by decide) ?_
  refine j_iload h dL_isHung_15 rfl ?_
  refine j_bipush (v := 8) h dL_isHung_17 (by decide) ?_
  refine j_idivN (a := z) (d := 8) h dL_isHung_19 rfl rfl (by omega) (by omega) (by omega) ?_
  refine j_aload_nR h dL_isHung_20 rfl ?_
  refine j_iconst (v := 1) h dL_isHung_21 (by decide) ?_
  refine jm_ald1 h dL_isHung_22 ?_
  refine j_top (R.h14 I) ?_
  refine j_iremN (a := (z / 8)) (d := b) h dL_isHung_23 rfl rfl (by omega) (by omega) (by omega) ?_
  refine j_istore h dL_isHung_24 (by decide) ?_
  refine j_iload h dL_isHung_26 rfl ?_
  refine j_bipush (v := 64) h dL_isHung_28 (by decide) ?_
  refine j_idivN (a := z) (d := 64) h dL_isHung_30 rfl rfl (by omega) (by omega) (by omega) ?_
  refine j_bipush (v := 10) h dL_isHung_31 (by decide) ?_
  refine j_iremN (a := (z / 64)) (d := 10) h dL_isHung_33 rfl rfl (by omega) (by omega) (by omega) ?_
  refine j_istore h dL_isHung_34 (by decide) ?_
  obtain ⟨a, ea⟩ : ∃ a, a = z % n := ⟨_, rfl⟩
  obtain ⟨r, er⟩ : ∃ r, r = z / 8 % b := ⟨_, rfl⟩
  obtain ⟨s1, es⟩ : ∃ s1, s1 = z / 64 % 10 := ⟨_, rfl⟩
  have ha : a < n := by rw [ea]; exact Nat.mod_lt _ (by omega)
  have hr : r < b := by rw [er]; exact Nat.mod_lt _ (by omega)
  have hs : s1 < 10 := by rw [es]; exact Nat.mod_lt _ (by decide)
  rw [← ea, ← er, ← es]
  have hTT := J_hang_T I R ha hr hs
  refine jj_to (l1 := [(0, .ref (ad 0)), (1, .ref (aJ 0)), (2, .ref (aJ 1)), (3, .ref (aJ 4)), (4, .int (nI wy)), (5, .int (nI z)), (6, .int (nI a)), (7, .int (8 * nI a)), (8, .int (nI r)), (9, .int (nI s1))]) ?_ ⟨rfl, rfl, rfl, rfl, rfl, rfl, rfl, rfl, rfl, rfl, trivial⟩
  refine j_iload h dL_isHung_36 rfl ?_
  refine j_iconst (v := 5) h dL_isHung_38 (by decide) ?_
  refine j_icmp_ge (tgt := 250) h dL_isHung_39 (by decide) (fun c39 => ?_) (fun c39 => ?_)
  · -- t
    refine j_iload h dL_isHung_250 rfl ?_
    refine j_iconst (v := 5) h dL_isHung_252 (by decide) ?_
    refine j_icmp_ne (tgt := 329) h dL_isHung_253 (by decide) (fun c253 => ?_) (fun c253 => ?_)
    · -- t
      refine jj_joinP 412 [(0, .ref (ad 0)), (1, .ref (aJ 0)), (2, .ref (aJ 1)), (3, .ref (aJ 4)), (4, .int (nI wy)), (5, .int (nI z)), (6, .int (nI a)), (7, .int (8 * nI a)), (8, .int (nI r)), (9, .int (nI s1))] (True) (fun hj412 => ?_) (fun cut412 => ?_)
      · -- behind
        refine jj_cut 450 [(0, .ref (ad 0)), (1, .ref (aJ 0)), (2, .ref (aJ 1)), (3, .ref (aJ 4)), (4, .int (nI wy)), (5, .int (nI z)), (6, .int (nI a)), (7, .int (8 * nI a)), (8, .int (nI r)), (9, .int (nI s1))] [] (fun v => v = bi (decide (hpB φ a = true ∧ φ 3 a = 0 ∧ nearB φ a n = false))) (fun v450 hv450 => ?_) (fun cut450 => ?_)
        · -- behind
          obtain rfl := hv450
          rcases Bool.eq_false_or_eq_true (decide (hpB φ a = true ∧ φ 3 a = 0 ∧ nearB φ a n = false)) with hb450 | hb450
          · -- t
            refine j_top (y := 1) (by rw [hb450]; rfl) ?_
            refine j_istore h dL_isHung_450 (by decide) ?_
            refine j_aload_nR h dL_isHung_452 rfl ?_
            refine j_iload h dL_isHung_453 rfl ?_
            refine j_iconst (v := 3) h dL_isHung_455 (by decide) ?_
            refine j_iadd h dL_isHung_456 ?_
            refine j_iload h dL_isHung_457 rfl ?_
            refine j_if_eq (tgt := 466) h dL_isHung_459 (by decide) (fun c459 => absurd c459 (by decide)) (fun c459 => ?_)
            refine j_iconst (v := 1) h dL_isHung_462 (by decide) ?_
            refine j_goto (tgt := 472) h dL_isHung_463 (by decide) ?_
            refine jl_ast a 3 h dL_isHung_472 (ix8_3 _) (by decide) (by omega) ?_
            refine j_aload_nR h dL_isHung_473 rfl ?_
            refine j_iload h dL_isHung_474 rfl ?_
            obtain ⟨k1, k2, k3⟩ := of_decide_eq_true hb450
            have hT : tLight φ n (nI a) = 0 := by rw [J_light_T I ha, if_pos ⟨k1, k2, k3⟩]
            refine j_callLF (wr := wJ cI aJ (up2 ψ 3 a 1)) (wc := wX cI cL cR ad C φ) h hnc dL_isHung_476 (c_L_kindled hl I.x I.lp (plN_of I) (by rw [hT]; decide)) (vx_cwSW 2 h.2.2.2.2.1 gL_isHung_L_kindled rfl rfl rfl (by decide +kernel) ⟨(Nat.le_of_ble_eq_true rfl), (Nat.le_of_ble_eq_true rfl)⟩) rfl rfl (Nat.le_of_ble_eq_true rfl) ⟨(Nat.le_of_ble_eq_true rfl), (Nat.le_of_ble_eq_true rfl)⟩ (fun r9 u9 hu9 => ?_)
            obtain ⟨rfl, rfl⟩ : r9 = φ 4 a ∧ u9 = wX cI cL cR ad C (up2 φ 3 a 1) := by
              rcases hu9 with ⟨h1, h2, h3⟩ | ⟨h2, h3, h4⟩
              · exact absurd (hT.symm.trans h2) (by decide)
              · rw [nI_clamp (show a < 2 ^ 31 by omega)] at h3 h4
                exact ⟨h3, h4⟩
            refine j_iload h dL_isHung_479 rfl ?_
            refine j_if_eq (tgt := 493) h dL_isHung_481 (by decide) (fun c481 => absurd c481 (by decide)) (fun c481 => ?_)
            refine j_aload_nR h dL_isHung_484 rfl ?_
            refine j_iload h dL_isHung_485 rfl ?_
            refine j_iconst (v := 4) h dL_isHung_487 (by decide) ?_
            refine j_iadd h dL_isHung_488 ?_
            refine jl_ald a 4 h dL_isHung_489 (ix8_4 _) (by decide) (by omega) ?_
            refine j_goto (tgt := 495) h dL_isHung_490 (by decide) ?_
            refine j_icmp_ne (tgt := 502) h dL_isHung_495 (by decide) (fun c495 => absurd (show φ 4 a = up2 ψ 3 a 1 4 a from R.l (j := 4) (by decide) ha) c495) (fun c495 => ?_)
            refine j_iconst (v := 1) h dL_isHung_498 (by decide) ?_
            refine j_goto (tgt := 503) h dL_isHung_499 (by decide) ?_
            exact j_zret h hrt hlk dL_isHung_503 (Or.inr rfl) (by decide) (by decide) (⟨rfl, up2 φ 3 a 1, _, I.lit k2 k1, R.up (by decide) a 1, rfl⟩)
          · -- f
            refine j_top (y := 0) (by rw [hb450]; rfl) ?_
            refine j_istore h dL_isHung_450 (by decide) ?_
            refine j_aload_nR h dL_isHung_452 rfl ?_
            refine j_iload h dL_isHung_453 rfl ?_
            refine j_iconst (v := 3) h dL_isHung_455 (by decide) ?_
            refine j_iadd h dL_isHung_456 ?_
            refine j_iload h dL_isHung_457 rfl ?_
            refine j_if_eq (tgt := 466) h dL_isHung_459 (by decide) (fun c459 => ?_) (fun c459 => absurd c459 (by decide))
            refine j_aload_nR h dL_isHung_466 rfl ?_
            refine j_iload h dL_isHung_467 rfl ?_
            refine j_iconst (v := 3) h dL_isHung_469 (by decide) ?_
            refine j_iadd h dL_isHung_470 ?_
            refine jl_ald a 3 h dL_isHung_471 (ix8_3 _) (by decide) (by omega) ?_
            refine jl_ast a 3 h dL_isHung_472 (ix8_3 _) (by decide) (by omega) ?_
            refine j_aload_nR h dL_isHung_473 rfl ?_
            refine j_iload h dL_isHung_474 rfl ?_
            have hT : tLight φ n (nI a) = 2 := by rw [J_light_T I ha, if_neg (of_decide_eq_false hb450)]
            refine jj_ws (ws1 := wJ cI aJ ψ ++ wX cI cL cR ad C φ) (by rw [up2_id]) ?_
            refine j_callLF (wr := wJ cI aJ ψ) (wc := wX cI cL cR ad C φ) h hnc dL_isHung_476 (c_L_kindled hl I.x I.lp (plN_of I) (by rw [hT]; decide)) (vx_cwSW 2 h.2.2.2.2.1 gL_isHung_L_kindled rfl rfl rfl (by decide +kernel) ⟨(Nat.le_of_ble_eq_true rfl), (Nat.le_of_ble_eq_true rfl)⟩) rfl rfl (Nat.le_of_ble_eq_true rfl) ⟨(Nat.le_of_ble_eq_true rfl), (Nat.le_of_ble_eq_true rfl)⟩ (fun r9 u9 hu9 => ?_)
            obtain ⟨rfl, rfl⟩ : r9 = -2 ∧ u9 = wX cI cL cR ad C φ := by
              rcases hu9 with ⟨h1, h2, h3⟩ | ⟨h2, h3, h4⟩
              · exact ⟨h1, h3⟩
              · exact absurd (hT.symm.trans h2) (by decide)
            refine j_iload h dL_isHung_479 rfl ?_
            refine j_if_eq (tgt := 493) h dL_isHung_481 (by decide) (fun c481 => ?_) (fun c481 => absurd c481 (by decide))
            refine j_bipush (v := (-2)) h dL_isHung_493 (by decide) ?_
            refine j_icmp_ne (tgt := 502) h dL_isHung_495 (by decide) (fun c495 => absurd c495 (by decide)) (fun c495 => ?_)
            refine j_iconst (v := 1) h dL_isHung_498 (by decide) ?_
            refine j_goto (tgt := 503) h dL_isHung_499 (by decide) ?_
            exact j_zret h hrt hlk dL_isHung_503 (Or.inr rfl) (by decide) (by decide) (⟨rfl, φ, ψ, I, R, rfl⟩)
        · -- ahead
          refine j_aload_nR h dL_isHung_412 rfl ?_
          refine j_aload_nR h dL_isHung_413 rfl ?_
          refine j_iload h dL_isHung_414 rfl ?_
          refine j_callFI (wc := wJ cI aJ _) h dL_isHung_416 (c_L_place (a := a) (by omega) (R.h5 I a ha)) (va_cwS 3 h.2.2.2.2.1 gL_isHung_L_place rfl rfl rfl (by decide +kernel) ⟨(Nat.le_of_ble_eq_true rfl), (Nat.le_of_ble_eq_true rfl)⟩) rfl rfl (Nat.le_of_ble_eq_true rfl) ⟨(Nat.le_of_ble_eq_true rfl), (Nat.le_of_ble_eq_true rfl)⟩ (fun r416 u416 hu416 => ?_)
          obtain ⟨rfl, rfl⟩ := hu416
          refine j_if_lt (tgt := 449) h dL_isHung_419 (by decide) (fun c419 => ?_) (fun c419 => ?_)
          · -- t
            refine j_iconst (v := 0) h dL_isHung_449 (by decide) ?_
            exact cut450 _ (by rw [decide_eq_false (fun y => plJ_nn I R ha y.1 c419)]; rfl) _ ⟨rfl, rfl, rfl, rfl, rfl, rfl, rfl, rfl, rfl, rfl, trivial⟩
          · -- f
            refine j_aload_nR h dL_isHung_422 rfl ?_
            refine j_iload h dL_isHung_423 rfl ?_
            refine j_iconst (v := 3) h dL_isHung_425 (by decide) ?_
            refine j_iadd h dL_isHung_426 ?_
            refine jl_ald a 3 h dL_isHung_427 (ix8_3 _) (by decide) (by omega) ?_
            refine j_if_ne (tgt := 449) h dL_isHung_428 (by decide) (fun c428 => ?_) (fun c428 => ?_)
            · -- t
              refine j_iconst (v := 0) h dL_isHung_449 (by decide) ?_
              exact cut450 _ (by rw [decide_eq_false (fun y => c428 ((R.l (j := 3) (by decide) ha).symm.trans y.2.1))]; rfl) _ ⟨rfl, rfl, rfl, rfl, rfl, rfl, rfl, rfl, rfl, rfl, trivial⟩
            · -- f
              refine j_aload_nR h dL_isHung_431 rfl ?_
              refine j_aload_nR h dL_isHung_432 rfl ?_
              refine j_aload_nR h dL_isHung_433 rfl ?_
              refine j_iload h dL_isHung_434 rfl ?_
              refine j_aload_nR h dL_isHung_436 rfl ?_
              refine j_iconst (v := 0) h dL_isHung_437 (by decide) ?_
              refine jm_ald0 h dL_isHung_438 ?_
              refine j_top (R.h7 I) ?_
              refine j_callFI (wc := wJ cI aJ _) h dL_isHung_439 (c_L_isClose (n := n) (x := a) (B := n) R.n8 ha (Nat.le_refl n) (R.h5 I)) (va_cwS 5 h.2.2.2.2.1 gL_isHung_L_isClose rfl rfl rfl (by decide +kernel) ⟨(Nat.le_of_ble_eq_true rfl), (Nat.le_of_ble_eq_true rfl)⟩) rfl rfl (Nat.le_of_ble_eq_true rfl) ⟨(Nat.le_of_ble_eq_true rfl), (Nat.le_of_ble_eq_true rfl)⟩ (fun r439 u439 hu439 => ?_)
              obtain ⟨rfl, rfl⟩ := hu439
              refine j_if_ne (tgt := 449) h dL_isHung_442 (by decide) (fun c442 => ?_) (fun c442 => ?_)
              · -- t
                refine j_iconst (v := 0) h dL_isHung_449 (by decide) ?_
                exact cut450 _ (by rw [decide_eq_false (fun y => c442 (by rw [J_near I R ha y.1 (Nat.le_refl n), y.2.2]; rfl))]; rfl) _ ⟨rfl, rfl, rfl, rfl, rfl, rfl, rfl, rfl, rfl, rfl, trivial⟩
              · -- f
                refine j_iconst (v := 1) h dL_isHung_445 (by decide) ?_
                refine j_goto (tgt := 450) h dL_isHung_446 (by decide) ?_
                exact cut450 _ (by rw [decide_eq_true ⟨plJ_ge R I ha c419, (R.l (j := 3) (by decide) ha).trans c428, by rw [← J_near I R ha (plJ_ge R I ha c419) (Nat.le_refl n)]; exact bi_0.mp c442⟩]; rfl) _ ⟨rfl, rfl, rfl, rfl, rfl, rfl, rfl, rfl, rfl, rfl, trivial⟩
      · -- ahead
        refine j_iload h dL_isHung_329 rfl ?_
        refine j_bipush (v := 6) h dL_isHung_331 (by decide) ?_
        refine j_icmp_ne (tgt := 412) h dL_isHung_333 (by decide) (fun c333 => ?_) (fun c333 => ?_)
        · -- t
          exact cut412 trivial _ ⟨rfl, rfl, rfl, rfl, rfl, rfl, rfl, rfl, rfl, rfl, trivial⟩
        · -- f
          refine j_iload h dL_isHung_336 rfl ?_
          refine j_iconst (v := 3) h dL_isHung_338 (by decide) ?_
          refine j_iremN (a := z) (d := 3) h dL_isHung_339 rfl rfl (by omega) (by omega) (by omega) ?_
          refine j_if_ne (tgt := 412) h dL_isHung_340 (by decide) (fun c340 => ?_) (fun c340 => ?_)
          · -- t
            exact cut412 trivial _ ⟨rfl, rfl, rfl, rfl, rfl, rfl, rfl, rfl, rfl, rfl, trivial⟩
          · -- f
            refine jj_cut 358 [(0, .ref (ad 0)), (1, .ref (aJ 0)), (2, .ref (aJ 1)), (3, .ref (aJ 4)), (4, .int (nI wy)), (5, .int (nI z)), (6, .int (nI a)), (7, .int (8 * nI a)), (8, .int (nI r)), (9, .int (nI s1))] [] (fun v => v = bi (decide (ψ 3 a = 1))) (fun v358 hv358 => ?_) (fun cut358 => ?_)
            · -- behind
              obtain rfl := hv358
              rcases Bool.eq_false_or_eq_true (decide (ψ 3 a = 1)) with hb358 | hb358
              · -- t
                refine j_top (y := 1) (by rw [hb358]; rfl) ?_
                refine j_istore h dL_isHung_358 (by decide) ?_
                refine j_aload_nR h dL_isHung_360 rfl ?_
                refine j_iload h dL_isHung_361 rfl ?_
                refine j_iconst (v := 3) h dL_isHung_363 (by decide) ?_
                refine j_iadd h dL_isHung_364 ?_
                refine j_iload h dL_isHung_365 rfl ?_
                refine j_if_eq (tgt := 374) h dL_isHung_367 (by decide) (fun c367 => absurd c367 (by decide)) (fun c367 => ?_)
                refine j_iconst (v := 0) h dL_isHung_370 (by decide) ?_
                refine j_goto (tgt := 380) h dL_isHung_371 (by decide) ?_
                refine jl_ast a 3 h dL_isHung_380 (ix8_3 _) (by decide) (by omega) ?_
                refine j_aload_nR h dL_isHung_381 rfl ?_
                refine j_iload h dL_isHung_382 rfl ?_
                have e3 : φ 3 a = 1 := (R.l (j := 3) (by decide) ha).trans (of_decide_eq_true hb358)
                have hT : tPutOut φ (nI a) = 0 := by rw [J_put_T I ha, if_pos e3]
                refine j_callLF (wr := wJ cI aJ (up2 ψ 3 a 0)) (wc := wX cI cL cR ad C φ) h hnc dL_isHung_384 (c_L_putOut hl I.x I.st (by rw [hT]; decide)) (vx_cwSW 2 h.2.2.2.2.1 gL_isHung_L_putOut rfl rfl rfl (by decide +kernel) ⟨(Nat.le_of_ble_eq_true rfl), (Nat.le_of_ble_eq_true rfl)⟩) rfl rfl (Nat.le_of_ble_eq_true rfl) ⟨(Nat.le_of_ble_eq_true rfl), (Nat.le_of_ble_eq_true rfl)⟩ (fun r9 u9 hu9 => ?_)
                obtain ⟨rfl, rfl⟩ : r9 = φ 4 a ∧ u9 = wX cI cL cR ad C (up2 φ 3 a 0) := by
                  rcases hu9 with ⟨h1, h2, h3⟩ | ⟨h2, h3, h4⟩
                  · exact absurd (hT.symm.trans h2) (by decide)
                  · rw [nI_clamp (show a < 2 ^ 31 by omega)] at h3 h4
                    exact ⟨h3, h4⟩
                refine j_iload h dL_isHung_387 rfl ?_
                refine j_if_eq (tgt := 401) h dL_isHung_389 (by decide) (fun c389 => absurd c389 (by decide)) (fun c389 => ?_)
                refine j_aload_nR h dL_isHung_392 rfl ?_
                refine j_iload h dL_isHung_393 rfl ?_
                refine j_iconst (v := 4) h dL_isHung_395 (by decide) ?_
                refine j_iadd h dL_isHung_396 ?_
                refine jl_ald a 4 h dL_isHung_397 (ix8_4 _) (by decide) (by omega) ?_
                refine j_goto (tgt := 403) h dL_isHung_398 (by decide) ?_
                refine j_icmp_ne (tgt := 410) h dL_isHung_403 (by decide) (fun c403 => absurd (show φ 4 a = up2 ψ 3 a 0 4 a from R.l (j := 4) (by decide) ha) c403) (fun c403 => ?_)
                refine j_iconst (v := 1) h dL_isHung_406 (by decide) ?_
                refine j_goto (tgt := 411) h dL_isHung_407 (by decide) ?_
                exact j_zret h hrt hlk dL_isHung_411 (Or.inr rfl) (by decide) (by decide) (⟨rfl, up2 φ 3 a 0, _, I.put e3, R.up (by decide) a 0, rfl⟩)
              · -- f
                refine j_top (y := 0) (by rw [hb358]; rfl) ?_
                refine j_istore h dL_isHung_358 (by decide) ?_
                refine j_aload_nR h dL_isHung_360 rfl ?_
                refine j_iload h dL_isHung_361 rfl ?_
                refine j_iconst (v := 3) h dL_isHung_363 (by decide) ?_
                refine j_iadd h dL_isHung_364 ?_
                refine j_iload h dL_isHung_365 rfl ?_
                refine j_if_eq (tgt := 374) h dL_isHung_367 (by decide) (fun c367 => ?_) (fun c367 => absurd c367 (by decide))
                refine j_aload_nR h dL_isHung_374 rfl ?_
                refine j_iload h dL_isHung_375 rfl ?_
                refine j_iconst (v := 3) h dL_isHung_377 (by decide) ?_
                refine j_iadd h dL_isHung_378 ?_
                refine jl_ald a 3 h dL_isHung_379 (ix8_3 _) (by decide) (by omega) ?_
                refine jl_ast a 3 h dL_isHung_380 (ix8_3 _) (by decide) (by omega) ?_
                refine j_aload_nR h dL_isHung_381 rfl ?_
                refine j_iload h dL_isHung_382 rfl ?_
                have e3 : ¬ φ 3 a = 1 := fun z => of_decide_eq_false hb358 ((R.l (j := 3) (by decide) ha).symm.trans z)
                have hT : tPutOut φ (nI a) = 2 := by rw [J_put_T I ha, if_neg e3]
                refine jj_ws (ws1 := wJ cI aJ ψ ++ wX cI cL cR ad C φ) (by rw [up2_id]) ?_
                refine j_callLF (wr := wJ cI aJ ψ) (wc := wX cI cL cR ad C φ) h hnc dL_isHung_384 (c_L_putOut hl I.x I.st (by rw [hT]; decide)) (vx_cwSW 2 h.2.2.2.2.1 gL_isHung_L_putOut rfl rfl rfl (by decide +kernel) ⟨(Nat.le_of_ble_eq_true rfl), (Nat.le_of_ble_eq_true rfl)⟩) rfl rfl (Nat.le_of_ble_eq_true rfl) ⟨(Nat.le_of_ble_eq_true rfl), (Nat.le_of_ble_eq_true rfl)⟩ (fun r9 u9 hu9 => ?_)
                obtain ⟨rfl, rfl⟩ : r9 = -2 ∧ u9 = wX cI cL cR ad C φ := by
                  rcases hu9 with ⟨h1, h2, h3⟩ | ⟨h2, h3, h4⟩
                  · exact ⟨h1, h3⟩
                  · exact absurd (hT.symm.trans h2) (by decide)
                refine j_iload h dL_isHung_387 rfl ?_
                refine j_if_eq (tgt := 401) h dL_isHung_389 (by decide) (fun c389 => ?_) (fun c389 => absurd c389 (by decide))
                refine j_bipush (v := (-2)) h dL_isHung_401 (by decide) ?_
                refine j_icmp_ne (tgt := 410) h dL_isHung_403 (by decide) (fun c403 => absurd c403 (by decide)) (fun c403 => ?_)
                refine j_iconst (v := 1) h dL_isHung_406 (by decide) ?_
                refine j_goto (tgt := 411) h dL_isHung_407 (by decide) ?_
                exact j_zret h hrt hlk dL_isHung_411 (Or.inr rfl) (by decide) (by decide) (⟨rfl, φ, ψ, I, R, rfl⟩)
            · -- ahead
              refine j_aload_nR h dL_isHung_343 rfl ?_
              refine j_iload h dL_isHung_344 rfl ?_
              refine j_iconst (v := 3) h dL_isHung_346 (by decide) ?_
              refine j_iadd h dL_isHung_347 ?_
              refine jl_ald a 3 h dL_isHung_348 (ix8_3 _) (by decide) (by omega) ?_
              refine j_iconst (v := 1) h dL_isHung_349 (by decide) ?_
              refine j_icmp_ne (tgt := 357) h dL_isHung_350 (by decide) (fun c350 => ?_) (fun c350 => ?_)
              · -- t
                refine j_iconst (v := 0) h dL_isHung_357 (by decide) ?_
                exact cut358 _ (by rw [decide_eq_false c350]; rfl) _ ⟨rfl, rfl, rfl, rfl, rfl, rfl, rfl, rfl, rfl, rfl, trivial⟩
              · -- f
                refine j_iconst (v := 1) h dL_isHung_353 (by decide) ?_
                refine j_goto (tgt := 358) h dL_isHung_354 (by decide) ?_
                exact cut358 _ (by rw [decide_eq_true c350]; rfl) _ ⟨rfl, rfl, rfl, rfl, rfl, rfl, rfl, rfl, rfl, rfl, trivial⟩
    · -- f
      rcases R.h5 I a ha with h5a | ⟨r2, hr2, h5a⟩
      · -- case
        skip
        refine j_aload_nR h dL_isHung_256 rfl ?_
        refine j_iload h dL_isHung_257 rfl ?_
        refine j_iconst (v := 5) h dL_isHung_259 (by decide) ?_
        refine j_iadd h dL_isHung_260 ?_
        refine jl_ald a 5 h dL_isHung_261 (ix8_5 _) (by decide) (by omega) ?_
        refine j_top h5a ?_
        refine j_istore h dL_isHung_262 (by decide) ?_
        refine j_aload_nR h dL_isHung_264 rfl ?_
        refine j_iload h dL_isHung_265 rfl ?_
        refine j_iconst (v := 5) h dL_isHung_267 (by decide) ?_
        refine j_iadd h dL_isHung_268 ?_
        refine j_iconst (v := (-1)) h dL_isHung_269 (by decide) ?_
        refine jl_ast a 5 h dL_isHung_270 (ix8_5 _) (by decide) (by omega) ?_
        refine j_aload_nR h dL_isHung_271 rfl ?_
        refine j_iload h dL_isHung_272 rfl ?_
        refine j_iconst (v := 3) h dL_isHung_274 (by decide) ?_
        refine j_iadd h dL_isHung_275 ?_
        refine j_iload h dL_isHung_276 rfl ?_
        refine j_if_lt (tgt := 295) h dL_isHung_278 (by decide) (fun c278 => ?_) (fun c278 => absurd c278 (by decide))
        refine j_aload_nR h dL_isHung_295 rfl ?_
        refine j_iload h dL_isHung_296 rfl ?_
        refine j_iconst (v := 3) h dL_isHung_298 (by decide) ?_
        refine j_iadd h dL_isHung_299 ?_
        refine jl_ald a 3 h dL_isHung_300 (ix8_3 _) (by decide) (by omega) ?_
        refine jl_ast a 3 h dL_isHung_301 (ix8_3 _) (by decide) (by omega) ?_
        refine j_aload_nR h dL_isHung_302 rfl ?_
        refine j_iload h dL_isHung_303 rfl ?_
        have hT : tTake φ (nI a) = 2 := by rw [J_take_T I ha, if_pos ((R.l (j := 5) (by decide) ha).trans h5a)]
        refine jj_ws (ws1 := wJ cI aJ ψ ++ wX cI cL cR ad C φ) (by rw [show up2 ψ 5 a (-1) = ψ by rw [← h5a]; exact up2_id ψ 5 a, up2_id]) ?_
        refine j_callLF (wr := wJ cI aJ ψ) (wc := wX cI cL cR ad C φ) h hnc dL_isHung_305 (c_L_taken hl I.x I.st (by rw [hT]; decide)) (vx_cwSW 2 h.2.2.2.2.1 gL_isHung_L_taken rfl rfl rfl (by decide +kernel) ⟨(Nat.le_of_ble_eq_true rfl), (Nat.le_of_ble_eq_true rfl)⟩) rfl rfl (Nat.le_of_ble_eq_true rfl) ⟨(Nat.le_of_ble_eq_true rfl), (Nat.le_of_ble_eq_true rfl)⟩ (fun r9 u9 hu9 => ?_)
        obtain ⟨rfl, rfl⟩ : r9 = -2 ∧ u9 = wX cI cL cR ad C φ := by
          rcases hu9 with ⟨h1, h2, h3⟩ | ⟨h2, h3, h4⟩
          · exact ⟨h1, h3⟩
          · exact absurd (hT.symm.trans h2) (by decide)
        refine j_iload h dL_isHung_308 rfl ?_
        refine j_if_ge (tgt := 318) h dL_isHung_310 (by decide) (fun c310 => absurd c310 (by decide)) (fun c310 => ?_)
        refine j_bipush (v := (-2)) h dL_isHung_313 (by decide) ?_
        refine j_goto (tgt := 320) h dL_isHung_315 (by decide) ?_
        refine j_icmp_ne (tgt := 327) h dL_isHung_320 (by decide) (fun c320 => absurd c320 (by decide)) (fun c320 => ?_)
        refine j_iconst (v := 1) h dL_isHung_323 (by decide) ?_
        refine j_goto (tgt := 328) h dL_isHung_324 (by decide) ?_
        exact j_zret h hrt hlk dL_isHung_328 (Or.inr rfl) (by decide) (by decide) (⟨rfl, φ, ψ, I, R, rfl⟩)
      · -- case
        skip
        refine j_aload_nR h dL_isHung_256 rfl ?_
        refine j_iload h dL_isHung_257 rfl ?_
        refine j_iconst (v := 5) h dL_isHung_259 (by decide) ?_
        refine j_iadd h dL_isHung_260 ?_
        refine jl_ald a 5 h dL_isHung_261 (ix8_5 _) (by decide) (by omega) ?_
        refine j_top h5a ?_
        refine j_istore h dL_isHung_262 (by decide) ?_
        refine j_aload_nR h dL_isHung_264 rfl ?_
        refine j_iload h dL_isHung_265 rfl ?_
        refine j_iconst (v := 5) h dL_isHung_267 (by decide) ?_
        refine j_iadd h dL_isHung_268 ?_
        refine j_iconst (v := (-1)) h dL_isHung_269 (by decide) ?_
        refine jl_ast a 5 h dL_isHung_270 (ix8_5 _) (by decide) (by omega) ?_
        refine j_aload_nR h dL_isHung_271 rfl ?_
        refine j_iload h dL_isHung_272 rfl ?_
        refine j_iconst (v := 3) h dL_isHung_274 (by decide) ?_
        refine j_iadd h dL_isHung_275 ?_
        refine j_iload h dL_isHung_276 rfl ?_
        refine j_if_lt (tgt := 295) h dL_isHung_278 (by decide) (fun c278 => absurd c278 (nI_pos (by omega))) (fun c278 => ?_)
        refine jj_cut 301 [(0, .ref (ad 0)), (1, .ref (aJ 0)), (2, .ref (aJ 1)), (3, .ref (aJ 4)), (6, .int (nI a)), (7, .int (8 * nI a)), (10, .int (nI r2))] [.int (8 * nI a + 3), .ref (aJ 0)] (fun v => v = (if ψ 3 a = 1 then 0 else ψ 3 a)) (fun v301 hv301 => ?_) (fun cut301 => ?_)
        · -- behind
          obtain rfl := hv301
          refine jl_ast a 3 h dL_isHung_301 (ix8_3 _) (by decide) (by omega) ?_
          refine j_aload_nR h dL_isHung_302 rfl ?_
          refine j_iload h dL_isHung_303 rfl ?_
          have e5 : φ 5 a = nI r2 := (R.l (j := 5) (by decide) ha).trans h5a
          obtain ⟨r3, hr3, e53⟩ := (I.x.h a ha).resolve_left (by rw [e5]; exact nI_nm1 (by omega))
          obtain rfl : r3 = r2 := (nI_eq (by omega) (by omega)).mp (e53.symm.trans e5)
          have hT : tTake φ (nI a) = 0 := by rw [J_take_T I ha, if_neg (by rw [e5]; exact nI_nm1 (by omega))]
          refine j_callLF (wr := wJ cI aJ (up2 (up2 ψ 5 a (-1)) 3 a (if ψ 3 a = 1 then 0 else ψ 3 a))) (wc := wX cI cL cR ad C φ) h hnc dL_isHung_305 (c_L_taken hl I.x I.st (by rw [hT]; decide)) (vx_cwSW 2 h.2.2.2.2.1 gL_isHung_L_taken rfl rfl rfl (by decide +kernel) ⟨(Nat.le_of_ble_eq_true rfl), (Nat.le_of_ble_eq_true rfl)⟩) rfl rfl (Nat.le_of_ble_eq_true rfl) ⟨(Nat.le_of_ble_eq_true rfl), (Nat.le_of_ble_eq_true rfl)⟩ (fun r9 u9 hu9 => ?_)
          obtain ⟨rfl, rfl⟩ : r9 = nI r3 ∧ u9 = wX cI cL cR ad C (tkF φ r3 a) := by
            rcases hu9 with ⟨h1, h2, h3⟩ | ⟨h2, h3, h4⟩
            · exact absurd (hT.symm.trans h2) (by decide)
            · rw [nI_clamp (show a < 2 ^ 31 by omega), e5] at h3 h4
              rw [nI_clamp (show r3 < 2 ^ 31 by omega)] at h4
              exact ⟨h3, h4⟩
          refine j_iload h dL_isHung_308 rfl ?_
          refine j_if_ge (tgt := 318) h dL_isHung_310 (by decide) (fun c310 => ?_) (fun c310 => absurd (nI_pos' (by omega)) c310)
          refine j_iload h dL_isHung_318 rfl ?_
          refine j_icmp_ne (tgt := 327) h dL_isHung_320 (by decide) (fun c320 => absurd rfl c320) (fun c320 => ?_)
          refine j_iconst (v := 1) h dL_isHung_323 (by decide) ?_
          refine j_goto (tgt := 328) h dL_isHung_324 (by decide) ?_
          exact j_zret h hrt hlk dL_isHung_328 (Or.inr rfl) (by decide) (by decide) (⟨rfl, tkF φ r3 a, _, I.take hr3 ha e5, R.take I ha, rfl⟩)
        · -- ahead
          refine j_aload_nR h dL_isHung_281 rfl ?_
          refine j_iload h dL_isHung_282 rfl ?_
          refine j_iconst (v := 3) h dL_isHung_284 (by decide) ?_
          refine j_iadd h dL_isHung_285 ?_
          refine jl_ald a 3 h dL_isHung_286 (ix8_3 _) (by decide) (by omega) ?_
          refine j_top (show up2 ψ 5 a (-1) 3 a = ψ 3 a from rfl) ?_
          refine j_iconst (v := 1) h dL_isHung_287 (by decide) ?_
          refine j_icmp_ne (tgt := 295) h dL_isHung_288 (by decide) (fun c288 => ?_) (fun c288 => ?_)
          · -- t
            refine j_aload_nR h dL_isHung_295 rfl ?_
            refine j_iload h dL_isHung_296 rfl ?_
            refine j_iconst (v := 3) h dL_isHung_298 (by decide) ?_
            refine j_iadd h dL_isHung_299 ?_
            refine jl_ald a 3 h dL_isHung_300 (ix8_3 _) (by decide) (by omega) ?_
            refine j_top (show up2 ψ 5 a (-1) 3 a = ψ 3 a from rfl) ?_
            exact cut301 _ (by first | rw [if_pos c288] | rw [if_pos c288] | rw [if_neg c288]) _ ⟨rfl, rfl, rfl, rfl, rfl, rfl, rfl, trivial⟩
          · -- f
            refine j_iconst (v := 0) h dL_isHung_291 (by decide) ?_
            refine j_goto (tgt := 301) h dL_isHung_292 (by decide) ?_
            exact cut301 _ (by first | rw [if_pos c288] | rw [if_pos c288] | rw [if_neg c288]) _ ⟨rfl, rfl, rfl, rfl, rfl, rfl, rfl, trivial⟩
  · -- f
    refine j_iconst (v := 0) h dL_isHung_42 (by decide) ?_
    refine j_istore h dL_isHung_43 (by decide) ?_
    refine j_iconst (v := 0) h dL_isHung_45 (by decide) ?_
    refine j_istore h dL_isHung_46 (by decide) ?_
    refine jj_loop (fun i : Nat => [(0, .ref (ad 0)), (1, .ref (aJ 0)), (2, .ref (aJ 1)), (3, .ref (aJ 4)), (4, .int (nI wy)), (5, .int (nI z)), (6, .int (nI a)), (7, .int (8 * nI a)), (8, .int (nI r)), (9, .int (nI s1)), (10, .int (bi (tkB ψ (nI r) (nI s1) i))), (11, .int (nI i))]) (fun i : Nat => wJ cI aJ ψ ++ wX cI cL cR ad C φ) (fun i : Nat => i ≤ n) (fun i : Nat => n - i) 0 ⟨rfl, rfl, rfl, rfl, rfl, rfl, rfl, rfl, rfl, rfl, rfl, rfl, trivial⟩ rfl (by omega) (fun i hi ihi => ?_)
    refine j_iload h dL_isHung_48 rfl ?_
    refine j_aload_nR h dL_isHung_50 rfl ?_
    refine j_iconst (v := 0) h dL_isHung_51 (by decide) ?_
    refine jm_ald0 h dL_isHung_52 ?_
    refine j_top (R.h7 I) ?_
    refine j_icmp_ge (tgt := 103) h dL_isHung_53 (by decide) (fun c53 => ?_) (fun c53 => ?_)
    · -- t
      rw [nI_leI (by omega) (by omega)] at c53
      obtain rfl : n = i := by omega
      refine jj_cut 175 [(0, .ref (ad 0)), (1, .ref (aJ 0)), (2, .ref (aJ 1)), (3, .ref (aJ 4)), (4, .int (nI wy)), (5, .int (nI z)), (6, .int (nI a)), (7, .int (8 * nI a)), (8, .int (nI r)), (9, .int (nI s1)), (10, .int (bi (tkB ψ (nI r) (nI s1) n)))] [] (fun v => v = bi (decide (ψ 5 a < 0 ∧ ψ 10 r < 2 ∧ ldS ψ (nI r) n + 20 * ψ 0 a + 30 * ψ 1 a + 50 * ψ 2 a ≤ ψ 9 r))) (fun v175 hv175 => ?_) (fun cut175 => ?_)
      · -- behind
        obtain rfl := hv175
        rcases Bool.eq_false_or_eq_true (decide (ψ 5 a < 0 ∧ ψ 10 r < 2 ∧ ldS ψ (nI r) n + 20 * ψ 0 a + 30 * ψ 1 a + 50 * ψ 2 a ≤ ψ 9 r)) with hb175 | hb175
        · -- t
          refine j_top (y := 1) (by rw [hb175]; rfl) ?_
          rcases Bool.eq_false_or_eq_true (tkB ψ (nI r) (nI s1) n) with hc175 | hc175
          · -- t
            rw [hc175]
            refine j_istore h dL_isHung_175 (by decide) ?_
            refine j_iload h dL_isHung_177 rfl ?_
            refine j_top (y := 1) rfl ?_
            refine j_if_ne (tgt := 204) h dL_isHung_179 (by decide) (fun c179 => ?_) (fun c179 => absurd c179 (by decide))
            refine j_aload_nR h dL_isHung_204 rfl ?_
            refine j_iload h dL_isHung_205 rfl ?_
            refine j_iload h dL_isHung_207 rfl ?_
            refine j_iload h dL_isHung_209 rfl ?_
            have hT : cHang φ (nI a) (nI r) (nI s1) = 2 := by rw [hTT, if_pos hc175]
            refine j_callLF (wr := wJ cI aJ ψ) (wc := wX cI cL cR ad C φ) h hnc dL_isHung_211 (c_L_hung hl I.x (by rw [hT]; decide)) (vx_cwSW 4 h.2.2.2.2.1 gL_isHung_L_hung rfl rfl rfl (by decide +kernel) ⟨(Nat.le_of_ble_eq_true rfl), (Nat.le_of_ble_eq_true rfl)⟩) rfl rfl (Nat.le_of_ble_eq_true rfl) ⟨(Nat.le_of_ble_eq_true rfl), (Nat.le_of_ble_eq_true rfl)⟩ (fun r9 u9 hu9 => ?_)
            obtain ⟨rfl, rfl⟩ : r9 = -3 ∧ u9 = wX cI cL cR ad C φ := by
              rcases hu9 with ⟨h1, h2, h3⟩ | ⟨h1, h2, h3⟩ | ⟨h2, h3, h4⟩
              · exact ⟨h1, h3⟩
              · exact absurd (hT.symm.trans h2) (by decide)
              · exact absurd (hT.symm.trans h2) (by decide)
            refine j_iload h dL_isHung_214 rfl ?_
            refine j_top (y := 1) rfl ?_
            refine j_if_eq (tgt := 224) h dL_isHung_216 (by decide) (fun c216 => absurd c216 (by decide)) (fun c216 => ?_)
            refine j_bipush (v := (-3)) h dL_isHung_219 (by decide) ?_
            refine j_goto (tgt := 241) h dL_isHung_221 (by decide) ?_
            refine j_icmp_ne (tgt := 248) h dL_isHung_241 (by decide) (fun c241 => absurd c241 (by decide)) (fun c241 => ?_)
            refine j_iconst (v := 1) h dL_isHung_244 (by decide) ?_
            refine j_goto (tgt := 249) h dL_isHung_245 (by decide) ?_
            exact j_zret h hrt hlk dL_isHung_249 (Or.inr rfl) (by decide) (by decide) (⟨rfl, φ, ψ, I, R, rfl⟩)
          · -- f
            rw [hc175]
            refine j_istore h dL_isHung_175 (by decide) ?_
            refine j_iload h dL_isHung_177 rfl ?_
            refine j_top (y := 0) rfl ?_
            refine j_if_ne (tgt := 204) h dL_isHung_179 (by decide) (fun c179 => absurd c179 (by decide)) (fun c179 => ?_)
            refine j_iload h dL_isHung_182 rfl ?_
            refine j_if_eq (tgt := 204) h dL_isHung_184 (by decide) (fun c184 => absurd c184 (by decide)) (fun c184 => ?_)
            refine j_aload_nR h dL_isHung_187 rfl ?_
            refine j_iload h dL_isHung_188 rfl ?_
            refine j_iconst (v := 5) h dL_isHung_190 (by decide) ?_
            refine j_iadd h dL_isHung_191 ?_
            refine j_iload h dL_isHung_192 rfl ?_
            refine jl_ast a 5 h dL_isHung_194 (ix8_5 _) (by decide) (by omega) ?_
            refine j_aload_nR h dL_isHung_195 rfl ?_
            refine j_iload h dL_isHung_196 rfl ?_
            refine j_bipush (v := 6) h dL_isHung_198 (by decide) ?_
            refine j_iadd h dL_isHung_200 ?_
            refine j_iload h dL_isHung_201 rfl ?_
            refine jl_ast a 6 h dL_isHung_203 (ix8_6 _) (by decide) (by omega) ?_
            refine j_aload_nR h dL_isHung_204 rfl ?_
            refine j_iload h dL_isHung_205 rfl ?_
            refine j_iload h dL_isHung_207 rfl ?_
            refine j_iload h dL_isHung_209 rfl ?_
            have hT : cHang φ (nI a) (nI r) (nI s1) = 0 := by rw [hTT, if_neg (by rw [hc175]; decide), if_pos hb175]
            obtain ⟨k1, k2⟩ := J_hang_ok I hT ha hr hs
            have I2 := I.hang hr hs ha k1 k2
            have R2 := R.hang r s1 ha
            refine j_callLF (wr := wJ cI aJ (up2 (up2 ψ 5 a (nI r)) 6 a (nI s1))) (wc := wX cI cL cR ad C φ) h hnc dL_isHung_211 (c_L_hung hl I.x (by rw [hT]; decide)) (vx_cwSW 4 h.2.2.2.2.1 gL_isHung_L_hung rfl rfl rfl (by decide +kernel) ⟨(Nat.le_of_ble_eq_true rfl), (Nat.le_of_ble_eq_true rfl)⟩) rfl rfl (Nat.le_of_ble_eq_true rfl) ⟨(Nat.le_of_ble_eq_true rfl), (Nat.le_of_ble_eq_true rfl)⟩ (fun r9 u9 hu9 => ?_)
            obtain ⟨rfl, rfl⟩ : r9 = wtS (hnF φ r s1 a) r 10 ∧ u9 = wX cI cL cR ad C (hnF φ r s1 a) := by
              rcases hu9 with ⟨h1, h2, h3⟩ | ⟨h1, h2, h3⟩ | ⟨h2, h3, h4⟩
              · exact absurd (hT.symm.trans h2) (by decide)
              · exact absurd (hT.symm.trans h2) (by decide)
              · rw [nI_clamp (by omega), nI_clamp (by omega), nI_clamp (by omega)] at h3 h4
                exact ⟨h3, h4⟩
            refine j_iload h dL_isHung_214 rfl ?_
            refine j_top (y := 0) rfl ?_
            refine j_if_eq (tgt := 224) h dL_isHung_216 (by decide) (fun c216 => ?_) (fun c216 => absurd c216 (by decide))
            refine j_iload h dL_isHung_224 rfl ?_
            refine j_if_eq (tgt := 239) h dL_isHung_226 (by decide) (fun c226 => absurd c226 (by decide)) (fun c226 => ?_)
            refine j_aload_nR h dL_isHung_229 rfl ?_
            refine j_aload_nR h dL_isHung_230 rfl ?_
            refine j_iload h dL_isHung_231 rfl ?_
            refine j_callFI (wc := wJ cI aJ _) h dL_isHung_233 (c_L_load (n := n) (show (up2 (up2 ψ 5 a (nI r)) 6 a (nI s1)) 7 0 = nI n from R.h7 I) R.n8) (va_cwS 3 h.2.2.2.2.1 gL_isHung_L_load rfl rfl rfl (by decide +kernel) ⟨(Nat.le_of_ble_eq_true rfl), (Nat.le_of_ble_eq_true rfl)⟩) rfl rfl (Nat.le_of_ble_eq_true rfl) ⟨(Nat.le_of_ble_eq_true rfl), (Nat.le_of_ble_eq_true rfl)⟩ (fun r233 u233 hu233 => ?_)
            obtain ⟨rfl, rfl⟩ := hu233
            refine j_goto (tgt := 241) h dL_isHung_236 (by decide) ?_
            refine j_icmp_ne (tgt := 248) h dL_isHung_241 (by decide) (fun c241 => absurd (show wtS (hnF φ r s1 a) r 10 = ldS (up2 (up2 ψ 5 a (nI r)) 6 a (nI s1)) (nI r) n from (J_load I2 R2 hr).symm) c241) (fun c241 => ?_)
            refine j_iconst (v := 1) h dL_isHung_244 (by decide) ?_
            refine j_goto (tgt := 249) h dL_isHung_245 (by decide) ?_
            exact j_zret h hrt hlk dL_isHung_249 (Or.inr rfl) (by decide) (by decide) (⟨rfl, hnF φ r s1 a, _, I2, R2, rfl⟩)
        · -- f
          refine j_top (y := 0) (by rw [hb175]; rfl) ?_
          rcases Bool.eq_false_or_eq_true (tkB ψ (nI r) (nI s1) n) with hc175 | hc175
          · -- t
            rw [hc175]
            refine j_istore h dL_isHung_175 (by decide) ?_
            refine j_iload h dL_isHung_177 rfl ?_
            refine j_top (y := 1) rfl ?_
            refine j_if_ne (tgt := 204) h dL_isHung_179 (by decide) (fun c179 => ?_) (fun c179 => absurd c179 (by decide))
            refine j_aload_nR h dL_isHung_204 rfl ?_
            refine j_iload h dL_isHung_205 rfl ?_
            refine j_iload h dL_isHung_207 rfl ?_
            refine j_iload h dL_isHung_209 rfl ?_
            have hT : cHang φ (nI a) (nI r) (nI s1) = 2 := by rw [hTT, if_pos hc175]
            refine j_callLF (wr := wJ cI aJ ψ) (wc := wX cI cL cR ad C φ) h hnc dL_isHung_211 (c_L_hung hl I.x (by rw [hT]; decide)) (vx_cwSW 4 h.2.2.2.2.1 gL_isHung_L_hung rfl rfl rfl (by decide +kernel) ⟨(Nat.le_of_ble_eq_true rfl), (Nat.le_of_ble_eq_true rfl)⟩) rfl rfl (Nat.le_of_ble_eq_true rfl) ⟨(Nat.le_of_ble_eq_true rfl), (Nat.le_of_ble_eq_true rfl)⟩ (fun r9 u9 hu9 => ?_)
            obtain ⟨rfl, rfl⟩ : r9 = -3 ∧ u9 = wX cI cL cR ad C φ := by
              rcases hu9 with ⟨h1, h2, h3⟩ | ⟨h1, h2, h3⟩ | ⟨h2, h3, h4⟩
              · exact ⟨h1, h3⟩
              · exact absurd (hT.symm.trans h2) (by decide)
              · exact absurd (hT.symm.trans h2) (by decide)
            refine j_iload h dL_isHung_214 rfl ?_
            refine j_top (y := 1) rfl ?_
            refine j_if_eq (tgt := 224) h dL_isHung_216 (by decide) (fun c216 => absurd c216 (by decide)) (fun c216 => ?_)
            refine j_bipush (v := (-3)) h dL_isHung_219 (by decide) ?_
            refine j_goto (tgt := 241) h dL_isHung_221 (by decide) ?_
            refine j_icmp_ne (tgt := 248) h dL_isHung_241 (by decide) (fun c241 => absurd c241 (by decide)) (fun c241 => ?_)
            refine j_iconst (v := 1) h dL_isHung_244 (by decide) ?_
            refine j_goto (tgt := 249) h dL_isHung_245 (by decide) ?_
            exact j_zret h hrt hlk dL_isHung_249 (Or.inr rfl) (by decide) (by decide) (⟨rfl, φ, ψ, I, R, rfl⟩)
          · -- f
            rw [hc175]
            refine j_istore h dL_isHung_175 (by decide) ?_
            refine j_iload h dL_isHung_177 rfl ?_
            refine j_top (y := 0) rfl ?_
            refine j_if_ne (tgt := 204) h dL_isHung_179 (by decide) (fun c179 => absurd c179 (by decide)) (fun c179 => ?_)
            refine j_iload h dL_isHung_182 rfl ?_
            refine j_if_eq (tgt := 204) h dL_isHung_184 (by decide) (fun c184 => ?_) (fun c184 => absurd c184 (by decide))
            refine j_aload_nR h dL_isHung_204 rfl ?_
            refine j_iload h dL_isHung_205 rfl ?_
            refine j_iload h dL_isHung_207 rfl ?_
            refine j_iload h dL_isHung_209 rfl ?_
            have hT : cHang φ (nI a) (nI r) (nI s1) = 3 := by rw [hTT, if_neg (by rw [hc175]; decide), if_neg (by rw [hb175]; decide)]
            refine j_callLF (wr := wJ cI aJ ψ) (wc := wX cI cL cR ad C φ) h hnc dL_isHung_211 (c_L_hung hl I.x (by rw [hT]; decide)) (vx_cwSW 4 h.2.2.2.2.1 gL_isHung_L_hung rfl rfl rfl (by decide +kernel) ⟨(Nat.le_of_ble_eq_true rfl), (Nat.le_of_ble_eq_true rfl)⟩) rfl rfl (Nat.le_of_ble_eq_true rfl) ⟨(Nat.le_of_ble_eq_true rfl), (Nat.le_of_ble_eq_true rfl)⟩ (fun r9 u9 hu9 => ?_)
            obtain ⟨rfl, rfl⟩ : r9 = -2 ∧ u9 = wX cI cL cR ad C φ := by
              rcases hu9 with ⟨h1, h2, h3⟩ | ⟨h1, h2, h3⟩ | ⟨h2, h3, h4⟩
              · exact absurd (hT.symm.trans h2) (by decide)
              · exact ⟨h1, h3⟩
              · exact absurd (hT.symm.trans h2) (by decide)
            refine j_iload h dL_isHung_214 rfl ?_
            refine j_top (y := 0) rfl ?_
            refine j_if_eq (tgt := 224) h dL_isHung_216 (by decide) (fun c216 => ?_) (fun c216 => absurd c216 (by decide))
            refine j_iload h dL_isHung_224 rfl ?_
            refine j_if_eq (tgt := 239) h dL_isHung_226 (by decide) (fun c226 => ?_) (fun c226 => absurd c226 (by decide))
            refine j_bipush (v := (-2)) h dL_isHung_239 (by decide) ?_
            refine j_icmp_ne (tgt := 248) h dL_isHung_241 (by decide) (fun c241 => absurd c241 (by decide)) (fun c241 => ?_)
            refine j_iconst (v := 1) h dL_isHung_244 (by decide) ?_
            refine j_goto (tgt := 249) h dL_isHung_245 (by decide) ?_
            exact j_zret h hrt hlk dL_isHung_249 (Or.inr rfl) (by decide) (by decide) (⟨rfl, φ, ψ, I, R, rfl⟩)
      · -- ahead
        refine j_aload_nR h dL_isHung_103 rfl ?_
        refine j_iload h dL_isHung_104 rfl ?_
        refine j_iconst (v := 5) h dL_isHung_106 (by decide) ?_
        refine j_iadd h dL_isHung_107 ?_
        refine jl_ald a 5 h dL_isHung_108 (ix8_5 _) (by decide) (by omega) ?_
        refine j_if_ge (tgt := 174) h dL_isHung_109 (by decide) (fun c109 => ?_) (fun c109 => ?_)
        · -- t
          refine j_iconst (v := 0) h dL_isHung_174 (by decide) ?_
          exact cut175 _ (by rw [decide_eq_false (fun y => absurd y.1 (Int32.not_lt.mpr c109))]; rfl) _ ⟨rfl, rfl, rfl, rfl, rfl, rfl, rfl, rfl, rfl, rfl, rfl, trivial⟩
        · -- f
          refine j_aload_nR h dL_isHung_112 rfl ?_
          refine j_iconst (v := 4) h dL_isHung_113 (by decide) ?_
          refine j_iload h dL_isHung_114 rfl ?_
          refine j_imul h dL_isHung_116 ?_
          refine j_iconst (v := 2) h dL_isHung_117 (by decide) ?_
          refine j_iadd h dL_isHung_118 ?_
          refine jf_ald2 r h dL_isHung_119 (ix4_2 _) (by omega) ?_
          refine j_iconst (v := 2) h dL_isHung_120 (by decide) ?_
          refine j_icmp_ge (tgt := 174) h dL_isHung_121 (by decide) (fun c121 => ?_) (fun c121 => ?_)
          · -- t
            refine j_iconst (v := 0) h dL_isHung_174 (by decide) ?_
            exact cut175 _ (by rw [decide_eq_false (fun y => absurd y.2.1 (Int32.not_lt.mpr c121))]; rfl) _ ⟨rfl, rfl, rfl, rfl, rfl, rfl, rfl, rfl, rfl, rfl, rfl, trivial⟩
          · -- f
            refine j_aload_nR h dL_isHung_124 rfl ?_
            refine j_aload_nR h dL_isHung_125 rfl ?_
            refine j_iload h dL_isHung_126 rfl ?_
            refine j_callFI (wc := wJ cI aJ _) h dL_isHung_128 (c_L_load (n := n) (R.h7 I) R.n8) (va_cwS 3 h.2.2.2.2.1 gL_isHung_L_load rfl rfl rfl (by decide +kernel) ⟨(Nat.le_of_ble_eq_true rfl), (Nat.le_of_ble_eq_true rfl)⟩) rfl rfl (Nat.le_of_ble_eq_true rfl) ⟨(Nat.le_of_ble_eq_true rfl), (Nat.le_of_ble_eq_true rfl)⟩ (fun r128 u128 hu128 => ?_)
            obtain ⟨rfl, rfl⟩ := hu128
            refine j_bipush (v := 20) h dL_isHung_131 (by decide) ?_
            refine j_aload_nR h dL_isHung_133 rfl ?_
            refine j_iload h dL_isHung_134 rfl ?_
            refine jl_ald a 0 h dL_isHung_136 (ix8_0 _) (by decide) (by omega) ?_
            refine j_imul h dL_isHung_137 ?_
            refine j_iadd h dL_isHung_138 ?_
            refine j_bipush (v := 30) h dL_isHung_139 (by decide) ?_
            refine j_aload_nR h dL_isHung_141 rfl ?_
            refine j_iload h dL_isHung_142 rfl ?_
            refine j_iconst (v := 1) h dL_isHung_144 (by decide) ?_
            refine j_iadd h dL_isHung_145 ?_
            refine jl_ald a 1 h dL_isHung_146 (ix8_1 _) (by decide) (by omega) ?_
            refine j_imul h dL_isHung_147 ?_
            refine j_iadd h dL_isHung_148 ?_
            refine j_bipush (v := 50) h dL_isHung_149 (by decide) ?_
            refine j_aload_nR h dL_isHung_151 rfl ?_
            refine j_iload h dL_isHung_152 rfl ?_
            refine j_iconst (v := 2) h dL_isHung_154 (by decide) ?_
            refine j_iadd h dL_isHung_155 ?_
            refine jl_ald a 2 h dL_isHung_156 (ix8_2 _) (by decide) (by omega) ?_
            refine j_imul h dL_isHung_157 ?_
            refine j_iadd h dL_isHung_158 ?_
            refine j_aload_nR h dL_isHung_159 rfl ?_
            refine j_iconst (v := 4) h dL_isHung_160 (by decide) ?_
            refine j_iload h dL_isHung_161 rfl ?_
            refine j_imul h dL_isHung_163 ?_
            refine j_iconst (v := 1) h dL_isHung_164 (by decide) ?_
            refine j_iadd h dL_isHung_165 ?_
            refine jf_ald1 r h dL_isHung_166 (ix4_1 _) (by omega) ?_
            refine j_icmp_gt (tgt := 174) h dL_isHung_167 (by decide) (fun c167 => ?_) (fun c167 => ?_)
            · -- t
              refine j_iconst (v := 0) h dL_isHung_174 (by decide) ?_
              exact cut175 _ (by rw [decide_eq_false (fun y => absurd y.2.2 (Int32.not_le.mpr c167))]; rfl) _ ⟨rfl, rfl, rfl, rfl, rfl, rfl, rfl, rfl, rfl, rfl, rfl, trivial⟩
            · -- f
              refine j_iconst (v := 1) h dL_isHung_170 (by decide) ?_
              refine j_goto (tgt := 175) h dL_isHung_171 (by decide) ?_
              exact cut175 _ (by rw [decide_eq_true ⟨Int32.not_le.mp c109, Int32.not_le.mp c121, Int32.not_lt.mp c167⟩]; rfl) _ ⟨rfl, rfl, rfl, rfl, rfl, rfl, rfl, rfl, rfl, rfl, rfl, trivial⟩
    · -- f
      rw [nI_leI (by omega) (by omega)] at c53
      refine jj_cut 95 [(0, .ref (ad 0)), (1, .ref (aJ 0)), (2, .ref (aJ 1)), (3, .ref (aJ 4)), (4, .int (nI wy)), (5, .int (nI z)), (6, .int (nI a)), (7, .int (8 * nI a)), (8, .int (nI r)), (9, .int (nI s1)), (10, .int (bi (tkB ψ (nI r) (nI s1) i))), (11, .int (nI i))] [] (fun v => v = bi (tkB ψ (nI r) (nI s1) (i + 1))) (fun v95 hv95 => ?_) (fun cut95 => ?_)
      · -- behind
        obtain rfl := hv95
        refine j_istore h dL_isHung_95 (by decide) ?_
        refine j_iinc h dL_isHung_97 rfl rfl (by decide) ?_
        refine j_goto (tgt := 48) h dL_isHung_100 (by decide) ?_
        exact ihi (i + 1) (by omega) (by omega) _ ⟨rfl, rfl, rfl, rfl, rfl, rfl, rfl, rfl, rfl, rfl, rfl, by simp [lget, nI_succ], trivial⟩
      · -- ahead
        refine j_iload h dL_isHung_56 rfl ?_
        refine j_if_ne (tgt := 90) h dL_isHung_58 (by decide) (fun c58 => ?_) (fun c58 => ?_)
        · -- t
          refine j_iconst (v := 1) h dL_isHung_90 (by decide) ?_
          refine j_goto (tgt := 95) h dL_isHung_91 (by decide) ?_
          have c72 : True := trivial
          have c87 : True := trivial
          exact cut95 _ (by first | (rw [tkB, bi_n0.mp c58]; rfl) | (rw [tkB, bi_0.mp c58, Bool.false_or, decide_eq_false (fun z => c72 z)]; rfl) | (rw [tkB, bi_0.mp c58, Bool.false_or, decide_eq_false (fun z => c87 z), Bool.and_false]; rfl) | (rw [tkB, bi_0.mp c58, Bool.false_or, decide_eq_true c72, decide_eq_true c87]; rfl) | (rw [tkB, bi_0.mp c58, Bool.false_or, decide_eq_true c72, decide_eq_true c87]; rfl)) _ ⟨rfl, rfl, rfl, rfl, rfl, rfl, rfl, rfl, rfl, rfl, rfl, rfl, trivial⟩
        · -- f
          refine j_aload_nR h dL_isHung_61 rfl ?_
          refine j_bipush (v := 8) h dL_isHung_62 (by decide) ?_
          refine j_iload h dL_isHung_64 rfl ?_
          refine j_imul h dL_isHung_66 ?_
          refine j_iconst (v := 5) h dL_isHung_67 (by decide) ?_
          refine j_iadd h dL_isHung_68 ?_
          refine jl_ald i 5 h dL_isHung_69 (ix8_5 _) (by decide) (by omega) ?_
          refine j_iload h dL_isHung_70 rfl ?_
          refine j_icmp_ne (tgt := 94) h dL_isHung_72 (by decide) (fun c72 => ?_) (fun c72 => ?_)
          · -- t
            refine j_iconst (v := 0) h dL_isHung_94 (by decide) ?_
            have c87 : True := trivial
            exact cut95 _ (by first | (rw [tkB, bi_n0.mp c58]; rfl) | (rw [tkB, bi_0.mp c58, Bool.false_or, decide_eq_false (fun z => c72 z)]; rfl) | (rw [tkB, bi_0.mp c58, Bool.false_or, decide_eq_false (fun z => c87 z), Bool.and_false]; rfl) | (rw [tkB, bi_0.mp c58, Bool.false_or, decide_eq_true c72, decide_eq_true c87]; rfl) | (rw [tkB, bi_0.mp c58, Bool.false_or, decide_eq_true c72, decide_eq_true c87]; rfl)) _ ⟨rfl, rfl, rfl, rfl, rfl, rfl, rfl, rfl, rfl, rfl, rfl, rfl, trivial⟩
          · -- f
            refine j_aload_nR h dL_isHung_75 rfl ?_
            refine j_bipush (v := 8) h dL_isHung_76 (by decide) ?_
            refine j_iload h dL_isHung_78 rfl ?_
            refine j_imul h dL_isHung_80 ?_
            refine j_bipush (v := 6) h dL_isHung_81 (by decide) ?_
            refine j_iadd h dL_isHung_83 ?_
            refine jl_ald i 6 h dL_isHung_84 (ix8_6 _) (by decide) (by omega) ?_
            refine j_iload h dL_isHung_85 rfl ?_
            refine j_icmp_ne (tgt := 94) h dL_isHung_87 (by decide) (fun c87 => ?_) (fun c87 => ?_)
            · -- t
              refine j_iconst (v := 0) h dL_isHung_94 (by decide) ?_
              exact cut95 _ (by first | (rw [tkB, bi_n0.mp c58]; rfl) | (rw [tkB, bi_0.mp c58, Bool.false_or, decide_eq_false (fun z => c72 z)]; rfl) | (rw [tkB, bi_0.mp c58, Bool.false_or, decide_eq_false (fun z => c87 z), Bool.and_false]; rfl) | (rw [tkB, bi_0.mp c58, Bool.false_or, decide_eq_true c72, decide_eq_true c87]; rfl) | (rw [tkB, bi_0.mp c58, Bool.false_or, decide_eq_true c72, decide_eq_true c87]; rfl)) _ ⟨rfl, rfl, rfl, rfl, rfl, rfl, rfl, rfl, rfl, rfl, rfl, rfl, trivial⟩
            · -- f
              refine j_iconst (v := 1) h dL_isHung_90 (by decide) ?_
              refine j_goto (tgt := 95) h dL_isHung_91 (by decide) ?_
              exact cut95 _ (by first | (rw [tkB, bi_n0.mp c58]; rfl) | (rw [tkB, bi_0.mp c58, Bool.false_or, decide_eq_false (fun z => c72 z)]; rfl) | (rw [tkB, bi_0.mp c58, Bool.false_or, decide_eq_false (fun z => c87 z), Bool.and_false]; rfl) | (rw [tkB, bi_0.mp c58, Bool.false_or, decide_eq_true c72, decide_eq_true c87]; rfl) | (rw [tkB, bi_0.mp c58, Bool.false_or, decide_eq_true c72, decide_eq_true c87]; rfl)) _ ⟨rfl, rfl, rfl, rfl, rfl, rfl, rfl, rfl, rfl, rfl, rfl, rfl, trivial⟩
