section TOLD
variable {n b q d tm : Nat} {φ ψ : St} {C : List Nat}
theorem tLz9 (I : IV n b q tm φ C) {k : Nat} (hk : k < n) : tL φ (nI k) = 0 := gl_1.mpr (by unfold isL; rw [I.x.2.2.2.2.1]; exact ix_inB (by have := I.x.1; omega) hk)
theorem isLz9 (I : IV n b q tm φ C) {k : Nat} (hk : k < n) : isL φ (nI k) = true := gl_1.mp (tLz9 I hk)
theorem tFz9 (I : IV n b q tm φ C) {k : Nat} (hk : k < b) : tF φ (nI k) = 0 := gl_1.mpr (by unfold isF; rw [I.x.2.2.2.2.2.1]; exact ix_inB (by have := I.x.2.1; omega) hk)
theorem isFz9 (I : IV n b q tm φ C) {k : Nat} (hk : k < b) : isF φ (nI k) = true := gl_1.mp (tFz9 I hk)
theorem inB_fig {g0 : Nat} (h : g0 < 1024) : inB (nI g0) 0 1023 = true := ix_inB (n := 1024) (by decide) h
theorem tLikez9 (I : IV n b q tm φ C) {k g0 : Nat} (hk : k < b) (h : g0 < 1024) : tLike φ (nI k) (nI g0) = 0 := gl_2.mpr ⟨isFz9 I hk, inB_fig h⟩
theorem tPrizez9 {g0 : Nat} (h : g0 < 1024) : tPrize (nI g0) = 0 := gl_1.mpr (inB_fig h)
theorem plJ_nn (I : IV n b q tm φ C) (R : Jr n b q d φ ψ) {k : Nat} (hk : k < n) (hp : hpB φ k = true) : ¬ plJ ψ k < 0 := by
  have hp2 : hpB ψ k = true := by rw [R.hp I hk]; exact hp
  obtain ⟨P, hP, e⟩ := R.plx I k hk hp2
  rw [plJ, if_pos hp2, e]; exact nI_pos (by omega)
theorem plJ_ge (R : Jr n b q d φ ψ) (I : IV n b q tm φ C) {k : Nat} (hk : k < n) (h : ¬ plJ ψ k < 0) : hpB φ k = true := by
  by_cases hp : hpB ψ k = true
  · rw [← R.hp I hk]; exact hp
  · rw [plJ, if_neg hp] at h; exact absurd (by decide) h
end TOLD
set_option maxHeartbeats 8000000 in
set_option maxRecDepth 100000 in
theorem c_L_isTold {l : Launch} {D : va_G} {cI cL cR : ClassId} (hl : l.stackTraces = false) {aJ ad : Nat → Nat} {φ ψ : St} {C : List Nat} {n b q d tm g0 : Nat} (I : IV n b q tm φ C) (R : Jr n b q d φ ψ) (hg : g0 < 1024) : ctI l D vwCl (tyW cI cL cR) yL_isTold wsL_isTold { frames := 8, cells := 66, slots := 396, locals := 131 } [.ref (ad 0), .ref (aJ 0), .ref (aJ 1), .ref (aJ 2), .ref (aJ 4), .int (nI g0)] (wJ cI aJ ψ ++ wX cI cL cR ad C φ) (fun r u => r = 1 ∧ u = wJ cI aJ ψ ++ wX cI cL cR ad C φ) 66 396 := by
  refine ctI_of (cc := cL_isTold) (maxL := 13) (ret := (some .boolean)) (by decide) rfl rfl (Nat.le_of_ble_eq_true rfl) (by simp [Value.category]) [(0, .ref (ad 0)), (1, .ref (aJ 0)), (2, .ref (aJ 1)), (3, .ref (aJ 2)), (4, .ref (aJ 4)), (5, .int (nI g0))] rfl ?_
  intro p e s m args below meth c sz h hrt hlk hnm
  have hn8 := R.n8
  have hb5 := R.b5
  have hdq := R.dq
  have hqb := (q_b I).1
  obtain ⟨q9, hw9⟩ := wX_recv (cI := cI) (cL := cL) (cR := cR) (ad := ad) (f := φ) (I.x.c (show 0 < 5 by decide))
  rw [gX_0] at hw9
  refine j_iconst (v := (-1)) h dL_isTold_0 (by decide) ?_
  refine j_istore h dL_isTold_1 (by decide) ?_
  refine j_aload_nR h dL_isTold_3 rfl ?_
  refine j_callVIF (vc := (RX2, TX2, 12)) (wr := wJ cI aJ ψ) (wc := wX cI cL cR ad C φ) h h.2.2.2.2.2.1 dL_isTold_4 (c_X2_time I.x) (cwV 0 h.2.2.2.2.1 gL_isTold_X2_time rfl rfl rfl (by decide +kernel) ⟨(Nat.le_of_ble_eq_true rfl), (Nat.le_of_ble_eq_true rfl)⟩) q9 hw9 rfl rfl rfl (Nat.le_of_ble_eq_true rfl) ⟨by show _ ≤ 66; omega, by show _ ≤ 396; omega⟩ (fun r4 u4 hu4 => ?_)
  obtain ⟨rfl, rfl⟩ := hu4
  refine j_aloadR h dL_isTold_7 rfl ?_
  refine j_iconst (v := 5) h dL_isTold_9 (by decide) ?_
  refine jm_ald5 h dL_isTold_10 ?_
  refine j_icmp_ne (tgt := 53) h dL_isTold_11 (by decide) (fun c11 => absurd (show φ 18 0 = ψ 18 0 from R.r.n0 (j := 18) (by decide)) c11) (fun c11 => ?_)
  refine j_aload_nR h dL_isTold_14 rfl ?_
  refine j_callVIF (vc := (RX2, TX2, 12)) (wr := wJ cI aJ ψ) (wc := wX cI cL cR ad C φ) h h.2.2.2.2.2.1 dL_isTold_15 (c_X2_lanterns I.x) (cwV 0 h.2.2.2.2.1 gL_isTold_X2_lanterns rfl rfl rfl (by decide +kernel) ⟨(Nat.le_of_ble_eq_true rfl), (Nat.le_of_ble_eq_true rfl)⟩) q9 hw9 rfl rfl rfl (Nat.le_of_ble_eq_true rfl) ⟨by show _ ≤ 66; omega, by show _ ≤ 396; omega⟩ (fun r15 u15 hu15 => ?_)
  obtain ⟨rfl, rfl⟩ := hu15
  refine j_aloadR h dL_isTold_18 rfl ?_
  refine j_iconst (v := 0) h dL_isTold_20 (by decide) ?_
  refine jm_ald0 h dL_isTold_21 ?_
  refine j_icmp_ne (tgt := 53) h dL_isTold_22 (by decide) (fun c22 => absurd (show φ 7 0 = ψ 7 0 from R.r.n0 (j := 7) (by decide)) c22) (fun c22 => ?_)
  refine j_aload_nR h dL_isTold_25 rfl ?_
  refine j_callVIF (vc := (RX2, TX2, 12)) (wr := wJ cI aJ ψ) (wc := wX cI cL cR ad C φ) h h.2.2.2.2.2.1 dL_isTold_26 (c_X2_blownOut I.x) (cwV 0 h.2.2.2.2.1 gL_isTold_X2_blownOut rfl rfl rfl (by decide +kernel) ⟨(Nat.le_of_ble_eq_true rfl), (Nat.le_of_ble_eq_true rfl)⟩) q9 hw9 rfl rfl rfl (Nat.le_of_ble_eq_true rfl) ⟨by show _ ≤ 66; omega, by show _ ≤ 396; omega⟩ (fun r26 u26 hu26 => ?_)
  obtain ⟨rfl, rfl⟩ := hu26
  refine j_aloadR h dL_isTold_29 rfl ?_
  refine j_bipush (v := 6) h dL_isTold_31 (by decide) ?_
  refine jm_ald6 h dL_isTold_33 ?_
  refine j_icmp_ne (tgt := 53) h dL_isTold_34 (by decide) (fun c34 => absurd (show φ 19 0 = ψ 19 0 from R.r.n0 (j := 19) (by decide)) c34) (fun c34 => ?_)
  refine j_aload_nR h dL_isTold_37 rfl ?_
  refine j_callVIF (vc := (RX2, TX2, 12)) (wr := wJ cI aJ ψ) (wc := wX cI cL cR ad C φ) h h.2.2.2.2.2.1 dL_isTold_38 (c_X2_ordered I.x) (cwV 0 h.2.2.2.2.1 gL_isTold_X2_ordered rfl rfl rfl (by decide +kernel) ⟨(Nat.le_of_ble_eq_true rfl), (Nat.le_of_ble_eq_true rfl)⟩) q9 hw9 rfl rfl rfl (Nat.le_of_ble_eq_true rfl) ⟨by show _ ≤ 66; omega, by show _ ≤ 396; omega⟩ (fun r38 u38 hu38 => ?_)
  obtain ⟨rfl, rfl⟩ := hu38
  refine j_aloadR h dL_isTold_41 rfl ?_
  refine j_bipush (v := 7) h dL_isTold_43 (by decide) ?_
  refine jm_ald7 h dL_isTold_45 ?_
  refine j_icmp_ne (tgt := 53) h dL_isTold_46 (by decide) (fun c46 => absurd (show φ 20 0 = ψ 20 0 from R.r.n0 (j := 20) (by decide)) c46) (fun c46 => ?_)
  refine j_iconst (v := 1) h dL_isTold_49 (by decide) ?_
  refine j_goto (tgt := 54) h dL_isTold_50 (by decide) ?_
  refine j_istore h dL_isTold_54 (by decide) ?_
  refine j_iconst (v := 0) h dL_isTold_56 (by decide) ?_
  refine j_istore h dL_isTold_57 (by decide) ?_
  refine jj_loopk (fun i : Nat => [(0, .ref (ad 0)), (1, .ref (aJ 0)), (2, .ref (aJ 1)), (3, .ref (aJ 2)), (4, .ref (aJ 4)), (5, .int (nI g0)), (6, .int (-1)), (7, .int 1), (8, .int (nI i))]) (fun i : Nat => wJ cI aJ ψ ++ wX cI cL cR ad C φ) (fun i : Nat => 5 * i) (fun i : Nat => 30 * i) (fun i : Nat => i ≤ n) (fun i : Nat => n - i) 0 ⟨rfl, rfl, rfl, rfl, rfl, rfl, rfl, rfl, rfl, trivial⟩ rfl (by omega) (by omega) (by omega) (fun i hi ihi => ?_)
  refine j_iload h dL_isTold_59 rfl ?_
  refine j_aloadR h dL_isTold_61 rfl ?_
  refine j_iconst (v := 0) h dL_isTold_63 (by decide) ?_
  refine jm_ald0 h dL_isTold_64 ?_
  refine j_top (R.h7 I) ?_
  refine j_icmp_ge (tgt := 260) h dL_isTold_65 (by decide) (fun c65 => ?_) (fun c65 => ?_)
  · -- t
    rw [nI_leI (by omega) (by omega)] at c65
    refine j_iconst (v := 0) h dL_isTold_260 (by decide) ?_
    refine j_istore h dL_isTold_261 (by decide) ?_
    refine jj_loopk (fun i : Nat => [(0, .ref (ad 0)), (1, .ref (aJ 0)), (2, .ref (aJ 1)), (3, .ref (aJ 2)), (4, .ref (aJ 4)), (5, .int (nI g0)), (6, .int (-1)), (7, .int 1), (8, .int (nI i))]) (fun i : Nat => wJ cI aJ ψ ++ wX cI cL cR ad C φ) (fun i : Nat => 40 + 5 * i) (fun i : Nat => 240 + 30 * i) (fun i : Nat => i ≤ b) (fun i : Nat => b - i) 0 ⟨rfl, rfl, rfl, rfl, rfl, rfl, rfl, rfl, rfl, trivial⟩ rfl (by omega) (by omega) (by omega) (fun i hi ihi => ?_)
    refine j_iload h dL_isTold_263 rfl ?_
    refine j_aloadR h dL_isTold_265 rfl ?_
    refine j_iconst (v := 1) h dL_isTold_267 (by decide) ?_
    refine jm_ald1 h dL_isTold_268 ?_
    refine j_top (R.h14 I) ?_
    refine j_icmp_ge (tgt := 378) h dL_isTold_269 (by decide) (fun c269 => ?_) (fun c269 => ?_)
    · -- t
      rw [nI_leI (by omega) (by omega)] at c269
      refine j_iconst (v := 0) h dL_isTold_378 (by decide) ?_
      refine j_istore h dL_isTold_379 (by decide) ?_
      refine jj_loopk (fun i : Nat => [(0, .ref (ad 0)), (1, .ref (aJ 0)), (2, .ref (aJ 1)), (3, .ref (aJ 2)), (4, .ref (aJ 4)), (5, .int (nI g0)), (6, .int (bsJ ψ n g0 i)), (7, .int 1), (8, .int (nI i))]) (fun i : Nat => wJ cI aJ ψ ++ wX cI cL cR ad C φ) (fun i : Nat => 65) (fun i : Nat => 390) (fun i : Nat => i ≤ q - d) (fun i : Nat => q - d - i) 0 ⟨rfl, rfl, rfl, rfl, rfl, rfl, rfl, rfl, rfl, trivial⟩ rfl (by omega) (by omega) (by omega) (fun i hi ihi => ?_)
      refine j_iload h dL_isTold_381 rfl ?_
      refine j_aloadR h dL_isTold_383 rfl ?_
      refine j_iconst (v := 2) h dL_isTold_385 (by decide) ?_
      refine jm_ald2 h dL_isTold_386 ?_
      refine j_top R.h13 ?_
      refine j_icmp_ge (tgt := 437) h dL_isTold_387 (by decide) (fun c387 => ?_) (fun c387 => ?_)
      · -- t
        rw [nI_leI (by omega) (by omega)] at c387
        obtain rfl : i = q - d := by omega
        refine j_iload h dL_isTold_437 rfl ?_
        refine j_if_eq (tgt := 457) h dL_isTold_439 (by decide) (fun c439 => absurd c439 (by decide)) (fun c439 => ?_)
        refine j_aload_nR h dL_isTold_442 rfl ?_
        refine j_iload h dL_isTold_443 rfl ?_
        refine j_callTIF (vc := (RX2, TX2, 12)) (wr := wJ cI aJ ψ) (wc := wX cI cL cR ad C φ) h h.2.2.2.2.2.1 dL_isTold_445 (c_X2_prize hl I.x) (cwV 1 h.2.2.2.2.1 gL_isTold_X2_prize rfl rfl rfl (by decide +kernel) ⟨(Nat.le_of_ble_eq_true rfl), (Nat.le_of_ble_eq_true rfl)⟩) q9 hw9 rfl rfl rfl (Nat.le_of_ble_eq_true rfl) ⟨by show _ ≤ 66; omega, by show _ ≤ 396; omega⟩ (fun E hE => absurd ((tPrizez9 hg).symm.trans hE.2) (by decide)) (fun r445 u445 hu445 => ?_)
        obtain ⟨-, rfl, rfl⟩ := hu445
        refine j_iload h dL_isTold_448 rfl ?_
        refine j_icmp_ne (tgt := 457) h dL_isTold_450 (by decide) (fun c450 => absurd (J_prize I R hg) c450) (fun c450 => ?_)
        refine j_iconst (v := 1) h dL_isTold_453 (by decide) ?_
        refine j_goto (tgt := 458) h dL_isTold_454 (by decide) ?_
        exact j_zret h hrt hlk dL_isTold_458 (Or.inr rfl) (by omega) (by omega) (⟨rfl, rfl⟩)
      · -- f
        rw [nI_leI (by omega) (by omega)] at c387
        have hi1 : i + 1 ≤ q - d := by omega
        have hi2 : q - d - (i + 1) < q - d - i := by omega
        obtain ⟨ra, hra, ea, -, -⟩ := R.riv I i (by omega)
        have hbest := (J_pz I R hg (show i ≤ q - d by omega)).2
        refine j_iload h dL_isTold_390 rfl ?_
        refine j_if_lt (tgt := 420) h dL_isTold_392 (by decide) (fun c392 => ?_) (fun c392 => ?_)
        · -- t
          refine j_aload_nR h dL_isTold_420 rfl ?_
          refine j_iload h dL_isTold_421 rfl ?_
          refine jr_ald i h dL_isTold_423 rfl (by omega) ?_
          refine j_goto (tgt := 429) h dL_isTold_424 (by decide) ?_
          refine j_istore h dL_isTold_429 (by decide) ?_
          refine j_iinc h dL_isTold_431 rfl rfl (by decide) ?_
          refine j_goto (tgt := 381) h dL_isTold_434 (by decide) ?_
          exact ihi (i + 1) hi1 hi2 _ ⟨rfl, rfl, rfl, rfl, rfl, rfl, by show some (Value.int _) = _; rw [bsJ, if_pos (Or.inl c392)], rfl, by simp [lget, nI_succ], trivial⟩ _ _ (Nat.le_refl _) (Nat.le_refl _)
        · -- f
          have hb0 : ∃ r2, r2 < b ∧ bsJ ψ n g0 i = nI r2 := by
            rcases hbest with ⟨z0, zb⟩ | ⟨-, z⟩
            · rw [zb] at c392; exact absurd (by decide) c392
            · exact z
          refine j_aload_nR h dL_isTold_395 rfl ?_
          refine j_aloadR h dL_isTold_396 rfl ?_
          refine j_aload_nR h dL_isTold_398 rfl ?_
          refine j_iload h dL_isTold_399 rfl ?_
          refine jr_ald i h dL_isTold_401 rfl (by omega) ?_
          refine j_iload h dL_isTold_402 rfl ?_
          refine j_callFI (wc := wJ cI aJ ψ) h dL_isTold_404 (c_L_likeness (n := n) (g0 := g0) (x := ψ 12 i) (R.h7 I) R.n8 hg (fun k hk h5 h3 => J_h6 I R (show ra < 8 by omega) k hk (h5.trans ea) h3)) (va_cwS 4 h.2.2.2.2.1 gL_isTold_L_likeness rfl rfl rfl (by decide +kernel) ⟨(Nat.le_of_ble_eq_true rfl), (Nat.le_of_ble_eq_true rfl)⟩) rfl rfl (Nat.le_of_ble_eq_true rfl) ⟨by show _ ≤ 66; omega, by show _ ≤ 396; omega⟩ (fun r404 u404 hu404 => ?_)
          obtain ⟨rfl, rfl⟩ := hu404
          refine j_aload_nR h dL_isTold_407 rfl ?_
          refine j_aloadR h dL_isTold_408 rfl ?_
          refine j_iload h dL_isTold_410 rfl ?_
          refine j_iload h dL_isTold_412 rfl ?_
          refine j_callFI (wc := wJ cI aJ ψ) h dL_isTold_414 (c_L_likeness (n := n) (g0 := g0) (x := bsJ ψ n g0 i) (R.h7 I) R.n8 hg (by obtain ⟨r2, hr2, e2⟩ := hb0; exact (fun k hk h5 h3 => J_h6 I R (show r2 < 8 by omega) k hk (h5.trans e2) h3))) (va_cwS 4 h.2.2.2.2.1 gL_isTold_L_likeness rfl rfl rfl (by decide +kernel) ⟨(Nat.le_of_ble_eq_true rfl), (Nat.le_of_ble_eq_true rfl)⟩) rfl rfl (Nat.le_of_ble_eq_true rfl) ⟨by show _ ≤ 66; omega, by show _ ≤ 396; omega⟩ (fun r414 u414 hu414 => ?_)
          obtain ⟨rfl, rfl⟩ := hu414
          refine j_icmp_le (tgt := 427) h dL_isTold_417 (by decide) (fun c417 => ?_) (fun c417 => ?_)
          · -- t
            have c417 : lkJ ψ n g0 (ψ 12 i) ≤ lkJ ψ n g0 (bsJ ψ n g0 i) := c417
            refine j_iload h dL_isTold_427 rfl ?_
            refine j_istore h dL_isTold_429 (by decide) ?_
            refine j_iinc h dL_isTold_431 rfl rfl (by decide) ?_
            refine j_goto (tgt := 381) h dL_isTold_434 (by decide) ?_
            exact ihi (i + 1) hi1 hi2 _ ⟨rfl, rfl, rfl, rfl, rfl, rfl, by show some (Value.int _) = _; rw [bsJ, if_neg (fun z => z.elim c392 (Int32.not_lt.mpr c417))], rfl, by simp [lget, nI_succ], trivial⟩ _ _ (Nat.le_refl _) (Nat.le_refl _)
          · -- f
            have c417 : ¬ lkJ ψ n g0 (ψ 12 i) ≤ lkJ ψ n g0 (bsJ ψ n g0 i) := c417
            refine j_aload_nR h dL_isTold_420 rfl ?_
            refine j_iload h dL_isTold_421 rfl ?_
            refine jr_ald i h dL_isTold_423 rfl (by omega) ?_
            refine j_goto (tgt := 429) h dL_isTold_424 (by decide) ?_
            refine j_istore h dL_isTold_429 (by decide) ?_
            refine j_iinc h dL_isTold_431 rfl rfl (by decide) ?_
            refine j_goto (tgt := 381) h dL_isTold_434 (by decide) ?_
            exact ihi (i + 1) hi1 hi2 _ ⟨rfl, rfl, rfl, rfl, rfl, rfl, by show some (Value.int _) = _; rw [bsJ, if_pos (Or.inr (Int32.not_le.mp c417))], rfl, by simp [lget, nI_succ], trivial⟩ _ _ (Nat.le_refl _) (Nat.le_refl _)
    · -- f
      rw [nI_leI (by omega) (by omega)] at c269
      have hi8 : i < b := by omega
      refine j_iload h dL_isTold_272 rfl ?_
      refine j_if_eq (tgt := 378) h dL_isTold_274 (by decide) (fun c274 => absurd c274 (by decide)) (fun c274 => ?_)
      refine j_aload_nR h dL_isTold_277 rfl ?_
      refine j_iload h dL_isTold_278 rfl ?_
      refine j_callTIF (vc := (RX2, TX2, 12)) (wr := wJ cI aJ ψ) (wc := wX cI cL cR ad C φ) h h.2.2.2.2.2.1 dL_isTold_280 (c_X2_sortOf hl I.x) (cwV 1 h.2.2.2.2.1 gL_isTold_X2_sortOf rfl rfl rfl (by decide +kernel) ⟨(Nat.le_of_ble_eq_true rfl), (Nat.le_of_ble_eq_true rfl)⟩) q9 hw9 rfl rfl rfl (Nat.le_of_ble_eq_true rfl) ⟨by show _ ≤ 66; omega, by show _ ≤ 396; omega⟩ (fun E hE => absurd ((tFz9 I hi8).symm.trans hE.2) (by decide)) (fun r280 u280 hu280 => ?_)
      obtain ⟨-, rfl, rfl⟩ := hu280
      refine j_aload_nR h dL_isTold_283 rfl ?_
      refine j_iconst (v := 4) h dL_isTold_284 (by decide) ?_
      refine j_iload h dL_isTold_285 rfl ?_
      refine j_imul h dL_isTold_287 ?_
      refine j_iconst (v := 2) h dL_isTold_288 (by decide) ?_
      refine j_iadd h dL_isTold_289 ?_
      refine jf_ald2 i h dL_isTold_290 (ix4_2 _) (by omega) ?_
      refine j_icmp_ne (tgt := 369) h dL_isTold_291 (by decide) (fun c291 => absurd (by rw [nI_clamp (by omega)]; exact R.f (j := 10) (by decide) hi8) c291) (fun c291 => ?_)
      refine j_aload_nR h dL_isTold_294 rfl ?_
      refine j_iload h dL_isTold_295 rfl ?_
      refine j_callTIF (vc := (RX2, TX2, 12)) (wr := wJ cI aJ ψ) (wc := wX cI cL cR ad C φ) h h.2.2.2.2.2.1 dL_isTold_297 (c_X2_front hl I.x) (cwV 1 h.2.2.2.2.1 gL_isTold_X2_front rfl rfl rfl (by decide +kernel) ⟨(Nat.le_of_ble_eq_true rfl), (Nat.le_of_ble_eq_true rfl)⟩) q9 hw9 rfl rfl rfl (Nat.le_of_ble_eq_true rfl) ⟨by show _ ≤ 66; omega, by show _ ≤ 396; omega⟩ (fun E hE => absurd ((tFz9 I hi8).symm.trans hE.2) (by decide)) (fun r297 u297 hu297 => ?_)
      obtain ⟨-, rfl, rfl⟩ := hu297
      refine j_top (show (if φ 10 (nI i).toNatClampNeg = 1 then φ 11 (nI i).toNatClampNeg else -1) = if φ 10 i = 1 then φ 11 i else -1 by rw [nI_clamp (by omega)]) ?_
      refine jj_cut 324 [(0, .ref (ad 0)), (1, .ref (aJ 0)), (2, .ref (aJ 1)), (3, .ref (aJ 2)), (4, .ref (aJ 4)), (5, .int (nI g0)), (6, .int (-1)), (7, .int 1), (8, .int (nI i))] [.int (if φ 10 i = 1 then φ 11 i else -1)] (fun v => v = (if φ 10 i = 1 then φ 11 i else -1)) (fun v324 hv324 => ?_) (fun cut324 => ?_)
      · -- behind
        obtain rfl := hv324
        refine j_icmp_ne (tgt := 369) h dL_isTold_324 (by decide) (fun c324 => absurd (rfl) c324) (fun c324 => ?_)
        refine j_aload_nR h dL_isTold_327 rfl ?_
        refine j_iload h dL_isTold_328 rfl ?_
        refine j_callTIF (vc := (RX2, TX2, 12)) (wr := wJ cI aJ ψ) (wc := wX cI cL cR ad C φ) h h.2.2.2.2.2.1 dL_isTold_330 (c_X2_load hl I.x) (cwV 1 h.2.2.2.2.1 gL_isTold_X2_load rfl rfl rfl (by decide +kernel) ⟨(Nat.le_of_ble_eq_true rfl), (Nat.le_of_ble_eq_true rfl)⟩) q9 hw9 rfl rfl rfl (Nat.le_of_ble_eq_true rfl) ⟨by show _ ≤ 66; omega, by show _ ≤ 396; omega⟩ (fun E hE => absurd ((tFz9 I hi8).symm.trans hE.2) (by decide)) (fun r330 u330 hu330 => ?_)
        obtain ⟨-, rfl, rfl⟩ := hu330
        refine j_aload_nR h dL_isTold_333 rfl ?_
        refine j_aloadR h dL_isTold_334 rfl ?_
        refine j_iload h dL_isTold_336 rfl ?_
        refine j_callFI (wc := wJ cI aJ ψ) h dL_isTold_338 (c_L_load (n := n) (R.h7 I) R.n8) (va_cwS 3 h.2.2.2.2.1 gL_isTold_L_load rfl rfl rfl (by decide +kernel) ⟨(Nat.le_of_ble_eq_true rfl), (Nat.le_of_ble_eq_true rfl)⟩) rfl rfl (Nat.le_of_ble_eq_true rfl) ⟨by show _ ≤ 66; omega, by show _ ≤ 396; omega⟩ (fun r338 u338 hu338 => ?_)
        obtain ⟨rfl, rfl⟩ := hu338
        refine j_icmp_ne (tgt := 369) h dL_isTold_341 (by decide) (fun c341 => absurd (by rw [nI_clamp (by omega)]; exact (J_load I R hi8).symm) c341) (fun c341 => ?_)
        refine j_aload_nR h dL_isTold_344 rfl ?_
        refine j_iload h dL_isTold_345 rfl ?_
        refine j_iload h dL_isTold_347 rfl ?_
        refine j_callTIF (vc := (RX2, TX2, 12)) (wr := wJ cI aJ ψ) (wc := wX cI cL cR ad C φ) h h.2.2.2.2.2.1 dL_isTold_349 (c_X2_likeness hl I.x) (cwV 2 h.2.2.2.2.1 gL_isTold_X2_likeness rfl rfl rfl (by decide +kernel) ⟨(Nat.le_of_ble_eq_true rfl), (Nat.le_of_ble_eq_true rfl)⟩) q9 hw9 rfl rfl rfl (Nat.le_of_ble_eq_true rfl) ⟨by show _ ≤ 66; omega, by show _ ≤ 396; omega⟩ (fun E hE => (fun z => z.elim (fun z => absurd ((tLikez9 I hi8 hg).symm.trans z.2) (by decide)) (fun z => absurd ((tLikez9 I hi8 hg).symm.trans z.2) (by decide))) hE) (fun r349 u349 hu349 => ?_)
        obtain ⟨-, rfl, rfl⟩ := hu349
        refine j_aload_nR h dL_isTold_352 rfl ?_
        refine j_aloadR h dL_isTold_353 rfl ?_
        refine j_iload h dL_isTold_355 rfl ?_
        refine j_iload h dL_isTold_357 rfl ?_
        refine j_callFI (wc := wJ cI aJ ψ) h dL_isTold_359 (c_L_likeness (n := n) (g0 := g0) (x := nI i) (R.h7 I) R.n8 hg (J_h6 I R (by omega))) (va_cwS 4 h.2.2.2.2.1 gL_isTold_L_likeness rfl rfl rfl (by decide +kernel) ⟨(Nat.le_of_ble_eq_true rfl), (Nat.le_of_ble_eq_true rfl)⟩) rfl rfl (Nat.le_of_ble_eq_true rfl) ⟨by show _ ≤ 66; omega, by show _ ≤ 396; omega⟩ (fun r359 u359 hu359 => ?_)
        obtain ⟨rfl, rfl⟩ := hu359
        refine j_icmp_ne (tgt := 369) h dL_isTold_362 (by decide) (fun c362 => absurd (by rw [nI_clamp (by omega)]; exact (J_like I R hi8 hg).1) c362) (fun c362 => ?_)
        refine j_iconst (v := 1) h dL_isTold_365 (by decide) ?_
        refine j_goto (tgt := 370) h dL_isTold_366 (by decide) ?_
        refine j_istore h dL_isTold_370 (by decide) ?_
        refine j_iinc h dL_isTold_372 rfl rfl (by decide) ?_
        refine j_goto (tgt := 263) h dL_isTold_375 (by decide) ?_
        exact ihi (i + 1) (by omega) (by omega) _ ⟨rfl, rfl, rfl, rfl, rfl, rfl, rfl, rfl, by simp [lget, nI_succ], trivial⟩ _ _ (by omega) (by omega)
      · -- ahead
        refine j_aload_nR h dL_isTold_300 rfl ?_
        refine j_iconst (v := 4) h dL_isTold_301 (by decide) ?_
        refine j_iload h dL_isTold_302 rfl ?_
        refine j_imul h dL_isTold_304 ?_
        refine j_iconst (v := 2) h dL_isTold_305 (by decide) ?_
        refine j_iadd h dL_isTold_306 ?_
        refine jf_ald2 i h dL_isTold_307 (ix4_2 _) (by omega) ?_
        refine j_iconst (v := 1) h dL_isTold_308 (by decide) ?_
        refine j_icmp_ne (tgt := 323) h dL_isTold_309 (by decide) (fun c309 => ?_) (fun c309 => ?_)
        · -- t
          refine j_iconst (v := (-1)) h dL_isTold_323 (by decide) ?_
          have h1 : True := trivial
          exact cut324 _ (by first | (have h1 : φ 10 i = 1 := (R.f (j := 10) (by decide) hi8).trans c309; rw [if_pos h1, R.r.fr hi8 h1, ov_n _ _ (by decide)]; done) | (rw [if_neg (fun z => c309 ((R.f (j := 10) (by decide) hi8).symm.trans z))])) _ ⟨rfl, rfl, rfl, rfl, rfl, rfl, rfl, rfl, rfl, trivial⟩
        · -- f
          refine j_aload_nR h dL_isTold_312 rfl ?_
          refine j_iconst (v := 4) h dL_isTold_313 (by decide) ?_
          refine j_iload h dL_isTold_314 rfl ?_
          refine j_imul h dL_isTold_316 ?_
          refine j_iconst (v := 3) h dL_isTold_317 (by decide) ?_
          refine j_iadd h dL_isTold_318 ?_
          refine jf_ald3 i h dL_isTold_319 (ix4_3 _) (by omega) ?_
          refine j_goto (tgt := 324) h dL_isTold_320 (by decide) ?_
          have h1 : True := trivial
          exact cut324 _ (by first | (have h1 : φ 10 i = 1 := (R.f (j := 10) (by decide) hi8).trans c309; rw [if_pos h1, R.r.fr hi8 h1, ov_n _ _ (by decide)]; done) | (rw [if_neg (fun z => c309 ((R.f (j := 10) (by decide) hi8).symm.trans z))])) _ ⟨rfl, rfl, rfl, rfl, rfl, rfl, rfl, rfl, rfl, trivial⟩
  · -- f
    rw [nI_leI (by omega) (by omega)] at c65
    have hi8 : i < n := by omega
    refine j_iload h dL_isTold_68 rfl ?_
    refine j_if_eq (tgt := 260) h dL_isTold_70 (by decide) (fun c70 => absurd c70 (by decide)) (fun c70 => ?_)
    refine j_aload_nR h dL_isTold_73 rfl ?_
    refine j_aload_nR h dL_isTold_74 rfl ?_
    refine j_iload h dL_isTold_75 rfl ?_
    refine j_callFI (wc := wJ cI aJ ψ) h dL_isTold_77 (c_L_place (a := i) (by omega) (R.h5 I i hi8)) (va_cwS 3 h.2.2.2.2.1 gL_isTold_L_place rfl rfl rfl (by decide +kernel) ⟨(Nat.le_of_ble_eq_true rfl), (Nat.le_of_ble_eq_true rfl)⟩) rfl rfl (Nat.le_of_ble_eq_true rfl) ⟨by show _ ≤ 66; omega, by show _ ≤ 396; omega⟩ (fun r77 u77 hu77 => ?_)
    obtain ⟨rfl, rfl⟩ := hu77
    refine j_istore h dL_isTold_80 (by decide) ?_
    refine jj_joinP 169 [(0, .ref (ad 0)), (1, .ref (aJ 0)), (2, .ref (aJ 1)), (3, .ref (aJ 2)), (4, .ref (aJ 4)), (5, .int (nI g0)), (6, .int (-1)), (7, .int 1), (8, .int (nI i)), (9, .int (plJ ψ i)), (10, .int (if hpB φ i = true then nsJ ψ i n else -1))] (True) (fun hj169 => ?_) (fun cut169 => ?_)
    · -- behind
      have hvn : (if hpB φ i = true then nsJ ψ i n else -1) = if hpB φ i = true then nrS φ i n else -1 := by
        by_cases hP : hpB φ i = true
        · rw [if_pos hP, if_pos hP]; exact J_nr I R hi8 hP (Nat.le_refl n)
        · rw [if_neg hP, if_neg hP]
      have hno : (if hpB φ i = true then noF φ i n else -1) = if hpB φ i = true then nrS φ i n else -1 := by
        by_cases hP : hpB φ i = true
        · rw [if_pos hP, if_pos hP]; exact no_nr I hi8 hP
        · rw [if_neg hP, if_neg hP]
      refine j_aload_nR h dL_isTold_169 rfl ?_
      refine j_iload h dL_isTold_170 rfl ?_
      refine j_callTIF (vc := (RX2, TX2, 12)) (wr := wJ cI aJ ψ) (wc := wX cI cL cR ad C φ) h h.2.2.2.2.2.1 dL_isTold_172 (c_X2_stateOf hl I.x) (cwV 1 h.2.2.2.2.1 gL_isTold_X2_stateOf rfl rfl rfl (by decide +kernel) ⟨(Nat.le_of_ble_eq_true rfl), (Nat.le_of_ble_eq_true rfl)⟩) q9 hw9 rfl rfl rfl (Nat.le_of_ble_eq_true rfl) ⟨by show _ ≤ 66; omega, by show _ ≤ 396; omega⟩ (fun E hE => absurd ((tLz9 I hi8).symm.trans hE.2) (by decide)) (fun r172 u172 hu172 => ?_)
      obtain ⟨-, rfl, rfl⟩ := hu172
      refine j_aload_nR h dL_isTold_175 rfl ?_
      refine j_bipush (v := 8) h dL_isTold_176 (by decide) ?_
      refine j_iload h dL_isTold_178 rfl ?_
      refine j_imul h dL_isTold_180 ?_
      refine j_iconst (v := 3) h dL_isTold_181 (by decide) ?_
      refine j_iadd h dL_isTold_182 ?_
      refine jl_ald i 3 h dL_isTold_183 (ix8_3 _) (by decide) (by omega) ?_
      refine j_icmp_ne (tgt := 251) h dL_isTold_184 (by decide) (fun c184 => absurd (by rw [nI_clamp (by omega)]; exact R.l (j := 3) (by decide) hi8) c184) (fun c184 => ?_)
      refine j_aload_nR h dL_isTold_187 rfl ?_
      refine j_iload h dL_isTold_188 rfl ?_
      refine j_callTIF (vc := (RX2, TX2, 12)) (wr := wJ cI aJ ψ) (wc := wX cI cL cR ad C φ) h h.2.2.2.2.2.1 dL_isTold_190 (c_X2_left hl I.x) (cwV 1 h.2.2.2.2.1 gL_isTold_X2_left rfl rfl rfl (by decide +kernel) ⟨(Nat.le_of_ble_eq_true rfl), (Nat.le_of_ble_eq_true rfl)⟩) q9 hw9 rfl rfl rfl (Nat.le_of_ble_eq_true rfl) ⟨by show _ ≤ 66; omega, by show _ ≤ 396; omega⟩ (fun E hE => absurd ((tLz9 I hi8).symm.trans hE.2) (by decide)) (fun r190 u190 hu190 => ?_)
      obtain ⟨-, rfl, rfl⟩ := hu190
      refine j_aload_nR h dL_isTold_193 rfl ?_
      refine j_bipush (v := 8) h dL_isTold_194 (by decide) ?_
      refine j_iload h dL_isTold_196 rfl ?_
      refine j_imul h dL_isTold_198 ?_
      refine j_iconst (v := 4) h dL_isTold_199 (by decide) ?_
      refine j_iadd h dL_isTold_200 ?_
      refine jl_ald i 4 h dL_isTold_201 (ix8_4 _) (by decide) (by omega) ?_
      refine j_icmp_ne (tgt := 251) h dL_isTold_202 (by decide) (fun c202 => absurd (by rw [nI_clamp (by omega)]; exact R.l (j := 4) (by decide) hi8) c202) (fun c202 => ?_)
      refine j_aload_nR h dL_isTold_205 rfl ?_
      refine j_iload h dL_isTold_206 rfl ?_
      refine j_callTIF (vc := (RX2, TX2, 12)) (wr := wJ cI aJ ψ) (wc := wX cI cL cR ad C φ) h h.2.2.2.2.2.1 dL_isTold_208 (c_X2_placeOf hl I.x) (cwV 1 h.2.2.2.2.1 gL_isTold_X2_placeOf rfl rfl rfl (by decide +kernel) ⟨(Nat.le_of_ble_eq_true rfl), (Nat.le_of_ble_eq_true rfl)⟩) q9 hw9 rfl rfl rfl (Nat.le_of_ble_eq_true rfl) ⟨by show _ ≤ 66; omega, by show _ ≤ 396; omega⟩ (fun E hE => absurd ((tLz9 I hi8).symm.trans hE.2) (by decide)) (fun r208 u208 hu208 => ?_)
      obtain ⟨-, rfl, rfl⟩ := hu208
      refine j_top (show (if hpB φ (nI i).toNatClampNeg = true then pl φ (nI i).toNatClampNeg else -1) = if hpB φ i = true then pl φ i else -1 by rw [nI_clamp (by omega)]) ?_
      refine jj_cut 222 [(0, .ref (ad 0)), (1, .ref (aJ 0)), (2, .ref (aJ 1)), (3, .ref (aJ 2)), (4, .ref (aJ 4)), (5, .int (nI g0)), (6, .int (-1)), (7, .int 1), (8, .int (nI i)), (9, .int (plJ ψ i)), (10, .int (if hpB φ i = true then nsJ ψ i n else -1))] [.int (if hpB φ i = true then pl φ i else -1)] (fun v => v = (if hpB φ i = true then pl φ i else -1)) (fun v222 hv222 => ?_) (fun cut222 => ?_)
      · -- behind
        obtain rfl := hv222
        refine j_icmp_ne (tgt := 251) h dL_isTold_222 (by decide) (fun c222 => absurd (rfl) c222) (fun c222 => ?_)
        refine j_aload_nR h dL_isTold_225 rfl ?_
        refine j_iload h dL_isTold_226 rfl ?_
        refine j_callTIF (vc := (RX2, TX2, 12)) (wr := wJ cI aJ ψ) (wc := wX cI cL cR ad C φ) h h.2.2.2.2.2.1 dL_isTold_228 (c_X2_nearest hl I.x I.lp (fun r hr h1 => (I.lc.2.2.2 r hr (by rw [h1]; decide)).imp fun c z => ⟨z.1, z.2.2⟩)) (cwV 1 h.2.2.2.2.1 gL_isTold_X2_nearest rfl rfl rfl (by decide +kernel) ⟨(Nat.le_of_ble_eq_true rfl), (Nat.le_of_ble_eq_true rfl)⟩) q9 hw9 rfl rfl rfl (Nat.le_of_ble_eq_true rfl) ⟨by show _ ≤ 66; omega, by show _ ≤ 396; omega⟩ (fun E hE => absurd ((tLz9 I hi8).symm.trans hE.2) (by decide)) (fun r228 u228 hu228 => ?_)
        obtain ⟨-, rfl, rfl⟩ := hu228
        refine j_iload h dL_isTold_231 rfl ?_
        refine j_icmp_ne (tgt := 251) h dL_isTold_233 (by decide) (fun c233 => absurd (show neC φ q (nI i).toNatClampNeg = (if hpB φ i = true then nsJ ψ i n else -1) by rw [nI_clamp (by omega), ne_nr I hi8]; exact hvn.symm) c233) (fun c233 => ?_)
        refine j_aload_nR h dL_isTold_236 rfl ?_
        refine j_iload h dL_isTold_237 rfl ?_
        refine j_callTIF (vc := (RX2, TX2, 12)) (wr := wJ cI aJ ψ) (wc := wX cI cL cR ad C φ) h h.2.2.2.2.2.1 dL_isTold_239 (c_X2_nearestOfAll hl I.x I.lp (plN_of I)) (cwV 1 h.2.2.2.2.1 gL_isTold_X2_nearestOfAll rfl rfl rfl (by decide +kernel) ⟨(Nat.le_of_ble_eq_true rfl), (Nat.le_of_ble_eq_true rfl)⟩) q9 hw9 rfl rfl rfl (Nat.le_of_ble_eq_true rfl) ⟨by show _ ≤ 66; omega, by show _ ≤ 396; omega⟩ (fun E hE => absurd ((tLz9 I hi8).symm.trans hE.2) (by decide)) (fun r239 u239 hu239 => ?_)
        obtain ⟨-, rfl, rfl⟩ := hu239
        refine j_iload h dL_isTold_242 rfl ?_
        refine j_icmp_ne (tgt := 251) h dL_isTold_244 (by decide) (fun c244 => absurd (show (if hpB φ (nI i).toNatClampNeg = true then noF φ (nI i).toNatClampNeg n else -1) = (if hpB φ i = true then nsJ ψ i n else -1) by rw [nI_clamp (by omega), hvn]; exact hno) c244) (fun c244 => ?_)
        refine j_iconst (v := 1) h dL_isTold_247 (by decide) ?_
        refine j_goto (tgt := 252) h dL_isTold_248 (by decide) ?_
        refine j_istore h dL_isTold_252 (by decide) ?_
        refine j_iinc h dL_isTold_254 rfl rfl (by decide) ?_
        refine j_goto (tgt := 59) h dL_isTold_257 (by decide) ?_
        exact ihi (i + 1) (by omega) (by omega) _ ⟨rfl, rfl, rfl, rfl, rfl, rfl, rfl, rfl, by simp [lget, nI_succ], trivial⟩ _ _ (by omega) (by omega)
      · -- ahead
        refine j_iload h dL_isTold_211 rfl ?_
        refine j_if_ge (tgt := 220) h dL_isTold_213 (by decide) (fun c213 => ?_) (fun c213 => ?_)
        · -- t
          refine j_iload h dL_isTold_220 rfl ?_
          have hP : True := trivial
          have hnP : True := trivial
          exact cut222 _ (by first | (have hP : hpB φ i = true := plJ_ge R I hi8 (Int32.not_lt.mpr c213); rw [if_pos hP, plJ, if_pos (by rw [R.hp I hi8]; exact hP)]; exact R.pl I hi8 hP) | (have hnP : ¬ hpB φ i = true := fun z => c213 (Int32.not_lt.mp (plJ_nn I R hi8 z)); rw [if_neg hnP])) _ ⟨rfl, rfl, rfl, rfl, rfl, rfl, rfl, rfl, rfl, rfl, rfl, trivial⟩
        · -- f
          refine j_iconst (v := (-1)) h dL_isTold_216 (by decide) ?_
          refine j_goto (tgt := 222) h dL_isTold_217 (by decide) ?_
          have hP : True := trivial
          have hnP : True := trivial
          exact cut222 _ (by first | (have hP : hpB φ i = true := plJ_ge R I hi8 (Int32.not_lt.mpr c213); rw [if_pos hP, plJ, if_pos (by rw [R.hp I hi8]; exact hP)]; exact R.pl I hi8 hP) | (have hnP : ¬ hpB φ i = true := fun z => c213 (Int32.not_lt.mp (plJ_nn I R hi8 z)); rw [if_neg hnP])) _ ⟨rfl, rfl, rfl, rfl, rfl, rfl, rfl, rfl, rfl, rfl, rfl, trivial⟩
    · -- ahead
      refine j_iconst (v := (-1)) h dL_isTold_82 (by decide) ?_
      refine j_istore h dL_isTold_83 (by decide) ?_
      refine j_iconst (v := 0) h dL_isTold_85 (by decide) ?_
      refine j_istore h dL_isTold_86 (by decide) ?_
      refine jj_loop (fun j : Nat => [(0, .ref (ad 0)), (1, .ref (aJ 0)), (2, .ref (aJ 1)), (3, .ref (aJ 2)), (4, .ref (aJ 4)), (5, .int (nI g0)), (6, .int (-1)), (7, .int 1), (8, .int (nI i)), (9, .int (plJ ψ i)), (10, .int (nsJ ψ i j)), (11, .int (nI j))]) (fun j : Nat => wJ cI aJ ψ ++ wX cI cL cR ad C φ) (fun j : Nat => j ≤ n ∧ (hpB φ i = true ∨ j = 0)) (fun j : Nat => n - j) 0 ⟨rfl, rfl, rfl, rfl, rfl, rfl, rfl, rfl, rfl, rfl, rfl, rfl, trivial⟩ rfl ⟨by omega, Or.inr rfl⟩ (fun j hj ihj => ?_)
      obtain ⟨hj, hj0⟩ := hj
      refine j_iload h dL_isTold_88 rfl ?_
      refine j_aloadR h dL_isTold_90 rfl ?_
      refine j_iconst (v := 0) h dL_isTold_92 (by decide) ?_
      refine jm_ald0 h dL_isTold_93 ?_
      refine j_top (R.h7 I) ?_
      refine j_icmp_ge (tgt := 169) h dL_isTold_94 (by decide) (fun c94 => ?_) (fun c94 => ?_)
      · -- t
        rw [nI_leI (by omega) (by omega)] at c94
        obtain rfl : n = j := by omega
        have hP : hpB φ i = true := hj0.resolve_right (by omega)
        have hnP : True := trivial
        exact cut169 trivial _ ⟨rfl, rfl, rfl, rfl, rfl, rfl, rfl, rfl, rfl, rfl, by first | (show some (Value.int _) = _; rw [if_pos hP]; done) | (show some (Value.int _) = _; rw [if_neg hnP]; rfl), trivial⟩
      · -- f
        rw [nI_leI (by omega) (by omega)] at c94
        refine j_iload h dL_isTold_97 rfl ?_
        refine j_if_lt (tgt := 169) h dL_isTold_99 (by decide) (fun c99 => ?_) (fun c99 => ?_)
        · -- t
          have hnP : ¬ hpB φ i = true := fun z => plJ_nn I R hi8 z c99
          obtain rfl : j = 0 := hj0.resolve_left hnP
          exact cut169 trivial _ ⟨rfl, rfl, rfl, rfl, rfl, rfl, rfl, rfl, rfl, rfl, by first | (show some (Value.int _) = _; rw [if_pos hP]; done) | (show some (Value.int _) = _; rw [if_neg hnP]; rfl), trivial⟩
        · -- f
          have hP : hpB φ i = true := plJ_ge R I hi8 c99
          refine j_iload h dL_isTold_102 rfl ?_
          refine j_iload h dL_isTold_104 rfl ?_
          refine j_icmp_eq (tgt := 122) h dL_isTold_106 (by decide) (fun c106 => ?_) (fun c106 => ?_)
          · -- t
            have hji : j = i := (nI_eq (by omega) (by omega)).mp c106
            refine j_iconst (v := (-1)) h dL_isTold_122 (by decide) ?_
            refine j_goto (tgt := 135) h dL_isTold_123 (by decide) ?_
            refine j_istore h dL_isTold_135 (by decide) ?_
            refine j_iload h dL_isTold_137 rfl ?_
            refine j_if_lt (tgt := 159) h dL_isTold_139 (by decide) (fun c139 => ?_) (fun c139 => absurd c139 (by decide))
            refine j_iload h dL_isTold_159 rfl ?_
            refine j_istore h dL_isTold_161 (by decide) ?_
            refine j_iinc h dL_isTold_163 rfl rfl (by decide) ?_
            refine j_goto (tgt := 88) h dL_isTold_166 (by decide) ?_
            exact ihj (j + 1) ⟨by omega, Or.inl hP⟩ (by omega) _ ⟨rfl, rfl, rfl, rfl, rfl, rfl, rfl, rfl, rfl, rfl, by show some (Value.int _) = _; rw [nsJ, if_neg (fun z => z.1 hji)], by simp [lget, nI_succ], trivial⟩
          · -- f
            have hji : j ≠ i := fun z => c106 (by rw [z])
            refine j_aload_nR h dL_isTold_109 rfl ?_
            refine j_bipush (v := 8) h dL_isTold_110 (by decide) ?_
            refine j_iload h dL_isTold_112 rfl ?_
            refine j_imul h dL_isTold_114 ?_
            refine j_iconst (v := 3) h dL_isTold_115 (by decide) ?_
            refine j_iadd h dL_isTold_116 ?_
            refine jl_ald j 3 h dL_isTold_117 (ix8_3 _) (by decide) (by omega) ?_
            refine j_iconst (v := 1) h dL_isTold_118 (by decide) ?_
            refine j_icmp_eq (tgt := 126) h dL_isTold_119 (by decide) (fun c119 => ?_) (fun c119 => ?_)
            · -- t
              refine j_aload_nR h dL_isTold_126 rfl ?_
              refine j_aload_nR h dL_isTold_127 rfl ?_
              refine j_iload h dL_isTold_128 rfl ?_
              refine j_iload h dL_isTold_130 rfl ?_
              refine j_callFI (wc := wJ cI aJ ψ) h dL_isTold_132 (c_L_apart (a := j) (b := i) (by omega) (by omega) (R.h5 I j (by omega)) (R.h5 I i hi8)) (va_cwS 4 h.2.2.2.2.1 gL_isTold_L_apart rfl rfl rfl (by decide +kernel) ⟨(Nat.le_of_ble_eq_true rfl), (Nat.le_of_ble_eq_true rfl)⟩) rfl rfl (Nat.le_of_ble_eq_true rfl) ⟨by show _ ≤ 66; omega, by show _ ≤ 396; omega⟩ (fun r132 u132 hu132 => ?_)
              obtain ⟨rfl, rfl⟩ := hu132
              refine j_istore h dL_isTold_135 (by decide) ?_
              refine j_iload h dL_isTold_137 rfl ?_
              refine j_if_lt (tgt := 159) h dL_isTold_139 (by decide) (fun c139 => absurd c139 (J_app I R hi8 hP j (by omega) c119)) (fun c139 => ?_)
              refine j_iload h dL_isTold_142 rfl ?_
              refine j_if_lt (tgt := 154) h dL_isTold_144 (by decide) (fun c144 => ?_) (fun c144 => ?_)
              · -- t
                refine j_iload h dL_isTold_154 rfl ?_
                refine j_goto (tgt := 161) h dL_isTold_156 (by decide) ?_
                refine j_istore h dL_isTold_161 (by decide) ?_
                refine j_iinc h dL_isTold_163 rfl rfl (by decide) ?_
                refine j_goto (tgt := 88) h dL_isTold_166 (by decide) ?_
                exact ihj (j + 1) ⟨by omega, Or.inl hP⟩ (by omega) _ ⟨rfl, rfl, rfl, rfl, rfl, rfl, rfl, rfl, rfl, rfl, by show some (Value.int _) = _; rw [nsJ, if_pos ⟨hji, c119⟩, if_pos (Or.inl c144)], by simp [lget, nI_succ], trivial⟩
              · -- f
                refine j_iload h dL_isTold_147 rfl ?_
                refine j_iload h dL_isTold_149 rfl ?_
                refine j_icmp_ge (tgt := 159) h dL_isTold_151 (by decide) (fun c151 => ?_) (fun c151 => ?_)
                · -- t
                  refine j_iload h dL_isTold_159 rfl ?_
                  refine j_istore h dL_isTold_161 (by decide) ?_
                  refine j_iinc h dL_isTold_163 rfl rfl (by decide) ?_
                  refine j_goto (tgt := 88) h dL_isTold_166 (by decide) ?_
                  exact ihj (j + 1) ⟨by omega, Or.inl hP⟩ (by omega) _ ⟨rfl, rfl, rfl, rfl, rfl, rfl, rfl, rfl, rfl, rfl, by show some (Value.int _) = _; rw [nsJ, if_pos ⟨hji, c119⟩, if_neg (fun z => z.elim c144 (Int32.not_lt.mpr c151))], by simp [lget, nI_succ], trivial⟩
                · -- f
                  refine j_iload h dL_isTold_154 rfl ?_
                  refine j_goto (tgt := 161) h dL_isTold_156 (by decide) ?_
                  refine j_istore h dL_isTold_161 (by decide) ?_
                  refine j_iinc h dL_isTold_163 rfl rfl (by decide) ?_
                  refine j_goto (tgt := 88) h dL_isTold_166 (by decide) ?_
                  exact ihj (j + 1) ⟨by omega, Or.inl hP⟩ (by omega) _ ⟨rfl, rfl, rfl, rfl, rfl, rfl, rfl, rfl, rfl, rfl, by show some (Value.int _) = _; rw [nsJ, if_pos ⟨hji, c119⟩, if_pos (Or.inr (Int32.not_le.mp c151))], by simp [lget, nI_succ], trivial⟩
            · -- f
              refine j_iconst (v := (-1)) h dL_isTold_122 (by decide) ?_
              refine j_goto (tgt := 135) h dL_isTold_123 (by decide) ?_
              refine j_istore h dL_isTold_135 (by decide) ?_
              refine j_iload h dL_isTold_137 rfl ?_
              refine j_if_lt (tgt := 159) h dL_isTold_139 (by decide) (fun c139 => ?_) (fun c139 => absurd c139 (by decide))
              refine j_iload h dL_isTold_159 rfl ?_
              refine j_istore h dL_isTold_161 (by decide) ?_
              refine j_iinc h dL_isTold_163 rfl rfl (by decide) ?_
              refine j_goto (tgt := 88) h dL_isTold_166 (by decide) ?_
              exact ihj (j + 1) ⟨by omega, Or.inl hP⟩ (by omega) _ ⟨rfl, rfl, rfl, rfl, rfl, rfl, rfl, rfl, rfl, rfl, by show some (Value.int _) = _; rw [nsJ, if_neg (fun z => c119 z.2)], by simp [lget, nI_succ], trivial⟩
