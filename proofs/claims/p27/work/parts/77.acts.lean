theorem sub_tel (a b c : Int32) : a - b + (b - c) = a - c := by
  rw [Int32.sub_eq_add_neg, Int32.sub_eq_add_neg b, ← Int32.add_assoc, Int32.add_assoc a, Int32.add_comm (-b) b, ← Int32.sub_eq_add_neg b b, Int32.sub_self, Int32.add_zero, ← Int32.sub_eq_add_neg]
theorem inB_N {v a c : Nat} (h1 : a ≤ v) (h2 : v ≤ c) (hc : c < 2 ^ 31) : inB (nI v) (nI a) (nI c) = true := inB_iff.mpr ⟨(nI_leI (by omega) (by omega)).mpr h1, (nI_leI (by omega) hc).mpr h2⟩
section ACTS
variable {n b q d tm : Nat} {φ ψ : St} {C : List Nat}
theorem tMake_0 (I : IV n b q tm φ C) (hn : n < 8) {x y z : Nat} (h1 : 4 ≤ x) (h2 : x ≤ 12) (h3 : 0 ≤ y) (h4 : y ≤ 3) (h5 : 1 ≤ z) (h6 : z ≤ 4) : tMake φ (nI x) (nI y) (nI z) = 0 := by
  refine gl_2.mpr ⟨?_, ?_⟩
  · rw [show inB (nI x) 4 12 = true from inB_N (a := 4) (c := 12) h1 h2 (by decide), show inB (nI y) 0 3 = true from inB_N (a := 0) (c := 3) h3 h4 (by decide), show inB (nI z) 1 4 = true from inB_N (a := 1) (c := 4) h5 h6 (by decide)]; rfl
  · rw [I.x.2.2.2.2.1]; exact decide_eq_true ((nI_ltI (b := 24) (by omega) (by decide)).mpr (by omega))
theorem tBuild_0 (I : IV n b q tm φ C) (hb : b < 5) {x y : Nat} (h1 : 1 ≤ x) (h2 : x ≤ 9) (h3 : 100 ≤ y) (h4 : y ≤ 9999) : tBuild φ (nI x) (nI y) = 0 := by
  refine gl_2.mpr ⟨?_, ?_⟩
  · rw [show inB (nI x) 1 9 = true from inB_N (a := 1) (c := 9) h1 h2 (by decide), show inB (nI y) 100 9999 = true from inB_N (a := 100) (c := 9999) h3 h4 (by decide)]; rfl
  · rw [I.x.2.2.2.2.2.1]; exact decide_eq_true ((nI_ltI (b := 8) (by omega) (by decide)).mpr (by omega))
theorem tRules_0 {x y : Nat} (h1 : 1 ≤ x) (h2 : x ≤ 20) (h4 : y ≤ 9) : tRules (nI x) (nI y) = 0 := by
  refine gl_1.mpr ?_
  rw [show inB (nI x) 1 20 = true from inB_N (a := 1) (c := 20) h1 h2 (by decide), show inB (nI y) 0 9 = true from inB_N (a := 0) (c := 9) (Nat.zero_le _) h4 (by decide)]; rfl
theorem tGust_0 {x y : Nat} (h1 : 1 ≤ x) (h2 : x ≤ 400) (h4 : y ≤ 9) : tGust (nI x) (nI y) = 0 := by
  refine gl_1.mpr ?_
  rw [show inB (nI x) 1 400 = true from inB_N (a := 1) (c := 400) h1 h2 (by decide), show inB (nI y) 0 9 = true from inB_N (a := 0) (c := 9) (Nat.zero_le _) h4 (by decide)]; rfl
theorem tPass_0 {x : Nat} (h1 : 1 ≤ x) (h2 : x ≤ 60) : tPass (nI x) = 0 := gl_1.mpr (inB_N (a := 1) (c := 60) h1 h2 (by decide))
theorem J_la_02 (φ : St) (q : Nat) (x : Int32) (h : isF φ x = true) : tLaunch φ q x = 0 ∨ tLaunch φ q x = 2 := by
  unfold tLaunch
  rw [h]
  cases (decide (φ 10 x.toNatClampNeg = 0)) <;> cases (decide (rmS φ q = -1) || decide (9 + φ 15 0 ≤ φ 11 (rmS φ q).toNatClampNeg - 9)) <;> first | exact Or.inl rfl | exact Or.inr rfl
theorem J_la_ok (I : IV n b q tm φ C) {r : Nat} (hr : r < b) (hT : tLaunch φ q (nI r) = 0) : φ 10 r = 0 ∧ (rmS φ q = -1 ∨ 9 + φ 15 0 ≤ φ 11 (rmS φ q).toNatClampNeg - 9) := by
  have hb := I.x.2.1
  have z := (gl_2.mp hT).2
  rw [nI_clamp (by omega), Bool.and_eq_true, Bool.and_eq_true, Bool.or_eq_true] at z
  exact ⟨of_decide_eq_true z.1.2, z.2.imp of_decide_eq_true of_decide_eq_true⟩
theorem J_la_of (I : IV n b q tm φ C) {r : Nat} (hr : r < b) (h0 : φ 10 r = 0) (h : rmS φ q = -1 ∨ 9 + φ 15 0 ≤ φ 11 (rmS φ q).toNatClampNeg - 9) : tLaunch φ q (nI r) = 0 := by
  have hb := I.x.2.1
  refine gl_2.mpr ⟨isFz9 I hr, ?_⟩
  rw [nI_clamp (by omega), Bool.and_eq_true, Bool.and_eq_true, Bool.or_eq_true]
  exact ⟨⟨isFz9 I hr, decide_eq_true h0⟩, h.imp decide_eq_true decide_eq_true⟩
theorem J_la1 (I : IV n b q tm φ C) (R : Jr n b q d φ ψ) {r : Nat} (hr : r < b) (h : ¬ ψ 10 r = 0) : tLaunch φ q (nI r) = 2 :=
  (J_la_02 φ q (nI r) (isFz9 I hr)).resolve_left (fun z => h ((R.f (j := 10) (by decide) hr).symm.trans (J_la_ok I hr z).1))
theorem J_la2 (I : IV n b q tm φ C) (R : Jr n b q d φ ψ) {r : Nat} (hr : r < b) (h : ψ 10 r = 0) (hq : q - d = 0) : tLaunch φ q (nI r) = 0 :=
  J_la_of I hr ((R.f (j := 10) (by decide) hr).trans h) (Or.inl ((J_rm I R).1 hq))
theorem J_la_room (I : IV n b q tm φ C) (R : Jr n b q d φ ψ) {rl : Nat} (hrl : rl < b) (em : rmS φ q = nI rl) (hr1 : φ 10 rl = 1) : (9 + φ 15 0 ≤ φ 11 (rmS φ q).toNatClampNeg - 9 ↔ 18 + ψ 15 0 ≤ ψ 11 rl) ∧ ¬ rmS φ q = -1 := by
  have hb := I.x.2.1
  obtain ⟨p, hp9, hp5, ep⟩ := I.ge.1 rl hrl hr1
  obtain ⟨g, hg1, hg2, eg⟩ := I.sp.2
  have e15 : ψ 15 0 = nI g := by rw [← eg]; exact (R.r.n0 (j := 15) (by decide)).symm
  have e11 : ψ 11 rl = nI p := by rw [← ep]; exact (R.r.fr hrl hr1).symm
  rw [em, nI_clamp (by omega), ep, eg, e15, e11, show nI p - 9 = nI (p - 9) from pk_sub (a := p) (b := 9) hp9, show (9 : Int32) + nI g = nI (9 + g) from nI_add 9 g, show (18 : Int32) + nI g = nI (18 + g) from nI_add 18 g, nI_leI (by omega) (by omega), nI_leI (by omega) (by omega)]
  exact ⟨by omega, nI_nm1 (by omega)⟩
theorem J_la3 (I : IV n b q tm φ C) (R : Jr n b q d φ ψ) {r rl : Nat} (hr : r < b) (h : ψ 10 r = 0) (hrl : rl < b) (em : rmS φ q = nI rl) (hr1 : φ 10 rl = 1) (hc : 18 + ψ 15 0 ≤ ψ 11 rl) : tLaunch φ q (nI r) = 0 :=
  J_la_of I hr ((R.f (j := 10) (by decide) hr).trans h) (Or.inr ((J_la_room I R hrl em hr1).1.mpr hc))
theorem J_la4 (I : IV n b q tm φ C) (R : Jr n b q d φ ψ) {r rl : Nat} (hr : r < b) (hrl : rl < b) (em : rmS φ q = nI rl) (hr1 : φ 10 rl = 1) (hc : ψ 11 rl < 18 + ψ 15 0) : tLaunch φ q (nI r) = 2 :=
  (J_la_02 φ q (nI r) (isFz9 I hr)).resolve_left (fun z => by
    obtain ⟨z1, z2⟩ := J_la_room I R hrl em hr1
    exact absurd (z1.mp ((J_la_ok I hr z).2.resolve_left z2)) (Int32.not_le.mpr hc))
end ACTS
set_option maxHeartbeats 8000000 in
set_option maxRecDepth 100000 in
theorem c_L_acts {l : Launch} {D : va_G} {cI cL cR : ClassId} (hl : l.stackTraces = false) {aJ ad : Nat → Nat} {φ ψ : St} {C : List Nat} {n b q d tm wy z : Nat} (I : IV n b q tm φ C) (R : Jr n b q d φ ψ) (hok : (wy = 0 ∧ n < 8) ∨ (wy = 1 ∧ b < 5) ∨ (1 ≤ n ∧ 1 ≤ b)) (hz : z < 1000000) (hwy : wy < 2 ^ 30) (htm : tm < 2 ^ 27) : ctL l D vwCl (tyW cI cL cR) yL_acts wsL_acts { frames := 10, cells := 3, slots := 18, locals := 184 } [.ref (ad 0), .ref (aJ 0), .ref (aJ 1), .ref (aJ 2), .ref (aJ 3), .ref (aJ 4), .int (nI wy), .int (nI z)] (wJ cI aJ ψ ++ wX cI cL cR ad C φ) (fun v u => v = 1 ∧ ∃ (n' b' q' d' tm' : Nat) (φ' ψ' : St) (C' : List Nat) (ad' : Nat → Nat), ad 0 = ad' 0 ∧ IV n' b' q' tm' φ' C' ∧ Jr n' b' q' d' φ' ψ' ∧ tm' ≤ tm + 40 ∧ n ≤ n' ∧ b ≤ b' ∧ (wy = 0 → n < 8 → n' = n + 1 ∧ b' = b) ∧ (wy = 1 → b < 5 → b' = b + 1) ∧ u = wJ cI aJ ψ' ++ wX cI cL cR ad' C' φ') 3 18 := by
  refine ctN_of (cc := cL_acts) (maxL := 11) (ret := (some .boolean)) (by decide) rfl rfl (Nat.le_of_ble_eq_true rfl) (by simp [Value.category]) [(0, .ref (ad 0)), (1, .ref (aJ 0)), (2, .ref (aJ 1)), (3, .ref (aJ 2)), (4, .ref (aJ 3)), (5, .ref (aJ 4)), (6, .int (nI wy)), (7, .int (nI z))] rfl ?_
  intro p e s m args below meth c sz h hrt hlk hnc
  have hn88 := R.n8
  have hb55 := R.b5
  have hdq := R.dq
  have hqb := (q_b I).1
  obtain ⟨q9, hw9⟩ := wX_recv (cI := cI) (cL := cL) (cR := cR) (ad := ad) (f := φ) (I.x.c (show 0 < 5 by decide))
  rw [gX_0] at hw9
  refine jj_joinP 134 [(0, .ref (ad 0)), (1, .ref (aJ 0)), (2, .ref (aJ 1)), (3, .ref (aJ 2)), (4, .ref (aJ 3)), (5, .ref (aJ 4)), (6, .int (nI wy)), (7, .int (nI z))] (¬ (wy = 0 ∧ n < 8)) (fun hj134 => ?_) (fun cut134 => ?_)
  · -- behind
    refine jj_joinP 235 [(0, .ref (ad 0)), (1, .ref (aJ 0)), (2, .ref (aJ 1)), (3, .ref (aJ 2)), (4, .ref (aJ 3)), (5, .ref (aJ 4)), (6, .int (nI wy)), (7, .int (nI z))] (¬ (wy = 1 ∧ b < 5)) (fun hj235 => ?_) (fun cut235 => ?_)
    · -- behind
      have hnb : 1 ≤ n ∧ 1 ≤ b := by omega
      refine j_iload h dL_acts_235 rfl ?_
      refine j_iconst (v := 2) h dL_acts_237 (by decide) ?_
      refine j_icmp_ne (tgt := 292) h dL_acts_238 (by decide) (fun c238 => ?_) (fun c238 => ?_)
      · -- t
        refine j_iload h dL_acts_292 rfl ?_
        refine j_iconst (v := 3) h dL_acts_294 (by decide) ?_
        refine j_icmp_ne (tgt := 369) h dL_acts_295 (by decide) (fun c295 => ?_) (fun c295 => ?_)
        · -- t
          refine j_iload h dL_acts_369 rfl ?_
          refine j_bipush (v := 7) h dL_acts_371 (by decide) ?_
          refine j_icmp_ge (tgt := 503) h dL_acts_373 (by decide) (fun c373 => ?_) (fun c373 => ?_)
          · -- t
            refine j_iload h dL_acts_503 rfl ?_
            refine j_bipush (v := 11) h dL_acts_505 (by decide) ?_
            refine j_icmp_ge (tgt := 589) h dL_acts_507 (by decide) (fun c507 => ?_) (fun c507 => ?_)
            · -- t
              have hw11 : 11 ≤ wy := by
                rw [show (11 : Int32) = nI 11 from rfl, nI_leI (by omega) (by omega)] at c507; omega
              refine j_aload_nR h dL_acts_589 rfl ?_
              refine j_aload_nR h dL_acts_590 rfl ?_
              refine j_aload_nR h dL_acts_591 rfl ?_
              refine j_aloadR h dL_acts_592 rfl ?_
              refine j_iload h dL_acts_594 rfl ?_
              refine j_bipush (v := 11) h dL_acts_596 (by decide) ?_
              refine j_isub h dL_acts_598 ?_
              refine j_top (show nI wy - 11 = nI (wy - 11) from pk_sub (b := 11) hw11) ?_
              refine j_iload h dL_acts_599 rfl ?_
              refine j_callNF (wr := []) (wc := wJ cI aJ ψ ++ wX cI cL cR ad C φ) h hnc dL_acts_601 (c_L_isHung hl I R hnb.1 hnb.2 (by omega)) (va_cwS 6 h.2.2.2.2.1 gL_acts_L_isHung rfl rfl rfl (by decide +kernel) ⟨(Nat.le_of_ble_eq_true rfl), (Nat.le_of_ble_eq_true rfl)⟩) rfl rfl (Nat.le_of_ble_eq_true rfl) ⟨(Nat.le_of_ble_eq_true rfl), (Nat.le_of_ble_eq_true rfl)⟩ (fun r9 u9 hu9 => ?_)
              obtain ⟨rfl, φ2, ψ2, I2, R2, rfl⟩ := hu9
              refine jj_ws (ws1 := wJ cI aJ ψ2 ++ wX cI cL cR ad C φ2) rfl ?_
              exact j_zret h hrt hlk dL_acts_604 (Or.inr rfl) (by decide) (by decide) (⟨rfl, n, b, q, d, tm, φ2, ψ2, C, ad, rfl, I2, R2, by omega, Nat.le_refl _, Nat.le_refl _, fun h1 h2 => absurd ⟨h1, h2⟩ hj134, fun h1 h2 => absurd ⟨h1, h2⟩ hj235, rfl⟩)
            · -- f
              refine jj_cut 536 [(0, .ref (ad 0)), (1, .ref (aJ 0)), (2, .ref (aJ 1)), (3, .ref (aJ 2)), (4, .ref (aJ 3)), (5, .ref (aJ 4)), (6, .int (nI wy)), (7, .int (nI z))] [] (fun v => ∃ e, 1 ≤ e ∧ e ≤ 40 ∧ v = nI e) (fun v536 hv536 => ?_) (fun cut536 => ?_)
              · -- behind
                obtain ⟨a9, h91, h92, rfl⟩ := hv536
                refine j_istore h dL_acts_536 (by decide) ?_
                refine j_iconst (v := 0) h dL_acts_538 (by decide) ?_
                refine j_istore h dL_acts_539 (by decide) ?_
                refine j_iconst (v := 0) h dL_acts_541 (by decide) ?_
                refine j_istore h dL_acts_542 (by decide) ?_
                refine jj_loop (fun y : Nat × St => [(0, .ref (ad 0)), (1, .ref (aJ 0)), (2, .ref (aJ 1)), (3, .ref (aJ 2)), (4, .ref (aJ 3)), (5, .ref (aJ 4)), (6, .int (nI wy)), (7, .int (nI z)), (8, .int (nI a9)), (9, .int (ltS ψ n - ltS y.2 n)), (10, .int (nI y.1))]) (fun y : Nat × St => wJ cI aJ y.2 ++ wX cI cL cR ad C φ) (fun y : Nat × St => y.1 ≤ a9 ∧ ∃ d2, Jr n b q d2 (psC φ n q tm y.1) y.2) (fun y : Nat × St => a9 - y.1) (0, ψ) ⟨rfl, rfl, rfl, rfl, rfl, rfl, rfl, rfl, rfl, by show some (Value.int _) = _; rw [Int32.sub_self], rfl, trivial⟩ rfl ⟨by omega, d, R⟩ (fun y hy ihy => ?_)
                obtain ⟨y1, g⟩ := y
                obtain ⟨hy1, d2, R2⟩ := hy
                dsimp only at hy1 R2 ihy ⊢
                have I2 := (ps_iv I y1).1
                have hdq2 := R2.dq
                refine j_iload h dL_acts_544 rfl ?_
                refine j_iload h dL_acts_546 rfl ?_
                refine j_icmp_ge (tgt := 572) h dL_acts_548 (by decide) (fun c548 => ?_) (fun c548 => ?_)
                · -- t
                  rw [nI_leI (by omega) (by omega)] at c548
                  obtain rfl : a9 = y1 := by omega
                  refine j_aload_nR h dL_acts_572 rfl ?_
                  refine j_iload h dL_acts_573 rfl ?_
                  have hT : tPass (nI a9) = 0 := tPass_0 h91 (by omega)
                  refine j_callTIF (vc := (RX2, TX2, 12)) (wr := wJ cI aJ g) (wc := wX cI cL cR ad C φ) h h.2.2.2.2.2.1 dL_acts_575 (c_X2_pass hl I.x (show tm < 2 ^ 28 by omega) (fun k _ => (ps_iv I k).1.mi)) (cwV 1 h.2.2.2.2.1 gL_acts_X2_pass rfl rfl rfl (by decide +kernel) ⟨(Nat.le_of_ble_eq_true rfl), (Nat.le_of_ble_eq_true rfl)⟩) q9 hw9 rfl rfl rfl (Nat.le_of_ble_eq_true rfl) ⟨(Nat.le_of_ble_eq_true rfl), (Nat.le_of_ble_eq_true rfl)⟩ (fun E hE => absurd ((hT).symm.trans hE.2) (by decide)) (fun r575 u575 hu575 => ?_)
                  obtain ⟨-, h3, h4⟩ := hu575
                  rw [nI_clamp (show a9 < 2 ^ 31 by omega)] at h3 h4
                  obtain rfl := h3
                  obtain rfl := h4
                  refine j_iload h dL_acts_578 rfl ?_
                  refine j_icmp_ne (tgt := 587) h dL_acts_580 (by decide) (fun c580 => absurd (show ltS φ n - ltS (psC φ n q tm a9) n = ltS ψ n - ltS g n by rw [R.r.lt (Nat.le_refl n), ltS_ov, R2.r.lt (Nat.le_refl n), ltS_ov]) c580) (fun c580 => ?_)
                  refine j_iconst (v := 1) h dL_acts_583 (by decide) ?_
                  refine j_goto (tgt := 588) h dL_acts_584 (by decide) ?_
                  exact j_zret h hrt hlk dL_acts_588 (Or.inr rfl) (by decide) (by decide) (⟨rfl, n, b, q, d2, tm + a9, psC φ n q tm a9, g, C, ad, rfl, (ps_iv I a9).1, R2, by omega, Nat.le_refl _, Nat.le_refl _, fun h1 h2 => absurd ⟨h1, h2⟩ hj134, fun h1 h2 => absurd ⟨h1, h2⟩ hj235, rfl⟩)
                · -- f
                  rw [nI_leI (by omega) (by omega)] at c548
                  refine j_iload h dL_acts_551 rfl ?_
                  refine j_aload_nR h dL_acts_553 rfl ?_
                  refine j_aload_nR h dL_acts_554 rfl ?_
                  refine j_aload_nR h dL_acts_555 rfl ?_
                  refine j_aloadR h dL_acts_556 rfl ?_
                  refine j_aloadR h dL_acts_558 rfl ?_
                  refine j_callFI (wc := wJ cI aJ g) h dL_acts_560 (c_L_minute (n := n) (q := q - d2) (tm := tm + y1) R.n8 (R2.h7 I2) R2.h13 (by omega) (fun i hi => (R2.riv I2 i hi).imp fun r z => ⟨by omega, z.2.1⟩) (R2.h18 I2) (by omega) (R2.h5 I2)) (va_cwS 5 h.2.2.2.2.1 gL_acts_L_minute rfl rfl rfl (by decide +kernel) ⟨(Nat.le_of_ble_eq_true rfl), (Nat.le_of_ble_eq_true rfl)⟩) rfl rfl (Nat.le_of_ble_eq_true rfl) ⟨(Nat.le_of_ble_eq_true rfl), (Nat.le_of_ble_eq_true rfl)⟩ (fun r9 u9 hu9 => ?_)
                  obtain ⟨rfl, rfl⟩ := hu9
                  refine j_iadd h dL_acts_563 ?_
                  refine j_istore h dL_acts_564 (by decide) ?_
                  refine j_iinc h dL_acts_566 rfl rfl (by decide) ?_
                  refine j_goto (tgt := 544) h dL_acts_569 (by decide) ?_
                  obtain ⟨d3, R3⟩ := J_mn I2 R2
                  exact ihy (y1 + 1, mnJ g n (q - d2) (tm + y1)) ⟨by omega, d3, by rw [psC, mn_min I2]; exact R3⟩ (by show a9 - (y1 + 1) < a9 - y1; omega) _ ⟨rfl, rfl, rfl, rfl, rfl, rfl, rfl, rfl, rfl, by show some (Value.int _) = _; rw [sub_tel], by simp [lget, nI_succ], trivial⟩
              · -- ahead
                refine j_iload h dL_acts_510 rfl ?_
                refine j_bipush (v := 7) h dL_acts_512 (by decide) ?_
                refine j_icmp_ne (tgt := 530) h dL_acts_514 (by decide) (fun c514 => ?_) (fun c514 => ?_)
                · -- t
                  refine j_iconst (v := 1) h dL_acts_530 (by decide) ?_
                  refine j_iload h dL_acts_531 rfl ?_
                  refine j_iconst (v := 5) h dL_acts_533 (by decide) ?_
                  refine j_iremN (a := z) (d := 5) h dL_acts_534 rfl rfl (by omega) (by omega) (by omega) ?_
                  refine j_iadd h dL_acts_535 ?_
                  refine j_top (show (1 : Int32) + nI (z % 5) = nI (1 + z % 5) from nI_add 1 _) ?_
                  exact cut536 _ ⟨1 + z % 5, by omega, by omega, rfl⟩ _ ⟨rfl, rfl, rfl, rfl, rfl, rfl, rfl, rfl, trivial⟩
                · -- f
                  refine j_iload h dL_acts_517 rfl ?_
                  refine j_bipush (v := 6) h dL_acts_519 (by decide) ?_
                  refine j_iremN (a := z) (d := 6) h dL_acts_521 rfl rfl (by omega) (by omega) (by omega) ?_
                  refine j_if_ne (tgt := 530) h dL_acts_522 (by decide) (fun c522 => ?_) (fun c522 => ?_)
                  · -- t
                    refine j_iconst (v := 1) h dL_acts_530 (by decide) ?_
                    refine j_iload h dL_acts_531 rfl ?_
                    refine j_iconst (v := 5) h dL_acts_533 (by decide) ?_
                    refine j_iremN (a := z) (d := 5) h dL_acts_534 rfl rfl (by omega) (by omega) (by omega) ?_
                    refine j_iadd h dL_acts_535 ?_
                    refine j_top (show (1 : Int32) + nI (z % 5) = nI (1 + z % 5) from nI_add 1 _) ?_
                    exact cut536 _ ⟨1 + z % 5, by omega, by omega, rfl⟩ _ ⟨rfl, rfl, rfl, rfl, rfl, rfl, rfl, rfl, trivial⟩
                  · -- f
                    refine j_bipush (v := 40) h dL_acts_525 (by decide) ?_
                    refine j_goto (tgt := 536) h dL_acts_527 (by decide) ?_
                    exact cut536 _ ⟨40, by omega, by omega, rfl⟩ _ ⟨rfl, rfl, rfl, rfl, rfl, rfl, rfl, rfl, trivial⟩
          · -- f
            refine j_iload h dL_acts_376 rfl ?_
            refine j_aloadR h dL_acts_378 rfl ?_
            refine j_iconst (v := 1) h dL_acts_380 (by decide) ?_
            refine jm_ald1 h dL_acts_381 ?_
            refine j_top (R.h14 I) ?_
            refine j_iremN (a := z) (d := b) h dL_acts_382 rfl rfl (by omega) (by omega) (by omega) ?_
            refine j_istore h dL_acts_383 (by decide) ?_
            obtain ⟨r, er⟩ : ∃ r, r = z % b := ⟨_, rfl⟩
            have hr : r < b := by rw [er]; exact Nat.mod_lt _ (by omega)
            rw [← er]
            refine jj_to (l1 := [(0, .ref (ad 0)), (1, .ref (aJ 0)), (2, .ref (aJ 1)), (3, .ref (aJ 2)), (4, .ref (aJ 3)), (5, .ref (aJ 4)), (6, .int (nI wy)), (7, .int (nI z)), (8, .int (nI r))]) ?_ ⟨rfl, rfl, rfl, rfl, rfl, rfl, rfl, rfl, rfl, trivial⟩
            refine jj_cut 432 [(0, .ref (ad 0)), (1, .ref (aJ 0)), (2, .ref (aJ 1)), (3, .ref (aJ 2)), (4, .ref (aJ 3)), (5, .ref (aJ 4)), (6, .int (nI wy)), (7, .int (nI z)), (8, .int (nI r))] [] (fun v => v = bi (decide (tLaunch φ q (nI r) = 0))) (fun v432 hv432 => ?_) (fun cut432 => ?_)
            · -- behind
              obtain rfl := hv432
              rcases Bool.eq_false_or_eq_true (decide (tLaunch φ q (nI r) = 0)) with hb432 | hb432
              · -- t
                refine j_top (y := 1) (by rw [hb432]; rfl) ?_
                have hT : tLaunch φ q (nI r) = 0 := of_decide_eq_true hb432
                obtain ⟨k1, k2⟩ := J_la_ok I hr hT
                have I2 := I.la hr k1 k2
                have R2 := R.la I hr k1
                have hqb2 := (q_b I).2 ⟨r, hr, k1⟩
                refine j_istore h dL_acts_432 (by decide) ?_
                refine j_iload h dL_acts_434 rfl ?_
                refine j_if_eq (tgt := 474) h dL_acts_436 (by decide) (fun c436 => absurd c436 (by decide)) (fun c436 => ?_)
                refine j_aload_nR h dL_acts_439 rfl ?_
                refine j_iconst (v := 4) h dL_acts_440 (by decide) ?_
                refine j_iload h dL_acts_441 rfl ?_
                refine j_imul h dL_acts_443 ?_
                refine j_iconst (v := 2) h dL_acts_444 (by decide) ?_
                refine j_iadd h dL_acts_445 ?_
                refine j_iconst (v := 1) h dL_acts_446 (by decide) ?_
                refine jf_ast2 r h dL_acts_447 (ix4_2 _) (by omega) ?_
                refine j_aload_nR h dL_acts_448 rfl ?_
                refine j_iconst (v := 4) h dL_acts_449 (by decide) ?_
                refine j_iload h dL_acts_450 rfl ?_
                refine j_imul h dL_acts_452 ?_
                refine j_iconst (v := 3) h dL_acts_453 (by decide) ?_
                refine j_iadd h dL_acts_454 ?_
                refine j_bipush (v := 9) h dL_acts_455 (by decide) ?_
                refine jf_ast3 r h dL_acts_457 (ix4_3 _) (by omega) ?_
                refine j_aload_nR h dL_acts_458 rfl ?_
                refine j_aloadR h dL_acts_459 rfl ?_
                refine j_iconst (v := 2) h dL_acts_461 (by decide) ?_
                refine jm_ald2 h dL_acts_462 ?_
                refine j_top (show _ = nI (q - d) from R.h13) ?_
                refine j_iload h dL_acts_463 rfl ?_
                refine jr_ast ((q - d)) h dL_acts_465 rfl (by omega) ?_
                refine j_aloadR h dL_acts_466 rfl ?_
                refine j_iconst (v := 2) h dL_acts_468 (by decide) ?_
                refine j_dup2 h dL_acts_469 rfl rfl ?_
                refine jm_ald2 h dL_acts_470 ?_
                refine j_top (show _ = nI (q - d) from R.h13) ?_
                refine j_iconst (v := 1) h dL_acts_471 (by decide) ?_
                refine j_iadd h dL_acts_472 ?_
                refine j_top (nI_1 (q - d)) ?_
                refine jm_ast2 h dL_acts_473 ?_
                refine j_aload_nR h dL_acts_474 rfl ?_
                refine j_iload h dL_acts_475 rfl ?_
                refine j_callLF (wr := wJ cI aJ (up2 (up2 (up2 (up2 ψ 10 r 1) 11 r 9) 12 (q - d) (nI r)) 13 0 (nI (q - d + 1)))) (wc := wX cI cL cR ad C φ) h hnc dL_acts_477 (c_L_launched hl I.x (fun r hr h0 => q_lt I hr h0) (by rw [hT]; decide)) (vx_cwSW 2 h.2.2.2.2.1 gL_acts_L_launched rfl rfl rfl (by decide +kernel) ⟨(Nat.le_of_ble_eq_true rfl), (Nat.le_of_ble_eq_true rfl)⟩) rfl rfl (Nat.le_of_ble_eq_true rfl) ⟨(Nat.le_of_ble_eq_true rfl), (Nat.le_of_ble_eq_true rfl)⟩ (fun r9 u9 hu9 => ?_)
                obtain ⟨rfl, rfl⟩ : r9 = roS (laF φ q r) (q + 1) ∧ u9 = wX cI cL cR ad C (laF φ q r) := by
                  rcases hu9 with ⟨h1, h2, h3⟩ | ⟨h2, h3, h4⟩
                  · exact absurd (hT.symm.trans h2) (by decide)
                  · rw [nI_clamp (show r < 2 ^ 31 by omega)] at h3 h4
                    exact ⟨h3, h4⟩
                refine j_iload h dL_acts_480 rfl ?_
                refine j_if_eq (tgt := 492) h dL_acts_482 (by decide) (fun c482 => absurd c482 (by decide)) (fun c482 => ?_)
                refine j_aloadR h dL_acts_485 rfl ?_
                refine j_iconst (v := 2) h dL_acts_487 (by decide) ?_
                refine jm_ald2 h dL_acts_488 ?_
                refine j_top (show _ = nI (q - d + 1) from rfl) ?_
                refine j_goto (tgt := 494) h dL_acts_489 (by decide) ?_
                refine j_icmp_ne (tgt := 501) h dL_acts_494 (by decide) (fun c494 => absurd (show roS (laF φ q r) (q + 1) = nI (q - d + 1) by rw [J_ro I2 R2]; congr 1; omega) c494) (fun c494 => ?_)
                refine j_iconst (v := 1) h dL_acts_497 (by decide) ?_
                refine j_goto (tgt := 502) h dL_acts_498 (by decide) ?_
                exact j_zret h hrt hlk dL_acts_502 (Or.inr rfl) (by decide) (by decide) (⟨rfl, n, b, q + 1, d, tm, laF φ q r, _, C, ad, rfl, I2, R2, by omega, Nat.le_refl _, Nat.le_refl _, fun h1 h2 => absurd ⟨h1, h2⟩ hj134, fun h1 h2 => absurd ⟨h1, h2⟩ hj235, rfl⟩)
              · -- f
                refine j_top (y := 0) (by rw [hb432]; rfl) ?_
                refine j_istore h dL_acts_432 (by decide) ?_
                refine j_iload h dL_acts_434 rfl ?_
                refine j_if_eq (tgt := 474) h dL_acts_436 (by decide) (fun c436 => ?_) (fun c436 => absurd c436 (by decide))
                refine j_aload_nR h dL_acts_474 rfl ?_
                refine j_iload h dL_acts_475 rfl ?_
                have hT : tLaunch φ q (nI r) = 2 := (J_la_02 φ q (nI r) (isFz9 I hr)).resolve_left (of_decide_eq_false hb432)
                refine j_callLF (wr := wJ cI aJ ψ) (wc := wX cI cL cR ad C φ) h hnc dL_acts_477 (c_L_launched hl I.x (fun r hr h0 => q_lt I hr h0) (by rw [hT]; decide)) (vx_cwSW 2 h.2.2.2.2.1 gL_acts_L_launched rfl rfl rfl (by decide +kernel) ⟨(Nat.le_of_ble_eq_true rfl), (Nat.le_of_ble_eq_true rfl)⟩) rfl rfl (Nat.le_of_ble_eq_true rfl) ⟨(Nat.le_of_ble_eq_true rfl), (Nat.le_of_ble_eq_true rfl)⟩ (fun r9 u9 hu9 => ?_)
                obtain ⟨rfl, rfl⟩ : r9 = -2 ∧ u9 = wX cI cL cR ad C φ := by
                  rcases hu9 with ⟨h1, h2, h3⟩ | ⟨h2, h3, h4⟩
                  · exact ⟨h1, h3⟩
                  · exact absurd (hT.symm.trans h2) (by decide)
                refine j_iload h dL_acts_480 rfl ?_
                refine j_if_eq (tgt := 492) h dL_acts_482 (by decide) (fun c482 => ?_) (fun c482 => absurd c482 (by decide))
                refine j_bipush (v := (-2)) h dL_acts_492 (by decide) ?_
                refine j_icmp_ne (tgt := 501) h dL_acts_494 (by decide) (fun c494 => absurd c494 (by decide)) (fun c494 => ?_)
                refine j_iconst (v := 1) h dL_acts_497 (by decide) ?_
                refine j_goto (tgt := 502) h dL_acts_498 (by decide) ?_
                exact j_zret h hrt hlk dL_acts_502 (Or.inr rfl) (by decide) (by decide) (⟨rfl, n, b, q, d, tm, φ, ψ, C, ad, rfl, I, R, by omega, Nat.le_refl _, Nat.le_refl _, fun h1 h2 => absurd ⟨h1, h2⟩ hj134, fun h1 h2 => absurd ⟨h1, h2⟩ hj235, rfl⟩)
            · -- ahead
              refine j_aload_nR h dL_acts_385 rfl ?_
              refine j_iconst (v := 4) h dL_acts_386 (by decide) ?_
              refine j_iload h dL_acts_387 rfl ?_
              refine j_imul h dL_acts_389 ?_
              refine j_iconst (v := 2) h dL_acts_390 (by decide) ?_
              refine j_iadd h dL_acts_391 ?_
              refine jf_ald2 r h dL_acts_392 (ix4_2 _) (by omega) ?_
              refine j_if_ne (tgt := 431) h dL_acts_393 (by decide) (fun c393 => ?_) (fun c393 => ?_)
              · -- t
                refine j_iconst (v := 0) h dL_acts_431 (by decide) ?_
                exact cut432 _ (by rw [decide_eq_false (by rw [J_la1 I R hr c393]; decide)]; rfl) _ ⟨rfl, rfl, rfl, rfl, rfl, rfl, rfl, rfl, rfl, trivial⟩
              · -- f
                refine j_aloadR h dL_acts_396 rfl ?_
                refine j_iconst (v := 2) h dL_acts_398 (by decide) ?_
                refine jm_ald2 h dL_acts_399 ?_
                refine j_top R.h13 ?_
                refine j_if_eq (tgt := 427) h dL_acts_400 (by decide) (fun c400 => ?_) (fun c400 => ?_)
                · -- t
                  refine j_iconst (v := 1) h dL_acts_427 (by decide) ?_
                  refine j_goto (tgt := 432) h dL_acts_428 (by decide) ?_
                  exact cut432 _ (by rw [decide_eq_true (J_la2 I R hr c393 ((nI_eq (b := 0) (by omega) (by decide)).mp c400))]; rfl) _ ⟨rfl, rfl, rfl, rfl, rfl, rfl, rfl, rfl, rfl, trivial⟩
                · -- f
                  have hq0 : 0 < q - d := by
                    rcases Nat.eq_zero_or_pos (q - d) with y | y
                    · exact absurd (by rw [y]; rfl) c400
                    · exact y
                  obtain ⟨rl, hrl, em, el, hr1⟩ := (J_rm I R).2 hq0
                  refine j_aload_nR h dL_acts_403 rfl ?_
                  refine j_iconst (v := 4) h dL_acts_404 (by decide) ?_
                  refine j_aload_nR h dL_acts_405 rfl ?_
                  refine j_aloadR h dL_acts_406 rfl ?_
                  refine j_iconst (v := 2) h dL_acts_408 (by decide) ?_
                  refine jm_ald2 h dL_acts_409 ?_
                  refine j_top R.h13 ?_
                  refine j_iconst (v := 1) h dL_acts_410 (by decide) ?_
                  refine j_isub h dL_acts_411 ?_
                  refine j_top (show nI (q - d) - 1 = nI (q - d - 1) from pk_sub (b := 1) hq0) ?_
                  refine jr_ald ((q - d - 1)) h dL_acts_412 rfl (by omega) ?_
                  refine j_top el ?_
                  refine j_imul h dL_acts_413 ?_
                  refine j_iconst (v := 3) h dL_acts_414 (by decide) ?_
                  refine j_iadd h dL_acts_415 ?_
                  refine jf_ald3 rl h dL_acts_416 (ix4_3 _) (by omega) ?_
                  refine j_bipush (v := 18) h dL_acts_417 (by decide) ?_
                  refine j_aloadR h dL_acts_419 rfl ?_
                  refine j_iconst (v := 3) h dL_acts_421 (by decide) ?_
                  refine jm_ald3 h dL_acts_422 ?_
                  refine j_iadd h dL_acts_423 ?_
                  refine j_icmp_lt (tgt := 431) h dL_acts_424 (by decide) (fun c424 => ?_) (fun c424 => ?_)
                  · -- t
                    refine j_iconst (v := 0) h dL_acts_431 (by decide) ?_
                    exact cut432 _ (by rw [decide_eq_false (by rw [J_la4 I R hr hrl em hr1 c424]; decide)]; rfl) _ ⟨rfl, rfl, rfl, rfl, rfl, rfl, rfl, rfl, rfl, trivial⟩
                  · -- f
                    refine j_iconst (v := 1) h dL_acts_427 (by decide) ?_
                    refine j_goto (tgt := 432) h dL_acts_428 (by decide) ?_
                    exact cut432 _ (by rw [decide_eq_true (J_la3 I R hr c393 hrl em hr1 (Int32.not_lt.mp c424))]; rfl) _ ⟨rfl, rfl, rfl, rfl, rfl, rfl, rfl, rfl, rfl, trivial⟩
        · -- f
          refine j_iconst (v := 1) h dL_acts_298 (by decide) ?_
          refine jj_cut 323 [(0, .ref (ad 0)), (1, .ref (aJ 0)), (2, .ref (aJ 1)), (3, .ref (aJ 2)), (4, .ref (aJ 3)), (5, .ref (aJ 4)), (6, .int (nI wy)), (7, .int (nI z))] [.int 1] (fun v => ∃ e, e < 63 ∧ v = nI e) (fun v323 hv323 => ?_) (fun cut323 => ?_)
          · -- behind
            obtain ⟨a9, ha9, rfl⟩ := hv323
            refine j_iadd h dL_acts_323 ?_
            refine j_top (show (1 : Int32) + nI a9 = nI (1 + a9) from nI_add 1 _) ?_
            refine j_istore h dL_acts_324 (by decide) ?_
            refine j_aloadR h dL_acts_326 rfl ?_
            refine j_iload h dL_acts_328 rfl ?_
            refine jg_ald ((1 + a9)) h dL_acts_330 rfl (by omega) ?_
            refine j_istore h dL_acts_331 (by decide) ?_
            refine j_aloadR h dL_acts_333 rfl ?_
            refine j_iload h dL_acts_335 rfl ?_
            refine j_iload h dL_acts_337 rfl ?_
            refine j_sipush (v := 128) h dL_acts_339 (by decide) ?_
            refine j_idivN (a := z) (d := 128) h dL_acts_342 rfl rfl (by omega) (by omega) (by omega) ?_
            refine j_bipush (v := 10) h dL_acts_343 (by decide) ?_
            refine j_iremN (a := (z / 128)) (d := 10) h dL_acts_345 rfl rfl (by omega) (by omega) (by omega) ?_
            refine jg_ast ((1 + a9)) h dL_acts_346 rfl (by omega) ?_
            refine j_aload_nR h dL_acts_347 rfl ?_
            refine j_iload h dL_acts_348 rfl ?_
            refine j_aloadR h dL_acts_350 rfl ?_
            refine j_iload h dL_acts_352 rfl ?_
            refine jg_ald ((1 + a9)) h dL_acts_354 rfl (by omega) ?_
            refine j_top (up2_self _ _ _ _) ?_
            have hT : tGust (nI (1 + a9)) (nI (z / 128 % 10)) = 0 := tGust_0 (by omega) (by omega) (by omega)
            refine j_callTIF (vc := (RX2, TX2, 12)) (wr := wJ cI aJ (up2 ψ 17 (1 + a9) (nI (z / 128 % 10)))) (wc := wX cI cL cR ad C φ) h h.2.2.2.2.2.1 dL_acts_355 (c_X2_setGust hl I.x) (cwV 2 h.2.2.2.2.1 gL_acts_X2_setGust rfl rfl rfl (by decide +kernel) ⟨(Nat.le_of_ble_eq_true rfl), (Nat.le_of_ble_eq_true rfl)⟩) q9 hw9 rfl rfl rfl (Nat.le_of_ble_eq_true rfl) ⟨(Nat.le_of_ble_eq_true rfl), (Nat.le_of_ble_eq_true rfl)⟩ (fun E hE => absurd ((hT).symm.trans hE.2) (by decide)) (fun r355 u355 hu355 => ?_)
            obtain ⟨-, h3, h4⟩ := hu355
            rw [nI_clamp (by omega)] at h3 h4
            obtain rfl := h3
            obtain rfl := h4
            refine j_iload h dL_acts_358 rfl ?_
            refine j_icmp_ne (tgt := 367) h dL_acts_360 (by decide) (fun c360 => absurd (show φ 17 (1 + a9) = ψ 17 (1 + a9) from congrFun (R.r.gu.trans (ov_n _ _ (by decide))) _) c360) (fun c360 => ?_)
            refine j_iconst (v := 1) h dL_acts_363 (by decide) ?_
            refine j_goto (tgt := 368) h dL_acts_364 (by decide) ?_
            exact j_zret h hrt hlk dL_acts_368 (Or.inr rfl) (by decide) (by decide) (⟨rfl, n, b, q, d, tm, _, _, C, ad, rfl, I.gust _ _, R.gust (by omega) _, by omega, Nat.le_refl _, Nat.le_refl _, fun h1 h2 => absurd ⟨h1, h2⟩ hj134, fun h1 h2 => absurd ⟨h1, h2⟩ hj235, rfl⟩)
          · -- ahead
            refine j_iload h dL_acts_299 rfl ?_
            refine j_iconst (v := 2) h dL_acts_301 (by decide) ?_
            refine j_iremN (a := z) (d := 2) h dL_acts_302 rfl rfl (by omega) (by omega) (by omega) ?_
            refine j_if_ne (tgt := 316) h dL_acts_303 (by decide) (fun c303 => ?_) (fun c303 => ?_)
            · -- t
              refine j_aloadR h dL_acts_316 rfl ?_
              refine j_iconst (v := 5) h dL_acts_318 (by decide) ?_
              refine jm_ald5 h dL_acts_319 ?_
              refine j_top (R.h18 I) ?_
              refine j_bipush (v := 60) h dL_acts_320 (by decide) ?_
              refine j_iremN (a := tm) (d := 60) h dL_acts_322 rfl rfl (by omega) (by omega) (by omega) ?_
              exact cut323 _ ⟨tm % 60, by omega, rfl⟩ _ ⟨rfl, rfl, rfl, rfl, rfl, rfl, rfl, rfl, trivial⟩
            · -- f
              refine j_iload h dL_acts_306 rfl ?_
              refine j_iconst (v := 2) h dL_acts_308 (by decide) ?_
              refine j_idivN (a := z) (d := 2) h dL_acts_309 rfl rfl (by omega) (by omega) (by omega) ?_
              refine j_bipush (v := 63) h dL_acts_310 (by decide) ?_
              refine j_iremN (a := (z / 2)) (d := 63) h dL_acts_312 rfl rfl (by omega) (by omega) (by omega) ?_
              refine j_goto (tgt := 323) h dL_acts_313 (by decide) ?_
              exact cut323 _ ⟨z / 2 % 63, by omega, rfl⟩ _ ⟨rfl, rfl, rfl, rfl, rfl, rfl, rfl, rfl, trivial⟩
      · -- f
        refine j_aloadR h dL_acts_241 rfl ?_
        refine j_iconst (v := 3) h dL_acts_243 (by decide) ?_
        refine jm_ald3 h dL_acts_244 ?_
        refine j_istore h dL_acts_245 (by decide) ?_
        refine j_aloadR h dL_acts_247 rfl ?_
        refine j_iconst (v := 3) h dL_acts_249 (by decide) ?_
        refine j_iconst (v := 1) h dL_acts_250 (by decide) ?_
        refine j_iload h dL_acts_251 rfl ?_
        refine j_bipush (v := 8) h dL_acts_253 (by decide) ?_
        refine j_iremN (a := z) (d := 8) h dL_acts_255 rfl rfl (by omega) (by omega) (by omega) ?_
        refine j_iadd h dL_acts_256 ?_
        refine j_top (show (1 : Int32) + nI (z % 8) = nI (1 + z % 8) from nI_add 1 _) ?_
        refine jm_ast3 h dL_acts_257 ?_
        refine j_aloadR h dL_acts_258 rfl ?_
        refine j_iconst (v := 4) h dL_acts_260 (by decide) ?_
        refine j_iload h dL_acts_261 rfl ?_
        refine j_bipush (v := 8) h dL_acts_263 (by decide) ?_
        refine j_idivN (a := z) (d := 8) h dL_acts_265 rfl rfl (by omega) (by omega) (by omega) ?_
        refine j_iconst (v := 4) h dL_acts_266 (by decide) ?_
        refine j_iremN (a := (z / 8)) (d := 4) h dL_acts_267 rfl rfl (by omega) (by omega) (by omega) ?_
        refine jm_ast4 h dL_acts_268 ?_
        refine j_aload_nR h dL_acts_269 rfl ?_
        refine j_aloadR h dL_acts_270 rfl ?_
        refine j_iconst (v := 3) h dL_acts_272 (by decide) ?_
        refine jm_ald3 h dL_acts_273 ?_
        refine j_top (show _ = nI (1 + z % 8) from rfl) ?_
        refine j_aloadR h dL_acts_274 rfl ?_
        refine j_iconst (v := 4) h dL_acts_276 (by decide) ?_
        refine jm_ald4 h dL_acts_277 ?_
        refine j_top (show _ = nI (z / 8 % 4) from rfl) ?_
        have hT : tRules (nI (1 + z % 8)) (nI (z / 8 % 4)) = 0 := tRules_0 (by omega) (by omega) (by omega)
        refine j_callTIF (vc := (RX2, TX2, 12)) (wr := wJ cI aJ (up2 (up2 ψ 15 0 (nI (1 + z % 8))) 16 0 (nI (z / 8 % 4)))) (wc := wX cI cL cR ad C φ) h h.2.2.2.2.2.1 dL_acts_278 (c_X2_setRules hl I.x) (cwV 2 h.2.2.2.2.1 gL_acts_X2_setRules rfl rfl rfl (by decide +kernel) ⟨(Nat.le_of_ble_eq_true rfl), (Nat.le_of_ble_eq_true rfl)⟩) q9 hw9 rfl rfl rfl (Nat.le_of_ble_eq_true rfl) ⟨(Nat.le_of_ble_eq_true rfl), (Nat.le_of_ble_eq_true rfl)⟩ (fun E hE => absurd ((hT).symm.trans hE.2) (by decide)) (fun r278 u278 hu278 => ?_)
        obtain ⟨-, rfl, rfl⟩ := hu278
        refine j_iload h dL_acts_281 rfl ?_
        refine j_icmp_ne (tgt := 290) h dL_acts_283 (by decide) (fun c283 => absurd (show φ 15 0 = ψ 15 0 from R.r.n0 (j := 15) (by decide)) c283) (fun c283 => ?_)
        refine j_iconst (v := 1) h dL_acts_286 (by decide) ?_
        refine j_goto (tgt := 291) h dL_acts_287 (by decide) ?_
        exact j_zret h hrt hlk dL_acts_291 (Or.inr rfl) (by decide) (by decide) (⟨rfl, n, b, q, d, tm, _, _, C, ad, rfl, I.rules hT, (R.up (by decide) 0 _).up (by decide) 0 _, by omega, Nat.le_refl _, Nat.le_refl _, fun h1 h2 => absurd ⟨h1, h2⟩ hj134, fun h1 h2 => absurd ⟨h1, h2⟩ hj235, rfl⟩)
    · -- ahead
      refine j_iload h dL_acts_134 rfl ?_
      refine j_iconst (v := 1) h dL_acts_136 (by decide) ?_
      refine j_icmp_ne (tgt := 235) h dL_acts_137 (by decide) (fun c137 => ?_) (fun c137 => ?_)
      · -- t
        exact cut235 (fun y => c137 (by rw [y.1]; rfl)) _ ⟨rfl, rfl, rfl, rfl, rfl, rfl, rfl, rfl, trivial⟩
      · -- f
        refine j_aloadR h dL_acts_140 rfl ?_
        refine j_iconst (v := 1) h dL_acts_142 (by decide) ?_
        refine jm_ald1 h dL_acts_143 ?_
        refine j_top (R.h14 I) ?_
        refine j_iconst (v := 5) h dL_acts_144 (by decide) ?_
        refine j_icmp_ge (tgt := 235) h dL_acts_145 (by decide) (fun c145 => ?_) (fun c145 => ?_)
        · -- t
          exact cut235 (by intro y; rw [show (5 : Int32) = nI 5 from rfl, nI_leI (by omega) (by omega)] at c145; omega) _ ⟨rfl, rfl, rfl, rfl, rfl, rfl, rfl, rfl, trivial⟩
        · -- f
          have hw1 : wy = 1 := (nI_eq (b := 1) (by omega) (by decide)).mp c137
          have hb5 : b < 5 := by
            rw [show (5 : Int32) = nI 5 from rfl, nI_leI (by omega) (by omega)] at c145; omega
          refine j_iconst (v := 4) h dL_acts_148 (by decide) ?_
          refine j_aloadR h dL_acts_149 rfl ?_
          refine j_iconst (v := 1) h dL_acts_151 (by decide) ?_
          refine jm_ald1 h dL_acts_152 ?_
          refine j_top (R.h14 I) ?_
          refine j_imul h dL_acts_153 ?_
          refine j_istore h dL_acts_154 (by decide) ?_
          refine j_aload_nR h dL_acts_156 rfl ?_
          refine j_iload h dL_acts_157 rfl ?_
          refine j_iconst (v := 1) h dL_acts_159 (by decide) ?_
          refine j_iload h dL_acts_160 rfl ?_
          refine j_bipush (v := 9) h dL_acts_162 (by decide) ?_
          refine j_iremN (a := z) (d := 9) h dL_acts_164 rfl rfl (by omega) (by omega) (by omega) ?_
          refine j_iadd h dL_acts_165 ?_
          refine j_top (show (1 : Int32) + nI (z % 9) = nI (1 + z % 9) from nI_add 1 _) ?_
          refine jf_ast0 b h dL_acts_166 (ix4_0 _) (by omega) ?_
          refine j_aload_nR h dL_acts_167 rfl ?_
          refine j_iload h dL_acts_168 rfl ?_
          refine j_iconst (v := 1) h dL_acts_170 (by decide) ?_
          refine j_iadd h dL_acts_171 ?_
          refine jj_cut 197 [(0, .ref (ad 0)), (1, .ref (aJ 0)), (2, .ref (aJ 1)), (3, .ref (aJ 2)), (4, .ref (aJ 3)), (5, .ref (aJ 4)), (6, .int (nI wy)), (7, .int (nI z)), (8, .int (4 * nI b))] [.int (4 * nI b + 1), .ref (aJ 1)] (fun v => ∃ e, 100 ≤ e ∧ e ≤ 2000 ∧ v = nI e) (fun v197 hv197 => ?_) (fun cut197 => ?_)
          · -- behind
            obtain ⟨e9, he1, he2, rfl⟩ := hv197
            refine jf_ast1 b h dL_acts_197 (ix4_1 _) (by omega) ?_
            refine j_aloadR h dL_acts_198 rfl ?_
            refine j_iconst (v := 1) h dL_acts_200 (by decide) ?_
            refine j_dup2 h dL_acts_201 rfl rfl ?_
            refine jm_ald1 h dL_acts_202 ?_
            refine j_top (show _ = nI b from R.h14 I) ?_
            refine j_iconst (v := 1) h dL_acts_203 (by decide) ?_
            refine j_iadd h dL_acts_204 ?_
            refine j_top (nI_1 b) ?_
            refine jm_ast1 h dL_acts_205 ?_
            refine j_aload_nR h dL_acts_206 rfl ?_
            refine j_aload_nR h dL_acts_207 rfl ?_
            refine j_iload h dL_acts_208 rfl ?_
            refine jf_ald0 b h dL_acts_210 (ix4_0 _) (by omega) ?_
            refine j_top (show _ = (nI (1 + z % 9)) by simp [up2]) ?_
            refine j_aload_nR h dL_acts_211 rfl ?_
            refine j_iload h dL_acts_212 rfl ?_
            refine j_iconst (v := 1) h dL_acts_214 (by decide) ?_
            refine j_iadd h dL_acts_215 ?_
            refine jf_ald1 b h dL_acts_216 (ix4_1 _) (by omega) ?_
            refine j_top (show _ = (nI e9) by simp [up2]) ?_
            have hT : tBuild φ (nI (1 + z % 9)) (nI e9) = 0 := tBuild_0 I (by omega) (by omega) (by omega) (by omega) (by omega)
            refine j_callTIF (vc := (RX2, TX2, 12)) (wr := wJ cI aJ (up2 (up2 (up2 ψ 8 b (nI (1 + z % 9))) 9 b (nI e9)) 14 0 (nI (b + 1)))) (wc := wX cI cL cR ad C φ) h h.2.2.2.2.2.1 dL_acts_217 (c_X2_build hl I.x I.2.1) (cwV 2 h.2.2.2.2.1 gL_acts_X2_build rfl rfl rfl (by decide +kernel) ⟨(Nat.le_of_ble_eq_true rfl), (Nat.le_of_ble_eq_true rfl)⟩) q9 hw9 rfl rfl rfl (Nat.le_of_ble_eq_true rfl) ⟨(Nat.le_of_ble_eq_true rfl), (Nat.le_of_ble_eq_true rfl)⟩ (fun E hE => (fun z => z.elim (fun z => absurd ((hT).symm.trans z.2) (by decide)) (fun z => absurd ((hT).symm.trans z.2) (by decide))) hE) (fun r217 u217 hu217 => ?_)
            obtain ⟨-, rfl, ad2, had, rfl⟩ := hu217
            refine j_aloadR h dL_acts_220 rfl ?_
            refine j_iconst (v := 1) h dL_acts_222 (by decide) ?_
            refine jm_ald1 h dL_acts_223 ?_
            refine j_top (show _ = nI (b + 1) from rfl) ?_
            refine j_iconst (v := 1) h dL_acts_224 (by decide) ?_
            refine j_isub h dL_acts_225 ?_
            refine j_top (nI_pred b) ?_
            refine j_icmp_ne (tgt := 233) h dL_acts_226 (by decide) (fun c226 => absurd (I.x.2.2.2.2.2.1) c226) (fun c226 => ?_)
            refine j_iconst (v := 1) h dL_acts_229 (by decide) ?_
            refine j_goto (tgt := 234) h dL_acts_230 (by decide) ?_
            exact j_zret h hrt hlk dL_acts_234 (Or.inr rfl) (by decide) (by decide) (⟨rfl, n, b + 1, q, d, tm, bdF φ b (nI (1 + z % 9)) (nI e9), _, _, ad2, had, I.bd (by omega) hT, R.bd I hb5 _ _, by omega, Nat.le_refl _, by omega, fun h1 _ => by omega, fun _ _ => rfl, rfl⟩)
          · -- ahead
            refine j_iload h dL_acts_172 rfl ?_
            refine j_iconst (v := 4) h dL_acts_174 (by decide) ?_
            refine j_iremN (a := z) (d := 4) h dL_acts_175 rfl rfl (by omega) (by omega) (by omega) ?_
            refine j_if_ne (tgt := 194) h dL_acts_176 (by decide) (fun c176 => ?_) (fun c176 => ?_)
            · -- t
              refine j_sipush (v := 2000) h dL_acts_194 (by decide) ?_
              exact cut197 _ ⟨2000, by omega, by omega, rfl⟩ _ ⟨rfl, rfl, rfl, rfl, rfl, rfl, rfl, rfl, rfl, trivial⟩
            · -- f
              refine j_bipush (v := 100) h dL_acts_179 (by decide) ?_
              refine j_iload h dL_acts_181 rfl ?_
              refine j_bipush (v := 9) h dL_acts_183 (by decide) ?_
              refine j_idivN (a := z) (d := 9) h dL_acts_185 rfl rfl (by omega) (by omega) (by omega) ?_
              refine j_sipush (v := 600) h dL_acts_186 (by decide) ?_
              refine j_iremN (a := (z / 9)) (d := 600) h dL_acts_189 rfl rfl (by omega) (by omega) (by omega) ?_
              refine j_iadd h dL_acts_190 ?_
              refine j_top (show (100 : Int32) + nI (z / 9 % 600) = nI (100 + z / 9 % 600) from nI_add 100 _) ?_
              refine j_goto (tgt := 197) h dL_acts_191 (by decide) ?_
              exact cut197 _ ⟨100 + z / 9 % 600, by omega, by omega, rfl⟩ _ ⟨rfl, rfl, rfl, rfl, rfl, rfl, rfl, rfl, rfl, trivial⟩
  · -- ahead
    refine j_iload h dL_acts_0 rfl ?_
    refine j_if_ne (tgt := 134) h dL_acts_2 (by decide) (fun c2 => ?_) (fun c2 => ?_)
    · -- t
      exact cut134 (fun y => c2 (by rw [y.1]; rfl)) _ ⟨rfl, rfl, rfl, rfl, rfl, rfl, rfl, rfl, trivial⟩
    · -- f
      refine j_aloadR h dL_acts_5 rfl ?_
      refine j_iconst (v := 0) h dL_acts_7 (by decide) ?_
      refine jm_ald0 h dL_acts_8 ?_
      refine j_top (R.h7 I) ?_
      refine j_bipush (v := 8) h dL_acts_9 (by decide) ?_
      refine j_icmp_ge (tgt := 134) h dL_acts_11 (by decide) (fun c11 => ?_) (fun c11 => ?_)
      · -- t
        exact cut134 (by intro y; rw [show (8 : Int32) = nI 8 from rfl, nI_leI (by omega) (by omega)] at c11; omega) _ ⟨rfl, rfl, rfl, rfl, rfl, rfl, rfl, rfl, trivial⟩
      · -- f
        have hw0 : wy = 0 := (nI_eq (b := 0) (by omega) (by decide)).mp c2
        have hn8 : n < 8 := by
          rw [show (8 : Int32) = nI 8 from rfl, nI_leI (by omega) (by omega)] at c11; omega
        refine j_bipush (v := 8) h dL_acts_14 (by decide) ?_
        refine j_aloadR h dL_acts_16 rfl ?_
        refine j_iconst (v := 0) h dL_acts_18 (by decide) ?_
        refine jm_ald0 h dL_acts_19 ?_
        refine j_top (R.h7 I) ?_
        refine j_imul h dL_acts_20 ?_
        refine j_istore h dL_acts_21 (by decide) ?_
        refine j_aload_nR h dL_acts_23 rfl ?_
        refine j_iload h dL_acts_24 rfl ?_
        refine j_iconst (v := 4) h dL_acts_26 (by decide) ?_
        refine j_iload h dL_acts_27 rfl ?_
        refine j_bipush (v := 9) h dL_acts_29 (by decide) ?_
        refine j_iremN (a := z) (d := 9) h dL_acts_31 rfl rfl (by omega) (by omega) (by omega) ?_
        refine j_iadd h dL_acts_32 ?_
        refine j_top (show (4 : Int32) + nI (z % 9) = nI (4 + z % 9) from nI_add 4 _) ?_
        refine jl_ast n 0 h dL_acts_33 (ix8_0 _) (by decide) (by omega) ?_
        refine j_aload_nR h dL_acts_34 rfl ?_
        refine j_iload h dL_acts_35 rfl ?_
        refine j_iconst (v := 1) h dL_acts_37 (by decide) ?_
        refine j_iadd h dL_acts_38 ?_
        refine j_iload h dL_acts_39 rfl ?_
        refine j_bipush (v := 9) h dL_acts_41 (by decide) ?_
        refine j_idivN (a := z) (d := 9) h dL_acts_43 rfl rfl (by omega) (by omega) (by omega) ?_
        refine j_iconst (v := 4) h dL_acts_44 (by decide) ?_
        refine j_iremN (a := (z / 9)) (d := 4) h dL_acts_45 rfl rfl (by omega) (by omega) (by omega) ?_
        refine jl_ast n 1 h dL_acts_46 (ix8_1 _) (by decide) (by omega) ?_
        refine j_aload_nR h dL_acts_47 rfl ?_
        refine j_iload h dL_acts_48 rfl ?_
        refine j_iconst (v := 2) h dL_acts_50 (by decide) ?_
        refine j_iadd h dL_acts_51 ?_
        refine j_iconst (v := 1) h dL_acts_52 (by decide) ?_
        refine j_iload h dL_acts_53 rfl ?_
        refine j_bipush (v := 36) h dL_acts_55 (by decide) ?_
        refine j_idivN (a := z) (d := 36) h dL_acts_57 rfl rfl (by omega) (by omega) (by omega) ?_
        refine j_iconst (v := 4) h dL_acts_58 (by decide) ?_
        refine j_iremN (a := (z / 36)) (d := 4) h dL_acts_59 rfl rfl (by omega) (by omega) (by omega) ?_
        refine j_iadd h dL_acts_60 ?_
        refine j_top (show (1 : Int32) + nI (z / 36 % 4) = nI (1 + z / 36 % 4) from nI_add 1 _) ?_
        refine jl_ast n 2 h dL_acts_61 (ix8_2 _) (by decide) (by omega) ?_
        refine j_aload_nR h dL_acts_62 rfl ?_
        refine j_iload h dL_acts_63 rfl ?_
        refine j_iconst (v := 3) h dL_acts_65 (by decide) ?_
        refine j_iadd h dL_acts_66 ?_
        refine j_iconst (v := 0) h dL_acts_67 (by decide) ?_
        refine jl_ast n 3 h dL_acts_68 (ix8_3 _) (by decide) (by omega) ?_
        refine j_aload_nR h dL_acts_69 rfl ?_
        refine j_iload h dL_acts_70 rfl ?_
        refine j_iconst (v := 4) h dL_acts_72 (by decide) ?_
        refine j_iadd h dL_acts_73 ?_
        refine j_bipush (v := 20) h dL_acts_74 (by decide) ?_
        refine j_aload_nR h dL_acts_76 rfl ?_
        refine j_iload h dL_acts_77 rfl ?_
        refine j_iconst (v := 2) h dL_acts_79 (by decide) ?_
        refine j_iadd h dL_acts_80 ?_
        refine jl_ald n 2 h dL_acts_81 (ix8_2 _) (by decide) (by omega) ?_
        refine j_top (show _ = (nI (1 + z / 36 % 4)) by simp [up2]) ?_
        refine j_imul h dL_acts_82 ?_
        refine jl_ast n 4 h dL_acts_83 (ix8_4 _) (by decide) (by omega) ?_
        refine j_aload_nR h dL_acts_84 rfl ?_
        refine j_iload h dL_acts_85 rfl ?_
        refine j_iconst (v := 5) h dL_acts_87 (by decide) ?_
        refine j_iadd h dL_acts_88 ?_
        refine j_iconst (v := (-1)) h dL_acts_89 (by decide) ?_
        refine jl_ast n 5 h dL_acts_90 (ix8_5 _) (by decide) (by omega) ?_
        refine j_aloadR h dL_acts_91 rfl ?_
        refine j_iconst (v := 0) h dL_acts_93 (by decide) ?_
        refine j_dup2 h dL_acts_94 rfl rfl ?_
        refine jm_ald0 h dL_acts_95 ?_
        refine j_top (show _ = nI n from R.h7 I) ?_
        refine j_iconst (v := 1) h dL_acts_96 (by decide) ?_
        refine j_iadd h dL_acts_97 ?_
        refine j_top (nI_1 n) ?_
        refine jm_ast0 h dL_acts_98 ?_
        refine j_aload_nR h dL_acts_99 rfl ?_
        refine j_aload_nR h dL_acts_100 rfl ?_
        refine j_iload h dL_acts_101 rfl ?_
        refine jl_ald n 0 h dL_acts_103 (ix8_0 _) (by decide) (by omega) ?_
        refine j_top (show _ = (nI (4 + z % 9)) by simp [up2]) ?_
        refine j_aload_nR h dL_acts_104 rfl ?_
        refine j_iload h dL_acts_105 rfl ?_
        refine j_iconst (v := 1) h dL_acts_107 (by decide) ?_
        refine j_iadd h dL_acts_108 ?_
        refine jl_ald n 1 h dL_acts_109 (ix8_1 _) (by decide) (by omega) ?_
        refine j_top (show _ = (nI (z / 9 % 4)) by simp [up2]) ?_
        refine j_aload_nR h dL_acts_110 rfl ?_
        refine j_iload h dL_acts_111 rfl ?_
        refine j_iconst (v := 2) h dL_acts_113 (by decide) ?_
        refine j_iadd h dL_acts_114 ?_
        refine jl_ald n 2 h dL_acts_115 (ix8_2 _) (by decide) (by omega) ?_
        refine j_top (show _ = (nI (1 + z / 36 % 4)) by simp [up2]) ?_
        have hT : tMake φ (nI (4 + z % 9)) (nI (z / 9 % 4)) (nI (1 + z / 36 % 4)) = 0 := tMake_0 I hn8 (by omega) (by omega) (by omega) (by omega) (by omega) (by omega)
        refine j_callTIF (vc := (RX2, TX2, 12)) (wr := wJ cI aJ (up2 (up2 (up2 (up2 (up2 (up2 (up2 ψ 0 n (nI (4 + z % 9))) 1 n (nI (z / 9 % 4))) 2 n (nI (1 + z / 36 % 4))) 3 n 0) 4 n (20 * (nI (1 + z / 36 % 4)))) 5 n (-1)) 7 0 (nI (n + 1)))) (wc := wX cI cL cR ad C φ) h h.2.2.2.2.2.1 dL_acts_116 (c_X2_make hl I.x I.2.1) (cwV 3 h.2.2.2.2.1 gL_acts_X2_make rfl rfl rfl (by decide +kernel) ⟨(Nat.le_of_ble_eq_true rfl), (Nat.le_of_ble_eq_true rfl)⟩) q9 hw9 rfl rfl rfl (Nat.le_of_ble_eq_true rfl) ⟨(Nat.le_of_ble_eq_true rfl), (Nat.le_of_ble_eq_true rfl)⟩ (fun E hE => (fun z => z.elim (fun z => absurd ((hT).symm.trans z.2) (by decide)) (fun z => absurd ((hT).symm.trans z.2) (by decide))) hE) (fun r116 u116 hu116 => ?_)
        obtain ⟨-, rfl, ad2, had, rfl⟩ := hu116
        refine j_aloadR h dL_acts_119 rfl ?_
        refine j_iconst (v := 0) h dL_acts_121 (by decide) ?_
        refine jm_ald0 h dL_acts_122 ?_
        refine j_top (show _ = nI (n + 1) from rfl) ?_
        refine j_iconst (v := 1) h dL_acts_123 (by decide) ?_
        refine j_isub h dL_acts_124 ?_
        refine j_top (nI_pred n) ?_
        refine j_icmp_ne (tgt := 132) h dL_acts_125 (by decide) (fun c125 => absurd (I.x.2.2.2.2.1) c125) (fun c125 => ?_)
        refine j_iconst (v := 1) h dL_acts_128 (by decide) ?_
        refine j_goto (tgt := 133) h dL_acts_129 (by decide) ?_
        exact j_zret h hrt hlk dL_acts_133 (Or.inr rfl) (by decide) (by decide) (⟨rfl, n + 1, b, q, d, tm, mkF φ n (nI (4 + z % 9)) (nI (z / 9 % 4)) (nI (1 + z / 36 % 4)), _, _, ad2, had, I.mk (by omega) hT, R.mk I hn8 _ _ _, by omega, by omega, Nat.le_refl _, fun _ _ => ⟨rfl, rfl⟩, fun h1 _ => by omega, rfl⟩)
