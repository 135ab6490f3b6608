set_option maxHeartbeats 4000000 in
set_option maxRecDepth 100000 in
theorem law_loop {p : Program} {l : Launch} {e : Env} {s : State} {m : MethodId} {args : Array Value} {below : List Frame} {meth : Method} {c : Code} {Q : State → Prop} {D : va_G} {cI cL cR cJ : ClassId} {aM : Nat → Nat} {o sb L : Nat} {xs : Nat → Int32} (h : jc p s m args c D vwCl (tyL cI cL cR cJ) (fun x : Nat => s.heap.size ≤ x) 7 cL_law RL wsL_law) (hl : l.stackTraces = false) (hnc : NcA s) (hX : va_X sb L xs s s.heap) (hbl : sb < s.heap.size) (hL : L ≤ 2048) (hend : ∀ (k w : Nat) (ws : va_W) (lv : List (Nat × Value)), k ≤ 601024 → w ≤ 7293034 → jj p l e room_1 s m args below meth c Q D vwCl (tyL cI cL cR cJ) (fun x : Nat => s.heap.size ≤ x) 7 (ws) (k) (w) 1422 lv []) : ∀ (N i n b q tm k w : Nat) (φ ψ : St) (C : List Nat) (ad : Nat → Nat) (t : Int32) (F : Nat → Int64), i ≤ 4096 → L ≤ i + N → k + 4 * N + 4 ≤ 601024 → w + 40 * N + 40 ≤ 7293034 → tm + 60 * N ≤ 130000 → IV n b q tm φ C → Rl n b q φ ψ → RG n b ψ → jj p l e room_1 s m args below meth c Q D vwCl (tyL cI cL cR cJ) (fun x : Nat => s.heap.size ≤ x) 7 (wM cI aM ψ t ++ ((o, .inl (cJ, 1, .inr (.inl F))) :: wX cI cL cR ad C φ)) (k) (w) 23 [(0, .ref sb), (1, .ref (ad 0)), (2, .ref (aM 0)), (3, .ref o), (4, .int (nI i))] [] := by
  have hbA : ¬ (fun x : Nat => s.heap.size ≤ x) sb := Nat.not_le.mpr hbl
  intro N
  induction N with
  | zero =>
    intro i n b q tm k w φ ψ C ad t F hi4 hN hk hw ht I Rr G
    refine j_iload h dL_law_23 rfl ?_
    refine j_aload_nR h dL_law_25 rfl ?_
    refine j_slen h hX hbl hbA dL_law_26 ?_
    refine j_iconst (v := 4) h dL_law_27 (by decide) ?_
    refine j_isub h dL_law_28 ?_
    refine j_icmp_gt (tgt := 1422) h dL_law_29 (by decide) (fun _ => hend _ _ _ _ (by omega) (by omega)) (fun c29 => ?_)
    exfalso
    rw [Int32.not_lt, Int32.le_iff_toInt_le, nI_toInt (by omega), show (4 : Int32) = nI 4 from rfl, pk_sub_toInt (by omega) (by decide)] at c29
    omega
  | succ N ih =>
    intro i n b q tm k w φ ψ C ad t F hi4 hN hk hw ht I Rr G
    refine j_iload h dL_law_23 rfl ?_
    refine j_aload_nR h dL_law_25 rfl ?_
    refine j_slen h hX hbl hbA dL_law_26 ?_
    refine j_iconst (v := 4) h dL_law_27 (by decide) ?_
    refine j_isub h dL_law_28 ?_
    refine j_icmp_gt (tgt := 1422) h dL_law_29 (by decide) (fun _ => hend _ _ _ _ (by omega) (by omega)) (fun c29 => ?_)
    have hi : i + 3 < L := by
      rw [Int32.not_lt, Int32.le_iff_toInt_le, nI_toInt (by omega), show (4 : Int32) = nI 4 from rfl, pk_sub_toInt (by omega) (by decide)] at c29
      omega
    have K : ∀ (n2 b2 q2 tm2 k2 w2 : Nat) (φ2 ψ2 : St) (C2 : List Nat) (ad2 : Nat → Nat) (t2 : Int32) (F2 : Nat → Int64), k2 ≤ k + 4 → w2 ≤ w + 40 → IV n2 b2 q2 tm2 φ2 C2 → Rl n2 b2 q2 φ2 ψ2 → RG n2 b2 ψ2 → tm2 ≤ tm + 60 → ad 0 = ad2 0 → jj p l e room_1 s m args below meth c Q D vwCl (tyL cI cL cR cJ) (fun x : Nat => s.heap.size ≤ x) 7 (wM cI aM ψ2 t2 ++ ((o, .inl (cJ, 1, .inr (.inl F2))) :: wX cI cL cR ad2 C2 φ2)) (k2) (w2) 1416 [(0, .ref sb), (1, .ref (ad 0)), (2, .ref (aM 0)), (3, .ref o), (4, .int (nI i))] [] := by
      intro n2 b2 q2 tm2 k2 w2 φ2 ψ2 C2 ad2 t2 F2 hk2 hw2 I2 R2 G2 ht2 had
      refine j_iinc (v := nI (i + 4)) h dL_law_1416 rfl (nI_add i 4) (by decide) ?_
      refine j_goto (tgt := 23) h dL_law_1419 (by decide) ?_
      refine jj_to (l1 := [(0, .ref sb), (1, .ref (ad2 0)), (2, .ref (aM 0)), (3, .ref o), (4, .int (nI (i + 4)))]) (ih (i + 4) n2 b2 q2 tm2 k2 w2 φ2 ψ2 C2 ad2 t2 F2 (by omega) (by omega) (by omega) (by omega) (by omega) I2 R2 G2) ⟨rfl, by rw [← had]; rfl, rfl, rfl, rfl, trivial⟩
    refine j_aload_nR h dL_law_32 rfl ?_
    refine j_iload h dL_law_33 rfl ?_
    refine j_sld (a := i) h hX hbl hbA (by omega) rfl (by omega) dL_law_35 ?_
    refine j_bipush (v := 31) h dL_law_36 (by decide) ?_
    refine j_iand h dL_law_38 ?_
    obtain ⟨a, ha, ea⟩ := and31 (xs i)
    rw [ea]
    rcases Nat.lt_or_ge a 24 with h24 | h24
    · have hc : a = 0 ∨ a = 1 ∨ a = 2 ∨ a = 3 ∨ a = 4 ∨ a = 5 ∨ a = 6 ∨ a = 7 ∨ a = 8 ∨ a = 9 ∨ a = 10 ∨ a = 11 ∨ a = 12 ∨ a = 13 ∨ a = 14 ∨ a = 15 ∨ a = 16 ∨ a = 17 ∨ a = 18 ∨ a = 19 ∨ a = 20 ∨ a = 21 ∨ a = 22 ∨ a = 23 := by omega
      rcases hc with rfl | rfl | rfl | rfl | rfl | rfl | rfl | rfl | rfl | rfl | rfl | rfl | rfl | rfl | rfl | rfl | rfl | rfl | rfl | rfl | rfl | rfl | rfl | rfl
      · refine j_tabI (tgt := 148) (off := 109) h dL_law_39 (by decide) (by decide) (by decide +kernel) (by decide) ?_
        exact sg_make h hl hnc hX hbl hbA (by omega) hi (by omega) (by omega) I Rr G (by omega) (fun n2 b2 q2 tm2 φ2 ψ2 C2 ad2 t2 F2 I2 R2 G2 h2 h3 => K n2 b2 q2 tm2 _ _ φ2 ψ2 C2 ad2 t2 F2 (by omega) (by omega) I2 R2 G2 h2 h3)
      · refine j_tabI (tgt := 228) (off := 189) h dL_law_39 (by decide) (by decide) (by decide +kernel) (by decide) ?_
        exact sg_hang h hl hnc hX hbl hbA (by omega) hi (by omega) (by omega) I Rr G (by omega) (fun n2 b2 q2 tm2 φ2 ψ2 C2 ad2 t2 F2 I2 R2 G2 h2 h3 => K n2 b2 q2 tm2 _ _ φ2 ψ2 C2 ad2 t2 F2 (by omega) (by omega) I2 R2 G2 h2 h3)
      · refine j_tabI (tgt := 308) (off := 269) h dL_law_39 (by decide) (by decide) (by decide +kernel) (by decide) ?_
        exact sg_takeDown h hl hnc hX hbl hbA (by omega) hi (by omega) (by omega) I Rr G (by omega) (fun n2 b2 q2 tm2 φ2 ψ2 C2 ad2 t2 F2 I2 R2 G2 h2 h3 => K n2 b2 q2 tm2 _ _ φ2 ψ2 C2 ad2 t2 F2 (by omega) (by omega) I2 R2 G2 h2 h3)
      · refine j_tabI (tgt := 364) (off := 325) h dL_law_39 (by decide) (by decide) (by decide +kernel) (by decide) ?_
        exact sg_light h hl hnc hX hbl hbA (by omega) hi (by omega) (by omega) I Rr G (by omega) (fun n2 b2 q2 tm2 φ2 ψ2 C2 ad2 t2 F2 I2 R2 G2 h2 h3 => K n2 b2 q2 tm2 _ _ φ2 ψ2 C2 ad2 t2 F2 (by omega) (by omega) I2 R2 G2 h2 h3)
      · refine j_tabI (tgt := 420) (off := 381) h dL_law_39 (by decide) (by decide) (by decide +kernel) (by decide) ?_
        exact sg_putOut h hl hnc hX hbl hbA (by omega) hi (by omega) (by omega) I Rr G (by omega) (fun n2 b2 q2 tm2 φ2 ψ2 C2 ad2 t2 F2 I2 R2 G2 h2 h3 => K n2 b2 q2 tm2 _ _ φ2 ψ2 C2 ad2 t2 F2 (by omega) (by omega) I2 R2 G2 h2 h3)
      · refine j_tabI (tgt := 476) (off := 437) h dL_law_39 (by decide) (by decide) (by decide +kernel) (by decide) ?_
        exact sg_build h hl hnc hX hbl hbA (by omega) hi (by omega) (by omega) I Rr G (by omega) (fun n2 b2 q2 tm2 φ2 ψ2 C2 ad2 t2 F2 I2 R2 G2 h2 h3 => K n2 b2 q2 tm2 _ _ φ2 ψ2 C2 ad2 t2 F2 (by omega) (by omega) I2 R2 G2 h2 h3)
      · refine j_tabI (tgt := 544) (off := 505) h dL_law_39 (by decide) (by decide) (by decide +kernel) (by decide) ?_
        exact sg_launch h hl hnc hX hbl hbA (by omega) hi (by omega) (by omega) I Rr G (by omega) (fun n2 b2 q2 tm2 φ2 ψ2 C2 ad2 t2 F2 I2 R2 G2 h2 h3 => K n2 b2 q2 tm2 _ _ φ2 ψ2 C2 ad2 t2 F2 (by omega) (by omega) I2 R2 G2 h2 h3)
      · refine j_tabI (tgt := 600) (off := 561) h dL_law_39 (by decide) (by decide) (by decide +kernel) (by decide) ?_
        exact sg_setRules h hl hnc hX hbl hbA (by omega) hi (by omega) (by omega) I Rr G (by omega) (fun n2 b2 q2 tm2 φ2 ψ2 C2 ad2 t2 F2 I2 R2 G2 h2 h3 => K n2 b2 q2 tm2 _ _ φ2 ψ2 C2 ad2 t2 F2 (by omega) (by omega) I2 R2 G2 h2 h3)
      · refine j_tabI (tgt := 668) (off := 629) h dL_law_39 (by decide) (by decide) (by decide +kernel) (by decide) ?_
        exact sg_setGust h hl hnc hX hbl hbA (by omega) hi (by omega) (by omega) I Rr G (by omega) (fun n2 b2 q2 tm2 φ2 ψ2 C2 ad2 t2 F2 I2 R2 G2 h2 h3 => K n2 b2 q2 tm2 _ _ φ2 ψ2 C2 ad2 t2 F2 (by omega) (by omega) I2 R2 G2 h2 h3)
      · refine j_tabI (tgt := 736) (off := 697) h dL_law_39 (by decide) (by decide) (by decide +kernel) (by decide) ?_
        exact sg_pass h hl hnc hX hbl hbA (by omega) hi (by omega) (by omega) I Rr G (by omega) (fun n2 b2 q2 tm2 φ2 ψ2 C2 ad2 t2 F2 I2 R2 G2 h2 h3 => K n2 b2 q2 tm2 _ _ φ2 ψ2 C2 ad2 t2 F2 (by omega) (by omega) I2 R2 G2 h2 h3)
      · refine j_tabI (tgt := 792) (off := 753) h dL_law_39 (by decide) (by decide) (by decide +kernel) (by decide) ?_
        exact sg_time (xs := xs) (L := L) h (by omega) (by omega) I Rr (fun F2 => K n b q tm _ _ φ ψ C ad 0 F2 (by omega) (by omega) I Rr G (by omega) rfl)
      · refine j_tabI (tgt := 805) (off := 766) h dL_law_39 (by decide) (by decide) (by decide +kernel) (by decide) ?_
        exact sg_lanterns (xs := xs) (L := L) h (by omega) (by omega) I Rr (fun F2 => K n b q tm _ _ φ ψ C ad 0 F2 (by omega) (by omega) I Rr G (by omega) rfl)
      · refine j_tabI (tgt := 818) (off := 779) h dL_law_39 (by decide) (by decide) (by decide +kernel) (by decide) ?_
        exact sg_stateOf h hl hnc hX hbl hbA (by omega) hi (by omega) (by omega) I Rr G (by omega) (fun n2 b2 q2 tm2 φ2 ψ2 C2 ad2 t2 F2 I2 R2 G2 h2 h3 => K n2 b2 q2 tm2 _ _ φ2 ψ2 C2 ad2 t2 F2 (by omega) (by omega) I2 R2 G2 h2 h3)
      · refine j_tabI (tgt := 874) (off := 835) h dL_law_39 (by decide) (by decide) (by decide +kernel) (by decide) ?_
        exact sg_left h hl hnc hX hbl hbA (by omega) hi (by omega) (by omega) I Rr G (by omega) (fun n2 b2 q2 tm2 φ2 ψ2 C2 ad2 t2 F2 I2 R2 G2 h2 h3 => K n2 b2 q2 tm2 _ _ φ2 ψ2 C2 ad2 t2 F2 (by omega) (by omega) I2 R2 G2 h2 h3)
      · refine j_tabI (tgt := 930) (off := 891) h dL_law_39 (by decide) (by decide) (by decide +kernel) (by decide) ?_
        exact sg_placeOf h hl hnc hX hbl hbA (by omega) hi (by omega) (by omega) I Rr G (by omega) (fun n2 b2 q2 tm2 φ2 ψ2 C2 ad2 t2 F2 I2 R2 G2 h2 h3 => K n2 b2 q2 tm2 _ _ φ2 ψ2 C2 ad2 t2 F2 (by omega) (by omega) I2 R2 G2 h2 h3)
      · refine j_tabI (tgt := 986) (off := 947) h dL_law_39 (by decide) (by decide) (by decide +kernel) (by decide) ?_
        exact sg_nearest h hl hnc hX hbl hbA (by omega) hi (by omega) (by omega) I Rr G (by omega) (fun n2 b2 q2 tm2 φ2 ψ2 C2 ad2 t2 F2 I2 R2 G2 h2 h3 => K n2 b2 q2 tm2 _ _ φ2 ψ2 C2 ad2 t2 F2 (by omega) (by omega) I2 R2 G2 h2 h3)
      · refine j_tabI (tgt := 1042) (off := 1003) h dL_law_39 (by decide) (by decide) (by decide +kernel) (by decide) ?_
        exact sg_nearestOfAll h hl hnc hX hbl hbA (by omega) hi (by omega) (by omega) I Rr G (by omega) (fun n2 b2 q2 tm2 φ2 ψ2 C2 ad2 t2 F2 I2 R2 G2 h2 h3 => K n2 b2 q2 tm2 _ _ φ2 ψ2 C2 ad2 t2 F2 (by omega) (by omega) I2 R2 G2 h2 h3)
      · refine j_tabI (tgt := 1098) (off := 1059) h dL_law_39 (by decide) (by decide) (by decide +kernel) (by decide) ?_
        exact sg_blownOut (xs := xs) (L := L) h (by omega) (by omega) I Rr (fun F2 => K n b q tm _ _ φ ψ C ad 0 F2 (by omega) (by omega) I Rr G (by omega) rfl)
      · refine j_tabI (tgt := 1111) (off := 1072) h dL_law_39 (by decide) (by decide) (by decide +kernel) (by decide) ?_
        exact sg_ordered (xs := xs) (L := L) h (by omega) (by omega) I Rr (fun F2 => K n b q tm _ _ φ ψ C ad 0 F2 (by omega) (by omega) I Rr G (by omega) rfl)
      · refine j_tabI (tgt := 1124) (off := 1085) h dL_law_39 (by decide) (by decide) (by decide +kernel) (by decide) ?_
        exact sg_sortOf h hl hnc hX hbl hbA (by omega) hi (by omega) (by omega) I Rr G (by omega) (fun n2 b2 q2 tm2 φ2 ψ2 C2 ad2 t2 F2 I2 R2 G2 h2 h3 => K n2 b2 q2 tm2 _ _ φ2 ψ2 C2 ad2 t2 F2 (by omega) (by omega) I2 R2 G2 h2 h3)
      · refine j_tabI (tgt := 1180) (off := 1141) h dL_law_39 (by decide) (by decide) (by decide +kernel) (by decide) ?_
        exact sg_front h hl hnc hX hbl hbA (by omega) hi (by omega) (by omega) I Rr G (by omega) (fun n2 b2 q2 tm2 φ2 ψ2 C2 ad2 t2 F2 I2 R2 G2 h2 h3 => K n2 b2 q2 tm2 _ _ φ2 ψ2 C2 ad2 t2 F2 (by omega) (by omega) I2 R2 G2 h2 h3)
      · refine j_tabI (tgt := 1236) (off := 1197) h dL_law_39 (by decide) (by decide) (by decide +kernel) (by decide) ?_
        exact sg_load h hl hnc hX hbl hbA (by omega) hi (by omega) (by omega) I Rr G (by omega) (fun n2 b2 q2 tm2 φ2 ψ2 C2 ad2 t2 F2 I2 R2 G2 h2 h3 => K n2 b2 q2 tm2 _ _ φ2 ψ2 C2 ad2 t2 F2 (by omega) (by omega) I2 R2 G2 h2 h3)
      · refine j_tabI (tgt := 1292) (off := 1253) h dL_law_39 (by decide) (by decide) (by decide +kernel) (by decide) ?_
        exact sg_likeness h hl hnc hX hbl hbA (by omega) hi (by omega) (by omega) I Rr G (by omega) (fun n2 b2 q2 tm2 φ2 ψ2 C2 ad2 t2 F2 I2 R2 G2 h2 h3 => K n2 b2 q2 tm2 _ _ φ2 ψ2 C2 ad2 t2 F2 (by omega) (by omega) I2 R2 G2 h2 h3)
      · refine j_tabI (tgt := 1360) (off := 1321) h dL_law_39 (by decide) (by decide) (by decide +kernel) (by decide) ?_
        exact sg_prize h hl hnc hX hbl hbA (by omega) hi (by omega) (by omega) I Rr G (by omega) (fun n2 b2 q2 tm2 φ2 ψ2 C2 ad2 t2 F2 I2 R2 G2 h2 h3 => K n2 b2 q2 tm2 _ _ φ2 ψ2 C2 ad2 t2 F2 (by omega) (by omega) I2 R2 G2 h2 h3)
    · refine j_tabO (tgt := 1416) h dL_law_39 (Or.inr (by rw [nI_toInt (by omega)]; omega)) (by decide) ?_
      exact K n b q tm _ _ φ ψ C ad t F (by omega) (by omega) I Rr G (by omega) rfl
