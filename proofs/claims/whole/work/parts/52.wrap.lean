abbrev tyL (cI cL cR cJ : ClassId) : List (ClassId × FieldType) := [(cI, .int), (cL, .object "Festoon$Lantern"), (cR, .object "Festoon$Raft"), (cJ, .long)]
set_option maxHeartbeats 4000000 in
set_option maxRecDepth 100000 in
theorem c_L_make {l : Launch} {D : va_G} {cI cL cR cJ : ClassId} {o : Nat} {F : Nat → Int64} (hl : l.stackTraces = false) {ad : Nat → Nat} {f : St} {C : List Nat} {n b q : Nat} {x y z : Int32} (hx : xw n b q f C) (hv : xv b f) : ctL l D vwCl (tyL cI cL cR cJ) yL_make wsL_make { frames := 7, cells := 1, slots := 7, locals := 105 } [.ref (ad 0), .int x, .int y, .int z, .ref o] ((o, .inl (cJ, 1, .inr (.inl F))) :: wX cI cL cR ad C f) (fun r u => (¬ r = 0 ∧ r = tMake f x y z ∧ u = (o, .inl (cJ, 1, .inr (.inl F))) :: wX cI cL cR ad C f) ∨ (r = 0 ∧ ∃ (v : Int32) (u0 : va_W), (fun v u => tMake f x y z = 0 ∧ v = f 7 0 ∧ ∃ ad' : Nat → Nat, ad 0 = ad' 0 ∧ u = wX cI cL cR ad' (C ++ [5 + n]) (mkF f n x y z)) v u0 ∧ u = (o, .inl (cJ, 1, .inr (.inl (vp_updL F 0 v.toInt64)))) :: u0)) 1 7 := by
  refine ctL_of (cc := cL_make) (maxL := 6) (ret := (some .int)) (hh := [(0, 12, 15, 13), (0, 12, 19, 15)]) (by decide) rfl rfl (Nat.le_of_ble_eq_true rfl) (by simp [Value.category]) [(0, .ref (ad 0)), (1, .int x), (2, .int y), (3, .int z), (4, .ref o)] rfl ?_
  intro p e s m args below meth c sz h hrt hlk htab hnc
  obtain ⟨B9, -, -, hxe9⟩ := id h.2.2.2.2.2.2.2
  obtain ⟨q9, hw9⟩ := wX_recv (cI := cI) (cL := cL) (cR := cR) (ad := ad) (f := f) (hx.c (show 0 < 5 by decide))
  rw [gX_0] at hw9
  refine j_aloadR h dL_make_0 rfl ?_
  refine j_iconst (v := 0) h dL_make_2 (by decide) ?_
  refine j_aload_nR h dL_make_3 rfl ?_
  refine j_iload_n h dL_make_4 rfl ?_
  refine j_iload_n h dL_make_5 rfl ?_
  refine j_iload_n h dL_make_6 rfl ?_
  refine jj_ws (ws1 := [(o, .inl (cJ, 1, .inr (.inl F)))] ++ wX cI cL cR ad C f) rfl ?_
  refine j_callTIF (vc := (RX2, TX2, 12)) h (h.2.2.2.2.2.1.sub [0, 1, 2] rfl) dL_make_7 (c_X2_make hl hx hv) (cwV 3 h.2.2.2.2.1 gL_make_X2_make rfl rfl rfl (by decide +kernel) ⟨(Nat.le_of_ble_eq_true rfl), (Nat.le_of_ble_eq_true rfl)⟩) q9 hw9 rfl rfl rfl (Nat.le_of_ble_eq_true rfl) ⟨(Nat.le_of_ble_eq_true rfl), (Nat.le_of_ble_eq_true rfl)⟩ (fun E hE => ?_) (fun r u hu => ?_)
  · rcases hE with ⟨rfl, hT⟩ | ⟨rfl, hT⟩
    · -- java/lang/IllegalArgumentException
      refine ⟨[], ⟨0, 12, 15, 13⟩, [⟨0, 12, 19, 15⟩], "java/lang/IllegalArgumentException", htab, (fun _ h9 => absurd h9 List.not_mem_nil), by decide, by decide, h.2.2.2.2.1 _ (by decide +kernel), va_Nw.use rfl (hxe9.2.2.1 _ (by decide)), fun q8 => ?_⟩
      refine j_astoreR h dL_make_15 (by decide) ?_
      refine j_iconst (v := 1) h dL_make_17 (by decide) ?_
      exact j_iret h hrt hlk dL_make_18 (Nat.le_of_ble_eq_true rfl) (Nat.le_of_ble_eq_true rfl) (Or.inl ⟨by decide, hT.symm, rfl⟩)
    · -- java/lang/IllegalStateException
      refine ⟨[⟨0, 12, 15, 13⟩], ⟨0, 12, 19, 15⟩, [], "java/lang/IllegalStateException", htab, (List.forall_mem_cons.mpr ⟨Or.inr ⟨by decide, "java/lang/IllegalArgumentException", h.2.2.2.2.1 _ (by decide +kernel), hnc _ (by decide) _ (by decide) (by decide)⟩, (fun _ h9 => absurd h9 List.not_mem_nil)⟩), by decide, by decide, h.2.2.2.2.1 _ (by decide +kernel), va_Nw.use rfl (hxe9.2.2.1 _ (by decide)), fun q8 => ?_⟩
      refine j_astoreR h dL_make_19 (by decide) ?_
      refine j_iconst (v := 2) h dL_make_21 (by decide) ?_
      exact j_iret h hrt hlk dL_make_22 (Nat.le_of_ble_eq_true rfl) (Nat.le_of_ble_eq_true rfl) (Or.inl ⟨by decide, hT.symm, rfl⟩)
  · -- it returns
    refine j_i2l h dL_make_10 ?_
    refine j_last0 h 3 rfl dL_make_11 ?_
    refine j_goto (tgt := 23) h dL_make_12 (by decide) ?_
    refine j_iconst (v := 0) h dL_make_23 (by decide) ?_
    exact j_iret h hrt hlk dL_make_24 (Nat.le_of_ble_eq_true rfl) (Nat.le_of_ble_eq_true rfl) (Or.inr ⟨rfl, r, u, hu, rfl⟩)
set_option maxHeartbeats 4000000 in
set_option maxRecDepth 100000 in
theorem c_L_hang {l : Launch} {D : va_G} {cI cL cR cJ : ClassId} {o : Nat} {F : Nat → Int64} (hl : l.stackTraces = false) {ad : Nat → Nat} {f : St} {C : List Nat} {n b q : Nat} {x y z : Int32} (hx : xw n b q f C) : ctL l D vwCl (tyL cI cL cR cJ) yL_hang wsL_hang { frames := 8, cells := 3, slots := 18, locals := 129 } [.ref (ad 0), .int x, .int y, .int z, .ref o] ((o, .inl (cJ, 1, .inr (.inl F))) :: wX cI cL cR ad C f) (fun r u => (¬ r = 0 ∧ r = cHang f x y z ∧ u = (o, .inl (cJ, 1, .inr (.inl F))) :: wX cI cL cR ad C f) ∨ (r = 0 ∧ ∃ (v : Int32) (u0 : va_W), (fun v u => cHang f x y z = 0 ∧ v = wtS (up2 (up2 (up2 f (30 + y.toNatClampNeg) z.toNatClampNeg x) 5 x.toNatClampNeg y) 6 x.toNatClampNeg z) y.toNatClampNeg 10 ∧ u = wX cI cL cR ad C (up2 (up2 (up2 f (30 + y.toNatClampNeg) z.toNatClampNeg x) 5 x.toNatClampNeg y) 6 x.toNatClampNeg z)) v u0 ∧ u = (o, .inl (cJ, 1, .inr (.inl (vp_updL F 0 v.toInt64)))) :: u0)) 3 18 := by
  refine ctL_of (cc := cL_hang) (maxL := 6) (ret := (some .int)) (hh := [(0, 12, 15, 20), (0, 12, 19, 13), (0, 12, 23, 15)]) (by decide) rfl rfl (Nat.le_of_ble_eq_true rfl) (by simp [Value.category]) [(0, .ref (ad 0)), (1, .int x), (2, .int y), (3, .int z), (4, .ref o)] rfl ?_
  intro p e s m args below meth c sz h hrt hlk htab hnc
  obtain ⟨B9, -, -, hxe9⟩ := id h.2.2.2.2.2.2.2
  obtain ⟨q9, hw9⟩ := wX_recv (cI := cI) (cL := cL) (cR := cR) (ad := ad) (f := f) (hx.c (show 0 < 5 by decide))
  rw [gX_0] at hw9
  refine j_aloadR h dL_hang_0 rfl ?_
  refine j_iconst (v := 0) h dL_hang_2 (by decide) ?_
  refine j_aload_nR h dL_hang_3 rfl ?_
  refine j_iload_n h dL_hang_4 rfl ?_
  refine j_iload_n h dL_hang_5 rfl ?_
  refine j_iload_n h dL_hang_6 rfl ?_
  refine jj_ws (ws1 := [(o, .inl (cJ, 1, .inr (.inl F)))] ++ wX cI cL cR ad C f) rfl ?_
  refine j_callTIF (vc := (RX2, TX2, 12)) h (h.2.2.2.2.2.1.sub [0, 1, 2] rfl) dL_hang_7 (c_X2_hang hl hx) (cwV 3 h.2.2.2.2.1 gL_hang_X2_hang rfl rfl rfl (by decide +kernel) ⟨(Nat.le_of_ble_eq_true rfl), (Nat.le_of_ble_eq_true rfl)⟩) q9 hw9 rfl rfl rfl (Nat.le_of_ble_eq_true rfl) ⟨(Nat.le_of_ble_eq_true rfl), (Nat.le_of_ble_eq_true rfl)⟩ (fun E hE => ?_) (fun r u hu => ?_)
  · rcases hE with ⟨rfl, hT⟩ | ⟨rfl, hT⟩ | ⟨rfl, hT⟩
    · -- java/lang/IndexOutOfBoundsException
      refine ⟨[], ⟨0, 12, 15, 20⟩, [⟨0, 12, 19, 13⟩, ⟨0, 12, 23, 15⟩], "java/lang/IndexOutOfBoundsException", htab, (fun _ h9 => absurd h9 List.not_mem_nil), by decide, by decide, h.2.2.2.2.1 _ (by decide +kernel), va_Nw.use rfl (hxe9.2.2.1 _ (by decide)), fun q8 => ?_⟩
      refine j_astoreR h dL_hang_15 (by decide) ?_
      refine j_iconst (v := 1) h dL_hang_17 (by decide) ?_
      exact j_iret h hrt hlk dL_hang_18 (Nat.le_of_ble_eq_true rfl) (Nat.le_of_ble_eq_true rfl) (Or.inl ⟨by decide, hT.symm, rfl⟩)
    · -- java/lang/IllegalArgumentException
      refine ⟨[⟨0, 12, 15, 20⟩], ⟨0, 12, 19, 13⟩, [⟨0, 12, 23, 15⟩], "java/lang/IllegalArgumentException", htab, (List.forall_mem_cons.mpr ⟨Or.inr ⟨by decide, "java/lang/IndexOutOfBoundsException", h.2.2.2.2.1 _ (by decide +kernel), hnc _ (by decide) _ (by decide) (by decide)⟩, (fun _ h9 => absurd h9 List.not_mem_nil)⟩), by decide, by decide, h.2.2.2.2.1 _ (by decide +kernel), va_Nw.use rfl (hxe9.2.2.1 _ (by decide)), fun q8 => ?_⟩
      refine j_astoreR h dL_hang_19 (by decide) ?_
      refine j_iconst (v := 2) h dL_hang_21 (by decide) ?_
      exact j_iret h hrt hlk dL_hang_22 (Nat.le_of_ble_eq_true rfl) (Nat.le_of_ble_eq_true rfl) (Or.inl ⟨by decide, hT.symm, rfl⟩)
    · -- java/lang/IllegalStateException
      refine ⟨[⟨0, 12, 15, 20⟩, ⟨0, 12, 19, 13⟩], ⟨0, 12, 23, 15⟩, [], "java/lang/IllegalStateException", htab, (List.forall_mem_cons.mpr ⟨Or.inr ⟨by decide, "java/lang/IndexOutOfBoundsException", h.2.2.2.2.1 _ (by decide +kernel), hnc _ (by decide) _ (by decide) (by decide)⟩, (List.forall_mem_cons.mpr ⟨Or.inr ⟨by decide, "java/lang/IllegalArgumentException", h.2.2.2.2.1 _ (by decide +kernel), hnc _ (by decide) _ (by decide) (by decide)⟩, (fun _ h9 => absurd h9 List.not_mem_nil)⟩)⟩), by decide, by decide, h.2.2.2.2.1 _ (by decide +kernel), va_Nw.use rfl (hxe9.2.2.1 _ (by decide)), fun q8 => ?_⟩
      refine j_astoreR h dL_hang_23 (by decide) ?_
      refine j_iconst (v := 3) h dL_hang_25 (by decide) ?_
      exact j_iret h hrt hlk dL_hang_26 (Nat.le_of_ble_eq_true rfl) (Nat.le_of_ble_eq_true rfl) (Or.inl ⟨by decide, hT.symm, rfl⟩)
  · -- it returns
    refine j_i2l h dL_hang_10 ?_
    refine j_last0 h 3 rfl dL_hang_11 ?_
    refine j_goto (tgt := 27) h dL_hang_12 (by decide) ?_
    refine j_iconst (v := 0) h dL_hang_27 (by decide) ?_
    exact j_iret h hrt hlk dL_hang_28 (Nat.le_of_ble_eq_true rfl) (Nat.le_of_ble_eq_true rfl) (Or.inr ⟨rfl, r, u, hu, rfl⟩)
set_option maxHeartbeats 4000000 in
set_option maxRecDepth 100000 in
theorem c_L_takeDown {l : Launch} {D : va_G} {cI cL cR cJ : ClassId} {o : Nat} {F : Nat → Int64} (hl : l.stackTraces = false) {ad : Nat → Nat} {f : St} {C : List Nat} {n b q : Nat} {x : Int32} (hx : xw n b q f C) (hst : stO f n) : ctL l D vwCl (tyL cI cL cR cJ) yL_takeDown wsL_takeDown { frames := 8, cells := 2, slots := 12, locals := 127 } [.ref (ad 0), .int x, .ref o] ((o, .inl (cJ, 1, .inr (.inl F))) :: wX cI cL cR ad C f) (fun r u => (¬ r = 0 ∧ r = tTake f x ∧ u = (o, .inl (cJ, 1, .inr (.inl F))) :: wX cI cL cR ad C f) ∨ (r = 0 ∧ ∃ (v : Int32) (u0 : va_W), (fun v u => tTake f x = 0 ∧ v = f 5 x.toNatClampNeg ∧ u = wX cI cL cR ad C (dkF (up2 (up2 (frF f (f 5 x.toNatClampNeg).toNatClampNeg x.toNatClampNeg 10) 5 x.toNatClampNeg (-1)) 6 x.toNatClampNeg (-1)) x.toNatClampNeg)) v u0 ∧ u = (o, .inl (cJ, 1, .inr (.inl (vp_updL F 0 v.toInt64)))) :: u0)) 2 12 := by
  refine ctL_of (cc := cL_takeDown) (maxL := 4) (ret := (some .int)) (hh := [(0, 9, 12, 20), (0, 9, 15, 15)]) (by decide) rfl rfl (Nat.le_of_ble_eq_true rfl) (by simp [Value.category]) [(0, .ref (ad 0)), (1, .int x), (2, .ref o)] rfl ?_
  intro p e s m args below meth c sz h hrt hlk htab hnc
  obtain ⟨B9, -, -, hxe9⟩ := id h.2.2.2.2.2.2.2
  obtain ⟨q9, hw9⟩ := wX_recv (cI := cI) (cL := cL) (cR := cR) (ad := ad) (f := f) (hx.c (show 0 < 5 by decide))
  rw [gX_0] at hw9
  refine j_aload_nR h dL_takeDown_0 rfl ?_
  refine j_iconst (v := 0) h dL_takeDown_1 (by decide) ?_
  refine j_aload_nR h dL_takeDown_2 rfl ?_
  refine j_iload_n h dL_takeDown_3 rfl ?_
  refine jj_ws (ws1 := [(o, .inl (cJ, 1, .inr (.inl F)))] ++ wX cI cL cR ad C f) rfl ?_
  refine j_callTIF (vc := (RX2, TX2, 12)) h (h.2.2.2.2.2.1.sub [0, 1, 2] rfl) dL_takeDown_4 (c_X2_takeDown hl hx hst) (cwV 1 h.2.2.2.2.1 gL_takeDown_X2_takeDown rfl rfl rfl (by decide +kernel) ⟨(Nat.le_of_ble_eq_true rfl), (Nat.le_of_ble_eq_true rfl)⟩) q9 hw9 rfl rfl rfl (Nat.le_of_ble_eq_true rfl) ⟨(Nat.le_of_ble_eq_true rfl), (Nat.le_of_ble_eq_true rfl)⟩ (fun E hE => ?_) (fun r u hu => ?_)
  · rcases hE with ⟨rfl, hT⟩ | ⟨rfl, hT⟩
    · -- java/lang/IndexOutOfBoundsException
      refine ⟨[], ⟨0, 9, 12, 20⟩, [⟨0, 9, 15, 15⟩], "java/lang/IndexOutOfBoundsException", htab, (fun _ h9 => absurd h9 List.not_mem_nil), by decide, by decide, h.2.2.2.2.1 _ (by decide +kernel), va_Nw.use rfl (hxe9.2.2.1 _ (by decide)), fun q8 => ?_⟩
      refine j_astore_nR (i := 3) h dL_takeDown_12 rfl (by decide) ?_
      refine j_iconst (v := 1) h dL_takeDown_13 (by decide) ?_
      exact j_iret h hrt hlk dL_takeDown_14 (Nat.le_of_ble_eq_true rfl) (Nat.le_of_ble_eq_true rfl) (Or.inl ⟨by decide, hT.symm, rfl⟩)
    · -- java/lang/IllegalStateException
      refine ⟨[⟨0, 9, 12, 20⟩], ⟨0, 9, 15, 15⟩, [], "java/lang/IllegalStateException", htab, (List.forall_mem_cons.mpr ⟨Or.inr ⟨by decide, "java/lang/IndexOutOfBoundsException", h.2.2.2.2.1 _ (by decide +kernel), hnc _ (by decide) _ (by decide) (by decide)⟩, (fun _ h9 => absurd h9 List.not_mem_nil)⟩), by decide, by decide, h.2.2.2.2.1 _ (by decide +kernel), va_Nw.use rfl (hxe9.2.2.1 _ (by decide)), fun q8 => ?_⟩
      refine j_astore_nR (i := 3) h dL_takeDown_15 rfl (by decide) ?_
      refine j_iconst (v := 2) h dL_takeDown_16 (by decide) ?_
      exact j_iret h hrt hlk dL_takeDown_17 (Nat.le_of_ble_eq_true rfl) (Nat.le_of_ble_eq_true rfl) (Or.inl ⟨by decide, hT.symm, rfl⟩)
  · -- it returns
    refine j_i2l h dL_takeDown_7 ?_
    refine j_last0 h 3 rfl dL_takeDown_8 ?_
    refine j_goto (tgt := 18) h dL_takeDown_9 (by decide) ?_
    refine j_iconst (v := 0) h dL_takeDown_18 (by decide) ?_
    exact j_iret h hrt hlk dL_takeDown_19 (Nat.le_of_ble_eq_true rfl) (Nat.le_of_ble_eq_true rfl) (Or.inr ⟨rfl, r, u, hu, rfl⟩)
set_option maxHeartbeats 4000000 in
set_option maxRecDepth 100000 in
theorem c_L_light {l : Launch} {D : va_G} {cI cL cR cJ : ClassId} {o : Nat} {F : Nat → Int64} (hl : l.stackTraces = false) {ad : Nat → Nat} {f : St} {C : List Nat} {n b q : Nat} {x : Int32} (hx : xw n b q f C) (hlp : lpF f n) (hpn : plN f n) : ctL l D vwCl (tyL cI cL cR cJ) yL_light wsL_light { frames := 8, cells := 2, slots := 12, locals := 126 } [.ref (ad 0), .int x, .ref o] ((o, .inl (cJ, 1, .inr (.inl F))) :: wX cI cL cR ad C f) (fun r u => (¬ r = 0 ∧ r = tLight f n x ∧ u = (o, .inl (cJ, 1, .inr (.inl F))) :: wX cI cL cR ad C f) ∨ (r = 0 ∧ ∃ (v : Int32) (u0 : va_W), (fun v u => tLight f n x = 0 ∧ v = f 4 x.toNatClampNeg ∧ u = wX cI cL cR ad C (up2 f 3 x.toNatClampNeg 1)) v u0 ∧ u = (o, .inl (cJ, 1, .inr (.inl (vp_updL F 0 v.toInt64)))) :: u0)) 2 12 := by
  refine ctL_of (cc := cL_light) (maxL := 4) (ret := (some .int)) (hh := [(0, 9, 12, 20), (0, 9, 15, 15)]) (by decide) rfl rfl (Nat.le_of_ble_eq_true rfl) (by simp [Value.category]) [(0, .ref (ad 0)), (1, .int x), (2, .ref o)] rfl ?_
  intro p e s m args below meth c sz h hrt hlk htab hnc
  obtain ⟨B9, -, -, hxe9⟩ := id h.2.2.2.2.2.2.2
  obtain ⟨q9, hw9⟩ := wX_recv (cI := cI) (cL := cL) (cR := cR) (ad := ad) (f := f) (hx.c (show 0 < 5 by decide))
  rw [gX_0] at hw9
  refine j_aload_nR h dL_light_0 rfl ?_
  refine j_iconst (v := 0) h dL_light_1 (by decide) ?_
  refine j_aload_nR h dL_light_2 rfl ?_
  refine j_iload_n h dL_light_3 rfl ?_
  refine jj_ws (ws1 := [(o, .inl (cJ, 1, .inr (.inl F)))] ++ wX cI cL cR ad C f) rfl ?_
  refine j_callTIF (vc := (RX2, TX2, 12)) h (h.2.2.2.2.2.1.sub [0, 1, 2] rfl) dL_light_4 (c_X2_light hl hx hlp hpn) (cwV 1 h.2.2.2.2.1 gL_light_X2_light rfl rfl rfl (by decide +kernel) ⟨(Nat.le_of_ble_eq_true rfl), (Nat.le_of_ble_eq_true rfl)⟩) q9 hw9 rfl rfl rfl (Nat.le_of_ble_eq_true rfl) ⟨(Nat.le_of_ble_eq_true rfl), (Nat.le_of_ble_eq_true rfl)⟩ (fun E hE => ?_) (fun r u hu => ?_)
  · rcases hE with ⟨rfl, hT⟩ | ⟨rfl, hT⟩
    · -- java/lang/IndexOutOfBoundsException
      refine ⟨[], ⟨0, 9, 12, 20⟩, [⟨0, 9, 15, 15⟩], "java/lang/IndexOutOfBoundsException", htab, (fun _ h9 => absurd h9 List.not_mem_nil), by decide, by decide, h.2.2.2.2.1 _ (by decide +kernel), va_Nw.use rfl (hxe9.2.2.1 _ (by decide)), fun q8 => ?_⟩
      refine j_astore_nR (i := 3) h dL_light_12 rfl (by decide) ?_
      refine j_iconst (v := 1) h dL_light_13 (by decide) ?_
      exact j_iret h hrt hlk dL_light_14 (Nat.le_of_ble_eq_true rfl) (Nat.le_of_ble_eq_true rfl) (Or.inl ⟨by decide, hT.symm, rfl⟩)
    · -- java/lang/IllegalStateException
      refine ⟨[⟨0, 9, 12, 20⟩], ⟨0, 9, 15, 15⟩, [], "java/lang/IllegalStateException", htab, (List.forall_mem_cons.mpr ⟨Or.inr ⟨by decide, "java/lang/IndexOutOfBoundsException", h.2.2.2.2.1 _ (by decide +kernel), hnc _ (by decide) _ (by decide) (by decide)⟩, (fun _ h9 => absurd h9 List.not_mem_nil)⟩), by decide, by decide, h.2.2.2.2.1 _ (by decide +kernel), va_Nw.use rfl (hxe9.2.2.1 _ (by decide)), fun q8 => ?_⟩
      refine j_astore_nR (i := 3) h dL_light_15 rfl (by decide) ?_
      refine j_iconst (v := 2) h dL_light_16 (by decide) ?_
      exact j_iret h hrt hlk dL_light_17 (Nat.le_of_ble_eq_true rfl) (Nat.le_of_ble_eq_true rfl) (Or.inl ⟨by decide, hT.symm, rfl⟩)
  · -- it returns
    refine j_i2l h dL_light_7 ?_
    refine j_last0 h 3 rfl dL_light_8 ?_
    refine j_goto (tgt := 18) h dL_light_9 (by decide) ?_
    refine j_iconst (v := 0) h dL_light_18 (by decide) ?_
    exact j_iret h hrt hlk dL_light_19 (Nat.le_of_ble_eq_true rfl) (Nat.le_of_ble_eq_true rfl) (Or.inr ⟨rfl, r, u, hu, rfl⟩)
set_option maxHeartbeats 4000000 in
set_option maxRecDepth 100000 in
theorem c_L_putOut {l : Launch} {D : va_G} {cI cL cR cJ : ClassId} {o : Nat} {F : Nat → Int64} (hl : l.stackTraces = false) {ad : Nat → Nat} {f : St} {C : List Nat} {n b q : Nat} {x : Int32} (hx : xw n b q f C) (hst : stO f n) : ctL l D vwCl (tyL cI cL cR cJ) yL_putOut wsL_putOut { frames := 8, cells := 2, slots := 12, locals := 126 } [.ref (ad 0), .int x, .ref o] ((o, .inl (cJ, 1, .inr (.inl F))) :: wX cI cL cR ad C f) (fun r u => (¬ r = 0 ∧ r = tPutOut f x ∧ u = (o, .inl (cJ, 1, .inr (.inl F))) :: wX cI cL cR ad C f) ∨ (r = 0 ∧ ∃ (v : Int32) (u0 : va_W), (fun v u => tPutOut f x = 0 ∧ v = f 4 x.toNatClampNeg ∧ u = wX cI cL cR ad C (up2 f 3 x.toNatClampNeg 0)) v u0 ∧ u = (o, .inl (cJ, 1, .inr (.inl (vp_updL F 0 v.toInt64)))) :: u0)) 2 12 := by
  refine ctL_of (cc := cL_putOut) (maxL := 4) (ret := (some .int)) (hh := [(0, 9, 12, 20), (0, 9, 15, 15)]) (by decide) rfl rfl (Nat.le_of_ble_eq_true rfl) (by simp [Value.category]) [(0, .ref (ad 0)), (1, .int x), (2, .ref o)] rfl ?_
  intro p e s m args below meth c sz h hrt hlk htab hnc
  obtain ⟨B9, -, -, hxe9⟩ := id h.2.2.2.2.2.2.2
  obtain ⟨q9, hw9⟩ := wX_recv (cI := cI) (cL := cL) (cR := cR) (ad := ad) (f := f) (hx.c (show 0 < 5 by decide))
  rw [gX_0] at hw9
  refine j_aload_nR h dL_putOut_0 rfl ?_
  refine j_iconst (v := 0) h dL_putOut_1 (by decide) ?_
  refine j_aload_nR h dL_putOut_2 rfl ?_
  refine j_iload_n h dL_putOut_3 rfl ?_
  refine jj_ws (ws1 := [(o, .inl (cJ, 1, .inr (.inl F)))] ++ wX cI cL cR ad C f) rfl ?_
  refine j_callTIF (vc := (RX2, TX2, 12)) h (h.2.2.2.2.2.1.sub [0, 1, 2] rfl) dL_putOut_4 (c_X2_putOut hl hx hst) (cwV 1 h.2.2.2.2.1 gL_putOut_X2_putOut rfl rfl rfl (by decide +kernel) ⟨(Nat.le_of_ble_eq_true rfl), (Nat.le_of_ble_eq_true rfl)⟩) q9 hw9 rfl rfl rfl (Nat.le_of_ble_eq_true rfl) ⟨(Nat.le_of_ble_eq_true rfl), (Nat.le_of_ble_eq_true rfl)⟩ (fun E hE => ?_) (fun r u hu => ?_)
  · rcases hE with ⟨rfl, hT⟩ | ⟨rfl, hT⟩
    · -- java/lang/IndexOutOfBoundsException
      refine ⟨[], ⟨0, 9, 12, 20⟩, [⟨0, 9, 15, 15⟩], "java/lang/IndexOutOfBoundsException", htab, (fun _ h9 => absurd h9 List.not_mem_nil), by decide, by decide, h.2.2.2.2.1 _ (by decide +kernel), va_Nw.use rfl (hxe9.2.2.1 _ (by decide)), fun q8 => ?_⟩
      refine j_astore_nR (i := 3) h dL_putOut_12 rfl (by decide) ?_
      refine j_iconst (v := 1) h dL_putOut_13 (by decide) ?_
      exact j_iret h hrt hlk dL_putOut_14 (Nat.le_of_ble_eq_true rfl) (Nat.le_of_ble_eq_true rfl) (Or.inl ⟨by decide, hT.symm, rfl⟩)
    · -- java/lang/IllegalStateException
      refine ⟨[⟨0, 9, 12, 20⟩], ⟨0, 9, 15, 15⟩, [], "java/lang/IllegalStateException", htab, (List.forall_mem_cons.mpr ⟨Or.inr ⟨by decide, "java/lang/IndexOutOfBoundsException", h.2.2.2.2.1 _ (by decide +kernel), hnc _ (by decide) _ (by decide) (by decide)⟩, (fun _ h9 => absurd h9 List.not_mem_nil)⟩), by decide, by decide, h.2.2.2.2.1 _ (by decide +kernel), va_Nw.use rfl (hxe9.2.2.1 _ (by decide)), fun q8 => ?_⟩
      refine j_astore_nR (i := 3) h dL_putOut_15 rfl (by decide) ?_
      refine j_iconst (v := 2) h dL_putOut_16 (by decide) ?_
      exact j_iret h hrt hlk dL_putOut_17 (Nat.le_of_ble_eq_true rfl) (Nat.le_of_ble_eq_true rfl) (Or.inl ⟨by decide, hT.symm, rfl⟩)
  · -- it returns
    refine j_i2l h dL_putOut_7 ?_
    refine j_last0 h 3 rfl dL_putOut_8 ?_
    refine j_goto (tgt := 18) h dL_putOut_9 (by decide) ?_
    refine j_iconst (v := 0) h dL_putOut_18 (by decide) ?_
    exact j_iret h hrt hlk dL_putOut_19 (Nat.le_of_ble_eq_true rfl) (Nat.le_of_ble_eq_true rfl) (Or.inr ⟨rfl, r, u, hu, rfl⟩)
set_option maxHeartbeats 4000000 in
set_option maxRecDepth 100000 in
theorem c_L_build {l : Launch} {D : va_G} {cI cL cR cJ : ClassId} {o : Nat} {F : Nat → Int64} (hl : l.stackTraces = false) {ad : Nat → Nat} {f : St} {C : List Nat} {n b q : Nat} {x y : Int32} (hx : xw n b q f C) (hv : xv b f) : ctL l D vwCl (tyL cI cL cR cJ) yL_build wsL_build { frames := 7, cells := 2, slots := 17, locals := 104 } [.ref (ad 0), .int x, .int y, .ref o] ((o, .inl (cJ, 1, .inr (.inl F))) :: wX cI cL cR ad C f) (fun r u => (¬ r = 0 ∧ r = tBuild f x y ∧ u = (o, .inl (cJ, 1, .inr (.inl F))) :: wX cI cL cR ad C f) ∨ (r = 0 ∧ ∃ (v : Int32) (u0 : va_W), (fun v u => tBuild f x y = 0 ∧ v = f 14 0 ∧ ∃ ad' : Nat → Nat, ad 0 = ad' 0 ∧ u = wX cI cL cR ad' (C ++ [29 + b, 37 + b]) (bdF f b x y)) v u0 ∧ u = (o, .inl (cJ, 1, .inr (.inl (vp_updL F 0 v.toInt64)))) :: u0)) 2 17 := by
  refine ctL_of (cc := cL_build) (maxL := 5) (ret := (some .int)) (hh := [(0, 10, 13, 13), (0, 10, 17, 15)]) (by decide) rfl rfl (Nat.le_of_ble_eq_true rfl) (by simp [Value.category]) [(0, .ref (ad 0)), (1, .int x), (2, .int y), (3, .ref o)] rfl ?_
  intro p e s m args below meth c sz h hrt hlk htab hnc
  obtain ⟨B9, -, -, hxe9⟩ := id h.2.2.2.2.2.2.2
  obtain ⟨q9, hw9⟩ := wX_recv (cI := cI) (cL := cL) (cR := cR) (ad := ad) (f := f) (hx.c (show 0 < 5 by decide))
  rw [gX_0] at hw9
  refine j_aload_nR h dL_build_0 rfl ?_
  refine j_iconst (v := 0) h dL_build_1 (by decide) ?_
  refine j_aload_nR h dL_build_2 rfl ?_
  refine j_iload_n h dL_build_3 rfl ?_
  refine j_iload_n h dL_build_4 rfl ?_
  refine jj_ws (ws1 := [(o, .inl (cJ, 1, .inr (.inl F)))] ++ wX cI cL cR ad C f) rfl ?_
  refine j_callTIF (vc := (RX2, TX2, 12)) h (h.2.2.2.2.2.1.sub [0, 1, 2] rfl) dL_build_5 (c_X2_build hl hx hv) (cwV 2 h.2.2.2.2.1 gL_build_X2_build rfl rfl rfl (by decide +kernel) ⟨(Nat.le_of_ble_eq_true rfl), (Nat.le_of_ble_eq_true rfl)⟩) q9 hw9 rfl rfl rfl (Nat.le_of_ble_eq_true rfl) ⟨(Nat.le_of_ble_eq_true rfl), (Nat.le_of_ble_eq_true rfl)⟩ (fun E hE => ?_) (fun r u hu => ?_)
  · rcases hE with ⟨rfl, hT⟩ | ⟨rfl, hT⟩
    · -- java/lang/IllegalArgumentException
      refine ⟨[], ⟨0, 10, 13, 13⟩, [⟨0, 10, 17, 15⟩], "java/lang/IllegalArgumentException", htab, (fun _ h9 => absurd h9 List.not_mem_nil), by decide, by decide, h.2.2.2.2.1 _ (by decide +kernel), va_Nw.use rfl (hxe9.2.2.1 _ (by decide)), fun q8 => ?_⟩
      refine j_astoreR h dL_build_13 (by decide) ?_
      refine j_iconst (v := 1) h dL_build_15 (by decide) ?_
      exact j_iret h hrt hlk dL_build_16 (Nat.le_of_ble_eq_true rfl) (Nat.le_of_ble_eq_true rfl) (Or.inl ⟨by decide, hT.symm, rfl⟩)
    · -- java/lang/IllegalStateException
      refine ⟨[⟨0, 10, 13, 13⟩], ⟨0, 10, 17, 15⟩, [], "java/lang/IllegalStateException", htab, (List.forall_mem_cons.mpr ⟨Or.inr ⟨by decide, "java/lang/IllegalArgumentException", h.2.2.2.2.1 _ (by decide +kernel), hnc _ (by decide) _ (by decide) (by decide)⟩, (fun _ h9 => absurd h9 List.not_mem_nil)⟩), by decide, by decide, h.2.2.2.2.1 _ (by decide +kernel), va_Nw.use rfl (hxe9.2.2.1 _ (by decide)), fun q8 => ?_⟩
      refine j_astoreR h dL_build_17 (by decide) ?_
      refine j_iconst (v := 2) h dL_build_19 (by decide) ?_
      exact j_iret h hrt hlk dL_build_20 (Nat.le_of_ble_eq_true rfl) (Nat.le_of_ble_eq_true rfl) (Or.inl ⟨by decide, hT.symm, rfl⟩)
  · -- it returns
    refine j_i2l h dL_build_8 ?_
    refine j_last0 h 3 rfl dL_build_9 ?_
    refine j_goto (tgt := 21) h dL_build_10 (by decide) ?_
    refine j_iconst (v := 0) h dL_build_21 (by decide) ?_
    exact j_iret h hrt hlk dL_build_22 (Nat.le_of_ble_eq_true rfl) (Nat.le_of_ble_eq_true rfl) (Or.inr ⟨rfl, r, u, hu, rfl⟩)
set_option maxHeartbeats 4000000 in
set_option maxRecDepth 100000 in
theorem c_L_launch {l : Launch} {D : va_G} {cI cL cR cJ : ClassId} {o : Nat} {F : Nat → Int64} (hl : l.stackTraces = false) {ad : Nat → Nat} {f : St} {C : List Nat} {n b q : Nat} {x : Int32} (hx : xw n b q f C) (hql : ∀ r, r < b → f 10 r = 0 → q < 8) : ctL l D vwCl (tyL cI cL cR cJ) yL_launch wsL_launch { frames := 8, cells := 2, slots := 12, locals := 126 } [.ref (ad 0), .int x, .ref o] ((o, .inl (cJ, 1, .inr (.inl F))) :: wX cI cL cR ad C f) (fun r u => (¬ r = 0 ∧ r = tLaunch f q x ∧ u = (o, .inl (cJ, 1, .inr (.inl F))) :: wX cI cL cR ad C f) ∨ (r = 0 ∧ ∃ (v : Int32) (u0 : va_W), (fun v u => tLaunch f q x = 0 ∧ v = roS (laF f q x.toNatClampNeg) (q + 1) ∧ u = wX cI cL cR ad C (laF f q x.toNatClampNeg)) v u0 ∧ u = (o, .inl (cJ, 1, .inr (.inl (vp_updL F 0 v.toInt64)))) :: u0)) 2 12 := by
  refine ctL_of (cc := cL_launch) (maxL := 4) (ret := (some .int)) (hh := [(0, 9, 12, 20), (0, 9, 15, 15)]) (by decide) rfl rfl (Nat.le_of_ble_eq_true rfl) (by simp [Value.category]) [(0, .ref (ad 0)), (1, .int x), (2, .ref o)] rfl ?_
  intro p e s m args below meth c sz h hrt hlk htab hnc
  obtain ⟨B9, -, -, hxe9⟩ := id h.2.2.2.2.2.2.2
  obtain ⟨q9, hw9⟩ := wX_recv (cI := cI) (cL := cL) (cR := cR) (ad := ad) (f := f) (hx.c (show 0 < 5 by decide))
  rw [gX_0] at hw9
  refine j_aload_nR h dL_launch_0 rfl ?_
  refine j_iconst (v := 0) h dL_launch_1 (by decide) ?_
  refine j_aload_nR h dL_launch_2 rfl ?_
  refine j_iload_n h dL_launch_3 rfl ?_
  refine jj_ws (ws1 := [(o, .inl (cJ, 1, .inr (.inl F)))] ++ wX cI cL cR ad C f) rfl ?_
  refine j_callTIF (vc := (RX2, TX2, 12)) h (h.2.2.2.2.2.1.sub [0, 1, 2] rfl) dL_launch_4 (c_X2_launch hl hx hql) (cwV 1 h.2.2.2.2.1 gL_launch_X2_launch rfl rfl rfl (by decide +kernel) ⟨(Nat.le_of_ble_eq_true rfl), (Nat.le_of_ble_eq_true rfl)⟩) q9 hw9 rfl rfl rfl (Nat.le_of_ble_eq_true rfl) ⟨(Nat.le_of_ble_eq_true rfl), (Nat.le_of_ble_eq_true rfl)⟩ (fun E hE => ?_) (fun r u hu => ?_)
  · rcases hE with ⟨rfl, hT⟩ | ⟨rfl, hT⟩
    · -- java/lang/IndexOutOfBoundsException
      refine ⟨[], ⟨0, 9, 12, 20⟩, [⟨0, 9, 15, 15⟩], "java/lang/IndexOutOfBoundsException", htab, (fun _ h9 => absurd h9 List.not_mem_nil), by decide, by decide, h.2.2.2.2.1 _ (by decide +kernel), va_Nw.use rfl (hxe9.2.2.1 _ (by decide)), fun q8 => ?_⟩
      refine j_astore_nR (i := 3) h dL_launch_12 rfl (by decide) ?_
      refine j_iconst (v := 1) h dL_launch_13 (by decide) ?_
      exact j_iret h hrt hlk dL_launch_14 (Nat.le_of_ble_eq_true rfl) (Nat.le_of_ble_eq_true rfl) (Or.inl ⟨by decide, hT.symm, rfl⟩)
    · -- java/lang/IllegalStateException
      refine ⟨[⟨0, 9, 12, 20⟩], ⟨0, 9, 15, 15⟩, [], "java/lang/IllegalStateException", htab, (List.forall_mem_cons.mpr ⟨Or.inr ⟨by decide, "java/lang/IndexOutOfBoundsException", h.2.2.2.2.1 _ (by decide +kernel), hnc _ (by decide) _ (by decide) (by decide)⟩, (fun _ h9 => absurd h9 List.not_mem_nil)⟩), by decide, by decide, h.2.2.2.2.1 _ (by decide +kernel), va_Nw.use rfl (hxe9.2.2.1 _ (by decide)), fun q8 => ?_⟩
      refine j_astore_nR (i := 3) h dL_launch_15 rfl (by decide) ?_
      refine j_iconst (v := 2) h dL_launch_16 (by decide) ?_
      exact j_iret h hrt hlk dL_launch_17 (Nat.le_of_ble_eq_true rfl) (Nat.le_of_ble_eq_true rfl) (Or.inl ⟨by decide, hT.symm, rfl⟩)
  · -- it returns
    refine j_i2l h dL_launch_7 ?_
    refine j_last0 h 3 rfl dL_launch_8 ?_
    refine j_goto (tgt := 18) h dL_launch_9 (by decide) ?_
    refine j_iconst (v := 0) h dL_launch_18 (by decide) ?_
    exact j_iret h hrt hlk dL_launch_19 (Nat.le_of_ble_eq_true rfl) (Nat.le_of_ble_eq_true rfl) (Or.inr ⟨rfl, r, u, hu, rfl⟩)
set_option maxHeartbeats 4000000 in
set_option maxRecDepth 100000 in
theorem c_L_setRules {l : Launch} {D : va_G} {cI cL cR cJ : ClassId} {o : Nat} {F : Nat → Int64} (hl : l.stackTraces = false) {ad : Nat → Nat} {f : St} {C : List Nat} {n b q : Nat} {x y : Int32} (hx : xw n b q f C) : ctL l D vwCl (tyL cI cL cR cJ) yL_setRules wsL_setRules { frames := 7, cells := 1, slots := 6, locals := 105 } [.ref (ad 0), .int x, .int y, .ref o] ((o, .inl (cJ, 1, .inr (.inl F))) :: wX cI cL cR ad C f) (fun r u => (¬ r = 0 ∧ r = tRules x y ∧ u = (o, .inl (cJ, 1, .inr (.inl F))) :: wX cI cL cR ad C f) ∨ (r = 0 ∧ ∃ (v : Int32) (u0 : va_W), (fun v u => tRules x y = 0 ∧ v = f 15 0 ∧ u = wX cI cL cR ad C (up2 (up2 f 15 0 x) 16 0 y)) v u0 ∧ u = (o, .inl (cJ, 1, .inr (.inl (vp_updL F 0 v.toInt64)))) :: u0)) 1 6 := by
  refine ctL_of (cc := cL_setRules) (maxL := 5) (ret := (some .int)) (hh := [(0, 10, 13, 13)]) (by decide) rfl rfl (Nat.le_of_ble_eq_true rfl) (by simp [Value.category]) [(0, .ref (ad 0)), (1, .int x), (2, .int y), (3, .ref o)] rfl ?_
  intro p e s m args below meth c sz h hrt hlk htab hnc
  obtain ⟨B9, -, -, hxe9⟩ := id h.2.2.2.2.2.2.2
  obtain ⟨q9, hw9⟩ := wX_recv (cI := cI) (cL := cL) (cR := cR) (ad := ad) (f := f) (hx.c (show 0 < 5 by decide))
  rw [gX_0] at hw9
  refine j_aload_nR h dL_setRules_0 rfl ?_
  refine j_iconst (v := 0) h dL_setRules_1 (by decide) ?_
  refine j_aload_nR h dL_setRules_2 rfl ?_
  refine j_iload_n h dL_setRules_3 rfl ?_
  refine j_iload_n h dL_setRules_4 rfl ?_
  refine jj_ws (ws1 := [(o, .inl (cJ, 1, .inr (.inl F)))] ++ wX cI cL cR ad C f) rfl ?_
  refine j_callTIF (vc := (RX2, TX2, 12)) h (h.2.2.2.2.2.1.sub [0, 1, 2] rfl) dL_setRules_5 (c_X2_setRules hl hx) (cwV 2 h.2.2.2.2.1 gL_setRules_X2_setRules rfl rfl rfl (by decide +kernel) ⟨(Nat.le_of_ble_eq_true rfl), (Nat.le_of_ble_eq_true rfl)⟩) q9 hw9 rfl rfl rfl (Nat.le_of_ble_eq_true rfl) ⟨(Nat.le_of_ble_eq_true rfl), (Nat.le_of_ble_eq_true rfl)⟩ (fun E hE => ?_) (fun r u hu => ?_)
  · obtain ⟨rfl, hT⟩ := hE
    refine ⟨[], ⟨0, 10, 13, 13⟩, [], "java/lang/IllegalArgumentException", htab, (fun _ h9 => absurd h9 List.not_mem_nil), by decide, by decide, h.2.2.2.2.1 _ (by decide +kernel), va_Nw.use rfl (hxe9.2.2.1 _ (by decide)), fun q8 => ?_⟩
    refine j_astoreR h dL_setRules_13 (by decide) ?_
    refine j_iconst (v := 1) h dL_setRules_15 (by decide) ?_
    exact j_iret h hrt hlk dL_setRules_16 (Nat.le_of_ble_eq_true rfl) (Nat.le_of_ble_eq_true rfl) (Or.inl ⟨by decide, hT.symm, rfl⟩)
  · -- it returns
    refine j_i2l h dL_setRules_8 ?_
    refine j_last0 h 3 rfl dL_setRules_9 ?_
    refine j_goto (tgt := 17) h dL_setRules_10 (by decide) ?_
    refine j_iconst (v := 0) h dL_setRules_17 (by decide) ?_
    exact j_iret h hrt hlk dL_setRules_18 (Nat.le_of_ble_eq_true rfl) (Nat.le_of_ble_eq_true rfl) (Or.inr ⟨rfl, r, u, hu, rfl⟩)
set_option maxHeartbeats 4000000 in
set_option maxRecDepth 100000 in
theorem c_L_setGust {l : Launch} {D : va_G} {cI cL cR cJ : ClassId} {o : Nat} {F : Nat → Int64} (hl : l.stackTraces = false) {ad : Nat → Nat} {f : St} {C : List Nat} {n b q : Nat} {x y : Int32} (hx : xw n b q f C) : ctL l D vwCl (tyL cI cL cR cJ) yL_setGust wsL_setGust { frames := 7, cells := 1, slots := 6, locals := 105 } [.ref (ad 0), .int x, .int y, .ref o] ((o, .inl (cJ, 1, .inr (.inl F))) :: wX cI cL cR ad C f) (fun r u => (¬ r = 0 ∧ r = tGust x y ∧ u = (o, .inl (cJ, 1, .inr (.inl F))) :: wX cI cL cR ad C f) ∨ (r = 0 ∧ ∃ (v : Int32) (u0 : va_W), (fun v u => tGust x y = 0 ∧ v = f 17 x.toNatClampNeg ∧ u = wX cI cL cR ad C (up2 f 17 x.toNatClampNeg y)) v u0 ∧ u = (o, .inl (cJ, 1, .inr (.inl (vp_updL F 0 v.toInt64)))) :: u0)) 1 6 := by
  refine ctL_of (cc := cL_setGust) (maxL := 5) (ret := (some .int)) (hh := [(0, 10, 13, 13)]) (by decide) rfl rfl (Nat.le_of_ble_eq_true rfl) (by simp [Value.category]) [(0, .ref (ad 0)), (1, .int x), (2, .int y), (3, .ref o)] rfl ?_
  intro p e s m args below meth c sz h hrt hlk htab hnc
  obtain ⟨B9, -, -, hxe9⟩ := id h.2.2.2.2.2.2.2
  obtain ⟨q9, hw9⟩ := wX_recv (cI := cI) (cL := cL) (cR := cR) (ad := ad) (f := f) (hx.c (show 0 < 5 by decide))
  rw [gX_0] at hw9
  refine j_aload_nR h dL_setGust_0 rfl ?_
  refine j_iconst (v := 0) h dL_setGust_1 (by decide) ?_
  refine j_aload_nR h dL_setGust_2 rfl ?_
  refine j_iload_n h dL_setGust_3 rfl ?_
  refine j_iload_n h dL_setGust_4 rfl ?_
  refine jj_ws (ws1 := [(o, .inl (cJ, 1, .inr (.inl F)))] ++ wX cI cL cR ad C f) rfl ?_
  refine j_callTIF (vc := (RX2, TX2, 12)) h (h.2.2.2.2.2.1.sub [0, 1, 2] rfl) dL_setGust_5 (c_X2_setGust hl hx) (cwV 2 h.2.2.2.2.1 gL_setGust_X2_setGust rfl rfl rfl (by decide +kernel) ⟨(Nat.le_of_ble_eq_true rfl), (Nat.le_of_ble_eq_true rfl)⟩) q9 hw9 rfl rfl rfl (Nat.le_of_ble_eq_true rfl) ⟨(Nat.le_of_ble_eq_true rfl), (Nat.le_of_ble_eq_true rfl)⟩ (fun E hE => ?_) (fun r u hu => ?_)
  · obtain ⟨rfl, hT⟩ := hE
    refine ⟨[], ⟨0, 10, 13, 13⟩, [], "java/lang/IllegalArgumentException", htab, (fun _ h9 => absurd h9 List.not_mem_nil), by decide, by decide, h.2.2.2.2.1 _ (by decide +kernel), va_Nw.use rfl (hxe9.2.2.1 _ (by decide)), fun q8 => ?_⟩
    refine j_astoreR h dL_setGust_13 (by decide) ?_
    refine j_iconst (v := 1) h dL_setGust_15 (by decide) ?_
    exact j_iret h hrt hlk dL_setGust_16 (Nat.le_of_ble_eq_true rfl) (Nat.le_of_ble_eq_true rfl) (Or.inl ⟨by decide, hT.symm, rfl⟩)
  · -- it returns
    refine j_i2l h dL_setGust_8 ?_
    refine j_last0 h 3 rfl dL_setGust_9 ?_
    refine j_goto (tgt := 17) h dL_setGust_10 (by decide) ?_
    refine j_iconst (v := 0) h dL_setGust_17 (by decide) ?_
    exact j_iret h hrt hlk dL_setGust_18 (Nat.le_of_ble_eq_true rfl) (Nat.le_of_ble_eq_true rfl) (Or.inr ⟨rfl, r, u, hu, rfl⟩)
set_option maxHeartbeats 4000000 in
set_option maxRecDepth 100000 in
theorem c_L_pass {l : Launch} {D : va_G} {cI cL cR cJ : ClassId} {o : Nat} {F : Nat → Int64} (hl : l.stackTraces = false) {ad : Nat → Nat} {f : St} {C : List Nat} {n b q : Nat} {x : Int32} {tm : Nat} (hx : xw n b q f C) (htm : tm < 2 ^ 28) (hM : ∀ k, k ≤ 60 → MI n b q (psC f n q tm k) (tm + k) C) : ctL l D vwCl (tyL cI cL cR cJ) yL_pass wsL_pass { frames := 7, cells := 1, slots := 6, locals := 153 } [.ref (ad 0), .int x, .ref o] ((o, .inl (cJ, 1, .inr (.inl F))) :: wX cI cL cR ad C f) (fun r u => (¬ r = 0 ∧ r = tPass x ∧ u = (o, .inl (cJ, 1, .inr (.inl F))) :: wX cI cL cR ad C f) ∨ (r = 0 ∧ ∃ (v : Int32) (u0 : va_W), (fun v u => tPass x = 0 ∧ v = ltS f n - ltS (psC f n q tm x.toNatClampNeg) n ∧ u = wX cI cL cR ad C (psC f n q tm x.toNatClampNeg)) v u0 ∧ u = (o, .inl (cJ, 1, .inr (.inl (vp_updL F 0 v.toInt64)))) :: u0)) 1 6 := by
  refine ctL_of (cc := cL_pass) (maxL := 4) (ret := (some .int)) (hh := [(0, 9, 12, 13)]) (by decide) rfl rfl (Nat.le_of_ble_eq_true rfl) (by simp [Value.category]) [(0, .ref (ad 0)), (1, .int x), (2, .ref o)] rfl ?_
  intro p e s m args below meth c sz h hrt hlk htab hnc
  obtain ⟨B9, -, -, hxe9⟩ := id h.2.2.2.2.2.2.2
  obtain ⟨q9, hw9⟩ := wX_recv (cI := cI) (cL := cL) (cR := cR) (ad := ad) (f := f) (hx.c (show 0 < 5 by decide))
  rw [gX_0] at hw9
  refine j_aload_nR h dL_pass_0 rfl ?_
  refine j_iconst (v := 0) h dL_pass_1 (by decide) ?_
  refine j_aload_nR h dL_pass_2 rfl ?_
  refine j_iload_n h dL_pass_3 rfl ?_
  refine jj_ws (ws1 := [(o, .inl (cJ, 1, .inr (.inl F)))] ++ wX cI cL cR ad C f) rfl ?_
  refine j_callTIF (vc := (RX2, TX2, 12)) h (h.2.2.2.2.2.1.sub [0, 1, 2] rfl) dL_pass_4 (c_X2_pass hl hx htm hM) (cwV 1 h.2.2.2.2.1 gL_pass_X2_pass rfl rfl rfl (by decide +kernel) ⟨(Nat.le_of_ble_eq_true rfl), (Nat.le_of_ble_eq_true rfl)⟩) q9 hw9 rfl rfl rfl (Nat.le_of_ble_eq_true rfl) ⟨(Nat.le_of_ble_eq_true rfl), (Nat.le_of_ble_eq_true rfl)⟩ (fun E hE => ?_) (fun r u hu => ?_)
  · obtain ⟨rfl, hT⟩ := hE
    refine ⟨[], ⟨0, 9, 12, 13⟩, [], "java/lang/IllegalArgumentException", htab, (fun _ h9 => absurd h9 List.not_mem_nil), by decide, by decide, h.2.2.2.2.1 _ (by decide +kernel), va_Nw.use rfl (hxe9.2.2.1 _ (by decide)), fun q8 => ?_⟩
    refine j_astore_nR (i := 3) h dL_pass_12 rfl (by decide) ?_
    refine j_iconst (v := 1) h dL_pass_13 (by decide) ?_
    exact j_iret h hrt hlk dL_pass_14 (Nat.le_of_ble_eq_true rfl) (Nat.le_of_ble_eq_true rfl) (Or.inl ⟨by decide, hT.symm, rfl⟩)
  · -- it returns
    refine j_i2l h dL_pass_7 ?_
    refine j_last0 h 3 rfl dL_pass_8 ?_
    refine j_goto (tgt := 15) h dL_pass_9 (by decide) ?_
    refine j_iconst (v := 0) h dL_pass_15 (by decide) ?_
    exact j_iret h hrt hlk dL_pass_16 (Nat.le_of_ble_eq_true rfl) (Nat.le_of_ble_eq_true rfl) (Or.inr ⟨rfl, r, u, hu, rfl⟩)
set_option maxHeartbeats 4000000 in
set_option maxRecDepth 100000 in
theorem c_L_stateOf {l : Launch} {D : va_G} {cI cL cR cJ : ClassId} {o : Nat} {F : Nat → Int64} (hl : l.stackTraces = false) {ad : Nat → Nat} {f : St} {C : List Nat} {n b q : Nat} {x : Int32} (hx : xw n b q f C) : ctL l D vwCl (tyL cI cL cR cJ) yL_stateOf wsL_stateOf { frames := 8, cells := 1, slots := 6, locals := 126 } [.ref (ad 0), .int x, .ref o] ((o, .inl (cJ, 1, .inr (.inl F))) :: wX cI cL cR ad C f) (fun r u => (¬ r = 0 ∧ r = tL f x ∧ u = (o, .inl (cJ, 1, .inr (.inl F))) :: wX cI cL cR ad C f) ∨ (r = 0 ∧ ∃ (v : Int32) (u0 : va_W), (fun v u => tL f x = 0 ∧ v = (f 3 x.toNatClampNeg) ∧ u = (wX cI cL cR ad C f)) v u0 ∧ u = (o, .inl (cJ, 1, .inr (.inl (vp_updL F 0 v.toInt64)))) :: u0)) 1 6 := by
  refine ctL_of (cc := cL_stateOf) (maxL := 4) (ret := (some .int)) (hh := [(0, 9, 12, 20)]) (by decide) rfl rfl (Nat.le_of_ble_eq_true rfl) (by simp [Value.category]) [(0, .ref (ad 0)), (1, .int x), (2, .ref o)] rfl ?_
  intro p e s m args below meth c sz h hrt hlk htab hnc
  obtain ⟨B9, -, -, hxe9⟩ := id h.2.2.2.2.2.2.2
  obtain ⟨q9, hw9⟩ := wX_recv (cI := cI) (cL := cL) (cR := cR) (ad := ad) (f := f) (hx.c (show 0 < 5 by decide))
  rw [gX_0] at hw9
  refine j_aload_nR h dL_stateOf_0 rfl ?_
  refine j_iconst (v := 0) h dL_stateOf_1 (by decide) ?_
  refine j_aload_nR h dL_stateOf_2 rfl ?_
  refine j_iload_n h dL_stateOf_3 rfl ?_
  refine jj_ws (ws1 := [(o, .inl (cJ, 1, .inr (.inl F)))] ++ wX cI cL cR ad C f) rfl ?_
  refine j_callTIF (vc := (RX2, TX2, 12)) h (h.2.2.2.2.2.1.sub [0, 1, 2] rfl) dL_stateOf_4 (c_X2_stateOf hl hx) (cwV 1 h.2.2.2.2.1 gL_stateOf_X2_stateOf rfl rfl rfl (by decide +kernel) ⟨(Nat.le_of_ble_eq_true rfl), (Nat.le_of_ble_eq_true rfl)⟩) q9 hw9 rfl rfl rfl (Nat.le_of_ble_eq_true rfl) ⟨(Nat.le_of_ble_eq_true rfl), (Nat.le_of_ble_eq_true rfl)⟩ (fun E hE => ?_) (fun r u hu => ?_)
  · obtain ⟨rfl, hT⟩ := hE
    refine ⟨[], ⟨0, 9, 12, 20⟩, [], "java/lang/IndexOutOfBoundsException", htab, (fun _ h9 => absurd h9 List.not_mem_nil), by decide, by decide, h.2.2.2.2.1 _ (by decide +kernel), va_Nw.use rfl (hxe9.2.2.1 _ (by decide)), fun q8 => ?_⟩
    refine j_astore_nR (i := 3) h dL_stateOf_12 rfl (by decide) ?_
    refine j_iconst (v := 1) h dL_stateOf_13 (by decide) ?_
    exact j_iret h hrt hlk dL_stateOf_14 (Nat.le_of_ble_eq_true rfl) (Nat.le_of_ble_eq_true rfl) (Or.inl ⟨by decide, hT.symm, rfl⟩)
  · -- it returns
    refine j_i2l h dL_stateOf_7 ?_
    refine j_last0 h 3 rfl dL_stateOf_8 ?_
    refine j_goto (tgt := 15) h dL_stateOf_9 (by decide) ?_
    refine j_iconst (v := 0) h dL_stateOf_15 (by decide) ?_
    exact j_iret h hrt hlk dL_stateOf_16 (Nat.le_of_ble_eq_true rfl) (Nat.le_of_ble_eq_true rfl) (Or.inr ⟨rfl, r, u, hu, rfl⟩)
set_option maxHeartbeats 4000000 in
set_option maxRecDepth 100000 in
theorem c_L_left {l : Launch} {D : va_G} {cI cL cR cJ : ClassId} {o : Nat} {F : Nat → Int64} (hl : l.stackTraces = false) {ad : Nat → Nat} {f : St} {C : List Nat} {n b q : Nat} {x : Int32} (hx : xw n b q f C) : ctL l D vwCl (tyL cI cL cR cJ) yL_left wsL_left { frames := 8, cells := 1, slots := 6, locals := 126 } [.ref (ad 0), .int x, .ref o] ((o, .inl (cJ, 1, .inr (.inl F))) :: wX cI cL cR ad C f) (fun r u => (¬ r = 0 ∧ r = tL f x ∧ u = (o, .inl (cJ, 1, .inr (.inl F))) :: wX cI cL cR ad C f) ∨ (r = 0 ∧ ∃ (v : Int32) (u0 : va_W), (fun v u => tL f x = 0 ∧ v = (f 4 x.toNatClampNeg) ∧ u = (wX cI cL cR ad C f)) v u0 ∧ u = (o, .inl (cJ, 1, .inr (.inl (vp_updL F 0 v.toInt64)))) :: u0)) 1 6 := by
  refine ctL_of (cc := cL_left) (maxL := 4) (ret := (some .int)) (hh := [(0, 9, 12, 20)]) (by decide) rfl rfl (Nat.le_of_ble_eq_true rfl) (by simp [Value.category]) [(0, .ref (ad 0)), (1, .int x), (2, .ref o)] rfl ?_
  intro p e s m args below meth c sz h hrt hlk htab hnc
  obtain ⟨B9, -, -, hxe9⟩ := id h.2.2.2.2.2.2.2
  obtain ⟨q9, hw9⟩ := wX_recv (cI := cI) (cL := cL) (cR := cR) (ad := ad) (f := f) (hx.c (show 0 < 5 by decide))
  rw [gX_0] at hw9
  refine j_aload_nR h dL_left_0 rfl ?_
  refine j_iconst (v := 0) h dL_left_1 (by decide) ?_
  refine j_aload_nR h dL_left_2 rfl ?_
  refine j_iload_n h dL_left_3 rfl ?_
  refine jj_ws (ws1 := [(o, .inl (cJ, 1, .inr (.inl F)))] ++ wX cI cL cR ad C f) rfl ?_
  refine j_callTIF (vc := (RX2, TX2, 12)) h (h.2.2.2.2.2.1.sub [0, 1, 2] rfl) dL_left_4 (c_X2_left hl hx) (cwV 1 h.2.2.2.2.1 gL_left_X2_left rfl rfl rfl (by decide +kernel) ⟨(Nat.le_of_ble_eq_true rfl), (Nat.le_of_ble_eq_true rfl)⟩) q9 hw9 rfl rfl rfl (Nat.le_of_ble_eq_true rfl) ⟨(Nat.le_of_ble_eq_true rfl), (Nat.le_of_ble_eq_true rfl)⟩ (fun E hE => ?_) (fun r u hu => ?_)
  · obtain ⟨rfl, hT⟩ := hE
    refine ⟨[], ⟨0, 9, 12, 20⟩, [], "java/lang/IndexOutOfBoundsException", htab, (fun _ h9 => absurd h9 List.not_mem_nil), by decide, by decide, h.2.2.2.2.1 _ (by decide +kernel), va_Nw.use rfl (hxe9.2.2.1 _ (by decide)), fun q8 => ?_⟩
    refine j_astore_nR (i := 3) h dL_left_12 rfl (by decide) ?_
    refine j_iconst (v := 1) h dL_left_13 (by decide) ?_
    exact j_iret h hrt hlk dL_left_14 (Nat.le_of_ble_eq_true rfl) (Nat.le_of_ble_eq_true rfl) (Or.inl ⟨by decide, hT.symm, rfl⟩)
  · -- it returns
    refine j_i2l h dL_left_7 ?_
    refine j_last0 h 3 rfl dL_left_8 ?_
    refine j_goto (tgt := 15) h dL_left_9 (by decide) ?_
    refine j_iconst (v := 0) h dL_left_15 (by decide) ?_
    exact j_iret h hrt hlk dL_left_16 (Nat.le_of_ble_eq_true rfl) (Nat.le_of_ble_eq_true rfl) (Or.inr ⟨rfl, r, u, hu, rfl⟩)
set_option maxHeartbeats 4000000 in
set_option maxRecDepth 100000 in
theorem c_L_placeOf {l : Launch} {D : va_G} {cI cL cR cJ : ClassId} {o : Nat} {F : Nat → Int64} (hl : l.stackTraces = false) {ad : Nat → Nat} {f : St} {C : List Nat} {n b q : Nat} {x : Int32} (hx : xw n b q f C) : ctL l D vwCl (tyL cI cL cR cJ) yL_placeOf wsL_placeOf { frames := 8, cells := 1, slots := 6, locals := 126 } [.ref (ad 0), .int x, .ref o] ((o, .inl (cJ, 1, .inr (.inl F))) :: wX cI cL cR ad C f) (fun r u => (¬ r = 0 ∧ r = tL f x ∧ u = (o, .inl (cJ, 1, .inr (.inl F))) :: wX cI cL cR ad C f) ∨ (r = 0 ∧ ∃ (v : Int32) (u0 : va_W), (fun v u => tL f x = 0 ∧ v = (if hpB f x.toNatClampNeg = true then pl f x.toNatClampNeg else -1) ∧ u = (wX cI cL cR ad C f)) v u0 ∧ u = (o, .inl (cJ, 1, .inr (.inl (vp_updL F 0 v.toInt64)))) :: u0)) 1 6 := by
  refine ctL_of (cc := cL_placeOf) (maxL := 4) (ret := (some .int)) (hh := [(0, 9, 12, 20)]) (by decide) rfl rfl (Nat.le_of_ble_eq_true rfl) (by simp [Value.category]) [(0, .ref (ad 0)), (1, .int x), (2, .ref o)] rfl ?_
  intro p e s m args below meth c sz h hrt hlk htab hnc
  obtain ⟨B9, -, -, hxe9⟩ := id h.2.2.2.2.2.2.2
  obtain ⟨q9, hw9⟩ := wX_recv (cI := cI) (cL := cL) (cR := cR) (ad := ad) (f := f) (hx.c (show 0 < 5 by decide))
  rw [gX_0] at hw9
  refine j_aload_nR h dL_placeOf_0 rfl ?_
  refine j_iconst (v := 0) h dL_placeOf_1 (by decide) ?_
  refine j_aload_nR h dL_placeOf_2 rfl ?_
  refine j_iload_n h dL_placeOf_3 rfl ?_
  refine jj_ws (ws1 := [(o, .inl (cJ, 1, .inr (.inl F)))] ++ wX cI cL cR ad C f) rfl ?_
  refine j_callTIF (vc := (RX2, TX2, 12)) h (h.2.2.2.2.2.1.sub [0, 1, 2] rfl) dL_placeOf_4 (c_X2_placeOf hl hx) (cwV 1 h.2.2.2.2.1 gL_placeOf_X2_placeOf rfl rfl rfl (by decide +kernel) ⟨(Nat.le_of_ble_eq_true rfl), (Nat.le_of_ble_eq_true rfl)⟩) q9 hw9 rfl rfl rfl (Nat.le_of_ble_eq_true rfl) ⟨(Nat.le_of_ble_eq_true rfl), (Nat.le_of_ble_eq_true rfl)⟩ (fun E hE => ?_) (fun r u hu => ?_)
  · obtain ⟨rfl, hT⟩ := hE
    refine ⟨[], ⟨0, 9, 12, 20⟩, [], "java/lang/IndexOutOfBoundsException", htab, (fun _ h9 => absurd h9 List.not_mem_nil), by decide, by decide, h.2.2.2.2.1 _ (by decide +kernel), va_Nw.use rfl (hxe9.2.2.1 _ (by decide)), fun q8 => ?_⟩
    refine j_astore_nR (i := 3) h dL_placeOf_12 rfl (by decide) ?_
    refine j_iconst (v := 1) h dL_placeOf_13 (by decide) ?_
    exact j_iret h hrt hlk dL_placeOf_14 (Nat.le_of_ble_eq_true rfl) (Nat.le_of_ble_eq_true rfl) (Or.inl ⟨by decide, hT.symm, rfl⟩)
  · -- it returns
    refine j_i2l h dL_placeOf_7 ?_
    refine j_last0 h 3 rfl dL_placeOf_8 ?_
    refine j_goto (tgt := 15) h dL_placeOf_9 (by decide) ?_
    refine j_iconst (v := 0) h dL_placeOf_15 (by decide) ?_
    exact j_iret h hrt hlk dL_placeOf_16 (Nat.le_of_ble_eq_true rfl) (Nat.le_of_ble_eq_true rfl) (Or.inr ⟨rfl, r, u, hu, rfl⟩)
set_option maxHeartbeats 4000000 in
set_option maxRecDepth 100000 in
theorem c_L_nearest {l : Launch} {D : va_G} {cI cL cR cJ : ClassId} {o : Nat} {F : Nat → Int64} (hl : l.stackTraces = false) {ad : Nat → Nat} {f : St} {C : List Nat} {n b q : Nat} {x : Int32} (hx : xw n b q f C) (hlp : lpF f n) (hor : ∀ r, r < b → f 10 r = 1 → ∃ o, o < q ∧ f 24 r = nI o) : ctL l D vwCl (tyL cI cL cR cJ) yL_nearest wsL_nearest { frames := 8, cells := 1, slots := 6, locals := 130 } [.ref (ad 0), .int x, .ref o] ((o, .inl (cJ, 1, .inr (.inl F))) :: wX cI cL cR ad C f) (fun r u => (¬ r = 0 ∧ r = tL f x ∧ u = (o, .inl (cJ, 1, .inr (.inl F))) :: wX cI cL cR ad C f) ∨ (r = 0 ∧ ∃ (v : Int32) (u0 : va_W), (fun v u => tL f x = 0 ∧ v = neC f q x.toNatClampNeg ∧ u = (wX cI cL cR ad C f)) v u0 ∧ u = (o, .inl (cJ, 1, .inr (.inl (vp_updL F 0 v.toInt64)))) :: u0)) 1 6 := by
  refine ctL_of (cc := cL_nearest) (maxL := 4) (ret := (some .int)) (hh := [(0, 9, 12, 20)]) (by decide) rfl rfl (Nat.le_of_ble_eq_true rfl) (by simp [Value.category]) [(0, .ref (ad 0)), (1, .int x), (2, .ref o)] rfl ?_
  intro p e s m args below meth c sz h hrt hlk htab hnc
  obtain ⟨B9, -, -, hxe9⟩ := id h.2.2.2.2.2.2.2
  obtain ⟨q9, hw9⟩ := wX_recv (cI := cI) (cL := cL) (cR := cR) (ad := ad) (f := f) (hx.c (show 0 < 5 by decide))
  rw [gX_0] at hw9
  refine j_aload_nR h dL_nearest_0 rfl ?_
  refine j_iconst (v := 0) h dL_nearest_1 (by decide) ?_
  refine j_aload_nR h dL_nearest_2 rfl ?_
  refine j_iload_n h dL_nearest_3 rfl ?_
  refine jj_ws (ws1 := [(o, .inl (cJ, 1, .inr (.inl F)))] ++ wX cI cL cR ad C f) rfl ?_
  refine j_callTIF (vc := (RX2, TX2, 12)) h (h.2.2.2.2.2.1.sub [0, 1, 2] rfl) dL_nearest_4 (c_X2_nearest hl hx hlp hor) (cwV 1 h.2.2.2.2.1 gL_nearest_X2_nearest rfl rfl rfl (by decide +kernel) ⟨(Nat.le_of_ble_eq_true rfl), (Nat.le_of_ble_eq_true rfl)⟩) q9 hw9 rfl rfl rfl (Nat.le_of_ble_eq_true rfl) ⟨(Nat.le_of_ble_eq_true rfl), (Nat.le_of_ble_eq_true rfl)⟩ (fun E hE => ?_) (fun r u hu => ?_)
  · obtain ⟨rfl, hT⟩ := hE
    refine ⟨[], ⟨0, 9, 12, 20⟩, [], "java/lang/IndexOutOfBoundsException", htab, (fun _ h9 => absurd h9 List.not_mem_nil), by decide, by decide, h.2.2.2.2.1 _ (by decide +kernel), va_Nw.use rfl (hxe9.2.2.1 _ (by decide)), fun q8 => ?_⟩
    refine j_astore_nR (i := 3) h dL_nearest_12 rfl (by decide) ?_
    refine j_iconst (v := 1) h dL_nearest_13 (by decide) ?_
    exact j_iret h hrt hlk dL_nearest_14 (Nat.le_of_ble_eq_true rfl) (Nat.le_of_ble_eq_true rfl) (Or.inl ⟨by decide, hT.symm, rfl⟩)
  · -- it returns
    refine j_i2l h dL_nearest_7 ?_
    refine j_last0 h 3 rfl dL_nearest_8 ?_
    refine j_goto (tgt := 15) h dL_nearest_9 (by decide) ?_
    refine j_iconst (v := 0) h dL_nearest_15 (by decide) ?_
    exact j_iret h hrt hlk dL_nearest_16 (Nat.le_of_ble_eq_true rfl) (Nat.le_of_ble_eq_true rfl) (Or.inr ⟨rfl, r, u, hu, rfl⟩)
set_option maxHeartbeats 4000000 in
set_option maxRecDepth 100000 in
theorem c_L_nearestOfAll {l : Launch} {D : va_G} {cI cL cR cJ : ClassId} {o : Nat} {F : Nat → Int64} (hl : l.stackTraces = false) {ad : Nat → Nat} {f : St} {C : List Nat} {n b q : Nat} {x : Int32} (hx : xw n b q f C) (hlp : lpF f n) (hpn : plN f n) : ctL l D vwCl (tyL cI cL cR cJ) yL_nearestOfAll wsL_nearestOfAll { frames := 8, cells := 1, slots := 6, locals := 131 } [.ref (ad 0), .int x, .ref o] ((o, .inl (cJ, 1, .inr (.inl F))) :: wX cI cL cR ad C f) (fun r u => (¬ r = 0 ∧ r = tL f x ∧ u = (o, .inl (cJ, 1, .inr (.inl F))) :: wX cI cL cR ad C f) ∨ (r = 0 ∧ ∃ (v : Int32) (u0 : va_W), (fun v u => tL f x = 0 ∧ v = (if hpB f x.toNatClampNeg = true then noF f x.toNatClampNeg n else -1) ∧ u = (wX cI cL cR ad C f)) v u0 ∧ u = (o, .inl (cJ, 1, .inr (.inl (vp_updL F 0 v.toInt64)))) :: u0)) 1 6 := by
  refine ctL_of (cc := cL_nearestOfAll) (maxL := 4) (ret := (some .int)) (hh := [(0, 9, 12, 20)]) (by decide) rfl rfl (Nat.le_of_ble_eq_true rfl) (by simp [Value.category]) [(0, .ref (ad 0)), (1, .int x), (2, .ref o)] rfl ?_
  intro p e s m args below meth c sz h hrt hlk htab hnc
  obtain ⟨B9, -, -, hxe9⟩ := id h.2.2.2.2.2.2.2
  obtain ⟨q9, hw9⟩ := wX_recv (cI := cI) (cL := cL) (cR := cR) (ad := ad) (f := f) (hx.c (show 0 < 5 by decide))
  rw [gX_0] at hw9
  refine j_aload_nR h dL_nearestOfAll_0 rfl ?_
  refine j_iconst (v := 0) h dL_nearestOfAll_1 (by decide) ?_
  refine j_aload_nR h dL_nearestOfAll_2 rfl ?_
  refine j_iload_n h dL_nearestOfAll_3 rfl ?_
  refine jj_ws (ws1 := [(o, .inl (cJ, 1, .inr (.inl F)))] ++ wX cI cL cR ad C f) rfl ?_
  refine j_callTIF (vc := (RX2, TX2, 12)) h (h.2.2.2.2.2.1.sub [0, 1, 2] rfl) dL_nearestOfAll_4 (c_X2_nearestOfAll hl hx hlp hpn) (cwV 1 h.2.2.2.2.1 gL_nearestOfAll_X2_nearestOfAll rfl rfl rfl (by decide +kernel) ⟨(Nat.le_of_ble_eq_true rfl), (Nat.le_of_ble_eq_true rfl)⟩) q9 hw9 rfl rfl rfl (Nat.le_of_ble_eq_true rfl) ⟨(Nat.le_of_ble_eq_true rfl), (Nat.le_of_ble_eq_true rfl)⟩ (fun E hE => ?_) (fun r u hu => ?_)
  · obtain ⟨rfl, hT⟩ := hE
    refine ⟨[], ⟨0, 9, 12, 20⟩, [], "java/lang/IndexOutOfBoundsException", htab, (fun _ h9 => absurd h9 List.not_mem_nil), by decide, by decide, h.2.2.2.2.1 _ (by decide +kernel), va_Nw.use rfl (hxe9.2.2.1 _ (by decide)), fun q8 => ?_⟩
    refine j_astore_nR (i := 3) h dL_nearestOfAll_12 rfl (by decide) ?_
    refine j_iconst (v := 1) h dL_nearestOfAll_13 (by decide) ?_
    exact j_iret h hrt hlk dL_nearestOfAll_14 (Nat.le_of_ble_eq_true rfl) (Nat.le_of_ble_eq_true rfl) (Or.inl ⟨by decide, hT.symm, rfl⟩)
  · -- it returns
    refine j_i2l h dL_nearestOfAll_7 ?_
    refine j_last0 h 3 rfl dL_nearestOfAll_8 ?_
    refine j_goto (tgt := 15) h dL_nearestOfAll_9 (by decide) ?_
    refine j_iconst (v := 0) h dL_nearestOfAll_15 (by decide) ?_
    exact j_iret h hrt hlk dL_nearestOfAll_16 (Nat.le_of_ble_eq_true rfl) (Nat.le_of_ble_eq_true rfl) (Or.inr ⟨rfl, r, u, hu, rfl⟩)
set_option maxHeartbeats 4000000 in
set_option maxRecDepth 100000 in
theorem c_L_sortOf {l : Launch} {D : va_G} {cI cL cR cJ : ClassId} {o : Nat} {F : Nat → Int64} (hl : l.stackTraces = false) {ad : Nat → Nat} {f : St} {C : List Nat} {n b q : Nat} {x : Int32} (hx : xw n b q f C) : ctL l D vwCl (tyL cI cL cR cJ) yL_sortOf wsL_sortOf { frames := 8, cells := 1, slots := 6, locals := 126 } [.ref (ad 0), .int x, .ref o] ((o, .inl (cJ, 1, .inr (.inl F))) :: wX cI cL cR ad C f) (fun r u => (¬ r = 0 ∧ r = tF f x ∧ u = (o, .inl (cJ, 1, .inr (.inl F))) :: wX cI cL cR ad C f) ∨ (r = 0 ∧ ∃ (v : Int32) (u0 : va_W), (fun v u => tF f x = 0 ∧ v = (f 10 x.toNatClampNeg) ∧ u = (wX cI cL cR ad C f)) v u0 ∧ u = (o, .inl (cJ, 1, .inr (.inl (vp_updL F 0 v.toInt64)))) :: u0)) 1 6 := by
  refine ctL_of (cc := cL_sortOf) (maxL := 4) (ret := (some .int)) (hh := [(0, 9, 12, 20)]) (by decide) rfl rfl (Nat.le_of_ble_eq_true rfl) (by simp [Value.category]) [(0, .ref (ad 0)), (1, .int x), (2, .ref o)] rfl ?_
  intro p e s m args below meth c sz h hrt hlk htab hnc
  obtain ⟨B9, -, -, hxe9⟩ := id h.2.2.2.2.2.2.2
  obtain ⟨q9, hw9⟩ := wX_recv (cI := cI) (cL := cL) (cR := cR) (ad := ad) (f := f) (hx.c (show 0 < 5 by decide))
  rw [gX_0] at hw9
  refine j_aload_nR h dL_sortOf_0 rfl ?_
  refine j_iconst (v := 0) h dL_sortOf_1 (by decide) ?_
  refine j_aload_nR h dL_sortOf_2 rfl ?_
  refine j_iload_n h dL_sortOf_3 rfl ?_
  refine jj_ws (ws1 := [(o, .inl (cJ, 1, .inr (.inl F)))] ++ wX cI cL cR ad C f) rfl ?_
  refine j_callTIF (vc := (RX2, TX2, 12)) h (h.2.2.2.2.2.1.sub [0, 1, 2] rfl) dL_sortOf_4 (c_X2_sortOf hl hx) (cwV 1 h.2.2.2.2.1 gL_sortOf_X2_sortOf rfl rfl rfl (by decide +kernel) ⟨(Nat.le_of_ble_eq_true rfl), (Nat.le_of_ble_eq_true rfl)⟩) q9 hw9 rfl rfl rfl (Nat.le_of_ble_eq_true rfl) ⟨(Nat.le_of_ble_eq_true rfl), (Nat.le_of_ble_eq_true rfl)⟩ (fun E hE => ?_) (fun r u hu => ?_)
  · obtain ⟨rfl, hT⟩ := hE
    refine ⟨[], ⟨0, 9, 12, 20⟩, [], "java/lang/IndexOutOfBoundsException", htab, (fun _ h9 => absurd h9 List.not_mem_nil), by decide, by decide, h.2.2.2.2.1 _ (by decide +kernel), va_Nw.use rfl (hxe9.2.2.1 _ (by decide)), fun q8 => ?_⟩
    refine j_astore_nR (i := 3) h dL_sortOf_12 rfl (by decide) ?_
    refine j_iconst (v := 1) h dL_sortOf_13 (by decide) ?_
    exact j_iret h hrt hlk dL_sortOf_14 (Nat.le_of_ble_eq_true rfl) (Nat.le_of_ble_eq_true rfl) (Or.inl ⟨by decide, hT.symm, rfl⟩)
  · -- it returns
    refine j_i2l h dL_sortOf_7 ?_
    refine j_last0 h 3 rfl dL_sortOf_8 ?_
    refine j_goto (tgt := 15) h dL_sortOf_9 (by decide) ?_
    refine j_iconst (v := 0) h dL_sortOf_15 (by decide) ?_
    exact j_iret h hrt hlk dL_sortOf_16 (Nat.le_of_ble_eq_true rfl) (Nat.le_of_ble_eq_true rfl) (Or.inr ⟨rfl, r, u, hu, rfl⟩)
set_option maxHeartbeats 4000000 in
set_option maxRecDepth 100000 in
theorem c_L_front {l : Launch} {D : va_G} {cI cL cR cJ : ClassId} {o : Nat} {F : Nat → Int64} (hl : l.stackTraces = false) {ad : Nat → Nat} {f : St} {C : List Nat} {n b q : Nat} {x : Int32} (hx : xw n b q f C) : ctL l D vwCl (tyL cI cL cR cJ) yL_front wsL_front { frames := 8, cells := 1, slots := 6, locals := 126 } [.ref (ad 0), .int x, .ref o] ((o, .inl (cJ, 1, .inr (.inl F))) :: wX cI cL cR ad C f) (fun r u => (¬ r = 0 ∧ r = tF f x ∧ u = (o, .inl (cJ, 1, .inr (.inl F))) :: wX cI cL cR ad C f) ∨ (r = 0 ∧ ∃ (v : Int32) (u0 : va_W), (fun v u => tF f x = 0 ∧ v = (if f 10 x.toNatClampNeg = 1 then f 11 x.toNatClampNeg else -1) ∧ u = (wX cI cL cR ad C f)) v u0 ∧ u = (o, .inl (cJ, 1, .inr (.inl (vp_updL F 0 v.toInt64)))) :: u0)) 1 6 := by
  refine ctL_of (cc := cL_front) (maxL := 4) (ret := (some .int)) (hh := [(0, 9, 12, 20)]) (by decide) rfl rfl (Nat.le_of_ble_eq_true rfl) (by simp [Value.category]) [(0, .ref (ad 0)), (1, .int x), (2, .ref o)] rfl ?_
  intro p e s m args below meth c sz h hrt hlk htab hnc
  obtain ⟨B9, -, -, hxe9⟩ := id h.2.2.2.2.2.2.2
  obtain ⟨q9, hw9⟩ := wX_recv (cI := cI) (cL := cL) (cR := cR) (ad := ad) (f := f) (hx.c (show 0 < 5 by decide))
  rw [gX_0] at hw9
  refine j_aload_nR h dL_front_0 rfl ?_
  refine j_iconst (v := 0) h dL_front_1 (by decide) ?_
  refine j_aload_nR h dL_front_2 rfl ?_
  refine j_iload_n h dL_front_3 rfl ?_
  refine jj_ws (ws1 := [(o, .inl (cJ, 1, .inr (.inl F)))] ++ wX cI cL cR ad C f) rfl ?_
  refine j_callTIF (vc := (RX2, TX2, 12)) h (h.2.2.2.2.2.1.sub [0, 1, 2] rfl) dL_front_4 (c_X2_front hl hx) (cwV 1 h.2.2.2.2.1 gL_front_X2_front rfl rfl rfl (by decide +kernel) ⟨(Nat.le_of_ble_eq_true rfl), (Nat.le_of_ble_eq_true rfl)⟩) q9 hw9 rfl rfl rfl (Nat.le_of_ble_eq_true rfl) ⟨(Nat.le_of_ble_eq_true rfl), (Nat.le_of_ble_eq_true rfl)⟩ (fun E hE => ?_) (fun r u hu => ?_)
  · obtain ⟨rfl, hT⟩ := hE
    refine ⟨[], ⟨0, 9, 12, 20⟩, [], "java/lang/IndexOutOfBoundsException", htab, (fun _ h9 => absurd h9 List.not_mem_nil), by decide, by decide, h.2.2.2.2.1 _ (by decide +kernel), va_Nw.use rfl (hxe9.2.2.1 _ (by decide)), fun q8 => ?_⟩
    refine j_astore_nR (i := 3) h dL_front_12 rfl (by decide) ?_
    refine j_iconst (v := 1) h dL_front_13 (by decide) ?_
    exact j_iret h hrt hlk dL_front_14 (Nat.le_of_ble_eq_true rfl) (Nat.le_of_ble_eq_true rfl) (Or.inl ⟨by decide, hT.symm, rfl⟩)
  · -- it returns
    refine j_i2l h dL_front_7 ?_
    refine j_last0 h 3 rfl dL_front_8 ?_
    refine j_goto (tgt := 15) h dL_front_9 (by decide) ?_
    refine j_iconst (v := 0) h dL_front_15 (by decide) ?_
    exact j_iret h hrt hlk dL_front_16 (Nat.le_of_ble_eq_true rfl) (Nat.le_of_ble_eq_true rfl) (Or.inr ⟨rfl, r, u, hu, rfl⟩)
set_option maxHeartbeats 4000000 in
set_option maxRecDepth 100000 in
theorem c_L_load {l : Launch} {D : va_G} {cI cL cR cJ : ClassId} {o : Nat} {F : Nat → Int64} (hl : l.stackTraces = false) {ad : Nat → Nat} {f : St} {C : List Nat} {n b q : Nat} {x : Int32} (hx : xw n b q f C) : ctL l D vwCl (tyL cI cL cR cJ) yL_load wsL_load { frames := 8, cells := 1, slots := 6, locals := 126 } [.ref (ad 0), .int x, .ref o] ((o, .inl (cJ, 1, .inr (.inl F))) :: wX cI cL cR ad C f) (fun r u => (¬ r = 0 ∧ r = tF f x ∧ u = (o, .inl (cJ, 1, .inr (.inl F))) :: wX cI cL cR ad C f) ∨ (r = 0 ∧ ∃ (v : Int32) (u0 : va_W), (fun v u => tF f x = 0 ∧ v = (wtS f x.toNatClampNeg 10) ∧ u = (wX cI cL cR ad C f)) v u0 ∧ u = (o, .inl (cJ, 1, .inr (.inl (vp_updL F 0 v.toInt64)))) :: u0)) 1 6 := by
  refine ctL_of (cc := cL_load) (maxL := 4) (ret := (some .int)) (hh := [(0, 9, 12, 20)]) (by decide) rfl rfl (Nat.le_of_ble_eq_true rfl) (by simp [Value.category]) [(0, .ref (ad 0)), (1, .int x), (2, .ref o)] rfl ?_
  intro p e s m args below meth c sz h hrt hlk htab hnc
  obtain ⟨B9, -, -, hxe9⟩ := id h.2.2.2.2.2.2.2
  obtain ⟨q9, hw9⟩ := wX_recv (cI := cI) (cL := cL) (cR := cR) (ad := ad) (f := f) (hx.c (show 0 < 5 by decide))
  rw [gX_0] at hw9
  refine j_aload_nR h dL_load_0 rfl ?_
  refine j_iconst (v := 0) h dL_load_1 (by decide) ?_
  refine j_aload_nR h dL_load_2 rfl ?_
  refine j_iload_n h dL_load_3 rfl ?_
  refine jj_ws (ws1 := [(o, .inl (cJ, 1, .inr (.inl F)))] ++ wX cI cL cR ad C f) rfl ?_
  refine j_callTIF (vc := (RX2, TX2, 12)) h (h.2.2.2.2.2.1.sub [0, 1, 2] rfl) dL_load_4 (c_X2_load hl hx) (cwV 1 h.2.2.2.2.1 gL_load_X2_load rfl rfl rfl (by decide +kernel) ⟨(Nat.le_of_ble_eq_true rfl), (Nat.le_of_ble_eq_true rfl)⟩) q9 hw9 rfl rfl rfl (Nat.le_of_ble_eq_true rfl) ⟨(Nat.le_of_ble_eq_true rfl), (Nat.le_of_ble_eq_true rfl)⟩ (fun E hE => ?_) (fun r u hu => ?_)
  · obtain ⟨rfl, hT⟩ := hE
    refine ⟨[], ⟨0, 9, 12, 20⟩, [], "java/lang/IndexOutOfBoundsException", htab, (fun _ h9 => absurd h9 List.not_mem_nil), by decide, by decide, h.2.2.2.2.1 _ (by decide +kernel), va_Nw.use rfl (hxe9.2.2.1 _ (by decide)), fun q8 => ?_⟩
    refine j_astore_nR (i := 3) h dL_load_12 rfl (by decide) ?_
    refine j_iconst (v := 1) h dL_load_13 (by decide) ?_
    exact j_iret h hrt hlk dL_load_14 (Nat.le_of_ble_eq_true rfl) (Nat.le_of_ble_eq_true rfl) (Or.inl ⟨by decide, hT.symm, rfl⟩)
  · -- it returns
    refine j_i2l h dL_load_7 ?_
    refine j_last0 h 3 rfl dL_load_8 ?_
    refine j_goto (tgt := 15) h dL_load_9 (by decide) ?_
    refine j_iconst (v := 0) h dL_load_15 (by decide) ?_
    exact j_iret h hrt hlk dL_load_16 (Nat.le_of_ble_eq_true rfl) (Nat.le_of_ble_eq_true rfl) (Or.inr ⟨rfl, r, u, hu, rfl⟩)
set_option maxHeartbeats 4000000 in
set_option maxRecDepth 100000 in
theorem c_L_likeness {l : Launch} {D : va_G} {cI cL cR cJ : ClassId} {o : Nat} {F : Nat → Int64} (hl : l.stackTraces = false) {ad : Nat → Nat} {f : St} {C : List Nat} {n b q : Nat} {x g : Int32} (hx : xw n b q f C) : ctL l D vwCl (tyL cI cL cR cJ) yL_likeness wsL_likeness { frames := 8, cells := 2, slots := 12, locals := 127 } [.ref (ad 0), .int x, .int g, .ref o] ((o, .inl (cJ, 1, .inr (.inl F))) :: wX cI cL cR ad C f) (fun r u => (¬ r = 0 ∧ r = tLike f x g ∧ u = (o, .inl (cJ, 1, .inr (.inl F))) :: wX cI cL cR ad C f) ∨ (r = 0 ∧ ∃ (v : Int32) (u0 : va_W), (fun v u => tLike f x g = 0 ∧ v = axS f x.toNatClampNeg g 10 ∧ u = (wX cI cL cR ad C f)) v u0 ∧ u = (o, .inl (cJ, 1, .inr (.inl (vp_updL F 0 v.toInt64)))) :: u0)) 2 12 := by
  refine ctL_of (cc := cL_likeness) (maxL := 5) (ret := (some .int)) (hh := [(0, 10, 13, 20), (0, 10, 17, 13)]) (by decide) rfl rfl (Nat.le_of_ble_eq_true rfl) (by simp [Value.category]) [(0, .ref (ad 0)), (1, .int x), (2, .int g), (3, .ref o)] rfl ?_
  intro p e s m args below meth c sz h hrt hlk htab hnc
  obtain ⟨B9, -, -, hxe9⟩ := id h.2.2.2.2.2.2.2
  obtain ⟨q9, hw9⟩ := wX_recv (cI := cI) (cL := cL) (cR := cR) (ad := ad) (f := f) (hx.c (show 0 < 5 by decide))
  rw [gX_0] at hw9
  refine j_aload_nR h dL_likeness_0 rfl ?_
  refine j_iconst (v := 0) h dL_likeness_1 (by decide) ?_
  refine j_aload_nR h dL_likeness_2 rfl ?_
  refine j_iload_n h dL_likeness_3 rfl ?_
  refine j_iload_n h dL_likeness_4 rfl ?_
  refine jj_ws (ws1 := [(o, .inl (cJ, 1, .inr (.inl F)))] ++ wX cI cL cR ad C f) rfl ?_
  refine j_callTIF (vc := (RX2, TX2, 12)) h (h.2.2.2.2.2.1.sub [0, 1, 2] rfl) dL_likeness_5 (c_X2_likeness hl hx) (cwV 2 h.2.2.2.2.1 gL_likeness_X2_likeness rfl rfl rfl (by decide +kernel) ⟨(Nat.le_of_ble_eq_true rfl), (Nat.le_of_ble_eq_true rfl)⟩) q9 hw9 rfl rfl rfl (Nat.le_of_ble_eq_true rfl) ⟨(Nat.le_of_ble_eq_true rfl), (Nat.le_of_ble_eq_true rfl)⟩ (fun E hE => ?_) (fun r u hu => ?_)
  · rcases hE with ⟨rfl, hT⟩ | ⟨rfl, hT⟩
    · -- java/lang/IndexOutOfBoundsException
      refine ⟨[], ⟨0, 10, 13, 20⟩, [⟨0, 10, 17, 13⟩], "java/lang/IndexOutOfBoundsException", htab, (fun _ h9 => absurd h9 List.not_mem_nil), by decide, by decide, h.2.2.2.2.1 _ (by decide +kernel), va_Nw.use rfl (hxe9.2.2.1 _ (by decide)), fun q8 => ?_⟩
      refine j_astoreR h dL_likeness_13 (by decide) ?_
      refine j_iconst (v := 1) h dL_likeness_15 (by decide) ?_
      exact j_iret h hrt hlk dL_likeness_16 (Nat.le_of_ble_eq_true rfl) (Nat.le_of_ble_eq_true rfl) (Or.inl ⟨by decide, hT.symm, rfl⟩)
    · -- java/lang/IllegalArgumentException
      refine ⟨[⟨0, 10, 13, 20⟩], ⟨0, 10, 17, 13⟩, [], "java/lang/IllegalArgumentException", htab, (List.forall_mem_cons.mpr ⟨Or.inr ⟨by decide, "java/lang/IndexOutOfBoundsException", h.2.2.2.2.1 _ (by decide +kernel), hnc _ (by decide) _ (by decide) (by decide)⟩, (fun _ h9 => absurd h9 List.not_mem_nil)⟩), by decide, by decide, h.2.2.2.2.1 _ (by decide +kernel), va_Nw.use rfl (hxe9.2.2.1 _ (by decide)), fun q8 => ?_⟩
      refine j_astoreR h dL_likeness_17 (by decide) ?_
      refine j_iconst (v := 2) h dL_likeness_19 (by decide) ?_
      exact j_iret h hrt hlk dL_likeness_20 (Nat.le_of_ble_eq_true rfl) (Nat.le_of_ble_eq_true rfl) (Or.inl ⟨by decide, hT.symm, rfl⟩)
  · -- it returns
    refine j_i2l h dL_likeness_8 ?_
    refine j_last0 h 3 rfl dL_likeness_9 ?_
    refine j_goto (tgt := 21) h dL_likeness_10 (by decide) ?_
    refine j_iconst (v := 0) h dL_likeness_21 (by decide) ?_
    exact j_iret h hrt hlk dL_likeness_22 (Nat.le_of_ble_eq_true rfl) (Nat.le_of_ble_eq_true rfl) (Or.inr ⟨rfl, r, u, hu, rfl⟩)
set_option maxHeartbeats 4000000 in
set_option maxRecDepth 100000 in
theorem c_L_prize {l : Launch} {D : va_G} {cI cL cR cJ : ClassId} {o : Nat} {F : Nat → Int64} (hl : l.stackTraces = false) {ad : Nat → Nat} {f : St} {C : List Nat} {n b q : Nat} {g : Int32} (hx : xw n b q f C) : ctL l D vwCl (tyL cI cL cR cJ) yL_prize wsL_prize { frames := 7, cells := 1, slots := 6, locals := 109 } [.ref (ad 0), .int g, .ref o] ((o, .inl (cJ, 1, .inr (.inl F))) :: wX cI cL cR ad C f) (fun r u => (¬ r = 0 ∧ r = tPrize g ∧ u = (o, .inl (cJ, 1, .inr (.inl F))) :: wX cI cL cR ad C f) ∨ (r = 0 ∧ ∃ (v : Int32) (u0 : va_W), (fun v u => tPrize g = 0 ∧ v = (pzF f g q).1 ∧ u = (wX cI cL cR ad C f)) v u0 ∧ u = (o, .inl (cJ, 1, .inr (.inl (vp_updL F 0 v.toInt64)))) :: u0)) 1 6 := by
  refine ctL_of (cc := cL_prize) (maxL := 4) (ret := (some .int)) (hh := [(0, 9, 12, 13)]) (by decide) rfl rfl (Nat.le_of_ble_eq_true rfl) (by simp [Value.category]) [(0, .ref (ad 0)), (1, .int g), (2, .ref o)] rfl ?_
  intro p e s m args below meth c sz h hrt hlk htab hnc
  obtain ⟨B9, -, -, hxe9⟩ := id h.2.2.2.2.2.2.2
  obtain ⟨q9, hw9⟩ := wX_recv (cI := cI) (cL := cL) (cR := cR) (ad := ad) (f := f) (hx.c (show 0 < 5 by decide))
  rw [gX_0] at hw9
  refine j_aload_nR h dL_prize_0 rfl ?_
  refine j_iconst (v := 0) h dL_prize_1 (by decide) ?_
  refine j_aload_nR h dL_prize_2 rfl ?_
  refine j_iload_n h dL_prize_3 rfl ?_
  refine jj_ws (ws1 := [(o, .inl (cJ, 1, .inr (.inl F)))] ++ wX cI cL cR ad C f) rfl ?_
  refine j_callTIF (vc := (RX2, TX2, 12)) h (h.2.2.2.2.2.1.sub [0, 1, 2] rfl) dL_prize_4 (c_X2_prize hl hx) (cwV 1 h.2.2.2.2.1 gL_prize_X2_prize rfl rfl rfl (by decide +kernel) ⟨(Nat.le_of_ble_eq_true rfl), (Nat.le_of_ble_eq_true rfl)⟩) q9 hw9 rfl rfl rfl (Nat.le_of_ble_eq_true rfl) ⟨(Nat.le_of_ble_eq_true rfl), (Nat.le_of_ble_eq_true rfl)⟩ (fun E hE => ?_) (fun r u hu => ?_)
  · obtain ⟨rfl, hT⟩ := hE
    refine ⟨[], ⟨0, 9, 12, 13⟩, [], "java/lang/IllegalArgumentException", htab, (fun _ h9 => absurd h9 List.not_mem_nil), by decide, by decide, h.2.2.2.2.1 _ (by decide +kernel), va_Nw.use rfl (hxe9.2.2.1 _ (by decide)), fun q8 => ?_⟩
    refine j_astore_nR (i := 3) h dL_prize_12 rfl (by decide) ?_
    refine j_iconst (v := 1) h dL_prize_13 (by decide) ?_
    exact j_iret h hrt hlk dL_prize_14 (Nat.le_of_ble_eq_true rfl) (Nat.le_of_ble_eq_true rfl) (Or.inl ⟨by decide, hT.symm, rfl⟩)
  · -- it returns
    refine j_i2l h dL_prize_7 ?_
    refine j_last0 h 3 rfl dL_prize_8 ?_
    refine j_goto (tgt := 15) h dL_prize_9 (by decide) ?_
    refine j_iconst (v := 0) h dL_prize_15 (by decide) ?_
    exact j_iret h hrt hlk dL_prize_16 (Nat.le_of_ble_eq_true rfl) (Nat.le_of_ble_eq_true rfl) (Or.inr ⟨rfl, r, u, hu, rfl⟩)
