set_option maxHeartbeats 4000000 in
set_option maxRecDepth 100000 in
theorem c_L_hung {l : Launch} {D : va_G} {cI cL cR : ClassId} (hl : l.stackTraces = false) {ad : Nat → Nat} {f : St} {C : List Nat} {n b q : Nat} {x y z : Int32}  (hx : xw n b q f C) (hT1 : ¬ cHang f x y z = 1) : ctL l D vwCl (tyW cI cL cR) yL_hung wsL_hung { frames := 8, cells := 3, slots := 18, locals := 129 } [.ref (ad 0), .int x, .int y, .int z] (wX cI cL cR ad C f) (fun r u => (r = -3 ∧ cHang f x y z = 2 ∧ u = (wX cI cL cR ad C f)) ∨ (r = -2 ∧ cHang f x y z = 3 ∧ u = (wX cI cL cR ad C f)) ∨ (fun v u => cHang f x y z = 0 ∧ v = wtS (up2 (up2 (up2 f (30 + y.toNatClampNeg) z.toNatClampNeg x) 5 x.toNatClampNeg y) 6 x.toNatClampNeg z) y.toNatClampNeg 10 ∧ u = wX cI cL cR ad C (up2 (up2 (up2 f (30 + y.toNatClampNeg) z.toNatClampNeg x) 5 x.toNatClampNeg y) 6 x.toNatClampNeg z)) r u) 3 18 := by
  refine ctL_of (cc := cL_hung) (maxL := 5) (ret := (some .int)) (hh := [(0, 7, 8, 78), (0, 7, 13, 80)]) (by decide) rfl rfl (Nat.le_of_ble_eq_true rfl) (by simp [Value.category]) [(0, .ref (ad 0)), (1, .int x), (2, .int y), (3, .int z)] rfl ?_
  intro p e s m args below meth c sz h hrt hlk htab hnc
  obtain ⟨B9, -, -, hxe9⟩ := id h.2.2.2.2.2.2.2
  obtain ⟨q9, hw9⟩ := wX_recv (cI := cI) (cL := cL) (cR := cR) (ad := ad) (f := f) (hx.c (show 0 < 5 by decide))
  rw [gX_0] at hw9
  refine j_aload_nR h dL_hung_0 rfl ?_
  refine j_iload_n h dL_hung_1 rfl ?_
  refine j_iload_n h dL_hung_2 rfl ?_
  refine j_iload_n h dL_hung_3 rfl ?_
  refine j_callTIF (vc := (RX2, TX2, 12)) (wr := []) h h.2.2.2.2.2.1 dL_hung_4 (c_X2_hang hl hx) (cwV 3 h.2.2.2.2.1 gL_hung_X2_hang rfl rfl rfl (by decide +kernel) ⟨(Nat.le_of_ble_eq_true rfl), (Nat.le_of_ble_eq_true rfl)⟩) q9 hw9 rfl rfl rfl (Nat.le_of_ble_eq_true rfl) ⟨(Nat.le_of_ble_eq_true rfl), (Nat.le_of_ble_eq_true rfl)⟩ (fun E hE => ?_) (fun r u hu => ?_)
  · rcases hE with ⟨rfl, hT⟩ | ⟨rfl, hT⟩ | ⟨rfl, hT⟩
    · -- java/lang/IndexOutOfBoundsException
      exact absurd hT hT1
    · -- java/lang/IllegalArgumentException
      refine ⟨[], ⟨0, 7, 8, 78⟩, [⟨0, 7, 13, 80⟩], "java/lang/IllegalArgumentException", htab, (fun _ h9 => absurd h9 List.not_mem_nil), by decide, by decide, h.2.2.2.2.1 _ (by decide +kernel), va_Nw.use rfl (hxe9.2.2.1 _ (by decide)), fun q8 => ?_⟩
      refine j_astoreR h dL_hung_8 (by decide) ?_
      refine j_bipush (v := -3) h dL_hung_10 (by decide) ?_
      exact j_iret h hrt hlk dL_hung_12 (Nat.le_of_ble_eq_true rfl) (Nat.le_of_ble_eq_true rfl) (Or.inl ⟨rfl, hT, rfl⟩)
    · -- java/lang/IllegalStateException
      refine ⟨[⟨0, 7, 8, 78⟩], ⟨0, 7, 13, 80⟩, [], "java/lang/IllegalStateException", htab, (List.forall_mem_cons.mpr ⟨Or.inr ⟨by decide, "java/lang/IllegalArgumentException", h.2.2.2.2.1 _ (by decide +kernel), hnc _ (by decide) _ (by decide) (by decide)⟩, (fun _ h9 => absurd h9 List.not_mem_nil)⟩), by decide, by decide, h.2.2.2.2.1 _ (by decide +kernel), va_Nw.use rfl (hxe9.2.2.1 _ (by decide)), fun q8 => ?_⟩
      refine j_astoreR h dL_hung_13 (by decide) ?_
      refine j_bipush (v := -2) h dL_hung_15 (by decide) ?_
      exact j_iret h hrt hlk dL_hung_17 (Nat.le_of_ble_eq_true rfl) (Nat.le_of_ble_eq_true rfl) (Or.inr (Or.inl ⟨rfl, hT, rfl⟩))
  · -- it returns
    exact j_iret h hrt hlk dL_hung_7 (Nat.le_of_ble_eq_true rfl) (Nat.le_of_ble_eq_true rfl) (Or.inr (Or.inr hu))
set_option maxHeartbeats 4000000 in
set_option maxRecDepth 100000 in
theorem c_L_taken {l : Launch} {D : va_G} {cI cL cR : ClassId} (hl : l.stackTraces = false) {ad : Nat → Nat} {f : St} {C : List Nat} {n b q : Nat} {x : Int32}  (hx : xw n b q f C) (hst : stO f n) (hT1 : ¬ tTake f x = 1) : ctL l D vwCl (tyW cI cL cR) yL_taken wsL_taken { frames := 8, cells := 2, slots := 12, locals := 127 } [.ref (ad 0), .int x] (wX cI cL cR ad C f) (fun r u => (r = -2 ∧ tTake f x = 2 ∧ u = (wX cI cL cR ad C f)) ∨ (fun v u => tTake f x = 0 ∧ v = f 5 x.toNatClampNeg ∧ u = wX cI cL cR ad C (dkF (up2 (up2 (frF f (f 5 x.toNatClampNeg).toNatClampNeg x.toNatClampNeg 10) 5 x.toNatClampNeg (-1)) 6 x.toNatClampNeg (-1)) x.toNatClampNeg)) r u) 2 12 := by
  refine ctL_of (cc := cL_taken) (maxL := 3) (ret := (some .int)) (hh := [(0, 5, 6, 80)]) (by decide) rfl rfl (Nat.le_of_ble_eq_true rfl) (by simp [Value.category]) [(0, .ref (ad 0)), (1, .int x)] rfl ?_
  intro p e s m args below meth c sz h hrt hlk htab hnc
  obtain ⟨B9, -, -, hxe9⟩ := id h.2.2.2.2.2.2.2
  obtain ⟨q9, hw9⟩ := wX_recv (cI := cI) (cL := cL) (cR := cR) (ad := ad) (f := f) (hx.c (show 0 < 5 by decide))
  rw [gX_0] at hw9
  refine j_aload_nR h dL_taken_0 rfl ?_
  refine j_iload_n h dL_taken_1 rfl ?_
  refine j_callTIF (vc := (RX2, TX2, 12)) (wr := []) h h.2.2.2.2.2.1 dL_taken_2 (c_X2_takeDown hl hx hst) (cwV 1 h.2.2.2.2.1 gL_taken_X2_takeDown rfl rfl rfl (by decide +kernel) ⟨(Nat.le_of_ble_eq_true rfl), (Nat.le_of_ble_eq_true rfl)⟩) q9 hw9 rfl rfl rfl (Nat.le_of_ble_eq_true rfl) ⟨(Nat.le_of_ble_eq_true rfl), (Nat.le_of_ble_eq_true rfl)⟩ (fun E hE => ?_) (fun r u hu => ?_)
  · rcases hE with ⟨rfl, hT⟩ | ⟨rfl, hT⟩
    · -- java/lang/IndexOutOfBoundsException
      exact absurd hT hT1
    · -- java/lang/IllegalStateException
      refine ⟨[], ⟨0, 5, 6, 80⟩, [], "java/lang/IllegalStateException", htab, (fun _ h9 => absurd h9 List.not_mem_nil), by decide, by decide, h.2.2.2.2.1 _ (by decide +kernel), va_Nw.use rfl (hxe9.2.2.1 _ (by decide)), fun q8 => ?_⟩
      refine j_astore_nR (i := 2) h dL_taken_6 rfl (by decide) ?_
      refine j_bipush (v := -2) h dL_taken_7 (by decide) ?_
      exact j_iret h hrt hlk dL_taken_9 (Nat.le_of_ble_eq_true rfl) (Nat.le_of_ble_eq_true rfl) (Or.inl ⟨rfl, hT, rfl⟩)
  · -- it returns
    exact j_iret h hrt hlk dL_taken_5 (Nat.le_of_ble_eq_true rfl) (Nat.le_of_ble_eq_true rfl) (Or.inr hu)
set_option maxHeartbeats 4000000 in
set_option maxRecDepth 100000 in
theorem c_L_kindled {l : Launch} {D : va_G} {cI cL cR : ClassId} (hl : l.stackTraces = false) {ad : Nat → Nat} {f : St} {C : List Nat} {n b q : Nat} {x : Int32}  (hx : xw n b q f C) (hlp : lpF f n) (hpn : plN f n) (hT1 : ¬ tLight f n x = 1) : ctL l D vwCl (tyW cI cL cR) yL_kindled wsL_kindled { frames := 8, cells := 2, slots := 12, locals := 126 } [.ref (ad 0), .int x] (wX cI cL cR ad C f) (fun r u => (r = -2 ∧ tLight f n x = 2 ∧ u = (wX cI cL cR ad C f)) ∨ (fun v u => tLight f n x = 0 ∧ v = f 4 x.toNatClampNeg ∧ u = wX cI cL cR ad C (up2 f 3 x.toNatClampNeg 1)) r u) 2 12 := by
  refine ctL_of (cc := cL_kindled) (maxL := 3) (ret := (some .int)) (hh := [(0, 5, 6, 80)]) (by decide) rfl rfl (Nat.le_of_ble_eq_true rfl) (by simp [Value.category]) [(0, .ref (ad 0)), (1, .int x)] rfl ?_
  intro p e s m args below meth c sz h hrt hlk htab hnc
  obtain ⟨B9, -, -, hxe9⟩ := id h.2.2.2.2.2.2.2
  obtain ⟨q9, hw9⟩ := wX_recv (cI := cI) (cL := cL) (cR := cR) (ad := ad) (f := f) (hx.c (show 0 < 5 by decide))
  rw [gX_0] at hw9
  refine j_aload_nR h dL_kindled_0 rfl ?_
  refine j_iload_n h dL_kindled_1 rfl ?_
  refine j_callTIF (vc := (RX2, TX2, 12)) (wr := []) h h.2.2.2.2.2.1 dL_kindled_2 (c_X2_light hl hx hlp hpn) (cwV 1 h.2.2.2.2.1 gL_kindled_X2_light rfl rfl rfl (by decide +kernel) ⟨(Nat.le_of_ble_eq_true rfl), (Nat.le_of_ble_eq_true rfl)⟩) q9 hw9 rfl rfl rfl (Nat.le_of_ble_eq_true rfl) ⟨(Nat.le_of_ble_eq_true rfl), (Nat.le_of_ble_eq_true rfl)⟩ (fun E hE => ?_) (fun r u hu => ?_)
  · rcases hE with ⟨rfl, hT⟩ | ⟨rfl, hT⟩
    · -- java/lang/IndexOutOfBoundsException
      exact absurd hT hT1
    · -- java/lang/IllegalStateException
      refine ⟨[], ⟨0, 5, 6, 80⟩, [], "java/lang/IllegalStateException", htab, (fun _ h9 => absurd h9 List.not_mem_nil), by decide, by decide, h.2.2.2.2.1 _ (by decide +kernel), va_Nw.use rfl (hxe9.2.2.1 _ (by decide)), fun q8 => ?_⟩
      refine j_astore_nR (i := 2) h dL_kindled_6 rfl (by decide) ?_
      refine j_bipush (v := -2) h dL_kindled_7 (by decide) ?_
      exact j_iret h hrt hlk dL_kindled_9 (Nat.le_of_ble_eq_true rfl) (Nat.le_of_ble_eq_true rfl) (Or.inl ⟨rfl, hT, rfl⟩)
  · -- it returns
    exact j_iret h hrt hlk dL_kindled_5 (Nat.le_of_ble_eq_true rfl) (Nat.le_of_ble_eq_true rfl) (Or.inr hu)
set_option maxHeartbeats 4000000 in
set_option maxRecDepth 100000 in
theorem c_L_putOut {l : Launch} {D : va_G} {cI cL cR : ClassId} (hl : l.stackTraces = false) {ad : Nat → Nat} {f : St} {C : List Nat} {n b q : Nat} {x : Int32}  (hx : xw n b q f C) (hst : stO f n) (hT1 : ¬ tPutOut f x = 1) : ctL l D vwCl (tyW cI cL cR) yL_putOut wsL_putOut { frames := 8, cells := 2, slots := 12, locals := 126 } [.ref (ad 0), .int x] (wX cI cL cR ad C f) (fun r u => (r = -2 ∧ tPutOut f x = 2 ∧ u = (wX cI cL cR ad C f)) ∨ (fun v u => tPutOut f x = 0 ∧ v = f 4 x.toNatClampNeg ∧ u = wX cI cL cR ad C (up2 f 3 x.toNatClampNeg 0)) r u) 2 12 := by
  refine ctL_of (cc := cL_putOut) (maxL := 3) (ret := (some .int)) (hh := [(0, 5, 6, 80)]) (by decide) rfl rfl (Nat.le_of_ble_eq_true rfl) (by simp [Value.category]) [(0, .ref (ad 0)), (1, .int x)] rfl ?_
  intro p e s m args below meth c sz h hrt hlk htab hnc
  obtain ⟨B9, -, -, hxe9⟩ := id h.2.2.2.2.2.2.2
  obtain ⟨q9, hw9⟩ := wX_recv (cI := cI) (cL := cL) (cR := cR) (ad := ad) (f := f) (hx.c (show 0 < 5 by decide))
  rw [gX_0] at hw9
  refine j_aload_nR h dL_putOut_0 rfl ?_
  refine j_iload_n h dL_putOut_1 rfl ?_
  refine j_callTIF (vc := (RX2, TX2, 12)) (wr := []) h h.2.2.2.2.2.1 dL_putOut_2 (c_X2_putOut hl hx hst) (cwV 1 h.2.2.2.2.1 gL_putOut_X2_putOut rfl rfl rfl (by decide +kernel) ⟨(Nat.le_of_ble_eq_true rfl), (Nat.le_of_ble_eq_true rfl)⟩) q9 hw9 rfl rfl rfl (Nat.le_of_ble_eq_true rfl) ⟨(Nat.le_of_ble_eq_true rfl), (Nat.le_of_ble_eq_true rfl)⟩ (fun E hE => ?_) (fun r u hu => ?_)
  · rcases hE with ⟨rfl, hT⟩ | ⟨rfl, hT⟩
    · -- java/lang/IndexOutOfBoundsException
      exact absurd hT hT1
    · -- java/lang/IllegalStateException
      refine ⟨[], ⟨0, 5, 6, 80⟩, [], "java/lang/IllegalStateException", htab, (fun _ h9 => absurd h9 List.not_mem_nil), by decide, by decide, h.2.2.2.2.1 _ (by decide +kernel), va_Nw.use rfl (hxe9.2.2.1 _ (by decide)), fun q8 => ?_⟩
      refine j_astore_nR (i := 2) h dL_putOut_6 rfl (by decide) ?_
      refine j_bipush (v := -2) h dL_putOut_7 (by decide) ?_
      exact j_iret h hrt hlk dL_putOut_9 (Nat.le_of_ble_eq_true rfl) (Nat.le_of_ble_eq_true rfl) (Or.inl ⟨rfl, hT, rfl⟩)
  · -- it returns
    exact j_iret h hrt hlk dL_putOut_5 (Nat.le_of_ble_eq_true rfl) (Nat.le_of_ble_eq_true rfl) (Or.inr hu)
set_option maxHeartbeats 4000000 in
set_option maxRecDepth 100000 in
theorem c_L_launched {l : Launch} {D : va_G} {cI cL cR : ClassId} (hl : l.stackTraces = false) {ad : Nat → Nat} {f : St} {C : List Nat} {n b q : Nat} {x : Int32}  (hx : xw n b q f C) (hql : ∀ r, r < b → f 10 r = 0 → q < 8) (hT1 : ¬ tLaunch f q x = 1) : ctL l D vwCl (tyW cI cL cR) yL_launched wsL_launched { frames := 8, cells := 2, slots := 12, locals := 126 } [.ref (ad 0), .int x] (wX cI cL cR ad C f) (fun r u => (r = -2 ∧ tLaunch f q x = 2 ∧ u = (wX cI cL cR ad C f)) ∨ (fun v u => tLaunch f q x = 0 ∧ v = roS (laF f q x.toNatClampNeg) (q + 1) ∧ u = wX cI cL cR ad C (laF f q x.toNatClampNeg)) r u) 2 12 := by
  refine ctL_of (cc := cL_launched) (maxL := 3) (ret := (some .int)) (hh := [(0, 5, 6, 80)]) (by decide) rfl rfl (Nat.le_of_ble_eq_true rfl) (by simp [Value.category]) [(0, .ref (ad 0)), (1, .int x)] rfl ?_
  intro p e s m args below meth c sz h hrt hlk htab hnc
  obtain ⟨B9, -, -, hxe9⟩ := id h.2.2.2.2.2.2.2
  obtain ⟨q9, hw9⟩ := wX_recv (cI := cI) (cL := cL) (cR := cR) (ad := ad) (f := f) (hx.c (show 0 < 5 by decide))
  rw [gX_0] at hw9
  refine j_aload_nR h dL_launched_0 rfl ?_
  refine j_iload_n h dL_launched_1 rfl ?_
  refine j_callTIF (vc := (RX2, TX2, 12)) (wr := []) h h.2.2.2.2.2.1 dL_launched_2 (c_X2_launch hl hx hql) (cwV 1 h.2.2.2.2.1 gL_launched_X2_launch rfl rfl rfl (by decide +kernel) ⟨(Nat.le_of_ble_eq_true rfl), (Nat.le_of_ble_eq_true rfl)⟩) q9 hw9 rfl rfl rfl (Nat.le_of_ble_eq_true rfl) ⟨(Nat.le_of_ble_eq_true rfl), (Nat.le_of_ble_eq_true rfl)⟩ (fun E hE => ?_) (fun r u hu => ?_)
  · rcases hE with ⟨rfl, hT⟩ | ⟨rfl, hT⟩
    · -- java/lang/IndexOutOfBoundsException
      exact absurd hT hT1
    · -- java/lang/IllegalStateException
      refine ⟨[], ⟨0, 5, 6, 80⟩, [], "java/lang/IllegalStateException", htab, (fun _ h9 => absurd h9 List.not_mem_nil), by decide, by decide, h.2.2.2.2.1 _ (by decide +kernel), va_Nw.use rfl (hxe9.2.2.1 _ (by decide)), fun q8 => ?_⟩
      refine j_astore_nR (i := 2) h dL_launched_6 rfl (by decide) ?_
      refine j_bipush (v := -2) h dL_launched_7 (by decide) ?_
      exact j_iret h hrt hlk dL_launched_9 (Nat.le_of_ble_eq_true rfl) (Nat.le_of_ble_eq_true rfl) (Or.inl ⟨rfl, hT, rfl⟩)
  · -- it returns
    exact j_iret h hrt hlk dL_launched_5 (Nat.le_of_ble_eq_true rfl) (Nat.le_of_ble_eq_true rfl) (Or.inr hu)
