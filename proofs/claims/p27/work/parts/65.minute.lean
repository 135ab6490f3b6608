set_option maxHeartbeats 4000000 in
set_option maxRecDepth 100000 in
theorem c_L_minute {l : Launch} {D : va_G} {cI cL cR : ClassId} {aJ : Nat → Nat} {ψ : St} {n q tm : Nat} (hn : n ≤ 8) (h7 : ψ 7 0 = nI n) (h13 : ψ 13 0 = nI q) (hq : q ≤ 5) (hr : ∀ i, i < q → ∃ r, r < 5 ∧ ψ 12 i = nI r) (h18 : ψ 18 0 = nI tm) (ht : tm < 2 ^ 29) (h5 : ∀ k, k < n → ψ 5 k = -1 ∨ ∃ r, r < 5 ∧ ψ 5 k = nI r) : ctI l D vwCl (tyW cI cL cR) yL_minute wsL_minute { frames := 3, cells := 0, slots := 0, locals := 75 } [.ref (aJ 0), .ref (aJ 1), .ref (aJ 2), .ref (aJ 3), .ref (aJ 4)] (wJ cI aJ ψ) (fun r u => r = ltS ψ n - ltS (mnJ ψ n q tm) n ∧ u = wJ cI aJ (mnJ ψ n q tm)) 0 0 := by
  refine ctI_of (cc := cL_minute) (maxL := 10) (ret := (some .int)) (by decide) rfl rfl (Nat.le_of_ble_eq_true rfl) (by simp [Value.category]) [(0, .ref (aJ 0)), (1, .ref (aJ 1)), (2, .ref (aJ 2)), (3, .ref (aJ 3)), (4, .ref (aJ 4))] rfl ?_
  intro p e s m args below meth c sz h hrt hlk hnm
  refine jj_ws (List.append_nil _).symm ?_
  have e2 : ∀ j, j ≠ 3 ∧ j ≠ 10 ∧ j ≠ 12 ∧ j ≠ 13 ∧ j ≠ 11 ∧ j ≠ 18 → (goJ n q (mvJ (up2 ψ 18 0 (nI (tm + 1))) q)) j = ψ j := fun j hj => by rw [goJ_k n (by omega), mvJ_k _ _ (by omega), up2_fld _ _ _ (by omega)]
  have e18 : (goJ n q (mvJ (up2 ψ 18 0 (nI (tm + 1))) q)) 18 0 = nI (tm + 1) := by rw [goJ_k n (by decide), mvJ_k _ _ (by decide)]; rfl
  refine mi_mv (n := n) h h13 hq hr h18 (fun lv1 hl1 => jj_to (l1 := [(0, .ref (aJ 0)), (1, .ref (aJ 1)), (2, .ref (aJ 2)), (3, .ref (aJ 3)), (4, .ref (aJ 4)), (5, .int (ltS ψ n - ltS (mvJ (up2 ψ 18 0 (nI (tm + 1))) q) n))]) ?_ ?_)
  · refine mi_go h hn ⟨by rw [mvJ_k _ _ (by decide)]; exact h7, by rw [mvJ_k _ _ (by decide)]; exact h13, hq, fun i hi => by rw [mvJ_k _ _ (by decide)]; exact hr i hi⟩ (fun lv2 hl2 => jj_to ?_ hl2)
    refine mi_bl h hn (by rw [e2 7 (by decide)]; exact h7) e18 (by omega) (fun lv3 hl3 => jj_to ?_ hl3)
    refine mi_bu h hn (by rw [kp_bl (by decide) (by decide), e2 7 (by decide)]; exact h7) (fun lv4 hl4 => jj_to ?_ hl4)
    refine mi_ma h hn (by rw [kp_bu (by decide) (by decide), kp_bl (by decide) (by decide), e2 7 (by decide)]; exact h7) (fun k hk => by rw [kp_bu (by decide) (by decide), kp_bl (by decide) (by decide), e2 5 (by decide)]; exact h5 k hk) rfl rfl (fun lv5 hl5 => jj_to ?_ hl5)
    refine j_iload h dL_minute_665 rfl ?_
    exact j_iret h hrt hlk dL_minute_667 (by decide) (by decide) ⟨rfl, List.append_nil _⟩
  · refine ⟨hl1.1, hl1.2.1, hl1.2.2.1, hl1.2.2.2.1, hl1.2.2.2.2.1, ?_, trivial⟩
    rw [hl1.2.2.2.2.2.1, show ltS ψ n = ltS (mvJ (up2 ψ 18 0 (nI (tm + 1))) q) n from ltS_eq n (by rw [mvJ_k _ _ (by decide)]; rfl), Int32.sub_self]
