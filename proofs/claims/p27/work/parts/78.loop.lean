set_option maxHeartbeats 8000000 in
set_option maxRecDepth 100000 in
theorem holds_loop {p : Program} {l : Launch} {e9 : Env} {s : State} {m : MethodId} {args : Array Value} {below : List Frame} {meth : Method} {c : Code} {Q : State → Prop} {D : va_G} {cI cL cR : ClassId} {A : Nat → Prop} {aJ : Nat → Nat} {sb L a0 : Nat} {xs : Nat → Int32} (h : jc p s m args c D vwCl (tyW cI cL cR) A 10 cL_holds RL wsL_holds) (hl : l.stackTraces = false) (hnc : NcA s) (hX : va_X sb L xs s s.heap) (hbl : sb < s.heap.size) (hbA : ¬ A sb) (hL : L ≤ 260) (hend : ∀ (k w : Nat) (ws : va_W) (lv : List (Nat × Value)), k ≤ 9000 → w ≤ 55000 → lsub [(7, .int 1)] lv → jj p l e9 (headSpec wsL_holds { frames := 11, cells := 9000, slots := 55000, locals := 214 }).room s m args below meth c Q D vwCl (tyW cI cL cR) A 10 (ws) k w 167 lv []) : ∀ (N e k w n b q d tm : Nat) (φ ψ : St) (C : List Nat) (ad : Nat → Nat), 130 - e = N → e ≤ 130 → k ≤ 10 + 69 * e → w ≤ 614 + 414 * e → tm ≤ 40 * e → ad 0 = a0 → IV n b q tm φ C → Jr n b q d φ ψ → (e < 4 → n = e) → (4 ≤ e → 4 ≤ n) → (e < 7 → b = e - 4) → (7 ≤ e → 3 ≤ b) → jj p l e9 (headSpec wsL_holds { frames := 11, cells := 9000, slots := 55000, locals := 214 }).room s m args below meth c Q D vwCl (tyW cI cL cR) A 10 (wJ cI aJ ψ ++ wX cI cL cR ad C φ) k w 46 [(0, .ref sb), (1, .ref a0), (2, .ref (aJ 0)), (3, .ref (aJ 1)), (4, .ref (aJ 2)), (5, .ref (aJ 3)), (6, .ref (aJ 4)), (7, .int 1), (8, .int (nI e))] [] := by
  intro N
  induction N with
  | zero =>
    intro e k w n b q d tm φ ψ C ad hN he hk hw htm had I R hn1 hn2 kb1 kb2
    refine j_iload h dL_holds_46 rfl ?_
    refine j_sipush (v := 130) h dL_holds_48 (by decide) ?_
    refine j_icmp_ge (tgt := 167) h dL_holds_51 (by decide) (fun c51 => ?_) (fun c51 => ?_)
    · exact hend _ _ _ _ (by omega) (by omega) ⟨rfl, trivial⟩
    · rw [show (130 : Int32) = nI 130 from rfl, nI_leI (by omega) (by omega)] at c51; omega
  | succ N ih =>
    intro e k w n b q d tm φ ψ C ad hN he hk hw htm had I R hn1 hn2 kb1 kb2
    have hn8 := R.n8
    have hb5 := R.b5
    refine j_iload h dL_holds_46 rfl ?_
    refine j_sipush (v := 130) h dL_holds_48 (by decide) ?_
    refine j_icmp_ge (tgt := 167) h dL_holds_51 (by decide) (fun c51 => ?_) (fun c51 => ?_)
    · -- t
      rw [show (130 : Int32) = nI 130 from rfl, nI_leI (by omega) (by omega)] at c51
      exact hend _ _ _ _ (by omega) (by omega) ⟨rfl, trivial⟩
    · -- f
      rw [show (130 : Int32) = nI 130 from rfl, nI_leI (by omega) (by omega)] at c51
      refine j_iload h dL_holds_54 rfl ?_
      refine j_if_eq (tgt := 167) h dL_holds_56 (by decide) (fun c56 => absurd c56 (by decide)) (fun c56 => ?_)
      refine jj_cut 90 [(0, .ref sb), (1, .ref a0), (2, .ref (aJ 0)), (3, .ref (aJ 1)), (4, .ref (aJ 2)), (5, .ref (aJ 3)), (6, .ref (aJ 4)), (7, .int 1), (8, .int (nI e))] [] (fun v => ∃ wy : Nat, wy < 25 ∧ (e < 4 → wy = 0) ∧ (4 ≤ e → e < 7 → wy = 1) ∧ v = nI wy) (fun v90 hv90 => ?_) (fun cut90 => ?_)
      · -- behind
        obtain ⟨wy, hwy, hw0, hw1, rfl⟩ := hv90
        refine j_istore h dL_holds_90 (by decide) ?_
        refine j_aload_nR h dL_holds_92 rfl ?_
        refine j_aload_nR h dL_holds_93 rfl ?_
        refine j_aload_nR h dL_holds_94 rfl ?_
        refine j_aloadR h dL_holds_95 rfl ?_
        refine j_aloadR h dL_holds_97 rfl ?_
        refine j_aloadR h dL_holds_99 rfl ?_
        refine j_iload h dL_holds_101 rfl ?_
        refine j_aload_nR h dL_holds_103 rfl ?_
        refine j_iconst (v := 2) h dL_holds_104 (by decide) ?_
        refine j_iload h dL_holds_105 rfl ?_
        refine j_imul h dL_holds_107 ?_
        refine j_iconst (v := 1) h dL_holds_108 (by decide) ?_
        refine j_iadd h dL_holds_109 ?_
        refine j_top (show (2 : Int32) * nI e + 1 = nI (2 * e + 1) by rw [show (2 : Int32) * nI e = nI (2 * e) from pk_mul 2 e]; exact nI_1 _) ?_
        refine j_ldc (v := 1000000) h dL_holds_110 (by decide +kernel) ?_
        refine j_callSS h hnc hX hbl hbA dL_holds_112 (c_L_from (ws := wJ cI aJ ψ ++ wX cI cL cR ad C φ) (k := 2 * e + 1) (d := 1000000) hL (by omega) (by decide) (by decide)) (va_cwS 3 h.2.2.2.2.1 gL_holds_L_from rfl rfl rfl (by decide +kernel) ⟨(Nat.le_of_ble_eq_true rfl), (Nat.le_of_ble_eq_true rfl)⟩) rfl rfl (Nat.le_of_ble_eq_true rfl) ⟨by show _ ≤ 9000; omega, by show _ ≤ 55000; omega⟩ (fun r112 u112 hu112 => ?_)
        obtain ⟨z9, hz9, rfl, rfl⟩ := hu112
        have hok : (wy = 0 ∧ n < 8) ∨ (wy = 1 ∧ b < 5) ∨ (1 ≤ n ∧ 1 ≤ b) := by
          rcases Nat.lt_or_ge e 4 with y | y
          · exact Or.inl ⟨hw0 y, by have := hn1 y; omega⟩
          · rcases Nat.lt_or_ge e 7 with y2 | y2
            · exact Or.inr (Or.inl ⟨hw1 y y2, by have := kb1 y2; omega⟩)
            · exact Or.inr (Or.inr ⟨by have := hn2 y; omega, by have := kb2 y2; omega⟩)
        rw [← had]
        refine j_callNF (wr := []) (wc := wJ cI aJ ψ ++ wX cI cL cR ad C φ) h hnc dL_holds_115 (c_L_acts hl I R hok hz9 (by omega) (by omega)) (va_cwS 8 h.2.2.2.2.1 gL_holds_L_acts rfl rfl rfl (by decide +kernel) ⟨(Nat.le_of_ble_eq_true rfl), (Nat.le_of_ble_eq_true rfl)⟩) rfl rfl (Nat.le_of_ble_eq_true rfl) ⟨by show _ ≤ 9000; omega, by show _ ≤ 55000; omega⟩ (fun r9 u9 hu9 => ?_)
        obtain ⟨rfl, n2, b2, q2, d2, tm2, φ2, ψ2, C2, ad2, had2, I2, R2, ht2, hle1, hle2, hx1, hx2, rfl⟩ := hu9
        refine jj_ws (ws1 := wJ cI aJ ψ2 ++ wX cI cL cR ad2 C2 φ2) rfl ?_
        have hb52 := R2.b5
        refine j_if_eq (tgt := 158) h dL_holds_118 (by decide) (fun c118 => absurd c118 (by decide)) (fun c118 => ?_)
        refine j_iload h dL_holds_121 rfl ?_
        refine j_iconst (v := 2) h dL_holds_123 (by decide) ?_
        refine j_iremN (a := e) (d := 2) h dL_holds_124 rfl rfl (by omega) (by omega) (by omega) ?_
        refine j_if_eq (tgt := 154) h dL_holds_125 (by decide) (fun c125 => ?_) (fun c125 => ?_)
        · -- t
          refine j_iconst (v := 1) h dL_holds_154 (by decide) ?_
          refine j_goto (tgt := 159) h dL_holds_155 (by decide) ?_
          refine j_istore h dL_holds_159 (by decide) ?_
          refine j_iinc h dL_holds_161 rfl rfl (by decide) ?_
          refine j_goto (tgt := 46) h dL_holds_164 (by decide) ?_
          exact jj_to (ih (e + 1) _ _ n2 b2 q2 d2 tm2 φ2 ψ2 C2 ad2 (by omega) (by omega) (by omega) (by omega) (by omega) (by first | exact had2.symm.trans had | rw [← had, had2]) I2 R2 (fun y => by have := hx1 (hw0 (by omega)) (by have := hn1 (by omega); omega); have := hn1 (by omega); omega) (fun y => by
            rcases Nat.lt_or_ge e 4 with y2 | y2
            · have := hx1 (hw0 y2) (by have := hn1 y2; omega); have := hn1 y2; omega
            · have := hn2 y2; omega) (fun y => by
            rcases Nat.lt_or_ge e 4 with y2 | y2
            · have := hx1 (hw0 y2) (by have := hn1 y2; omega); have := kb1 (by omega); omega
            · have := hx2 (hw1 y2 (by omega)) (by have := kb1 (by omega); omega); have := kb1 (by omega); omega) (fun y => by
            rcases Nat.lt_or_ge e 7 with y2 | y2
            · have := hx2 (hw1 (by omega) y2) (by have := kb1 y2; omega); have := kb1 y2; omega
            · have := kb2 y2; omega)) ⟨rfl, by first | rfl | (show some (Value.ref _) = _; rw [← had, had2]) | (show some (Value.ref _) = _; rw [← had]), rfl, rfl, rfl, rfl, rfl, rfl, by simp [lget, nI_succ], trivial⟩
        · -- f
          refine j_aload_nR h dL_holds_128 rfl ?_
          refine j_aload_nR h dL_holds_129 rfl ?_
          refine j_aload_nR h dL_holds_130 rfl ?_
          refine j_aloadR h dL_holds_131 rfl ?_
          refine j_aloadR h dL_holds_133 rfl ?_
          refine j_aload_nR h dL_holds_135 rfl ?_
          refine j_sipush (v := 300) h dL_holds_136 (by decide) ?_
          refine j_iload h dL_holds_139 rfl ?_
          refine j_iadd h dL_holds_141 ?_
          refine j_top (show (300 : Int32) + nI e = nI (300 + e) from nI_add 300 e) ?_
          refine j_sipush (v := 1024) h dL_holds_142 (by decide) ?_
          refine j_callSS h hnc hX hbl hbA dL_holds_145 (c_L_from (ws := wJ cI aJ ψ2 ++ wX cI cL cR ad2 C2 φ2) (k := 300 + e) (d := 1024) hL (by omega) (by decide) (by decide)) (va_cwS 3 h.2.2.2.2.1 gL_holds_L_from rfl rfl rfl (by decide +kernel) ⟨(Nat.le_of_ble_eq_true rfl), (Nat.le_of_ble_eq_true rfl)⟩) rfl rfl (Nat.le_of_ble_eq_true rfl) ⟨by show _ ≤ 9000; omega, by show _ ≤ 55000; omega⟩ (fun r145 u145 hu145 => ?_)
          obtain ⟨g9, hg9, rfl, rfl⟩ := hu145
          rw [had2]
          refine j_callSI h dL_holds_148 (c_L_isTold hl I2 R2 hg9) (va_cwS 6 h.2.2.2.2.1 gL_holds_L_isTold rfl rfl rfl (by decide +kernel) ⟨(Nat.le_of_ble_eq_true rfl), (Nat.le_of_ble_eq_true rfl)⟩) rfl rfl (Nat.le_of_ble_eq_true rfl) ⟨by show _ ≤ 9000; omega, by show _ ≤ 55000; omega⟩ (fun r8 u8 hu8 => ?_)
          obtain ⟨rfl, rfl⟩ := hu8
          refine j_if_eq (tgt := 158) h dL_holds_151 (by decide) (fun c151 => absurd c151 (by decide)) (fun c151 => ?_)
          refine j_iconst (v := 1) h dL_holds_154 (by decide) ?_
          refine j_goto (tgt := 159) h dL_holds_155 (by decide) ?_
          refine j_istore h dL_holds_159 (by decide) ?_
          refine j_iinc h dL_holds_161 rfl rfl (by decide) ?_
          refine j_goto (tgt := 46) h dL_holds_164 (by decide) ?_
          exact jj_to (ih (e + 1) _ _ n2 b2 q2 d2 tm2 φ2 ψ2 C2 ad2 (by omega) (by omega) (by omega) (by omega) (by omega) (by first | exact had2.symm.trans had | rw [← had, had2]) I2 R2 (fun y => by have := hx1 (hw0 (by omega)) (by have := hn1 (by omega); omega); have := hn1 (by omega); omega) (fun y => by
            rcases Nat.lt_or_ge e 4 with y2 | y2
            · have := hx1 (hw0 y2) (by have := hn1 y2; omega); have := hn1 y2; omega
            · have := hn2 y2; omega) (fun y => by
            rcases Nat.lt_or_ge e 4 with y2 | y2
            · have := hx1 (hw0 y2) (by have := hn1 y2; omega); have := kb1 (by omega); omega
            · have := hx2 (hw1 y2 (by omega)) (by have := kb1 (by omega); omega); have := kb1 (by omega); omega) (fun y => by
            rcases Nat.lt_or_ge e 7 with y2 | y2
            · have := hx2 (hw1 (by omega) y2) (by have := kb1 y2; omega); have := kb1 y2; omega
            · have := kb2 y2; omega)) ⟨rfl, by first | rfl | (show some (Value.ref _) = _; rw [← had, had2]) | (show some (Value.ref _) = _; rw [← had]), rfl, rfl, rfl, rfl, rfl, rfl, by simp [lget, nI_succ], trivial⟩
      · -- ahead
        refine j_iload h dL_holds_59 rfl ?_
        refine j_iconst (v := 4) h dL_holds_61 (by decide) ?_
        refine j_icmp_ge (tgt := 69) h dL_holds_62 (by decide) (fun c62 => ?_) (fun c62 => ?_)
        · -- t
          rw [show (4 : Int32) = nI 4 from rfl, nI_leI (by omega) (by omega)] at c62
          refine j_iload h dL_holds_69 rfl ?_
          refine j_bipush (v := 7) h dL_holds_71 (by decide) ?_
          refine j_icmp_ge (tgt := 80) h dL_holds_73 (by decide) (fun c73 => ?_) (fun c73 => ?_)
          · -- t
            rw [show (7 : Int32) = nI 7 from rfl, nI_leI (by omega) (by omega)] at c73
            refine j_aload_nR h dL_holds_80 rfl ?_
            refine j_iconst (v := 2) h dL_holds_81 (by decide) ?_
            refine j_iload h dL_holds_82 rfl ?_
            refine j_imul h dL_holds_84 ?_
            refine j_top (show (2 : Int32) * nI e = nI (2 * e) from pk_mul 2 e) ?_
            refine j_bipush (v := 25) h dL_holds_85 (by decide) ?_
            refine j_callSS h hnc hX hbl hbA dL_holds_87 (c_L_from (ws := wJ cI aJ ψ ++ wX cI cL cR ad C φ) (k := 2 * e) (d := 25) hL (by omega) (by decide) (by decide)) (va_cwS 3 h.2.2.2.2.1 gL_holds_L_from rfl rfl rfl (by decide +kernel) ⟨(Nat.le_of_ble_eq_true rfl), (Nat.le_of_ble_eq_true rfl)⟩) rfl rfl (Nat.le_of_ble_eq_true rfl) ⟨by show _ ≤ 9000; omega, by show _ ≤ 55000; omega⟩ (fun r87 u87 hu87 => ?_)
            obtain ⟨y9, hy9, rfl, rfl⟩ := hu87
            exact cut90 _ (by first | exact ⟨0, by omega, fun _ => rfl, fun _ _ => by omega, rfl⟩ | exact ⟨1, by omega, fun _ => by omega, fun _ _ => rfl, rfl⟩ | exact ⟨_, hy9, fun _ => by omega, fun _ _ => by omega, rfl⟩) _ ⟨rfl, rfl, rfl, rfl, rfl, rfl, rfl, rfl, rfl, trivial⟩
          · -- f
            rw [show (7 : Int32) = nI 7 from rfl, nI_leI (by omega) (by omega)] at c73
            refine j_iconst (v := 1) h dL_holds_76 (by decide) ?_
            refine j_goto (tgt := 90) h dL_holds_77 (by decide) ?_
            have hy9 : True := trivial
            exact cut90 _ (by first | exact ⟨0, by omega, fun _ => rfl, fun _ _ => by omega, rfl⟩ | exact ⟨1, by omega, fun _ => by omega, fun _ _ => rfl, rfl⟩ | exact ⟨_, hy9, fun _ => by omega, fun _ _ => by omega, rfl⟩) _ ⟨rfl, rfl, rfl, rfl, rfl, rfl, rfl, rfl, rfl, trivial⟩
        · -- f
          rw [show (4 : Int32) = nI 4 from rfl, nI_leI (by omega) (by omega)] at c62
          refine j_iconst (v := 0) h dL_holds_65 (by decide) ?_
          refine j_goto (tgt := 90) h dL_holds_66 (by decide) ?_
          have hy9 : True := trivial
          exact cut90 _ (by first | exact ⟨0, by omega, fun _ => rfl, fun _ _ => by omega, rfl⟩ | exact ⟨1, by omega, fun _ => by omega, fun _ _ => rfl, rfl⟩ | exact ⟨_, hy9, fun _ => by omega, fun _ _ => by omega, rfl⟩) _ ⟨rfl, rfl, rfl, rfl, rfl, rfl, rfl, rfl, rfl, trivial⟩
