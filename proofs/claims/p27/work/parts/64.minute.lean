theorem bu_z {g : St} {i : Nat} (h1 : buF g i 3 i = 1) (h4 : buF g i 4 i - 1 = 0) : buF g (i + 1) = up2 (up2 (buF g i) 4 i (buF g i 4 i - 1)) 3 i 2 := by rw [buF, if_pos h1, if_pos h4]
theorem bu_n {g : St} {i : Nat} (h1 : buF g i 3 i = 1) (h4 : ¬ buF g i 4 i - 1 = 0) : buF g (i + 1) = up2 (up2 (buF g i) 4 i (buF g i 4 i - 1)) 3 i (up2 (buF g i) 4 i (buF g i 4 i - 1) 3 i) := by rw [buF, if_pos h1, if_neg h4, up2_fld _ _ _ (show (3 : Nat) ≠ 4 by decide), h1]
set_option maxHeartbeats 4000000 in
set_option maxRecDepth 100000 in
theorem mi_mv {p : Program} {l : Launch} {e : Env} {s : State} {m : MethodId} {args : Array Value} {below : List Frame} {meth : Method} {c : Code} {Q : State → Prop} {D : va_G} {cI cL cR : ClassId} {A : Nat → Prop} {k w : Nat} {aJ : Nat → Nat} {ψ : St} {n q tm : Nat} (h : jc p s m args c D vwCl (tyW cI cL cR) A 10 cL_minute RL wsL_minute) (h13 : ψ 13 0 = nI q) (hq : q ≤ 5) (hr : ∀ i, i < q → ∃ r, r < 5 ∧ ψ 12 i = nI r) (h18 : ψ 18 0 = nI tm) (kk : ∀ lv1 : List (Nat × Value), lsub [(0, .ref (aJ 0)), (1, .ref (aJ 1)), (2, .ref (aJ 2)), (3, .ref (aJ 3)), (4, .ref (aJ 4)), (5, .int 0)] lv1 → jj p l e (headSpec wsL_minute { frames := 3, cells := 0, slots := 0, locals := 75 }).room s m args below meth c Q D vwCl (tyW cI cL cR) A 10 (wJ cI aJ (mvJ (up2 ψ 18 0 (nI (tm + 1))) q) ++ []) k w 113 lv1 []) : jj p l e (headSpec wsL_minute { frames := 3, cells := 0, slots := 0, locals := 75 }).room s m args below meth c Q D vwCl (tyW cI cL cR) A 10 (wJ cI aJ ψ ++ []) k w 0 [(0, .ref (aJ 0)), (1, .ref (aJ 1)), (2, .ref (aJ 2)), (3, .ref (aJ 3)), (4, .ref (aJ 4))] [] := by
  refine j_iconst (v := 0) h dL_minute_0 (by decide) ?_
  refine j_istore h dL_minute_1 (by decide) ?_
  refine j_aloadR h dL_minute_3 rfl ?_
  refine j_iconst (v := 5) h dL_minute_5 (by decide) ?_
  refine j_dup2 h dL_minute_6 rfl rfl ?_
  refine jm_ald5 h dL_minute_7 ?_
  refine j_iconst (v := 1) h dL_minute_8 (by decide) ?_
  refine j_iadd h dL_minute_9 ?_
  refine j_top (show ψ 18 0 + 1 = nI (tm + 1) by rw [h18, nI_1]) ?_
  refine jm_ast5 h dL_minute_10 ?_
  refine j_iconst (v := 0) h dL_minute_11 (by decide) ?_
  refine j_istore h dL_minute_12 (by decide) ?_
  refine jj_loop (fun i : Nat => [(0, .ref (aJ 0)), (1, .ref (aJ 1)), (2, .ref (aJ 2)), (3, .ref (aJ 3)), (4, .ref (aJ 4)), (5, .int 0), (6, .int (nI i))]) (fun i : Nat => wJ cI aJ (mvJ (up2 ψ 18 0 (nI (tm + 1))) i) ++ []) (fun i : Nat => i ≤ q) (fun i : Nat => q - i) 0 ⟨rfl, rfl, rfl, rfl, rfl, rfl, rfl, trivial⟩ rfl (by omega) (fun i hi ihi => ?_)
  refine j_iload h dL_minute_14 rfl ?_
  refine j_aloadR h dL_minute_16 rfl ?_
  refine j_iconst (v := 2) h dL_minute_18 (by decide) ?_
  refine jm_ald2 h dL_minute_19 ?_
  refine j_top (show mvJ (up2 ψ 18 0 (nI (tm + 1))) i 13 0 = nI q by rw [mvJ_k _ _ (by decide)]; exact h13) ?_
  refine j_icmp_ge (tgt := 113) h dL_minute_20 (by decide) (fun c20 => ?_) (fun c20 => ?_)
  · -- t
    rw [nI_leI (by omega) (by omega)] at c20
    obtain rfl : q = i := by omega
    exact kk _ ⟨rfl, rfl, rfl, rfl, rfl, rfl, trivial⟩
  · -- f
    rw [nI_leI (by omega) (by omega)] at c20
    obtain ⟨r, hr5, er⟩ := hr i (by omega)
    have e12 : mvJ (up2 ψ 18 0 (nI (tm + 1))) i 12 i = nI r := by rw [mvJ_k _ _ (by decide)]; exact er
    refine j_iconst (v := 4) h dL_minute_23 (by decide) ?_
    refine j_aload_nR h dL_minute_24 rfl ?_
    refine j_iload h dL_minute_25 rfl ?_
    refine jr_ald i h dL_minute_27 rfl (by omega) ?_
    refine j_top e12 ?_
    refine j_imul h dL_minute_28 ?_
    refine j_istore h dL_minute_29 (by decide) ?_
    refine j_aload_nR h dL_minute_31 rfl ?_
    refine j_iload h dL_minute_32 rfl ?_
    refine jf_ald0 r h dL_minute_34 (ix4_0 _) (by omega) ?_
    refine j_istore h dL_minute_35 (by decide) ?_
    refine j_iload h dL_minute_37 rfl ?_
    refine j_if_le (tgt := 96) h dL_minute_39 (by decide) (fun c39 => ?_) (fun c39 => ?_)
    · -- t
      have hi0 : i = 0 := by
        rw [show (0 : Int32) = nI 0 from rfl, nI_leI (by omega) (by omega)] at c39; omega
      refine j_aload_nR h dL_minute_96 rfl ?_
      refine j_iload h dL_minute_97 rfl ?_
      refine j_iconst (v := 3) h dL_minute_99 (by decide) ?_
      refine j_iadd h dL_minute_100 ?_
      refine j_dup2 h dL_minute_101 rfl rfl ?_
      refine jf_ald3 r h dL_minute_102 (ix4_3 _) (by omega) ?_
      refine j_iload h dL_minute_103 rfl ?_
      refine j_iadd h dL_minute_105 ?_
      refine jf_ast3 r h dL_minute_106 (ix4_3 _) (by omega) ?_
      refine j_iinc h dL_minute_107 rfl rfl (by decide) ?_
      refine j_goto (tgt := 14) h dL_minute_110 (by decide) ?_
      have c73 : True := trivial
      have c84 : True := trivial
      have erp : True := trivial
      first
        | exact jj_ws (by rw [mvJ_0 (ψ := (up2 ψ 18 0 (nI (tm + 1)))) er (by omega) hi0] <;> rfl) (ihi (i + 1) (by omega) (by omega) _ ⟨rfl, rfl, rfl, rfl, rfl, rfl, by simp [lget, nI_succ], trivial⟩)
        | exact jj_ws (by rw [mvJ_1 (ψ := (up2 ψ 18 0 (nI (tm + 1)))) er (by omega) erp (by omega) hi0, if_pos (show rmJ _ _ _ < 0 from Int32.not_le.mp c73)] <;> rfl) (ihi (i + 1) (by omega) (by omega) _ ⟨rfl, rfl, rfl, rfl, rfl, rfl, by simp [lget, nI_succ], trivial⟩)
        | exact jj_ws (by rw [mvJ_1 (ψ := (up2 ψ 18 0 (nI (tm + 1)))) er (by omega) erp (by omega) hi0, if_neg (show ¬ rmJ _ _ _ < 0 from Int32.not_lt.mpr c73), if_pos (show rmJ _ _ _ < _ from Int32.not_le.mp c84)] <;> rfl) (ihi (i + 1) (by omega) (by omega) _ ⟨rfl, rfl, rfl, rfl, rfl, rfl, by simp [lget, nI_succ], trivial⟩)
        | exact jj_ws (by rw [mvJ_1 (ψ := (up2 ψ 18 0 (nI (tm + 1)))) er (by omega) erp (by omega) hi0, if_neg (show ¬ rmJ _ _ _ < 0 from Int32.not_lt.mpr c73), if_neg (show ¬ rmJ _ _ _ < _ from Int32.not_lt.mpr c84)] <;> rfl) (ihi (i + 1) (by omega) (by omega) _ ⟨rfl, rfl, rfl, rfl, rfl, rfl, by simp [lget, nI_succ], trivial⟩)
    · -- f
      have hi0 : ¬ i = 0 := fun z => c39 (by rw [z]; decide)
      obtain ⟨rp, hrp5, erp⟩ := hr (i - 1) (by omega)
      have e12p : mvJ (up2 ψ 18 0 (nI (tm + 1))) i 12 (i - 1) = nI rp := by rw [mvJ_k _ _ (by decide)]; exact erp
      refine j_aload_nR h dL_minute_42 rfl ?_
      refine j_iconst (v := 4) h dL_minute_43 (by decide) ?_
      refine j_aload_nR h dL_minute_44 rfl ?_
      refine j_iload h dL_minute_45 rfl ?_
      refine j_iconst (v := 1) h dL_minute_47 (by decide) ?_
      refine j_isub h dL_minute_48 ?_
      refine j_top (show nI i - 1 = nI (i - 1) from pk_sub (b := 1) (by omega)) ?_
      refine jr_ald ((i - 1)) h dL_minute_49 rfl (by omega) ?_
      refine j_top e12p ?_
      refine j_imul h dL_minute_50 ?_
      refine j_iconst (v := 3) h dL_minute_51 (by decide) ?_
      refine j_iadd h dL_minute_52 ?_
      refine jf_ald3 rp h dL_minute_53 (ix4_3 _) (by omega) ?_
      refine j_bipush (v := 9) h dL_minute_54 (by decide) ?_
      refine j_isub h dL_minute_56 ?_
      refine j_aloadR h dL_minute_57 rfl ?_
      refine j_iconst (v := 3) h dL_minute_59 (by decide) ?_
      refine jm_ald3 h dL_minute_60 ?_
      refine j_isub h dL_minute_61 ?_
      refine j_aload_nR h dL_minute_62 rfl ?_
      refine j_iload h dL_minute_63 rfl ?_
      refine j_iconst (v := 3) h dL_minute_65 (by decide) ?_
      refine j_iadd h dL_minute_66 ?_
      refine jf_ald3 r h dL_minute_67 (ix4_3 _) (by omega) ?_
      refine j_isub h dL_minute_68 ?_
      refine j_istore h dL_minute_69 (by decide) ?_
      refine j_iload h dL_minute_71 rfl ?_
      refine j_if_ge (tgt := 80) h dL_minute_73 (by decide) (fun c73 => ?_) (fun c73 => ?_)
      · -- t
        refine j_iload h dL_minute_80 rfl ?_
        refine j_iload h dL_minute_82 rfl ?_
        refine j_icmp_ge (tgt := 92) h dL_minute_84 (by decide) (fun c84 => ?_) (fun c84 => ?_)
        · -- t
          refine j_iload h dL_minute_92 rfl ?_
          refine j_istore h dL_minute_94 (by decide) ?_
          refine j_aload_nR h dL_minute_96 rfl ?_
          refine j_iload h dL_minute_97 rfl ?_
          refine j_iconst (v := 3) h dL_minute_99 (by decide) ?_
          refine j_iadd h dL_minute_100 ?_
          refine j_dup2 h dL_minute_101 rfl rfl ?_
          refine jf_ald3 r h dL_minute_102 (ix4_3 _) (by omega) ?_
          refine j_iload h dL_minute_103 rfl ?_
          refine j_iadd h dL_minute_105 ?_
          refine jf_ast3 r h dL_minute_106 (ix4_3 _) (by omega) ?_
          refine j_iinc h dL_minute_107 rfl rfl (by decide) ?_
          refine j_goto (tgt := 14) h dL_minute_110 (by decide) ?_
          first
            | exact jj_ws (by rw [mvJ_0 (ψ := (up2 ψ 18 0 (nI (tm + 1)))) er (by omega) hi0] <;> rfl) (ihi (i + 1) (by omega) (by omega) _ ⟨rfl, rfl, rfl, rfl, rfl, rfl, by simp [lget, nI_succ], trivial⟩)
            | exact jj_ws (by rw [mvJ_1 (ψ := (up2 ψ 18 0 (nI (tm + 1)))) er (by omega) erp (by omega) hi0, if_pos (show rmJ _ _ _ < 0 from Int32.not_le.mp c73)] <;> rfl) (ihi (i + 1) (by omega) (by omega) _ ⟨rfl, rfl, rfl, rfl, rfl, rfl, by simp [lget, nI_succ], trivial⟩)
            | exact jj_ws (by rw [mvJ_1 (ψ := (up2 ψ 18 0 (nI (tm + 1)))) er (by omega) erp (by omega) hi0, if_neg (show ¬ rmJ _ _ _ < 0 from Int32.not_lt.mpr c73), if_pos (show rmJ _ _ _ < _ from Int32.not_le.mp c84)] <;> rfl) (ihi (i + 1) (by omega) (by omega) _ ⟨rfl, rfl, rfl, rfl, rfl, rfl, by simp [lget, nI_succ], trivial⟩)
            | exact jj_ws (by rw [mvJ_1 (ψ := (up2 ψ 18 0 (nI (tm + 1)))) er (by omega) erp (by omega) hi0, if_neg (show ¬ rmJ _ _ _ < 0 from Int32.not_lt.mpr c73), if_neg (show ¬ rmJ _ _ _ < _ from Int32.not_lt.mpr c84)] <;> rfl) (ihi (i + 1) (by omega) (by omega) _ ⟨rfl, rfl, rfl, rfl, rfl, rfl, by simp [lget, nI_succ], trivial⟩)
        · -- f
          refine j_iload h dL_minute_87 rfl ?_
          refine j_goto (tgt := 94) h dL_minute_89 (by decide) ?_
          refine j_istore h dL_minute_94 (by decide) ?_
          refine j_aload_nR h dL_minute_96 rfl ?_
          refine j_iload h dL_minute_97 rfl ?_
          refine j_iconst (v := 3) h dL_minute_99 (by decide) ?_
          refine j_iadd h dL_minute_100 ?_
          refine j_dup2 h dL_minute_101 rfl rfl ?_
          refine jf_ald3 r h dL_minute_102 (ix4_3 _) (by omega) ?_
          refine j_iload h dL_minute_103 rfl ?_
          refine j_iadd h dL_minute_105 ?_
          refine jf_ast3 r h dL_minute_106 (ix4_3 _) (by omega) ?_
          refine j_iinc h dL_minute_107 rfl rfl (by decide) ?_
          refine j_goto (tgt := 14) h dL_minute_110 (by decide) ?_
          first
            | exact jj_ws (by rw [mvJ_0 (ψ := (up2 ψ 18 0 (nI (tm + 1)))) er (by omega) hi0] <;> rfl) (ihi (i + 1) (by omega) (by omega) _ ⟨rfl, rfl, rfl, rfl, rfl, rfl, by simp [lget, nI_succ], trivial⟩)
            | exact jj_ws (by rw [mvJ_1 (ψ := (up2 ψ 18 0 (nI (tm + 1)))) er (by omega) erp (by omega) hi0, if_pos (show rmJ _ _ _ < 0 from Int32.not_le.mp c73)] <;> rfl) (ihi (i + 1) (by omega) (by omega) _ ⟨rfl, rfl, rfl, rfl, rfl, rfl, by simp [lget, nI_succ], trivial⟩)
            | exact jj_ws (by rw [mvJ_1 (ψ := (up2 ψ 18 0 (nI (tm + 1)))) er (by omega) erp (by omega) hi0, if_neg (show ¬ rmJ _ _ _ < 0 from Int32.not_lt.mpr c73), if_pos (show rmJ _ _ _ < _ from Int32.not_le.mp c84)] <;> rfl) (ihi (i + 1) (by omega) (by omega) _ ⟨rfl, rfl, rfl, rfl, rfl, rfl, by simp [lget, nI_succ], trivial⟩)
            | exact jj_ws (by rw [mvJ_1 (ψ := (up2 ψ 18 0 (nI (tm + 1)))) er (by omega) erp (by omega) hi0, if_neg (show ¬ rmJ _ _ _ < 0 from Int32.not_lt.mpr c73), if_neg (show ¬ rmJ _ _ _ < _ from Int32.not_lt.mpr c84)] <;> rfl) (ihi (i + 1) (by omega) (by omega) _ ⟨rfl, rfl, rfl, rfl, rfl, rfl, by simp [lget, nI_succ], trivial⟩)
      · -- f
        refine j_iconst (v := 0) h dL_minute_76 (by decide) ?_
        refine j_goto (tgt := 94) h dL_minute_77 (by decide) ?_
        refine j_istore h dL_minute_94 (by decide) ?_
        refine j_aload_nR h dL_minute_96 rfl ?_
        refine j_iload h dL_minute_97 rfl ?_
        refine j_iconst (v := 3) h dL_minute_99 (by decide) ?_
        refine j_iadd h dL_minute_100 ?_
        refine j_dup2 h dL_minute_101 rfl rfl ?_
        refine jf_ald3 r h dL_minute_102 (ix4_3 _) (by omega) ?_
        refine j_iload h dL_minute_103 rfl ?_
        refine j_iadd h dL_minute_105 ?_
        refine jf_ast3 r h dL_minute_106 (ix4_3 _) (by omega) ?_
        refine j_iinc h dL_minute_107 rfl rfl (by decide) ?_
        refine j_goto (tgt := 14) h dL_minute_110 (by decide) ?_
        have c84 : True := trivial
        first
          | exact jj_ws (by rw [mvJ_0 (ψ := (up2 ψ 18 0 (nI (tm + 1)))) er (by omega) hi0] <;> rfl) (ihi (i + 1) (by omega) (by omega) _ ⟨rfl, rfl, rfl, rfl, rfl, rfl, by simp [lget, nI_succ], trivial⟩)
          | exact jj_ws (by rw [mvJ_1 (ψ := (up2 ψ 18 0 (nI (tm + 1)))) er (by omega) erp (by omega) hi0, if_pos (show rmJ _ _ _ < 0 from Int32.not_le.mp c73)] <;> rfl) (ihi (i + 1) (by omega) (by omega) _ ⟨rfl, rfl, rfl, rfl, rfl, rfl, by simp [lget, nI_succ], trivial⟩)
          | exact jj_ws (by rw [mvJ_1 (ψ := (up2 ψ 18 0 (nI (tm + 1)))) er (by omega) erp (by omega) hi0, if_neg (show ¬ rmJ _ _ _ < 0 from Int32.not_lt.mpr c73), if_pos (show rmJ _ _ _ < _ from Int32.not_le.mp c84)] <;> rfl) (ihi (i + 1) (by omega) (by omega) _ ⟨rfl, rfl, rfl, rfl, rfl, rfl, by simp [lget, nI_succ], trivial⟩)
          | exact jj_ws (by rw [mvJ_1 (ψ := (up2 ψ 18 0 (nI (tm + 1)))) er (by omega) erp (by omega) hi0, if_neg (show ¬ rmJ _ _ _ < 0 from Int32.not_lt.mpr c73), if_neg (show ¬ rmJ _ _ _ < _ from Int32.not_lt.mpr c84)] <;> rfl) (ihi (i + 1) (by omega) (by omega) _ ⟨rfl, rfl, rfl, rfl, rfl, rfl, by simp [lget, nI_succ], trivial⟩)
set_option maxHeartbeats 4000000 in
set_option maxRecDepth 100000 in
theorem mi_go {p : Program} {l : Launch} {e : Env} {s : State} {m : MethodId} {args : Array Value} {below : List Frame} {meth : Method} {c : Code} {Q : State → Prop} {D : va_G} {cI cL cR : ClassId} {A : Nat → Prop} {k w : Nat} {aJ : Nat → Nat} {ψ : St} {G0 : St} {n q : Nat} (h : jc p s m args c D vwCl (tyW cI cL cR) A 10 cL_minute RL wsL_minute) (hn : n ≤ 8) (hG : GI n q G0) (kk : ∀ lv1 : List (Nat × Value), lsub [(0, .ref (aJ 0)), (1, .ref (aJ 1)), (2, .ref (aJ 2)), (3, .ref (aJ 3)), (4, .ref (aJ 4)), (5, .int (ltS ψ n - ltS (goJ n q G0) n))] lv1 → jj p l e (headSpec wsL_minute { frames := 3, cells := 0, slots := 0, locals := 75 }).room s m args below meth c Q D vwCl (tyW cI cL cR) A 10 (wJ cI aJ (goJ n q G0) ++ []) k w 284 lv1 []) : jj p l e (headSpec wsL_minute { frames := 3, cells := 0, slots := 0, locals := 75 }).room s m args below meth c Q D vwCl (tyW cI cL cR) A 10 (wJ cI aJ G0 ++ []) k w 113 [(0, .ref (aJ 0)), (1, .ref (aJ 1)), (2, .ref (aJ 2)), (3, .ref (aJ 3)), (4, .ref (aJ 4)), (5, .int (ltS ψ n - ltS G0 n))] [] := by
  refine jj_loop (fun y : Nat × St => [(0, .ref (aJ 0)), (1, .ref (aJ 1)), (2, .ref (aJ 2)), (3, .ref (aJ 3)), (4, .ref (aJ 4)), (5, .int (ltS ψ n - ltS y.2 n))]) (fun y : Nat × St => wJ cI aJ y.2 ++ []) (fun y : Nat × St => GI n y.1 y.2 ∧ goJ n y.1 y.2 = goJ n q G0) (fun y : Nat × St => y.1) (q, G0) ⟨rfl, rfl, rfl, rfl, rfl, rfl, trivial⟩ rfl ⟨hG, rfl⟩ (fun y hy ihy => ?_)
  obtain ⟨q1, g⟩ := y
  obtain ⟨hI, hgo⟩ := hy
  obtain ⟨h7, h13, hq5, hr⟩ := id hI
  dsimp only at h7 h13 hr hgo hI ihy hq5 ⊢
  refine j_aloadR h dL_minute_113 rfl ?_
  refine j_iconst (v := 2) h dL_minute_115 (by decide) ?_
  refine jm_ald2 h dL_minute_116 ?_
  refine j_top h13 ?_
  refine j_if_le (tgt := 284) h dL_minute_117 (by decide) (fun c117 => ?_) (fun c117 => ?_)
  · -- t
    have hq0 : q1 = 0 := by
      rw [show (0 : Int32) = nI 0 from rfl, nI_leI (by omega) (by omega)] at c117; omega
    have hgo2 : goJ n q G0 = g := by rw [← hgo, hq0]; rfl
    rw [hgo2] at kk
    exact kk _ ⟨rfl, rfl, rfl, rfl, rfl, rfl, trivial⟩
  · -- f
    have hq0 : 0 < q1 := by
      rcases Nat.eq_zero_or_pos q1 with z | z
      · exact absurd (by rw [z]; decide) c117
      · exact z
    obtain ⟨r0, hr0, er⟩ := hr 0 hq0
    refine j_aload_nR h dL_minute_120 rfl ?_
    refine j_iconst (v := 4) h dL_minute_121 (by decide) ?_
    refine j_aload_nR h dL_minute_122 rfl ?_
    refine j_iconst (v := 0) h dL_minute_123 (by decide) ?_
    refine jr_ald 0 h dL_minute_124 rfl (by omega) ?_
    refine j_top er ?_
    refine j_imul h dL_minute_125 ?_
    refine j_iconst (v := 3) h dL_minute_126 (by decide) ?_
    refine j_iadd h dL_minute_127 ?_
    refine jf_ald3 r0 h dL_minute_128 (ix4_3 _) (by omega) ?_
    refine j_sipush (v := 500) h dL_minute_129 (by decide) ?_
    refine j_icmp_lt (tgt := 284) h dL_minute_132 (by decide) (fun c132 => ?_) (fun c132 => ?_)
    · -- t
      have hgo2 : goJ n q G0 = g := by rw [← hgo]; exact goJ_stop er (by omega) c132
      rw [hgo2] at kk
      exact kk _ ⟨rfl, rfl, rfl, rfl, rfl, rfl, trivial⟩
    · -- f
      refine j_aload_nR h dL_minute_135 rfl ?_
      refine j_iconst (v := 0) h dL_minute_136 (by decide) ?_
      refine jr_ald 0 h dL_minute_137 rfl (by omega) ?_
      refine j_top er ?_
      refine j_istore h dL_minute_138 (by decide) ?_
      refine j_aload_nR h dL_minute_140 rfl ?_
      refine j_iconst (v := 4) h dL_minute_141 (by decide) ?_
      refine j_iload h dL_minute_142 rfl ?_
      refine j_imul h dL_minute_144 ?_
      refine j_iconst (v := 2) h dL_minute_145 (by decide) ?_
      refine j_iadd h dL_minute_146 ?_
      refine j_iconst (v := 2) h dL_minute_147 (by decide) ?_
      refine jf_ast2 r0 h dL_minute_148 (ix4_2 _) (by omega) ?_
      refine j_iconst (v := 0) h dL_minute_149 (by decide) ?_
      refine j_istore h dL_minute_150 (by decide) ?_
      refine jj_loop (fun i : Nat => [(0, .ref (aJ 0)), (1, .ref (aJ 1)), (2, .ref (aJ 2)), (3, .ref (aJ 3)), (4, .ref (aJ 4)), (5, .int (ltS ψ n - ltS g n)), (6, .int (nI r0)), (7, .int (nI i))]) (fun i : Nat => wJ cI aJ (shF (up2 g 10 r0 2) i) ++ []) (fun i : Nat => i ≤ q1 - 1) (fun i : Nat => q1 - i) 0 ⟨rfl, rfl, rfl, rfl, rfl, rfl, rfl, rfl, trivial⟩ rfl (by omega) (fun i hi ihi => ?_)
      refine j_iload h dL_minute_152 rfl ?_
      refine j_iconst (v := 1) h dL_minute_154 (by decide) ?_
      refine j_iadd h dL_minute_155 ?_
      refine j_aloadR h dL_minute_156 rfl ?_
      refine j_iconst (v := 2) h dL_minute_158 (by decide) ?_
      refine jm_ald2 h dL_minute_159 ?_
      refine j_top (show shF (up2 g 10 r0 2) i 13 0 = nI q1 by rw [shF_k _ _ (by decide)]; exact h13) ?_
      refine j_icmp_ge (tgt := 179) h dL_minute_160 (by decide) (fun c160 => ?_) (fun c160 => ?_)
      · -- t
        rw [nI_1, nI_leI (by omega) (by omega)] at c160
        obtain rfl : i = q1 - 1 := by omega
        refine j_aloadR h dL_minute_179 rfl ?_
        refine j_iconst (v := 2) h dL_minute_181 (by decide) ?_
        refine j_dup2 h dL_minute_182 rfl rfl ?_
        refine jm_ald2 h dL_minute_183 ?_
        refine j_iconst (v := 1) h dL_minute_184 (by decide) ?_
        refine j_isub h dL_minute_185 ?_
        refine jm_ast2 h dL_minute_186 ?_
        refine jj_ws (ws1 := wJ cI aJ (g2J g q1 r0) ++ []) rfl ?_
        refine j_iconst (v := 0) h dL_minute_187 (by decide) ?_
        refine j_istore h dL_minute_188 (by decide) ?_
        refine jj_loop (fun k8 : Nat => [(0, .ref (aJ 0)), (1, .ref (aJ 1)), (2, .ref (aJ 2)), (3, .ref (aJ 3)), (4, .ref (aJ 4)), (5, .int (ltS ψ n - ltS (gkF (g2J g q1 r0) (nI r0) k8) n)), (6, .int (nI r0)), (7, .int (nI k8))]) (fun k8 : Nat => wJ cI aJ (gkF (g2J g q1 r0) (nI r0) k8) ++ []) (fun k8 : Nat => k8 ≤ n) (fun k8 : Nat => n - k8) 0 ⟨rfl, rfl, rfl, rfl, rfl, by rw [show ltS g n = ltS (gkF (g2J g q1 r0) (nI r0) 0) n from ltS_eq n (by show g 3 = g2J g q1 r0 3; rw [g2J, up2_fld _ _ _ (by decide), shF_k _ _ (by decide), up2_fld _ _ _ (by decide)])]; rfl, rfl, rfl, trivial⟩ rfl (by omega) (fun k8 hk8 ihk => ?_)
        refine j_iload h dL_minute_190 rfl ?_
        refine j_aloadR h dL_minute_192 rfl ?_
        refine j_iconst (v := 0) h dL_minute_194 (by decide) ?_
        refine jm_ald0 h dL_minute_195 ?_
        refine j_top (show gkF (g2J g q1 r0) (nI r0) k8 7 0 = nI n by rw [gkF_k _ _ _ (by decide), g2J, up2_fld _ _ _ (by decide), shF_k _ _ (by decide), up2_fld _ _ _ (by decide)]; exact h7) ?_
        refine j_icmp_ge (tgt := 281) h dL_minute_196 (by decide) (fun c196 => ?_) (fun c196 => ?_)
        · -- t
          rw [nI_leI (by omega) (by omega)] at c196
          refine j_goto (tgt := 113) h dL_minute_281 (by decide) ?_
          have hk8 : k8 = n := by omega
          subst hk8
          exact ihy (q1 - 1, gkF (g2J g q1 r0) (nI r0) k8) ⟨hI.step (by omega), by rw [← hgo, goJ_go er (by omega) c132 (by omega)]⟩ (by show q1 - 1 < q1; omega) _ ⟨rfl, rfl, rfl, rfl, rfl, rfl, trivial⟩
        · -- f
          rw [nI_leI (by omega) (by omega)] at c196
          refine jj_cut 231 [(0, .ref (aJ 0)), (1, .ref (aJ 1)), (2, .ref (aJ 2)), (3, .ref (aJ 3)), (4, .ref (aJ 4)), (5, .int (ltS ψ n - ltS (gkF (g2J g q1 r0) (nI r0) k8) n)), (6, .int (nI r0)), (7, .int (nI k8))] [] (fun v => v = bi (decide (gkF (g2J g q1 r0) (nI r0) k8 5 k8 = nI r0 ∧ gkF (g2J g q1 r0) (nI r0) k8 3 k8 = 1))) (fun v231 hv231 => ?_) (fun cut231 => ?_)
          · -- behind
            obtain rfl := hv231
            rcases Bool.eq_false_or_eq_true (decide (gkF (g2J g q1 r0) (nI r0) k8 5 k8 = nI r0 ∧ gkF (g2J g q1 r0) (nI r0) k8 3 k8 = 1)) with hb231 | hb231
            · -- t
              refine j_top (y := 1) (by rw [hb231]; rfl) ?_
              refine j_istore h dL_minute_231 (by decide) ?_
              refine j_iload h dL_minute_233 rfl ?_
              refine j_iload h dL_minute_235 rfl ?_
              refine j_if_eq (tgt := 244) h dL_minute_237 (by decide) (fun c237 => absurd c237 (by decide)) (fun c237 => ?_)
              refine j_iconst (v := 1) h dL_minute_240 (by decide) ?_
              refine j_goto (tgt := 245) h dL_minute_241 (by decide) ?_
              refine j_iadd h dL_minute_245 ?_
              refine j_istore h dL_minute_246 (by decide) ?_
              refine j_aload_nR h dL_minute_248 rfl ?_
              refine j_bipush (v := 8) h dL_minute_249 (by decide) ?_
              refine j_iload h dL_minute_251 rfl ?_
              refine j_imul h dL_minute_253 ?_
              refine j_iconst (v := 3) h dL_minute_254 (by decide) ?_
              refine j_iadd h dL_minute_255 ?_
              refine j_iload h dL_minute_256 rfl ?_
              refine j_if_eq (tgt := 265) h dL_minute_258 (by decide) (fun c258 => absurd c258 (by decide)) (fun c258 => ?_)
              refine j_iconst (v := 0) h dL_minute_261 (by decide) ?_
              refine j_goto (tgt := 274) h dL_minute_262 (by decide) ?_
              refine jl_ast k8 3 h dL_minute_274 (ix8_3 _) (by decide) (by omega) ?_
              refine j_iinc h dL_minute_275 rfl rfl (by decide) ?_
              refine j_goto (tgt := 190) h dL_minute_278 (by decide) ?_
              first
                | exact jj_ws (by rw [gkF, if_pos (of_decide_eq_true hb231)]) (ihk (k8 + 1) (by omega) (by omega) _ ⟨rfl, rfl, rfl, rfl, rfl, by rw [gkF, if_pos (of_decide_eq_true hb231), ← ct_up (by omega) (of_decide_eq_true hb231).2 (by decide)] <;> rfl, rfl, by simp [lget, nI_succ], trivial⟩)
                | exact jj_ws (by rw [gkF, if_neg (of_decide_eq_false hb231), up2_id]) (ihk (k8 + 1) (by omega) (by omega) _ ⟨rfl, rfl, rfl, rfl, rfl, by show some (Value.int _) = _; rw [gkF, if_neg (of_decide_eq_false hb231), Int32.add_zero] <;> rfl, rfl, by simp [lget, nI_succ], trivial⟩)
            · -- f
              refine j_top (y := 0) (by rw [hb231]; rfl) ?_
              refine j_istore h dL_minute_231 (by decide) ?_
              refine j_iload h dL_minute_233 rfl ?_
              refine j_iload h dL_minute_235 rfl ?_
              refine j_if_eq (tgt := 244) h dL_minute_237 (by decide) (fun c237 => ?_) (fun c237 => absurd c237 (by decide))
              refine j_iconst (v := 0) h dL_minute_244 (by decide) ?_
              refine j_iadd h dL_minute_245 ?_
              refine j_istore h dL_minute_246 (by decide) ?_
              refine j_aload_nR h dL_minute_248 rfl ?_
              refine j_bipush (v := 8) h dL_minute_249 (by decide) ?_
              refine j_iload h dL_minute_251 rfl ?_
              refine j_imul h dL_minute_253 ?_
              refine j_iconst (v := 3) h dL_minute_254 (by decide) ?_
              refine j_iadd h dL_minute_255 ?_
              refine j_iload h dL_minute_256 rfl ?_
              refine j_if_eq (tgt := 265) h dL_minute_258 (by decide) (fun c258 => ?_) (fun c258 => absurd c258 (by decide))
              refine j_aload_nR h dL_minute_265 rfl ?_
              refine j_bipush (v := 8) h dL_minute_266 (by decide) ?_
              refine j_iload h dL_minute_268 rfl ?_
              refine j_imul h dL_minute_270 ?_
              refine j_iconst (v := 3) h dL_minute_271 (by decide) ?_
              refine j_iadd h dL_minute_272 ?_
              refine jl_ald k8 3 h dL_minute_273 (ix8_3 _) (by decide) (by omega) ?_
              refine jl_ast k8 3 h dL_minute_274 (ix8_3 _) (by decide) (by omega) ?_
              refine j_iinc h dL_minute_275 rfl rfl (by decide) ?_
              refine j_goto (tgt := 190) h dL_minute_278 (by decide) ?_
              first
                | exact jj_ws (by rw [gkF, if_pos (of_decide_eq_true hb231)]) (ihk (k8 + 1) (by omega) (by omega) _ ⟨rfl, rfl, rfl, rfl, rfl, by rw [gkF, if_pos (of_decide_eq_true hb231), ← ct_up (by omega) (of_decide_eq_true hb231).2 (by decide)] <;> rfl, rfl, by simp [lget, nI_succ], trivial⟩)
                | exact jj_ws (by rw [gkF, if_neg (of_decide_eq_false hb231), up2_id]) (ihk (k8 + 1) (by omega) (by omega) _ ⟨rfl, rfl, rfl, rfl, rfl, by show some (Value.int _) = _; rw [gkF, if_neg (of_decide_eq_false hb231), Int32.add_zero] <;> rfl, rfl, by simp [lget, nI_succ], trivial⟩)
          · -- ahead
            refine j_aload_nR h dL_minute_199 rfl ?_
            refine j_bipush (v := 8) h dL_minute_200 (by decide) ?_
            refine j_iload h dL_minute_202 rfl ?_
            refine j_imul h dL_minute_204 ?_
            refine j_iconst (v := 5) h dL_minute_205 (by decide) ?_
            refine j_iadd h dL_minute_206 ?_
            refine jl_ald k8 5 h dL_minute_207 (ix8_5 _) (by decide) (by omega) ?_
            refine j_iload h dL_minute_208 rfl ?_
            refine j_icmp_ne (tgt := 230) h dL_minute_210 (by decide) (fun c210 => ?_) (fun c210 => ?_)
            · -- t
              refine j_iconst (v := 0) h dL_minute_230 (by decide) ?_
              exact cut231 _ (by simp [bi, *]) _ ⟨rfl, rfl, rfl, rfl, rfl, rfl, rfl, rfl, trivial⟩
            · -- f
              refine j_aload_nR h dL_minute_213 rfl ?_
              refine j_bipush (v := 8) h dL_minute_214 (by decide) ?_
              refine j_iload h dL_minute_216 rfl ?_
              refine j_imul h dL_minute_218 ?_
              refine j_iconst (v := 3) h dL_minute_219 (by decide) ?_
              refine j_iadd h dL_minute_220 ?_
              refine jl_ald k8 3 h dL_minute_221 (ix8_3 _) (by decide) (by omega) ?_
              refine j_iconst (v := 1) h dL_minute_222 (by decide) ?_
              refine j_icmp_ne (tgt := 230) h dL_minute_223 (by decide) (fun c223 => ?_) (fun c223 => ?_)
              · -- t
                refine j_iconst (v := 0) h dL_minute_230 (by decide) ?_
                exact cut231 _ (by simp [bi, *]) _ ⟨rfl, rfl, rfl, rfl, rfl, rfl, rfl, rfl, trivial⟩
              · -- f
                refine j_iconst (v := 1) h dL_minute_226 (by decide) ?_
                refine j_goto (tgt := 231) h dL_minute_227 (by decide) ?_
                exact cut231 _ (by simp [bi, *]) _ ⟨rfl, rfl, rfl, rfl, rfl, rfl, rfl, rfl, trivial⟩
      · -- f
        rw [nI_1, nI_leI (by omega) (by omega)] at c160
        refine j_aload_nR h dL_minute_163 rfl ?_
        refine j_iload h dL_minute_164 rfl ?_
        refine j_aload_nR h dL_minute_166 rfl ?_
        refine j_iload h dL_minute_167 rfl ?_
        refine j_iconst (v := 1) h dL_minute_169 (by decide) ?_
        refine j_iadd h dL_minute_170 ?_
        refine jr_ald ((i + 1)) h dL_minute_171 (nI_add _ _) (by omega) ?_
        refine jr_ast i h dL_minute_172 rfl (by omega) ?_
        refine j_iinc h dL_minute_173 rfl rfl (by decide) ?_
        refine j_goto (tgt := 152) h dL_minute_176 (by decide) ?_
        exact ihi (i + 1) (by omega) (by omega) _ ⟨rfl, rfl, rfl, rfl, rfl, rfl, rfl, by simp [lget, nI_succ], trivial⟩
set_option maxHeartbeats 4000000 in
set_option maxRecDepth 100000 in
theorem mi_bl {p : Program} {l : Launch} {e : Env} {s : State} {m : MethodId} {args : Array Value} {below : List Frame} {meth : Method} {c : Code} {Q : State → Prop} {D : va_G} {cI cL cR : ClassId} {A : Nat → Prop} {k w : Nat} {aJ : Nat → Nat} {ψ : St} {G : St} {n t : Nat} (h : jc p s m args c D vwCl (tyW cI cL cR) A 10 cL_minute RL wsL_minute) (hn : n ≤ 8) (h7 : G 7 0 = nI n) (h18 : G 18 0 = nI t) (ht : t < 2 ^ 30) (kk : ∀ lv1 : List (Nat × Value), lsub [(0, .ref (aJ 0)), (1, .ref (aJ 1)), (2, .ref (aJ 2)), (3, .ref (aJ 3)), (4, .ref (aJ 4)), (5, .int (ltS ψ n - ltS (blF G (guJ G t) n) n))] lv1 → jj p l e (headSpec wsL_minute { frames := 3, cells := 0, slots := 0, locals := 75 }).room s m args below meth c Q D vwCl (tyW cI cL cR) A 10 (wJ cI aJ (blF G (guJ G t) n) ++ []) k w 427 lv1 []) : jj p l e (headSpec wsL_minute { frames := 3, cells := 0, slots := 0, locals := 75 }).room s m args below meth c Q D vwCl (tyW cI cL cR) A 10 (wJ cI aJ G ++ []) k w 284 [(0, .ref (aJ 0)), (1, .ref (aJ 1)), (2, .ref (aJ 2)), (3, .ref (aJ 3)), (4, .ref (aJ 4)), (5, .int (ltS ψ n - ltS G n))] [] := by
  refine jj_cut 303 [(0, .ref (aJ 0)), (1, .ref (aJ 1)), (2, .ref (aJ 2)), (3, .ref (aJ 3)), (4, .ref (aJ 4)), (5, .int (ltS ψ n - ltS G n))] [] (fun v => v = guJ G t) (fun v303 hv303 => ?_) (fun cut303 => ?_)
  · -- behind
    obtain rfl := hv303
    refine j_istore h dL_minute_303 (by decide) ?_
    refine j_iconst (v := 0) h dL_minute_305 (by decide) ?_
    refine j_istore h dL_minute_306 (by decide) ?_
    refine jj_loop (fun i : Nat => [(0, .ref (aJ 0)), (1, .ref (aJ 1)), (2, .ref (aJ 2)), (3, .ref (aJ 3)), (4, .ref (aJ 4)), (5, .int (ltS ψ n - ltS (blF G (guJ G t) i) n)), (6, .int (guJ G t)), (7, .int (nI i))]) (fun i : Nat => wJ cI aJ (blF G (guJ G t) i) ++ []) (fun i : Nat => i ≤ n) (fun i : Nat => n - i) 0 ⟨rfl, rfl, rfl, rfl, rfl, rfl, rfl, rfl, trivial⟩ rfl (by omega) (fun i hi ihi => ?_)
    refine j_iload h dL_minute_308 rfl ?_
    refine j_aloadR h dL_minute_310 rfl ?_
    refine j_iconst (v := 0) h dL_minute_312 (by decide) ?_
    refine jm_ald0 h dL_minute_313 ?_
    refine j_top (show (blF G (guJ G t) i) 7 0 = nI n by rw [kp_bl (by decide) (by decide)]; exact h7) ?_
    refine j_icmp_ge (tgt := 427) h dL_minute_314 (by decide) (fun c314 => ?_) (fun c314 => ?_)
    · -- t
      rw [nI_leI (by omega) (by omega)] at c314
      obtain rfl : n = i := by omega
      exact kk _ ⟨rfl, rfl, rfl, rfl, rfl, rfl, trivial⟩
    · -- f
      rw [nI_leI (by omega) (by omega)] at c314
      refine jj_cut 359 [(0, .ref (aJ 0)), (1, .ref (aJ 1)), (2, .ref (aJ 2)), (3, .ref (aJ 3)), (4, .ref (aJ 4)), (5, .int (ltS ψ n - ltS (blF G (guJ G t) i) n)), (6, .int (guJ G t)), (7, .int (nI i))] [] (fun v => v = bi (decide ((blF G (guJ G t) i) 3 i = 1 ∧ (blF G (guJ G t) i) 1 i + (blF G (guJ G t) i) 0 i / 3 < guJ G t))) (fun v359 hv359 => ?_) (fun cut359 => ?_)
      · -- behind
        obtain rfl := hv359
        rcases Bool.eq_false_or_eq_true (decide ((blF G (guJ G t) i) 3 i = 1 ∧ (blF G (guJ G t) i) 1 i + (blF G (guJ G t) i) 0 i / 3 < guJ G t)) with hb359 | hb359
        · -- t
          refine j_top (y := 1) (by rw [hb359]; rfl) ?_
          refine j_istore h dL_minute_359 (by decide) ?_
          refine j_aload_nR h dL_minute_361 rfl ?_
          refine j_bipush (v := 8) h dL_minute_362 (by decide) ?_
          refine j_iload h dL_minute_364 rfl ?_
          refine j_imul h dL_minute_366 ?_
          refine j_iconst (v := 3) h dL_minute_367 (by decide) ?_
          refine j_iadd h dL_minute_368 ?_
          refine j_iload h dL_minute_369 rfl ?_
          refine j_if_eq (tgt := 378) h dL_minute_371 (by decide) (fun c371 => absurd c371 (by decide)) (fun c371 => ?_)
          refine j_iconst (v := 0) h dL_minute_374 (by decide) ?_
          refine j_goto (tgt := 387) h dL_minute_375 (by decide) ?_
          refine jl_ast i 3 h dL_minute_387 (ix8_3 _) (by decide) (by omega) ?_
          refine j_aloadR h dL_minute_388 rfl ?_
          refine j_bipush (v := 6) h dL_minute_390 (by decide) ?_
          refine j_dup2 h dL_minute_392 rfl rfl ?_
          refine jm_ald6 h dL_minute_393 ?_
          refine j_iload h dL_minute_394 rfl ?_
          refine j_if_eq (tgt := 403) h dL_minute_396 (by decide) (fun c396 => absurd c396 (by decide)) (fun c396 => ?_)
          refine j_iconst (v := 1) h dL_minute_399 (by decide) ?_
          refine j_goto (tgt := 404) h dL_minute_400 (by decide) ?_
          refine j_iadd h dL_minute_404 ?_
          refine jm_ast6 h dL_minute_405 ?_
          refine j_iload h dL_minute_406 rfl ?_
          refine j_iload h dL_minute_408 rfl ?_
          refine j_if_eq (tgt := 417) h dL_minute_410 (by decide) (fun c410 => absurd c410 (by decide)) (fun c410 => ?_)
          refine j_iconst (v := 1) h dL_minute_413 (by decide) ?_
          refine j_goto (tgt := 418) h dL_minute_414 (by decide) ?_
          refine j_iadd h dL_minute_418 ?_
          refine j_istore h dL_minute_419 (by decide) ?_
          refine j_iinc h dL_minute_421 rfl rfl (by decide) ?_
          refine j_goto (tgt := 308) h dL_minute_424 (by decide) ?_
          first
            | exact jj_ws (by rw [blF, if_pos (of_decide_eq_true hb359)] <;> rfl) (ihi (i + 1) (by omega) (by omega) _ ⟨rfl, rfl, rfl, rfl, rfl, by rw [blF, if_pos (of_decide_eq_true hb359), ltS_eq n (show up2 (up2 _ 3 i 0) 19 0 _ 3 = up2 _ 3 i 0 3 from rfl), ← ct_up (by omega) (of_decide_eq_true hb359).1 (by decide)] <;> rfl, rfl, by simp [lget, nI_succ], trivial⟩)
            | exact jj_ws (by rw [blF, if_neg (of_decide_eq_false hb359), up2_id, Int32.add_zero, up2_id]) (ihi (i + 1) (by omega) (by omega) _ ⟨rfl, rfl, rfl, rfl, rfl, by show some (Value.int _) = _; rw [blF, if_neg (of_decide_eq_false hb359), Int32.add_zero] <;> rfl, rfl, by simp [lget, nI_succ], trivial⟩)
        · -- f
          refine j_top (y := 0) (by rw [hb359]; rfl) ?_
          refine j_istore h dL_minute_359 (by decide) ?_
          refine j_aload_nR h dL_minute_361 rfl ?_
          refine j_bipush (v := 8) h dL_minute_362 (by decide) ?_
          refine j_iload h dL_minute_364 rfl ?_
          refine j_imul h dL_minute_366 ?_
          refine j_iconst (v := 3) h dL_minute_367 (by decide) ?_
          refine j_iadd h dL_minute_368 ?_
          refine j_iload h dL_minute_369 rfl ?_
          refine j_if_eq (tgt := 378) h dL_minute_371 (by decide) (fun c371 => ?_) (fun c371 => absurd c371 (by decide))
          refine j_aload_nR h dL_minute_378 rfl ?_
          refine j_bipush (v := 8) h dL_minute_379 (by decide) ?_
          refine j_iload h dL_minute_381 rfl ?_
          refine j_imul h dL_minute_383 ?_
          refine j_iconst (v := 3) h dL_minute_384 (by decide) ?_
          refine j_iadd h dL_minute_385 ?_
          refine jl_ald i 3 h dL_minute_386 (ix8_3 _) (by decide) (by omega) ?_
          refine jl_ast i 3 h dL_minute_387 (ix8_3 _) (by decide) (by omega) ?_
          refine j_aloadR h dL_minute_388 rfl ?_
          refine j_bipush (v := 6) h dL_minute_390 (by decide) ?_
          refine j_dup2 h dL_minute_392 rfl rfl ?_
          refine jm_ald6 h dL_minute_393 ?_
          refine j_iload h dL_minute_394 rfl ?_
          refine j_if_eq (tgt := 403) h dL_minute_396 (by decide) (fun c396 => ?_) (fun c396 => absurd c396 (by decide))
          refine j_iconst (v := 0) h dL_minute_403 (by decide) ?_
          refine j_iadd h dL_minute_404 ?_
          refine jm_ast6 h dL_minute_405 ?_
          refine j_iload h dL_minute_406 rfl ?_
          refine j_iload h dL_minute_408 rfl ?_
          refine j_if_eq (tgt := 417) h dL_minute_410 (by decide) (fun c410 => ?_) (fun c410 => absurd c410 (by decide))
          refine j_iconst (v := 0) h dL_minute_417 (by decide) ?_
          refine j_iadd h dL_minute_418 ?_
          refine j_istore h dL_minute_419 (by decide) ?_
          refine j_iinc h dL_minute_421 rfl rfl (by decide) ?_
          refine j_goto (tgt := 308) h dL_minute_424 (by decide) ?_
          first
            | exact jj_ws (by rw [blF, if_pos (of_decide_eq_true hb359)] <;> rfl) (ihi (i + 1) (by omega) (by omega) _ ⟨rfl, rfl, rfl, rfl, rfl, by rw [blF, if_pos (of_decide_eq_true hb359), ltS_eq n (show up2 (up2 _ 3 i 0) 19 0 _ 3 = up2 _ 3 i 0 3 from rfl), ← ct_up (by omega) (of_decide_eq_true hb359).1 (by decide)] <;> rfl, rfl, by simp [lget, nI_succ], trivial⟩)
            | exact jj_ws (by rw [blF, if_neg (of_decide_eq_false hb359), up2_id, Int32.add_zero, up2_id]) (ihi (i + 1) (by omega) (by omega) _ ⟨rfl, rfl, rfl, rfl, rfl, by show some (Value.int _) = _; rw [blF, if_neg (of_decide_eq_false hb359), Int32.add_zero] <;> rfl, rfl, by simp [lget, nI_succ], trivial⟩)
      · -- ahead
        refine j_aload_nR h dL_minute_317 rfl ?_
        refine j_bipush (v := 8) h dL_minute_318 (by decide) ?_
        refine j_iload h dL_minute_320 rfl ?_
        refine j_imul h dL_minute_322 ?_
        refine j_iconst (v := 3) h dL_minute_323 (by decide) ?_
        refine j_iadd h dL_minute_324 ?_
        refine jl_ald i 3 h dL_minute_325 (ix8_3 _) (by decide) (by omega) ?_
        refine j_iconst (v := 1) h dL_minute_326 (by decide) ?_
        refine j_icmp_ne (tgt := 358) h dL_minute_327 (by decide) (fun c327 => ?_) (fun c327 => ?_)
        · -- t
          refine j_iconst (v := 0) h dL_minute_358 (by decide) ?_
          exact cut359 _ (by first | (simp [bi, *]; done) | (simp [bi, *, ← Int32.not_le]; done)) _ ⟨rfl, rfl, rfl, rfl, rfl, rfl, rfl, rfl, trivial⟩
        · -- f
          refine j_aload_nR h dL_minute_330 rfl ?_
          refine j_bipush (v := 8) h dL_minute_331 (by decide) ?_
          refine j_iload h dL_minute_333 rfl ?_
          refine j_imul h dL_minute_335 ?_
          refine j_iconst (v := 1) h dL_minute_336 (by decide) ?_
          refine j_iadd h dL_minute_337 ?_
          refine jl_ald i 1 h dL_minute_338 (ix8_1 _) (by decide) (by omega) ?_
          refine j_aload_nR h dL_minute_339 rfl ?_
          refine j_bipush (v := 8) h dL_minute_340 (by decide) ?_
          refine j_iload h dL_minute_342 rfl ?_
          refine j_imul h dL_minute_344 ?_
          refine jl_ald i 0 h dL_minute_345 (ix8_0 _) (by decide) (by omega) ?_
          refine j_iconst (v := 3) h dL_minute_346 (by decide) ?_
          refine j_idiv h dL_minute_347 (by decide) ?_
          refine j_iadd h dL_minute_348 ?_
          refine j_iload h dL_minute_349 rfl ?_
          refine j_icmp_ge (tgt := 358) h dL_minute_351 (by decide) (fun c351 => ?_) (fun c351 => ?_)
          · -- t
            refine j_iconst (v := 0) h dL_minute_358 (by decide) ?_
            exact cut359 _ (by first | (simp [bi, *]; done) | (simp [bi, *, ← Int32.not_le]; done)) _ ⟨rfl, rfl, rfl, rfl, rfl, rfl, rfl, rfl, trivial⟩
          · -- f
            refine j_iconst (v := 1) h dL_minute_354 (by decide) ?_
            refine j_goto (tgt := 359) h dL_minute_355 (by decide) ?_
            exact cut359 _ (by first | (simp [bi, *]; done) | (simp [bi, *, ← Int32.not_le]; done)) _ ⟨rfl, rfl, rfl, rfl, rfl, rfl, rfl, rfl, trivial⟩
  · -- ahead
    refine j_aloadR h dL_minute_284 rfl ?_
    refine j_iconst (v := 5) h dL_minute_286 (by decide) ?_
    refine jm_ald5 h dL_minute_287 ?_
    refine j_top h18 ?_
    refine j_bipush (v := 64) h dL_minute_288 (by decide) ?_
    refine j_icmp_ge (tgt := 302) h dL_minute_290 (by decide) (fun c290 => ?_) (fun c290 => ?_)
    · -- t
      have c290 : ¬ t < 64 := by
        rw [show (64 : Int32) = nI 64 from rfl, nI_leI (by omega) (by omega)] at c290; omega
      refine j_iconst (v := 0) h dL_minute_302 (by decide) ?_
      exact cut303 _ (by first | (rw [guJ, if_pos c290]; done) | (rw [guJ, if_neg c290])) _ ⟨rfl, rfl, rfl, rfl, rfl, rfl, trivial⟩
    · -- f
      have c290 : t < 64 := by
        rw [show (64 : Int32) = nI 64 from rfl, nI_leI (by omega) (by omega)] at c290; omega
      refine j_aload_nR h dL_minute_293 rfl ?_
      refine j_aloadR h dL_minute_294 rfl ?_
      refine j_iconst (v := 5) h dL_minute_296 (by decide) ?_
      refine jm_ald5 h dL_minute_297 ?_
      refine j_top h18 ?_
      refine jg_ald t h dL_minute_298 rfl (by omega) ?_
      refine j_goto (tgt := 303) h dL_minute_299 (by decide) ?_
      exact cut303 _ (by first | (rw [guJ, if_pos c290]; done) | (rw [guJ, if_neg c290])) _ ⟨rfl, rfl, rfl, rfl, rfl, rfl, trivial⟩
set_option maxHeartbeats 4000000 in
set_option maxRecDepth 100000 in
theorem mi_bu {p : Program} {l : Launch} {e : Env} {s : State} {m : MethodId} {args : Array Value} {below : List Frame} {meth : Method} {c : Code} {Q : State → Prop} {D : va_G} {cI cL cR : ClassId} {A : Nat → Prop} {k w : Nat} {aJ : Nat → Nat} {ψ : St} {G : St} {n : Nat} (h : jc p s m args c D vwCl (tyW cI cL cR) A 10 cL_minute RL wsL_minute) (hn : n ≤ 8) (h7 : G 7 0 = nI n) (kk : ∀ lv1 : List (Nat × Value), lsub [(0, .ref (aJ 0)), (1, .ref (aJ 1)), (2, .ref (aJ 2)), (3, .ref (aJ 3)), (4, .ref (aJ 4)), (5, .int (ltS ψ n - ltS (buF G n) n))] lv1 → jj p l e (headSpec wsL_minute { frames := 3, cells := 0, slots := 0, locals := 75 }).room s m args below meth c Q D vwCl (tyW cI cL cR) A 10 (wJ cI aJ (buF G n) ++ []) k w 553 lv1 []) : jj p l e (headSpec wsL_minute { frames := 3, cells := 0, slots := 0, locals := 75 }).room s m args below meth c Q D vwCl (tyW cI cL cR) A 10 (wJ cI aJ G ++ []) k w 427 [(0, .ref (aJ 0)), (1, .ref (aJ 1)), (2, .ref (aJ 2)), (3, .ref (aJ 3)), (4, .ref (aJ 4)), (5, .int (ltS ψ n - ltS G n))] [] := by
  refine j_iconst (v := 0) h dL_minute_427 (by decide) ?_
  refine j_istore h dL_minute_428 (by decide) ?_
  refine jj_loop (fun i : Nat => [(0, .ref (aJ 0)), (1, .ref (aJ 1)), (2, .ref (aJ 2)), (3, .ref (aJ 3)), (4, .ref (aJ 4)), (5, .int (ltS ψ n - ltS (buF G i) n)), (7, .int (nI i))]) (fun i : Nat => wJ cI aJ (buF G i) ++ []) (fun i : Nat => i ≤ n) (fun i : Nat => n - i) 0 ⟨rfl, rfl, rfl, rfl, rfl, rfl, rfl, trivial⟩ rfl (by omega) (fun i hi ihi => ?_)
  refine j_iload h dL_minute_430 rfl ?_
  refine j_aloadR h dL_minute_432 rfl ?_
  refine j_iconst (v := 0) h dL_minute_434 (by decide) ?_
  refine jm_ald0 h dL_minute_435 ?_
  refine j_top (show (buF G i) 7 0 = nI n by rw [kp_bu (by decide) (by decide)]; exact h7) ?_
  refine j_icmp_ge (tgt := 553) h dL_minute_436 (by decide) (fun c436 => ?_) (fun c436 => ?_)
  · -- t
    rw [nI_leI (by omega) (by omega)] at c436
    obtain rfl : n = i := by omega
    exact kk _ ⟨rfl, rfl, rfl, rfl, rfl, rfl, trivial⟩
  · -- f
    rw [nI_leI (by omega) (by omega)] at c436
    refine jj_cut 457 [(0, .ref (aJ 0)), (1, .ref (aJ 1)), (2, .ref (aJ 2)), (3, .ref (aJ 3)), (4, .ref (aJ 4)), (5, .int (ltS ψ n - ltS (buF G i) n)), (7, .int (nI i))] [] (fun v => v = bi (decide ((buF G i) 3 i = 1))) (fun v457 hv457 => ?_) (fun cut457 => ?_)
    · -- behind
      obtain rfl := hv457
      rcases Bool.eq_false_or_eq_true (decide ((buF G i) 3 i = 1)) with hb457 | hb457
      · -- t
        refine j_top (y := 1) (by rw [hb457]; rfl) ?_
        have h1 := of_decide_eq_true hb457
        refine j_istore h dL_minute_457 (by decide) ?_
        refine j_aload_nR h dL_minute_459 rfl ?_
        refine j_bipush (v := 8) h dL_minute_460 (by decide) ?_
        refine j_iload h dL_minute_462 rfl ?_
        refine j_imul h dL_minute_464 ?_
        refine j_iconst (v := 4) h dL_minute_465 (by decide) ?_
        refine j_iadd h dL_minute_466 ?_
        refine j_dup2 h dL_minute_467 rfl rfl ?_
        refine jl_ald i 4 h dL_minute_468 (ix8_4 _) (by decide) (by omega) ?_
        refine j_iload h dL_minute_469 rfl ?_
        refine j_if_eq (tgt := 478) h dL_minute_471 (by decide) (fun c471 => absurd c471 (by decide)) (fun c471 => ?_)
        refine j_iconst (v := 1) h dL_minute_474 (by decide) ?_
        refine j_goto (tgt := 479) h dL_minute_475 (by decide) ?_
        refine j_isub h dL_minute_479 ?_
        refine jl_ast i 4 h dL_minute_480 (ix8_4 _) (by decide) (by omega) ?_
        refine j_iload h dL_minute_481 rfl ?_
        refine j_if_eq (tgt := 502) h dL_minute_483 (by decide) (fun c483 => absurd c483 (by decide)) (fun c483 => ?_)
        refine j_aload_nR h dL_minute_486 rfl ?_
        refine j_bipush (v := 8) h dL_minute_487 (by decide) ?_
        refine j_iload h dL_minute_489 rfl ?_
        refine j_imul h dL_minute_491 ?_
        refine j_iconst (v := 4) h dL_minute_492 (by decide) ?_
        refine j_iadd h dL_minute_493 ?_
        refine jl_ald i 4 h dL_minute_494 (ix8_4 _) (by decide) (by omega) ?_
        refine j_top (up2_self _ _ _ _) ?_
        refine j_if_ne (tgt := 502) h dL_minute_495 (by decide) (fun c495 => ?_) (fun c495 => ?_)
        · -- t
          refine j_iconst (v := 0) h dL_minute_502 (by decide) ?_
          refine j_istore h dL_minute_503 (by decide) ?_
          refine j_aload_nR h dL_minute_505 rfl ?_
          refine j_bipush (v := 8) h dL_minute_506 (by decide) ?_
          refine j_iload h dL_minute_508 rfl ?_
          refine j_imul h dL_minute_510 ?_
          refine j_iconst (v := 3) h dL_minute_511 (by decide) ?_
          refine j_iadd h dL_minute_512 ?_
          refine j_iload h dL_minute_513 rfl ?_
          refine j_if_eq (tgt := 522) h dL_minute_515 (by decide) (fun c515 => ?_) (fun c515 => absurd c515 (by decide))
          refine j_aload_nR h dL_minute_522 rfl ?_
          refine j_bipush (v := 8) h dL_minute_523 (by decide) ?_
          refine j_iload h dL_minute_525 rfl ?_
          refine j_imul h dL_minute_527 ?_
          refine j_iconst (v := 3) h dL_minute_528 (by decide) ?_
          refine j_iadd h dL_minute_529 ?_
          refine jl_ald i 3 h dL_minute_530 (ix8_3 _) (by decide) (by omega) ?_
          refine jl_ast i 3 h dL_minute_531 (ix8_3 _) (by decide) (by omega) ?_
          refine j_iload h dL_minute_532 rfl ?_
          refine j_iload h dL_minute_534 rfl ?_
          refine j_if_eq (tgt := 543) h dL_minute_536 (by decide) (fun c536 => ?_) (fun c536 => absurd c536 (by decide))
          refine j_iconst (v := 0) h dL_minute_543 (by decide) ?_
          refine j_iadd h dL_minute_544 ?_
          refine j_istore h dL_minute_545 (by decide) ?_
          refine j_iinc h dL_minute_547 rfl rfl (by decide) ?_
          refine j_goto (tgt := 430) h dL_minute_550 (by decide) ?_
          first
            | exact jj_ws (by rw [buF, if_neg (of_decide_eq_false hb457), Int32.sub_zero, up2_id, up2_id]) (ihi (i + 1) (by omega) (by omega) _ ⟨rfl, rfl, rfl, rfl, rfl, by show some (Value.int _) = _; rw [buF, if_neg (of_decide_eq_false hb457), Int32.add_zero] <;> rfl, by simp [lget, nI_succ], trivial⟩)
            | exact jj_ws (by rw [bu_z h1 c495]) (ihi (i + 1) (by omega) (by omega) _ ⟨rfl, rfl, rfl, rfl, rfl, by rw [bu_z h1 c495, ← ct_up (f := up2 (buF G i) 4 i (buF G i 4 i - 1)) (by omega) h1 (by decide), ltS_eq n (show up2 (buF G i) 4 i (buF G i 4 i - 1) 3 = buF G i 3 from rfl)] <;> rfl, by simp [lget, nI_succ], trivial⟩)
            | exact jj_ws (by rw [bu_n h1 c495]) (ihi (i + 1) (by omega) (by omega) _ ⟨rfl, rfl, rfl, rfl, rfl, by show some (Value.int _) = _; rw [bu_n h1 c495, up2_id, ltS_eq n (show up2 (buF G i) 4 i _ 3 = buF G i 3 from rfl), Int32.add_zero] <;> rfl, by simp [lget, nI_succ], trivial⟩)
        · -- f
          refine j_iconst (v := 1) h dL_minute_498 (by decide) ?_
          refine j_goto (tgt := 503) h dL_minute_499 (by decide) ?_
          refine j_istore h dL_minute_503 (by decide) ?_
          refine j_aload_nR h dL_minute_505 rfl ?_
          refine j_bipush (v := 8) h dL_minute_506 (by decide) ?_
          refine j_iload h dL_minute_508 rfl ?_
          refine j_imul h dL_minute_510 ?_
          refine j_iconst (v := 3) h dL_minute_511 (by decide) ?_
          refine j_iadd h dL_minute_512 ?_
          refine j_iload h dL_minute_513 rfl ?_
          refine j_if_eq (tgt := 522) h dL_minute_515 (by decide) (fun c515 => absurd c515 (by decide)) (fun c515 => ?_)
          refine j_iconst (v := 2) h dL_minute_518 (by decide) ?_
          refine j_goto (tgt := 531) h dL_minute_519 (by decide) ?_
          refine jl_ast i 3 h dL_minute_531 (ix8_3 _) (by decide) (by omega) ?_
          refine j_iload h dL_minute_532 rfl ?_
          refine j_iload h dL_minute_534 rfl ?_
          refine j_if_eq (tgt := 543) h dL_minute_536 (by decide) (fun c536 => absurd c536 (by decide)) (fun c536 => ?_)
          refine j_iconst (v := 1) h dL_minute_539 (by decide) ?_
          refine j_goto (tgt := 544) h dL_minute_540 (by decide) ?_
          refine j_iadd h dL_minute_544 ?_
          refine j_istore h dL_minute_545 (by decide) ?_
          refine j_iinc h dL_minute_547 rfl rfl (by decide) ?_
          refine j_goto (tgt := 430) h dL_minute_550 (by decide) ?_
          first
            | exact jj_ws (by rw [buF, if_neg (of_decide_eq_false hb457), Int32.sub_zero, up2_id, up2_id]) (ihi (i + 1) (by omega) (by omega) _ ⟨rfl, rfl, rfl, rfl, rfl, by show some (Value.int _) = _; rw [buF, if_neg (of_decide_eq_false hb457), Int32.add_zero] <;> rfl, by simp [lget, nI_succ], trivial⟩)
            | exact jj_ws (by rw [bu_z h1 c495]) (ihi (i + 1) (by omega) (by omega) _ ⟨rfl, rfl, rfl, rfl, rfl, by rw [bu_z h1 c495, ← ct_up (f := up2 (buF G i) 4 i (buF G i 4 i - 1)) (by omega) h1 (by decide), ltS_eq n (show up2 (buF G i) 4 i (buF G i 4 i - 1) 3 = buF G i 3 from rfl)] <;> rfl, by simp [lget, nI_succ], trivial⟩)
            | exact jj_ws (by rw [bu_n h1 c495]) (ihi (i + 1) (by omega) (by omega) _ ⟨rfl, rfl, rfl, rfl, rfl, by show some (Value.int _) = _; rw [bu_n h1 c495, up2_id, ltS_eq n (show up2 (buF G i) 4 i _ 3 = buF G i 3 from rfl), Int32.add_zero] <;> rfl, by simp [lget, nI_succ], trivial⟩)
      · -- f
        refine j_top (y := 0) (by rw [hb457]; rfl) ?_
        refine j_istore h dL_minute_457 (by decide) ?_
        refine j_aload_nR h dL_minute_459 rfl ?_
        refine j_bipush (v := 8) h dL_minute_460 (by decide) ?_
        refine j_iload h dL_minute_462 rfl ?_
        refine j_imul h dL_minute_464 ?_
        refine j_iconst (v := 4) h dL_minute_465 (by decide) ?_
        refine j_iadd h dL_minute_466 ?_
        refine j_dup2 h dL_minute_467 rfl rfl ?_
        refine jl_ald i 4 h dL_minute_468 (ix8_4 _) (by decide) (by omega) ?_
        refine j_iload h dL_minute_469 rfl ?_
        refine j_if_eq (tgt := 478) h dL_minute_471 (by decide) (fun c471 => ?_) (fun c471 => absurd c471 (by decide))
        refine j_iconst (v := 0) h dL_minute_478 (by decide) ?_
        refine j_isub h dL_minute_479 ?_
        refine jl_ast i 4 h dL_minute_480 (ix8_4 _) (by decide) (by omega) ?_
        refine j_iload h dL_minute_481 rfl ?_
        refine j_if_eq (tgt := 502) h dL_minute_483 (by decide) (fun c483 => ?_) (fun c483 => absurd c483 (by decide))
        refine j_iconst (v := 0) h dL_minute_502 (by decide) ?_
        refine j_istore h dL_minute_503 (by decide) ?_
        refine j_aload_nR h dL_minute_505 rfl ?_
        refine j_bipush (v := 8) h dL_minute_506 (by decide) ?_
        refine j_iload h dL_minute_508 rfl ?_
        refine j_imul h dL_minute_510 ?_
        refine j_iconst (v := 3) h dL_minute_511 (by decide) ?_
        refine j_iadd h dL_minute_512 ?_
        refine j_iload h dL_minute_513 rfl ?_
        refine j_if_eq (tgt := 522) h dL_minute_515 (by decide) (fun c515 => ?_) (fun c515 => absurd c515 (by decide))
        refine j_aload_nR h dL_minute_522 rfl ?_
        refine j_bipush (v := 8) h dL_minute_523 (by decide) ?_
        refine j_iload h dL_minute_525 rfl ?_
        refine j_imul h dL_minute_527 ?_
        refine j_iconst (v := 3) h dL_minute_528 (by decide) ?_
        refine j_iadd h dL_minute_529 ?_
        refine jl_ald i 3 h dL_minute_530 (ix8_3 _) (by decide) (by omega) ?_
        refine jl_ast i 3 h dL_minute_531 (ix8_3 _) (by decide) (by omega) ?_
        refine j_iload h dL_minute_532 rfl ?_
        refine j_iload h dL_minute_534 rfl ?_
        refine j_if_eq (tgt := 543) h dL_minute_536 (by decide) (fun c536 => ?_) (fun c536 => absurd c536 (by decide))
        refine j_iconst (v := 0) h dL_minute_543 (by decide) ?_
        refine j_iadd h dL_minute_544 ?_
        refine j_istore h dL_minute_545 (by decide) ?_
        refine j_iinc h dL_minute_547 rfl rfl (by decide) ?_
        refine j_goto (tgt := 430) h dL_minute_550 (by decide) ?_
        have c495 : True := trivial
        first
          | exact jj_ws (by rw [buF, if_neg (of_decide_eq_false hb457), Int32.sub_zero, up2_id, up2_id]) (ihi (i + 1) (by omega) (by omega) _ ⟨rfl, rfl, rfl, rfl, rfl, by show some (Value.int _) = _; rw [buF, if_neg (of_decide_eq_false hb457), Int32.add_zero] <;> rfl, by simp [lget, nI_succ], trivial⟩)
          | exact jj_ws (by rw [bu_z h1 c495]) (ihi (i + 1) (by omega) (by omega) _ ⟨rfl, rfl, rfl, rfl, rfl, by rw [bu_z h1 c495, ← ct_up (f := up2 (buF G i) 4 i (buF G i 4 i - 1)) (by omega) h1 (by decide), ltS_eq n (show up2 (buF G i) 4 i (buF G i 4 i - 1) 3 = buF G i 3 from rfl)] <;> rfl, by simp [lget, nI_succ], trivial⟩)
          | exact jj_ws (by rw [bu_n h1 c495]) (ihi (i + 1) (by omega) (by omega) _ ⟨rfl, rfl, rfl, rfl, rfl, by show some (Value.int _) = _; rw [bu_n h1 c495, up2_id, ltS_eq n (show up2 (buF G i) 4 i _ 3 = buF G i 3 from rfl), Int32.add_zero] <;> rfl, by simp [lget, nI_succ], trivial⟩)
    · -- ahead
      refine j_aload_nR h dL_minute_439 rfl ?_
      refine j_bipush (v := 8) h dL_minute_440 (by decide) ?_
      refine j_iload h dL_minute_442 rfl ?_
      refine j_imul h dL_minute_444 ?_
      refine j_iconst (v := 3) h dL_minute_445 (by decide) ?_
      refine j_iadd h dL_minute_446 ?_
      refine jl_ald i 3 h dL_minute_447 (ix8_3 _) (by decide) (by omega) ?_
      refine j_iconst (v := 1) h dL_minute_448 (by decide) ?_
      refine j_icmp_ne (tgt := 456) h dL_minute_449 (by decide) (fun c449 => ?_) (fun c449 => ?_)
      · -- t
        refine j_iconst (v := 0) h dL_minute_456 (by decide) ?_
        exact cut457 _ (by simp [bi, *]) _ ⟨rfl, rfl, rfl, rfl, rfl, rfl, rfl, trivial⟩
      · -- f
        refine j_iconst (v := 1) h dL_minute_452 (by decide) ?_
        refine j_goto (tgt := 457) h dL_minute_453 (by decide) ?_
        exact cut457 _ (by simp [bi, *]) _ ⟨rfl, rfl, rfl, rfl, rfl, rfl, rfl, trivial⟩
set_option maxHeartbeats 4000000 in
set_option maxRecDepth 100000 in
theorem mi_ma {p : Program} {l : Launch} {e : Env} {s : State} {m : MethodId} {args : Array Value} {below : List Frame} {meth : Method} {c : Code} {Q : State → Prop} {D : va_G} {cI cL cR : ClassId} {A : Nat → Prop} {k w : Nat} {aJ : Nat → Nat} {ψ : St} {G : St} {n : Nat} (h : jc p s m args c D vwCl (tyW cI cL cR) A 10 cL_minute RL wsL_minute) (hn : n ≤ 8) (h7 : G 7 0 = nI n) (h5 : ∀ k, k < n → G 5 k = -1 ∨ ∃ r, r < 5 ∧ G 5 k = nI r) (hk0 : k = 0) (hw0 : w = 0) (kk : ∀ lv1 : List (Nat × Value), lsub [(0, .ref (aJ 0)), (1, .ref (aJ 1)), (2, .ref (aJ 2)), (3, .ref (aJ 3)), (4, .ref (aJ 4)), (5, .int (ltS ψ n - ltS (maJ G n) n))] lv1 → jj p l e (headSpec wsL_minute { frames := 3, cells := 0, slots := 0, locals := 75 }).room s m args below meth c Q D vwCl (tyW cI cL cR) A 10 (wJ cI aJ (maJ G n) ++ []) k w 665 lv1 []) : jj p l e (headSpec wsL_minute { frames := 3, cells := 0, slots := 0, locals := 75 }).room s m args below meth c Q D vwCl (tyW cI cL cR) A 10 (wJ cI aJ G ++ []) k w 553 [(0, .ref (aJ 0)), (1, .ref (aJ 1)), (2, .ref (aJ 2)), (3, .ref (aJ 3)), (4, .ref (aJ 4)), (5, .int (ltS ψ n - ltS G n))] [] := by
  refine j_iconst (v := 0) h dL_minute_553 (by decide) ?_
  refine j_istore h dL_minute_554 (by decide) ?_
  refine jj_loop (fun i : Nat => [(0, .ref (aJ 0)), (1, .ref (aJ 1)), (2, .ref (aJ 2)), (3, .ref (aJ 3)), (4, .ref (aJ 4)), (5, .int (ltS ψ n - ltS (maJ G i) n)), (7, .int (nI i))]) (fun i : Nat => wJ cI aJ (maJ G i) ++ []) (fun i : Nat => i ≤ n) (fun i : Nat => n - i) 0 ⟨rfl, rfl, rfl, rfl, rfl, rfl, rfl, trivial⟩ rfl (by omega) (fun i hi ihi => ?_)
  refine j_iload h dL_minute_556 rfl ?_
  refine j_aloadR h dL_minute_558 rfl ?_
  refine j_iconst (v := 0) h dL_minute_560 (by decide) ?_
  refine jm_ald0 h dL_minute_561 ?_
  refine j_top (show (maJ G i) 7 0 = nI n by rw [maJ_k _ _ (by decide) (by decide)]; exact h7) ?_
  refine j_icmp_ge (tgt := 665) h dL_minute_562 (by decide) (fun c562 => ?_) (fun c562 => ?_)
  · -- t
    rw [nI_leI (by omega) (by omega)] at c562
    obtain rfl : n = i := by omega
    exact kk _ ⟨rfl, rfl, rfl, rfl, rfl, rfl, trivial⟩
  · -- f
    rw [nI_leI (by omega) (by omega)] at c562
    refine jj_cut 597 [(0, .ref (aJ 0)), (1, .ref (aJ 1)), (2, .ref (aJ 2)), (3, .ref (aJ 3)), (4, .ref (aJ 4)), (5, .int (ltS ψ n - ltS (maJ G i) n)), (7, .int (nI i))] [] (fun v => v = bi (decide ((maJ G i) 3 i = 1 ∧ ncB (maJ G i) i i = true))) (fun v597 hv597 => ?_) (fun cut597 => ?_)
    · -- behind
      obtain rfl := hv597
      rcases Bool.eq_false_or_eq_true (decide ((maJ G i) 3 i = 1 ∧ ncB (maJ G i) i i = true)) with hb597 | hb597
      · -- t
        refine j_top (y := 1) (by rw [hb597]; rfl) ?_
        refine j_istore h dL_minute_597 (by decide) ?_
        refine j_aload_nR h dL_minute_599 rfl ?_
        refine j_bipush (v := 8) h dL_minute_600 (by decide) ?_
        refine j_iload h dL_minute_602 rfl ?_
        refine j_imul h dL_minute_604 ?_
        refine j_iconst (v := 3) h dL_minute_605 (by decide) ?_
        refine j_iadd h dL_minute_606 ?_
        refine j_iload h dL_minute_607 rfl ?_
        refine j_if_eq (tgt := 616) h dL_minute_609 (by decide) (fun c609 => absurd c609 (by decide)) (fun c609 => ?_)
        refine j_iconst (v := 0) h dL_minute_612 (by decide) ?_
        refine j_goto (tgt := 625) h dL_minute_613 (by decide) ?_
        refine jl_ast i 3 h dL_minute_625 (ix8_3 _) (by decide) (by omega) ?_
        refine j_aloadR h dL_minute_626 rfl ?_
        refine j_bipush (v := 7) h dL_minute_628 (by decide) ?_
        refine j_dup2 h dL_minute_630 rfl rfl ?_
        refine jm_ald7 h dL_minute_631 ?_
        refine j_iload h dL_minute_632 rfl ?_
        refine j_if_eq (tgt := 641) h dL_minute_634 (by decide) (fun c634 => absurd c634 (by decide)) (fun c634 => ?_)
        refine j_iconst (v := 1) h dL_minute_637 (by decide) ?_
        refine j_goto (tgt := 642) h dL_minute_638 (by decide) ?_
        refine j_iadd h dL_minute_642 ?_
        refine jm_ast7 h dL_minute_643 ?_
        refine j_iload h dL_minute_644 rfl ?_
        refine j_iload h dL_minute_646 rfl ?_
        refine j_if_eq (tgt := 655) h dL_minute_648 (by decide) (fun c648 => absurd c648 (by decide)) (fun c648 => ?_)
        refine j_iconst (v := 1) h dL_minute_651 (by decide) ?_
        refine j_goto (tgt := 656) h dL_minute_652 (by decide) ?_
        refine j_iadd h dL_minute_656 ?_
        refine j_istore h dL_minute_657 (by decide) ?_
        refine j_iinc h dL_minute_659 rfl rfl (by decide) ?_
        refine j_goto (tgt := 556) h dL_minute_662 (by decide) ?_
        first
          | exact jj_ws (by rw [maJ, if_pos (of_decide_eq_true hb597)] <;> rfl) (ihi (i + 1) (by omega) (by omega) _ ⟨rfl, rfl, rfl, rfl, rfl, by rw [maJ, if_pos (of_decide_eq_true hb597), ltS_eq n (show up2 (up2 _ 3 i 0) 20 0 _ 3 = up2 _ 3 i 0 3 from rfl), ← ct_up (by omega) (of_decide_eq_true hb597).1 (by decide)] <;> rfl, by simp [lget, nI_succ], trivial⟩)
          | exact jj_ws (by rw [maJ, if_neg (of_decide_eq_false hb597), up2_id, Int32.add_zero, up2_id]) (ihi (i + 1) (by omega) (by omega) _ ⟨rfl, rfl, rfl, rfl, rfl, by show some (Value.int _) = _; rw [maJ, if_neg (of_decide_eq_false hb597), Int32.add_zero] <;> rfl, by simp [lget, nI_succ], trivial⟩)
      · -- f
        refine j_top (y := 0) (by rw [hb597]; rfl) ?_
        refine j_istore h dL_minute_597 (by decide) ?_
        refine j_aload_nR h dL_minute_599 rfl ?_
        refine j_bipush (v := 8) h dL_minute_600 (by decide) ?_
        refine j_iload h dL_minute_602 rfl ?_
        refine j_imul h dL_minute_604 ?_
        refine j_iconst (v := 3) h dL_minute_605 (by decide) ?_
        refine j_iadd h dL_minute_606 ?_
        refine j_iload h dL_minute_607 rfl ?_
        refine j_if_eq (tgt := 616) h dL_minute_609 (by decide) (fun c609 => ?_) (fun c609 => absurd c609 (by decide))
        refine j_aload_nR h dL_minute_616 rfl ?_
        refine j_bipush (v := 8) h dL_minute_617 (by decide) ?_
        refine j_iload h dL_minute_619 rfl ?_
        refine j_imul h dL_minute_621 ?_
        refine j_iconst (v := 3) h dL_minute_622 (by decide) ?_
        refine j_iadd h dL_minute_623 ?_
        refine jl_ald i 3 h dL_minute_624 (ix8_3 _) (by decide) (by omega) ?_
        refine jl_ast i 3 h dL_minute_625 (ix8_3 _) (by decide) (by omega) ?_
        refine j_aloadR h dL_minute_626 rfl ?_
        refine j_bipush (v := 7) h dL_minute_628 (by decide) ?_
        refine j_dup2 h dL_minute_630 rfl rfl ?_
        refine jm_ald7 h dL_minute_631 ?_
        refine j_iload h dL_minute_632 rfl ?_
        refine j_if_eq (tgt := 641) h dL_minute_634 (by decide) (fun c634 => ?_) (fun c634 => absurd c634 (by decide))
        refine j_iconst (v := 0) h dL_minute_641 (by decide) ?_
        refine j_iadd h dL_minute_642 ?_
        refine jm_ast7 h dL_minute_643 ?_
        refine j_iload h dL_minute_644 rfl ?_
        refine j_iload h dL_minute_646 rfl ?_
        refine j_if_eq (tgt := 655) h dL_minute_648 (by decide) (fun c648 => ?_) (fun c648 => absurd c648 (by decide))
        refine j_iconst (v := 0) h dL_minute_655 (by decide) ?_
        refine j_iadd h dL_minute_656 ?_
        refine j_istore h dL_minute_657 (by decide) ?_
        refine j_iinc h dL_minute_659 rfl rfl (by decide) ?_
        refine j_goto (tgt := 556) h dL_minute_662 (by decide) ?_
        first
          | exact jj_ws (by rw [maJ, if_pos (of_decide_eq_true hb597)] <;> rfl) (ihi (i + 1) (by omega) (by omega) _ ⟨rfl, rfl, rfl, rfl, rfl, by rw [maJ, if_pos (of_decide_eq_true hb597), ltS_eq n (show up2 (up2 _ 3 i 0) 20 0 _ 3 = up2 _ 3 i 0 3 from rfl), ← ct_up (by omega) (of_decide_eq_true hb597).1 (by decide)] <;> rfl, by simp [lget, nI_succ], trivial⟩)
          | exact jj_ws (by rw [maJ, if_neg (of_decide_eq_false hb597), up2_id, Int32.add_zero, up2_id]) (ihi (i + 1) (by omega) (by omega) _ ⟨rfl, rfl, rfl, rfl, rfl, by show some (Value.int _) = _; rw [maJ, if_neg (of_decide_eq_false hb597), Int32.add_zero] <;> rfl, by simp [lget, nI_succ], trivial⟩)
    · -- ahead
      refine j_aload_nR h dL_minute_565 rfl ?_
      refine j_bipush (v := 8) h dL_minute_566 (by decide) ?_
      refine j_iload h dL_minute_568 rfl ?_
      refine j_imul h dL_minute_570 ?_
      refine j_iconst (v := 3) h dL_minute_571 (by decide) ?_
      refine j_iadd h dL_minute_572 ?_
      refine jl_ald i 3 h dL_minute_573 (ix8_3 _) (by decide) (by omega) ?_
      refine j_iconst (v := 1) h dL_minute_574 (by decide) ?_
      refine j_icmp_ne (tgt := 596) h dL_minute_575 (by decide) (fun c575 => ?_) (fun c575 => ?_)
      · -- t
        refine j_iconst (v := 0) h dL_minute_596 (by decide) ?_
        have c589 : True := trivial
        exact cut597 _ (by first | (simp [bi, *]; done) | (simp [bi] at c589; simp [bi, *]; done)) _ ⟨rfl, rfl, rfl, rfl, rfl, rfl, rfl, trivial⟩
      · -- f
        refine j_aload_nR h dL_minute_578 rfl ?_
        refine j_aload_nR h dL_minute_579 rfl ?_
        refine j_aloadR h dL_minute_580 rfl ?_
        refine j_iload h dL_minute_582 rfl ?_
        refine j_iload h dL_minute_584 rfl ?_
        refine j_callFI (wc := wJ cI aJ _) h dL_minute_586 (c_L_isClose (n := n) (x := i) (B := i) hn (by omega) (by omega) (fun k hk => by rw [maJ_k _ _ (by decide) (by decide)]; exact h5 k hk)) (va_cwS 5 h.2.2.2.2.1 gL_minute_L_isClose rfl rfl rfl (by decide +kernel) ⟨(Nat.le_of_ble_eq_true rfl), (Nat.le_of_ble_eq_true rfl)⟩) rfl rfl (Nat.le_of_ble_eq_true rfl) ⟨by show k + 0 ≤ 0; omega, by show w + 0 ≤ 0; omega⟩ (fun r586 u586 hu586 => ?_)
        obtain ⟨rfl, rfl⟩ := hu586
        refine j_if_eq (tgt := 596) h dL_minute_589 (by decide) (fun c589 => ?_) (fun c589 => ?_)
        · -- t
          refine j_iconst (v := 0) h dL_minute_596 (by decide) ?_
          exact cut597 _ (by first | (simp [bi, *]; done) | (simp [bi] at c589; simp [bi, *]; done)) _ ⟨rfl, rfl, rfl, rfl, rfl, rfl, rfl, trivial⟩
        · -- f
          refine j_iconst (v := 1) h dL_minute_592 (by decide) ?_
          refine j_goto (tgt := 597) h dL_minute_593 (by decide) ?_
          exact cut597 _ (by first | (simp [bi, *]; done) | (simp [bi] at c589; simp [bi, *]; done)) _ ⟨rfl, rfl, rfl, rfl, rfl, rfl, rfl, trivial⟩
