set_option maxHeartbeats 4000000 in
set_option maxRecDepth 100000 in
theorem c_X3_floatsMove {l : Launch} {D : va_G} {cI cL cR : ClassId} {ad : Nat → Nat} {f : St} {t : Int32} {n b q : Nat} (hn : f 7 0 = nI n) (hn24 : n ≤ 24) (hb : f 14 0 = nI b) (hb8 : b ≤ 8) (hq : f 13 0 = nI q) (hq8 : q ≤ 8) (ho : ∀ i, i < q → ∃ r, r < 8 ∧ f 12 i = nI r) : ctV l D vwCl (tyW cI cL cR) yX3_floatsMove wsX3_floatsMove { frames := 1, cells := 0, slots := 0, locals := 21 } [.ref (ad 0)] (wM cI ad f t) (fun u => u = wM cI ad (fmF f n b q) t) 0 0 := by
  refine ctV_of (cc := cX3_floatsMove) (maxL := 6) (ret := none) (by decide) rfl rfl (Nat.le_of_ble_eq_true rfl) (by simp [Value.category]) [(0, .ref (ad 0))] rfl ?_
  intro p e s m args below meth c sz h hrt hlk hnm
  have hin3 : ∀ x ∈ wsX30, x ∈ wsX3_floatsMove := by decide +kernel
  refine j_iconst (v := (-1)) h dX3_floatsMove_0 (by decide) ?_
  refine j_istore_n (i := 1) h dX3_floatsMove_1 rfl (by decide) ?_
  refine j_iconst (v := 0) h dX3_floatsMove_2 (by decide) ?_
  refine j_istore_n (i := 2) h dX3_floatsMove_3 rfl (by decide) ?_
  refine jj_loop (fun i : Nat => [(0, .ref (ad 0)), (1, .int (mvF f i).2), (2, .int (nI i))]) (fun i : Nat => wM cI ad (mvF f i).1 t) (fun i : Nat => i ≤ q) (fun i : Nat => q - i) 0 ⟨rfl, rfl, rfl, trivial⟩ rfl (by omega) (fun i hi ih => ?_)
  have hq1 : (mvF f i).1 13 0 = nI q := by rw [mvF_k _ _ (by decide)]; exact hq
  refine j_iload_n h dX3_floatsMove_4 rfl ?_
  refine j_aload_nR h dX3_floatsMove_5 rfl ?_
  refine m_get13 h hin3 (by decide +kernel) dX3_floatsMove_6 ?_
  refine j_icmp_ge (tgt := 122) h dX3_floatsMove_9 (by decide) (fun c9 => ?_) (fun c9 => ?_)
  · -- t
    rw [hq1, nI_leI (by omega) (by omega)] at c9
    refine j_iconst (v := 0) h dX3_floatsMove_122 (by decide) ?_
    refine j_istore_n (i := 2) h dX3_floatsMove_123 rfl (by decide) ?_
    obtain rfl : i = q := by omega
    refine jj_loop (fun k : Nat => [(0, .ref (ad 0)), (2, .int (nI k))]) (fun k : Nat => wM cI ad (gnF (mvF f i).1 n k) t) (fun k : Nat => k ≤ b) (fun k : Nat => b - k) 0 ⟨rfl, rfl, trivial⟩ rfl (by omega) (fun k hk ih2 => ?_)
    have hn2 : gnF (mvF f i).1 n k 7 0 = nI n := by rw [(dec.gn _ _ _).2.2.1, (dec.mv _ _).2.2.1]; exact hn
    have hb2 : gnF (mvF f i).1 n k 14 0 = nI b := by rw [(dec.gn _ _ _).2.2.2.1, (dec.mv _ _).2.2.2.1]; exact hb
    refine j_iload_n h dX3_floatsMove_124 rfl ?_
    refine j_aload_nR h dX3_floatsMove_125 rfl ?_
    refine m_get14 h hin3 (by decide +kernel) dX3_floatsMove_126 ?_
    refine j_icmp_ge (tgt := 198) h dX3_floatsMove_129 (by decide) (fun c129 => ?_) (fun c129 => ?_)
    · -- t
      rw [hb2, nI_leI (by omega) (by omega)] at c129
      exact j_vret h hrt hlk dX3_floatsMove_198 (by decide) (by decide) (by rw [show k = b by omega]; rfl)
    · -- f
      rw [hb2, nI_leI (by omega) (by omega)] at c129
      refine j_aload_nR h dX3_floatsMove_132 rfl ?_
      refine m_get10 h hin3 (by decide +kernel) dX3_floatsMove_133 ?_
      refine j_iload_n h dX3_floatsMove_136 rfl ?_
      refine m_ald10 h dX3_floatsMove_137 rfl (by omega) ?_
      refine j_iconst (v := 1) h dX3_floatsMove_138 (by decide) ?_
      refine j_icmp_ne (tgt := 192) h dX3_floatsMove_139 (by decide) (fun c139 => ?_) (fun c139 => ?_)
      · -- t
        refine j_iinc h dX3_floatsMove_192 rfl rfl (by decide) ?_
        refine j_goto (tgt := 124) h dX3_floatsMove_195 (by decide) ?_
        first
          | exact jj_ws (by rw [gnF, if_neg (fun z => c139 z.1)]) (ih2 (k + 1) (by omega) (by omega) _ ⟨rfl, by simp [lget, nI_succ], trivial⟩)
          | exact jj_ws (by rw [gnF, if_neg (fun z => absurd z.2 (Int32.not_le.mpr c151))]) (ih2 (k + 1) (by omega) (by omega) _ ⟨rfl, by simp [lget, nI_succ], trivial⟩)
          | exact jj_ws (by rw [gnF, if_pos ⟨c139, Int32.not_lt.mp c151⟩, show n = j by omega]) (ih2 (k + 1) (by omega) (by omega) _ ⟨rfl, by simp [lget, nI_succ], trivial⟩)
      · -- f
        refine j_aload_nR h dX3_floatsMove_142 rfl ?_
        refine m_get11 h hin3 (by decide +kernel) dX3_floatsMove_143 ?_
        refine j_iload_n h dX3_floatsMove_146 rfl ?_
        refine m_ald11 h dX3_floatsMove_147 rfl (by omega) ?_
        refine j_sipush (v := 500) h dX3_floatsMove_148 (by decide) ?_
        refine j_icmp_lt (tgt := 192) h dX3_floatsMove_151 (by decide) (fun c151 => ?_) (fun c151 => ?_)
        · -- t
          refine j_iinc h dX3_floatsMove_192 rfl rfl (by decide) ?_
          refine j_goto (tgt := 124) h dX3_floatsMove_195 (by decide) ?_
          first
            | exact jj_ws (by rw [gnF, if_neg (fun z => c139 z.1)]) (ih2 (k + 1) (by omega) (by omega) _ ⟨rfl, by simp [lget, nI_succ], trivial⟩)
            | exact jj_ws (by rw [gnF, if_neg (fun z => absurd z.2 (Int32.not_le.mpr c151))]) (ih2 (k + 1) (by omega) (by omega) _ ⟨rfl, by simp [lget, nI_succ], trivial⟩)
            | exact jj_ws (by rw [gnF, if_pos ⟨c139, Int32.not_lt.mp c151⟩, show n = j by omega]) (ih2 (k + 1) (by omega) (by omega) _ ⟨rfl, by simp [lget, nI_succ], trivial⟩)
        · -- f
          refine j_aload_nR h dX3_floatsMove_154 rfl ?_
          refine m_get10 h hin3 (by decide +kernel) dX3_floatsMove_155 ?_
          refine j_iload_n h dX3_floatsMove_158 rfl ?_
          refine j_iconst (v := 2) h dX3_floatsMove_159 (by decide) ?_
          refine m_ast10 h dX3_floatsMove_160 rfl (by omega) ?_
          refine j_iconst (v := 0) h dX3_floatsMove_161 (by decide) ?_
          refine j_istore_n (i := 3) h dX3_floatsMove_162 rfl (by decide) ?_
          refine jj_loop (fun j : Nat => [(0, .ref (ad 0)), (2, .int (nI k)), (3, .int (nI j))]) (fun j : Nat => wM cI ad (dkL (up2 (gnF (mvF f i).1 n k) 10 k 2) (nI k) j) t) (fun j : Nat => j ≤ n) (fun j : Nat => n - j) 0 ⟨rfl, rfl, rfl, trivial⟩ rfl (by omega) (fun j hj ih3 => ?_)
          have hn3 : dkL (up2 (gnF (mvF f i).1 n k) 10 k 2) (nI k) j 7 0 = nI n := by rw [(dec.dkl _ _ _).2.2.1]; exact hn2
          have h53 : dkL (up2 (gnF (mvF f i).1 n k) 10 k 2) (nI k) j 5 j = up2 (gnF (mvF f i).1 n k) 10 k 2 5 j := by rw [(dec.dkl _ _ _).2.1]
          refine j_iload_n h dX3_floatsMove_163 rfl ?_
          refine j_aload_nR h dX3_floatsMove_164 rfl ?_
          refine m_get7 h hin3 (by decide +kernel) dX3_floatsMove_165 ?_
          refine j_icmp_ge (tgt := 192) h dX3_floatsMove_168 (by decide) (fun c168 => ?_) (fun c168 => ?_)
          · -- t
            rw [hn3, nI_leI (by omega) (by omega)] at c168
            refine j_iinc h dX3_floatsMove_192 rfl rfl (by decide) ?_
            refine j_goto (tgt := 124) h dX3_floatsMove_195 (by decide) ?_
            first
              | exact jj_ws (by rw [gnF, if_neg (fun z => c139 z.1)]) (ih2 (k + 1) (by omega) (by omega) _ ⟨rfl, by simp [lget, nI_succ], trivial⟩)
              | exact jj_ws (by rw [gnF, if_neg (fun z => absurd z.2 (Int32.not_le.mpr c151))]) (ih2 (k + 1) (by omega) (by omega) _ ⟨rfl, by simp [lget, nI_succ], trivial⟩)
              | exact jj_ws (by rw [gnF, if_pos ⟨c139, Int32.not_lt.mp c151⟩, show n = j by omega]) (ih2 (k + 1) (by omega) (by omega) _ ⟨rfl, by simp [lget, nI_succ], trivial⟩)
          · -- f
            rw [hn3, nI_leI (by omega) (by omega)] at c168
            refine j_aload_nR h dX3_floatsMove_171 rfl ?_
            refine m_get5 h hin3 (by decide +kernel) dX3_floatsMove_172 ?_
            refine j_iload_n h dX3_floatsMove_175 rfl ?_
            refine m_ald5 h dX3_floatsMove_176 rfl (by omega) ?_
            refine j_iload_n h dX3_floatsMove_177 rfl ?_
            refine j_icmp_ne (tgt := 186) h dX3_floatsMove_178 (by decide) (fun c178 => ?_) (fun c178 => ?_)
            · -- t
              refine j_iinc h dX3_floatsMove_186 rfl rfl (by decide) ?_
              refine j_goto (tgt := 163) h dX3_floatsMove_189 (by decide) ?_
              first
                | exact jj_ws (by rw [dkL, if_neg (fun z => c178 (h53.trans z))]) (ih3 (j + 1) (by omega) (by omega) _ ⟨rfl, rfl, by simp [lget, nI_succ], trivial⟩)
                | exact jj_ws (by rw [dkL, if_pos (h53.symm.trans c178)]) (ih3 (j + 1) (by omega) (by omega) _ ⟨rfl, rfl, by simp [lget, nI_succ], trivial⟩)
            · -- f
              refine j_aload_nR h dX3_floatsMove_181 rfl ?_
              refine j_iload_n h dX3_floatsMove_182 rfl ?_
              refine j_callVV (vc := (RX3, TX3, 22)) h dX3_floatsMove_183 (c_X3_darkens (a := j) (by omega)) (cwV 1 h.2.2.2.2.1 gX3_floatsMove_X3_darkens rfl rfl rfl (by decide +kernel) ⟨Nat.le_of_ble_eq_true rfl, Nat.le_of_ble_eq_true rfl⟩) 0 rfl rfl rfl rfl (Nat.le_of_ble_eq_true rfl) ⟨Nat.le_of_ble_eq_true rfl, Nat.le_of_ble_eq_true rfl⟩ (fun u183 hu183 => ?_)
              obtain rfl := hu183
              refine j_iinc h dX3_floatsMove_186 rfl rfl (by decide) ?_
              refine j_goto (tgt := 163) h dX3_floatsMove_189 (by decide) ?_
              first
                | exact jj_ws (by rw [dkL, if_neg (fun z => c178 (h53.trans z))]) (ih3 (j + 1) (by omega) (by omega) _ ⟨rfl, rfl, by simp [lget, nI_succ], trivial⟩)
                | exact jj_ws (by rw [dkL, if_pos (h53.symm.trans c178)]) (ih3 (j + 1) (by omega) (by omega) _ ⟨rfl, rfl, by simp [lget, nI_succ], trivial⟩)
  · -- f
    rw [hq1, nI_leI (by omega) (by omega)] at c9
    obtain ⟨r, hr8, hr⟩ := ho i (by omega)
    have hrc : (nI r).toNatClampNeg = r := nI_clamp (by omega)
    have hr1 : (mvF f i).1 12 i = f 12 i := by rw [mvF_k _ _ (by decide)]
    have hr2 : (mvF f i).1 12 i = nI r := hr1.trans hr
    have h10 : (mvF f i).1 10 = f 10 := mvF_k _ _ (by decide)
    refine j_aload_nR h dX3_floatsMove_12 rfl ?_
    refine m_get12 h hin3 (by decide +kernel) dX3_floatsMove_13 ?_
    refine j_iload_n h dX3_floatsMove_16 rfl ?_
    refine m_ald12 h dX3_floatsMove_17 rfl (by omega) ?_
    refine j_istore_n (i := 3) h dX3_floatsMove_18 rfl (by decide) ?_
    refine j_aload_nR h dX3_floatsMove_19 rfl ?_
    refine m_get10 h hin3 (by decide +kernel) dX3_floatsMove_20 ?_
    refine j_iload_n h dX3_floatsMove_23 rfl ?_
    refine m_ald10 h dX3_floatsMove_24 hr2 hr8 ?_
    refine j_iconst (v := 1) h dX3_floatsMove_25 (by decide) ?_
    refine j_icmp_ne (tgt := 116) h dX3_floatsMove_26 (by decide) (fun c26 => ?_) (fun c26 => ?_)
    · -- t
      rw [h10] at c26
      refine j_iinc h dX3_floatsMove_116 rfl rfl (by decide) ?_
      refine j_goto (tgt := 4) h dX3_floatsMove_119 (by decide) ?_
      first
        | exact jj_ws (by rw [mvF_n (by rw [hr, hrc]; exact c26)]) (ih (i + 1) (by omega) (by omega) _ ⟨rfl, by rw [mvF_n (by rw [hr, hrc]; exact c26)]; rfl, by simp [lget, nI_succ], trivial⟩)
        | exact jj_ws (by rw [mvF_s (by rw [hr, hrc]; exact c26), hr, hrc]; exact congrArg (fun z => wM cI ad (up2 (mvF f i).1 11 r z) t) (by simp only [moveF, *, reduceIte])) (ih (i + 1) (by omega) (by omega) _ ⟨rfl, by rw [mvF_s (by rw [hr, hrc]; exact c26)]; exact congrArg (fun z => some (Value.int z)) hr1, by simp [lget, nI_succ], trivial⟩)
    · -- f
      rw [h10] at c26
      refine j_aload_nR h dX3_floatsMove_29 rfl ?_
      refine m_get11 h hin3 (by decide +kernel) dX3_floatsMove_30 ?_
      refine j_iload_n h dX3_floatsMove_33 rfl ?_
      refine m_ald11 h dX3_floatsMove_34 hr2 hr8 ?_
      refine j_aload_nR h dX3_floatsMove_35 rfl ?_
      refine m_get8 h hin3 (by decide +kernel) dX3_floatsMove_36 ?_
      refine j_iload_n h dX3_floatsMove_39 rfl ?_
      refine m_ald8 h dX3_floatsMove_40 hr2 hr8 ?_
      refine j_iadd h dX3_floatsMove_41 ?_
      refine j_istore h dX3_floatsMove_42 (by decide) ?_
      refine j_iload_n h dX3_floatsMove_44 rfl ?_
      refine j_iconst (v := (-1)) h dX3_floatsMove_45 (by decide) ?_
      refine j_icmp_ne (tgt := 54) h dX3_floatsMove_46 (by decide) (fun c46 => ?_) (fun c46 => ?_)
      · -- t
        obtain ⟨ra, hra8, hra⟩ := (mvF_in ho (i := i) (by omega)).resolve_left c46
        have c46b : ¬ nI ra = -1 := by rw [← hra]; exact c46
        have hrac : (nI ra).toNatClampNeg = ra := nI_clamp (by omega)
        refine j_aload_nR h dX3_floatsMove_54 rfl ?_
        refine m_get11 h hin3 (by decide +kernel) dX3_floatsMove_55 ?_
        refine j_iload_n h dX3_floatsMove_58 rfl ?_
        refine m_ald11 h dX3_floatsMove_59 hra hra8 ?_
        refine j_bipush (v := 9) h dX3_floatsMove_60 (by decide) ?_
        refine j_isub h dX3_floatsMove_62 ?_
        refine j_aload_nR h dX3_floatsMove_63 rfl ?_
        refine m_get15 h hin3 (by decide +kernel) dX3_floatsMove_64 ?_
        refine j_isub h dX3_floatsMove_67 ?_
        refine j_istore h dX3_floatsMove_68 (by decide) ?_
        refine j_iload h dX3_floatsMove_70 rfl ?_
        refine j_iload h dX3_floatsMove_72 rfl ?_
        refine j_icmp_ge (tgt := 82) h dX3_floatsMove_74 (by decide) (fun c74 => ?_) (fun c74 => ?_)
        · -- t
          rw [← Int32.not_lt] at c74
          refine j_iload h dX3_floatsMove_82 rfl ?_
          refine j_istore h dX3_floatsMove_84 (by decide) ?_
          refine j_aload_nR h dX3_floatsMove_86 rfl ?_
          refine m_get11 h hin3 (by decide +kernel) dX3_floatsMove_87 ?_
          refine j_iload_n h dX3_floatsMove_90 rfl ?_
          refine j_iload h dX3_floatsMove_91 rfl ?_
          refine j_aload_nR h dX3_floatsMove_93 rfl ?_
          refine m_get11 h hin3 (by decide +kernel) dX3_floatsMove_94 ?_
          refine j_iload_n h dX3_floatsMove_97 rfl ?_
          refine m_ald11 h dX3_floatsMove_98 hr2 hr8 ?_
          refine j_icmp_le (tgt := 107) h dX3_floatsMove_99 (by decide) (fun c99 => ?_) (fun c99 => ?_)
          · -- t
            rw [← Int32.not_lt] at c99
            refine j_aload_nR h dX3_floatsMove_107 rfl ?_
            refine m_get11 h hin3 (by decide +kernel) dX3_floatsMove_108 ?_
            refine j_iload_n h dX3_floatsMove_111 rfl ?_
            refine m_ald11 h dX3_floatsMove_112 hr2 hr8 ?_
            refine m_ast11 h dX3_floatsMove_113 hr2 hr8 ?_
            refine j_iload_n h dX3_floatsMove_114 rfl ?_
            refine j_istore_n (i := 1) h dX3_floatsMove_115 rfl (by decide) ?_
            refine j_iinc h dX3_floatsMove_116 rfl rfl (by decide) ?_
            refine j_goto (tgt := 4) h dX3_floatsMove_119 (by decide) ?_
            first
              | exact jj_ws (by rw [mvF_n (by rw [hr, hrc]; exact c26)]) (ih (i + 1) (by omega) (by omega) _ ⟨rfl, by rw [mvF_n (by rw [hr, hrc]; exact c26)]; rfl, by simp [lget, nI_succ], trivial⟩)
              | exact jj_ws (by rw [mvF_s (by rw [hr, hrc]; exact c26), hr, hrc]; exact congrArg (fun z => wM cI ad (up2 (mvF f i).1 11 r z) t) (by simp only [moveF, *, reduceIte])) (ih (i + 1) (by omega) (by omega) _ ⟨rfl, by rw [mvF_s (by rw [hr, hrc]; exact c26)]; exact congrArg (fun z => some (Value.int z)) hr1, by simp [lget, nI_succ], trivial⟩)
          · -- f
            rw [Int32.not_le] at c99
            refine j_iload h dX3_floatsMove_102 rfl ?_
            refine j_goto (tgt := 113) h dX3_floatsMove_104 (by decide) ?_
            refine m_ast11 h dX3_floatsMove_113 hr2 hr8 ?_
            refine j_iload_n h dX3_floatsMove_114 rfl ?_
            refine j_istore_n (i := 1) h dX3_floatsMove_115 rfl (by decide) ?_
            refine j_iinc h dX3_floatsMove_116 rfl rfl (by decide) ?_
            refine j_goto (tgt := 4) h dX3_floatsMove_119 (by decide) ?_
            first
              | exact jj_ws (by rw [mvF_n (by rw [hr, hrc]; exact c26)]) (ih (i + 1) (by omega) (by omega) _ ⟨rfl, by rw [mvF_n (by rw [hr, hrc]; exact c26)]; rfl, by simp [lget, nI_succ], trivial⟩)
              | exact jj_ws (by rw [mvF_s (by rw [hr, hrc]; exact c26), hr, hrc]; exact congrArg (fun z => wM cI ad (up2 (mvF f i).1 11 r z) t) (by simp only [moveF, *, reduceIte])) (ih (i + 1) (by omega) (by omega) _ ⟨rfl, by rw [mvF_s (by rw [hr, hrc]; exact c26)]; exact congrArg (fun z => some (Value.int z)) hr1, by simp [lget, nI_succ], trivial⟩)
        · -- f
          rw [Int32.not_le] at c74
          refine j_iload h dX3_floatsMove_77 rfl ?_
          refine j_goto (tgt := 84) h dX3_floatsMove_79 (by decide) ?_
          refine j_istore h dX3_floatsMove_84 (by decide) ?_
          refine j_aload_nR h dX3_floatsMove_86 rfl ?_
          refine m_get11 h hin3 (by decide +kernel) dX3_floatsMove_87 ?_
          refine j_iload_n h dX3_floatsMove_90 rfl ?_
          refine j_iload h dX3_floatsMove_91 rfl ?_
          refine j_aload_nR h dX3_floatsMove_93 rfl ?_
          refine m_get11 h hin3 (by decide +kernel) dX3_floatsMove_94 ?_
          refine j_iload_n h dX3_floatsMove_97 rfl ?_
          refine m_ald11 h dX3_floatsMove_98 hr2 hr8 ?_
          refine j_icmp_le (tgt := 107) h dX3_floatsMove_99 (by decide) (fun c99 => ?_) (fun c99 => ?_)
          · -- t
            rw [← Int32.not_lt] at c99
            refine j_aload_nR h dX3_floatsMove_107 rfl ?_
            refine m_get11 h hin3 (by decide +kernel) dX3_floatsMove_108 ?_
            refine j_iload_n h dX3_floatsMove_111 rfl ?_
            refine m_ald11 h dX3_floatsMove_112 hr2 hr8 ?_
            refine m_ast11 h dX3_floatsMove_113 hr2 hr8 ?_
            refine j_iload_n h dX3_floatsMove_114 rfl ?_
            refine j_istore_n (i := 1) h dX3_floatsMove_115 rfl (by decide) ?_
            refine j_iinc h dX3_floatsMove_116 rfl rfl (by decide) ?_
            refine j_goto (tgt := 4) h dX3_floatsMove_119 (by decide) ?_
            first
              | exact jj_ws (by rw [mvF_n (by rw [hr, hrc]; exact c26)]) (ih (i + 1) (by omega) (by omega) _ ⟨rfl, by rw [mvF_n (by rw [hr, hrc]; exact c26)]; rfl, by simp [lget, nI_succ], trivial⟩)
              | exact jj_ws (by rw [mvF_s (by rw [hr, hrc]; exact c26), hr, hrc]; exact congrArg (fun z => wM cI ad (up2 (mvF f i).1 11 r z) t) (by simp only [moveF, *, reduceIte])) (ih (i + 1) (by omega) (by omega) _ ⟨rfl, by rw [mvF_s (by rw [hr, hrc]; exact c26)]; exact congrArg (fun z => some (Value.int z)) hr1, by simp [lget, nI_succ], trivial⟩)
          · -- f
            rw [Int32.not_le] at c99
            refine j_iload h dX3_floatsMove_102 rfl ?_
            refine j_goto (tgt := 113) h dX3_floatsMove_104 (by decide) ?_
            refine m_ast11 h dX3_floatsMove_113 hr2 hr8 ?_
            refine j_iload_n h dX3_floatsMove_114 rfl ?_
            refine j_istore_n (i := 1) h dX3_floatsMove_115 rfl (by decide) ?_
            refine j_iinc h dX3_floatsMove_116 rfl rfl (by decide) ?_
            refine j_goto (tgt := 4) h dX3_floatsMove_119 (by decide) ?_
            first
              | exact jj_ws (by rw [mvF_n (by rw [hr, hrc]; exact c26)]) (ih (i + 1) (by omega) (by omega) _ ⟨rfl, by rw [mvF_n (by rw [hr, hrc]; exact c26)]; rfl, by simp [lget, nI_succ], trivial⟩)
              | exact jj_ws (by rw [mvF_s (by rw [hr, hrc]; exact c26), hr, hrc]; exact congrArg (fun z => wM cI ad (up2 (mvF f i).1 11 r z) t) (by simp only [moveF, *, reduceIte])) (ih (i + 1) (by omega) (by omega) _ ⟨rfl, by rw [mvF_s (by rw [hr, hrc]; exact c26)]; exact congrArg (fun z => some (Value.int z)) hr1, by simp [lget, nI_succ], trivial⟩)
      · -- f
        refine j_iload h dX3_floatsMove_49 rfl ?_
        refine j_goto (tgt := 68) h dX3_floatsMove_51 (by decide) ?_
        refine j_istore h dX3_floatsMove_68 (by decide) ?_
        refine j_iload h dX3_floatsMove_70 rfl ?_
        refine j_iload h dX3_floatsMove_72 rfl ?_
        refine j_icmp_ge (tgt := 82) h dX3_floatsMove_74 (by decide) (fun c74 => ?_) (fun c74 => ?_)
        · -- t
          rw [← Int32.not_lt] at c74
          refine j_iload h dX3_floatsMove_82 rfl ?_
          refine j_istore h dX3_floatsMove_84 (by decide) ?_
          refine j_aload_nR h dX3_floatsMove_86 rfl ?_
          refine m_get11 h hin3 (by decide +kernel) dX3_floatsMove_87 ?_
          refine j_iload_n h dX3_floatsMove_90 rfl ?_
          refine j_iload h dX3_floatsMove_91 rfl ?_
          refine j_aload_nR h dX3_floatsMove_93 rfl ?_
          refine m_get11 h hin3 (by decide +kernel) dX3_floatsMove_94 ?_
          refine j_iload_n h dX3_floatsMove_97 rfl ?_
          refine m_ald11 h dX3_floatsMove_98 hr2 hr8 ?_
          refine j_icmp_le (tgt := 107) h dX3_floatsMove_99 (by decide) (fun c99 => ?_) (fun c99 => ?_)
          · -- t
            rw [← Int32.not_lt] at c99
            refine j_aload_nR h dX3_floatsMove_107 rfl ?_
            refine m_get11 h hin3 (by decide +kernel) dX3_floatsMove_108 ?_
            refine j_iload_n h dX3_floatsMove_111 rfl ?_
            refine m_ald11 h dX3_floatsMove_112 hr2 hr8 ?_
            refine m_ast11 h dX3_floatsMove_113 hr2 hr8 ?_
            refine j_iload_n h dX3_floatsMove_114 rfl ?_
            refine j_istore_n (i := 1) h dX3_floatsMove_115 rfl (by decide) ?_
            refine j_iinc h dX3_floatsMove_116 rfl rfl (by decide) ?_
            refine j_goto (tgt := 4) h dX3_floatsMove_119 (by decide) ?_
            first
              | exact jj_ws (by rw [mvF_n (by rw [hr, hrc]; exact c26)]) (ih (i + 1) (by omega) (by omega) _ ⟨rfl, by rw [mvF_n (by rw [hr, hrc]; exact c26)]; rfl, by simp [lget, nI_succ], trivial⟩)
              | exact jj_ws (by rw [mvF_s (by rw [hr, hrc]; exact c26), hr, hrc]; exact congrArg (fun z => wM cI ad (up2 (mvF f i).1 11 r z) t) (by simp only [moveF, *, reduceIte])) (ih (i + 1) (by omega) (by omega) _ ⟨rfl, by rw [mvF_s (by rw [hr, hrc]; exact c26)]; exact congrArg (fun z => some (Value.int z)) hr1, by simp [lget, nI_succ], trivial⟩)
          · -- f
            rw [Int32.not_le] at c99
            refine j_iload h dX3_floatsMove_102 rfl ?_
            refine j_goto (tgt := 113) h dX3_floatsMove_104 (by decide) ?_
            refine m_ast11 h dX3_floatsMove_113 hr2 hr8 ?_
            refine j_iload_n h dX3_floatsMove_114 rfl ?_
            refine j_istore_n (i := 1) h dX3_floatsMove_115 rfl (by decide) ?_
            refine j_iinc h dX3_floatsMove_116 rfl rfl (by decide) ?_
            refine j_goto (tgt := 4) h dX3_floatsMove_119 (by decide) ?_
            first
              | exact jj_ws (by rw [mvF_n (by rw [hr, hrc]; exact c26)]) (ih (i + 1) (by omega) (by omega) _ ⟨rfl, by rw [mvF_n (by rw [hr, hrc]; exact c26)]; rfl, by simp [lget, nI_succ], trivial⟩)
              | exact jj_ws (by rw [mvF_s (by rw [hr, hrc]; exact c26), hr, hrc]; exact congrArg (fun z => wM cI ad (up2 (mvF f i).1 11 r z) t) (by simp only [moveF, *, reduceIte])) (ih (i + 1) (by omega) (by omega) _ ⟨rfl, by rw [mvF_s (by rw [hr, hrc]; exact c26)]; exact congrArg (fun z => some (Value.int z)) hr1, by simp [lget, nI_succ], trivial⟩)
        · -- f
          rw [Int32.not_le] at c74
          refine j_iload h dX3_floatsMove_77 rfl ?_
          refine j_goto (tgt := 84) h dX3_floatsMove_79 (by decide) ?_
          refine j_istore h dX3_floatsMove_84 (by decide) ?_
          refine j_aload_nR h dX3_floatsMove_86 rfl ?_
          refine m_get11 h hin3 (by decide +kernel) dX3_floatsMove_87 ?_
          refine j_iload_n h dX3_floatsMove_90 rfl ?_
          refine j_iload h dX3_floatsMove_91 rfl ?_
          refine j_aload_nR h dX3_floatsMove_93 rfl ?_
          refine m_get11 h hin3 (by decide +kernel) dX3_floatsMove_94 ?_
          refine j_iload_n h dX3_floatsMove_97 rfl ?_
          refine m_ald11 h dX3_floatsMove_98 hr2 hr8 ?_
          refine j_icmp_le (tgt := 107) h dX3_floatsMove_99 (by decide) (fun c99 => ?_) (fun c99 => ?_)
          · -- t
            rw [← Int32.not_lt] at c99
            refine j_aload_nR h dX3_floatsMove_107 rfl ?_
            refine m_get11 h hin3 (by decide +kernel) dX3_floatsMove_108 ?_
            refine j_iload_n h dX3_floatsMove_111 rfl ?_
            refine m_ald11 h dX3_floatsMove_112 hr2 hr8 ?_
            refine m_ast11 h dX3_floatsMove_113 hr2 hr8 ?_
            refine j_iload_n h dX3_floatsMove_114 rfl ?_
            refine j_istore_n (i := 1) h dX3_floatsMove_115 rfl (by decide) ?_
            refine j_iinc h dX3_floatsMove_116 rfl rfl (by decide) ?_
            refine j_goto (tgt := 4) h dX3_floatsMove_119 (by decide) ?_
            first
              | exact jj_ws (by rw [mvF_n (by rw [hr, hrc]; exact c26)]) (ih (i + 1) (by omega) (by omega) _ ⟨rfl, by rw [mvF_n (by rw [hr, hrc]; exact c26)]; rfl, by simp [lget, nI_succ], trivial⟩)
              | exact jj_ws (by rw [mvF_s (by rw [hr, hrc]; exact c26), hr, hrc]; exact congrArg (fun z => wM cI ad (up2 (mvF f i).1 11 r z) t) (by simp only [moveF, *, reduceIte])) (ih (i + 1) (by omega) (by omega) _ ⟨rfl, by rw [mvF_s (by rw [hr, hrc]; exact c26)]; exact congrArg (fun z => some (Value.int z)) hr1, by simp [lget, nI_succ], trivial⟩)
          · -- f
            rw [Int32.not_le] at c99
            refine j_iload h dX3_floatsMove_102 rfl ?_
            refine j_goto (tgt := 113) h dX3_floatsMove_104 (by decide) ?_
            refine m_ast11 h dX3_floatsMove_113 hr2 hr8 ?_
            refine j_iload_n h dX3_floatsMove_114 rfl ?_
            refine j_istore_n (i := 1) h dX3_floatsMove_115 rfl (by decide) ?_
            refine j_iinc h dX3_floatsMove_116 rfl rfl (by decide) ?_
            refine j_goto (tgt := 4) h dX3_floatsMove_119 (by decide) ?_
            first
              | exact jj_ws (by rw [mvF_n (by rw [hr, hrc]; exact c26)]) (ih (i + 1) (by omega) (by omega) _ ⟨rfl, by rw [mvF_n (by rw [hr, hrc]; exact c26)]; rfl, by simp [lget, nI_succ], trivial⟩)
              | exact jj_ws (by rw [mvF_s (by rw [hr, hrc]; exact c26), hr, hrc]; exact congrArg (fun z => wM cI ad (up2 (mvF f i).1 11 r z) t) (by simp only [moveF, *, reduceIte])) (ih (i + 1) (by omega) (by omega) _ ⟨rfl, by rw [mvF_s (by rw [hr, hrc]; exact c26)]; exact congrArg (fun z => some (Value.int z)) hr1, by simp [lget, nI_succ], trivial⟩)
set_option maxHeartbeats 4000000 in
set_option maxRecDepth 100000 in
theorem c_X3_burns {l : Launch} {D : va_G} {cI cL cR : ClassId} {ad : Nat → Nat} {f : St} {t : Int32} {n tm : Nat} (hn : f 7 0 = nI n) (hn24 : n ≤ 24) (ht : f 18 0 = nI tm) (htm : tm < 2 ^ 30) (hlt : LT f n) : ctV l D vwCl (tyW cI cL cR) yX3_burns wsX3_burns { frames := 3, cells := 0, slots := 0, locals := 68 } [.ref (ad 0)] (wM cI ad f t) (fun u => u = wM cI ad (brF f n tm) t) 0 0 := by
  refine ctV_of (cc := cX3_burns) (maxL := 3) (ret := none) (by decide) rfl rfl (Nat.le_of_ble_eq_true rfl) (by simp [Value.category]) [(0, .ref (ad 0))] rfl ?_
  intro p e s m args below meth c sz h hrt hlk hnm
  have hin3 : ∀ x ∈ wsX30, x ∈ wsX3_burns := by decide +kernel
  refine jj_cut 23 [(0, .ref (ad 0))] [] (fun v => v = guF f tm) (fun v23 hv23 => ?_) (fun cut23 => ?_)
  · -- behind
    obtain rfl := hv23
    refine j_istore_n (i := 1) h dX3_burns_23 rfl (by decide) ?_
    refine j_iconst (v := 0) h dX3_burns_24 (by decide) ?_
    refine j_istore_n (i := 2) h dX3_burns_25 rfl (by decide) ?_
    refine jj_loop (fun i : Nat => [(0, .ref (ad 0)), (1, .int (guF f tm)), (2, .int (nI i))]) (fun i : Nat => wM cI ad (blF f (guF f tm) i) t) (fun i : Nat => i ≤ n) (fun i : Nat => n - i) 0 ⟨rfl, rfl, rfl, trivial⟩ rfl (by omega) (fun i hi ih => ?_)
    have hn1 : blF f (guF f tm) i 7 0 = nI n := by rw [(dec.bl _ _ _).2.2.1]; exact hn
    refine j_iload_n h dX3_burns_26 rfl ?_
    refine j_aload_nR h dX3_burns_27 rfl ?_
    refine m_get7 h hin3 (by decide +kernel) dX3_burns_28 ?_
    refine j_icmp_ge (tgt := 86) h dX3_burns_31 (by decide) (fun c31 => ?_) (fun c31 => ?_)
    · -- t
      rw [hn1, nI_leI (by omega) (by omega)] at c31
      refine j_iconst (v := 0) h dX3_burns_86 (by decide) ?_
      refine j_istore_n (i := 2) h dX3_burns_87 rfl (by decide) ?_
      obtain rfl : i = n := by omega
      refine jj_loop (fun k : Nat => [(0, .ref (ad 0)), (2, .int (nI k))]) (fun k : Nat => wM cI ad (buF (blF f (guF f tm) i) k) t) (fun k : Nat => k ≤ i) (fun k : Nat => i - k) 0 ⟨rfl, rfl, trivial⟩ rfl (by omega) (fun k hk ih2 => ?_)
      have hn2 : buF (blF f (guF f tm) i) k 7 0 = nI i := by rw [(dec.bu _ _).2.2.1]; exact hn1
      refine j_iload_n h dX3_burns_88 rfl ?_
      refine j_aload_nR h dX3_burns_89 rfl ?_
      refine m_get7 h hin3 (by decide +kernel) dX3_burns_90 ?_
      refine j_icmp_ge (tgt := 142) h dX3_burns_93 (by decide) (fun c93 => ?_) (fun c93 => ?_)
      · -- t
        rw [hn2, nI_leI (by omega) (by omega)] at c93
        refine j_iconst (v := 0) h dX3_burns_142 (by decide) ?_
        refine j_istore_n (i := 2) h dX3_burns_143 rfl (by decide) ?_
        obtain rfl : k = i := by omega
        have hd0 : dec (buF (blF f (guF f tm) k) k) f := (dec.bu _ _).tr (dec.bl _ _ _)
        refine jj_loop (fun j : Nat => [(0, .ref (ad 0)), (2, .int (nI j))]) (fun j : Nat => wM cI ad (maF (buF (blF f (guF f tm) k) k) j) t) (fun j : Nat => j ≤ k) (fun j : Nat => k - j) 0 ⟨rfl, rfl, trivial⟩ rfl (by omega) (fun j hj ih3 => ?_)
        have hn3 : maF (buF (blF f (guF f tm) k) k) j 7 0 = nI k := by rw [(dec.ma _ _).2.2.1]; exact hn2
        have hl3 : LT (maF (buF (blF f (guF f tm) k) k) j) k := hlt.dec ((dec.ma _ _).tr hd0)
        refine j_iload_n h dX3_burns_144 rfl ?_
        refine j_aload_nR h dX3_burns_145 rfl ?_
        refine m_get7 h hin3 (by decide +kernel) dX3_burns_146 ?_
        refine j_icmp_ge (tgt := 194) h dX3_burns_149 (by decide) (fun c149 => ?_) (fun c149 => ?_)
        · -- t
          rw [hn3, nI_leI (by omega) (by omega)] at c149
          exact j_vret h hrt hlk dX3_burns_194 (by decide) (by decide) (by rw [show j = k by omega]; rfl)
        · -- f
          rw [hn3, nI_leI (by omega) (by omega)] at c149
          refine j_aload_nR h dX3_burns_152 rfl ?_
          refine m_get3 h hin3 (by decide +kernel) dX3_burns_153 ?_
          refine j_iload_n h dX3_burns_156 rfl ?_
          refine m_ald3 h dX3_burns_157 rfl (by omega) ?_
          refine j_iconst (v := 1) h dX3_burns_158 (by decide) ?_
          refine j_icmp_ne (tgt := 188) h dX3_burns_159 (by decide) (fun c159 => ?_) (fun c159 => ?_)
          · -- t
            refine j_iinc h dX3_burns_188 rfl rfl (by decide) ?_
            refine j_goto (tgt := 144) h dX3_burns_191 (by decide) ?_
            first
              | exact jj_ws (by rw [maF, if_neg (fun z => c159 z.1)]) (ih3 (j + 1) (by omega) (by omega) _ ⟨rfl, by simp [lget, nI_succ], trivial⟩)
              | exact jj_ws (by rw [maF, if_neg (fun z => by rw [z.2] at c168; exact absurd c168 (by decide))]) (ih3 (j + 1) (by omega) (by omega) _ ⟨rfl, by simp [lget, nI_succ], trivial⟩)
              | exact jj_ws (by rw [maF, if_pos ⟨c159, bi_n0.mp c168⟩]; rfl) (ih3 (j + 1) (by omega) (by omega) _ ⟨rfl, by simp [lget, nI_succ], trivial⟩)
          · -- f
            obtain ⟨rj, hrj8, hrj⟩ := hl3 j (by omega) c159
            refine j_aload_nR h dX3_burns_162 rfl ?_
            refine j_iload_n h dX3_burns_163 rfl ?_
            refine j_iload_n h dX3_burns_164 rfl ?_
            refine j_callVI (vc := (RX3, TX3, 22)) h dX3_burns_165 (c_X3_isNear (a := j) (B := j) (r := rj) (by omega) (by omega) hrj8 hrj (fun z hz => hl3 z (by omega))) (cwV 2 h.2.2.2.2.1 gX3_burns_X3_isNear rfl rfl rfl (by decide +kernel) ⟨Nat.le_of_ble_eq_true rfl, Nat.le_of_ble_eq_true rfl⟩) 0 rfl rfl rfl rfl (Nat.le_of_ble_eq_true rfl) ⟨Nat.le_of_ble_eq_true rfl, Nat.le_of_ble_eq_true rfl⟩ (fun r165 u165 hu165 => ?_)
            obtain ⟨rfl, rfl⟩ := hu165
            refine j_if_eq (tgt := 188) h dX3_burns_168 (by decide) (fun c168 => ?_) (fun c168 => ?_)
            · -- t
              refine j_iinc h dX3_burns_188 rfl rfl (by decide) ?_
              refine j_goto (tgt := 144) h dX3_burns_191 (by decide) ?_
              first
                | exact jj_ws (by rw [maF, if_neg (fun z => c159 z.1)]) (ih3 (j + 1) (by omega) (by omega) _ ⟨rfl, by simp [lget, nI_succ], trivial⟩)
                | exact jj_ws (by rw [maF, if_neg (fun z => by rw [z.2] at c168; exact absurd c168 (by decide))]) (ih3 (j + 1) (by omega) (by omega) _ ⟨rfl, by simp [lget, nI_succ], trivial⟩)
                | exact jj_ws (by rw [maF, if_pos ⟨c159, bi_n0.mp c168⟩]; rfl) (ih3 (j + 1) (by omega) (by omega) _ ⟨rfl, by simp [lget, nI_succ], trivial⟩)
            · -- f
              refine j_aload_nR h dX3_burns_171 rfl ?_
              refine m_get3 h hin3 (by decide +kernel) dX3_burns_172 ?_
              refine j_iload_n h dX3_burns_175 rfl ?_
              refine j_iconst (v := 0) h dX3_burns_176 (by decide) ?_
              refine m_ast3 h dX3_burns_177 rfl (by omega) ?_
              refine j_aload_nR h dX3_burns_178 rfl ?_
              refine j_dup h dX3_burns_179 rfl ?_
              refine m_get20 h hin3 (by decide +kernel) dX3_burns_180 ?_
              refine j_iconst (v := 1) h dX3_burns_183 (by decide) ?_
              refine j_iadd h dX3_burns_184 ?_
              refine m_put20 h hin3 (by decide +kernel) dX3_burns_185 ?_
              refine j_iinc h dX3_burns_188 rfl rfl (by decide) ?_
              refine j_goto (tgt := 144) h dX3_burns_191 (by decide) ?_
              first
                | exact jj_ws (by rw [maF, if_neg (fun z => c159 z.1)]) (ih3 (j + 1) (by omega) (by omega) _ ⟨rfl, by simp [lget, nI_succ], trivial⟩)
                | exact jj_ws (by rw [maF, if_neg (fun z => by rw [z.2] at c168; exact absurd c168 (by decide))]) (ih3 (j + 1) (by omega) (by omega) _ ⟨rfl, by simp [lget, nI_succ], trivial⟩)
                | exact jj_ws (by rw [maF, if_pos ⟨c159, bi_n0.mp c168⟩]; rfl) (ih3 (j + 1) (by omega) (by omega) _ ⟨rfl, by simp [lget, nI_succ], trivial⟩)
      · -- f
        rw [hn2, nI_leI (by omega) (by omega)] at c93
        refine j_aload_nR h dX3_burns_96 rfl ?_
        refine m_get3 h hin3 (by decide +kernel) dX3_burns_97 ?_
        refine j_iload_n h dX3_burns_100 rfl ?_
        refine m_ald3 h dX3_burns_101 rfl (by omega) ?_
        refine j_iconst (v := 1) h dX3_burns_102 (by decide) ?_
        refine j_icmp_ne (tgt := 136) h dX3_burns_103 (by decide) (fun c103 => ?_) (fun c103 => ?_)
        · -- t
          refine j_iinc h dX3_burns_136 rfl rfl (by decide) ?_
          refine j_goto (tgt := 88) h dX3_burns_139 (by decide) ?_
          first
            | exact jj_ws (by rw [buF, if_neg c103]) (ih2 (k + 1) (by omega) (by omega) _ ⟨rfl, by simp [lget, nI_succ], trivial⟩)
            | exact jj_ws (by rw [buF, if_pos c103, if_pos (by rw [← c127, up2_self])]) (ih2 (k + 1) (by omega) (by omega) _ ⟨rfl, by simp [lget, nI_succ], trivial⟩)
            | exact jj_ws (by rw [buF, if_pos c103, if_neg (by rw [up2_self] at c127; exact c127)]) (ih2 (k + 1) (by omega) (by omega) _ ⟨rfl, by simp [lget, nI_succ], trivial⟩)
        · -- f
          refine j_aload_nR h dX3_burns_106 rfl ?_
          refine m_get4 h hin3 (by decide +kernel) dX3_burns_107 ?_
          refine j_iload_n h dX3_burns_110 rfl ?_
          refine j_dup2 h dX3_burns_111 rfl rfl ?_
          refine m_ald4 h dX3_burns_112 rfl (by omega) ?_
          refine j_iconst (v := 1) h dX3_burns_113 (by decide) ?_
          refine j_isub h dX3_burns_114 ?_
          refine m_ast4 h dX3_burns_115 rfl (by omega) ?_
          refine j_aload_nR h dX3_burns_116 rfl ?_
          refine m_get3 h hin3 (by decide +kernel) dX3_burns_117 ?_
          refine j_iload_n h dX3_burns_120 rfl ?_
          refine j_aload_nR h dX3_burns_121 rfl ?_
          refine m_get4 h hin3 (by decide +kernel) dX3_burns_122 ?_
          refine j_iload_n h dX3_burns_125 rfl ?_
          refine m_ald4 h dX3_burns_126 rfl (by omega) ?_
          refine j_if_ne (tgt := 134) h dX3_burns_127 (by decide) (fun c127 => ?_) (fun c127 => ?_)
          · -- t
            refine j_iconst (v := 1) h dX3_burns_134 (by decide) ?_
            refine m_ast3 h dX3_burns_135 rfl (by omega) ?_
            refine j_iinc h dX3_burns_136 rfl rfl (by decide) ?_
            refine j_goto (tgt := 88) h dX3_burns_139 (by decide) ?_
            first
              | exact jj_ws (by rw [buF, if_neg c103]) (ih2 (k + 1) (by omega) (by omega) _ ⟨rfl, by simp [lget, nI_succ], trivial⟩)
              | exact jj_ws (by rw [buF, if_pos c103, if_pos (by rw [← c127, up2_self])]) (ih2 (k + 1) (by omega) (by omega) _ ⟨rfl, by simp [lget, nI_succ], trivial⟩)
              | exact jj_ws (by rw [buF, if_pos c103, if_neg (by rw [up2_self] at c127; exact c127)]) (ih2 (k + 1) (by omega) (by omega) _ ⟨rfl, by simp [lget, nI_succ], trivial⟩)
          · -- f
            refine j_iconst (v := 2) h dX3_burns_130 (by decide) ?_
            refine j_goto (tgt := 135) h dX3_burns_131 (by decide) ?_
            refine m_ast3 h dX3_burns_135 rfl (by omega) ?_
            refine j_iinc h dX3_burns_136 rfl rfl (by decide) ?_
            refine j_goto (tgt := 88) h dX3_burns_139 (by decide) ?_
            first
              | exact jj_ws (by rw [buF, if_neg c103]) (ih2 (k + 1) (by omega) (by omega) _ ⟨rfl, by simp [lget, nI_succ], trivial⟩)
              | exact jj_ws (by rw [buF, if_pos c103, if_pos (by rw [← c127, up2_self])]) (ih2 (k + 1) (by omega) (by omega) _ ⟨rfl, by simp [lget, nI_succ], trivial⟩)
              | exact jj_ws (by rw [buF, if_pos c103, if_neg (by rw [up2_self] at c127; exact c127)]) (ih2 (k + 1) (by omega) (by omega) _ ⟨rfl, by simp [lget, nI_succ], trivial⟩)
    · -- f
      rw [hn1, nI_leI (by omega) (by omega)] at c31
      refine j_aload_nR h dX3_burns_34 rfl ?_
      refine m_get3 h hin3 (by decide +kernel) dX3_burns_35 ?_
      refine j_iload_n h dX3_burns_38 rfl ?_
      refine m_ald3 h dX3_burns_39 rfl (by omega) ?_
      refine j_iconst (v := 1) h dX3_burns_40 (by decide) ?_
      refine j_icmp_ne (tgt := 80) h dX3_burns_41 (by decide) (fun c41 => ?_) (fun c41 => ?_)
      · -- t
        refine j_iinc h dX3_burns_80 rfl rfl (by decide) ?_
        refine j_goto (tgt := 26) h dX3_burns_83 (by decide) ?_
        first
          | exact jj_ws (by rw [blF, if_neg (fun z => c41 z.1)]) (ih (i + 1) (by omega) (by omega) _ ⟨rfl, rfl, by simp [lget, nI_succ], trivial⟩)
          | exact jj_ws (by rw [blF, if_neg (fun z => absurd z.2 (Int32.not_lt.mpr c60))]) (ih (i + 1) (by omega) (by omega) _ ⟨rfl, rfl, by simp [lget, nI_succ], trivial⟩)
          | exact jj_ws (by rw [blF, if_pos ⟨c41, Int32.not_le.mp c60⟩]; rfl) (ih (i + 1) (by omega) (by omega) _ ⟨rfl, rfl, by simp [lget, nI_succ], trivial⟩)
      · -- f
        refine j_aload_nR h dX3_burns_44 rfl ?_
        refine m_get1 h hin3 (by decide +kernel) dX3_burns_45 ?_
        refine j_iload_n h dX3_burns_48 rfl ?_
        refine m_ald1 h dX3_burns_49 rfl (by omega) ?_
        refine j_aload_nR h dX3_burns_50 rfl ?_
        refine m_get0 h hin3 (by decide +kernel) dX3_burns_51 ?_
        refine j_iload_n h dX3_burns_54 rfl ?_
        refine m_ald0 h dX3_burns_55 rfl (by omega) ?_
        refine j_iconst (v := 3) h dX3_burns_56 (by decide) ?_
        refine j_idiv h dX3_burns_57 (by decide) ?_
        refine j_iadd h dX3_burns_58 ?_
        refine j_iload_n h dX3_burns_59 rfl ?_
        refine j_icmp_ge (tgt := 80) h dX3_burns_60 (by decide) (fun c60 => ?_) (fun c60 => ?_)
        · -- t
          refine j_iinc h dX3_burns_80 rfl rfl (by decide) ?_
          refine j_goto (tgt := 26) h dX3_burns_83 (by decide) ?_
          first
            | exact jj_ws (by rw [blF, if_neg (fun z => c41 z.1)]) (ih (i + 1) (by omega) (by omega) _ ⟨rfl, rfl, by simp [lget, nI_succ], trivial⟩)
            | exact jj_ws (by rw [blF, if_neg (fun z => absurd z.2 (Int32.not_lt.mpr c60))]) (ih (i + 1) (by omega) (by omega) _ ⟨rfl, rfl, by simp [lget, nI_succ], trivial⟩)
            | exact jj_ws (by rw [blF, if_pos ⟨c41, Int32.not_le.mp c60⟩]; rfl) (ih (i + 1) (by omega) (by omega) _ ⟨rfl, rfl, by simp [lget, nI_succ], trivial⟩)
        · -- f
          refine j_aload_nR h dX3_burns_63 rfl ?_
          refine m_get3 h hin3 (by decide +kernel) dX3_burns_64 ?_
          refine j_iload_n h dX3_burns_67 rfl ?_
          refine j_iconst (v := 0) h dX3_burns_68 (by decide) ?_
          refine m_ast3 h dX3_burns_69 rfl (by omega) ?_
          refine j_aload_nR h dX3_burns_70 rfl ?_
          refine j_dup h dX3_burns_71 rfl ?_
          refine m_get19 h hin3 (by decide +kernel) dX3_burns_72 ?_
          refine j_iconst (v := 1) h dX3_burns_75 (by decide) ?_
          refine j_iadd h dX3_burns_76 ?_
          refine m_put19 h hin3 (by decide +kernel) dX3_burns_77 ?_
          refine j_iinc h dX3_burns_80 rfl rfl (by decide) ?_
          refine j_goto (tgt := 26) h dX3_burns_83 (by decide) ?_
          first
            | exact jj_ws (by rw [blF, if_neg (fun z => c41 z.1)]) (ih (i + 1) (by omega) (by omega) _ ⟨rfl, rfl, by simp [lget, nI_succ], trivial⟩)
            | exact jj_ws (by rw [blF, if_neg (fun z => absurd z.2 (Int32.not_lt.mpr c60))]) (ih (i + 1) (by omega) (by omega) _ ⟨rfl, rfl, by simp [lget, nI_succ], trivial⟩)
            | exact jj_ws (by rw [blF, if_pos ⟨c41, Int32.not_le.mp c60⟩]; rfl) (ih (i + 1) (by omega) (by omega) _ ⟨rfl, rfl, by simp [lget, nI_succ], trivial⟩)
  · -- ahead
    refine j_aload_nR h dX3_burns_0 rfl ?_
    refine m_get18 h hin3 (by decide +kernel) dX3_burns_1 ?_
    refine j_sipush (v := 400) h dX3_burns_4 (by decide) ?_
    refine j_icmp_gt (tgt := 22) h dX3_burns_7 (by decide) (fun c7 => ?_) (fun c7 => ?_)
    · -- t
      rw [ht, show (400 : Int32) = nI 400 from rfl, nI_ltI (by omega) (by omega)] at c7
      refine j_iconst (v := 0) h dX3_burns_22 (by decide) ?_
      exact cut23 _ (by first | (rw [guF, if_neg (by omega)]; done) | (rw [guF, if_pos (by omega)]; done)) _ ⟨rfl, trivial⟩
    · -- f
      rw [ht, show (400 : Int32) = nI 400 from rfl, nI_ltI (by omega) (by omega)] at c7
      refine j_aload_nR h dX3_burns_10 rfl ?_
      refine m_get17 h hin3 (by decide +kernel) dX3_burns_11 ?_
      refine j_aload_nR h dX3_burns_14 rfl ?_
      refine m_get18 h hin3 (by decide +kernel) dX3_burns_15 ?_
      refine m_ald17 h dX3_burns_18 ht (by omega) ?_
      refine j_goto (tgt := 23) h dX3_burns_19 (by decide) ?_
      exact cut23 _ (by first | (rw [guF, if_neg (by omega)]; done) | (rw [guF, if_pos (by omega)]; done)) _ ⟨rfl, trivial⟩
set_option maxHeartbeats 4000000 in
set_option maxRecDepth 100000 in
theorem c_X3_pass {l : Launch} {D : va_G} {cI cL cR : ClassId} {ad : Nat → Nat} {f : St} {t : Int32} {x : Int32} {n b q tm : Nat} (hn : f 7 0 = nI n) (hn24 : n ≤ 24) (hb : f 14 0 = nI b) (hb8 : b ≤ 8) (hq : f 13 0 = nI q) (hq8 : q ≤ 8) (ho : ∀ i, i < q → ∃ r, r < 8 ∧ f 12 i = nI r) (ht : f 18 0 = nI tm) (htm : tm < 2 ^ 29) (hlt : LT f n) : ctI l D vwCl (tyW cI cL cR) yX3_pass wsX3_pass { frames := 4, cells := 0, slots := 0, locals := 90 } [.ref (ad 0), .int x] (wM cI ad f t) (fun r u => (¬ tPass x = 0 → u = wM cI ad f (tPass x)) ∧ (tPass x = 0 → ∃ a, 1 ≤ a ∧ a ≤ 60 ∧ x = nI a ∧ r = ltS f n - ltS (passF f n b q tm a) n ∧ u = wM cI ad (passF f n b q tm a) 0)) 0 0 := by
  refine ctI_of (cc := cX3_pass) (maxL := 4) (ret := (some .int)) (by decide) rfl rfl (Nat.le_of_ble_eq_true rfl) (by simp [Value.category]) [(0, .ref (ad 0)), (1, .int x)] rfl ?_
  intro p e s m args below meth c sz h hrt hlk hnm
  have hin3 : ∀ x ∈ wsX30, x ∈ wsX3_pass := by decide +kernel
  refine j_aload_nR h dX3_pass_0 rfl ?_
  refine j_iload_n h dX3_pass_1 rfl ?_
  refine j_iconst (v := 1) h dX3_pass_2 (by decide) ?_
  refine j_bipush (v := 60) h dX3_pass_3 (by decide) ?_
  refine j_callSI h dX3_pass_5 (c_X3_in) (va_cwS 3 h.2.2.2.2.1 gX3_pass_X3_in rfl rfl rfl (by decide +kernel) ⟨Nat.le_of_ble_eq_true rfl, Nat.le_of_ble_eq_true rfl⟩) rfl rfl (Nat.le_of_ble_eq_true rfl) ⟨Nat.le_of_ble_eq_true rfl, Nat.le_of_ble_eq_true rfl⟩ (fun r5 u5 hu5 => ?_)
  obtain ⟨rfl, rfl⟩ := hu5
  refine j_iconst (v := 1) h dX3_pass_8 (by decide) ?_
  refine j_iconst (v := 1) h dX3_pass_9 (by decide) ?_
  refine j_callVI (vc := (RX3, TX3, 22)) h dX3_pass_10 (c_X3_goes) (cwV 3 h.2.2.2.2.1 gX3_pass_X3_goes rfl rfl rfl (by decide +kernel) ⟨Nat.le_of_ble_eq_true rfl, Nat.le_of_ble_eq_true rfl⟩) 0 rfl rfl rfl rfl (Nat.le_of_ble_eq_true rfl) ⟨Nat.le_of_ble_eq_true rfl, Nat.le_of_ble_eq_true rfl⟩ (fun r10 u10 hu10 => ?_)
  obtain ⟨rfl, rfl⟩ := hu10
  refine j_if_ne (tgt := 18) h dX3_pass_13 (by decide) (fun c13 => ?_) (fun c13 => ?_)
  · -- t
    have hT : tPass x = 0 := of_decide_eq_true (bi_n0.mp c13)
    obtain ⟨a, ha1, ha, rfl⟩ := inB_1 (m := 60) (by decide) (gl_1.mp hT)
    refine j_aload_nR h dX3_pass_18 rfl ?_
    refine j_callVI (vc := (RX3, TX3, 22)) h dX3_pass_19 (c_X3_lit (n := n) hn hn24) (cwV 0 h.2.2.2.2.1 gX3_pass_X3_lit rfl rfl rfl (by decide +kernel) ⟨Nat.le_of_ble_eq_true rfl, Nat.le_of_ble_eq_true rfl⟩) 0 rfl rfl rfl rfl (Nat.le_of_ble_eq_true rfl) ⟨Nat.le_of_ble_eq_true rfl, Nat.le_of_ble_eq_true rfl⟩ (fun r19 u19 hu19 => ?_)
    obtain ⟨rfl, rfl⟩ := hu19
    refine j_istore_n (i := 2) h dX3_pass_22 rfl (by decide) ?_
    refine j_iconst (v := 0) h dX3_pass_23 (by decide) ?_
    refine j_istore_n (i := 3) h dX3_pass_24 rfl (by decide) ?_
    refine jj_loop (fun i : Nat => [(0, .ref (ad 0)), (1, .int (nI a)), (2, .int (ltS f n)), (3, .int (nI i))]) (fun i : Nat => wM cI ad (passF f n b q tm i) (tPass (nI a))) (fun i : Nat => i ≤ a) (fun i : Nat => a - i) 0 ⟨rfl, rfl, rfl, rfl, trivial⟩ rfl (by omega) (fun i hi ih => ?_)
    have hd := dec.pass f n b q tm i
    have ht1 : passF f n b q tm i 18 0 = nI (tm + i) := k18_pass ht i
    refine j_iload_n h dX3_pass_25 rfl ?_
    refine j_iload_n h dX3_pass_26 rfl ?_
    refine j_icmp_ge (tgt := 54) h dX3_pass_27 (by decide) (fun c27 => ?_) (fun c27 => ?_)
    · -- t
      rw [nI_leI (by omega) (by omega)] at c27
      have hd := dec.pass f n b q tm i
      refine j_iload_n h dX3_pass_54 rfl ?_
      refine j_aload_nR h dX3_pass_55 rfl ?_
      refine j_callVI (vc := (RX3, TX3, 22)) h dX3_pass_56 (c_X3_lit (n := n) (by rw [hd.2.2.1]; exact hn) hn24) (cwV 0 h.2.2.2.2.1 gX3_pass_X3_lit rfl rfl rfl (by decide +kernel) ⟨Nat.le_of_ble_eq_true rfl, Nat.le_of_ble_eq_true rfl⟩) 0 rfl rfl rfl rfl (Nat.le_of_ble_eq_true rfl) ⟨Nat.le_of_ble_eq_true rfl, Nat.le_of_ble_eq_true rfl⟩ (fun r56 u56 hu56 => ?_)
      obtain ⟨rfl, rfl⟩ := hu56
      refine j_isub h dX3_pass_59 ?_
      exact j_iret h hrt hlk dX3_pass_60 (by decide) (by decide) (⟨fun z => absurd hT z, fun _ => ⟨a, ha1, ha, rfl, by rw [show i = a by omega], by rw [show i = a by omega]; exact congrArg (wM cI ad _) hT⟩⟩)
    · -- f
      rw [nI_leI (by omega) (by omega)] at c27
      refine j_aload_nR h dX3_pass_30 rfl ?_
      refine j_dup h dX3_pass_31 rfl ?_
      refine m_get18 h hin3 (by decide +kernel) dX3_pass_32 ?_
      refine j_iconst (v := 1) h dX3_pass_35 (by decide) ?_
      refine j_iadd h dX3_pass_36 ?_
      refine m_put18 h hin3 (by decide +kernel) dX3_pass_37 ?_
      have hd1 := (dec.up (passF f n b q tm i) 0 (passF f n b q tm i 18 0 + 1) (j := 18) (by omega)).tr hd
      refine jj_ws (ws1 := wM cI ad (up2 (passF f n b q tm i) 18 0 (nI (tm + i + 1))) (tPass (nI a))) (by rw [ht1, nI_1]) ?_
      rw [ht1, nI_1] at hd1
      refine j_aload_nR h dX3_pass_40 rfl ?_
      refine j_callVV (vc := (RX3, TX3, 22)) h dX3_pass_41 (c_X3_floatsMove (n := n) (b := b) (q := q) (by rw [hd1.2.2.1]; exact hn) hn24 (by rw [hd1.2.2.2.1]; exact hb) hb8 (by rw [hd1.2.2.2.2.1]; exact hq) hq8 (by rw [hd1.2.2.2.2.2.1]; exact ho)) (cwV 0 h.2.2.2.2.1 gX3_pass_X3_floatsMove rfl rfl rfl (by decide +kernel) ⟨Nat.le_of_ble_eq_true rfl, Nat.le_of_ble_eq_true rfl⟩) 0 rfl rfl rfl rfl (Nat.le_of_ble_eq_true rfl) ⟨Nat.le_of_ble_eq_true rfl, Nat.le_of_ble_eq_true rfl⟩ (fun u41 hu41 => ?_)
      obtain rfl := hu41
      have hd2 := (dec.fm _ n b q).tr hd1
      refine j_aload_nR h dX3_pass_44 rfl ?_
      refine j_callVV (vc := (RX3, TX3, 22)) h dX3_pass_45 (c_X3_burns (n := n) (tm := tm + i + 1) (by rw [hd2.2.2.1]; exact hn) hn24 (by simp only [fmF]; rw [k18_gn, mvF_k _ _ (by decide)]; rfl) (by omega) (hlt.dec hd2)) (cwV 0 h.2.2.2.2.1 gX3_pass_X3_burns rfl rfl rfl (by decide +kernel) ⟨Nat.le_of_ble_eq_true rfl, Nat.le_of_ble_eq_true rfl⟩) 0 rfl rfl rfl rfl (Nat.le_of_ble_eq_true rfl) ⟨Nat.le_of_ble_eq_true rfl, Nat.le_of_ble_eq_true rfl⟩ (fun u45 hu45 => ?_)
      obtain rfl := hu45
      refine j_iinc h dX3_pass_48 rfl rfl (by decide) ?_
      refine j_goto (tgt := 25) h dX3_pass_51 (by decide) ?_
      exact ih (i + 1) (by omega) (by omega) _ ⟨rfl, rfl, rfl, by simp [lget, nI_succ], trivial⟩
  · -- f
    have hT : ¬ tPass x = 0 := of_decide_eq_false (bi_0.mp c13)
    refine j_iconst (v := 0) h dX3_pass_16 (by decide) ?_
    exact j_iret h hrt hlk dX3_pass_17 (by decide) (by decide) (⟨fun _ => rfl, fun z => absurd z hT⟩)
