theorem tL_ix {f : St} {x : Int32} {n : Nat} (h : tL f x = 0) (hn : f 7 0 = nI n) (h24 : n ≤ 24) : ∃ a, a < n ∧ x = nI a := isL_ix (gl_1.mp h) hn h24
theorem tF_ix {f : St} {x : Int32} {n : Nat} (h : tF f x = 0) (hn : f 14 0 = nI n) (h24 : n ≤ 8) : ∃ a, a < n ∧ x = nI a := isF_ix (gl_1.mp h) hn h24
set_option maxHeartbeats 4000000 in
set_option maxRecDepth 100000 in
theorem sg_stateOf {p : Program} {l : Launch} {e : Env} {s : State} {m : MethodId} {args : Array Value} {below : List Frame} {meth : Method} {c : Code} {Q : State → Prop} {D : va_G} {cI cL cR cJ : ClassId} {A : Nat → Prop} {k w : Nat} {ad aM : Nat → Nat} {o sb L i n b q tm : Nat} {xs : Nat → Int32} {φ ψ : St} {C : List Nat} {t : Int32} {F : Nat → Int64} (h : jc p s m args c D vwCl (tyL cI cL cR cJ) A 7 cL_law RL wsL_law) (hl : l.stackTraces = false) (hnc : NcA s) (hX : va_X sb L xs s s.heap) (hbl : sb < s.heap.size) (hbA : ¬ A sb) (hL : L < 2 ^ 31) (hi : i + 3 < L) (hk : k + 4 ≤ 601024) (hw : w + 40 ≤ 7293034) (I : IV n b q tm φ C) (Rr : Rl n b q φ ψ) (G : RG n b ψ) (htm : tm < 2 ^ 27) (kk : ∀ (n2 b2 q2 tm2 : Nat) (φ2 ψ2 : St) (C2 : List Nat) (ad2 : Nat → Nat) (t2 : Int32) (F2 : Nat → Int64), IV n2 b2 q2 tm2 φ2 C2 → Rl n2 b2 q2 φ2 ψ2 → RG n2 b2 ψ2 → tm2 ≤ tm + 60 → ad 0 = ad2 0 → jj p l e room_1 s m args below meth c Q D vwCl (tyL cI cL cR cJ) A 7 (wM cI aM ψ2 t2 ++ ((o, .inl (cJ, 1, .inr (.inl F2))) :: wX cI cL cR ad2 C2 φ2)) (k + 1) (w + 6) 1416 [(0, .ref sb), (1, .ref (ad 0)), (2, .ref (aM 0)), (3, .ref o), (4, .int (nI i))] []) : jj p l e room_1 s m args below meth c Q D vwCl (tyL cI cL cR cJ) A 7 (wM cI aM ψ t ++ ((o, .inl (cJ, 1, .inr (.inl F))) :: wX cI cL cR ad C φ)) (k) (w) 818 [(0, .ref sb), (1, .ref (ad 0)), (2, .ref (aM 0)), (3, .ref o), (4, .int (nI i))] [] := by
  have hn24 := I.x.1
  have hb8 := I.x.2.1
  have hq8 := I.x.2.2.1
  have hn7 : ψ 7 0 = nI n := (Rr.n0 (j := 7) (by decide)).symm.trans I.x.2.2.2.2.1
  have hb14 : ψ 14 0 = nI b := (Rr.n0 (j := 14) (by decide)).symm.trans I.x.2.2.2.2.2.1
  have hq13 : ψ 13 0 = nI q := (Rr.n0 (j := 13) (by decide)).symm.trans I.x.2.2.2.2.2.2.1
  have h18 : ψ 18 0 = nI tm := (Rr.n0 (j := 18) (by decide)).symm.trans I.tm
  have h5g : ∀ k, k < n → ψ 5 k = -1 ∨ ∃ r, r < 8 ∧ ψ 5 k = nI r := fun k hk => by rw [← Rr.l (j := 5) (by decide) hk]; exact (I.x.h k hk).imp id fun ⟨r, hr, z⟩ => ⟨r, by omega, z⟩
  have hltg : ∀ k, k < n → ψ 3 k = 1 → ∃ r, r < 8 ∧ ψ 5 k = nI r := fun k hk z => by
    rw [← Rr.l (j := 3) (by decide) hk] at z
    obtain ⟨r, hr, e5, -⟩ := hpB_yes I.x.h hb8 hk (I.lp k hk z)
    exact ⟨r, by omega, by rw [← Rr.l (j := 5) (by decide) hk]; exact e5⟩
  have ho12 : ∀ i, i < q → ∃ r, r < 8 ∧ ψ 12 i = nI r := fun i hi => by rw [← Rr.o hi]; exact (I.x.o i hi).imp fun r z => ⟨by omega, z.2⟩
  have hqb : ∀ a, a < b → ψ 10 a = 0 → q < 8 := fun a ha z => q_lt I ha (by rw [Rr.r (j := 10) (by decide) ha]; exact z)
  refine j_aload_nR h dL_law_818 rfl ?_
  refine j_aload_nR h dL_law_819 rfl ?_
  refine j_iload h dL_law_820 rfl ?_
  refine j_iconst (v := 1) h dL_law_822 (by decide) ?_
  refine j_iadd h dL_law_823 ?_
  refine j_sld (a := i + 1) h hX hbl hbA hL (nI_add i 1) (by omega) dL_law_824 ?_
  refine j_aload_nR h dL_law_825 rfl ?_
  refine j_callLF (wr := wM cI aM ψ t) (wc := (o, .inl (cJ, 1, .inr (.inl F))) :: wX cI cL cR ad C φ) h hnc dL_law_826 (c_L_stateOf hl I.x) (vx_cwSW 3 h.2.2.2.2.1 gL_law_L_stateOf rfl rfl rfl (by decide +kernel) ⟨(Nat.le_of_ble_eq_true rfl), (Nat.le_of_ble_eq_true rfl)⟩) rfl rfl (Nat.le_of_ble_eq_true rfl) ⟨by show k + 1 ≤ 601024; omega, by show w + 6 ≤ 7293034; omega⟩ (fun r u hu => ?_)
  refine j_istore h dL_law_829 (by decide) ?_
  refine jj_swap ?_
  refine j_aload_nR h dL_law_831 rfl ?_
  refine j_aload_nR h dL_law_832 rfl ?_
  refine j_iload h dL_law_833 rfl ?_
  refine j_iconst (v := 1) h dL_law_835 (by decide) ?_
  refine j_iadd h dL_law_836 ?_
  refine j_sld (a := i + 1) h hX hbl hbA hL (nI_add i 1) (by omega) dL_law_837 ?_
  refine j_callVIF (vc := (RX3, TX3, 22)) (wr := u) (wc := wM cI aM ψ t) h (h.2.2.2.2.2.1.sub [0, 1, 2] rfl) dL_law_838 (c_X3_stateOf hn7 I.x.1) (cwV 1 h.2.2.2.2.1 gL_law_X3_stateOf rfl rfl rfl (by decide +kernel) ⟨(Nat.le_of_ble_eq_true rfl), (Nat.le_of_ble_eq_true rfl)⟩) 0 rfl rfl rfl rfl (Nat.le_of_ble_eq_true rfl) ⟨by show k + 1 + 0 ≤ 601024; omega, by show w + 6 + 0 ≤ 7293034; omega⟩ (fun rM uM hM => ?_)
  refine j_istore h dL_law_841 (by decide) ?_
  have hTT : tL φ (xs (i + 1)) = tL ψ (xs (i + 1)) := R_tL Rr _
  obtain ⟨rfl, hMv⟩ := hM
  rcases hu with ⟨hr0, hrT, rfl⟩ | ⟨rfl, v, u0, hp, rfl⟩
  · -- thrown
    rw [hTT] at hrT
    subst hrT
    refine j_aload_nR h dL_law_843 rfl ?_
    refine j_callVIF (vc := (RX3, TX3, 22)) h (h.2.2.2.2.2.1.sub [0, 1, 2] rfl) dL_law_844 c_X3_thrown (cwV 0 h.2.2.2.2.1 gL_law_X3_thrown rfl rfl rfl (by decide +kernel) ⟨(Nat.le_of_ble_eq_true rfl), (Nat.le_of_ble_eq_true rfl)⟩) 0 rfl rfl rfl rfl (Nat.le_of_ble_eq_true rfl) ⟨by show k + 1 + 0 + 0 ≤ 601024; omega, by show w + 6 + 0 + 0 ≤ 7293034; omega⟩ (fun rT uT hT9 => ?_)
    obtain ⟨rfl, rfl⟩ := hT9
    refine j_iload h dL_law_847 rfl ?_
    refine j_icmp_eq (tgt := 854) h dL_law_849 (by decide) (fun cE => ?_) (fun cE => absurd rfl cE)
    refine j_iload h dL_law_854 rfl ?_
    refine j_if_ne (tgt := 871) h dL_law_856 (by decide) (fun cN => ?_) (fun cN => absurd cN hr0)
    refine j_goto (tgt := 1416) h dL_law_871 (by decide) ?_
    refine jj_to (l1 := [(0, .ref sb), (1, .ref (ad 0)), (2, .ref (aM 0)), (3, .ref o), (4, .int (nI i))]) ?_ ⟨rfl, rfl, rfl, rfl, rfl, trivial⟩
    exact jj_swap (kk n b q tm φ ψ C ad _ F I Rr G (by omega) rfl)
  · -- done
    obtain ⟨hT0, hv9, rfl⟩ := hp
    have hT1 : tL ψ (xs (i + 1)) = 0 := hTT.symm.trans hT0
    have hMv := hMv hT1
    have hvv : rM = v := by
      rw [hMv, hv9]
      obtain ⟨a, ha, ea⟩ := tL_ix hT0 I.x.2.2.2.2.1 I.x.1
      rw [ea, nI_clamp (by omega)]
      exact (Rr.l (j := 3) (by decide) ha).symm
    subst hvv
    rw [hT1]
    refine j_aload_nR h dL_law_843 rfl ?_
    refine j_callVIF (vc := (RX3, TX3, 22)) h (h.2.2.2.2.2.1.sub [0, 1, 2] rfl) dL_law_844 c_X3_thrown (cwV 0 h.2.2.2.2.1 gL_law_X3_thrown rfl rfl rfl (by decide +kernel) ⟨(Nat.le_of_ble_eq_true rfl), (Nat.le_of_ble_eq_true rfl)⟩) 0 rfl rfl rfl rfl (Nat.le_of_ble_eq_true rfl) ⟨by show k + 1 + 0 + 0 ≤ 601024; omega, by show w + 6 + 0 + 0 ≤ 7293034; omega⟩ (fun rT uT hT9 => ?_)
    obtain ⟨rfl, rfl⟩ := hT9
    refine j_iload h dL_law_847 rfl ?_
    refine j_icmp_eq (tgt := 854) h dL_law_849 (by decide) (fun cE => ?_) (fun cE => absurd rfl cE)
    refine j_iload h dL_law_854 rfl ?_
    refine j_if_ne (tgt := 871) h dL_law_856 (by decide) (fun cN => absurd rfl cN) (fun cN => ?_)
    refine j_aload_nR h dL_law_859 rfl ?_
    refine j_iconst (v := 0) h dL_law_860 (by decide) ?_
    refine j_lald0 (wr := wX cI cL cR ad C φ ++ wM cI aM ψ 0) h 3 rfl dL_law_861 ?_
    refine j_iload h dL_law_862 rfl ?_
    refine j_i2l h dL_law_864 ?_
    refine j_lcmp h dL_law_865 ?_
    rw [show vp_updL F 0 (Int32.toInt64 _) 0 = _ from pk_uLs, cmp_eq]
    refine j_if_eq (tgt := 871) h dL_law_866 (by decide) (fun cZ => ?_) (fun cZ => absurd rfl cZ)
    refine j_goto (tgt := 1416) h dL_law_871 (by decide) ?_
    refine jj_to (l1 := [(0, .ref sb), (1, .ref (ad 0)), (2, .ref (aM 0)), (3, .ref o), (4, .int (nI i))]) ?_ ⟨rfl, rfl, rfl, rfl, rfl, trivial⟩
    exact jj_swap (kk n b q tm φ ψ C ad 0 _ I Rr G (by omega) rfl)
set_option maxHeartbeats 4000000 in
set_option maxRecDepth 100000 in
theorem sg_left {p : Program} {l : Launch} {e : Env} {s : State} {m : MethodId} {args : Array Value} {below : List Frame} {meth : Method} {c : Code} {Q : State → Prop} {D : va_G} {cI cL cR cJ : ClassId} {A : Nat → Prop} {k w : Nat} {ad aM : Nat → Nat} {o sb L i n b q tm : Nat} {xs : Nat → Int32} {φ ψ : St} {C : List Nat} {t : Int32} {F : Nat → Int64} (h : jc p s m args c D vwCl (tyL cI cL cR cJ) A 7 cL_law RL wsL_law) (hl : l.stackTraces = false) (hnc : NcA s) (hX : va_X sb L xs s s.heap) (hbl : sb < s.heap.size) (hbA : ¬ A sb) (hL : L < 2 ^ 31) (hi : i + 3 < L) (hk : k + 4 ≤ 601024) (hw : w + 40 ≤ 7293034) (I : IV n b q tm φ C) (Rr : Rl n b q φ ψ) (G : RG n b ψ) (htm : tm < 2 ^ 27) (kk : ∀ (n2 b2 q2 tm2 : Nat) (φ2 ψ2 : St) (C2 : List Nat) (ad2 : Nat → Nat) (t2 : Int32) (F2 : Nat → Int64), IV n2 b2 q2 tm2 φ2 C2 → Rl n2 b2 q2 φ2 ψ2 → RG n2 b2 ψ2 → tm2 ≤ tm + 60 → ad 0 = ad2 0 → jj p l e room_1 s m args below meth c Q D vwCl (tyL cI cL cR cJ) A 7 (wM cI aM ψ2 t2 ++ ((o, .inl (cJ, 1, .inr (.inl F2))) :: wX cI cL cR ad2 C2 φ2)) (k + 1) (w + 6) 1416 [(0, .ref sb), (1, .ref (ad 0)), (2, .ref (aM 0)), (3, .ref o), (4, .int (nI i))] []) : jj p l e room_1 s m args below meth c Q D vwCl (tyL cI cL cR cJ) A 7 (wM cI aM ψ t ++ ((o, .inl (cJ, 1, .inr (.inl F))) :: wX cI cL cR ad C φ)) (k) (w) 874 [(0, .ref sb), (1, .ref (ad 0)), (2, .ref (aM 0)), (3, .ref o), (4, .int (nI i))] [] := by
  have hn24 := I.x.1
  have hb8 := I.x.2.1
  have hq8 := I.x.2.2.1
  have hn7 : ψ 7 0 = nI n := (Rr.n0 (j := 7) (by decide)).symm.trans I.x.2.2.2.2.1
  have hb14 : ψ 14 0 = nI b := (Rr.n0 (j := 14) (by decide)).symm.trans I.x.2.2.2.2.2.1
  have hq13 : ψ 13 0 = nI q := (Rr.n0 (j := 13) (by decide)).symm.trans I.x.2.2.2.2.2.2.1
  have h18 : ψ 18 0 = nI tm := (Rr.n0 (j := 18) (by decide)).symm.trans I.tm
  have h5g : ∀ k, k < n → ψ 5 k = -1 ∨ ∃ r, r < 8 ∧ ψ 5 k = nI r := fun k hk => by rw [← Rr.l (j := 5) (by decide) hk]; exact (I.x.h k hk).imp id fun ⟨r, hr, z⟩ => ⟨r, by omega, z⟩
  have hltg : ∀ k, k < n → ψ 3 k = 1 → ∃ r, r < 8 ∧ ψ 5 k = nI r := fun k hk z => by
    rw [← Rr.l (j := 3) (by decide) hk] at z
    obtain ⟨r, hr, e5, -⟩ := hpB_yes I.x.h hb8 hk (I.lp k hk z)
    exact ⟨r, by omega, by rw [← Rr.l (j := 5) (by decide) hk]; exact e5⟩
  have ho12 : ∀ i, i < q → ∃ r, r < 8 ∧ ψ 12 i = nI r := fun i hi => by rw [← Rr.o hi]; exact (I.x.o i hi).imp fun r z => ⟨by omega, z.2⟩
  have hqb : ∀ a, a < b → ψ 10 a = 0 → q < 8 := fun a ha z => q_lt I ha (by rw [Rr.r (j := 10) (by decide) ha]; exact z)
  refine j_aload_nR h dL_law_874 rfl ?_
  refine j_aload_nR h dL_law_875 rfl ?_
  refine j_iload h dL_law_876 rfl ?_
  refine j_iconst (v := 1) h dL_law_878 (by decide) ?_
  refine j_iadd h dL_law_879 ?_
  refine j_sld (a := i + 1) h hX hbl hbA hL (nI_add i 1) (by omega) dL_law_880 ?_
  refine j_aload_nR h dL_law_881 rfl ?_
  refine j_callLF (wr := wM cI aM ψ t) (wc := (o, .inl (cJ, 1, .inr (.inl F))) :: wX cI cL cR ad C φ) h hnc dL_law_882 (c_L_left hl I.x) (vx_cwSW 3 h.2.2.2.2.1 gL_law_L_left rfl rfl rfl (by decide +kernel) ⟨(Nat.le_of_ble_eq_true rfl), (Nat.le_of_ble_eq_true rfl)⟩) rfl rfl (Nat.le_of_ble_eq_true rfl) ⟨by show k + 1 ≤ 601024; omega, by show w + 6 ≤ 7293034; omega⟩ (fun r u hu => ?_)
  refine j_istore h dL_law_885 (by decide) ?_
  refine jj_swap ?_
  refine j_aload_nR h dL_law_887 rfl ?_
  refine j_aload_nR h dL_law_888 rfl ?_
  refine j_iload h dL_law_889 rfl ?_
  refine j_iconst (v := 1) h dL_law_891 (by decide) ?_
  refine j_iadd h dL_law_892 ?_
  refine j_sld (a := i + 1) h hX hbl hbA hL (nI_add i 1) (by omega) dL_law_893 ?_
  refine j_callVIF (vc := (RX3, TX3, 22)) (wr := u) (wc := wM cI aM ψ t) h (h.2.2.2.2.2.1.sub [0, 1, 2] rfl) dL_law_894 (c_X3_left hn7 I.x.1) (cwV 1 h.2.2.2.2.1 gL_law_X3_left rfl rfl rfl (by decide +kernel) ⟨(Nat.le_of_ble_eq_true rfl), (Nat.le_of_ble_eq_true rfl)⟩) 0 rfl rfl rfl rfl (Nat.le_of_ble_eq_true rfl) ⟨by show k + 1 + 0 ≤ 601024; omega, by show w + 6 + 0 ≤ 7293034; omega⟩ (fun rM uM hM => ?_)
  refine j_istore h dL_law_897 (by decide) ?_
  have hTT : tL φ (xs (i + 1)) = tL ψ (xs (i + 1)) := R_tL Rr _
  obtain ⟨rfl, hMv⟩ := hM
  rcases hu with ⟨hr0, hrT, rfl⟩ | ⟨rfl, v, u0, hp, rfl⟩
  · -- thrown
    rw [hTT] at hrT
    subst hrT
    refine j_aload_nR h dL_law_899 rfl ?_
    refine j_callVIF (vc := (RX3, TX3, 22)) h (h.2.2.2.2.2.1.sub [0, 1, 2] rfl) dL_law_900 c_X3_thrown (cwV 0 h.2.2.2.2.1 gL_law_X3_thrown rfl rfl rfl (by decide +kernel) ⟨(Nat.le_of_ble_eq_true rfl), (Nat.le_of_ble_eq_true rfl)⟩) 0 rfl rfl rfl rfl (Nat.le_of_ble_eq_true rfl) ⟨by show k + 1 + 0 + 0 ≤ 601024; omega, by show w + 6 + 0 + 0 ≤ 7293034; omega⟩ (fun rT uT hT9 => ?_)
    obtain ⟨rfl, rfl⟩ := hT9
    refine j_iload h dL_law_903 rfl ?_
    refine j_icmp_eq (tgt := 910) h dL_law_905 (by decide) (fun cE => ?_) (fun cE => absurd rfl cE)
    refine j_iload h dL_law_910 rfl ?_
    refine j_if_ne (tgt := 927) h dL_law_912 (by decide) (fun cN => ?_) (fun cN => absurd cN hr0)
    refine j_goto (tgt := 1416) h dL_law_927 (by decide) ?_
    refine jj_to (l1 := [(0, .ref sb), (1, .ref (ad 0)), (2, .ref (aM 0)), (3, .ref o), (4, .int (nI i))]) ?_ ⟨rfl, rfl, rfl, rfl, rfl, trivial⟩
    exact jj_swap (kk n b q tm φ ψ C ad _ F I Rr G (by omega) rfl)
  · -- done
    obtain ⟨hT0, hv9, rfl⟩ := hp
    have hT1 : tL ψ (xs (i + 1)) = 0 := hTT.symm.trans hT0
    have hMv := hMv hT1
    have hvv : rM = v := by
      rw [hMv, hv9]
      obtain ⟨a, ha, ea⟩ := tL_ix hT0 I.x.2.2.2.2.1 I.x.1
      rw [ea, nI_clamp (by omega)]
      exact (Rr.l (j := 4) (by decide) ha).symm
    subst hvv
    rw [hT1]
    refine j_aload_nR h dL_law_899 rfl ?_
    refine j_callVIF (vc := (RX3, TX3, 22)) h (h.2.2.2.2.2.1.sub [0, 1, 2] rfl) dL_law_900 c_X3_thrown (cwV 0 h.2.2.2.2.1 gL_law_X3_thrown rfl rfl rfl (by decide +kernel) ⟨(Nat.le_of_ble_eq_true rfl), (Nat.le_of_ble_eq_true rfl)⟩) 0 rfl rfl rfl rfl (Nat.le_of_ble_eq_true rfl) ⟨by show k + 1 + 0 + 0 ≤ 601024; omega, by show w + 6 + 0 + 0 ≤ 7293034; omega⟩ (fun rT uT hT9 => ?_)
    obtain ⟨rfl, rfl⟩ := hT9
    refine j_iload h dL_law_903 rfl ?_
    refine j_icmp_eq (tgt := 910) h dL_law_905 (by decide) (fun cE => ?_) (fun cE => absurd rfl cE)
    refine j_iload h dL_law_910 rfl ?_
    refine j_if_ne (tgt := 927) h dL_law_912 (by decide) (fun cN => absurd rfl cN) (fun cN => ?_)
    refine j_aload_nR h dL_law_915 rfl ?_
    refine j_iconst (v := 0) h dL_law_916 (by decide) ?_
    refine j_lald0 (wr := wX cI cL cR ad C φ ++ wM cI aM ψ 0) h 3 rfl dL_law_917 ?_
    refine j_iload h dL_law_918 rfl ?_
    refine j_i2l h dL_law_920 ?_
    refine j_lcmp h dL_law_921 ?_
    rw [show vp_updL F 0 (Int32.toInt64 _) 0 = _ from pk_uLs, cmp_eq]
    refine j_if_eq (tgt := 927) h dL_law_922 (by decide) (fun cZ => ?_) (fun cZ => absurd rfl cZ)
    refine j_goto (tgt := 1416) h dL_law_927 (by decide) ?_
    refine jj_to (l1 := [(0, .ref sb), (1, .ref (ad 0)), (2, .ref (aM 0)), (3, .ref o), (4, .int (nI i))]) ?_ ⟨rfl, rfl, rfl, rfl, rfl, trivial⟩
    exact jj_swap (kk n b q tm φ ψ C ad 0 _ I Rr G (by omega) rfl)
set_option maxHeartbeats 4000000 in
set_option maxRecDepth 100000 in
theorem sg_placeOf {p : Program} {l : Launch} {e : Env} {s : State} {m : MethodId} {args : Array Value} {below : List Frame} {meth : Method} {c : Code} {Q : State → Prop} {D : va_G} {cI cL cR cJ : ClassId} {A : Nat → Prop} {k w : Nat} {ad aM : Nat → Nat} {o sb L i n b q tm : Nat} {xs : Nat → Int32} {φ ψ : St} {C : List Nat} {t : Int32} {F : Nat → Int64} (h : jc p s m args c D vwCl (tyL cI cL cR cJ) A 7 cL_law RL wsL_law) (hl : l.stackTraces = false) (hnc : NcA s) (hX : va_X sb L xs s s.heap) (hbl : sb < s.heap.size) (hbA : ¬ A sb) (hL : L < 2 ^ 31) (hi : i + 3 < L) (hk : k + 4 ≤ 601024) (hw : w + 40 ≤ 7293034) (I : IV n b q tm φ C) (Rr : Rl n b q φ ψ) (G : RG n b ψ) (htm : tm < 2 ^ 27) (kk : ∀ (n2 b2 q2 tm2 : Nat) (φ2 ψ2 : St) (C2 : List Nat) (ad2 : Nat → Nat) (t2 : Int32) (F2 : Nat → Int64), IV n2 b2 q2 tm2 φ2 C2 → Rl n2 b2 q2 φ2 ψ2 → RG n2 b2 ψ2 → tm2 ≤ tm + 60 → ad 0 = ad2 0 → jj p l e room_1 s m args below meth c Q D vwCl (tyL cI cL cR cJ) A 7 (wM cI aM ψ2 t2 ++ ((o, .inl (cJ, 1, .inr (.inl F2))) :: wX cI cL cR ad2 C2 φ2)) (k + 1) (w + 6) 1416 [(0, .ref sb), (1, .ref (ad 0)), (2, .ref (aM 0)), (3, .ref o), (4, .int (nI i))] []) : jj p l e room_1 s m args below meth c Q D vwCl (tyL cI cL cR cJ) A 7 (wM cI aM ψ t ++ ((o, .inl (cJ, 1, .inr (.inl F))) :: wX cI cL cR ad C φ)) (k) (w) 930 [(0, .ref sb), (1, .ref (ad 0)), (2, .ref (aM 0)), (3, .ref o), (4, .int (nI i))] [] := by
  have hn24 := I.x.1
  have hb8 := I.x.2.1
  have hq8 := I.x.2.2.1
  have hn7 : ψ 7 0 = nI n := (Rr.n0 (j := 7) (by decide)).symm.trans I.x.2.2.2.2.1
  have hb14 : ψ 14 0 = nI b := (Rr.n0 (j := 14) (by decide)).symm.trans I.x.2.2.2.2.2.1
  have hq13 : ψ 13 0 = nI q := (Rr.n0 (j := 13) (by decide)).symm.trans I.x.2.2.2.2.2.2.1
  have h18 : ψ 18 0 = nI tm := (Rr.n0 (j := 18) (by decide)).symm.trans I.tm
  have h5g : ∀ k, k < n → ψ 5 k = -1 ∨ ∃ r, r < 8 ∧ ψ 5 k = nI r := fun k hk => by rw [← Rr.l (j := 5) (by decide) hk]; exact (I.x.h k hk).imp id fun ⟨r, hr, z⟩ => ⟨r, by omega, z⟩
  have hltg : ∀ k, k < n → ψ 3 k = 1 → ∃ r, r < 8 ∧ ψ 5 k = nI r := fun k hk z => by
    rw [← Rr.l (j := 3) (by decide) hk] at z
    obtain ⟨r, hr, e5, -⟩ := hpB_yes I.x.h hb8 hk (I.lp k hk z)
    exact ⟨r, by omega, by rw [← Rr.l (j := 5) (by decide) hk]; exact e5⟩
  have ho12 : ∀ i, i < q → ∃ r, r < 8 ∧ ψ 12 i = nI r := fun i hi => by rw [← Rr.o hi]; exact (I.x.o i hi).imp fun r z => ⟨by omega, z.2⟩
  have hqb : ∀ a, a < b → ψ 10 a = 0 → q < 8 := fun a ha z => q_lt I ha (by rw [Rr.r (j := 10) (by decide) ha]; exact z)
  refine j_aload_nR h dL_law_930 rfl ?_
  refine j_aload_nR h dL_law_931 rfl ?_
  refine j_iload h dL_law_932 rfl ?_
  refine j_iconst (v := 1) h dL_law_934 (by decide) ?_
  refine j_iadd h dL_law_935 ?_
  refine j_sld (a := i + 1) h hX hbl hbA hL (nI_add i 1) (by omega) dL_law_936 ?_
  refine j_aload_nR h dL_law_937 rfl ?_
  refine j_callLF (wr := wM cI aM ψ t) (wc := (o, .inl (cJ, 1, .inr (.inl F))) :: wX cI cL cR ad C φ) h hnc dL_law_938 (c_L_placeOf hl I.x) (vx_cwSW 3 h.2.2.2.2.1 gL_law_L_placeOf rfl rfl rfl (by decide +kernel) ⟨(Nat.le_of_ble_eq_true rfl), (Nat.le_of_ble_eq_true rfl)⟩) rfl rfl (Nat.le_of_ble_eq_true rfl) ⟨by show k + 1 ≤ 601024; omega, by show w + 6 ≤ 7293034; omega⟩ (fun r u hu => ?_)
  refine j_istore h dL_law_941 (by decide) ?_
  refine jj_swap ?_
  refine j_aload_nR h dL_law_943 rfl ?_
  refine j_aload_nR h dL_law_944 rfl ?_
  refine j_iload h dL_law_945 rfl ?_
  refine j_iconst (v := 1) h dL_law_947 (by decide) ?_
  refine j_iadd h dL_law_948 ?_
  refine j_sld (a := i + 1) h hX hbl hbA hL (nI_add i 1) (by omega) dL_law_949 ?_
  refine j_callVIF (vc := (RX3, TX3, 22)) (wr := u) (wc := wM cI aM ψ t) h (h.2.2.2.2.2.1.sub [0, 1, 2] rfl) dL_law_950 (c_X3_placeOf hn7 I.x.1 h5g) (cwV 1 h.2.2.2.2.1 gL_law_X3_placeOf rfl rfl rfl (by decide +kernel) ⟨(Nat.le_of_ble_eq_true rfl), (Nat.le_of_ble_eq_true rfl)⟩) 0 rfl rfl rfl rfl (Nat.le_of_ble_eq_true rfl) ⟨by show k + 1 + 0 ≤ 601024; omega, by show w + 6 + 0 ≤ 7293034; omega⟩ (fun rM uM hM => ?_)
  refine j_istore h dL_law_953 (by decide) ?_
  have hTT : tL φ (xs (i + 1)) = tL ψ (xs (i + 1)) := R_tL Rr _
  obtain ⟨rfl, hMv⟩ := hM
  rcases hu with ⟨hr0, hrT, rfl⟩ | ⟨rfl, v, u0, hp, rfl⟩
  · -- thrown
    rw [hTT] at hrT
    subst hrT
    refine j_aload_nR h dL_law_955 rfl ?_
    refine j_callVIF (vc := (RX3, TX3, 22)) h (h.2.2.2.2.2.1.sub [0, 1, 2] rfl) dL_law_956 c_X3_thrown (cwV 0 h.2.2.2.2.1 gL_law_X3_thrown rfl rfl rfl (by decide +kernel) ⟨(Nat.le_of_ble_eq_true rfl), (Nat.le_of_ble_eq_true rfl)⟩) 0 rfl rfl rfl rfl (Nat.le_of_ble_eq_true rfl) ⟨by show k + 1 + 0 + 0 ≤ 601024; omega, by show w + 6 + 0 + 0 ≤ 7293034; omega⟩ (fun rT uT hT9 => ?_)
    obtain ⟨rfl, rfl⟩ := hT9
    refine j_iload h dL_law_959 rfl ?_
    refine j_icmp_eq (tgt := 966) h dL_law_961 (by decide) (fun cE => ?_) (fun cE => absurd rfl cE)
    refine j_iload h dL_law_966 rfl ?_
    refine j_if_ne (tgt := 983) h dL_law_968 (by decide) (fun cN => ?_) (fun cN => absurd cN hr0)
    refine j_goto (tgt := 1416) h dL_law_983 (by decide) ?_
    refine jj_to (l1 := [(0, .ref sb), (1, .ref (ad 0)), (2, .ref (aM 0)), (3, .ref o), (4, .int (nI i))]) ?_ ⟨rfl, rfl, rfl, rfl, rfl, trivial⟩
    exact jj_swap (kk n b q tm φ ψ C ad _ F I Rr G (by omega) rfl)
  · -- done
    obtain ⟨hT0, hv9, rfl⟩ := hp
    have hT1 : tL ψ (xs (i + 1)) = 0 := hTT.symm.trans hT0
    have hMv := hMv hT1
    have hvv : rM = v := by
      rw [hMv, hv9]
      obtain ⟨a, ha, ea⟩ := tL_ix hT0 I.x.2.2.2.2.1 I.x.1
      rw [ea, nI_clamp (by omega)]
      rw [← Rr.hp I.x.h hb8 ha]
      by_cases hp : hpB φ a = true
      · rw [if_pos hp, if_pos hp, Rr.ple I.x.h hb8 ha hp]
      · rw [if_neg hp, if_neg hp]
    subst hvv
    rw [hT1]
    refine j_aload_nR h dL_law_955 rfl ?_
    refine j_callVIF (vc := (RX3, TX3, 22)) h (h.2.2.2.2.2.1.sub [0, 1, 2] rfl) dL_law_956 c_X3_thrown (cwV 0 h.2.2.2.2.1 gL_law_X3_thrown rfl rfl rfl (by decide +kernel) ⟨(Nat.le_of_ble_eq_true rfl), (Nat.le_of_ble_eq_true rfl)⟩) 0 rfl rfl rfl rfl (Nat.le_of_ble_eq_true rfl) ⟨by show k + 1 + 0 + 0 ≤ 601024; omega, by show w + 6 + 0 + 0 ≤ 7293034; omega⟩ (fun rT uT hT9 => ?_)
    obtain ⟨rfl, rfl⟩ := hT9
    refine j_iload h dL_law_959 rfl ?_
    refine j_icmp_eq (tgt := 966) h dL_law_961 (by decide) (fun cE => ?_) (fun cE => absurd rfl cE)
    refine j_iload h dL_law_966 rfl ?_
    refine j_if_ne (tgt := 983) h dL_law_968 (by decide) (fun cN => absurd rfl cN) (fun cN => ?_)
    refine j_aload_nR h dL_law_971 rfl ?_
    refine j_iconst (v := 0) h dL_law_972 (by decide) ?_
    refine j_lald0 (wr := wX cI cL cR ad C φ ++ wM cI aM ψ 0) h 3 rfl dL_law_973 ?_
    refine j_iload h dL_law_974 rfl ?_
    refine j_i2l h dL_law_976 ?_
    refine j_lcmp h dL_law_977 ?_
    rw [show vp_updL F 0 (Int32.toInt64 _) 0 = _ from pk_uLs, cmp_eq]
    refine j_if_eq (tgt := 983) h dL_law_978 (by decide) (fun cZ => ?_) (fun cZ => absurd rfl cZ)
    refine j_goto (tgt := 1416) h dL_law_983 (by decide) ?_
    refine jj_to (l1 := [(0, .ref sb), (1, .ref (ad 0)), (2, .ref (aM 0)), (3, .ref o), (4, .int (nI i))]) ?_ ⟨rfl, rfl, rfl, rfl, rfl, trivial⟩
    exact jj_swap (kk n b q tm φ ψ C ad 0 _ I Rr G (by omega) rfl)
set_option maxHeartbeats 4000000 in
set_option maxRecDepth 100000 in
theorem sg_nearest {p : Program} {l : Launch} {e : Env} {s : State} {m : MethodId} {args : Array Value} {below : List Frame} {meth : Method} {c : Code} {Q : State → Prop} {D : va_G} {cI cL cR cJ : ClassId} {A : Nat → Prop} {k w : Nat} {ad aM : Nat → Nat} {o sb L i n b q tm : Nat} {xs : Nat → Int32} {φ ψ : St} {C : List Nat} {t : Int32} {F : Nat → Int64} (h : jc p s m args c D vwCl (tyL cI cL cR cJ) A 7 cL_law RL wsL_law) (hl : l.stackTraces = false) (hnc : NcA s) (hX : va_X sb L xs s s.heap) (hbl : sb < s.heap.size) (hbA : ¬ A sb) (hL : L < 2 ^ 31) (hi : i + 3 < L) (hk : k + 4 ≤ 601024) (hw : w + 40 ≤ 7293034) (I : IV n b q tm φ C) (Rr : Rl n b q φ ψ) (G : RG n b ψ) (htm : tm < 2 ^ 27) (kk : ∀ (n2 b2 q2 tm2 : Nat) (φ2 ψ2 : St) (C2 : List Nat) (ad2 : Nat → Nat) (t2 : Int32) (F2 : Nat → Int64), IV n2 b2 q2 tm2 φ2 C2 → Rl n2 b2 q2 φ2 ψ2 → RG n2 b2 ψ2 → tm2 ≤ tm + 60 → ad 0 = ad2 0 → jj p l e room_1 s m args below meth c Q D vwCl (tyL cI cL cR cJ) A 7 (wM cI aM ψ2 t2 ++ ((o, .inl (cJ, 1, .inr (.inl F2))) :: wX cI cL cR ad2 C2 φ2)) (k + 1) (w + 6) 1416 [(0, .ref sb), (1, .ref (ad 0)), (2, .ref (aM 0)), (3, .ref o), (4, .int (nI i))] []) : jj p l e room_1 s m args below meth c Q D vwCl (tyL cI cL cR cJ) A 7 (wM cI aM ψ t ++ ((o, .inl (cJ, 1, .inr (.inl F))) :: wX cI cL cR ad C φ)) (k) (w) 986 [(0, .ref sb), (1, .ref (ad 0)), (2, .ref (aM 0)), (3, .ref o), (4, .int (nI i))] [] := by
  have hn24 := I.x.1
  have hb8 := I.x.2.1
  have hq8 := I.x.2.2.1
  have hn7 : ψ 7 0 = nI n := (Rr.n0 (j := 7) (by decide)).symm.trans I.x.2.2.2.2.1
  have hb14 : ψ 14 0 = nI b := (Rr.n0 (j := 14) (by decide)).symm.trans I.x.2.2.2.2.2.1
  have hq13 : ψ 13 0 = nI q := (Rr.n0 (j := 13) (by decide)).symm.trans I.x.2.2.2.2.2.2.1
  have h18 : ψ 18 0 = nI tm := (Rr.n0 (j := 18) (by decide)).symm.trans I.tm
  have h5g : ∀ k, k < n → ψ 5 k = -1 ∨ ∃ r, r < 8 ∧ ψ 5 k = nI r := fun k hk => by rw [← Rr.l (j := 5) (by decide) hk]; exact (I.x.h k hk).imp id fun ⟨r, hr, z⟩ => ⟨r, by omega, z⟩
  have hltg : ∀ k, k < n → ψ 3 k = 1 → ∃ r, r < 8 ∧ ψ 5 k = nI r := fun k hk z => by
    rw [← Rr.l (j := 3) (by decide) hk] at z
    obtain ⟨r, hr, e5, -⟩ := hpB_yes I.x.h hb8 hk (I.lp k hk z)
    exact ⟨r, by omega, by rw [← Rr.l (j := 5) (by decide) hk]; exact e5⟩
  have ho12 : ∀ i, i < q → ∃ r, r < 8 ∧ ψ 12 i = nI r := fun i hi => by rw [← Rr.o hi]; exact (I.x.o i hi).imp fun r z => ⟨by omega, z.2⟩
  have hqb : ∀ a, a < b → ψ 10 a = 0 → q < 8 := fun a ha z => q_lt I ha (by rw [Rr.r (j := 10) (by decide) ha]; exact z)
  refine j_aload_nR h dL_law_986 rfl ?_
  refine j_aload_nR h dL_law_987 rfl ?_
  refine j_iload h dL_law_988 rfl ?_
  refine j_iconst (v := 1) h dL_law_990 (by decide) ?_
  refine j_iadd h dL_law_991 ?_
  refine j_sld (a := i + 1) h hX hbl hbA hL (nI_add i 1) (by omega) dL_law_992 ?_
  refine j_aload_nR h dL_law_993 rfl ?_
  refine j_callLF (wr := wM cI aM ψ t) (wc := (o, .inl (cJ, 1, .inr (.inl F))) :: wX cI cL cR ad C φ) h hnc dL_law_994 (c_L_nearest hl I.x I.lp (fun r hr h1 => (I.lc.2.2.2 r hr (by rw [h1]; decide)).imp fun c z => ⟨z.1, z.2.2⟩)) (vx_cwSW 3 h.2.2.2.2.1 gL_law_L_nearest rfl rfl rfl (by decide +kernel) ⟨(Nat.le_of_ble_eq_true rfl), (Nat.le_of_ble_eq_true rfl)⟩) rfl rfl (Nat.le_of_ble_eq_true rfl) ⟨by show k + 1 ≤ 601024; omega, by show w + 6 ≤ 7293034; omega⟩ (fun r u hu => ?_)
  refine j_istore h dL_law_997 (by decide) ?_
  refine jj_swap ?_
  refine j_aload_nR h dL_law_999 rfl ?_
  refine j_aload_nR h dL_law_1000 rfl ?_
  refine j_iload h dL_law_1001 rfl ?_
  refine j_iconst (v := 1) h dL_law_1003 (by decide) ?_
  refine j_iadd h dL_law_1004 ?_
  refine j_sld (a := i + 1) h hX hbl hbA hL (nI_add i 1) (by omega) dL_law_1005 ?_
  refine j_callVIF (vc := (RX3, TX3, 22)) (wr := u) (wc := wM cI aM ψ t) h (h.2.2.2.2.2.1.sub [0, 1, 2] rfl) dL_law_1006 (c_X3_nearest hn7 I.x.1 h5g hltg) (cwV 1 h.2.2.2.2.1 gL_law_X3_nearest rfl rfl rfl (by decide +kernel) ⟨(Nat.le_of_ble_eq_true rfl), (Nat.le_of_ble_eq_true rfl)⟩) 0 rfl rfl rfl rfl (Nat.le_of_ble_eq_true rfl) ⟨by show k + 1 + 0 ≤ 601024; omega, by show w + 6 + 0 ≤ 7293034; omega⟩ (fun rM uM hM => ?_)
  refine j_istore h dL_law_1009 (by decide) ?_
  have hTT : tL φ (xs (i + 1)) = tL ψ (xs (i + 1)) := R_tL Rr _
  obtain ⟨rfl, hMv⟩ := hM
  rcases hu with ⟨hr0, hrT, rfl⟩ | ⟨rfl, v, u0, hp, rfl⟩
  · -- thrown
    rw [hTT] at hrT
    subst hrT
    refine j_aload_nR h dL_law_1011 rfl ?_
    refine j_callVIF (vc := (RX3, TX3, 22)) h (h.2.2.2.2.2.1.sub [0, 1, 2] rfl) dL_law_1012 c_X3_thrown (cwV 0 h.2.2.2.2.1 gL_law_X3_thrown rfl rfl rfl (by decide +kernel) ⟨(Nat.le_of_ble_eq_true rfl), (Nat.le_of_ble_eq_true rfl)⟩) 0 rfl rfl rfl rfl (Nat.le_of_ble_eq_true rfl) ⟨by show k + 1 + 0 + 0 ≤ 601024; omega, by show w + 6 + 0 + 0 ≤ 7293034; omega⟩ (fun rT uT hT9 => ?_)
    obtain ⟨rfl, rfl⟩ := hT9
    refine j_iload h dL_law_1015 rfl ?_
    refine j_icmp_eq (tgt := 1022) h dL_law_1017 (by decide) (fun cE => ?_) (fun cE => absurd rfl cE)
    refine j_iload h dL_law_1022 rfl ?_
    refine j_if_ne (tgt := 1039) h dL_law_1024 (by decide) (fun cN => ?_) (fun cN => absurd cN hr0)
    refine j_goto (tgt := 1416) h dL_law_1039 (by decide) ?_
    refine jj_to (l1 := [(0, .ref sb), (1, .ref (ad 0)), (2, .ref (aM 0)), (3, .ref o), (4, .int (nI i))]) ?_ ⟨rfl, rfl, rfl, rfl, rfl, trivial⟩
    exact jj_swap (kk n b q tm φ ψ C ad _ F I Rr G (by omega) rfl)
  · -- done
    obtain ⟨hT0, hv9, rfl⟩ := hp
    have hT1 : tL ψ (xs (i + 1)) = 0 := hTT.symm.trans hT0
    have hMv := hMv hT1
    have hvv : rM = v := by
      rw [hMv, hv9]
      obtain ⟨a, ha, ea⟩ := tL_ix hT0 I.x.2.2.2.2.1 I.x.1
      rw [ea, nI_clamp (by omega)]
      rw [ne_nr I ha]
      rw [← Rr.hp I.x.h hb8 ha]
      by_cases hp : hpB φ a = true
      · rw [if_pos hp, if_pos hp, Rr.nr I.x.h hb8 ha (Nat.le_refl n) hp I.lp]
      · rw [if_neg hp, if_neg hp]
    subst hvv
    rw [hT1]
    refine j_aload_nR h dL_law_1011 rfl ?_
    refine j_callVIF (vc := (RX3, TX3, 22)) h (h.2.2.2.2.2.1.sub [0, 1, 2] rfl) dL_law_1012 c_X3_thrown (cwV 0 h.2.2.2.2.1 gL_law_X3_thrown rfl rfl rfl (by decide +kernel) ⟨(Nat.le_of_ble_eq_true rfl), (Nat.le_of_ble_eq_true rfl)⟩) 0 rfl rfl rfl rfl (Nat.le_of_ble_eq_true rfl) ⟨by show k + 1 + 0 + 0 ≤ 601024; omega, by show w + 6 + 0 + 0 ≤ 7293034; omega⟩ (fun rT uT hT9 => ?_)
    obtain ⟨rfl, rfl⟩ := hT9
    refine j_iload h dL_law_1015 rfl ?_
    refine j_icmp_eq (tgt := 1022) h dL_law_1017 (by decide) (fun cE => ?_) (fun cE => absurd rfl cE)
    refine j_iload h dL_law_1022 rfl ?_
    refine j_if_ne (tgt := 1039) h dL_law_1024 (by decide) (fun cN => absurd rfl cN) (fun cN => ?_)
    refine j_aload_nR h dL_law_1027 rfl ?_
    refine j_iconst (v := 0) h dL_law_1028 (by decide) ?_
    refine j_lald0 (wr := wX cI cL cR ad C φ ++ wM cI aM ψ 0) h 3 rfl dL_law_1029 ?_
    refine j_iload h dL_law_1030 rfl ?_
    refine j_i2l h dL_law_1032 ?_
    refine j_lcmp h dL_law_1033 ?_
    rw [show vp_updL F 0 (Int32.toInt64 _) 0 = _ from pk_uLs, cmp_eq]
    refine j_if_eq (tgt := 1039) h dL_law_1034 (by decide) (fun cZ => ?_) (fun cZ => absurd rfl cZ)
    refine j_goto (tgt := 1416) h dL_law_1039 (by decide) ?_
    refine jj_to (l1 := [(0, .ref sb), (1, .ref (ad 0)), (2, .ref (aM 0)), (3, .ref o), (4, .int (nI i))]) ?_ ⟨rfl, rfl, rfl, rfl, rfl, trivial⟩
    exact jj_swap (kk n b q tm φ ψ C ad 0 _ I Rr G (by omega) rfl)
set_option maxHeartbeats 4000000 in
set_option maxRecDepth 100000 in
theorem sg_nearestOfAll {p : Program} {l : Launch} {e : Env} {s : State} {m : MethodId} {args : Array Value} {below : List Frame} {meth : Method} {c : Code} {Q : State → Prop} {D : va_G} {cI cL cR cJ : ClassId} {A : Nat → Prop} {k w : Nat} {ad aM : Nat → Nat} {o sb L i n b q tm : Nat} {xs : Nat → Int32} {φ ψ : St} {C : List Nat} {t : Int32} {F : Nat → Int64} (h : jc p s m args c D vwCl (tyL cI cL cR cJ) A 7 cL_law RL wsL_law) (hl : l.stackTraces = false) (hnc : NcA s) (hX : va_X sb L xs s s.heap) (hbl : sb < s.heap.size) (hbA : ¬ A sb) (hL : L < 2 ^ 31) (hi : i + 3 < L) (hk : k + 4 ≤ 601024) (hw : w + 40 ≤ 7293034) (I : IV n b q tm φ C) (Rr : Rl n b q φ ψ) (G : RG n b ψ) (htm : tm < 2 ^ 27) (kk : ∀ (n2 b2 q2 tm2 : Nat) (φ2 ψ2 : St) (C2 : List Nat) (ad2 : Nat → Nat) (t2 : Int32) (F2 : Nat → Int64), IV n2 b2 q2 tm2 φ2 C2 → Rl n2 b2 q2 φ2 ψ2 → RG n2 b2 ψ2 → tm2 ≤ tm + 60 → ad 0 = ad2 0 → jj p l e room_1 s m args below meth c Q D vwCl (tyL cI cL cR cJ) A 7 (wM cI aM ψ2 t2 ++ ((o, .inl (cJ, 1, .inr (.inl F2))) :: wX cI cL cR ad2 C2 φ2)) (k + 1) (w + 6) 1416 [(0, .ref sb), (1, .ref (ad 0)), (2, .ref (aM 0)), (3, .ref o), (4, .int (nI i))] []) : jj p l e room_1 s m args below meth c Q D vwCl (tyL cI cL cR cJ) A 7 (wM cI aM ψ t ++ ((o, .inl (cJ, 1, .inr (.inl F))) :: wX cI cL cR ad C φ)) (k) (w) 1042 [(0, .ref sb), (1, .ref (ad 0)), (2, .ref (aM 0)), (3, .ref o), (4, .int (nI i))] [] := by
  have hn24 := I.x.1
  have hb8 := I.x.2.1
  have hq8 := I.x.2.2.1
  have hn7 : ψ 7 0 = nI n := (Rr.n0 (j := 7) (by decide)).symm.trans I.x.2.2.2.2.1
  have hb14 : ψ 14 0 = nI b := (Rr.n0 (j := 14) (by decide)).symm.trans I.x.2.2.2.2.2.1
  have hq13 : ψ 13 0 = nI q := (Rr.n0 (j := 13) (by decide)).symm.trans I.x.2.2.2.2.2.2.1
  have h18 : ψ 18 0 = nI tm := (Rr.n0 (j := 18) (by decide)).symm.trans I.tm
  have h5g : ∀ k, k < n → ψ 5 k = -1 ∨ ∃ r, r < 8 ∧ ψ 5 k = nI r := fun k hk => by rw [← Rr.l (j := 5) (by decide) hk]; exact (I.x.h k hk).imp id fun ⟨r, hr, z⟩ => ⟨r, by omega, z⟩
  have hltg : ∀ k, k < n → ψ 3 k = 1 → ∃ r, r < 8 ∧ ψ 5 k = nI r := fun k hk z => by
    rw [← Rr.l (j := 3) (by decide) hk] at z
    obtain ⟨r, hr, e5, -⟩ := hpB_yes I.x.h hb8 hk (I.lp k hk z)
    exact ⟨r, by omega, by rw [← Rr.l (j := 5) (by decide) hk]; exact e5⟩
  have ho12 : ∀ i, i < q → ∃ r, r < 8 ∧ ψ 12 i = nI r := fun i hi => by rw [← Rr.o hi]; exact (I.x.o i hi).imp fun r z => ⟨by omega, z.2⟩
  have hqb : ∀ a, a < b → ψ 10 a = 0 → q < 8 := fun a ha z => q_lt I ha (by rw [Rr.r (j := 10) (by decide) ha]; exact z)
  refine j_aload_nR h dL_law_1042 rfl ?_
  refine j_aload_nR h dL_law_1043 rfl ?_
  refine j_iload h dL_law_1044 rfl ?_
  refine j_iconst (v := 1) h dL_law_1046 (by decide) ?_
  refine j_iadd h dL_law_1047 ?_
  refine j_sld (a := i + 1) h hX hbl hbA hL (nI_add i 1) (by omega) dL_law_1048 ?_
  refine j_aload_nR h dL_law_1049 rfl ?_
  refine j_callLF (wr := wM cI aM ψ t) (wc := (o, .inl (cJ, 1, .inr (.inl F))) :: wX cI cL cR ad C φ) h hnc dL_law_1050 (c_L_nearestOfAll hl I.x I.lp (plN_of I)) (vx_cwSW 3 h.2.2.2.2.1 gL_law_L_nearestOfAll rfl rfl rfl (by decide +kernel) ⟨(Nat.le_of_ble_eq_true rfl), (Nat.le_of_ble_eq_true rfl)⟩) rfl rfl (Nat.le_of_ble_eq_true rfl) ⟨by show k + 1 ≤ 601024; omega, by show w + 6 ≤ 7293034; omega⟩ (fun r u hu => ?_)
  refine j_istore h dL_law_1053 (by decide) ?_
  refine jj_swap ?_
  refine j_aload_nR h dL_law_1055 rfl ?_
  refine j_aload_nR h dL_law_1056 rfl ?_
  refine j_iload h dL_law_1057 rfl ?_
  refine j_iconst (v := 1) h dL_law_1059 (by decide) ?_
  refine j_iadd h dL_law_1060 ?_
  refine j_sld (a := i + 1) h hX hbl hbA hL (nI_add i 1) (by omega) dL_law_1061 ?_
  refine j_callVIF (vc := (RX3, TX3, 22)) (wr := u) (wc := wM cI aM ψ t) h (h.2.2.2.2.2.1.sub [0, 1, 2] rfl) dL_law_1062 (c_X3_nearestOfAll hn7 I.x.1 h5g hltg) (cwV 1 h.2.2.2.2.1 gL_law_X3_nearestOfAll rfl rfl rfl (by decide +kernel) ⟨(Nat.le_of_ble_eq_true rfl), (Nat.le_of_ble_eq_true rfl)⟩) 0 rfl rfl rfl rfl (Nat.le_of_ble_eq_true rfl) ⟨by show k + 1 + 0 ≤ 601024; omega, by show w + 6 + 0 ≤ 7293034; omega⟩ (fun rM uM hM => ?_)
  refine j_istore h dL_law_1065 (by decide) ?_
  have hTT : tL φ (xs (i + 1)) = tL ψ (xs (i + 1)) := R_tL Rr _
  obtain ⟨rfl, hMv⟩ := hM
  rcases hu with ⟨hr0, hrT, rfl⟩ | ⟨rfl, v, u0, hp, rfl⟩
  · -- thrown
    rw [hTT] at hrT
    subst hrT
    refine j_aload_nR h dL_law_1067 rfl ?_
    refine j_callVIF (vc := (RX3, TX3, 22)) h (h.2.2.2.2.2.1.sub [0, 1, 2] rfl) dL_law_1068 c_X3_thrown (cwV 0 h.2.2.2.2.1 gL_law_X3_thrown rfl rfl rfl (by decide +kernel) ⟨(Nat.le_of_ble_eq_true rfl), (Nat.le_of_ble_eq_true rfl)⟩) 0 rfl rfl rfl rfl (Nat.le_of_ble_eq_true rfl) ⟨by show k + 1 + 0 + 0 ≤ 601024; omega, by show w + 6 + 0 + 0 ≤ 7293034; omega⟩ (fun rT uT hT9 => ?_)
    obtain ⟨rfl, rfl⟩ := hT9
    refine j_iload h dL_law_1071 rfl ?_
    refine j_icmp_eq (tgt := 1078) h dL_law_1073 (by decide) (fun cE => ?_) (fun cE => absurd rfl cE)
    refine j_iload h dL_law_1078 rfl ?_
    refine j_if_ne (tgt := 1095) h dL_law_1080 (by decide) (fun cN => ?_) (fun cN => absurd cN hr0)
    refine j_goto (tgt := 1416) h dL_law_1095 (by decide) ?_
    refine jj_to (l1 := [(0, .ref sb), (1, .ref (ad 0)), (2, .ref (aM 0)), (3, .ref o), (4, .int (nI i))]) ?_ ⟨rfl, rfl, rfl, rfl, rfl, trivial⟩
    exact jj_swap (kk n b q tm φ ψ C ad _ F I Rr G (by omega) rfl)
  · -- done
    obtain ⟨hT0, hv9, rfl⟩ := hp
    have hT1 : tL ψ (xs (i + 1)) = 0 := hTT.symm.trans hT0
    have hMv := hMv hT1
    have hvv : rM = v := by
      rw [hMv, hv9]
      obtain ⟨a, ha, ea⟩ := tL_ix hT0 I.x.2.2.2.2.1 I.x.1
      rw [ea, nI_clamp (by omega)]
      rw [← Rr.hp I.x.h hb8 ha]
      by_cases hp : hpB φ a = true
      · rw [if_pos hp, if_pos hp, no_nr I ha hp, Rr.nr I.x.h hb8 ha (Nat.le_refl n) hp I.lp]
      · rw [if_neg hp, if_neg hp]
    subst hvv
    rw [hT1]
    refine j_aload_nR h dL_law_1067 rfl ?_
    refine j_callVIF (vc := (RX3, TX3, 22)) h (h.2.2.2.2.2.1.sub [0, 1, 2] rfl) dL_law_1068 c_X3_thrown (cwV 0 h.2.2.2.2.1 gL_law_X3_thrown rfl rfl rfl (by decide +kernel) ⟨(Nat.le_of_ble_eq_true rfl), (Nat.le_of_ble_eq_true rfl)⟩) 0 rfl rfl rfl rfl (Nat.le_of_ble_eq_true rfl) ⟨by show k + 1 + 0 + 0 ≤ 601024; omega, by show w + 6 + 0 + 0 ≤ 7293034; omega⟩ (fun rT uT hT9 => ?_)
    obtain ⟨rfl, rfl⟩ := hT9
    refine j_iload h dL_law_1071 rfl ?_
    refine j_icmp_eq (tgt := 1078) h dL_law_1073 (by decide) (fun cE => ?_) (fun cE => absurd rfl cE)
    refine j_iload h dL_law_1078 rfl ?_
    refine j_if_ne (tgt := 1095) h dL_law_1080 (by decide) (fun cN => absurd rfl cN) (fun cN => ?_)
    refine j_aload_nR h dL_law_1083 rfl ?_
    refine j_iconst (v := 0) h dL_law_1084 (by decide) ?_
    refine j_lald0 (wr := wX cI cL cR ad C φ ++ wM cI aM ψ 0) h 3 rfl dL_law_1085 ?_
    refine j_iload h dL_law_1086 rfl ?_
    refine j_i2l h dL_law_1088 ?_
    refine j_lcmp h dL_law_1089 ?_
    rw [show vp_updL F 0 (Int32.toInt64 _) 0 = _ from pk_uLs, cmp_eq]
    refine j_if_eq (tgt := 1095) h dL_law_1090 (by decide) (fun cZ => ?_) (fun cZ => absurd rfl cZ)
    refine j_goto (tgt := 1416) h dL_law_1095 (by decide) ?_
    refine jj_to (l1 := [(0, .ref sb), (1, .ref (ad 0)), (2, .ref (aM 0)), (3, .ref o), (4, .int (nI i))]) ?_ ⟨rfl, rfl, rfl, rfl, rfl, trivial⟩
    exact jj_swap (kk n b q tm φ ψ C ad 0 _ I Rr G (by omega) rfl)
set_option maxHeartbeats 4000000 in
set_option maxRecDepth 100000 in
theorem sg_sortOf {p : Program} {l : Launch} {e : Env} {s : State} {m : MethodId} {args : Array Value} {below : List Frame} {meth : Method} {c : Code} {Q : State → Prop} {D : va_G} {cI cL cR cJ : ClassId} {A : Nat → Prop} {k w : Nat} {ad aM : Nat → Nat} {o sb L i n b q tm : Nat} {xs : Nat → Int32} {φ ψ : St} {C : List Nat} {t : Int32} {F : Nat → Int64} (h : jc p s m args c D vwCl (tyL cI cL cR cJ) A 7 cL_law RL wsL_law) (hl : l.stackTraces = false) (hnc : NcA s) (hX : va_X sb L xs s s.heap) (hbl : sb < s.heap.size) (hbA : ¬ A sb) (hL : L < 2 ^ 31) (hi : i + 3 < L) (hk : k + 4 ≤ 601024) (hw : w + 40 ≤ 7293034) (I : IV n b q tm φ C) (Rr : Rl n b q φ ψ) (G : RG n b ψ) (htm : tm < 2 ^ 27) (kk : ∀ (n2 b2 q2 tm2 : Nat) (φ2 ψ2 : St) (C2 : List Nat) (ad2 : Nat → Nat) (t2 : Int32) (F2 : Nat → Int64), IV n2 b2 q2 tm2 φ2 C2 → Rl n2 b2 q2 φ2 ψ2 → RG n2 b2 ψ2 → tm2 ≤ tm + 60 → ad 0 = ad2 0 → jj p l e room_1 s m args below meth c Q D vwCl (tyL cI cL cR cJ) A 7 (wM cI aM ψ2 t2 ++ ((o, .inl (cJ, 1, .inr (.inl F2))) :: wX cI cL cR ad2 C2 φ2)) (k + 1) (w + 6) 1416 [(0, .ref sb), (1, .ref (ad 0)), (2, .ref (aM 0)), (3, .ref o), (4, .int (nI i))] []) : jj p l e room_1 s m args below meth c Q D vwCl (tyL cI cL cR cJ) A 7 (wM cI aM ψ t ++ ((o, .inl (cJ, 1, .inr (.inl F))) :: wX cI cL cR ad C φ)) (k) (w) 1124 [(0, .ref sb), (1, .ref (ad 0)), (2, .ref (aM 0)), (3, .ref o), (4, .int (nI i))] [] := by
  have hn24 := I.x.1
  have hb8 := I.x.2.1
  have hq8 := I.x.2.2.1
  have hn7 : ψ 7 0 = nI n := (Rr.n0 (j := 7) (by decide)).symm.trans I.x.2.2.2.2.1
  have hb14 : ψ 14 0 = nI b := (Rr.n0 (j := 14) (by decide)).symm.trans I.x.2.2.2.2.2.1
  have hq13 : ψ 13 0 = nI q := (Rr.n0 (j := 13) (by decide)).symm.trans I.x.2.2.2.2.2.2.1
  have h18 : ψ 18 0 = nI tm := (Rr.n0 (j := 18) (by decide)).symm.trans I.tm
  have h5g : ∀ k, k < n → ψ 5 k = -1 ∨ ∃ r, r < 8 ∧ ψ 5 k = nI r := fun k hk => by rw [← Rr.l (j := 5) (by decide) hk]; exact (I.x.h k hk).imp id fun ⟨r, hr, z⟩ => ⟨r, by omega, z⟩
  have hltg : ∀ k, k < n → ψ 3 k = 1 → ∃ r, r < 8 ∧ ψ 5 k = nI r := fun k hk z => by
    rw [← Rr.l (j := 3) (by decide) hk] at z
    obtain ⟨r, hr, e5, -⟩ := hpB_yes I.x.h hb8 hk (I.lp k hk z)
    exact ⟨r, by omega, by rw [← Rr.l (j := 5) (by decide) hk]; exact e5⟩
  have ho12 : ∀ i, i < q → ∃ r, r < 8 ∧ ψ 12 i = nI r := fun i hi => by rw [← Rr.o hi]; exact (I.x.o i hi).imp fun r z => ⟨by omega, z.2⟩
  have hqb : ∀ a, a < b → ψ 10 a = 0 → q < 8 := fun a ha z => q_lt I ha (by rw [Rr.r (j := 10) (by decide) ha]; exact z)
  refine j_aload_nR h dL_law_1124 rfl ?_
  refine j_aload_nR h dL_law_1125 rfl ?_
  refine j_iload h dL_law_1126 rfl ?_
  refine j_iconst (v := 1) h dL_law_1128 (by decide) ?_
  refine j_iadd h dL_law_1129 ?_
  refine j_sld (a := i + 1) h hX hbl hbA hL (nI_add i 1) (by omega) dL_law_1130 ?_
  refine j_aload_nR h dL_law_1131 rfl ?_
  refine j_callLF (wr := wM cI aM ψ t) (wc := (o, .inl (cJ, 1, .inr (.inl F))) :: wX cI cL cR ad C φ) h hnc dL_law_1132 (c_L_sortOf hl I.x) (vx_cwSW 3 h.2.2.2.2.1 gL_law_L_sortOf rfl rfl rfl (by decide +kernel) ⟨(Nat.le_of_ble_eq_true rfl), (Nat.le_of_ble_eq_true rfl)⟩) rfl rfl (Nat.le_of_ble_eq_true rfl) ⟨by show k + 1 ≤ 601024; omega, by show w + 6 ≤ 7293034; omega⟩ (fun r u hu => ?_)
  refine j_istore h dL_law_1135 (by decide) ?_
  refine jj_swap ?_
  refine j_aload_nR h dL_law_1137 rfl ?_
  refine j_aload_nR h dL_law_1138 rfl ?_
  refine j_iload h dL_law_1139 rfl ?_
  refine j_iconst (v := 1) h dL_law_1141 (by decide) ?_
  refine j_iadd h dL_law_1142 ?_
  refine j_sld (a := i + 1) h hX hbl hbA hL (nI_add i 1) (by omega) dL_law_1143 ?_
  refine j_callVIF (vc := (RX3, TX3, 22)) (wr := u) (wc := wM cI aM ψ t) h (h.2.2.2.2.2.1.sub [0, 1, 2] rfl) dL_law_1144 (c_X3_sortOf hb14 I.x.2.1) (cwV 1 h.2.2.2.2.1 gL_law_X3_sortOf rfl rfl rfl (by decide +kernel) ⟨(Nat.le_of_ble_eq_true rfl), (Nat.le_of_ble_eq_true rfl)⟩) 0 rfl rfl rfl rfl (Nat.le_of_ble_eq_true rfl) ⟨by show k + 1 + 0 ≤ 601024; omega, by show w + 6 + 0 ≤ 7293034; omega⟩ (fun rM uM hM => ?_)
  refine j_istore h dL_law_1147 (by decide) ?_
  have hTT : tF φ (xs (i + 1)) = tF ψ (xs (i + 1)) := R_tF Rr _
  obtain ⟨rfl, hMv⟩ := hM
  rcases hu with ⟨hr0, hrT, rfl⟩ | ⟨rfl, v, u0, hp, rfl⟩
  · -- thrown
    rw [hTT] at hrT
    subst hrT
    refine j_aload_nR h dL_law_1149 rfl ?_
    refine j_callVIF (vc := (RX3, TX3, 22)) h (h.2.2.2.2.2.1.sub [0, 1, 2] rfl) dL_law_1150 c_X3_thrown (cwV 0 h.2.2.2.2.1 gL_law_X3_thrown rfl rfl rfl (by decide +kernel) ⟨(Nat.le_of_ble_eq_true rfl), (Nat.le_of_ble_eq_true rfl)⟩) 0 rfl rfl rfl rfl (Nat.le_of_ble_eq_true rfl) ⟨by show k + 1 + 0 + 0 ≤ 601024; omega, by show w + 6 + 0 + 0 ≤ 7293034; omega⟩ (fun rT uT hT9 => ?_)
    obtain ⟨rfl, rfl⟩ := hT9
    refine j_iload h dL_law_1153 rfl ?_
    refine j_icmp_eq (tgt := 1160) h dL_law_1155 (by decide) (fun cE => ?_) (fun cE => absurd rfl cE)
    refine j_iload h dL_law_1160 rfl ?_
    refine j_if_ne (tgt := 1177) h dL_law_1162 (by decide) (fun cN => ?_) (fun cN => absurd cN hr0)
    refine j_goto (tgt := 1416) h dL_law_1177 (by decide) ?_
    refine jj_to (l1 := [(0, .ref sb), (1, .ref (ad 0)), (2, .ref (aM 0)), (3, .ref o), (4, .int (nI i))]) ?_ ⟨rfl, rfl, rfl, rfl, rfl, trivial⟩
    exact jj_swap (kk n b q tm φ ψ C ad _ F I Rr G (by omega) rfl)
  · -- done
    obtain ⟨hT0, hv9, rfl⟩ := hp
    have hT1 : tF ψ (xs (i + 1)) = 0 := hTT.symm.trans hT0
    have hMv := hMv hT1
    have hvv : rM = v := by
      rw [hMv, hv9]
      obtain ⟨a, ha, ea⟩ := tF_ix hT0 I.x.2.2.2.2.2.1 I.x.2.1
      rw [ea, nI_clamp (by omega)]
      exact (Rr.r (j := 10) (by decide) ha).symm
    subst hvv
    rw [hT1]
    refine j_aload_nR h dL_law_1149 rfl ?_
    refine j_callVIF (vc := (RX3, TX3, 22)) h (h.2.2.2.2.2.1.sub [0, 1, 2] rfl) dL_law_1150 c_X3_thrown (cwV 0 h.2.2.2.2.1 gL_law_X3_thrown rfl rfl rfl (by decide +kernel) ⟨(Nat.le_of_ble_eq_true rfl), (Nat.le_of_ble_eq_true rfl)⟩) 0 rfl rfl rfl rfl (Nat.le_of_ble_eq_true rfl) ⟨by show k + 1 + 0 + 0 ≤ 601024; omega, by show w + 6 + 0 + 0 ≤ 7293034; omega⟩ (fun rT uT hT9 => ?_)
    obtain ⟨rfl, rfl⟩ := hT9
    refine j_iload h dL_law_1153 rfl ?_
    refine j_icmp_eq (tgt := 1160) h dL_law_1155 (by decide) (fun cE => ?_) (fun cE => absurd rfl cE)
    refine j_iload h dL_law_1160 rfl ?_
    refine j_if_ne (tgt := 1177) h dL_law_1162 (by decide) (fun cN => absurd rfl cN) (fun cN => ?_)
    refine j_aload_nR h dL_law_1165 rfl ?_
    refine j_iconst (v := 0) h dL_law_1166 (by decide) ?_
    refine j_lald0 (wr := wX cI cL cR ad C φ ++ wM cI aM ψ 0) h 3 rfl dL_law_1167 ?_
    refine j_iload h dL_law_1168 rfl ?_
    refine j_i2l h dL_law_1170 ?_
    refine j_lcmp h dL_law_1171 ?_
    rw [show vp_updL F 0 (Int32.toInt64 _) 0 = _ from pk_uLs, cmp_eq]
    refine j_if_eq (tgt := 1177) h dL_law_1172 (by decide) (fun cZ => ?_) (fun cZ => absurd rfl cZ)
    refine j_goto (tgt := 1416) h dL_law_1177 (by decide) ?_
    refine jj_to (l1 := [(0, .ref sb), (1, .ref (ad 0)), (2, .ref (aM 0)), (3, .ref o), (4, .int (nI i))]) ?_ ⟨rfl, rfl, rfl, rfl, rfl, trivial⟩
    exact jj_swap (kk n b q tm φ ψ C ad 0 _ I Rr G (by omega) rfl)
set_option maxHeartbeats 4000000 in
set_option maxRecDepth 100000 in
theorem sg_front {p : Program} {l : Launch} {e : Env} {s : State} {m : MethodId} {args : Array Value} {below : List Frame} {meth : Method} {c : Code} {Q : State → Prop} {D : va_G} {cI cL cR cJ : ClassId} {A : Nat → Prop} {k w : Nat} {ad aM : Nat → Nat} {o sb L i n b q tm : Nat} {xs : Nat → Int32} {φ ψ : St} {C : List Nat} {t : Int32} {F : Nat → Int64} (h : jc p s m args c D vwCl (tyL cI cL cR cJ) A 7 cL_law RL wsL_law) (hl : l.stackTraces = false) (hnc : NcA s) (hX : va_X sb L xs s s.heap) (hbl : sb < s.heap.size) (hbA : ¬ A sb) (hL : L < 2 ^ 31) (hi : i + 3 < L) (hk : k + 4 ≤ 601024) (hw : w + 40 ≤ 7293034) (I : IV n b q tm φ C) (Rr : Rl n b q φ ψ) (G : RG n b ψ) (htm : tm < 2 ^ 27) (kk : ∀ (n2 b2 q2 tm2 : Nat) (φ2 ψ2 : St) (C2 : List Nat) (ad2 : Nat → Nat) (t2 : Int32) (F2 : Nat → Int64), IV n2 b2 q2 tm2 φ2 C2 → Rl n2 b2 q2 φ2 ψ2 → RG n2 b2 ψ2 → tm2 ≤ tm + 60 → ad 0 = ad2 0 → jj p l e room_1 s m args below meth c Q D vwCl (tyL cI cL cR cJ) A 7 (wM cI aM ψ2 t2 ++ ((o, .inl (cJ, 1, .inr (.inl F2))) :: wX cI cL cR ad2 C2 φ2)) (k + 1) (w + 6) 1416 [(0, .ref sb), (1, .ref (ad 0)), (2, .ref (aM 0)), (3, .ref o), (4, .int (nI i))] []) : jj p l e room_1 s m args below meth c Q D vwCl (tyL cI cL cR cJ) A 7 (wM cI aM ψ t ++ ((o, .inl (cJ, 1, .inr (.inl F))) :: wX cI cL cR ad C φ)) (k) (w) 1180 [(0, .ref sb), (1, .ref (ad 0)), (2, .ref (aM 0)), (3, .ref o), (4, .int (nI i))] [] := by
  have hn24 := I.x.1
  have hb8 := I.x.2.1
  have hq8 := I.x.2.2.1
  have hn7 : ψ 7 0 = nI n := (Rr.n0 (j := 7) (by decide)).symm.trans I.x.2.2.2.2.1
  have hb14 : ψ 14 0 = nI b := (Rr.n0 (j := 14) (by decide)).symm.trans I.x.2.2.2.2.2.1
  have hq13 : ψ 13 0 = nI q := (Rr.n0 (j := 13) (by decide)).symm.trans I.x.2.2.2.2.2.2.1
  have h18 : ψ 18 0 = nI tm := (Rr.n0 (j := 18) (by decide)).symm.trans I.tm
  have h5g : ∀ k, k < n → ψ 5 k = -1 ∨ ∃ r, r < 8 ∧ ψ 5 k = nI r := fun k hk => by rw [← Rr.l (j := 5) (by decide) hk]; exact (I.x.h k hk).imp id fun ⟨r, hr, z⟩ => ⟨r, by omega, z⟩
  have hltg : ∀ k, k < n → ψ 3 k = 1 → ∃ r, r < 8 ∧ ψ 5 k = nI r := fun k hk z => by
    rw [← Rr.l (j := 3) (by decide) hk] at z
    obtain ⟨r, hr, e5, -⟩ := hpB_yes I.x.h hb8 hk (I.lp k hk z)
    exact ⟨r, by omega, by rw [← Rr.l (j := 5) (by decide) hk]; exact e5⟩
  have ho12 : ∀ i, i < q → ∃ r, r < 8 ∧ ψ 12 i = nI r := fun i hi => by rw [← Rr.o hi]; exact (I.x.o i hi).imp fun r z => ⟨by omega, z.2⟩
  have hqb : ∀ a, a < b → ψ 10 a = 0 → q < 8 := fun a ha z => q_lt I ha (by rw [Rr.r (j := 10) (by decide) ha]; exact z)
  refine j_aload_nR h dL_law_1180 rfl ?_
  refine j_aload_nR h dL_law_1181 rfl ?_
  refine j_iload h dL_law_1182 rfl ?_
  refine j_iconst (v := 1) h dL_law_1184 (by decide) ?_
  refine j_iadd h dL_law_1185 ?_
  refine j_sld (a := i + 1) h hX hbl hbA hL (nI_add i 1) (by omega) dL_law_1186 ?_
  refine j_aload_nR h dL_law_1187 rfl ?_
  refine j_callLF (wr := wM cI aM ψ t) (wc := (o, .inl (cJ, 1, .inr (.inl F))) :: wX cI cL cR ad C φ) h hnc dL_law_1188 (c_L_front hl I.x) (vx_cwSW 3 h.2.2.2.2.1 gL_law_L_front rfl rfl rfl (by decide +kernel) ⟨(Nat.le_of_ble_eq_true rfl), (Nat.le_of_ble_eq_true rfl)⟩) rfl rfl (Nat.le_of_ble_eq_true rfl) ⟨by show k + 1 ≤ 601024; omega, by show w + 6 ≤ 7293034; omega⟩ (fun r u hu => ?_)
  refine j_istore h dL_law_1191 (by decide) ?_
  refine jj_swap ?_
  refine j_aload_nR h dL_law_1193 rfl ?_
  refine j_aload_nR h dL_law_1194 rfl ?_
  refine j_iload h dL_law_1195 rfl ?_
  refine j_iconst (v := 1) h dL_law_1197 (by decide) ?_
  refine j_iadd h dL_law_1198 ?_
  refine j_sld (a := i + 1) h hX hbl hbA hL (nI_add i 1) (by omega) dL_law_1199 ?_
  refine j_callVIF (vc := (RX3, TX3, 22)) (wr := u) (wc := wM cI aM ψ t) h (h.2.2.2.2.2.1.sub [0, 1, 2] rfl) dL_law_1200 (c_X3_front hb14 I.x.2.1) (cwV 1 h.2.2.2.2.1 gL_law_X3_front rfl rfl rfl (by decide +kernel) ⟨(Nat.le_of_ble_eq_true rfl), (Nat.le_of_ble_eq_true rfl)⟩) 0 rfl rfl rfl rfl (Nat.le_of_ble_eq_true rfl) ⟨by show k + 1 + 0 ≤ 601024; omega, by show w + 6 + 0 ≤ 7293034; omega⟩ (fun rM uM hM => ?_)
  refine j_istore h dL_law_1203 (by decide) ?_
  have hTT : tF φ (xs (i + 1)) = tF ψ (xs (i + 1)) := R_tF Rr _
  obtain ⟨rfl, hMv⟩ := hM
  rcases hu with ⟨hr0, hrT, rfl⟩ | ⟨rfl, v, u0, hp, rfl⟩
  · -- thrown
    rw [hTT] at hrT
    subst hrT
    refine j_aload_nR h dL_law_1205 rfl ?_
    refine j_callVIF (vc := (RX3, TX3, 22)) h (h.2.2.2.2.2.1.sub [0, 1, 2] rfl) dL_law_1206 c_X3_thrown (cwV 0 h.2.2.2.2.1 gL_law_X3_thrown rfl rfl rfl (by decide +kernel) ⟨(Nat.le_of_ble_eq_true rfl), (Nat.le_of_ble_eq_true rfl)⟩) 0 rfl rfl rfl rfl (Nat.le_of_ble_eq_true rfl) ⟨by show k + 1 + 0 + 0 ≤ 601024; omega, by show w + 6 + 0 + 0 ≤ 7293034; omega⟩ (fun rT uT hT9 => ?_)
    obtain ⟨rfl, rfl⟩ := hT9
    refine j_iload h dL_law_1209 rfl ?_
    refine j_icmp_eq (tgt := 1216) h dL_law_1211 (by decide) (fun cE => ?_) (fun cE => absurd rfl cE)
    refine j_iload h dL_law_1216 rfl ?_
    refine j_if_ne (tgt := 1233) h dL_law_1218 (by decide) (fun cN => ?_) (fun cN => absurd cN hr0)
    refine j_goto (tgt := 1416) h dL_law_1233 (by decide) ?_
    refine jj_to (l1 := [(0, .ref sb), (1, .ref (ad 0)), (2, .ref (aM 0)), (3, .ref o), (4, .int (nI i))]) ?_ ⟨rfl, rfl, rfl, rfl, rfl, trivial⟩
    exact jj_swap (kk n b q tm φ ψ C ad _ F I Rr G (by omega) rfl)
  · -- done
    obtain ⟨hT0, hv9, rfl⟩ := hp
    have hT1 : tF ψ (xs (i + 1)) = 0 := hTT.symm.trans hT0
    have hMv := hMv hT1
    have hvv : rM = v := by
      rw [hMv, hv9]
      obtain ⟨a, ha, ea⟩ := tF_ix hT0 I.x.2.2.2.2.2.1 I.x.2.1
      rw [ea, nI_clamp (by omega)]
      rw [← Rr.r (j := 10) (by decide) ha]
      by_cases h1 : φ 10 a = 1
      · rw [if_pos h1, if_pos h1, Rr.fr ha h1]
      · rw [if_neg h1, if_neg h1]
    subst hvv
    rw [hT1]
    refine j_aload_nR h dL_law_1205 rfl ?_
    refine j_callVIF (vc := (RX3, TX3, 22)) h (h.2.2.2.2.2.1.sub [0, 1, 2] rfl) dL_law_1206 c_X3_thrown (cwV 0 h.2.2.2.2.1 gL_law_X3_thrown rfl rfl rfl (by decide +kernel) ⟨(Nat.le_of_ble_eq_true rfl), (Nat.le_of_ble_eq_true rfl)⟩) 0 rfl rfl rfl rfl (Nat.le_of_ble_eq_true rfl) ⟨by show k + 1 + 0 + 0 ≤ 601024; omega, by show w + 6 + 0 + 0 ≤ 7293034; omega⟩ (fun rT uT hT9 => ?_)
    obtain ⟨rfl, rfl⟩ := hT9
    refine j_iload h dL_law_1209 rfl ?_
    refine j_icmp_eq (tgt := 1216) h dL_law_1211 (by decide) (fun cE => ?_) (fun cE => absurd rfl cE)
    refine j_iload h dL_law_1216 rfl ?_
    refine j_if_ne (tgt := 1233) h dL_law_1218 (by decide) (fun cN => absurd rfl cN) (fun cN => ?_)
    refine j_aload_nR h dL_law_1221 rfl ?_
    refine j_iconst (v := 0) h dL_law_1222 (by decide) ?_
    refine j_lald0 (wr := wX cI cL cR ad C φ ++ wM cI aM ψ 0) h 3 rfl dL_law_1223 ?_
    refine j_iload h dL_law_1224 rfl ?_
    refine j_i2l h dL_law_1226 ?_
    refine j_lcmp h dL_law_1227 ?_
    rw [show vp_updL F 0 (Int32.toInt64 _) 0 = _ from pk_uLs, cmp_eq]
    refine j_if_eq (tgt := 1233) h dL_law_1228 (by decide) (fun cZ => ?_) (fun cZ => absurd rfl cZ)
    refine j_goto (tgt := 1416) h dL_law_1233 (by decide) ?_
    refine jj_to (l1 := [(0, .ref sb), (1, .ref (ad 0)), (2, .ref (aM 0)), (3, .ref o), (4, .int (nI i))]) ?_ ⟨rfl, rfl, rfl, rfl, rfl, trivial⟩
    exact jj_swap (kk n b q tm φ ψ C ad 0 _ I Rr G (by omega) rfl)
set_option maxHeartbeats 4000000 in
set_option maxRecDepth 100000 in
theorem sg_load {p : Program} {l : Launch} {e : Env} {s : State} {m : MethodId} {args : Array Value} {below : List Frame} {meth : Method} {c : Code} {Q : State → Prop} {D : va_G} {cI cL cR cJ : ClassId} {A : Nat → Prop} {k w : Nat} {ad aM : Nat → Nat} {o sb L i n b q tm : Nat} {xs : Nat → Int32} {φ ψ : St} {C : List Nat} {t : Int32} {F : Nat → Int64} (h : jc p s m args c D vwCl (tyL cI cL cR cJ) A 7 cL_law RL wsL_law) (hl : l.stackTraces = false) (hnc : NcA s) (hX : va_X sb L xs s s.heap) (hbl : sb < s.heap.size) (hbA : ¬ A sb) (hL : L < 2 ^ 31) (hi : i + 3 < L) (hk : k + 4 ≤ 601024) (hw : w + 40 ≤ 7293034) (I : IV n b q tm φ C) (Rr : Rl n b q φ ψ) (G : RG n b ψ) (htm : tm < 2 ^ 27) (kk : ∀ (n2 b2 q2 tm2 : Nat) (φ2 ψ2 : St) (C2 : List Nat) (ad2 : Nat → Nat) (t2 : Int32) (F2 : Nat → Int64), IV n2 b2 q2 tm2 φ2 C2 → Rl n2 b2 q2 φ2 ψ2 → RG n2 b2 ψ2 → tm2 ≤ tm + 60 → ad 0 = ad2 0 → jj p l e room_1 s m args below meth c Q D vwCl (tyL cI cL cR cJ) A 7 (wM cI aM ψ2 t2 ++ ((o, .inl (cJ, 1, .inr (.inl F2))) :: wX cI cL cR ad2 C2 φ2)) (k + 1) (w + 6) 1416 [(0, .ref sb), (1, .ref (ad 0)), (2, .ref (aM 0)), (3, .ref o), (4, .int (nI i))] []) : jj p l e room_1 s m args below meth c Q D vwCl (tyL cI cL cR cJ) A 7 (wM cI aM ψ t ++ ((o, .inl (cJ, 1, .inr (.inl F))) :: wX cI cL cR ad C φ)) (k) (w) 1236 [(0, .ref sb), (1, .ref (ad 0)), (2, .ref (aM 0)), (3, .ref o), (4, .int (nI i))] [] := by
  have hn24 := I.x.1
  have hb8 := I.x.2.1
  have hq8 := I.x.2.2.1
  have hn7 : ψ 7 0 = nI n := (Rr.n0 (j := 7) (by decide)).symm.trans I.x.2.2.2.2.1
  have hb14 : ψ 14 0 = nI b := (Rr.n0 (j := 14) (by decide)).symm.trans I.x.2.2.2.2.2.1
  have hq13 : ψ 13 0 = nI q := (Rr.n0 (j := 13) (by decide)).symm.trans I.x.2.2.2.2.2.2.1
  have h18 : ψ 18 0 = nI tm := (Rr.n0 (j := 18) (by decide)).symm.trans I.tm
  have h5g : ∀ k, k < n → ψ 5 k = -1 ∨ ∃ r, r < 8 ∧ ψ 5 k = nI r := fun k hk => by rw [← Rr.l (j := 5) (by decide) hk]; exact (I.x.h k hk).imp id fun ⟨r, hr, z⟩ => ⟨r, by omega, z⟩
  have hltg : ∀ k, k < n → ψ 3 k = 1 → ∃ r, r < 8 ∧ ψ 5 k = nI r := fun k hk z => by
    rw [← Rr.l (j := 3) (by decide) hk] at z
    obtain ⟨r, hr, e5, -⟩ := hpB_yes I.x.h hb8 hk (I.lp k hk z)
    exact ⟨r, by omega, by rw [← Rr.l (j := 5) (by decide) hk]; exact e5⟩
  have ho12 : ∀ i, i < q → ∃ r, r < 8 ∧ ψ 12 i = nI r := fun i hi => by rw [← Rr.o hi]; exact (I.x.o i hi).imp fun r z => ⟨by omega, z.2⟩
  have hqb : ∀ a, a < b → ψ 10 a = 0 → q < 8 := fun a ha z => q_lt I ha (by rw [Rr.r (j := 10) (by decide) ha]; exact z)
  refine j_aload_nR h dL_law_1236 rfl ?_
  refine j_aload_nR h dL_law_1237 rfl ?_
  refine j_iload h dL_law_1238 rfl ?_
  refine j_iconst (v := 1) h dL_law_1240 (by decide) ?_
  refine j_iadd h dL_law_1241 ?_
  refine j_sld (a := i + 1) h hX hbl hbA hL (nI_add i 1) (by omega) dL_law_1242 ?_
  refine j_aload_nR h dL_law_1243 rfl ?_
  refine j_callLF (wr := wM cI aM ψ t) (wc := (o, .inl (cJ, 1, .inr (.inl F))) :: wX cI cL cR ad C φ) h hnc dL_law_1244 (c_L_load hl I.x) (vx_cwSW 3 h.2.2.2.2.1 gL_law_L_load rfl rfl rfl (by decide +kernel) ⟨(Nat.le_of_ble_eq_true rfl), (Nat.le_of_ble_eq_true rfl)⟩) rfl rfl (Nat.le_of_ble_eq_true rfl) ⟨by show k + 1 ≤ 601024; omega, by show w + 6 ≤ 7293034; omega⟩ (fun r u hu => ?_)
  refine j_istore h dL_law_1247 (by decide) ?_
  refine jj_swap ?_
  refine j_aload_nR h dL_law_1249 rfl ?_
  refine j_aload_nR h dL_law_1250 rfl ?_
  refine j_iload h dL_law_1251 rfl ?_
  refine j_iconst (v := 1) h dL_law_1253 (by decide) ?_
  refine j_iadd h dL_law_1254 ?_
  refine j_sld (a := i + 1) h hX hbl hbA hL (nI_add i 1) (by omega) dL_law_1255 ?_
  refine j_callVIF (vc := (RX3, TX3, 22)) (wr := u) (wc := wM cI aM ψ t) h (h.2.2.2.2.2.1.sub [0, 1, 2] rfl) dL_law_1256 (c_X3_load hb14 I.x.2.1 hn7 I.x.1) (cwV 1 h.2.2.2.2.1 gL_law_X3_load rfl rfl rfl (by decide +kernel) ⟨(Nat.le_of_ble_eq_true rfl), (Nat.le_of_ble_eq_true rfl)⟩) 0 rfl rfl rfl rfl (Nat.le_of_ble_eq_true rfl) ⟨by show k + 1 + 0 ≤ 601024; omega, by show w + 6 + 0 ≤ 7293034; omega⟩ (fun rM uM hM => ?_)
  refine j_istore h dL_law_1259 (by decide) ?_
  have hTT : tF φ (xs (i + 1)) = tF ψ (xs (i + 1)) := R_tF Rr _
  obtain ⟨rfl, hMv⟩ := hM
  rcases hu with ⟨hr0, hrT, rfl⟩ | ⟨rfl, v, u0, hp, rfl⟩
  · -- thrown
    rw [hTT] at hrT
    subst hrT
    refine j_aload_nR h dL_law_1261 rfl ?_
    refine j_callVIF (vc := (RX3, TX3, 22)) h (h.2.2.2.2.2.1.sub [0, 1, 2] rfl) dL_law_1262 c_X3_thrown (cwV 0 h.2.2.2.2.1 gL_law_X3_thrown rfl rfl rfl (by decide +kernel) ⟨(Nat.le_of_ble_eq_true rfl), (Nat.le_of_ble_eq_true rfl)⟩) 0 rfl rfl rfl rfl (Nat.le_of_ble_eq_true rfl) ⟨by show k + 1 + 0 + 0 ≤ 601024; omega, by show w + 6 + 0 + 0 ≤ 7293034; omega⟩ (fun rT uT hT9 => ?_)
    obtain ⟨rfl, rfl⟩ := hT9
    refine j_iload h dL_law_1265 rfl ?_
    refine j_icmp_eq (tgt := 1272) h dL_law_1267 (by decide) (fun cE => ?_) (fun cE => absurd rfl cE)
    refine j_iload h dL_law_1272 rfl ?_
    refine j_if_ne (tgt := 1289) h dL_law_1274 (by decide) (fun cN => ?_) (fun cN => absurd cN hr0)
    refine j_goto (tgt := 1416) h dL_law_1289 (by decide) ?_
    refine jj_to (l1 := [(0, .ref sb), (1, .ref (ad 0)), (2, .ref (aM 0)), (3, .ref o), (4, .int (nI i))]) ?_ ⟨rfl, rfl, rfl, rfl, rfl, trivial⟩
    exact jj_swap (kk n b q tm φ ψ C ad _ F I Rr G (by omega) rfl)
  · -- done
    obtain ⟨hT0, hv9, rfl⟩ := hp
    have hT1 : tF ψ (xs (i + 1)) = 0 := hTT.symm.trans hT0
    have hMv := hMv hT1
    have hvv : rM = v := by
      rw [hMv, hv9]
      obtain ⟨a, ha, ea⟩ := tF_ix hT0 I.x.2.2.2.2.2.1 I.x.2.1
      rw [ea, nI_clamp (by omega)]
      rw [wt_ld (fun r s hr hs => I.x.sl r s hr hs) I.sc hn24 hb8 ha, Rr.ld _ (Nat.le_refl n)]
    subst hvv
    rw [hT1]
    refine j_aload_nR h dL_law_1261 rfl ?_
    refine j_callVIF (vc := (RX3, TX3, 22)) h (h.2.2.2.2.2.1.sub [0, 1, 2] rfl) dL_law_1262 c_X3_thrown (cwV 0 h.2.2.2.2.1 gL_law_X3_thrown rfl rfl rfl (by decide +kernel) ⟨(Nat.le_of_ble_eq_true rfl), (Nat.le_of_ble_eq_true rfl)⟩) 0 rfl rfl rfl rfl (Nat.le_of_ble_eq_true rfl) ⟨by show k + 1 + 0 + 0 ≤ 601024; omega, by show w + 6 + 0 + 0 ≤ 7293034; omega⟩ (fun rT uT hT9 => ?_)
    obtain ⟨rfl, rfl⟩ := hT9
    refine j_iload h dL_law_1265 rfl ?_
    refine j_icmp_eq (tgt := 1272) h dL_law_1267 (by decide) (fun cE => ?_) (fun cE => absurd rfl cE)
    refine j_iload h dL_law_1272 rfl ?_
    refine j_if_ne (tgt := 1289) h dL_law_1274 (by decide) (fun cN => absurd rfl cN) (fun cN => ?_)
    refine j_aload_nR h dL_law_1277 rfl ?_
    refine j_iconst (v := 0) h dL_law_1278 (by decide) ?_
    refine j_lald0 (wr := wX cI cL cR ad C φ ++ wM cI aM ψ 0) h 3 rfl dL_law_1279 ?_
    refine j_iload h dL_law_1280 rfl ?_
    refine j_i2l h dL_law_1282 ?_
    refine j_lcmp h dL_law_1283 ?_
    rw [show vp_updL F 0 (Int32.toInt64 _) 0 = _ from pk_uLs, cmp_eq]
    refine j_if_eq (tgt := 1289) h dL_law_1284 (by decide) (fun cZ => ?_) (fun cZ => absurd rfl cZ)
    refine j_goto (tgt := 1416) h dL_law_1289 (by decide) ?_
    refine jj_to (l1 := [(0, .ref sb), (1, .ref (ad 0)), (2, .ref (aM 0)), (3, .ref o), (4, .int (nI i))]) ?_ ⟨rfl, rfl, rfl, rfl, rfl, trivial⟩
    exact jj_swap (kk n b q tm φ ψ C ad 0 _ I Rr G (by omega) rfl)
set_option maxHeartbeats 4000000 in
set_option maxRecDepth 100000 in
theorem sg_likeness {p : Program} {l : Launch} {e : Env} {s : State} {m : MethodId} {args : Array Value} {below : List Frame} {meth : Method} {c : Code} {Q : State → Prop} {D : va_G} {cI cL cR cJ : ClassId} {A : Nat → Prop} {k w : Nat} {ad aM : Nat → Nat} {o sb L i n b q tm : Nat} {xs : Nat → Int32} {φ ψ : St} {C : List Nat} {t : Int32} {F : Nat → Int64} (h : jc p s m args c D vwCl (tyL cI cL cR cJ) A 7 cL_law RL wsL_law) (hl : l.stackTraces = false) (hnc : NcA s) (hX : va_X sb L xs s s.heap) (hbl : sb < s.heap.size) (hbA : ¬ A sb) (hL : L < 2 ^ 31) (hi : i + 3 < L) (hk : k + 4 ≤ 601024) (hw : w + 40 ≤ 7293034) (I : IV n b q tm φ C) (Rr : Rl n b q φ ψ) (G : RG n b ψ) (htm : tm < 2 ^ 27) (kk : ∀ (n2 b2 q2 tm2 : Nat) (φ2 ψ2 : St) (C2 : List Nat) (ad2 : Nat → Nat) (t2 : Int32) (F2 : Nat → Int64), IV n2 b2 q2 tm2 φ2 C2 → Rl n2 b2 q2 φ2 ψ2 → RG n2 b2 ψ2 → tm2 ≤ tm + 60 → ad 0 = ad2 0 → jj p l e room_1 s m args below meth c Q D vwCl (tyL cI cL cR cJ) A 7 (wM cI aM ψ2 t2 ++ ((o, .inl (cJ, 1, .inr (.inl F2))) :: wX cI cL cR ad2 C2 φ2)) (k + 2) (w + 12) 1416 [(0, .ref sb), (1, .ref (ad 0)), (2, .ref (aM 0)), (3, .ref o), (4, .int (nI i))] []) : jj p l e room_1 s m args below meth c Q D vwCl (tyL cI cL cR cJ) A 7 (wM cI aM ψ t ++ ((o, .inl (cJ, 1, .inr (.inl F))) :: wX cI cL cR ad C φ)) (k) (w) 1292 [(0, .ref sb), (1, .ref (ad 0)), (2, .ref (aM 0)), (3, .ref o), (4, .int (nI i))] [] := by
  have hn24 := I.x.1
  have hb8 := I.x.2.1
  have hq8 := I.x.2.2.1
  have hn7 : ψ 7 0 = nI n := (Rr.n0 (j := 7) (by decide)).symm.trans I.x.2.2.2.2.1
  have hb14 : ψ 14 0 = nI b := (Rr.n0 (j := 14) (by decide)).symm.trans I.x.2.2.2.2.2.1
  have hq13 : ψ 13 0 = nI q := (Rr.n0 (j := 13) (by decide)).symm.trans I.x.2.2.2.2.2.2.1
  have h18 : ψ 18 0 = nI tm := (Rr.n0 (j := 18) (by decide)).symm.trans I.tm
  have h5g : ∀ k, k < n → ψ 5 k = -1 ∨ ∃ r, r < 8 ∧ ψ 5 k = nI r := fun k hk => by rw [← Rr.l (j := 5) (by decide) hk]; exact (I.x.h k hk).imp id fun ⟨r, hr, z⟩ => ⟨r, by omega, z⟩
  have hltg : ∀ k, k < n → ψ 3 k = 1 → ∃ r, r < 8 ∧ ψ 5 k = nI r := fun k hk z => by
    rw [← Rr.l (j := 3) (by decide) hk] at z
    obtain ⟨r, hr, e5, -⟩ := hpB_yes I.x.h hb8 hk (I.lp k hk z)
    exact ⟨r, by omega, by rw [← Rr.l (j := 5) (by decide) hk]; exact e5⟩
  have ho12 : ∀ i, i < q → ∃ r, r < 8 ∧ ψ 12 i = nI r := fun i hi => by rw [← Rr.o hi]; exact (I.x.o i hi).imp fun r z => ⟨by omega, z.2⟩
  have hqb : ∀ a, a < b → ψ 10 a = 0 → q < 8 := fun a ha z => q_lt I ha (by rw [Rr.r (j := 10) (by decide) ha]; exact z)
  refine j_aload_nR h dL_law_1292 rfl ?_
  refine j_aload_nR h dL_law_1293 rfl ?_
  refine j_iload h dL_law_1294 rfl ?_
  refine j_iconst (v := 1) h dL_law_1296 (by decide) ?_
  refine j_iadd h dL_law_1297 ?_
  refine j_sld (a := i + 1) h hX hbl hbA hL (nI_add i 1) (by omega) dL_law_1298 ?_
  refine j_aload_nR h dL_law_1299 rfl ?_
  refine j_iload h dL_law_1300 rfl ?_
  refine j_iconst (v := 2) h dL_law_1302 (by decide) ?_
  refine j_iadd h dL_law_1303 ?_
  refine j_sld (a := i + 2) h hX hbl hbA hL (nI_add i 2) (by omega) dL_law_1304 ?_
  refine j_aload_nR h dL_law_1305 rfl ?_
  refine j_callLF (wr := wM cI aM ψ t) (wc := (o, .inl (cJ, 1, .inr (.inl F))) :: wX cI cL cR ad C φ) h hnc dL_law_1306 (c_L_likeness hl I.x) (vx_cwSW 4 h.2.2.2.2.1 gL_law_L_likeness rfl rfl rfl (by decide +kernel) ⟨(Nat.le_of_ble_eq_true rfl), (Nat.le_of_ble_eq_true rfl)⟩) rfl rfl (Nat.le_of_ble_eq_true rfl) ⟨by show k + 2 ≤ 601024; omega, by show w + 12 ≤ 7293034; omega⟩ (fun r u hu => ?_)
  refine j_istore h dL_law_1309 (by decide) ?_
  refine jj_swap ?_
  refine j_aload_nR h dL_law_1311 rfl ?_
  refine j_aload_nR h dL_law_1312 rfl ?_
  refine j_iload h dL_law_1313 rfl ?_
  refine j_iconst (v := 1) h dL_law_1315 (by decide) ?_
  refine j_iadd h dL_law_1316 ?_
  refine j_sld (a := i + 1) h hX hbl hbA hL (nI_add i 1) (by omega) dL_law_1317 ?_
  refine j_aload_nR h dL_law_1318 rfl ?_
  refine j_iload h dL_law_1319 rfl ?_
  refine j_iconst (v := 2) h dL_law_1321 (by decide) ?_
  refine j_iadd h dL_law_1322 ?_
  refine j_sld (a := i + 2) h hX hbl hbA hL (nI_add i 2) (by omega) dL_law_1323 ?_
  refine j_callVIF (vc := (RX3, TX3, 22)) (wr := u) (wc := wM cI aM ψ t) h (h.2.2.2.2.2.1.sub [0, 1, 2] rfl) dL_law_1324 (c_X3_likeness (b := b) hn7 I.x.1) (cwV 2 h.2.2.2.2.1 gL_law_X3_likeness rfl rfl rfl (by decide +kernel) ⟨(Nat.le_of_ble_eq_true rfl), (Nat.le_of_ble_eq_true rfl)⟩) 0 rfl rfl rfl rfl (Nat.le_of_ble_eq_true rfl) ⟨by show k + 2 + 0 ≤ 601024; omega, by show w + 12 + 0 ≤ 7293034; omega⟩ (fun rM uM hM => ?_)
  refine j_istore h dL_law_1327 (by decide) ?_
  have hTT : tLike φ (xs (i + 1)) (xs (i + 2)) = tLike ψ (xs (i + 1)) (xs (i + 2)) := R_like Rr _ _
  obtain ⟨rfl, hMv⟩ := hM
  rcases hu with ⟨hr0, hrT, rfl⟩ | ⟨rfl, v, u0, hp, rfl⟩
  · -- thrown
    rw [hTT] at hrT
    subst hrT
    refine j_aload_nR h dL_law_1329 rfl ?_
    refine j_callVIF (vc := (RX3, TX3, 22)) h (h.2.2.2.2.2.1.sub [0, 1, 2] rfl) dL_law_1330 c_X3_thrown (cwV 0 h.2.2.2.2.1 gL_law_X3_thrown rfl rfl rfl (by decide +kernel) ⟨(Nat.le_of_ble_eq_true rfl), (Nat.le_of_ble_eq_true rfl)⟩) 0 rfl rfl rfl rfl (Nat.le_of_ble_eq_true rfl) ⟨by show k + 2 + 0 + 0 ≤ 601024; omega, by show w + 12 + 0 + 0 ≤ 7293034; omega⟩ (fun rT uT hT9 => ?_)
    obtain ⟨rfl, rfl⟩ := hT9
    refine j_iload h dL_law_1333 rfl ?_
    refine j_icmp_eq (tgt := 1340) h dL_law_1335 (by decide) (fun cE => ?_) (fun cE => absurd rfl cE)
    refine j_iload h dL_law_1340 rfl ?_
    refine j_if_ne (tgt := 1357) h dL_law_1342 (by decide) (fun cN => ?_) (fun cN => absurd cN hr0)
    refine j_goto (tgt := 1416) h dL_law_1357 (by decide) ?_
    refine jj_to (l1 := [(0, .ref sb), (1, .ref (ad 0)), (2, .ref (aM 0)), (3, .ref o), (4, .int (nI i))]) ?_ ⟨rfl, rfl, rfl, rfl, rfl, trivial⟩
    exact jj_swap (kk n b q tm φ ψ C ad _ F I Rr G (by omega) rfl)
  · -- done
    obtain ⟨hT0, hv9, rfl⟩ := hp
    have hT1 : tLike ψ (xs (i + 1)) (xs (i + 2)) = 0 := hTT.symm.trans hT0
    have hMv := hMv hT1
    have hvv : rM = v := by
      rw [hMv, hv9]
      obtain ⟨a, ha, ea⟩ := isF_ix (gl_2.mp hT0).1 I.x.2.2.2.2.2.1 I.x.2.1
      rw [ea, nI_clamp (by omega), ax_lk (fun r s hr hs => I.x.sl r s hr hs) I.sc hb8 hn24 ha, Rr.lk a (by omega)]
    subst hvv
    rw [hT1]
    refine j_aload_nR h dL_law_1329 rfl ?_
    refine j_callVIF (vc := (RX3, TX3, 22)) h (h.2.2.2.2.2.1.sub [0, 1, 2] rfl) dL_law_1330 c_X3_thrown (cwV 0 h.2.2.2.2.1 gL_law_X3_thrown rfl rfl rfl (by decide +kernel) ⟨(Nat.le_of_ble_eq_true rfl), (Nat.le_of_ble_eq_true rfl)⟩) 0 rfl rfl rfl rfl (Nat.le_of_ble_eq_true rfl) ⟨by show k + 2 + 0 + 0 ≤ 601024; omega, by show w + 12 + 0 + 0 ≤ 7293034; omega⟩ (fun rT uT hT9 => ?_)
    obtain ⟨rfl, rfl⟩ := hT9
    refine j_iload h dL_law_1333 rfl ?_
    refine j_icmp_eq (tgt := 1340) h dL_law_1335 (by decide) (fun cE => ?_) (fun cE => absurd rfl cE)
    refine j_iload h dL_law_1340 rfl ?_
    refine j_if_ne (tgt := 1357) h dL_law_1342 (by decide) (fun cN => absurd rfl cN) (fun cN => ?_)
    refine j_aload_nR h dL_law_1345 rfl ?_
    refine j_iconst (v := 0) h dL_law_1346 (by decide) ?_
    refine j_lald0 (wr := wX cI cL cR ad C φ ++ wM cI aM ψ 0) h 3 rfl dL_law_1347 ?_
    refine j_iload h dL_law_1348 rfl ?_
    refine j_i2l h dL_law_1350 ?_
    refine j_lcmp h dL_law_1351 ?_
    rw [show vp_updL F 0 (Int32.toInt64 _) 0 = _ from pk_uLs, cmp_eq]
    refine j_if_eq (tgt := 1357) h dL_law_1352 (by decide) (fun cZ => ?_) (fun cZ => absurd rfl cZ)
    refine j_goto (tgt := 1416) h dL_law_1357 (by decide) ?_
    refine jj_to (l1 := [(0, .ref sb), (1, .ref (ad 0)), (2, .ref (aM 0)), (3, .ref o), (4, .int (nI i))]) ?_ ⟨rfl, rfl, rfl, rfl, rfl, trivial⟩
    exact jj_swap (kk n b q tm φ ψ C ad 0 _ I Rr G (by omega) rfl)
set_option maxHeartbeats 4000000 in
set_option maxRecDepth 100000 in
theorem sg_prize {p : Program} {l : Launch} {e : Env} {s : State} {m : MethodId} {args : Array Value} {below : List Frame} {meth : Method} {c : Code} {Q : State → Prop} {D : va_G} {cI cL cR cJ : ClassId} {A : Nat → Prop} {k w : Nat} {ad aM : Nat → Nat} {o sb L i n b q tm : Nat} {xs : Nat → Int32} {φ ψ : St} {C : List Nat} {t : Int32} {F : Nat → Int64} (h : jc p s m args c D vwCl (tyL cI cL cR cJ) A 7 cL_law RL wsL_law) (hl : l.stackTraces = false) (hnc : NcA s) (hX : va_X sb L xs s s.heap) (hbl : sb < s.heap.size) (hbA : ¬ A sb) (hL : L < 2 ^ 31) (hi : i + 3 < L) (hk : k + 4 ≤ 601024) (hw : w + 40 ≤ 7293034) (I : IV n b q tm φ C) (Rr : Rl n b q φ ψ) (G : RG n b ψ) (htm : tm < 2 ^ 27) (kk : ∀ (n2 b2 q2 tm2 : Nat) (φ2 ψ2 : St) (C2 : List Nat) (ad2 : Nat → Nat) (t2 : Int32) (F2 : Nat → Int64), IV n2 b2 q2 tm2 φ2 C2 → Rl n2 b2 q2 φ2 ψ2 → RG n2 b2 ψ2 → tm2 ≤ tm + 60 → ad 0 = ad2 0 → jj p l e room_1 s m args below meth c Q D vwCl (tyL cI cL cR cJ) A 7 (wM cI aM ψ2 t2 ++ ((o, .inl (cJ, 1, .inr (.inl F2))) :: wX cI cL cR ad2 C2 φ2)) (k + 1) (w + 6) 1416 [(0, .ref sb), (1, .ref (ad 0)), (2, .ref (aM 0)), (3, .ref o), (4, .int (nI i))] []) : jj p l e room_1 s m args below meth c Q D vwCl (tyL cI cL cR cJ) A 7 (wM cI aM ψ t ++ ((o, .inl (cJ, 1, .inr (.inl F))) :: wX cI cL cR ad C φ)) (k) (w) 1360 [(0, .ref sb), (1, .ref (ad 0)), (2, .ref (aM 0)), (3, .ref o), (4, .int (nI i))] [] := by
  have hn24 := I.x.1
  have hb8 := I.x.2.1
  have hq8 := I.x.2.2.1
  have hn7 : ψ 7 0 = nI n := (Rr.n0 (j := 7) (by decide)).symm.trans I.x.2.2.2.2.1
  have hb14 : ψ 14 0 = nI b := (Rr.n0 (j := 14) (by decide)).symm.trans I.x.2.2.2.2.2.1
  have hq13 : ψ 13 0 = nI q := (Rr.n0 (j := 13) (by decide)).symm.trans I.x.2.2.2.2.2.2.1
  have h18 : ψ 18 0 = nI tm := (Rr.n0 (j := 18) (by decide)).symm.trans I.tm
  have h5g : ∀ k, k < n → ψ 5 k = -1 ∨ ∃ r, r < 8 ∧ ψ 5 k = nI r := fun k hk => by rw [← Rr.l (j := 5) (by decide) hk]; exact (I.x.h k hk).imp id fun ⟨r, hr, z⟩ => ⟨r, by omega, z⟩
  have hltg : ∀ k, k < n → ψ 3 k = 1 → ∃ r, r < 8 ∧ ψ 5 k = nI r := fun k hk z => by
    rw [← Rr.l (j := 3) (by decide) hk] at z
    obtain ⟨r, hr, e5, -⟩ := hpB_yes I.x.h hb8 hk (I.lp k hk z)
    exact ⟨r, by omega, by rw [← Rr.l (j := 5) (by decide) hk]; exact e5⟩
  have ho12 : ∀ i, i < q → ∃ r, r < 8 ∧ ψ 12 i = nI r := fun i hi => by rw [← Rr.o hi]; exact (I.x.o i hi).imp fun r z => ⟨by omega, z.2⟩
  have hqb : ∀ a, a < b → ψ 10 a = 0 → q < 8 := fun a ha z => q_lt I ha (by rw [Rr.r (j := 10) (by decide) ha]; exact z)
  refine j_aload_nR h dL_law_1360 rfl ?_
  refine j_aload_nR h dL_law_1361 rfl ?_
  refine j_iload h dL_law_1362 rfl ?_
  refine j_iconst (v := 1) h dL_law_1364 (by decide) ?_
  refine j_iadd h dL_law_1365 ?_
  refine j_sld (a := i + 1) h hX hbl hbA hL (nI_add i 1) (by omega) dL_law_1366 ?_
  refine j_aload_nR h dL_law_1367 rfl ?_
  refine j_callLF (wr := wM cI aM ψ t) (wc := (o, .inl (cJ, 1, .inr (.inl F))) :: wX cI cL cR ad C φ) h hnc dL_law_1368 (c_L_prize hl I.x) (vx_cwSW 3 h.2.2.2.2.1 gL_law_L_prize rfl rfl rfl (by decide +kernel) ⟨(Nat.le_of_ble_eq_true rfl), (Nat.le_of_ble_eq_true rfl)⟩) rfl rfl (Nat.le_of_ble_eq_true rfl) ⟨by show k + 1 ≤ 601024; omega, by show w + 6 ≤ 7293034; omega⟩ (fun r u hu => ?_)
  refine j_istore h dL_law_1371 (by decide) ?_
  refine jj_swap ?_
  refine j_aload_nR h dL_law_1373 rfl ?_
  refine j_aload_nR h dL_law_1374 rfl ?_
  refine j_iload h dL_law_1375 rfl ?_
  refine j_iconst (v := 1) h dL_law_1377 (by decide) ?_
  refine j_iadd h dL_law_1378 ?_
  refine j_sld (a := i + 1) h hX hbl hbA hL (nI_add i 1) (by omega) dL_law_1379 ?_
  refine j_callVIF (vc := (RX3, TX3, 22)) (wr := u) (wc := wM cI aM ψ t) h (h.2.2.2.2.2.1.sub [0, 1, 2] rfl) dL_law_1380 (c_X3_prize hn7 I.x.1 hq13 I.x.2.2.1 ho12) (cwV 1 h.2.2.2.2.1 gL_law_X3_prize rfl rfl rfl (by decide +kernel) ⟨(Nat.le_of_ble_eq_true rfl), (Nat.le_of_ble_eq_true rfl)⟩) 0 rfl rfl rfl rfl (Nat.le_of_ble_eq_true rfl) ⟨by show k + 1 + 0 ≤ 601024; omega, by show w + 6 + 0 ≤ 7293034; omega⟩ (fun rM uM hM => ?_)
  refine j_istore h dL_law_1383 (by decide) ?_
  have hTT : tPrize (xs (i + 1)) = tPrize (xs (i + 1)) := rfl
  obtain ⟨rfl, hMv⟩ := hM
  rcases hu with ⟨hr0, hrT, rfl⟩ | ⟨rfl, v, u0, hp, rfl⟩
  · -- thrown
    rw [hTT] at hrT
    subst hrT
    refine j_aload_nR h dL_law_1385 rfl ?_
    refine j_callVIF (vc := (RX3, TX3, 22)) h (h.2.2.2.2.2.1.sub [0, 1, 2] rfl) dL_law_1386 c_X3_thrown (cwV 0 h.2.2.2.2.1 gL_law_X3_thrown rfl rfl rfl (by decide +kernel) ⟨(Nat.le_of_ble_eq_true rfl), (Nat.le_of_ble_eq_true rfl)⟩) 0 rfl rfl rfl rfl (Nat.le_of_ble_eq_true rfl) ⟨by show k + 1 + 0 + 0 ≤ 601024; omega, by show w + 6 + 0 + 0 ≤ 7293034; omega⟩ (fun rT uT hT9 => ?_)
    obtain ⟨rfl, rfl⟩ := hT9
    refine j_iload h dL_law_1389 rfl ?_
    refine j_icmp_eq (tgt := 1396) h dL_law_1391 (by decide) (fun cE => ?_) (fun cE => absurd rfl cE)
    refine j_iload h dL_law_1396 rfl ?_
    refine j_if_ne (tgt := 1413) h dL_law_1398 (by decide) (fun cN => ?_) (fun cN => absurd cN hr0)
    refine j_goto (tgt := 1416) h dL_law_1413 (by decide) ?_
    refine jj_to (l1 := [(0, .ref sb), (1, .ref (ad 0)), (2, .ref (aM 0)), (3, .ref o), (4, .int (nI i))]) ?_ ⟨rfl, rfl, rfl, rfl, rfl, trivial⟩
    exact jj_swap (kk n b q tm φ ψ C ad _ F I Rr G (by omega) rfl)
  · -- done
    obtain ⟨hT0, hv9, rfl⟩ := hp
    have hT1 : tPrize (xs (i + 1)) = 0 := hTT.symm.trans hT0
    have hMv := hMv hT1
    have hvv : rM = v := by
      rw [hMv, hv9]
      rw [pz_pr (fun r s hr hs => I.x.sl r s hr hs) I.sc I.x.o hb8 hn24, (Rr.pr hb8 I.x.o _ (Nat.le_refl q)).1]
    subst hvv
    rw [hT1]
    refine j_aload_nR h dL_law_1385 rfl ?_
    refine j_callVIF (vc := (RX3, TX3, 22)) h (h.2.2.2.2.2.1.sub [0, 1, 2] rfl) dL_law_1386 c_X3_thrown (cwV 0 h.2.2.2.2.1 gL_law_X3_thrown rfl rfl rfl (by decide +kernel) ⟨(Nat.le_of_ble_eq_true rfl), (Nat.le_of_ble_eq_true rfl)⟩) 0 rfl rfl rfl rfl (Nat.le_of_ble_eq_true rfl) ⟨by show k + 1 + 0 + 0 ≤ 601024; omega, by show w + 6 + 0 + 0 ≤ 7293034; omega⟩ (fun rT uT hT9 => ?_)
    obtain ⟨rfl, rfl⟩ := hT9
    refine j_iload h dL_law_1389 rfl ?_
    refine j_icmp_eq (tgt := 1396) h dL_law_1391 (by decide) (fun cE => ?_) (fun cE => absurd rfl cE)
    refine j_iload h dL_law_1396 rfl ?_
    refine j_if_ne (tgt := 1413) h dL_law_1398 (by decide) (fun cN => absurd rfl cN) (fun cN => ?_)
    refine j_aload_nR h dL_law_1401 rfl ?_
    refine j_iconst (v := 0) h dL_law_1402 (by decide) ?_
    refine j_lald0 (wr := wX cI cL cR ad C φ ++ wM cI aM ψ 0) h 3 rfl dL_law_1403 ?_
    refine j_iload h dL_law_1404 rfl ?_
    refine j_i2l h dL_law_1406 ?_
    refine j_lcmp h dL_law_1407 ?_
    rw [show vp_updL F 0 (Int32.toInt64 _) 0 = _ from pk_uLs, cmp_eq]
    refine j_if_eq (tgt := 1413) h dL_law_1408 (by decide) (fun cZ => ?_) (fun cZ => absurd rfl cZ)
    refine j_goto (tgt := 1416) h dL_law_1413 (by decide) ?_
    refine jj_to (l1 := [(0, .ref sb), (1, .ref (ad 0)), (2, .ref (aM 0)), (3, .ref o), (4, .int (nI i))]) ?_ ⟨rfl, rfl, rfl, rfl, rfl, trivial⟩
    exact jj_swap (kk n b q tm φ ψ C ad 0 _ I Rr G (by omega) rfl)
set_option maxHeartbeats 4000000 in
set_option maxRecDepth 100000 in
theorem sg_setRules {p : Program} {l : Launch} {e : Env} {s : State} {m : MethodId} {args : Array Value} {below : List Frame} {meth : Method} {c : Code} {Q : State → Prop} {D : va_G} {cI cL cR cJ : ClassId} {A : Nat → Prop} {k w : Nat} {ad aM : Nat → Nat} {o sb L i n b q tm : Nat} {xs : Nat → Int32} {φ ψ : St} {C : List Nat} {t : Int32} {F : Nat → Int64} (h : jc p s m args c D vwCl (tyL cI cL cR cJ) A 7 cL_law RL wsL_law) (hl : l.stackTraces = false) (hnc : NcA s) (hX : va_X sb L xs s s.heap) (hbl : sb < s.heap.size) (hbA : ¬ A sb) (hL : L < 2 ^ 31) (hi : i + 3 < L) (hk : k + 4 ≤ 601024) (hw : w + 40 ≤ 7293034) (I : IV n b q tm φ C) (Rr : Rl n b q φ ψ) (G : RG n b ψ) (htm : tm < 2 ^ 27) (kk : ∀ (n2 b2 q2 tm2 : Nat) (φ2 ψ2 : St) (C2 : List Nat) (ad2 : Nat → Nat) (t2 : Int32) (F2 : Nat → Int64), IV n2 b2 q2 tm2 φ2 C2 → Rl n2 b2 q2 φ2 ψ2 → RG n2 b2 ψ2 → tm2 ≤ tm + 60 → ad 0 = ad2 0 → jj p l e room_1 s m args below meth c Q D vwCl (tyL cI cL cR cJ) A 7 (wM cI aM ψ2 t2 ++ ((o, .inl (cJ, 1, .inr (.inl F2))) :: wX cI cL cR ad2 C2 φ2)) (k + 1) (w + 6) 1416 [(0, .ref sb), (1, .ref (ad 0)), (2, .ref (aM 0)), (3, .ref o), (4, .int (nI i))] []) : jj p l e room_1 s m args below meth c Q D vwCl (tyL cI cL cR cJ) A 7 (wM cI aM ψ t ++ ((o, .inl (cJ, 1, .inr (.inl F))) :: wX cI cL cR ad C φ)) (k) (w) 600 [(0, .ref sb), (1, .ref (ad 0)), (2, .ref (aM 0)), (3, .ref o), (4, .int (nI i))] [] := by
  have hn24 := I.x.1
  have hb8 := I.x.2.1
  have hq8 := I.x.2.2.1
  have hn7 : ψ 7 0 = nI n := (Rr.n0 (j := 7) (by decide)).symm.trans I.x.2.2.2.2.1
  have hb14 : ψ 14 0 = nI b := (Rr.n0 (j := 14) (by decide)).symm.trans I.x.2.2.2.2.2.1
  have hq13 : ψ 13 0 = nI q := (Rr.n0 (j := 13) (by decide)).symm.trans I.x.2.2.2.2.2.2.1
  have h18 : ψ 18 0 = nI tm := (Rr.n0 (j := 18) (by decide)).symm.trans I.tm
  have h5g : ∀ k, k < n → ψ 5 k = -1 ∨ ∃ r, r < 8 ∧ ψ 5 k = nI r := fun k hk => by rw [← Rr.l (j := 5) (by decide) hk]; exact (I.x.h k hk).imp id fun ⟨r, hr, z⟩ => ⟨r, by omega, z⟩
  have hltg : ∀ k, k < n → ψ 3 k = 1 → ∃ r, r < 8 ∧ ψ 5 k = nI r := fun k hk z => by
    rw [← Rr.l (j := 3) (by decide) hk] at z
    obtain ⟨r, hr, e5, -⟩ := hpB_yes I.x.h hb8 hk (I.lp k hk z)
    exact ⟨r, by omega, by rw [← Rr.l (j := 5) (by decide) hk]; exact e5⟩
  have ho12 : ∀ i, i < q → ∃ r, r < 8 ∧ ψ 12 i = nI r := fun i hi => by rw [← Rr.o hi]; exact (I.x.o i hi).imp fun r z => ⟨by omega, z.2⟩
  have hqb : ∀ a, a < b → ψ 10 a = 0 → q < 8 := fun a ha z => q_lt I ha (by rw [Rr.r (j := 10) (by decide) ha]; exact z)
  refine j_aload_nR h dL_law_600 rfl ?_
  refine j_aload_nR h dL_law_601 rfl ?_
  refine j_iload h dL_law_602 rfl ?_
  refine j_iconst (v := 1) h dL_law_604 (by decide) ?_
  refine j_iadd h dL_law_605 ?_
  refine j_sld (a := i + 1) h hX hbl hbA hL (nI_add i 1) (by omega) dL_law_606 ?_
  refine j_aload_nR h dL_law_607 rfl ?_
  refine j_iload h dL_law_608 rfl ?_
  refine j_iconst (v := 2) h dL_law_610 (by decide) ?_
  refine j_iadd h dL_law_611 ?_
  refine j_sld (a := i + 2) h hX hbl hbA hL (nI_add i 2) (by omega) dL_law_612 ?_
  refine j_aload_nR h dL_law_613 rfl ?_
  refine j_callLF (wr := wM cI aM ψ t) (wc := (o, .inl (cJ, 1, .inr (.inl F))) :: wX cI cL cR ad C φ) h hnc dL_law_614 (c_L_setRules hl I.x) (vx_cwSW 4 h.2.2.2.2.1 gL_law_L_setRules rfl rfl rfl (by decide +kernel) ⟨(Nat.le_of_ble_eq_true rfl), (Nat.le_of_ble_eq_true rfl)⟩) rfl rfl (Nat.le_of_ble_eq_true rfl) ⟨by show k + 1 ≤ 601024; omega, by show w + 6 ≤ 7293034; omega⟩ (fun r u hu => ?_)
  refine j_istore h dL_law_617 (by decide) ?_
  refine jj_swap ?_
  refine j_aload_nR h dL_law_619 rfl ?_
  refine j_aload_nR h dL_law_620 rfl ?_
  refine j_iload h dL_law_621 rfl ?_
  refine j_iconst (v := 1) h dL_law_623 (by decide) ?_
  refine j_iadd h dL_law_624 ?_
  refine j_sld (a := i + 1) h hX hbl hbA hL (nI_add i 1) (by omega) dL_law_625 ?_
  refine j_aload_nR h dL_law_626 rfl ?_
  refine j_iload h dL_law_627 rfl ?_
  refine j_iconst (v := 2) h dL_law_629 (by decide) ?_
  refine j_iadd h dL_law_630 ?_
  refine j_sld (a := i + 2) h hX hbl hbA hL (nI_add i 2) (by omega) dL_law_631 ?_
  refine j_callVIF (vc := (RX3, TX3, 22)) (wr := u) (wc := wM cI aM ψ t) h (h.2.2.2.2.2.1.sub [0, 1, 2] rfl) dL_law_632 (c_X3_setRules ) (cwV 2 h.2.2.2.2.1 gL_law_X3_setRules rfl rfl rfl (by decide +kernel) ⟨(Nat.le_of_ble_eq_true rfl), (Nat.le_of_ble_eq_true rfl)⟩) 0 rfl rfl rfl rfl (Nat.le_of_ble_eq_true rfl) ⟨by show k + 1 + 0 ≤ 601024; omega, by show w + 6 + 0 ≤ 7293034; omega⟩ (fun rM uM hM => ?_)
  refine j_istore h dL_law_635 (by decide) ?_
  have hTT : tRules (xs (i + 1)) (xs (i + 2)) = tRules (xs (i + 1)) (xs (i + 2)) := rfl
  rcases hu with ⟨hr0, hrT, rfl⟩ | ⟨rfl, v, u0, hp, rfl⟩
  · -- thrown
    rw [hTT] at hrT
    subst hrT
    obtain rfl := hM.1 hr0
    refine j_aload_nR h dL_law_637 rfl ?_
    refine j_callVIF (vc := (RX3, TX3, 22)) h (h.2.2.2.2.2.1.sub [0, 1, 2] rfl) dL_law_638 c_X3_thrown (cwV 0 h.2.2.2.2.1 gL_law_X3_thrown rfl rfl rfl (by decide +kernel) ⟨(Nat.le_of_ble_eq_true rfl), (Nat.le_of_ble_eq_true rfl)⟩) 0 rfl rfl rfl rfl (Nat.le_of_ble_eq_true rfl) ⟨by show k + 1 + 0 + 0 ≤ 601024; omega, by show w + 6 + 0 + 0 ≤ 7293034; omega⟩ (fun rT uT hT9 => ?_)
    obtain ⟨rfl, rfl⟩ := hT9
    refine j_iload h dL_law_641 rfl ?_
    refine j_icmp_eq (tgt := 648) h dL_law_643 (by decide) (fun cE => ?_) (fun cE => absurd rfl cE)
    refine j_iload h dL_law_648 rfl ?_
    refine j_if_ne (tgt := 665) h dL_law_650 (by decide) (fun cN => ?_) (fun cN => absurd cN hr0)
    refine j_goto (tgt := 1416) h dL_law_665 (by decide) ?_
    refine jj_to (l1 := [(0, .ref sb), (1, .ref (ad 0)), (2, .ref (aM 0)), (3, .ref o), (4, .int (nI i))]) ?_ ⟨rfl, rfl, rfl, rfl, rfl, trivial⟩
    exact jj_swap (kk n b q tm φ ψ C ad _ F I Rr G (by omega) rfl)
  · -- done
    obtain ⟨hT0, hv9, hu9⟩ := hp
    have hT1 : tRules (xs (i + 1)) (xs (i + 2)) = 0 := hTT.symm.trans hT0
    obtain ⟨hrm, rfl⟩ := hM.2 hT1
    subst hu9
    have hvv : rM = v := by rw [hrm, hv9]; exact (Rr.n0 (j := 15) (by decide)).symm
    subst hvv
    refine j_aload_nR h dL_law_637 rfl ?_
    refine j_callVIF (vc := (RX3, TX3, 22)) h (h.2.2.2.2.2.1.sub [0, 1, 2] rfl) dL_law_638 c_X3_thrown (cwV 0 h.2.2.2.2.1 gL_law_X3_thrown rfl rfl rfl (by decide +kernel) ⟨(Nat.le_of_ble_eq_true rfl), (Nat.le_of_ble_eq_true rfl)⟩) 0 rfl rfl rfl rfl (Nat.le_of_ble_eq_true rfl) ⟨by show k + 1 + 0 + 0 ≤ 601024; omega, by show w + 6 + 0 + 0 ≤ 7293034; omega⟩ (fun rT uT hT9 => ?_)
    obtain ⟨rfl, rfl⟩ := hT9
    refine j_iload h dL_law_641 rfl ?_
    refine j_icmp_eq (tgt := 648) h dL_law_643 (by decide) (fun cE => ?_) (fun cE => absurd rfl cE)
    refine j_iload h dL_law_648 rfl ?_
    refine j_if_ne (tgt := 665) h dL_law_650 (by decide) (fun cN => absurd rfl cN) (fun cN => ?_)
    refine j_aload_nR h dL_law_653 rfl ?_
    refine j_iconst (v := 0) h dL_law_654 (by decide) ?_
    refine j_lald0 (wr := wX cI cL cR ad C (up2 (up2 φ 15 0 (xs (i + 1))) 16 0 (xs (i + 2))) ++ wM cI aM (up2 (up2 ψ 15 0 (xs (i + 1))) 16 0 (xs (i + 2))) 0) h 3 rfl dL_law_655 ?_
    refine j_iload h dL_law_656 rfl ?_
    refine j_i2l h dL_law_658 ?_
    refine j_lcmp h dL_law_659 ?_
    rw [show vp_updL F 0 (Int32.toInt64 _) 0 = _ from pk_uLs, cmp_eq]
    refine j_if_eq (tgt := 665) h dL_law_660 (by decide) (fun cZ => ?_) (fun cZ => absurd rfl cZ)
    refine j_goto (tgt := 1416) h dL_law_665 (by decide) ?_
    refine jj_to (l1 := [(0, .ref sb), (1, .ref (ad 0)), (2, .ref (aM 0)), (3, .ref o), (4, .int (nI i))]) ?_ ⟨rfl, rfl, rfl, rfl, rfl, trivial⟩
    exact jj_swap (kk n b q tm _ _ C ad 0 _ (I.rules hT0) ((Rr.up (by decide) (by decide) _ _).up (by decide) (by decide) _ _) ((G.up _ (by omega)).up _ (by omega)) (by omega) rfl)
set_option maxHeartbeats 4000000 in
set_option maxRecDepth 100000 in
theorem sg_setGust {p : Program} {l : Launch} {e : Env} {s : State} {m : MethodId} {args : Array Value} {below : List Frame} {meth : Method} {c : Code} {Q : State → Prop} {D : va_G} {cI cL cR cJ : ClassId} {A : Nat → Prop} {k w : Nat} {ad aM : Nat → Nat} {o sb L i n b q tm : Nat} {xs : Nat → Int32} {φ ψ : St} {C : List Nat} {t : Int32} {F : Nat → Int64} (h : jc p s m args c D vwCl (tyL cI cL cR cJ) A 7 cL_law RL wsL_law) (hl : l.stackTraces = false) (hnc : NcA s) (hX : va_X sb L xs s s.heap) (hbl : sb < s.heap.size) (hbA : ¬ A sb) (hL : L < 2 ^ 31) (hi : i + 3 < L) (hk : k + 4 ≤ 601024) (hw : w + 40 ≤ 7293034) (I : IV n b q tm φ C) (Rr : Rl n b q φ ψ) (G : RG n b ψ) (htm : tm < 2 ^ 27) (kk : ∀ (n2 b2 q2 tm2 : Nat) (φ2 ψ2 : St) (C2 : List Nat) (ad2 : Nat → Nat) (t2 : Int32) (F2 : Nat → Int64), IV n2 b2 q2 tm2 φ2 C2 → Rl n2 b2 q2 φ2 ψ2 → RG n2 b2 ψ2 → tm2 ≤ tm + 60 → ad 0 = ad2 0 → jj p l e room_1 s m args below meth c Q D vwCl (tyL cI cL cR cJ) A 7 (wM cI aM ψ2 t2 ++ ((o, .inl (cJ, 1, .inr (.inl F2))) :: wX cI cL cR ad2 C2 φ2)) (k + 1) (w + 6) 1416 [(0, .ref sb), (1, .ref (ad 0)), (2, .ref (aM 0)), (3, .ref o), (4, .int (nI i))] []) : jj p l e room_1 s m args below meth c Q D vwCl (tyL cI cL cR cJ) A 7 (wM cI aM ψ t ++ ((o, .inl (cJ, 1, .inr (.inl F))) :: wX cI cL cR ad C φ)) (k) (w) 668 [(0, .ref sb), (1, .ref (ad 0)), (2, .ref (aM 0)), (3, .ref o), (4, .int (nI i))] [] := by
  have hn24 := I.x.1
  have hb8 := I.x.2.1
  have hq8 := I.x.2.2.1
  have hn7 : ψ 7 0 = nI n := (Rr.n0 (j := 7) (by decide)).symm.trans I.x.2.2.2.2.1
  have hb14 : ψ 14 0 = nI b := (Rr.n0 (j := 14) (by decide)).symm.trans I.x.2.2.2.2.2.1
  have hq13 : ψ 13 0 = nI q := (Rr.n0 (j := 13) (by decide)).symm.trans I.x.2.2.2.2.2.2.1
  have h18 : ψ 18 0 = nI tm := (Rr.n0 (j := 18) (by decide)).symm.trans I.tm
  have h5g : ∀ k, k < n → ψ 5 k = -1 ∨ ∃ r, r < 8 ∧ ψ 5 k = nI r := fun k hk => by rw [← Rr.l (j := 5) (by decide) hk]; exact (I.x.h k hk).imp id fun ⟨r, hr, z⟩ => ⟨r, by omega, z⟩
  have hltg : ∀ k, k < n → ψ 3 k = 1 → ∃ r, r < 8 ∧ ψ 5 k = nI r := fun k hk z => by
    rw [← Rr.l (j := 3) (by decide) hk] at z
    obtain ⟨r, hr, e5, -⟩ := hpB_yes I.x.h hb8 hk (I.lp k hk z)
    exact ⟨r, by omega, by rw [← Rr.l (j := 5) (by decide) hk]; exact e5⟩
  have ho12 : ∀ i, i < q → ∃ r, r < 8 ∧ ψ 12 i = nI r := fun i hi => by rw [← Rr.o hi]; exact (I.x.o i hi).imp fun r z => ⟨by omega, z.2⟩
  have hqb : ∀ a, a < b → ψ 10 a = 0 → q < 8 := fun a ha z => q_lt I ha (by rw [Rr.r (j := 10) (by decide) ha]; exact z)
  refine j_aload_nR h dL_law_668 rfl ?_
  refine j_aload_nR h dL_law_669 rfl ?_
  refine j_iload h dL_law_670 rfl ?_
  refine j_iconst (v := 1) h dL_law_672 (by decide) ?_
  refine j_iadd h dL_law_673 ?_
  refine j_sld (a := i + 1) h hX hbl hbA hL (nI_add i 1) (by omega) dL_law_674 ?_
  refine j_aload_nR h dL_law_675 rfl ?_
  refine j_iload h dL_law_676 rfl ?_
  refine j_iconst (v := 2) h dL_law_678 (by decide) ?_
  refine j_iadd h dL_law_679 ?_
  refine j_sld (a := i + 2) h hX hbl hbA hL (nI_add i 2) (by omega) dL_law_680 ?_
  refine j_aload_nR h dL_law_681 rfl ?_
  refine j_callLF (wr := wM cI aM ψ t) (wc := (o, .inl (cJ, 1, .inr (.inl F))) :: wX cI cL cR ad C φ) h hnc dL_law_682 (c_L_setGust hl I.x) (vx_cwSW 4 h.2.2.2.2.1 gL_law_L_setGust rfl rfl rfl (by decide +kernel) ⟨(Nat.le_of_ble_eq_true rfl), (Nat.le_of_ble_eq_true rfl)⟩) rfl rfl (Nat.le_of_ble_eq_true rfl) ⟨by show k + 1 ≤ 601024; omega, by show w + 6 ≤ 7293034; omega⟩ (fun r u hu => ?_)
  refine j_istore h dL_law_685 (by decide) ?_
  refine jj_swap ?_
  refine j_aload_nR h dL_law_687 rfl ?_
  refine j_aload_nR h dL_law_688 rfl ?_
  refine j_iload h dL_law_689 rfl ?_
  refine j_iconst (v := 1) h dL_law_691 (by decide) ?_
  refine j_iadd h dL_law_692 ?_
  refine j_sld (a := i + 1) h hX hbl hbA hL (nI_add i 1) (by omega) dL_law_693 ?_
  refine j_aload_nR h dL_law_694 rfl ?_
  refine j_iload h dL_law_695 rfl ?_
  refine j_iconst (v := 2) h dL_law_697 (by decide) ?_
  refine j_iadd h dL_law_698 ?_
  refine j_sld (a := i + 2) h hX hbl hbA hL (nI_add i 2) (by omega) dL_law_699 ?_
  refine j_callVIF (vc := (RX3, TX3, 22)) (wr := u) (wc := wM cI aM ψ t) h (h.2.2.2.2.2.1.sub [0, 1, 2] rfl) dL_law_700 (c_X3_setGust ) (cwV 2 h.2.2.2.2.1 gL_law_X3_setGust rfl rfl rfl (by decide +kernel) ⟨(Nat.le_of_ble_eq_true rfl), (Nat.le_of_ble_eq_true rfl)⟩) 0 rfl rfl rfl rfl (Nat.le_of_ble_eq_true rfl) ⟨by show k + 1 + 0 ≤ 601024; omega, by show w + 6 + 0 ≤ 7293034; omega⟩ (fun rM uM hM => ?_)
  refine j_istore h dL_law_703 (by decide) ?_
  have hTT : tGust (xs (i + 1)) (xs (i + 2)) = tGust (xs (i + 1)) (xs (i + 2)) := rfl
  rcases hu with ⟨hr0, hrT, rfl⟩ | ⟨rfl, v, u0, hp, rfl⟩
  · -- thrown
    rw [hTT] at hrT
    subst hrT
    obtain rfl := hM.1 hr0
    refine j_aload_nR h dL_law_705 rfl ?_
    refine j_callVIF (vc := (RX3, TX3, 22)) h (h.2.2.2.2.2.1.sub [0, 1, 2] rfl) dL_law_706 c_X3_thrown (cwV 0 h.2.2.2.2.1 gL_law_X3_thrown rfl rfl rfl (by decide +kernel) ⟨(Nat.le_of_ble_eq_true rfl), (Nat.le_of_ble_eq_true rfl)⟩) 0 rfl rfl rfl rfl (Nat.le_of_ble_eq_true rfl) ⟨by show k + 1 + 0 + 0 ≤ 601024; omega, by show w + 6 + 0 + 0 ≤ 7293034; omega⟩ (fun rT uT hT9 => ?_)
    obtain ⟨rfl, rfl⟩ := hT9
    refine j_iload h dL_law_709 rfl ?_
    refine j_icmp_eq (tgt := 716) h dL_law_711 (by decide) (fun cE => ?_) (fun cE => absurd rfl cE)
    refine j_iload h dL_law_716 rfl ?_
    refine j_if_ne (tgt := 733) h dL_law_718 (by decide) (fun cN => ?_) (fun cN => absurd cN hr0)
    refine j_goto (tgt := 1416) h dL_law_733 (by decide) ?_
    refine jj_to (l1 := [(0, .ref sb), (1, .ref (ad 0)), (2, .ref (aM 0)), (3, .ref o), (4, .int (nI i))]) ?_ ⟨rfl, rfl, rfl, rfl, rfl, trivial⟩
    exact jj_swap (kk n b q tm φ ψ C ad _ F I Rr G (by omega) rfl)
  · -- done
    obtain ⟨hT0, hv9, hu9⟩ := hp
    have hT1 : tGust (xs (i + 1)) (xs (i + 2)) = 0 := hTT.symm.trans hT0
    obtain ⟨a, ha, ea, ha1, hrm, rfl⟩ := hM.2 hT1
    rw [show (xs (i + 1)).toNatClampNeg = a by rw [ea, nI_clamp (by omega)]] at hv9 hu9
    subst hu9
    have hvv : rM = v := by rw [hrm, hv9, Rr.gu]
    subst hvv
    refine j_aload_nR h dL_law_705 rfl ?_
    refine j_callVIF (vc := (RX3, TX3, 22)) h (h.2.2.2.2.2.1.sub [0, 1, 2] rfl) dL_law_706 c_X3_thrown (cwV 0 h.2.2.2.2.1 gL_law_X3_thrown rfl rfl rfl (by decide +kernel) ⟨(Nat.le_of_ble_eq_true rfl), (Nat.le_of_ble_eq_true rfl)⟩) 0 rfl rfl rfl rfl (Nat.le_of_ble_eq_true rfl) ⟨by show k + 1 + 0 + 0 ≤ 601024; omega, by show w + 6 + 0 + 0 ≤ 7293034; omega⟩ (fun rT uT hT9 => ?_)
    obtain ⟨rfl, rfl⟩ := hT9
    refine j_iload h dL_law_709 rfl ?_
    refine j_icmp_eq (tgt := 716) h dL_law_711 (by decide) (fun cE => ?_) (fun cE => absurd rfl cE)
    refine j_iload h dL_law_716 rfl ?_
    refine j_if_ne (tgt := 733) h dL_law_718 (by decide) (fun cN => absurd rfl cN) (fun cN => ?_)
    refine j_aload_nR h dL_law_721 rfl ?_
    refine j_iconst (v := 0) h dL_law_722 (by decide) ?_
    refine j_lald0 (wr := wX cI cL cR ad C (up2 φ 17 a (xs (i + 2))) ++ wM cI aM (up2 ψ 17 a (xs (i + 2))) 0) h 3 rfl dL_law_723 ?_
    refine j_iload h dL_law_724 rfl ?_
    refine j_i2l h dL_law_726 ?_
    refine j_lcmp h dL_law_727 ?_
    rw [show vp_updL F 0 (Int32.toInt64 _) 0 = _ from pk_uLs, cmp_eq]
    refine j_if_eq (tgt := 733) h dL_law_728 (by decide) (fun cZ => ?_) (fun cZ => absurd rfl cZ)
    refine j_goto (tgt := 1416) h dL_law_733 (by decide) ?_
    refine jj_to (l1 := [(0, .ref sb), (1, .ref (ad 0)), (2, .ref (aM 0)), (3, .ref o), (4, .int (nI i))]) ?_ ⟨rfl, rfl, rfl, rfl, rfl, trivial⟩
    exact jj_swap (kk n b q tm _ _ C ad 0 _ (I.gust a _) (Rr.up (by decide) (by decide) _ _) (G.up _ (by omega)) (by omega) rfl)
set_option maxHeartbeats 4000000 in
set_option maxRecDepth 100000 in
theorem sg_putOut {p : Program} {l : Launch} {e : Env} {s : State} {m : MethodId} {args : Array Value} {below : List Frame} {meth : Method} {c : Code} {Q : State → Prop} {D : va_G} {cI cL cR cJ : ClassId} {A : Nat → Prop} {k w : Nat} {ad aM : Nat → Nat} {o sb L i n b q tm : Nat} {xs : Nat → Int32} {φ ψ : St} {C : List Nat} {t : Int32} {F : Nat → Int64} (h : jc p s m args c D vwCl (tyL cI cL cR cJ) A 7 cL_law RL wsL_law) (hl : l.stackTraces = false) (hnc : NcA s) (hX : va_X sb L xs s s.heap) (hbl : sb < s.heap.size) (hbA : ¬ A sb) (hL : L < 2 ^ 31) (hi : i + 3 < L) (hk : k + 4 ≤ 601024) (hw : w + 40 ≤ 7293034) (I : IV n b q tm φ C) (Rr : Rl n b q φ ψ) (G : RG n b ψ) (htm : tm < 2 ^ 27) (kk : ∀ (n2 b2 q2 tm2 : Nat) (φ2 ψ2 : St) (C2 : List Nat) (ad2 : Nat → Nat) (t2 : Int32) (F2 : Nat → Int64), IV n2 b2 q2 tm2 φ2 C2 → Rl n2 b2 q2 φ2 ψ2 → RG n2 b2 ψ2 → tm2 ≤ tm + 60 → ad 0 = ad2 0 → jj p l e room_1 s m args below meth c Q D vwCl (tyL cI cL cR cJ) A 7 (wM cI aM ψ2 t2 ++ ((o, .inl (cJ, 1, .inr (.inl F2))) :: wX cI cL cR ad2 C2 φ2)) (k + 2) (w + 12) 1416 [(0, .ref sb), (1, .ref (ad 0)), (2, .ref (aM 0)), (3, .ref o), (4, .int (nI i))] []) : jj p l e room_1 s m args below meth c Q D vwCl (tyL cI cL cR cJ) A 7 (wM cI aM ψ t ++ ((o, .inl (cJ, 1, .inr (.inl F))) :: wX cI cL cR ad C φ)) (k) (w) 420 [(0, .ref sb), (1, .ref (ad 0)), (2, .ref (aM 0)), (3, .ref o), (4, .int (nI i))] [] := by
  have hn24 := I.x.1
  have hb8 := I.x.2.1
  have hq8 := I.x.2.2.1
  have hn7 : ψ 7 0 = nI n := (Rr.n0 (j := 7) (by decide)).symm.trans I.x.2.2.2.2.1
  have hb14 : ψ 14 0 = nI b := (Rr.n0 (j := 14) (by decide)).symm.trans I.x.2.2.2.2.2.1
  have hq13 : ψ 13 0 = nI q := (Rr.n0 (j := 13) (by decide)).symm.trans I.x.2.2.2.2.2.2.1
  have h18 : ψ 18 0 = nI tm := (Rr.n0 (j := 18) (by decide)).symm.trans I.tm
  have h5g : ∀ k, k < n → ψ 5 k = -1 ∨ ∃ r, r < 8 ∧ ψ 5 k = nI r := fun k hk => by rw [← Rr.l (j := 5) (by decide) hk]; exact (I.x.h k hk).imp id fun ⟨r, hr, z⟩ => ⟨r, by omega, z⟩
  have hltg : ∀ k, k < n → ψ 3 k = 1 → ∃ r, r < 8 ∧ ψ 5 k = nI r := fun k hk z => by
    rw [← Rr.l (j := 3) (by decide) hk] at z
    obtain ⟨r, hr, e5, -⟩ := hpB_yes I.x.h hb8 hk (I.lp k hk z)
    exact ⟨r, by omega, by rw [← Rr.l (j := 5) (by decide) hk]; exact e5⟩
  have ho12 : ∀ i, i < q → ∃ r, r < 8 ∧ ψ 12 i = nI r := fun i hi => by rw [← Rr.o hi]; exact (I.x.o i hi).imp fun r z => ⟨by omega, z.2⟩
  have hqb : ∀ a, a < b → ψ 10 a = 0 → q < 8 := fun a ha z => q_lt I ha (by rw [Rr.r (j := 10) (by decide) ha]; exact z)
  refine j_aload_nR h dL_law_420 rfl ?_
  refine j_aload_nR h dL_law_421 rfl ?_
  refine j_iload h dL_law_422 rfl ?_
  refine j_iconst (v := 1) h dL_law_424 (by decide) ?_
  refine j_iadd h dL_law_425 ?_
  refine j_sld (a := i + 1) h hX hbl hbA hL (nI_add i 1) (by omega) dL_law_426 ?_
  refine j_aload_nR h dL_law_427 rfl ?_
  refine j_callLF (wr := wM cI aM ψ t) (wc := (o, .inl (cJ, 1, .inr (.inl F))) :: wX cI cL cR ad C φ) h hnc dL_law_428 (c_L_putOut hl I.x I.st) (vx_cwSW 3 h.2.2.2.2.1 gL_law_L_putOut rfl rfl rfl (by decide +kernel) ⟨(Nat.le_of_ble_eq_true rfl), (Nat.le_of_ble_eq_true rfl)⟩) rfl rfl (Nat.le_of_ble_eq_true rfl) ⟨by show k + 2 ≤ 601024; omega, by show w + 12 ≤ 7293034; omega⟩ (fun r u hu => ?_)
  refine j_istore h dL_law_431 (by decide) ?_
  refine jj_swap ?_
  refine j_aload_nR h dL_law_433 rfl ?_
  refine j_aload_nR h dL_law_434 rfl ?_
  refine j_iload h dL_law_435 rfl ?_
  refine j_iconst (v := 1) h dL_law_437 (by decide) ?_
  refine j_iadd h dL_law_438 ?_
  refine j_sld (a := i + 1) h hX hbl hbA hL (nI_add i 1) (by omega) dL_law_439 ?_
  refine j_callVIF (vc := (RX3, TX3, 22)) (wr := u) (wc := wM cI aM ψ t) h (h.2.2.2.2.2.1.sub [0, 1, 2] rfl) dL_law_440 (c_X3_putOut hn7 I.x.1) (cwV 1 h.2.2.2.2.1 gL_law_X3_putOut rfl rfl rfl (by decide +kernel) ⟨(Nat.le_of_ble_eq_true rfl), (Nat.le_of_ble_eq_true rfl)⟩) 0 rfl rfl rfl rfl (Nat.le_of_ble_eq_true rfl) ⟨by show k + 2 + 0 ≤ 601024; omega, by show w + 12 + 0 ≤ 7293034; omega⟩ (fun rM uM hM => ?_)
  refine j_istore h dL_law_443 (by decide) ?_
  have hTT : tPutOut φ (xs (i + 1)) = tPutOut ψ (xs (i + 1)) := R_putOut I Rr _
  rcases hu with ⟨hr0, hrT, rfl⟩ | ⟨rfl, v, u0, hp, rfl⟩
  · -- thrown
    rw [hTT] at hrT
    subst hrT
    obtain rfl := hM.1 hr0
    refine j_aload_nR h dL_law_445 rfl ?_
    refine j_callVIF (vc := (RX3, TX3, 22)) h (h.2.2.2.2.2.1.sub [0, 1, 2] rfl) dL_law_446 c_X3_thrown (cwV 0 h.2.2.2.2.1 gL_law_X3_thrown rfl rfl rfl (by decide +kernel) ⟨(Nat.le_of_ble_eq_true rfl), (Nat.le_of_ble_eq_true rfl)⟩) 0 rfl rfl rfl rfl (Nat.le_of_ble_eq_true rfl) ⟨by show k + 2 + 0 + 0 ≤ 601024; omega, by show w + 12 + 0 + 0 ≤ 7293034; omega⟩ (fun rT uT hT9 => ?_)
    obtain ⟨rfl, rfl⟩ := hT9
    refine j_iload h dL_law_449 rfl ?_
    refine j_icmp_eq (tgt := 456) h dL_law_451 (by decide) (fun cE => ?_) (fun cE => absurd rfl cE)
    refine j_iload h dL_law_456 rfl ?_
    refine j_if_ne (tgt := 473) h dL_law_458 (by decide) (fun cN => ?_) (fun cN => absurd cN hr0)
    refine j_goto (tgt := 1416) h dL_law_473 (by decide) ?_
    refine jj_to (l1 := [(0, .ref sb), (1, .ref (ad 0)), (2, .ref (aM 0)), (3, .ref o), (4, .int (nI i))]) ?_ ⟨rfl, rfl, rfl, rfl, rfl, trivial⟩
    exact jj_swap (kk n b q tm φ ψ C ad _ F I Rr G (by omega) rfl)
  · -- done
    obtain ⟨hT0, hv9, hu9⟩ := hp
    have hT1 : tPutOut ψ (xs (i + 1)) = 0 := hTT.symm.trans hT0
    obtain ⟨a, ha, ea, hrm, rfl⟩ := hM.2 hT1
    have hac : (xs (i + 1)).toNatClampNeg = a := by rw [ea, nI_clamp (by omega)]
    rw [hac] at hv9 hu9
    subst hu9
    have h31 : φ 3 a = 1 := by
      have z := (gl_2.mp hT0).2
      rw [hac, Bool.and_eq_true] at z
      exact of_decide_eq_true z.2
    have hvv : rM = v := by rw [hrm, hv9]; exact (Rr.l (j := 4) (by decide) ha).symm
    subst hvv
    refine j_aload_nR h dL_law_445 rfl ?_
    refine j_callVIF (vc := (RX3, TX3, 22)) h (h.2.2.2.2.2.1.sub [0, 1, 2] rfl) dL_law_446 c_X3_thrown (cwV 0 h.2.2.2.2.1 gL_law_X3_thrown rfl rfl rfl (by decide +kernel) ⟨(Nat.le_of_ble_eq_true rfl), (Nat.le_of_ble_eq_true rfl)⟩) 0 rfl rfl rfl rfl (Nat.le_of_ble_eq_true rfl) ⟨by show k + 2 + 0 + 0 ≤ 601024; omega, by show w + 12 + 0 + 0 ≤ 7293034; omega⟩ (fun rT uT hT9 => ?_)
    obtain ⟨rfl, rfl⟩ := hT9
    refine j_iload h dL_law_449 rfl ?_
    refine j_icmp_eq (tgt := 456) h dL_law_451 (by decide) (fun cE => ?_) (fun cE => absurd rfl cE)
    refine j_iload h dL_law_456 rfl ?_
    refine j_if_ne (tgt := 473) h dL_law_458 (by decide) (fun cN => absurd rfl cN) (fun cN => ?_)
    refine j_aload_nR h dL_law_461 rfl ?_
    refine j_iconst (v := 0) h dL_law_462 (by decide) ?_
    refine j_lald0 (wr := wX cI cL cR ad C (up2 φ 3 a 0) ++ wM cI aM (up2 ψ 3 a 0) 0) h 3 rfl dL_law_463 ?_
    refine j_iload h dL_law_464 rfl ?_
    refine j_i2l h dL_law_466 ?_
    refine j_lcmp h dL_law_467 ?_
    rw [show vp_updL F 0 (Int32.toInt64 _) 0 = _ from pk_uLs, cmp_eq]
    refine j_if_eq (tgt := 473) h dL_law_468 (by decide) (fun cZ => ?_) (fun cZ => absurd rfl cZ)
    refine j_goto (tgt := 1416) h dL_law_473 (by decide) ?_
    refine jj_to (l1 := [(0, .ref sb), (1, .ref (ad 0)), (2, .ref (aM 0)), (3, .ref o), (4, .int (nI i))]) ?_ ⟨rfl, rfl, rfl, rfl, rfl, trivial⟩
    exact jj_swap (kk n b q tm _ _ C ad 0 _ (I.put h31) (Rr.up (by decide) (by decide) _ _) (G.up _ (by omega)) (by omega) rfl)
set_option maxHeartbeats 4000000 in
set_option maxRecDepth 100000 in
theorem sg_light {p : Program} {l : Launch} {e : Env} {s : State} {m : MethodId} {args : Array Value} {below : List Frame} {meth : Method} {c : Code} {Q : State → Prop} {D : va_G} {cI cL cR cJ : ClassId} {A : Nat → Prop} {k w : Nat} {ad aM : Nat → Nat} {o sb L i n b q tm : Nat} {xs : Nat → Int32} {φ ψ : St} {C : List Nat} {t : Int32} {F : Nat → Int64} (h : jc p s m args c D vwCl (tyL cI cL cR cJ) A 7 cL_law RL wsL_law) (hl : l.stackTraces = false) (hnc : NcA s) (hX : va_X sb L xs s s.heap) (hbl : sb < s.heap.size) (hbA : ¬ A sb) (hL : L < 2 ^ 31) (hi : i + 3 < L) (hk : k + 4 ≤ 601024) (hw : w + 40 ≤ 7293034) (I : IV n b q tm φ C) (Rr : Rl n b q φ ψ) (G : RG n b ψ) (htm : tm < 2 ^ 27) (kk : ∀ (n2 b2 q2 tm2 : Nat) (φ2 ψ2 : St) (C2 : List Nat) (ad2 : Nat → Nat) (t2 : Int32) (F2 : Nat → Int64), IV n2 b2 q2 tm2 φ2 C2 → Rl n2 b2 q2 φ2 ψ2 → RG n2 b2 ψ2 → tm2 ≤ tm + 60 → ad 0 = ad2 0 → jj p l e room_1 s m args below meth c Q D vwCl (tyL cI cL cR cJ) A 7 (wM cI aM ψ2 t2 ++ ((o, .inl (cJ, 1, .inr (.inl F2))) :: wX cI cL cR ad2 C2 φ2)) (k + 2) (w + 12) 1416 [(0, .ref sb), (1, .ref (ad 0)), (2, .ref (aM 0)), (3, .ref o), (4, .int (nI i))] []) : jj p l e room_1 s m args below meth c Q D vwCl (tyL cI cL cR cJ) A 7 (wM cI aM ψ t ++ ((o, .inl (cJ, 1, .inr (.inl F))) :: wX cI cL cR ad C φ)) (k) (w) 364 [(0, .ref sb), (1, .ref (ad 0)), (2, .ref (aM 0)), (3, .ref o), (4, .int (nI i))] [] := by
  have hn24 := I.x.1
  have hb8 := I.x.2.1
  have hq8 := I.x.2.2.1
  have hn7 : ψ 7 0 = nI n := (Rr.n0 (j := 7) (by decide)).symm.trans I.x.2.2.2.2.1
  have hb14 : ψ 14 0 = nI b := (Rr.n0 (j := 14) (by decide)).symm.trans I.x.2.2.2.2.2.1
  have hq13 : ψ 13 0 = nI q := (Rr.n0 (j := 13) (by decide)).symm.trans I.x.2.2.2.2.2.2.1
  have h18 : ψ 18 0 = nI tm := (Rr.n0 (j := 18) (by decide)).symm.trans I.tm
  have h5g : ∀ k, k < n → ψ 5 k = -1 ∨ ∃ r, r < 8 ∧ ψ 5 k = nI r := fun k hk => by rw [← Rr.l (j := 5) (by decide) hk]; exact (I.x.h k hk).imp id fun ⟨r, hr, z⟩ => ⟨r, by omega, z⟩
  have hltg : ∀ k, k < n → ψ 3 k = 1 → ∃ r, r < 8 ∧ ψ 5 k = nI r := fun k hk z => by
    rw [← Rr.l (j := 3) (by decide) hk] at z
    obtain ⟨r, hr, e5, -⟩ := hpB_yes I.x.h hb8 hk (I.lp k hk z)
    exact ⟨r, by omega, by rw [← Rr.l (j := 5) (by decide) hk]; exact e5⟩
  have ho12 : ∀ i, i < q → ∃ r, r < 8 ∧ ψ 12 i = nI r := fun i hi => by rw [← Rr.o hi]; exact (I.x.o i hi).imp fun r z => ⟨by omega, z.2⟩
  have hqb : ∀ a, a < b → ψ 10 a = 0 → q < 8 := fun a ha z => q_lt I ha (by rw [Rr.r (j := 10) (by decide) ha]; exact z)
  refine j_aload_nR h dL_law_364 rfl ?_
  refine j_aload_nR h dL_law_365 rfl ?_
  refine j_iload h dL_law_366 rfl ?_
  refine j_iconst (v := 1) h dL_law_368 (by decide) ?_
  refine j_iadd h dL_law_369 ?_
  refine j_sld (a := i + 1) h hX hbl hbA hL (nI_add i 1) (by omega) dL_law_370 ?_
  refine j_aload_nR h dL_law_371 rfl ?_
  refine j_callLF (wr := wM cI aM ψ t) (wc := (o, .inl (cJ, 1, .inr (.inl F))) :: wX cI cL cR ad C φ) h hnc dL_law_372 (c_L_light hl I.x I.lp (plN_of I)) (vx_cwSW 3 h.2.2.2.2.1 gL_law_L_light rfl rfl rfl (by decide +kernel) ⟨(Nat.le_of_ble_eq_true rfl), (Nat.le_of_ble_eq_true rfl)⟩) rfl rfl (Nat.le_of_ble_eq_true rfl) ⟨by show k + 2 ≤ 601024; omega, by show w + 12 ≤ 7293034; omega⟩ (fun r u hu => ?_)
  refine j_istore h dL_law_375 (by decide) ?_
  refine jj_swap ?_
  refine j_aload_nR h dL_law_377 rfl ?_
  refine j_aload_nR h dL_law_378 rfl ?_
  refine j_iload h dL_law_379 rfl ?_
  refine j_iconst (v := 1) h dL_law_381 (by decide) ?_
  refine j_iadd h dL_law_382 ?_
  refine j_sld (a := i + 1) h hX hbl hbA hL (nI_add i 1) (by omega) dL_law_383 ?_
  refine j_callVIF (vc := (RX3, TX3, 22)) (wr := u) (wc := wM cI aM ψ t) h (h.2.2.2.2.2.1.sub [0, 1, 2] rfl) dL_law_384 (c_X3_light hn7 I.x.1 h5g hltg) (cwV 1 h.2.2.2.2.1 gL_law_X3_light rfl rfl rfl (by decide +kernel) ⟨(Nat.le_of_ble_eq_true rfl), (Nat.le_of_ble_eq_true rfl)⟩) 0 rfl rfl rfl rfl (Nat.le_of_ble_eq_true rfl) ⟨by show k + 2 + 0 ≤ 601024; omega, by show w + 12 + 0 ≤ 7293034; omega⟩ (fun rM uM hM => ?_)
  refine j_istore h dL_law_387 (by decide) ?_
  have hTT : tLight φ n (xs (i + 1)) = tLight ψ n (xs (i + 1)) := R_light I Rr _
  rcases hu with ⟨hr0, hrT, rfl⟩ | ⟨rfl, v, u0, hp, rfl⟩
  · -- thrown
    rw [hTT] at hrT
    subst hrT
    obtain rfl := hM.1 hr0
    refine j_aload_nR h dL_law_389 rfl ?_
    refine j_callVIF (vc := (RX3, TX3, 22)) h (h.2.2.2.2.2.1.sub [0, 1, 2] rfl) dL_law_390 c_X3_thrown (cwV 0 h.2.2.2.2.1 gL_law_X3_thrown rfl rfl rfl (by decide +kernel) ⟨(Nat.le_of_ble_eq_true rfl), (Nat.le_of_ble_eq_true rfl)⟩) 0 rfl rfl rfl rfl (Nat.le_of_ble_eq_true rfl) ⟨by show k + 2 + 0 + 0 ≤ 601024; omega, by show w + 12 + 0 + 0 ≤ 7293034; omega⟩ (fun rT uT hT9 => ?_)
    obtain ⟨rfl, rfl⟩ := hT9
    refine j_iload h dL_law_393 rfl ?_
    refine j_icmp_eq (tgt := 400) h dL_law_395 (by decide) (fun cE => ?_) (fun cE => absurd rfl cE)
    refine j_iload h dL_law_400 rfl ?_
    refine j_if_ne (tgt := 417) h dL_law_402 (by decide) (fun cN => ?_) (fun cN => absurd cN hr0)
    refine j_goto (tgt := 1416) h dL_law_417 (by decide) ?_
    refine jj_to (l1 := [(0, .ref sb), (1, .ref (ad 0)), (2, .ref (aM 0)), (3, .ref o), (4, .int (nI i))]) ?_ ⟨rfl, rfl, rfl, rfl, rfl, trivial⟩
    exact jj_swap (kk n b q tm φ ψ C ad _ F I Rr G (by omega) rfl)
  · -- done
    obtain ⟨hT0, hv9, hu9⟩ := hp
    have hT1 : tLight ψ n (xs (i + 1)) = 0 := hTT.symm.trans hT0
    obtain ⟨a, ha, ea, hrm, rfl⟩ := hM.2 hT1
    have hac : (xs (i + 1)).toNatClampNeg = a := by rw [ea, nI_clamp (by omega)]
    rw [hac] at hv9 hu9
    subst hu9
    have z := (gl_2.mp hT0).2
    rw [hac, Bool.and_eq_true, Bool.and_eq_true, Bool.and_eq_true] at z
    have hvv : rM = v := by rw [hrm, hv9]; exact (Rr.l (j := 4) (by decide) ha).symm
    subst hvv
    refine j_aload_nR h dL_law_389 rfl ?_
    refine j_callVIF (vc := (RX3, TX3, 22)) h (h.2.2.2.2.2.1.sub [0, 1, 2] rfl) dL_law_390 c_X3_thrown (cwV 0 h.2.2.2.2.1 gL_law_X3_thrown rfl rfl rfl (by decide +kernel) ⟨(Nat.le_of_ble_eq_true rfl), (Nat.le_of_ble_eq_true rfl)⟩) 0 rfl rfl rfl rfl (Nat.le_of_ble_eq_true rfl) ⟨by show k + 2 + 0 + 0 ≤ 601024; omega, by show w + 12 + 0 + 0 ≤ 7293034; omega⟩ (fun rT uT hT9 => ?_)
    obtain ⟨rfl, rfl⟩ := hT9
    refine j_iload h dL_law_393 rfl ?_
    refine j_icmp_eq (tgt := 400) h dL_law_395 (by decide) (fun cE => ?_) (fun cE => absurd rfl cE)
    refine j_iload h dL_law_400 rfl ?_
    refine j_if_ne (tgt := 417) h dL_law_402 (by decide) (fun cN => absurd rfl cN) (fun cN => ?_)
    refine j_aload_nR h dL_law_405 rfl ?_
    refine j_iconst (v := 0) h dL_law_406 (by decide) ?_
    refine j_lald0 (wr := wX cI cL cR ad C (up2 φ 3 a 1) ++ wM cI aM (up2 ψ 3 a 1) 0) h 3 rfl dL_law_407 ?_
    refine j_iload h dL_law_408 rfl ?_
    refine j_i2l h dL_law_410 ?_
    refine j_lcmp h dL_law_411 ?_
    rw [show vp_updL F 0 (Int32.toInt64 _) 0 = _ from pk_uLs, cmp_eq]
    refine j_if_eq (tgt := 417) h dL_law_412 (by decide) (fun cZ => ?_) (fun cZ => absurd rfl cZ)
    refine j_goto (tgt := 1416) h dL_law_417 (by decide) ?_
    refine jj_to (l1 := [(0, .ref sb), (1, .ref (ad 0)), (2, .ref (aM 0)), (3, .ref o), (4, .int (nI i))]) ?_ ⟨rfl, rfl, rfl, rfl, rfl, trivial⟩
    exact jj_swap (kk n b q tm _ _ C ad 0 _ (I.lit (of_decide_eq_true z.1.2) z.1.1.2) (Rr.up (by decide) (by decide) _ _) (G.up _ (by omega)) (by omega) rfl)
set_option maxHeartbeats 4000000 in
set_option maxRecDepth 100000 in
theorem sg_takeDown {p : Program} {l : Launch} {e : Env} {s : State} {m : MethodId} {args : Array Value} {below : List Frame} {meth : Method} {c : Code} {Q : State → Prop} {D : va_G} {cI cL cR cJ : ClassId} {A : Nat → Prop} {k w : Nat} {ad aM : Nat → Nat} {o sb L i n b q tm : Nat} {xs : Nat → Int32} {φ ψ : St} {C : List Nat} {t : Int32} {F : Nat → Int64} (h : jc p s m args c D vwCl (tyL cI cL cR cJ) A 7 cL_law RL wsL_law) (hl : l.stackTraces = false) (hnc : NcA s) (hX : va_X sb L xs s s.heap) (hbl : sb < s.heap.size) (hbA : ¬ A sb) (hL : L < 2 ^ 31) (hi : i + 3 < L) (hk : k + 4 ≤ 601024) (hw : w + 40 ≤ 7293034) (I : IV n b q tm φ C) (Rr : Rl n b q φ ψ) (G : RG n b ψ) (htm : tm < 2 ^ 27) (kk : ∀ (n2 b2 q2 tm2 : Nat) (φ2 ψ2 : St) (C2 : List Nat) (ad2 : Nat → Nat) (t2 : Int32) (F2 : Nat → Int64), IV n2 b2 q2 tm2 φ2 C2 → Rl n2 b2 q2 φ2 ψ2 → RG n2 b2 ψ2 → tm2 ≤ tm + 60 → ad 0 = ad2 0 → jj p l e room_1 s m args below meth c Q D vwCl (tyL cI cL cR cJ) A 7 (wM cI aM ψ2 t2 ++ ((o, .inl (cJ, 1, .inr (.inl F2))) :: wX cI cL cR ad2 C2 φ2)) (k + 2) (w + 12) 1416 [(0, .ref sb), (1, .ref (ad 0)), (2, .ref (aM 0)), (3, .ref o), (4, .int (nI i))] []) : jj p l e room_1 s m args below meth c Q D vwCl (tyL cI cL cR cJ) A 7 (wM cI aM ψ t ++ ((o, .inl (cJ, 1, .inr (.inl F))) :: wX cI cL cR ad C φ)) (k) (w) 308 [(0, .ref sb), (1, .ref (ad 0)), (2, .ref (aM 0)), (3, .ref o), (4, .int (nI i))] [] := by
  have hn24 := I.x.1
  have hb8 := I.x.2.1
  have hq8 := I.x.2.2.1
  have hn7 : ψ 7 0 = nI n := (Rr.n0 (j := 7) (by decide)).symm.trans I.x.2.2.2.2.1
  have hb14 : ψ 14 0 = nI b := (Rr.n0 (j := 14) (by decide)).symm.trans I.x.2.2.2.2.2.1
  have hq13 : ψ 13 0 = nI q := (Rr.n0 (j := 13) (by decide)).symm.trans I.x.2.2.2.2.2.2.1
  have h18 : ψ 18 0 = nI tm := (Rr.n0 (j := 18) (by decide)).symm.trans I.tm
  have h5g : ∀ k, k < n → ψ 5 k = -1 ∨ ∃ r, r < 8 ∧ ψ 5 k = nI r := fun k hk => by rw [← Rr.l (j := 5) (by decide) hk]; exact (I.x.h k hk).imp id fun ⟨r, hr, z⟩ => ⟨r, by omega, z⟩
  have hltg : ∀ k, k < n → ψ 3 k = 1 → ∃ r, r < 8 ∧ ψ 5 k = nI r := fun k hk z => by
    rw [← Rr.l (j := 3) (by decide) hk] at z
    obtain ⟨r, hr, e5, -⟩ := hpB_yes I.x.h hb8 hk (I.lp k hk z)
    exact ⟨r, by omega, by rw [← Rr.l (j := 5) (by decide) hk]; exact e5⟩
  have ho12 : ∀ i, i < q → ∃ r, r < 8 ∧ ψ 12 i = nI r := fun i hi => by rw [← Rr.o hi]; exact (I.x.o i hi).imp fun r z => ⟨by omega, z.2⟩
  have hqb : ∀ a, a < b → ψ 10 a = 0 → q < 8 := fun a ha z => q_lt I ha (by rw [Rr.r (j := 10) (by decide) ha]; exact z)
  refine j_aload_nR h dL_law_308 rfl ?_
  refine j_aload_nR h dL_law_309 rfl ?_
  refine j_iload h dL_law_310 rfl ?_
  refine j_iconst (v := 1) h dL_law_312 (by decide) ?_
  refine j_iadd h dL_law_313 ?_
  refine j_sld (a := i + 1) h hX hbl hbA hL (nI_add i 1) (by omega) dL_law_314 ?_
  refine j_aload_nR h dL_law_315 rfl ?_
  refine j_callLF (wr := wM cI aM ψ t) (wc := (o, .inl (cJ, 1, .inr (.inl F))) :: wX cI cL cR ad C φ) h hnc dL_law_316 (c_L_takeDown hl I.x I.st) (vx_cwSW 3 h.2.2.2.2.1 gL_law_L_takeDown rfl rfl rfl (by decide +kernel) ⟨(Nat.le_of_ble_eq_true rfl), (Nat.le_of_ble_eq_true rfl)⟩) rfl rfl (Nat.le_of_ble_eq_true rfl) ⟨by show k + 2 ≤ 601024; omega, by show w + 12 ≤ 7293034; omega⟩ (fun r u hu => ?_)
  refine j_istore h dL_law_319 (by decide) ?_
  refine jj_swap ?_
  refine j_aload_nR h dL_law_321 rfl ?_
  refine j_aload_nR h dL_law_322 rfl ?_
  refine j_iload h dL_law_323 rfl ?_
  refine j_iconst (v := 1) h dL_law_325 (by decide) ?_
  refine j_iadd h dL_law_326 ?_
  refine j_sld (a := i + 1) h hX hbl hbA hL (nI_add i 1) (by omega) dL_law_327 ?_
  refine j_callVIF (vc := (RX3, TX3, 22)) (wr := u) (wc := wM cI aM ψ t) h (h.2.2.2.2.2.1.sub [0, 1, 2] rfl) dL_law_328 (c_X3_takeDown hn7 I.x.1) (cwV 1 h.2.2.2.2.1 gL_law_X3_takeDown rfl rfl rfl (by decide +kernel) ⟨(Nat.le_of_ble_eq_true rfl), (Nat.le_of_ble_eq_true rfl)⟩) 0 rfl rfl rfl rfl (Nat.le_of_ble_eq_true rfl) ⟨by show k + 2 + 0 ≤ 601024; omega, by show w + 12 + 0 ≤ 7293034; omega⟩ (fun rM uM hM => ?_)
  refine j_istore h dL_law_331 (by decide) ?_
  have hTT : tTake φ (xs (i + 1)) = tTake ψ (xs (i + 1)) := R_take I Rr _
  rcases hu with ⟨hr0, hrT, rfl⟩ | ⟨rfl, v, u0, hp, rfl⟩
  · -- thrown
    rw [hTT] at hrT
    subst hrT
    obtain rfl := hM.1 hr0
    refine j_aload_nR h dL_law_333 rfl ?_
    refine j_callVIF (vc := (RX3, TX3, 22)) h (h.2.2.2.2.2.1.sub [0, 1, 2] rfl) dL_law_334 c_X3_thrown (cwV 0 h.2.2.2.2.1 gL_law_X3_thrown rfl rfl rfl (by decide +kernel) ⟨(Nat.le_of_ble_eq_true rfl), (Nat.le_of_ble_eq_true rfl)⟩) 0 rfl rfl rfl rfl (Nat.le_of_ble_eq_true rfl) ⟨by show k + 2 + 0 + 0 ≤ 601024; omega, by show w + 12 + 0 + 0 ≤ 7293034; omega⟩ (fun rT uT hT9 => ?_)
    obtain ⟨rfl, rfl⟩ := hT9
    refine j_iload h dL_law_337 rfl ?_
    refine j_icmp_eq (tgt := 344) h dL_law_339 (by decide) (fun cE => ?_) (fun cE => absurd rfl cE)
    refine j_iload h dL_law_344 rfl ?_
    refine j_if_ne (tgt := 361) h dL_law_346 (by decide) (fun cN => ?_) (fun cN => absurd cN hr0)
    refine j_goto (tgt := 1416) h dL_law_361 (by decide) ?_
    refine jj_to (l1 := [(0, .ref sb), (1, .ref (ad 0)), (2, .ref (aM 0)), (3, .ref o), (4, .int (nI i))]) ?_ ⟨rfl, rfl, rfl, rfl, rfl, trivial⟩
    exact jj_swap (kk n b q tm φ ψ C ad _ F I Rr G (by omega) rfl)
  · -- done
    obtain ⟨hT0, hv9, hu9⟩ := hp
    have hT1 : tTake ψ (xs (i + 1)) = 0 := hTT.symm.trans hT0
    obtain ⟨a, ha, ea, hrm, rfl⟩ := hM.2 hT1
    have hac : (xs (i + 1)).toNatClampNeg = a := by rw [ea, nI_clamp (by omega)]
    rw [hac] at hv9 hu9
    have z := (gl_2.mp hT0).2
    rw [hac, Bool.and_eq_true] at z
    obtain ⟨r9, hr9, e5⟩ := (I.x.h a ha).resolve_left (of_decide_eq_true z.2)
    rw [e5, nI_clamp (by omega)] at hu9
    subst hu9
    have hvv : rM = v := by rw [hrm, hv9]; exact (Rr.l (j := 5) (by decide) ha).symm
    subst hvv
    refine j_aload_nR h dL_law_333 rfl ?_
    refine j_callVIF (vc := (RX3, TX3, 22)) h (h.2.2.2.2.2.1.sub [0, 1, 2] rfl) dL_law_334 c_X3_thrown (cwV 0 h.2.2.2.2.1 gL_law_X3_thrown rfl rfl rfl (by decide +kernel) ⟨(Nat.le_of_ble_eq_true rfl), (Nat.le_of_ble_eq_true rfl)⟩) 0 rfl rfl rfl rfl (Nat.le_of_ble_eq_true rfl) ⟨by show k + 2 + 0 + 0 ≤ 601024; omega, by show w + 12 + 0 + 0 ≤ 7293034; omega⟩ (fun rT uT hT9 => ?_)
    obtain ⟨rfl, rfl⟩ := hT9
    refine j_iload h dL_law_337 rfl ?_
    refine j_icmp_eq (tgt := 344) h dL_law_339 (by decide) (fun cE => ?_) (fun cE => absurd rfl cE)
    refine j_iload h dL_law_344 rfl ?_
    refine j_if_ne (tgt := 361) h dL_law_346 (by decide) (fun cN => absurd rfl cN) (fun cN => ?_)
    refine j_aload_nR h dL_law_349 rfl ?_
    refine j_iconst (v := 0) h dL_law_350 (by decide) ?_
    refine j_lald0 (wr := wX cI cL cR ad C (tkF φ r9 a) ++ wM cI aM (dkF (up2 ψ 5 a (-1)) a) 0) h 3 rfl dL_law_351 ?_
    refine j_iload h dL_law_352 rfl ?_
    refine j_i2l h dL_law_354 ?_
    refine j_lcmp h dL_law_355 ?_
    rw [show vp_updL F 0 (Int32.toInt64 _) 0 = _ from pk_uLs, cmp_eq]
    refine j_if_eq (tgt := 361) h dL_law_356 (by decide) (fun cZ => ?_) (fun cZ => absurd rfl cZ)
    refine j_goto (tgt := 1416) h dL_law_361 (by decide) ?_
    refine jj_to (l1 := [(0, .ref sb), (1, .ref (ad 0)), (2, .ref (aM 0)), (3, .ref o), (4, .int (nI i))]) ?_ ⟨rfl, rfl, rfl, rfl, rfl, trivial⟩
    exact jj_swap (kk n b q tm _ _ C ad 0 _ (I.take hr9 ha e5) (Rr.take ha hb8) ((G.up _ (by omega)).dk ha) (by omega) rfl)
set_option maxHeartbeats 4000000 in
set_option maxRecDepth 100000 in
theorem sg_hang {p : Program} {l : Launch} {e : Env} {s : State} {m : MethodId} {args : Array Value} {below : List Frame} {meth : Method} {c : Code} {Q : State → Prop} {D : va_G} {cI cL cR cJ : ClassId} {A : Nat → Prop} {k w : Nat} {ad aM : Nat → Nat} {o sb L i n b q tm : Nat} {xs : Nat → Int32} {φ ψ : St} {C : List Nat} {t : Int32} {F : Nat → Int64} (h : jc p s m args c D vwCl (tyL cI cL cR cJ) A 7 cL_law RL wsL_law) (hl : l.stackTraces = false) (hnc : NcA s) (hX : va_X sb L xs s s.heap) (hbl : sb < s.heap.size) (hbA : ¬ A sb) (hL : L < 2 ^ 31) (hi : i + 3 < L) (hk : k + 4 ≤ 601024) (hw : w + 40 ≤ 7293034) (I : IV n b q tm φ C) (Rr : Rl n b q φ ψ) (G : RG n b ψ) (htm : tm < 2 ^ 27) (kk : ∀ (n2 b2 q2 tm2 : Nat) (φ2 ψ2 : St) (C2 : List Nat) (ad2 : Nat → Nat) (t2 : Int32) (F2 : Nat → Int64), IV n2 b2 q2 tm2 φ2 C2 → Rl n2 b2 q2 φ2 ψ2 → RG n2 b2 ψ2 → tm2 ≤ tm + 60 → ad 0 = ad2 0 → jj p l e room_1 s m args below meth c Q D vwCl (tyL cI cL cR cJ) A 7 (wM cI aM ψ2 t2 ++ ((o, .inl (cJ, 1, .inr (.inl F2))) :: wX cI cL cR ad2 C2 φ2)) (k + 3) (w + 18) 1416 [(0, .ref sb), (1, .ref (ad 0)), (2, .ref (aM 0)), (3, .ref o), (4, .int (nI i))] []) : jj p l e room_1 s m args below meth c Q D vwCl (tyL cI cL cR cJ) A 7 (wM cI aM ψ t ++ ((o, .inl (cJ, 1, .inr (.inl F))) :: wX cI cL cR ad C φ)) (k) (w) 228 [(0, .ref sb), (1, .ref (ad 0)), (2, .ref (aM 0)), (3, .ref o), (4, .int (nI i))] [] := by
  have hn24 := I.x.1
  have hb8 := I.x.2.1
  have hq8 := I.x.2.2.1
  have hn7 : ψ 7 0 = nI n := (Rr.n0 (j := 7) (by decide)).symm.trans I.x.2.2.2.2.1
  have hb14 : ψ 14 0 = nI b := (Rr.n0 (j := 14) (by decide)).symm.trans I.x.2.2.2.2.2.1
  have hq13 : ψ 13 0 = nI q := (Rr.n0 (j := 13) (by decide)).symm.trans I.x.2.2.2.2.2.2.1
  have h18 : ψ 18 0 = nI tm := (Rr.n0 (j := 18) (by decide)).symm.trans I.tm
  have h5g : ∀ k, k < n → ψ 5 k = -1 ∨ ∃ r, r < 8 ∧ ψ 5 k = nI r := fun k hk => by rw [← Rr.l (j := 5) (by decide) hk]; exact (I.x.h k hk).imp id fun ⟨r, hr, z⟩ => ⟨r, by omega, z⟩
  have hltg : ∀ k, k < n → ψ 3 k = 1 → ∃ r, r < 8 ∧ ψ 5 k = nI r := fun k hk z => by
    rw [← Rr.l (j := 3) (by decide) hk] at z
    obtain ⟨r, hr, e5, -⟩ := hpB_yes I.x.h hb8 hk (I.lp k hk z)
    exact ⟨r, by omega, by rw [← Rr.l (j := 5) (by decide) hk]; exact e5⟩
  have ho12 : ∀ i, i < q → ∃ r, r < 8 ∧ ψ 12 i = nI r := fun i hi => by rw [← Rr.o hi]; exact (I.x.o i hi).imp fun r z => ⟨by omega, z.2⟩
  have hqb : ∀ a, a < b → ψ 10 a = 0 → q < 8 := fun a ha z => q_lt I ha (by rw [Rr.r (j := 10) (by decide) ha]; exact z)
  refine j_aload_nR h dL_law_228 rfl ?_
  refine j_aload_nR h dL_law_229 rfl ?_
  refine j_iload h dL_law_230 rfl ?_
  refine j_iconst (v := 1) h dL_law_232 (by decide) ?_
  refine j_iadd h dL_law_233 ?_
  refine j_sld (a := i + 1) h hX hbl hbA hL (nI_add i 1) (by omega) dL_law_234 ?_
  refine j_aload_nR h dL_law_235 rfl ?_
  refine j_iload h dL_law_236 rfl ?_
  refine j_iconst (v := 2) h dL_law_238 (by decide) ?_
  refine j_iadd h dL_law_239 ?_
  refine j_sld (a := i + 2) h hX hbl hbA hL (nI_add i 2) (by omega) dL_law_240 ?_
  refine j_aload_nR h dL_law_241 rfl ?_
  refine j_iload h dL_law_242 rfl ?_
  refine j_iconst (v := 3) h dL_law_244 (by decide) ?_
  refine j_iadd h dL_law_245 ?_
  refine j_sld (a := i + 3) h hX hbl hbA hL (nI_add i 3) (by omega) dL_law_246 ?_
  refine j_aload_nR h dL_law_247 rfl ?_
  refine j_callLF (wr := wM cI aM ψ t) (wc := (o, .inl (cJ, 1, .inr (.inl F))) :: wX cI cL cR ad C φ) h hnc dL_law_248 (c_L_hang hl I.x) (vx_cwSW 5 h.2.2.2.2.1 gL_law_L_hang rfl rfl rfl (by decide +kernel) ⟨(Nat.le_of_ble_eq_true rfl), (Nat.le_of_ble_eq_true rfl)⟩) rfl rfl (Nat.le_of_ble_eq_true rfl) ⟨by show k + 3 ≤ 601024; omega, by show w + 18 ≤ 7293034; omega⟩ (fun r u hu => ?_)
  refine j_istore h dL_law_251 (by decide) ?_
  refine jj_swap ?_
  refine j_aload_nR h dL_law_253 rfl ?_
  refine j_aload_nR h dL_law_254 rfl ?_
  refine j_iload h dL_law_255 rfl ?_
  refine j_iconst (v := 1) h dL_law_257 (by decide) ?_
  refine j_iadd h dL_law_258 ?_
  refine j_sld (a := i + 1) h hX hbl hbA hL (nI_add i 1) (by omega) dL_law_259 ?_
  refine j_aload_nR h dL_law_260 rfl ?_
  refine j_iload h dL_law_261 rfl ?_
  refine j_iconst (v := 2) h dL_law_263 (by decide) ?_
  refine j_iadd h dL_law_264 ?_
  refine j_sld (a := i + 2) h hX hbl hbA hL (nI_add i 2) (by omega) dL_law_265 ?_
  refine j_aload_nR h dL_law_266 rfl ?_
  refine j_iload h dL_law_267 rfl ?_
  refine j_iconst (v := 3) h dL_law_269 (by decide) ?_
  refine j_iadd h dL_law_270 ?_
  refine j_sld (a := i + 3) h hX hbl hbA hL (nI_add i 3) (by omega) dL_law_271 ?_
  refine j_callVIF (vc := (RX3, TX3, 22)) (wr := u) (wc := wM cI aM ψ t) h (h.2.2.2.2.2.1.sub [0, 1, 2] rfl) dL_law_272 (c_X3_hang hn7 I.x.1 hb14 I.x.2.1) (cwV 3 h.2.2.2.2.1 gL_law_X3_hang rfl rfl rfl (by decide +kernel) ⟨(Nat.le_of_ble_eq_true rfl), (Nat.le_of_ble_eq_true rfl)⟩) 0 rfl rfl rfl rfl (Nat.le_of_ble_eq_true rfl) ⟨by show k + 3 + 0 ≤ 601024; omega, by show w + 18 + 0 ≤ 7293034; omega⟩ (fun rM uM hM => ?_)
  refine j_istore h dL_law_275 (by decide) ?_
  have hTT : cHang φ (xs (i + 1)) (xs (i + 2)) (xs (i + 3)) = tHang ψ n (xs (i + 1)) (xs (i + 2)) (xs (i + 3)) := R_hang I Rr _ _ _
  rcases hu with ⟨hr0, hrT, rfl⟩ | ⟨rfl, v, u0, hp, rfl⟩
  · -- thrown
    rw [hTT] at hrT
    subst hrT
    obtain rfl := hM.1 hr0
    refine j_aload_nR h dL_law_277 rfl ?_
    refine j_callVIF (vc := (RX3, TX3, 22)) h (h.2.2.2.2.2.1.sub [0, 1, 2] rfl) dL_law_278 c_X3_thrown (cwV 0 h.2.2.2.2.1 gL_law_X3_thrown rfl rfl rfl (by decide +kernel) ⟨(Nat.le_of_ble_eq_true rfl), (Nat.le_of_ble_eq_true rfl)⟩) 0 rfl rfl rfl rfl (Nat.le_of_ble_eq_true rfl) ⟨by show k + 3 + 0 + 0 ≤ 601024; omega, by show w + 18 + 0 + 0 ≤ 7293034; omega⟩ (fun rT uT hT9 => ?_)
    obtain ⟨rfl, rfl⟩ := hT9
    refine j_iload h dL_law_281 rfl ?_
    refine j_icmp_eq (tgt := 288) h dL_law_283 (by decide) (fun cE => ?_) (fun cE => absurd rfl cE)
    refine j_iload h dL_law_288 rfl ?_
    refine j_if_ne (tgt := 305) h dL_law_290 (by decide) (fun cN => ?_) (fun cN => absurd cN hr0)
    refine j_goto (tgt := 1416) h dL_law_305 (by decide) ?_
    refine jj_to (l1 := [(0, .ref sb), (1, .ref (ad 0)), (2, .ref (aM 0)), (3, .ref o), (4, .int (nI i))]) ?_ ⟨rfl, rfl, rfl, rfl, rfl, trivial⟩
    exact jj_swap (kk n b q tm φ ψ C ad _ F I Rr G (by omega) rfl)
  · -- done
    obtain ⟨hT0, hv9, hu9⟩ := hp
    have hT1 : tHang ψ n (xs (i + 1)) (xs (i + 2)) (xs (i + 3)) = 0 := hTT.symm.trans hT0
    obtain ⟨a, c9, ha, ea, hc, ec, hrm, rfl⟩ := hM.2 hT1
    obtain ⟨z1, z2, z3⟩ := gl_iff.mp hT0
    rw [Bool.and_eq_true] at z1
    obtain ⟨s9, hs9, es⟩ := inB_ix (n := 10) (by decide) (show inB (xs (i + 3)) 0 (nI 10 - 1) = true from z1.2)
    rw [ec, es, nI_clamp (by omega), nI_clamp (by omega)] at z2
    rw [ea, nI_clamp (by omega), Bool.and_eq_true, Bool.and_eq_true] at z3
    rw [ea, ec, es, nI_clamp (by omega), nI_clamp (by omega), nI_clamp (by omega)] at hv9 hu9
    subst hu9
    rw [ec, es] at hrm ⊢
    have I2 := I.hang hc hs9 ha (of_decide_eq_true z3.1.1) (of_decide_eq_true z2)
    have R2 := Rr.hang c9 s9 ha
    have hvv : rM = v := by
      rw [hrm, hv9]
      show _ = wtS (hnF φ c9 s9 a) c9 10
      rw [wt_ld (fun r s hr hs => I2.x.sl r s hr hs) I2.sc hn24 hb8 hc, R2.ld _ (Nat.le_refl n)]
    subst hvv
    refine j_aload_nR h dL_law_277 rfl ?_
    refine j_callVIF (vc := (RX3, TX3, 22)) h (h.2.2.2.2.2.1.sub [0, 1, 2] rfl) dL_law_278 c_X3_thrown (cwV 0 h.2.2.2.2.1 gL_law_X3_thrown rfl rfl rfl (by decide +kernel) ⟨(Nat.le_of_ble_eq_true rfl), (Nat.le_of_ble_eq_true rfl)⟩) 0 rfl rfl rfl rfl (Nat.le_of_ble_eq_true rfl) ⟨by show k + 3 + 0 + 0 ≤ 601024; omega, by show w + 18 + 0 + 0 ≤ 7293034; omega⟩ (fun rT uT hT9 => ?_)
    obtain ⟨rfl, rfl⟩ := hT9
    refine j_iload h dL_law_281 rfl ?_
    refine j_icmp_eq (tgt := 288) h dL_law_283 (by decide) (fun cE => ?_) (fun cE => absurd rfl cE)
    refine j_iload h dL_law_288 rfl ?_
    refine j_if_ne (tgt := 305) h dL_law_290 (by decide) (fun cN => absurd rfl cN) (fun cN => ?_)
    refine j_aload_nR h dL_law_293 rfl ?_
    refine j_iconst (v := 0) h dL_law_294 (by decide) ?_
    refine j_lald0 (wr := wX cI cL cR ad C (hnF φ c9 s9 a) ++ wM cI aM (up2 (up2 ψ 5 a (nI c9)) 6 a (nI s9)) 0) h 3 rfl dL_law_295 ?_
    refine j_iload h dL_law_296 rfl ?_
    refine j_i2l h dL_law_298 ?_
    refine j_lcmp h dL_law_299 ?_
    rw [show vp_updL F 0 (Int32.toInt64 _) 0 = _ from pk_uLs, cmp_eq]
    refine j_if_eq (tgt := 305) h dL_law_300 (by decide) (fun cZ => ?_) (fun cZ => absurd rfl cZ)
    refine j_goto (tgt := 1416) h dL_law_305 (by decide) ?_
    refine jj_to (l1 := [(0, .ref sb), (1, .ref (ad 0)), (2, .ref (aM 0)), (3, .ref o), (4, .int (nI i))]) ?_ ⟨rfl, rfl, rfl, rfl, rfl, trivial⟩
    exact jj_swap (kk n b q tm _ _ C ad 0 _ I2 R2 ((G.up _ (by omega)).up _ (by omega)) (by omega) rfl)
set_option maxHeartbeats 4000000 in
set_option maxRecDepth 100000 in
theorem sg_launch {p : Program} {l : Launch} {e : Env} {s : State} {m : MethodId} {args : Array Value} {below : List Frame} {meth : Method} {c : Code} {Q : State → Prop} {D : va_G} {cI cL cR cJ : ClassId} {A : Nat → Prop} {k w : Nat} {ad aM : Nat → Nat} {o sb L i n b q tm : Nat} {xs : Nat → Int32} {φ ψ : St} {C : List Nat} {t : Int32} {F : Nat → Int64} (h : jc p s m args c D vwCl (tyL cI cL cR cJ) A 7 cL_law RL wsL_law) (hl : l.stackTraces = false) (hnc : NcA s) (hX : va_X sb L xs s s.heap) (hbl : sb < s.heap.size) (hbA : ¬ A sb) (hL : L < 2 ^ 31) (hi : i + 3 < L) (hk : k + 4 ≤ 601024) (hw : w + 40 ≤ 7293034) (I : IV n b q tm φ C) (Rr : Rl n b q φ ψ) (G : RG n b ψ) (htm : tm < 2 ^ 27) (kk : ∀ (n2 b2 q2 tm2 : Nat) (φ2 ψ2 : St) (C2 : List Nat) (ad2 : Nat → Nat) (t2 : Int32) (F2 : Nat → Int64), IV n2 b2 q2 tm2 φ2 C2 → Rl n2 b2 q2 φ2 ψ2 → RG n2 b2 ψ2 → tm2 ≤ tm + 60 → ad 0 = ad2 0 → jj p l e room_1 s m args below meth c Q D vwCl (tyL cI cL cR cJ) A 7 (wM cI aM ψ2 t2 ++ ((o, .inl (cJ, 1, .inr (.inl F2))) :: wX cI cL cR ad2 C2 φ2)) (k + 2) (w + 12) 1416 [(0, .ref sb), (1, .ref (ad 0)), (2, .ref (aM 0)), (3, .ref o), (4, .int (nI i))] []) : jj p l e room_1 s m args below meth c Q D vwCl (tyL cI cL cR cJ) A 7 (wM cI aM ψ t ++ ((o, .inl (cJ, 1, .inr (.inl F))) :: wX cI cL cR ad C φ)) (k) (w) 544 [(0, .ref sb), (1, .ref (ad 0)), (2, .ref (aM 0)), (3, .ref o), (4, .int (nI i))] [] := by
  have hn24 := I.x.1
  have hb8 := I.x.2.1
  have hq8 := I.x.2.2.1
  have hn7 : ψ 7 0 = nI n := (Rr.n0 (j := 7) (by decide)).symm.trans I.x.2.2.2.2.1
  have hb14 : ψ 14 0 = nI b := (Rr.n0 (j := 14) (by decide)).symm.trans I.x.2.2.2.2.2.1
  have hq13 : ψ 13 0 = nI q := (Rr.n0 (j := 13) (by decide)).symm.trans I.x.2.2.2.2.2.2.1
  have h18 : ψ 18 0 = nI tm := (Rr.n0 (j := 18) (by decide)).symm.trans I.tm
  have h5g : ∀ k, k < n → ψ 5 k = -1 ∨ ∃ r, r < 8 ∧ ψ 5 k = nI r := fun k hk => by rw [← Rr.l (j := 5) (by decide) hk]; exact (I.x.h k hk).imp id fun ⟨r, hr, z⟩ => ⟨r, by omega, z⟩
  have hltg : ∀ k, k < n → ψ 3 k = 1 → ∃ r, r < 8 ∧ ψ 5 k = nI r := fun k hk z => by
    rw [← Rr.l (j := 3) (by decide) hk] at z
    obtain ⟨r, hr, e5, -⟩ := hpB_yes I.x.h hb8 hk (I.lp k hk z)
    exact ⟨r, by omega, by rw [← Rr.l (j := 5) (by decide) hk]; exact e5⟩
  have ho12 : ∀ i, i < q → ∃ r, r < 8 ∧ ψ 12 i = nI r := fun i hi => by rw [← Rr.o hi]; exact (I.x.o i hi).imp fun r z => ⟨by omega, z.2⟩
  have hqb : ∀ a, a < b → ψ 10 a = 0 → q < 8 := fun a ha z => q_lt I ha (by rw [Rr.r (j := 10) (by decide) ha]; exact z)
  refine j_aload_nR h dL_law_544 rfl ?_
  refine j_aload_nR h dL_law_545 rfl ?_
  refine j_iload h dL_law_546 rfl ?_
  refine j_iconst (v := 1) h dL_law_548 (by decide) ?_
  refine j_iadd h dL_law_549 ?_
  refine j_sld (a := i + 1) h hX hbl hbA hL (nI_add i 1) (by omega) dL_law_550 ?_
  refine j_aload_nR h dL_law_551 rfl ?_
  refine j_callLF (wr := wM cI aM ψ t) (wc := (o, .inl (cJ, 1, .inr (.inl F))) :: wX cI cL cR ad C φ) h hnc dL_law_552 (c_L_launch hl I.x (fun r hr h0 => q_lt I hr h0)) (vx_cwSW 3 h.2.2.2.2.1 gL_law_L_launch rfl rfl rfl (by decide +kernel) ⟨(Nat.le_of_ble_eq_true rfl), (Nat.le_of_ble_eq_true rfl)⟩) rfl rfl (Nat.le_of_ble_eq_true rfl) ⟨by show k + 2 ≤ 601024; omega, by show w + 12 ≤ 7293034; omega⟩ (fun r u hu => ?_)
  refine j_istore h dL_law_555 (by decide) ?_
  refine jj_swap ?_
  refine j_aload_nR h dL_law_557 rfl ?_
  refine j_aload_nR h dL_law_558 rfl ?_
  refine j_iload h dL_law_559 rfl ?_
  refine j_iconst (v := 1) h dL_law_561 (by decide) ?_
  refine j_iadd h dL_law_562 ?_
  refine j_sld (a := i + 1) h hX hbl hbA hL (nI_add i 1) (by omega) dL_law_563 ?_
  refine j_callVIF (vc := (RX3, TX3, 22)) (wr := u) (wc := wM cI aM ψ t) h (h.2.2.2.2.2.1.sub [0, 1, 2] rfl) dL_law_564 (c_X3_launch hb14 I.x.2.1 hq13 I.x.2.2.1 ho12 hqb) (cwV 1 h.2.2.2.2.1 gL_law_X3_launch rfl rfl rfl (by decide +kernel) ⟨(Nat.le_of_ble_eq_true rfl), (Nat.le_of_ble_eq_true rfl)⟩) 0 rfl rfl rfl rfl (Nat.le_of_ble_eq_true rfl) ⟨by show k + 2 + 0 ≤ 601024; omega, by show w + 12 + 0 ≤ 7293034; omega⟩ (fun rM uM hM => ?_)
  refine j_istore h dL_law_567 (by decide) ?_
  have hTT : tLaunch φ q (xs (i + 1)) = tLaunch ψ q (xs (i + 1)) := R_launch I Rr _
  rcases hu with ⟨hr0, hrT, rfl⟩ | ⟨rfl, v, u0, hp, rfl⟩
  · -- thrown
    rw [hTT] at hrT
    subst hrT
    obtain rfl := hM.1 hr0
    refine j_aload_nR h dL_law_569 rfl ?_
    refine j_callVIF (vc := (RX3, TX3, 22)) h (h.2.2.2.2.2.1.sub [0, 1, 2] rfl) dL_law_570 c_X3_thrown (cwV 0 h.2.2.2.2.1 gL_law_X3_thrown rfl rfl rfl (by decide +kernel) ⟨(Nat.le_of_ble_eq_true rfl), (Nat.le_of_ble_eq_true rfl)⟩) 0 rfl rfl rfl rfl (Nat.le_of_ble_eq_true rfl) ⟨by show k + 2 + 0 + 0 ≤ 601024; omega, by show w + 12 + 0 + 0 ≤ 7293034; omega⟩ (fun rT uT hT9 => ?_)
    obtain ⟨rfl, rfl⟩ := hT9
    refine j_iload h dL_law_573 rfl ?_
    refine j_icmp_eq (tgt := 580) h dL_law_575 (by decide) (fun cE => ?_) (fun cE => absurd rfl cE)
    refine j_iload h dL_law_580 rfl ?_
    refine j_if_ne (tgt := 597) h dL_law_582 (by decide) (fun cN => ?_) (fun cN => absurd cN hr0)
    refine j_goto (tgt := 1416) h dL_law_597 (by decide) ?_
    refine jj_to (l1 := [(0, .ref sb), (1, .ref (ad 0)), (2, .ref (aM 0)), (3, .ref o), (4, .int (nI i))]) ?_ ⟨rfl, rfl, rfl, rfl, rfl, trivial⟩
    exact jj_swap (kk n b q tm φ ψ C ad _ F I Rr G (by omega) rfl)
  · -- done
    obtain ⟨hT0, hv9, hu9⟩ := hp
    have hT1 : tLaunch ψ q (xs (i + 1)) = 0 := hTT.symm.trans hT0
    obtain ⟨a, ha, ea, hq9, hrm, rfl⟩ := hM.2 hT1
    have hac : (xs (i + 1)).toNatClampNeg = a := by rw [ea, nI_clamp (by omega)]
    rw [hac] at hv9 hu9
    subst hu9
    have z := (gl_2.mp hT0).2
    rw [hac, Bool.and_eq_true, Bool.and_eq_true, Bool.or_eq_true] at z
    have I2 := I.la ha (of_decide_eq_true z.1.2) (z.2.imp of_decide_eq_true of_decide_eq_true)
    have R2 := Rr.la a
    have hvv : rM = v := by rw [hrm, hv9, ro_af I2.x.o I2.lc hb8, R2.af (Nat.le_refl b)]
    subst hvv
    refine j_aload_nR h dL_law_569 rfl ?_
    refine j_callVIF (vc := (RX3, TX3, 22)) h (h.2.2.2.2.2.1.sub [0, 1, 2] rfl) dL_law_570 c_X3_thrown (cwV 0 h.2.2.2.2.1 gL_law_X3_thrown rfl rfl rfl (by decide +kernel) ⟨(Nat.le_of_ble_eq_true rfl), (Nat.le_of_ble_eq_true rfl)⟩) 0 rfl rfl rfl rfl (Nat.le_of_ble_eq_true rfl) ⟨by show k + 2 + 0 + 0 ≤ 601024; omega, by show w + 12 + 0 + 0 ≤ 7293034; omega⟩ (fun rT uT hT9 => ?_)
    obtain ⟨rfl, rfl⟩ := hT9
    refine j_iload h dL_law_573 rfl ?_
    refine j_icmp_eq (tgt := 580) h dL_law_575 (by decide) (fun cE => ?_) (fun cE => absurd rfl cE)
    refine j_iload h dL_law_580 rfl ?_
    refine j_if_ne (tgt := 597) h dL_law_582 (by decide) (fun cN => absurd rfl cN) (fun cN => ?_)
    refine j_aload_nR h dL_law_585 rfl ?_
    refine j_iconst (v := 0) h dL_law_586 (by decide) ?_
    refine j_lald0 (wr := wX cI cL cR ad C (laF φ q a) ++ wM cI aM (up2 (up2 (up2 (up2 ψ 10 a 1) 11 a 9) 12 q (nI a)) 13 0 (nI (q + 1))) 0) h 3 rfl dL_law_587 ?_
    refine j_iload h dL_law_588 rfl ?_
    refine j_i2l h dL_law_590 ?_
    refine j_lcmp h dL_law_591 ?_
    rw [show vp_updL F 0 (Int32.toInt64 _) 0 = _ from pk_uLs, cmp_eq]
    refine j_if_eq (tgt := 597) h dL_law_592 (by decide) (fun cZ => ?_) (fun cZ => absurd rfl cZ)
    refine j_goto (tgt := 1416) h dL_law_597 (by decide) ?_
    refine jj_to (l1 := [(0, .ref sb), (1, .ref (ad 0)), (2, .ref (aM 0)), (3, .ref o), (4, .int (nI i))]) ?_ ⟨rfl, rfl, rfl, rfl, rfl, trivial⟩
    exact jj_swap (kk n b (q + 1) tm _ _ C ad 0 _ I2 R2 ((((G.up _ (by omega)).up _ (by omega)).up _ (by omega)).up _ (by omega)) (by omega) rfl)
set_option maxHeartbeats 4000000 in
set_option maxRecDepth 100000 in
theorem sg_pass {p : Program} {l : Launch} {e : Env} {s : State} {m : MethodId} {args : Array Value} {below : List Frame} {meth : Method} {c : Code} {Q : State → Prop} {D : va_G} {cI cL cR cJ : ClassId} {A : Nat → Prop} {k w : Nat} {ad aM : Nat → Nat} {o sb L i n b q tm : Nat} {xs : Nat → Int32} {φ ψ : St} {C : List Nat} {t : Int32} {F : Nat → Int64} (h : jc p s m args c D vwCl (tyL cI cL cR cJ) A 7 cL_law RL wsL_law) (hl : l.stackTraces = false) (hnc : NcA s) (hX : va_X sb L xs s s.heap) (hbl : sb < s.heap.size) (hbA : ¬ A sb) (hL : L < 2 ^ 31) (hi : i + 3 < L) (hk : k + 4 ≤ 601024) (hw : w + 40 ≤ 7293034) (I : IV n b q tm φ C) (Rr : Rl n b q φ ψ) (G : RG n b ψ) (htm : tm < 2 ^ 27) (kk : ∀ (n2 b2 q2 tm2 : Nat) (φ2 ψ2 : St) (C2 : List Nat) (ad2 : Nat → Nat) (t2 : Int32) (F2 : Nat → Int64), IV n2 b2 q2 tm2 φ2 C2 → Rl n2 b2 q2 φ2 ψ2 → RG n2 b2 ψ2 → tm2 ≤ tm + 60 → ad 0 = ad2 0 → jj p l e room_1 s m args below meth c Q D vwCl (tyL cI cL cR cJ) A 7 (wM cI aM ψ2 t2 ++ ((o, .inl (cJ, 1, .inr (.inl F2))) :: wX cI cL cR ad2 C2 φ2)) (k + 1) (w + 6) 1416 [(0, .ref sb), (1, .ref (ad 0)), (2, .ref (aM 0)), (3, .ref o), (4, .int (nI i))] []) : jj p l e room_1 s m args below meth c Q D vwCl (tyL cI cL cR cJ) A 7 (wM cI aM ψ t ++ ((o, .inl (cJ, 1, .inr (.inl F))) :: wX cI cL cR ad C φ)) (k) (w) 736 [(0, .ref sb), (1, .ref (ad 0)), (2, .ref (aM 0)), (3, .ref o), (4, .int (nI i))] [] := by
  have hn24 := I.x.1
  have hb8 := I.x.2.1
  have hq8 := I.x.2.2.1
  have hn7 : ψ 7 0 = nI n := (Rr.n0 (j := 7) (by decide)).symm.trans I.x.2.2.2.2.1
  have hb14 : ψ 14 0 = nI b := (Rr.n0 (j := 14) (by decide)).symm.trans I.x.2.2.2.2.2.1
  have hq13 : ψ 13 0 = nI q := (Rr.n0 (j := 13) (by decide)).symm.trans I.x.2.2.2.2.2.2.1
  have h18 : ψ 18 0 = nI tm := (Rr.n0 (j := 18) (by decide)).symm.trans I.tm
  have h5g : ∀ k, k < n → ψ 5 k = -1 ∨ ∃ r, r < 8 ∧ ψ 5 k = nI r := fun k hk => by rw [← Rr.l (j := 5) (by decide) hk]; exact (I.x.h k hk).imp id fun ⟨r, hr, z⟩ => ⟨r, by omega, z⟩
  have hltg : ∀ k, k < n → ψ 3 k = 1 → ∃ r, r < 8 ∧ ψ 5 k = nI r := fun k hk z => by
    rw [← Rr.l (j := 3) (by decide) hk] at z
    obtain ⟨r, hr, e5, -⟩ := hpB_yes I.x.h hb8 hk (I.lp k hk z)
    exact ⟨r, by omega, by rw [← Rr.l (j := 5) (by decide) hk]; exact e5⟩
  have ho12 : ∀ i, i < q → ∃ r, r < 8 ∧ ψ 12 i = nI r := fun i hi => by rw [← Rr.o hi]; exact (I.x.o i hi).imp fun r z => ⟨by omega, z.2⟩
  have hqb : ∀ a, a < b → ψ 10 a = 0 → q < 8 := fun a ha z => q_lt I ha (by rw [Rr.r (j := 10) (by decide) ha]; exact z)
  refine j_aload_nR h dL_law_736 rfl ?_
  refine j_aload_nR h dL_law_737 rfl ?_
  refine j_iload h dL_law_738 rfl ?_
  refine j_iconst (v := 1) h dL_law_740 (by decide) ?_
  refine j_iadd h dL_law_741 ?_
  refine j_sld (a := i + 1) h hX hbl hbA hL (nI_add i 1) (by omega) dL_law_742 ?_
  refine j_aload_nR h dL_law_743 rfl ?_
  refine j_callLF (wr := wM cI aM ψ t) (wc := (o, .inl (cJ, 1, .inr (.inl F))) :: wX cI cL cR ad C φ) h hnc dL_law_744 (c_L_pass hl I.x (by omega) (fun k _ => (ps_iv I k).1.mi)) (vx_cwSW 3 h.2.2.2.2.1 gL_law_L_pass rfl rfl rfl (by decide +kernel) ⟨(Nat.le_of_ble_eq_true rfl), (Nat.le_of_ble_eq_true rfl)⟩) rfl rfl (Nat.le_of_ble_eq_true rfl) ⟨by show k + 1 ≤ 601024; omega, by show w + 6 ≤ 7293034; omega⟩ (fun r u hu => ?_)
  refine j_istore h dL_law_747 (by decide) ?_
  refine jj_swap ?_
  refine j_aload_nR h dL_law_749 rfl ?_
  refine j_aload_nR h dL_law_750 rfl ?_
  refine j_iload h dL_law_751 rfl ?_
  refine j_iconst (v := 1) h dL_law_753 (by decide) ?_
  refine j_iadd h dL_law_754 ?_
  refine j_sld (a := i + 1) h hX hbl hbA hL (nI_add i 1) (by omega) dL_law_755 ?_
  refine j_callVIF (vc := (RX3, TX3, 22)) (wr := u) (wc := wM cI aM ψ t) h (h.2.2.2.2.2.1.sub [0, 1, 2] rfl) dL_law_756 (c_X3_pass hn7 I.x.1 hb14 I.x.2.1 hq13 I.x.2.2.1 ho12 h18 (by omega) hltg) (cwV 1 h.2.2.2.2.1 gL_law_X3_pass rfl rfl rfl (by decide +kernel) ⟨(Nat.le_of_ble_eq_true rfl), (Nat.le_of_ble_eq_true rfl)⟩) 0 rfl rfl rfl rfl (Nat.le_of_ble_eq_true rfl) ⟨by show k + 1 + 0 ≤ 601024; omega, by show w + 6 + 0 ≤ 7293034; omega⟩ (fun rM uM hM => ?_)
  refine j_istore h dL_law_759 (by decide) ?_
  have hTT : tPass (xs (i + 1)) = tPass (xs (i + 1)) := rfl
  rcases hu with ⟨hr0, hrT, rfl⟩ | ⟨rfl, v, u0, hp, rfl⟩
  · -- thrown
    rw [hTT] at hrT
    subst hrT
    obtain rfl := hM.1 hr0
    refine j_aload_nR h dL_law_761 rfl ?_
    refine j_callVIF (vc := (RX3, TX3, 22)) h (h.2.2.2.2.2.1.sub [0, 1, 2] rfl) dL_law_762 c_X3_thrown (cwV 0 h.2.2.2.2.1 gL_law_X3_thrown rfl rfl rfl (by decide +kernel) ⟨(Nat.le_of_ble_eq_true rfl), (Nat.le_of_ble_eq_true rfl)⟩) 0 rfl rfl rfl rfl (Nat.le_of_ble_eq_true rfl) ⟨by show k + 1 + 0 + 0 ≤ 601024; omega, by show w + 6 + 0 + 0 ≤ 7293034; omega⟩ (fun rT uT hT9 => ?_)
    obtain ⟨rfl, rfl⟩ := hT9
    refine j_iload h dL_law_765 rfl ?_
    refine j_icmp_eq (tgt := 772) h dL_law_767 (by decide) (fun cE => ?_) (fun cE => absurd rfl cE)
    refine j_iload h dL_law_772 rfl ?_
    refine j_if_ne (tgt := 789) h dL_law_774 (by decide) (fun cN => ?_) (fun cN => absurd cN hr0)
    refine j_goto (tgt := 1416) h dL_law_789 (by decide) ?_
    refine jj_to (l1 := [(0, .ref sb), (1, .ref (ad 0)), (2, .ref (aM 0)), (3, .ref o), (4, .int (nI i))]) ?_ ⟨rfl, rfl, rfl, rfl, rfl, trivial⟩
    exact jj_swap (kk n b q tm φ ψ C ad _ F I Rr G (by omega) rfl)
  · -- done
    obtain ⟨hT0, hv9, hu9⟩ := hp
    have hT1 : tPass (xs (i + 1)) = 0 := hTT.symm.trans hT0
    obtain ⟨a, ha1, ha2, ea, hrm, rfl⟩ := hM.2 hT1
    have hac : (xs (i + 1)).toNatClampNeg = a := by rw [ea, nI_clamp (by omega)]
    rw [hac] at hv9 hu9
    subst hu9
    have R2 := Rl.ps I Rr a
    have hvv : rM = v := by rw [hrm, hv9, Rr.lt (Nat.le_refl n), R2.lt (Nat.le_refl n)]
    subst hvv
    refine j_aload_nR h dL_law_761 rfl ?_
    refine j_callVIF (vc := (RX3, TX3, 22)) h (h.2.2.2.2.2.1.sub [0, 1, 2] rfl) dL_law_762 c_X3_thrown (cwV 0 h.2.2.2.2.1 gL_law_X3_thrown rfl rfl rfl (by decide +kernel) ⟨(Nat.le_of_ble_eq_true rfl), (Nat.le_of_ble_eq_true rfl)⟩) 0 rfl rfl rfl rfl (Nat.le_of_ble_eq_true rfl) ⟨by show k + 1 + 0 + 0 ≤ 601024; omega, by show w + 6 + 0 + 0 ≤ 7293034; omega⟩ (fun rT uT hT9 => ?_)
    obtain ⟨rfl, rfl⟩ := hT9
    refine j_iload h dL_law_765 rfl ?_
    refine j_icmp_eq (tgt := 772) h dL_law_767 (by decide) (fun cE => ?_) (fun cE => absurd rfl cE)
    refine j_iload h dL_law_772 rfl ?_
    refine j_if_ne (tgt := 789) h dL_law_774 (by decide) (fun cN => absurd rfl cN) (fun cN => ?_)
    refine j_aload_nR h dL_law_777 rfl ?_
    refine j_iconst (v := 0) h dL_law_778 (by decide) ?_
    refine j_lald0 (wr := wX cI cL cR ad C (psC φ n q tm a) ++ wM cI aM (passF ψ n b q tm a) 0) h 3 rfl dL_law_779 ?_
    refine j_iload h dL_law_780 rfl ?_
    refine j_i2l h dL_law_782 ?_
    refine j_lcmp h dL_law_783 ?_
    rw [show vp_updL F 0 (Int32.toInt64 _) 0 = _ from pk_uLs, cmp_eq]
    refine j_if_eq (tgt := 789) h dL_law_784 (by decide) (fun cZ => ?_) (fun cZ => absurd rfl cZ)
    refine j_goto (tgt := 1416) h dL_law_789 (by decide) ?_
    refine jj_to (l1 := [(0, .ref sb), (1, .ref (ad 0)), (2, .ref (aM 0)), (3, .ref o), (4, .int (nI i))]) ?_ ⟨rfl, rfl, rfl, rfl, rfl, trivial⟩
    exact jj_swap (kk n b q (tm + a) _ _ C ad 0 _ (ps_iv I a).1 R2 (G.ps q tm a) (by omega) rfl)
set_option maxHeartbeats 4000000 in
set_option maxRecDepth 100000 in
theorem sg_make {p : Program} {l : Launch} {e : Env} {s : State} {m : MethodId} {args : Array Value} {below : List Frame} {meth : Method} {c : Code} {Q : State → Prop} {D : va_G} {cI cL cR cJ : ClassId} {A : Nat → Prop} {k w : Nat} {ad aM : Nat → Nat} {o sb L i n b q tm : Nat} {xs : Nat → Int32} {φ ψ : St} {C : List Nat} {t : Int32} {F : Nat → Int64} (h : jc p s m args c D vwCl (tyL cI cL cR cJ) A 7 cL_law RL wsL_law) (hl : l.stackTraces = false) (hnc : NcA s) (hX : va_X sb L xs s s.heap) (hbl : sb < s.heap.size) (hbA : ¬ A sb) (hL : L < 2 ^ 31) (hi : i + 3 < L) (hk : k + 4 ≤ 601024) (hw : w + 40 ≤ 7293034) (I : IV n b q tm φ C) (Rr : Rl n b q φ ψ) (G : RG n b ψ) (htm : tm < 2 ^ 27) (kk : ∀ (n2 b2 q2 tm2 : Nat) (φ2 ψ2 : St) (C2 : List Nat) (ad2 : Nat → Nat) (t2 : Int32) (F2 : Nat → Int64), IV n2 b2 q2 tm2 φ2 C2 → Rl n2 b2 q2 φ2 ψ2 → RG n2 b2 ψ2 → tm2 ≤ tm + 60 → ad 0 = ad2 0 → jj p l e room_1 s m args below meth c Q D vwCl (tyL cI cL cR cJ) A 7 (wM cI aM ψ2 t2 ++ ((o, .inl (cJ, 1, .inr (.inl F2))) :: wX cI cL cR ad2 C2 φ2)) (k + 1) (w + 7) 1416 [(0, .ref sb), (1, .ref (ad 0)), (2, .ref (aM 0)), (3, .ref o), (4, .int (nI i))] []) : jj p l e room_1 s m args below meth c Q D vwCl (tyL cI cL cR cJ) A 7 (wM cI aM ψ t ++ ((o, .inl (cJ, 1, .inr (.inl F))) :: wX cI cL cR ad C φ)) (k) (w) 148 [(0, .ref sb), (1, .ref (ad 0)), (2, .ref (aM 0)), (3, .ref o), (4, .int (nI i))] [] := by
  have hn24 := I.x.1
  have hb8 := I.x.2.1
  have hq8 := I.x.2.2.1
  have hn7 : ψ 7 0 = nI n := (Rr.n0 (j := 7) (by decide)).symm.trans I.x.2.2.2.2.1
  have hb14 : ψ 14 0 = nI b := (Rr.n0 (j := 14) (by decide)).symm.trans I.x.2.2.2.2.2.1
  have hq13 : ψ 13 0 = nI q := (Rr.n0 (j := 13) (by decide)).symm.trans I.x.2.2.2.2.2.2.1
  have h18 : ψ 18 0 = nI tm := (Rr.n0 (j := 18) (by decide)).symm.trans I.tm
  have h5g : ∀ k, k < n → ψ 5 k = -1 ∨ ∃ r, r < 8 ∧ ψ 5 k = nI r := fun k hk => by rw [← Rr.l (j := 5) (by decide) hk]; exact (I.x.h k hk).imp id fun ⟨r, hr, z⟩ => ⟨r, by omega, z⟩
  have hltg : ∀ k, k < n → ψ 3 k = 1 → ∃ r, r < 8 ∧ ψ 5 k = nI r := fun k hk z => by
    rw [← Rr.l (j := 3) (by decide) hk] at z
    obtain ⟨r, hr, e5, -⟩ := hpB_yes I.x.h hb8 hk (I.lp k hk z)
    exact ⟨r, by omega, by rw [← Rr.l (j := 5) (by decide) hk]; exact e5⟩
  have ho12 : ∀ i, i < q → ∃ r, r < 8 ∧ ψ 12 i = nI r := fun i hi => by rw [← Rr.o hi]; exact (I.x.o i hi).imp fun r z => ⟨by omega, z.2⟩
  have hqb : ∀ a, a < b → ψ 10 a = 0 → q < 8 := fun a ha z => q_lt I ha (by rw [Rr.r (j := 10) (by decide) ha]; exact z)
  refine j_aload_nR h dL_law_148 rfl ?_
  refine j_aload_nR h dL_law_149 rfl ?_
  refine j_iload h dL_law_150 rfl ?_
  refine j_iconst (v := 1) h dL_law_152 (by decide) ?_
  refine j_iadd h dL_law_153 ?_
  refine j_sld (a := i + 1) h hX hbl hbA hL (nI_add i 1) (by omega) dL_law_154 ?_
  refine j_aload_nR h dL_law_155 rfl ?_
  refine j_iload h dL_law_156 rfl ?_
  refine j_iconst (v := 2) h dL_law_158 (by decide) ?_
  refine j_iadd h dL_law_159 ?_
  refine j_sld (a := i + 2) h hX hbl hbA hL (nI_add i 2) (by omega) dL_law_160 ?_
  refine j_aload_nR h dL_law_161 rfl ?_
  refine j_iload h dL_law_162 rfl ?_
  refine j_iconst (v := 3) h dL_law_164 (by decide) ?_
  refine j_iadd h dL_law_165 ?_
  refine j_sld (a := i + 3) h hX hbl hbA hL (nI_add i 3) (by omega) dL_law_166 ?_
  refine j_aload_nR h dL_law_167 rfl ?_
  refine j_callLF (wr := wM cI aM ψ t) (wc := (o, .inl (cJ, 1, .inr (.inl F))) :: wX cI cL cR ad C φ) h hnc dL_law_168 (c_L_make hl I.x I.2.1) (vx_cwSW 5 h.2.2.2.2.1 gL_law_L_make rfl rfl rfl (by decide +kernel) ⟨(Nat.le_of_ble_eq_true rfl), (Nat.le_of_ble_eq_true rfl)⟩) rfl rfl (Nat.le_of_ble_eq_true rfl) ⟨by show k + 1 ≤ 601024; omega, by show w + 7 ≤ 7293034; omega⟩ (fun r u hu => ?_)
  refine j_istore h dL_law_171 (by decide) ?_
  refine jj_swap ?_
  refine j_aload_nR h dL_law_173 rfl ?_
  refine j_aload_nR h dL_law_174 rfl ?_
  refine j_iload h dL_law_175 rfl ?_
  refine j_iconst (v := 1) h dL_law_177 (by decide) ?_
  refine j_iadd h dL_law_178 ?_
  refine j_sld (a := i + 1) h hX hbl hbA hL (nI_add i 1) (by omega) dL_law_179 ?_
  refine j_aload_nR h dL_law_180 rfl ?_
  refine j_iload h dL_law_181 rfl ?_
  refine j_iconst (v := 2) h dL_law_183 (by decide) ?_
  refine j_iadd h dL_law_184 ?_
  refine j_sld (a := i + 2) h hX hbl hbA hL (nI_add i 2) (by omega) dL_law_185 ?_
  refine j_aload_nR h dL_law_186 rfl ?_
  refine j_iload h dL_law_187 rfl ?_
  refine j_iconst (v := 3) h dL_law_189 (by decide) ?_
  refine j_iadd h dL_law_190 ?_
  refine j_sld (a := i + 3) h hX hbl hbA hL (nI_add i 3) (by omega) dL_law_191 ?_
  refine j_callVIF (vc := (RX3, TX3, 22)) (wr := u) (wc := wM cI aM ψ t) h (h.2.2.2.2.2.1.sub [0, 1, 2] rfl) dL_law_192 (c_X3_make hn7 I.x.1) (cwV 3 h.2.2.2.2.1 gL_law_X3_make rfl rfl rfl (by decide +kernel) ⟨(Nat.le_of_ble_eq_true rfl), (Nat.le_of_ble_eq_true rfl)⟩) 0 rfl rfl rfl rfl (Nat.le_of_ble_eq_true rfl) ⟨by show k + 1 + 0 ≤ 601024; omega, by show w + 7 + 0 ≤ 7293034; omega⟩ (fun rM uM hM => ?_)
  refine j_istore h dL_law_195 (by decide) ?_
  have hTT : tMake φ (xs (i + 1)) (xs (i + 2)) (xs (i + 3)) = tMake ψ (xs (i + 1)) (xs (i + 2)) (xs (i + 3)) := R_make Rr _ _ _
  rcases hu with ⟨hr0, hrT, rfl⟩ | ⟨rfl, v, u0, hp, rfl⟩
  · -- thrown
    rw [hTT] at hrT
    subst hrT
    obtain rfl := hM.1 hr0
    refine j_aload_nR h dL_law_197 rfl ?_
    refine j_callVIF (vc := (RX3, TX3, 22)) h (h.2.2.2.2.2.1.sub [0, 1, 2] rfl) dL_law_198 c_X3_thrown (cwV 0 h.2.2.2.2.1 gL_law_X3_thrown rfl rfl rfl (by decide +kernel) ⟨(Nat.le_of_ble_eq_true rfl), (Nat.le_of_ble_eq_true rfl)⟩) 0 rfl rfl rfl rfl (Nat.le_of_ble_eq_true rfl) ⟨by show k + 1 + 0 + 0 ≤ 601024; omega, by show w + 7 + 0 + 0 ≤ 7293034; omega⟩ (fun rT uT hT9 => ?_)
    obtain ⟨rfl, rfl⟩ := hT9
    refine j_iload h dL_law_201 rfl ?_
    refine j_icmp_eq (tgt := 208) h dL_law_203 (by decide) (fun cE => ?_) (fun cE => absurd rfl cE)
    refine j_iload h dL_law_208 rfl ?_
    refine j_if_ne (tgt := 225) h dL_law_210 (by decide) (fun cN => ?_) (fun cN => absurd cN hr0)
    refine j_goto (tgt := 1416) h dL_law_225 (by decide) ?_
    refine jj_to (l1 := [(0, .ref sb), (1, .ref (ad 0)), (2, .ref (aM 0)), (3, .ref o), (4, .int (nI i))]) ?_ ⟨rfl, rfl, rfl, rfl, rfl, trivial⟩
    exact jj_swap (kk n b q tm φ ψ C ad _ F I Rr G (by omega) rfl)
  · -- done
    obtain ⟨hT0, hv9, hu9⟩ := hp
    have hT1 : tMake ψ (xs (i + 1)) (xs (i + 2)) (xs (i + 3)) = 0 := hTT.symm.trans hT0
    obtain ⟨hn9, hrm, rfl⟩ := hM.2 hT1
    obtain ⟨ad2, had, rfl⟩ := hu9
    have G2 : RG (n + 1) b ψ := ⟨fun k hk => G.1 k (by omega), G.2⟩
    have hvv : rM = v := by rw [hrm, hv9, I.x.2.2.2.2.1]
    subst hvv
    refine j_aload_nR h dL_law_197 rfl ?_
    refine j_callVIF (vc := (RX3, TX3, 22)) h (h.2.2.2.2.2.1.sub [0, 1, 2] rfl) dL_law_198 c_X3_thrown (cwV 0 h.2.2.2.2.1 gL_law_X3_thrown rfl rfl rfl (by decide +kernel) ⟨(Nat.le_of_ble_eq_true rfl), (Nat.le_of_ble_eq_true rfl)⟩) 0 rfl rfl rfl rfl (Nat.le_of_ble_eq_true rfl) ⟨by show k + 1 + 0 + 0 ≤ 601024; omega, by show w + 7 + 0 + 0 ≤ 7293034; omega⟩ (fun rT uT hT9 => ?_)
    obtain ⟨rfl, rfl⟩ := hT9
    refine j_iload h dL_law_201 rfl ?_
    refine j_icmp_eq (tgt := 208) h dL_law_203 (by decide) (fun cE => ?_) (fun cE => absurd rfl cE)
    refine j_iload h dL_law_208 rfl ?_
    refine j_if_ne (tgt := 225) h dL_law_210 (by decide) (fun cN => absurd rfl cN) (fun cN => ?_)
    refine j_aload_nR h dL_law_213 rfl ?_
    refine j_iconst (v := 0) h dL_law_214 (by decide) ?_
    refine j_lald0 (wr := wX cI cL cR ad2 (C ++ [5 + n]) (mkF φ n (xs (i + 1)) (xs (i + 2)) (xs (i + 3))) ++ wM cI aM (up2 (up2 (up2 (up2 (up2 (up2 ψ 0 n (xs (i + 1))) 1 n (xs (i + 2))) 2 n (xs (i + 3))) 4 n (20 * (xs (i + 3)))) 5 n (-1)) 7 0 (nI (n + 1))) 0) h 3 rfl dL_law_215 ?_
    refine j_iload h dL_law_216 rfl ?_
    refine j_i2l h dL_law_218 ?_
    refine j_lcmp h dL_law_219 ?_
    rw [show vp_updL F 0 (Int32.toInt64 _) 0 = _ from pk_uLs, cmp_eq]
    refine j_if_eq (tgt := 225) h dL_law_220 (by decide) (fun cZ => ?_) (fun cZ => absurd rfl cZ)
    refine j_goto (tgt := 1416) h dL_law_225 (by decide) ?_
    refine jj_to (l1 := [(0, .ref sb), (1, .ref (ad 0)), (2, .ref (aM 0)), (3, .ref o), (4, .int (nI i))]) ?_ ⟨rfl, rfl, rfl, rfl, rfl, trivial⟩
    exact jj_swap (kk (n + 1) b q tm _ _ _ ad2 0 _ (I.mk hn9 hT0) (Rr.mk (G.1 n (Nat.le_refl n)) _ _ _) ((((((G2.up _ (by omega)).up _ (by omega)).up _ (by omega)).up _ (by omega)).up _ (by omega)).up _ (by omega)) (by omega) had)
set_option maxHeartbeats 4000000 in
set_option maxRecDepth 100000 in
theorem sg_build {p : Program} {l : Launch} {e : Env} {s : State} {m : MethodId} {args : Array Value} {below : List Frame} {meth : Method} {c : Code} {Q : State → Prop} {D : va_G} {cI cL cR cJ : ClassId} {A : Nat → Prop} {k w : Nat} {ad aM : Nat → Nat} {o sb L i n b q tm : Nat} {xs : Nat → Int32} {φ ψ : St} {C : List Nat} {t : Int32} {F : Nat → Int64} (h : jc p s m args c D vwCl (tyL cI cL cR cJ) A 7 cL_law RL wsL_law) (hl : l.stackTraces = false) (hnc : NcA s) (hX : va_X sb L xs s s.heap) (hbl : sb < s.heap.size) (hbA : ¬ A sb) (hL : L < 2 ^ 31) (hi : i + 3 < L) (hk : k + 4 ≤ 601024) (hw : w + 40 ≤ 7293034) (I : IV n b q tm φ C) (Rr : Rl n b q φ ψ) (G : RG n b ψ) (htm : tm < 2 ^ 27) (kk : ∀ (n2 b2 q2 tm2 : Nat) (φ2 ψ2 : St) (C2 : List Nat) (ad2 : Nat → Nat) (t2 : Int32) (F2 : Nat → Int64), IV n2 b2 q2 tm2 φ2 C2 → Rl n2 b2 q2 φ2 ψ2 → RG n2 b2 ψ2 → tm2 ≤ tm + 60 → ad 0 = ad2 0 → jj p l e room_1 s m args below meth c Q D vwCl (tyL cI cL cR cJ) A 7 (wM cI aM ψ2 t2 ++ ((o, .inl (cJ, 1, .inr (.inl F2))) :: wX cI cL cR ad2 C2 φ2)) (k + 2) (w + 17) 1416 [(0, .ref sb), (1, .ref (ad 0)), (2, .ref (aM 0)), (3, .ref o), (4, .int (nI i))] []) : jj p l e room_1 s m args below meth c Q D vwCl (tyL cI cL cR cJ) A 7 (wM cI aM ψ t ++ ((o, .inl (cJ, 1, .inr (.inl F))) :: wX cI cL cR ad C φ)) (k) (w) 476 [(0, .ref sb), (1, .ref (ad 0)), (2, .ref (aM 0)), (3, .ref o), (4, .int (nI i))] [] := by
  have hn24 := I.x.1
  have hb8 := I.x.2.1
  have hq8 := I.x.2.2.1
  have hn7 : ψ 7 0 = nI n := (Rr.n0 (j := 7) (by decide)).symm.trans I.x.2.2.2.2.1
  have hb14 : ψ 14 0 = nI b := (Rr.n0 (j := 14) (by decide)).symm.trans I.x.2.2.2.2.2.1
  have hq13 : ψ 13 0 = nI q := (Rr.n0 (j := 13) (by decide)).symm.trans I.x.2.2.2.2.2.2.1
  have h18 : ψ 18 0 = nI tm := (Rr.n0 (j := 18) (by decide)).symm.trans I.tm
  have h5g : ∀ k, k < n → ψ 5 k = -1 ∨ ∃ r, r < 8 ∧ ψ 5 k = nI r := fun k hk => by rw [← Rr.l (j := 5) (by decide) hk]; exact (I.x.h k hk).imp id fun ⟨r, hr, z⟩ => ⟨r, by omega, z⟩
  have hltg : ∀ k, k < n → ψ 3 k = 1 → ∃ r, r < 8 ∧ ψ 5 k = nI r := fun k hk z => by
    rw [← Rr.l (j := 3) (by decide) hk] at z
    obtain ⟨r, hr, e5, -⟩ := hpB_yes I.x.h hb8 hk (I.lp k hk z)
    exact ⟨r, by omega, by rw [← Rr.l (j := 5) (by decide) hk]; exact e5⟩
  have ho12 : ∀ i, i < q → ∃ r, r < 8 ∧ ψ 12 i = nI r := fun i hi => by rw [← Rr.o hi]; exact (I.x.o i hi).imp fun r z => ⟨by omega, z.2⟩
  have hqb : ∀ a, a < b → ψ 10 a = 0 → q < 8 := fun a ha z => q_lt I ha (by rw [Rr.r (j := 10) (by decide) ha]; exact z)
  refine j_aload_nR h dL_law_476 rfl ?_
  refine j_aload_nR h dL_law_477 rfl ?_
  refine j_iload h dL_law_478 rfl ?_
  refine j_iconst (v := 1) h dL_law_480 (by decide) ?_
  refine j_iadd h dL_law_481 ?_
  refine j_sld (a := i + 1) h hX hbl hbA hL (nI_add i 1) (by omega) dL_law_482 ?_
  refine j_aload_nR h dL_law_483 rfl ?_
  refine j_iload h dL_law_484 rfl ?_
  refine j_iconst (v := 2) h dL_law_486 (by decide) ?_
  refine j_iadd h dL_law_487 ?_
  refine j_sld (a := i + 2) h hX hbl hbA hL (nI_add i 2) (by omega) dL_law_488 ?_
  refine j_aload_nR h dL_law_489 rfl ?_
  refine j_callLF (wr := wM cI aM ψ t) (wc := (o, .inl (cJ, 1, .inr (.inl F))) :: wX cI cL cR ad C φ) h hnc dL_law_490 (c_L_build hl I.x I.2.1) (vx_cwSW 4 h.2.2.2.2.1 gL_law_L_build rfl rfl rfl (by decide +kernel) ⟨(Nat.le_of_ble_eq_true rfl), (Nat.le_of_ble_eq_true rfl)⟩) rfl rfl (Nat.le_of_ble_eq_true rfl) ⟨by show k + 2 ≤ 601024; omega, by show w + 17 ≤ 7293034; omega⟩ (fun r u hu => ?_)
  refine j_istore h dL_law_493 (by decide) ?_
  refine jj_swap ?_
  refine j_aload_nR h dL_law_495 rfl ?_
  refine j_aload_nR h dL_law_496 rfl ?_
  refine j_iload h dL_law_497 rfl ?_
  refine j_iconst (v := 1) h dL_law_499 (by decide) ?_
  refine j_iadd h dL_law_500 ?_
  refine j_sld (a := i + 1) h hX hbl hbA hL (nI_add i 1) (by omega) dL_law_501 ?_
  refine j_aload_nR h dL_law_502 rfl ?_
  refine j_iload h dL_law_503 rfl ?_
  refine j_iconst (v := 2) h dL_law_505 (by decide) ?_
  refine j_iadd h dL_law_506 ?_
  refine j_sld (a := i + 2) h hX hbl hbA hL (nI_add i 2) (by omega) dL_law_507 ?_
  refine j_callVIF (vc := (RX3, TX3, 22)) (wr := u) (wc := wM cI aM ψ t) h (h.2.2.2.2.2.1.sub [0, 1, 2] rfl) dL_law_508 (c_X3_build hb14 I.x.2.1) (cwV 2 h.2.2.2.2.1 gL_law_X3_build rfl rfl rfl (by decide +kernel) ⟨(Nat.le_of_ble_eq_true rfl), (Nat.le_of_ble_eq_true rfl)⟩) 0 rfl rfl rfl rfl (Nat.le_of_ble_eq_true rfl) ⟨by show k + 2 + 0 ≤ 601024; omega, by show w + 17 + 0 ≤ 7293034; omega⟩ (fun rM uM hM => ?_)
  refine j_istore h dL_law_511 (by decide) ?_
  have hTT : tBuild φ (xs (i + 1)) (xs (i + 2)) = tBuild ψ (xs (i + 1)) (xs (i + 2)) := R_build Rr _ _
  rcases hu with ⟨hr0, hrT, rfl⟩ | ⟨rfl, v, u0, hp, rfl⟩
  · -- thrown
    rw [hTT] at hrT
    subst hrT
    obtain rfl := hM.1 hr0
    refine j_aload_nR h dL_law_513 rfl ?_
    refine j_callVIF (vc := (RX3, TX3, 22)) h (h.2.2.2.2.2.1.sub [0, 1, 2] rfl) dL_law_514 c_X3_thrown (cwV 0 h.2.2.2.2.1 gL_law_X3_thrown rfl rfl rfl (by decide +kernel) ⟨(Nat.le_of_ble_eq_true rfl), (Nat.le_of_ble_eq_true rfl)⟩) 0 rfl rfl rfl rfl (Nat.le_of_ble_eq_true rfl) ⟨by show k + 2 + 0 + 0 ≤ 601024; omega, by show w + 17 + 0 + 0 ≤ 7293034; omega⟩ (fun rT uT hT9 => ?_)
    obtain ⟨rfl, rfl⟩ := hT9
    refine j_iload h dL_law_517 rfl ?_
    refine j_icmp_eq (tgt := 524) h dL_law_519 (by decide) (fun cE => ?_) (fun cE => absurd rfl cE)
    refine j_iload h dL_law_524 rfl ?_
    refine j_if_ne (tgt := 541) h dL_law_526 (by decide) (fun cN => ?_) (fun cN => absurd cN hr0)
    refine j_goto (tgt := 1416) h dL_law_541 (by decide) ?_
    refine jj_to (l1 := [(0, .ref sb), (1, .ref (ad 0)), (2, .ref (aM 0)), (3, .ref o), (4, .int (nI i))]) ?_ ⟨rfl, rfl, rfl, rfl, rfl, trivial⟩
    exact jj_swap (kk n b q tm φ ψ C ad _ F I Rr G (by omega) rfl)
  · -- done
    obtain ⟨hT0, hv9, hu9⟩ := hp
    have hT1 : tBuild ψ (xs (i + 1)) (xs (i + 2)) = 0 := hTT.symm.trans hT0
    obtain ⟨hn9, hrm, rfl⟩ := hM.2 hT1
    obtain ⟨ad2, had, rfl⟩ := hu9
    have G2 : RG n (b + 1) ψ := ⟨G.1, fun k hk => G.2 k (by omega)⟩
    have hvv : rM = v := by rw [hrm, hv9, I.x.2.2.2.2.2.1]
    subst hvv
    refine j_aload_nR h dL_law_513 rfl ?_
    refine j_callVIF (vc := (RX3, TX3, 22)) h (h.2.2.2.2.2.1.sub [0, 1, 2] rfl) dL_law_514 c_X3_thrown (cwV 0 h.2.2.2.2.1 gL_law_X3_thrown rfl rfl rfl (by decide +kernel) ⟨(Nat.le_of_ble_eq_true rfl), (Nat.le_of_ble_eq_true rfl)⟩) 0 rfl rfl rfl rfl (Nat.le_of_ble_eq_true rfl) ⟨by show k + 2 + 0 + 0 ≤ 601024; omega, by show w + 17 + 0 + 0 ≤ 7293034; omega⟩ (fun rT uT hT9 => ?_)
    obtain ⟨rfl, rfl⟩ := hT9
    refine j_iload h dL_law_517 rfl ?_
    refine j_icmp_eq (tgt := 524) h dL_law_519 (by decide) (fun cE => ?_) (fun cE => absurd rfl cE)
    refine j_iload h dL_law_524 rfl ?_
    refine j_if_ne (tgt := 541) h dL_law_526 (by decide) (fun cN => absurd rfl cN) (fun cN => ?_)
    refine j_aload_nR h dL_law_529 rfl ?_
    refine j_iconst (v := 0) h dL_law_530 (by decide) ?_
    refine j_lald0 (wr := wX cI cL cR ad2 (C ++ [29 + b, 37 + b]) (bdF φ b (xs (i + 1)) (xs (i + 2))) ++ wM cI aM (up2 (up2 (up2 ψ 8 b (xs (i + 1))) 9 b (xs (i + 2))) 14 0 (nI (b + 1))) 0) h 3 rfl dL_law_531 ?_
    refine j_iload h dL_law_532 rfl ?_
    refine j_i2l h dL_law_534 ?_
    refine j_lcmp h dL_law_535 ?_
    rw [show vp_updL F 0 (Int32.toInt64 _) 0 = _ from pk_uLs, cmp_eq]
    refine j_if_eq (tgt := 541) h dL_law_536 (by decide) (fun cZ => ?_) (fun cZ => absurd rfl cZ)
    refine j_goto (tgt := 1416) h dL_law_541 (by decide) ?_
    refine jj_to (l1 := [(0, .ref sb), (1, .ref (ad 0)), (2, .ref (aM 0)), (3, .ref o), (4, .int (nI i))]) ?_ ⟨rfl, rfl, rfl, rfl, rfl, trivial⟩
    exact jj_swap (kk n (b + 1) q tm _ _ _ ad2 0 _ (I.bd hn9 hT0) (Rr.bd (G.2 b (Nat.le_refl b)) _ _) (((G2.up _ (by omega)).up _ (by omega)).up _ (by omega)) (by omega) had)
set_option maxHeartbeats 4000000 in
set_option maxRecDepth 100000 in
theorem sg_time {p : Program} {l : Launch} {e : Env} {s : State} {m : MethodId} {args : Array Value} {below : List Frame} {meth : Method} {c : Code} {Q : State → Prop} {D : va_G} {cI cL cR cJ : ClassId} {A : Nat → Prop} {k w : Nat} {ad aM : Nat → Nat} {o sb L i n b q tm : Nat} {xs : Nat → Int32} {φ ψ : St} {C : List Nat} {t : Int32} {F : Nat → Int64} (h : jc p s m args c D vwCl (tyL cI cL cR cJ) A 7 cL_law RL wsL_law) (hk : k + 4 ≤ 601024) (hw : w + 40 ≤ 7293034) (I : IV n b q tm φ C) (Rr : Rl n b q φ ψ) (kk : ∀ (F2 : Nat → Int64), jj p l e room_1 s m args below meth c Q D vwCl (tyL cI cL cR cJ) A 7 (wM cI aM ψ 0 ++ ((o, .inl (cJ, 1, .inr (.inl F2))) :: wX cI cL cR ad C φ)) (k) (w) 1416 [(0, .ref sb), (1, .ref (ad 0)), (2, .ref (aM 0)), (3, .ref o), (4, .int (nI i))] []) : jj p l e room_1 s m args below meth c Q D vwCl (tyL cI cL cR cJ) A 7 (wM cI aM ψ t ++ ((o, .inl (cJ, 1, .inr (.inl F))) :: wX cI cL cR ad C φ)) (k) (w) 792 [(0, .ref sb), (1, .ref (ad 0)), (2, .ref (aM 0)), (3, .ref o), (4, .int (nI i))] [] := by
  obtain ⟨q9, hw9⟩ := wX_recv (cI := cI) (cL := cL) (cR := cR) (ad := ad) (f := φ) (I.x.c (show 0 < 5 by decide))
  rw [gX_0] at hw9
  refine j_aload_nR h dL_law_792 rfl ?_
  refine jj_ws (ws1 := (wM cI aM ψ t ++ [(o, .inl (cJ, 1, .inr (.inl F)))]) ++ wX cI cL cR ad C φ) (by rw [List.append_assoc]; rfl) ?_
  refine j_callVIF (vc := (RX2, TX2, 12)) h (h.2.2.2.2.2.1.sub [0, 1, 2] rfl) dL_law_793 (c_X2_time I.x) (cwV 0 h.2.2.2.2.1 gL_law_X2_time rfl rfl rfl (by decide +kernel) ⟨(Nat.le_of_ble_eq_true rfl), (Nat.le_of_ble_eq_true rfl)⟩) q9 hw9 rfl rfl rfl (Nat.le_of_ble_eq_true rfl) ⟨by show k + 0 ≤ 601024; omega, by show w + 0 ≤ 7293034; omega⟩ (fun r1 u1 hu1 => ?_)
  obtain ⟨rfl, rfl⟩ := hu1
  refine j_aload_nR h dL_law_796 rfl ?_
  refine jj_ws (ws1 := wM cI aM ψ t ++ ((o, .inl (cJ, 1, .inr (.inl F))) :: wX cI cL cR ad C φ)) (by rw [List.append_assoc]; rfl) ?_
  refine jj_swap ?_
  refine j_callVIF (vc := (RX3, TX3, 22)) h (h.2.2.2.2.2.1.sub [0, 1, 2] rfl) dL_law_797 c_X3_time (cwV 0 h.2.2.2.2.1 gL_law_X3_time rfl rfl rfl (by decide +kernel) ⟨(Nat.le_of_ble_eq_true rfl), (Nat.le_of_ble_eq_true rfl)⟩) 0 rfl rfl rfl rfl (Nat.le_of_ble_eq_true rfl) ⟨by show k + 0 + 0 ≤ 601024; omega, by show w + 0 + 0 ≤ 7293034; omega⟩ (fun r2 u2 hu2 => ?_)
  obtain ⟨rfl, rfl⟩ := hu2
  refine j_icmp_eq (tgt := 1416) h dL_law_800 (by decide) (fun _ => ?_) (fun cE => absurd (Rr.n0 (j := 18) (by decide)) cE)
  exact jj_swap (kk F)
set_option maxHeartbeats 4000000 in
set_option maxRecDepth 100000 in
theorem sg_lanterns {p : Program} {l : Launch} {e : Env} {s : State} {m : MethodId} {args : Array Value} {below : List Frame} {meth : Method} {c : Code} {Q : State → Prop} {D : va_G} {cI cL cR cJ : ClassId} {A : Nat → Prop} {k w : Nat} {ad aM : Nat → Nat} {o sb L i n b q tm : Nat} {xs : Nat → Int32} {φ ψ : St} {C : List Nat} {t : Int32} {F : Nat → Int64} (h : jc p s m args c D vwCl (tyL cI cL cR cJ) A 7 cL_law RL wsL_law) (hk : k + 4 ≤ 601024) (hw : w + 40 ≤ 7293034) (I : IV n b q tm φ C) (Rr : Rl n b q φ ψ) (kk : ∀ (F2 : Nat → Int64), jj p l e room_1 s m args below meth c Q D vwCl (tyL cI cL cR cJ) A 7 (wM cI aM ψ 0 ++ ((o, .inl (cJ, 1, .inr (.inl F2))) :: wX cI cL cR ad C φ)) (k) (w) 1416 [(0, .ref sb), (1, .ref (ad 0)), (2, .ref (aM 0)), (3, .ref o), (4, .int (nI i))] []) : jj p l e room_1 s m args below meth c Q D vwCl (tyL cI cL cR cJ) A 7 (wM cI aM ψ t ++ ((o, .inl (cJ, 1, .inr (.inl F))) :: wX cI cL cR ad C φ)) (k) (w) 805 [(0, .ref sb), (1, .ref (ad 0)), (2, .ref (aM 0)), (3, .ref o), (4, .int (nI i))] [] := by
  obtain ⟨q9, hw9⟩ := wX_recv (cI := cI) (cL := cL) (cR := cR) (ad := ad) (f := φ) (I.x.c (show 0 < 5 by decide))
  rw [gX_0] at hw9
  refine j_aload_nR h dL_law_805 rfl ?_
  refine jj_ws (ws1 := (wM cI aM ψ t ++ [(o, .inl (cJ, 1, .inr (.inl F)))]) ++ wX cI cL cR ad C φ) (by rw [List.append_assoc]; rfl) ?_
  refine j_callVIF (vc := (RX2, TX2, 12)) h (h.2.2.2.2.2.1.sub [0, 1, 2] rfl) dL_law_806 (c_X2_lanterns I.x) (cwV 0 h.2.2.2.2.1 gL_law_X2_lanterns rfl rfl rfl (by decide +kernel) ⟨(Nat.le_of_ble_eq_true rfl), (Nat.le_of_ble_eq_true rfl)⟩) q9 hw9 rfl rfl rfl (Nat.le_of_ble_eq_true rfl) ⟨by show k + 0 ≤ 601024; omega, by show w + 0 ≤ 7293034; omega⟩ (fun r1 u1 hu1 => ?_)
  obtain ⟨rfl, rfl⟩ := hu1
  refine j_aload_nR h dL_law_809 rfl ?_
  refine jj_ws (ws1 := wM cI aM ψ t ++ ((o, .inl (cJ, 1, .inr (.inl F))) :: wX cI cL cR ad C φ)) (by rw [List.append_assoc]; rfl) ?_
  refine jj_swap ?_
  refine j_callVIF (vc := (RX3, TX3, 22)) h (h.2.2.2.2.2.1.sub [0, 1, 2] rfl) dL_law_810 c_X3_lanterns (cwV 0 h.2.2.2.2.1 gL_law_X3_lanterns rfl rfl rfl (by decide +kernel) ⟨(Nat.le_of_ble_eq_true rfl), (Nat.le_of_ble_eq_true rfl)⟩) 0 rfl rfl rfl rfl (Nat.le_of_ble_eq_true rfl) ⟨by show k + 0 + 0 ≤ 601024; omega, by show w + 0 + 0 ≤ 7293034; omega⟩ (fun r2 u2 hu2 => ?_)
  obtain ⟨rfl, rfl⟩ := hu2
  refine j_icmp_eq (tgt := 1416) h dL_law_813 (by decide) (fun _ => ?_) (fun cE => absurd (Rr.n0 (j := 7) (by decide)) cE)
  exact jj_swap (kk F)
set_option maxHeartbeats 4000000 in
set_option maxRecDepth 100000 in
theorem sg_blownOut {p : Program} {l : Launch} {e : Env} {s : State} {m : MethodId} {args : Array Value} {below : List Frame} {meth : Method} {c : Code} {Q : State → Prop} {D : va_G} {cI cL cR cJ : ClassId} {A : Nat → Prop} {k w : Nat} {ad aM : Nat → Nat} {o sb L i n b q tm : Nat} {xs : Nat → Int32} {φ ψ : St} {C : List Nat} {t : Int32} {F : Nat → Int64} (h : jc p s m args c D vwCl (tyL cI cL cR cJ) A 7 cL_law RL wsL_law) (hk : k + 4 ≤ 601024) (hw : w + 40 ≤ 7293034) (I : IV n b q tm φ C) (Rr : Rl n b q φ ψ) (kk : ∀ (F2 : Nat → Int64), jj p l e room_1 s m args below meth c Q D vwCl (tyL cI cL cR cJ) A 7 (wM cI aM ψ 0 ++ ((o, .inl (cJ, 1, .inr (.inl F2))) :: wX cI cL cR ad C φ)) (k) (w) 1416 [(0, .ref sb), (1, .ref (ad 0)), (2, .ref (aM 0)), (3, .ref o), (4, .int (nI i))] []) : jj p l e room_1 s m args below meth c Q D vwCl (tyL cI cL cR cJ) A 7 (wM cI aM ψ t ++ ((o, .inl (cJ, 1, .inr (.inl F))) :: wX cI cL cR ad C φ)) (k) (w) 1098 [(0, .ref sb), (1, .ref (ad 0)), (2, .ref (aM 0)), (3, .ref o), (4, .int (nI i))] [] := by
  obtain ⟨q9, hw9⟩ := wX_recv (cI := cI) (cL := cL) (cR := cR) (ad := ad) (f := φ) (I.x.c (show 0 < 5 by decide))
  rw [gX_0] at hw9
  refine j_aload_nR h dL_law_1098 rfl ?_
  refine jj_ws (ws1 := (wM cI aM ψ t ++ [(o, .inl (cJ, 1, .inr (.inl F)))]) ++ wX cI cL cR ad C φ) (by rw [List.append_assoc]; rfl) ?_
  refine j_callVIF (vc := (RX2, TX2, 12)) h (h.2.2.2.2.2.1.sub [0, 1, 2] rfl) dL_law_1099 (c_X2_blownOut I.x) (cwV 0 h.2.2.2.2.1 gL_law_X2_blownOut rfl rfl rfl (by decide +kernel) ⟨(Nat.le_of_ble_eq_true rfl), (Nat.le_of_ble_eq_true rfl)⟩) q9 hw9 rfl rfl rfl (Nat.le_of_ble_eq_true rfl) ⟨by show k + 0 ≤ 601024; omega, by show w + 0 ≤ 7293034; omega⟩ (fun r1 u1 hu1 => ?_)
  obtain ⟨rfl, rfl⟩ := hu1
  refine j_aload_nR h dL_law_1102 rfl ?_
  refine jj_ws (ws1 := wM cI aM ψ t ++ ((o, .inl (cJ, 1, .inr (.inl F))) :: wX cI cL cR ad C φ)) (by rw [List.append_assoc]; rfl) ?_
  refine jj_swap ?_
  refine j_callVIF (vc := (RX3, TX3, 22)) h (h.2.2.2.2.2.1.sub [0, 1, 2] rfl) dL_law_1103 c_X3_blownOut (cwV 0 h.2.2.2.2.1 gL_law_X3_blownOut rfl rfl rfl (by decide +kernel) ⟨(Nat.le_of_ble_eq_true rfl), (Nat.le_of_ble_eq_true rfl)⟩) 0 rfl rfl rfl rfl (Nat.le_of_ble_eq_true rfl) ⟨by show k + 0 + 0 ≤ 601024; omega, by show w + 0 + 0 ≤ 7293034; omega⟩ (fun r2 u2 hu2 => ?_)
  obtain ⟨rfl, rfl⟩ := hu2
  refine j_icmp_eq (tgt := 1416) h dL_law_1106 (by decide) (fun _ => ?_) (fun cE => absurd (Rr.n0 (j := 19) (by decide)) cE)
  exact jj_swap (kk F)
set_option maxHeartbeats 4000000 in
set_option maxRecDepth 100000 in
theorem sg_ordered {p : Program} {l : Launch} {e : Env} {s : State} {m : MethodId} {args : Array Value} {below : List Frame} {meth : Method} {c : Code} {Q : State → Prop} {D : va_G} {cI cL cR cJ : ClassId} {A : Nat → Prop} {k w : Nat} {ad aM : Nat → Nat} {o sb L i n b q tm : Nat} {xs : Nat → Int32} {φ ψ : St} {C : List Nat} {t : Int32} {F : Nat → Int64} (h : jc p s m args c D vwCl (tyL cI cL cR cJ) A 7 cL_law RL wsL_law) (hk : k + 4 ≤ 601024) (hw : w + 40 ≤ 7293034) (I : IV n b q tm φ C) (Rr : Rl n b q φ ψ) (kk : ∀ (F2 : Nat → Int64), jj p l e room_1 s m args below meth c Q D vwCl (tyL cI cL cR cJ) A 7 (wM cI aM ψ 0 ++ ((o, .inl (cJ, 1, .inr (.inl F2))) :: wX cI cL cR ad C φ)) (k) (w) 1416 [(0, .ref sb), (1, .ref (ad 0)), (2, .ref (aM 0)), (3, .ref o), (4, .int (nI i))] []) : jj p l e room_1 s m args below meth c Q D vwCl (tyL cI cL cR cJ) A 7 (wM cI aM ψ t ++ ((o, .inl (cJ, 1, .inr (.inl F))) :: wX cI cL cR ad C φ)) (k) (w) 1111 [(0, .ref sb), (1, .ref (ad 0)), (2, .ref (aM 0)), (3, .ref o), (4, .int (nI i))] [] := by
  obtain ⟨q9, hw9⟩ := wX_recv (cI := cI) (cL := cL) (cR := cR) (ad := ad) (f := φ) (I.x.c (show 0 < 5 by decide))
  rw [gX_0] at hw9
  refine j_aload_nR h dL_law_1111 rfl ?_
  refine jj_ws (ws1 := (wM cI aM ψ t ++ [(o, .inl (cJ, 1, .inr (.inl F)))]) ++ wX cI cL cR ad C φ) (by rw [List.append_assoc]; rfl) ?_
  refine j_callVIF (vc := (RX2, TX2, 12)) h (h.2.2.2.2.2.1.sub [0, 1, 2] rfl) dL_law_1112 (c_X2_ordered I.x) (cwV 0 h.2.2.2.2.1 gL_law_X2_ordered rfl rfl rfl (by decide +kernel) ⟨(Nat.le_of_ble_eq_true rfl), (Nat.le_of_ble_eq_true rfl)⟩) q9 hw9 rfl rfl rfl (Nat.le_of_ble_eq_true rfl) ⟨by show k + 0 ≤ 601024; omega, by show w + 0 ≤ 7293034; omega⟩ (fun r1 u1 hu1 => ?_)
  obtain ⟨rfl, rfl⟩ := hu1
  refine j_aload_nR h dL_law_1115 rfl ?_
  refine jj_ws (ws1 := wM cI aM ψ t ++ ((o, .inl (cJ, 1, .inr (.inl F))) :: wX cI cL cR ad C φ)) (by rw [List.append_assoc]; rfl) ?_
  refine jj_swap ?_
  refine j_callVIF (vc := (RX3, TX3, 22)) h (h.2.2.2.2.2.1.sub [0, 1, 2] rfl) dL_law_1116 c_X3_ordered (cwV 0 h.2.2.2.2.1 gL_law_X3_ordered rfl rfl rfl (by decide +kernel) ⟨(Nat.le_of_ble_eq_true rfl), (Nat.le_of_ble_eq_true rfl)⟩) 0 rfl rfl rfl rfl (Nat.le_of_ble_eq_true rfl) ⟨by show k + 0 + 0 ≤ 601024; omega, by show w + 0 + 0 ≤ 7293034; omega⟩ (fun r2 u2 hu2 => ?_)
  obtain ⟨rfl, rfl⟩ := hu2
  refine j_icmp_eq (tgt := 1416) h dL_law_1119 (by decide) (fun _ => ?_) (fun cE => absurd (Rr.n0 (j := 20) (by decide)) cE)
  exact jj_swap (kk F)
