theorem tL_ix {f : St} {x : Int32} {n : Nat} (h : tL f x = 0) (hn : f 7 0 = nI n) (h24 : n ≤ 24) : ∃ a, a < n ∧ x = nI a := isL_ix (gl_1.mp h) hn h24
theorem tF_ix {f : St} {x : Int32} {n : Nat} (h : tF f x = 0) (hn : f 14 0 = nI n) (h24 : n ≤ 8) : ∃ a, a < n ∧ x = nI a := isF_ix (gl_1.mp h) hn h24
set_option maxHeartbeats 4000000 in
set_option maxRecDepth 100000 in
theorem sg_stateOf {p : Program} {l : Launch} {e : Env} {s : State} {m : MethodId} {args : Array Value} {below : List Frame} {meth : Method} {c : Code} {Q : State → Prop} {D : va_G} {cI cL cR cJ : ClassId} {A : Nat → Prop} {k w : Nat} {ad aM : Nat → Nat} {o sb L i n b q tm : Nat} {xs : Nat → Int32} {φ ψ : St} {C : List Nat} {t : Int32} {F : Nat → Int64} (h : jc p s m args c D vwCl (tyL cI cL cR cJ) A 7 cL_law RL wsL_law) (hl : l.stackTraces = false) (hnc : NcA s) (hX : va_X sb L xs s s.heap) (hbl : sb < s.heap.size) (hbA : ¬ A sb) (hL : L < 2 ^ 31) (hi : i + 3 < L) (hk : k + 4 ≤ 601024) (hw : w + 40 ≤ 7293034) (I : IV n b q tm φ C) (Rr : Rl n b q φ ψ) (G : RG n b ψ) (htm : tm < 2 ^ 27) (kk : ∀ (n2 b2 q2 tm2 : Nat) (φ2 ψ2 : St) (C2 : List Nat) (ad2 : Nat → Nat) (t2 : Int32) (F2 : Nat → Int64), IV n2 b2 q2 tm2 φ2 C2 → Rl n2 b2 q2 φ2 ψ2 → RG n2 b2 ψ2 → tm2 ≤ tm + 60 → ad 0 = ad2 0 → jj p l e room_1 s m args below meth c Q D vwCl (tyL cI cL cR cJ) A 7 (wM cI aM ψ2 t2 ++ ((o, .inl (cJ, 1, .inr (.inl F2))) :: wX cI cL cR ad2 C2 φ2)) (k + 1) (w + 6) 1416 [(0, .ref sb), (1, .ref (ad 0)), (2, .ref (aM 0)), (3, .ref o), (4, .int (nI i))] []) : jj p l e room_1 s m args below meth c Q D vwCl (tyL cI cL cR cJ) A 7 (wM cI aM ψ t ++ ((o, .inl (cJ, 1, .inr (.inl F))) :: wX cI cL cR ad C φ)) (k) (w) 818 [(0, .ref sb), (1, .ref (ad 0)), (2, .ref (aM 0)), (3, .ref o), (4, .int (nI i))] [] := by
  have hn24 := I.x.1
  have hb8 := I.x.2.1
  have hq8 := I.x.2.2.1
  have hn7 : ψ 7 0 = nI n := (Rr.n0 (j := 7) (by decide)).symm.trans I.x.2.2.2.2.1
  have hb14 : ψ 14 0 = nI b := (Rr.n0 (j := 14) (by decide)).symm.trans I.x.2.2.2.2.2.1
  have hq13 : ψ 13 0 = nI q := (Rr.n0 (j := 13) (by decide)).symm.trans I.x.2.2.2.2.2.2.1
  have h18 : ψ 18 0 = nI tm := (Rr.n0 (j := 18) (by decide)).symm.trans I.tm
  have h5g : ∀ k, k < n → ψ 5 k = -1 ∨ ∃ r, r < 8 ∧ ψ 5 k = nI r := fun k hk => by rw [← Rr.l (j := 5) (by decide) hk]; exact (I.x.h k hk).imp id fun ⟨r, hr, z⟩ => ⟨r, by omega, z⟩
  have hltg : ∀ k, k < n → ψ 3 k = 1 → ∃ r, r < 8 ∧ ψ 5 k = nI r := fun k hk z => by
    rw [← Rr.l (j := 3) (by decide) hk] at z
    obtain ⟨r, hr, e5, -⟩ := hpB_yes I.x.h hb8 hk (I.lp k hk z)
    exact ⟨r, by omega, by rw [← Rr.l (j := 5) (by decide) hk]; exact e5⟩
  have ho12 : ∀ i, i < q → ∃ r, r < 8 ∧ ψ 12 i = nI r := fun i hi => by rw [← Rr.o hi]; exact (I.x.o i hi).imp fun r z => ⟨by omega, z.2⟩
  have hqb : ∀ a, a < b → ψ 10 a = 0 → q < 8 := fun a ha z => q_lt I ha (by rw [Rr.r (j := 10) (by decide) ha]; exact z)
  refine j_aload_nR h dL_law_818 rfl ?_
  refine j_aload_nR h dL_law_819 rfl ?_
  refine j_iload h dL_law_820 rfl ?_
  refine j_iconst (v := 1) h dL_law_822 (by decide) ?_
  refine j_iadd h dL_law_823 ?_
  refine j_sld (a := i + 1) h hX hbl hbA hL (nI_add i 1) (by omega) dL_law_824 ?_
  refine j_aload_nR h dL_law_825 rfl ?_
  refine j_callLF (wr := wM cI aM ψ t) (wc := (o, .inl (cJ, 1, .inr (.inl F))) :: wX cI cL cR ad C φ) h hnc dL_law_826 (c_L_stateOf hl I.x) (vx_cwSW 3 h.2.2.2.2.1 gL_law_L_stateOf rfl rfl rfl (by decide +kernel) ⟨(Nat.le_of_ble_eq_true rfl), (Nat.le_of_ble_eq_true rfl)⟩) rfl rfl (Nat.le_of_ble_eq_true rfl) ⟨by show k + 1 ≤ 601024; omega, by show w + 6 ≤ 7293034; omega⟩ (fun r u hu => ?_)
  refine j_istore h dL_law_829 (by decide) ?_
  refine jj_swap ?_
  refine j_aload_nR h dL_law_831 rfl ?_
  refine j_aload_nR h dL_law_832 rfl ?_
  refine j_iload h dL_law_833 rfl ?_
  refine j_iconst (v := 1) h dL_law_835 (by decide) ?_
  refine j_iadd h dL_law_836 ?_
  refine j_sld (a := i + 1) h hX hbl hbA hL (nI_add i 1) (by omega) dL_law_837 ?_
  refine j_callVIF (vc := (RX3, TX3, 22)) (wr := u) (wc := wM cI aM ψ t) h (h.2.2.2.2.2.1.sub [0, 1, 2] rfl) dL_law_838 (c_X3_stateOf hn7 I.x.1) (cwV 1 h.2.2.2.2.1 gL_law_X3_stateOf rfl rfl rfl (by decide +kernel) ⟨(Nat.le_of_ble_eq_true rfl), (Nat.le_of_ble_eq_true rfl)⟩) 0 rfl rfl rfl rfl (Nat.le_of_ble_eq_true rfl) ⟨by show k + 1 + 0 ≤ 601024; omega, by show w + 6 + 0 ≤ 7293034; omega⟩ (fun rM uM hM => ?_)
  refine j_istore h dL_law_841 (by decide) ?_
  have hTT : tL φ (xs (i + 1)) = tL ψ (xs (i + 1)) := R_tL Rr _
  obtain ⟨rfl, hMv⟩ := hM
  rcases hu with ⟨hr0, hrT, rfl⟩ | ⟨rfl, v, u0, hp, rfl⟩
  · -- thrown
    rw [hTT] at hrT
    subst hrT
    refine j_aload_nR h dL_law_843 rfl ?_
    refine j_callVIF (vc := (RX3, TX3, 22)) h (h.2.2.2.2.2.1.sub [0, 1, 2] rfl) dL_law_844 c_X3_thrown (cwV 0 h.2.2.2.2.1 gL_law_X3_thrown rfl rfl rfl (by decide +kernel) ⟨(Nat.le_of_ble_eq_true rfl), (Nat.le_of_ble_eq_true rfl)⟩) 0 rfl rfl rfl rfl (Nat.le_of_ble_eq_true rfl) ⟨by show k + 1 + 0 + 0 ≤ 601024; omega, by show w + 6 + 0 + 0 ≤ 7293034; omega⟩ (fun rT uT hT9 => ?_)
    obtain ⟨rfl, rfl⟩ := hT9
    refine j_iload h dL_law_847 rfl ?_
    refine j_icmp_eq (tgt := 854) h dL_law_849 (by decide) (fun cE => ?_) (fun cE => absurd rfl cE)
    refine j_iload h dL_law_854 rfl ?_
    refine j_if_ne (tgt := 871) h dL_law_856 (by decide) (fun cN => ?_) (fun cN => absurd cN hr0)
    refine j_goto (tgt := 1416) h dL_law_871 (by decide) ?_
    refine jj_to (l1 := [(0, .ref sb), (1, .ref (ad 0)), (2, .ref (aM 0)), (3, .ref o), (4, .int (nI i))]) ?_ ⟨rfl, rfl, rfl, rfl, rfl, trivial⟩
    exact jj_swap (kk n b q tm φ ψ C ad _ F I Rr G (by omega) rfl)
  · -- done
    obtain ⟨hT0, hv9, rfl⟩ := hp
    have hT1 : tL ψ (xs (i + 1)) = 0 := hTT.symm.trans hT0
    have hMv := hMv hT1
    have hvv : rM = v := by
      rw [hMv, hv9]
      obtain ⟨a, ha, ea⟩ := tL_ix hT0 I.x.2.2.2.2.1 I.x.1
      rw [ea, nI_clamp (by omega)]
      exact (Rr.l (j := 3) (by decide) ha).symm
    subst hvv
    rw [hT1]
    refine j_aload_nR h dL_law_843 rfl ?_
    refine j_callVIF (vc := (RX3, TX3, 22)) h (h.2.2.2.2.2.1.sub [0, 1, 2] rfl) dL_law_844 c_X3_thrown (cwV 0 h.2.2.2.2.1 gL_law_X3_thrown rfl rfl rfl (by decide +kernel) ⟨(Nat.le_of_ble_eq_true rfl), (Nat.le_of_ble_eq_true rfl)⟩) 0 rfl rfl rfl rfl (Nat.le_of_ble_eq_true rfl) ⟨by show k + 1 + 0 + 0 ≤ 601024; omega, by show w + 6 + 0 + 0 ≤ 7293034; omega⟩ (fun rT uT hT9 => ?_)
    obtain ⟨rfl, rfl⟩ := hT9
    refine j_iload h dL_law_847 rfl ?_
    refine j_icmp_eq (tgt := 854) h dL_law_849 (by decide) (fun cE => ?_) (fun cE => absurd rfl cE)
    refine j_iload h dL_law_854 rfl ?_
    refine j_if_ne (tgt := 871) h dL_law_856 (by decide) (fun cN => absurd rfl cN) (fun cN => ?_)
    refine j_aload_nR h dL_law_859 rfl ?_
    refine j_iconst (v := 0) h dL_law_860 (by decide) ?_
    refine j_lald0 (wr := wX cI cL cR ad C φ ++ wM cI aM ψ 0) h 3 rfl dL_law_861 ?_
    refine j_iload h dL_law_862 rfl ?_
    refine j_i2l h dL_law_864 ?_
    refine j_lcmp h dL_law_865 ?_
    rw [show vp_updL F 0 (Int32.toInt64 _) 0 = _ from pk_uLs, cmp_eq]
    refine j_if_eq (tgt := 871) h dL_law_866 (by decide) (fun cZ => ?_) (fun cZ => absurd rfl cZ)
    refine j_goto (tgt := 1416) h dL_law_871 (by decide) ?_
    refine jj_to (l1 := [(0, .ref sb), (1, .ref (ad 0)), (2, .ref (aM 0)), (3, .ref o), (4, .int (nI i))]) ?_ ⟨rfl, rfl, rfl, rfl, rfl, trivial⟩
    exact jj_swap (kk n b q tm φ ψ C ad 0 _ I Rr G (by omega) rfl)
