section JL2
variable {p : Program} {l : Launch} {e : Env} {R : Room} {s : State} {m : MethodId} {args : Array Value} {below : List Frame} {meth : Method} {c : Code} {Q : State → Prop} {D : va_G} {cl : List vw_C} {tys : List (ClassId × FieldType)} {A : Nat → Prop} {n : Nat} {cc : ByteArray} {own : String} {Ts : List Cond} {ws : va_W} {k w pc : Nat} {lv : List (Nat × Value)} {st : List Value}
theorem j_mmin (h : jc p s m args c D cl tys A n cc own Ts) {index : Nat} {x y : Int32} (hd : decode cc pc = .ok (.invokestatic index, 3)) (hlink : Cond.methodLink own index Lib.Math.min.name ∈ Ts) (hstat : Cond.static Lib.Math.min.name ∈ Ts) (hini : Cond.initialized "java/lang/Math" ∈ Ts) (hcode : Cond.code Lib.Math.min.name Lib.Math.min.code 2 (some .int) ∈ Ts) (hfr : 1 ≤ R.frames) (hlo : (st.map fun v => v.category).sum + 13 ≤ R.locals) (hk : k ≤ R.cells) (hw : w ≤ R.slots) (kk : jj p l e R s m args below meth c Q D cl tys A n ws k w (pc + 3) lv (.int (if y < x then y else x) :: st)) : jj p l e R s m args below meth c Q D cl tys A n ws k w pc lv (.int y :: .int x :: st) := by
  intro H locs ls hP hD hS hl
  exact va_mmin h.1 h.2.1 (h.2.2.1.trans hl.1.symm) h.2.2.2.1 (h.2.2.2.2.1 _ hlink) (h.2.2.2.2.1 _ hstat) (h.2.2.2.2.1 _ hini) (h.2.2.2.2.1 _ hcode) hfr hlo hk hw hd (kk H locs ls hP hD hS hl)
theorem j_mmax (h : jc p s m args c D cl tys A n cc own Ts) {index : Nat} {x y : Int32} (hd : decode cc pc = .ok (.invokestatic index, 3)) (hlink : Cond.methodLink own index Lib.Math.max.name ∈ Ts) (hstat : Cond.static Lib.Math.max.name ∈ Ts) (hini : Cond.initialized "java/lang/Math" ∈ Ts) (hcode : Cond.code Lib.Math.max.name Lib.Math.max.code 2 (some .int) ∈ Ts) (hfr : 1 ≤ R.frames) (hlo : (st.map fun v => v.category).sum + 13 ≤ R.locals) (hk : k ≤ R.cells) (hw : w ≤ R.slots) (kk : jj p l e R s m args below meth c Q D cl tys A n ws k w (pc + 3) lv (.int (if x < y then y else x) :: st)) : jj p l e R s m args below meth c Q D cl tys A n ws k w pc lv (.int y :: .int x :: st) := by
  intro H locs ls hP hD hS hl
  exact va_mmax h.1 h.2.1 (h.2.2.1.trans hl.1.symm) h.2.2.2.1 (h.2.2.2.2.1 _ hlink) (h.2.2.2.2.1 _ hstat) (h.2.2.2.2.1 _ hini) (h.2.2.2.2.1 _ hcode) hfr hlo hk hw hd (kk H locs ls hP hD hS hl)
theorem j_callNI (h : jc p s m args c D cl tys A n cc own Ts) {host : String} {index maxL mc ms nn : Nat} {y : MethodName} {bytes : ByteArray} {ret : Option FieldType} {wd : List Cond} {rm : Room} {As rest : List Value} {post : Int32 → va_W → Prop} (hd : decode cc pc = .ok (.invokestatic index, 3)) (hM : ctI l D cl tys y wd rm As ws post mc ms) (cw : va_CN R s args own index y host bytes maxL ret wd rm mc ms nn ∧ (Cond.static y).before args s = true ∧ True) (hn : As.length = nn) (hst : st = As.reverse ++ rest) (hcat : (rest.map fun v => v.category).sum ≤ 8) (hf : k + mc ≤ R.cells ∧ w + ms ≤ R.slots) (kk : ∀ (r : Int32) (u : va_W), post r u → jj p l e R s m args below meth c Q D cl tys A n u (k + mc) (w + ms) (pc + 3) lv (.int r :: rest)) : jj p l e R s m args below meth c Q D cl tys A n ws k w pc lv st := by
  intro H locs ls hP hD hS hl
  have hA := jA hD hS h.2.2.2.2.2.2.1
  obtain ⟨B, hB0, hAB, hxe⟩ := h.2.2.2.2.2.2.2
  refine va_calli (va_runSN (As := As) (rest := rest) ⟨h.1, h.2.1, h.2.2.1, h.2.2.2.1, h.2.2.2.2.1⟩ (hM B H.size) cw ⟨ctP_blind, jpre h.2.2.2.2.2.1 hP hD hS hB0 hAB hxe⟩ rfl hn hl.1 hst (lv_room hcat) hd hf) hS (fun q _ z => hA q z) hA (fun r u t H1 locs1 ht hvm hw hB hz1 hk1 hS1 => ?_)
  obtain ⟨hP1, hK1, hD1⟩ := hB
  rw [ht] at hP1
  exact kk r u hw H1 locs1 ls hP1 (hD1.weaken (fun _ q _ z => hA q.1 z)) hS1 hl
theorem j_acmp_neNR (h : jc p s m args c D cl tys A n cc own Ts) {b : Nat} {off : Int} {tgt : Nat} (hd : decode cc pc = .ok (.if_acmp .ne off, 3)) (ht : (pc : Int) + off = (tgt : Int)) (kk : jj p l e R s m args below meth c Q D cl tys A n ws k w tgt lv st) : jj p l e R s m args below meth c Q D cl tys A n ws k w pc lv (.ref b :: .null :: st) := by
  intro H locs ls hP hD hS hl
  exact lv_acmp_ne (rx := none) (ry := some b) h.1 h.2.1 hd ht (fun _ => kk H locs ls hP hD hS hl) (fun z => by cases z)
theorem j_acmp_eqNR (h : jc p s m args c D cl tys A n cc own Ts) {b : Nat} {off : Int} (tgt : Nat) (hd : decode cc pc = .ok (.if_acmp .eq off, 3)) (ht : (pc : Int) + off = (tgt : Int)) (kk : jj p l e R s m args below meth c Q D cl tys A n ws k w (pc + 3) lv st) : jj p l e R s m args below meth c Q D cl tys A n ws k w pc lv (.ref b :: .null :: st) := by
  intro H locs ls hP hD hS hl
  exact lv_acmp_eq (rx := none) (ry := some b) h.1 h.2.1 hd ht (fun z => by cases z) (fun _ => kk H locs ls hP hD hS hl)
end JL2
