theorem am_rg {c : Prop} [Decidable c] {α : Type} {A : Option α} {r : α} (h : (if c then none else A) = some r) : ¬ c ∧ A = some r := by
  by_cases hc : c
  · rw [if_pos hc] at h
    cases h
  · rw [if_neg hc] at h
    exact ⟨hc, h⟩
section
variable {M : am_M} {g : am_g} {kn : Nat × Nat} {pc pc' : Nat} {ls : List (Option Value)} {st : List Value} {ws ws' : am_W}
theorem am_aret {d mc ms q : Nat} {r : Option Value} {wF : am_W} {cn : String} (dd : decode M.2.1 pc = .ok (.areturn, 1)) (hret : M.2.2.2 = some (.object cn)) (hr : r = some (.ref q)) (hw : ws = wF) : am_G M (none, d, mc, ms, r, wF) (mc, ms) pc ls [.ref q] ws := by
  subst hr; subst hw
  intro X p l e s m args below meth c E H locs lsA hP hS hk hL
  exact W.aret (hlocks := E.2.2.2.2.2.2.1) E.1 E.2.1 (E.2.2.2.1.trans hret) (Or.inl ⟨_, rfl⟩) (Or.inr ⟨_, rfl⟩) (fun t ht hW => ⟨⟨rfl, by rw [ht]; exact hP⟩, hS.F ht⟩) hS.2.2 dd
theorem am_lcmp {x y : Int64} (d : decode M.2.1 pc = .ok (.lcmp, 1)) (hp : pc + 1 = pc') (k : am_G M g kn pc' ls (.int (lg_cmp x y) :: st) ws) : am_G M g kn pc ls (.long y :: .long x :: st) ws := by
  subst hp
  intro X p l e s m args below meth c E H locs lsA hP hS hk hL
  exact W.lcmp E.1 E.2.1 d (k X p l e s m args below meth c E H locs lsA hP hS hk hL)
end
/-! ===== super.m(..), the method being found further up; and a kind's own method behind an inherited name ===== -/
def am_csu (own : String) (idx : Nat) (x : MethodName) (M' : am_M) (n : Nat) : Prop := x.name ≠ "<init>" ∧ M'.1 = ⟨M'.1.cls, x.name, x.desc⟩ ∧ (parseMethodDescriptor M'.1.desc).map (fun d => d.parameters.length) = some n ∧ Cond.methodLink own idx x ∈ am_WS ∧ Cond.sameMethod x.cls M'.1.cls x.name x.desc ∈ am_WS ∧ Cond.superclass own x.cls ∈ am_WS ∧ Cond.instanceMethod M'.1 ∈ am_WS ∧ Cond.initialized M'.1.cls ∈ am_WS ∧ am_co M' ∈ am_WS ∧ (x.cls = M'.1.cls ∨ Cond.superclass x.cls M'.1.cls ∈ am_WS)
theorem am_subSelf (vm : Vm) (c : ClassId) : vm.isSubclass c c = true := by simp [Vm.isSubclass, Vm.isSubclassAux]
theorem am_subUp {vm : Vm} {c q : ClassId} {k : Class} (hk : vm.classes[c]? = some k) (hs : k.super = some q) : vm.isSubclass c q = true := by
  have h1 : c < vm.classes.size := (Array.getElem?_eq_some_iff.mp hk).1
  cases hj : vm.classes.size with
  | zero =>
    rw [hj] at h1
    exact absurd h1 (Nat.not_lt_zero _)
  | succ j => simp [Vm.isSubclass, Vm.isSubclassAux, hk, hs, hj]
section
variable {M : am_M} {g : am_g} {kn kn' : Nat × Nat} {pc pc' : Nat} {ls : List (Option Value)} {st0 st' : List Value} {ws w1 : am_W}
theorem am_callSU {idx n d' mc' ms' q ci : Nat} {fs : List Value} {q0 : vw_C} (rest as : List Value) {x : MethodName} {M' : am_M} {r : Option Value} (d : decode M.2.1 pc = .ok (.invokespecial idx, 3)) (hs : am_csu M.1.cls idx x M' n) (hT : am_T M' d' mc' ms' (.ref q :: as) ws r w1) (hn : as.length = n) (hst : as.reverse ++ (.ref q :: rest) = st0) (hc : ws[q]? = some (.inr (.inr (ci, fs)))) (hcl : vwCl[ci]? = some q0) (hcat : (rest.map fun v => v.category).sum ≤ 8)
    (hroom : (d' + 1 ≤ (am_R g).frames ∧ 8 + (M'.2.2.1 + 11) + 60 * d' ≤ (am_R g).locals) ∧ kn.1 + mc' ≤ (am_R g).cells ∧ kn.2 + ms' ≤ (am_R g).slots) (hkn : (kn.1 + mc', kn.2 + ms') = kn') (hp : pc + 3 = pc') (k : am_G M g kn' pc' ls (r.toList ++ rest) w1) : am_G M g kn pc ls st0 ws := by
  subst hp; subst hst; subst hkn
  intro X p l e s m args below meth c E H locs lsA hP hS hk hL T hT0 X0
  have hz := am_size hk.1 E.2.2.2.2.2.2.2.2.2.2.1 hP hS hT0 X0
  obtain ⟨hno, hyx, hd, h1, h2, h3, h4, h5, h6, h7⟩ := hs
  have hts := E.2.2.2.2.2.1
  have hK0 := E.2.2.2.2.2.2.2.2.1
  have e0 : am_cv X (.ref q) = .ref (X.1 + q) := by rw [← am_al_lt (X := X) (am_q hk.2 hc)]; rfl
  have e1 : (as.reverse ++ (.ref q :: rest)).map (am_cv X) = (as.map (am_cv X)).reverse ++ .ref (X.1 + q) :: rest.map (am_cv X) := by rw [List.map_append, List.map_reverse, List.map_cons, e0]
  rw [e1]
  have hrc := va_recv hK0.1 hP hcl (am_wr_get (X := X) hc)
  obtain ⟨hfc, kB, hkB, -⟩ := (hK0.1.1 ci q0 hcl).2
  refine am_call (X := X) (r := r) (wF := w1) (a := (Value.ref (X.1 + q) :: as.map (am_cv X)).toArray) (rest := rest.map (am_cv X)) (mc := mc') (ms := ms') ?_ hS (fun H1 locs1 hP1 hS1 => ?_) T hT0 X0
  · have hall := am_wsAll h6
    have hK : Back l (am_R g) p e below s args M'.1 3 8 (PreOf (am_R g) mc' ms' (va_Pc ((.ref q :: as).map (am_cv X)) (am_Pp X ws))) (PostOf (am_P X r w1) mc' ms' (am_F X)) := back_of (bytes := M'.2.1) (maxL := M'.2.2.1) (ret := M'.2.2.2) (hT.2 l X) (am_blind X _ ws) rfl rfl hroom.1.1 hroom.1.2 (pay_in hts (am_gi hall)) List.mem_cons_self (fun a' U hW => word_at hW (Or.inl (by first | rfl | simp [Cond.onTables, Cond.keeps, Cond.steady])) (hts _ h5))
    obtain ⟨mk, methM, hnamed, hmethM, hstM, habM⟩ := Cond.instanceMethod_spec (hts _ h4)
    obtain ⟨methM', cM, hmethM', -, -, -, -, -, -, hsigM⟩ := Cond.code_spec hnamed (hts _ h6)
    cases hmethM.symm.trans hmethM'
    obtain ⟨ps, dk, kp, hps, hdk, hkp, hsuper, -, -, hnid⟩ := Cond.superclass_spec E.2.2.2.2.1 (hts _ h3)
    have hn1 : s.methodNamed? ⟨M'.1.cls, x.name, x.desc⟩ = some mk := by rw [← hyx]; exact hnamed
    have hfm := findClass_of_methodNamed hnamed
    have hsub : s.vm.isSubclass ps mk.cls = true := by
      rcases h7 with h7 | h7
      · rw [h7] at hps
        rw [Option.some.inj (hps.symm.trans hfm)]
        exact am_subSelf _ _
      · obtain ⟨ps2, dk2, kp2, hps2, hdk2, -, hsup2, -⟩ := Cond.superclass_spec hps (hts _ h7)
        rw [Option.some.inj (hfm.symm.trans hps2)]
        exact am_subUp hdk2 hsup2
    intro T2 hT2 X2
    obtain ⟨cellB, hcB, hoB, hclB⟩ := hrc
    rw [Option.some.inj (hfc.symm.trans hclB)] at hkB
    have hlen : (as.map (am_cv X)).length = methM.sig.parameters.length := by
      rw [hsigM] at hd
      rw [List.length_map, hn]
      exact (Option.some.inj hd).symm
    obtain ⟨vm₁, X₁, hstep₁⟩ := X2.invokespecialUp E.1 E.2.2.2.2.1 (hts _ h1) (hts _ h2) hn1 hmethM hstM habM hno hdk hnid hps hsuper hsub (a := X.1 + q) (cell := cellB) (by rw [hT2]; exact hcB)
      (fun z h => by rw [h] at hoB; cases hoB) hkB (g := F0 m pc lsA ((as.map (am_cv X)).reverse ++ .ref (X.1 + q) :: rest.map (am_cv X))) rfl (argsL := as.map (am_cv X)) (rest := rest.map (am_cv X)) hlen rfl (by rw [E.2.1]; exact d)
    obtain ⟨v, ⟨U', l2, c2, s2⟩, X', ⟨g', mk2, t, L, e1, e2, hq, q1, hL2, q2, q3⟩, hsteps⟩ := hK m meth c ⟨T2.setVm vm₁, locs, kn.1, kn.2⟩ { F0 m pc lsA ((as.map (am_cv X)).reverse ++ .ref (X.1 + q) :: rest.map (am_cv X)) with stack := rest.map (am_cv X) } (.invokespecial idx) mk (Value.ref (X.1 + q) :: as.map (am_cv X)).toArray X₁ rfl (hL.2.1.trans E.2.2.1.symm) (by rw [E.2.1]; exact d) (lv_room (by rw [am_cats]; exact hcat)) (X₁.named hnamed)
      ⟨hroom.2.1, hroom.2.2, by rw [List.map_cons, e0], am_preU hK0 E.2.2.2.2.2.2.2.2.2.1 hP hS ⟨hz, hk.2⟩ hT2 X₁.warmed⟩
    dsimp only [Pt.U, Pt.locs, Pt.cells, Pt.slots] at X' e1 e2 q1 q2 q3 hsteps
    subst q1; subst q2; subst q3
    exact ⟨v, (T2.setVm vm₁).calling g' mk2 (Value.ref (X.1 + q) :: as.map (am_cv X)).toArray, t, U', L, hT2, X', hL2, e1, e2, hq, fun target h => hstep₁ _ (by rw [doInvoke_state]; exact hsteps.trans h)⟩
  · rw [am_rl]
    exact k X p l e s m args below meth c E H1 locs1 lsA hP1 hS1 ⟨by rw [hT.1.1]; have := hk.1; show s.heap.size + (kn.1 + mc') = _; omega, by have h5 := hT.1; have := hk.2; omega⟩ hL
/-- a call by an inherited name: the receiver's kind C, the method that it selects -/
def am_cu (own : String) (idx : Nat) (C owner : String) (x : MethodName) (M' : am_M) (n : Nat) : Prop := (owner ≠ "java/lang/invoke/MethodHandle" ∧ owner ≠ "java/lang/invoke/VarHandle") ∧ (parseMethodDescriptor x.desc).map (fun d => d.parameters.length) = some n ∧ Cond.methodLink own idx x ∈ am_WS ∧ Cond.sameMethod x.cls owner x.name x.desc ∈ am_WS ∧ Cond.selects C x M'.1 ∈ am_WS ∧ Cond.instanceMethod M'.1 ∈ am_WS ∧ Cond.initialized M'.1.cls ∈ am_WS ∧ am_co M' ∈ am_WS ∧ Cond.instanceMethod ⟨owner, x.name, x.desc⟩ ∈ am_WS ∧ ∃ b0 m0 r0, Cond.code ⟨owner, x.name, x.desc⟩ b0 m0 r0 ∈ am_WS
theorem am_callU {idx n d' mc' ms' q ci : Nat} {fs : List Value} {q0 : vw_C} (rest as : List Value) {owner : String} {x : MethodName} {M' : am_M} {r : Option Value} (d : decode M.2.1 pc = .ok (.invokevirtual idx, 3)) (hs : am_cu M.1.cls idx q0.1 owner x M' n) (hT : am_T M' d' mc' ms' (.ref q :: as) ws r w1) (hn : as.length = n) (hst : as.reverse ++ (.ref q :: rest) = st0) (hc : ws[q]? = some (.inr (.inr (ci, fs)))) (hcl : vwCl[ci]? = some q0) (hcat : (rest.map fun v => v.category).sum ≤ 8)
    (hroom : (d' + 1 ≤ (am_R g).frames ∧ 8 + (M'.2.2.1 + 11) + 60 * d' ≤ (am_R g).locals) ∧ kn.1 + mc' ≤ (am_R g).cells ∧ kn.2 + ms' ≤ (am_R g).slots) (hkn : (kn.1 + mc', kn.2 + ms') = kn') (hp : pc + 3 = pc') (k : am_G M g kn' pc' ls (r.toList ++ rest) w1) : am_G M g kn pc ls st0 ws := by
  subst hp; subst hst; subst hkn
  intro X p l e s m args below meth c E H locs lsA hP hS hk hL T hT0 X0
  have hz := am_size hk.1 E.2.2.2.2.2.2.2.2.2.2.1 hP hS hT0 X0
  obtain ⟨ho, hd, h1, h2, h3, h4, h5, h6, h7, b0, m0, r0, h8⟩ := hs
  have hts := E.2.2.2.2.2.1
  have e0 : am_cv X (.ref q) = .ref (X.1 + q) := by rw [← am_al_lt (X := X) (am_q hk.2 hc)]; rfl
  have e1 : (as.reverse ++ (.ref q :: rest)).map (am_cv X) = (as.map (am_cv X)).reverse ++ .ref (X.1 + q) :: rest.map (am_cv X) := by rw [List.map_append, List.map_reverse, List.map_cons, e0]
  rw [e1]
  have hrc := va_recv E.2.2.2.2.2.2.2.2.1.1 hP hcl (am_wr_get (X := X) hc)
  refine am_call (X := X) (a := (Value.ref (X.1 + q) :: as.map (am_cv X)).toArray) (va_runU (C := q0.1) (owner := owner) (x := x) (b := X.1 + q) (As := as.map (am_cv X)) (rest := rest.map (am_cv X)) ⟨E.1, E.2.1, E.2.2.1, E.2.2.2.2.1, E.2.2.2.2.2.1⟩ (hT.2 l X)
    (va_cwO n hts (am_gi (am_cs1 h1 (am_cs1 h2 (am_cs1 h7 (am_cs1 h3 (am_cs1 h4 (am_cs1 h5 (am_wsAll h6)))))))) rfl rfl rfl h8 ⟨ho.1, ho.2, hd⟩ hroom.1) ⟨am_blind X _ ws, hrc, fun U hU hW => ⟨by rw [List.map_cons, e0], am_preU E.2.2.2.2.2.2.2.2.1 E.2.2.2.2.2.2.2.2.2.1 hP hS ⟨hz, hk.2⟩ hU hW⟩⟩ rfl (by rw [List.length_map]; exact hn) hL.2.1 rfl (lv_room (by rw [am_cats]; exact hcat)) d hroom.2) hS (fun H1 locs1 hP1 hS1 => ?_) T hT0 X0
  rw [am_rl]
  exact k X p l e s m args below meth c E H1 locs1 lsA hP1 hS1 ⟨by rw [hT.1.1]; have := hk.1; show s.heap.size + (kn.1 + mc') = _; omega, by have h5 := hT.1; have := hk.2; omega⟩ hL
end
/-! instanceof -/
section
variable {M : am_M} {g : am_g} {kn : Nat × Nat} {pc pc' : Nat} {ls : List (Option Value)} {st : List Value} {ws : am_W}
theorem am_inst {idx q ci : Nat} {fs : List Value} {q0 : vw_C} {nm : String} {v : Int32} (d : decode M.2.1 pc = .ok (.instanceof idx, 3)) (hw : Cond.classLink M.1.cls idx nm ∈ am_WS) (hc : ws[q]? = some (.inr (.inr (ci, fs)))) (hcl : vwCl[ci]? = some q0) (hv : (v = 1 ∧ q0.1 = nm) ∨ (v = 1 ∧ Cond.castable q0.1 nm ∈ am_nw) ∨ (v = 0 ∧ (q0.1, nm) ∈ am_nc)) (hp : pc + 3 = pc') (k : am_G M g kn pc' ls (.int v :: st) ws) : am_G M g kn pc ls (.ref q :: st) ws := by
  subst hp
  intro X p l e s m args below meth c E H locs lsA hP hS hk hL
  have hK0 := E.2.2.2.2.2.2.2.2.1
  have e1 : (Value.ref q :: st).map (am_cv X) = .ref (X.1 + q) :: st.map (am_cv X) := by
    rw [List.map_cons, ← am_al_lt (X := X) (am_q hk.2 hc)]
    rfl
  rw [e1]
  have hrc := va_recv hK0.1 hP hcl (am_wr_get (X := X) hc)
  have hw2 := E.2.2.2.2.2.1 _ hw
  have k1 := k X p l e s m args below meth c E H locs lsA hP hS hk hL
  rcases hv with ⟨rfl, h⟩ | ⟨rfl, h⟩ | ⟨rfl, h⟩
  · subst h
    exact va_instS E.1 E.2.1 E.2.2.2.2.1 hw2 (hK0.1.1 ci q0 hcl).2 hrc d k1
  · exact va_instY E.1 E.2.1 E.2.2.2.2.1 hw2 (hK0.2.1 _ h) hrc d k1
  · exact va_instNo E.1 E.2.1 E.2.2.2.2.1 hw2 (hK0.2.2.1 _ h) hrc d k1
end
/-! System.arraycopy of a row of ints upon itself -/
def am_cps (own : String) (idx : Nat) : Prop := Cond.methodLink own idx arraycopyName ∈ am_WS ∧ Cond.native arraycopyName ∈ am_WS ∧ Cond.static arraycopyName ∈ am_WS ∧ Cond.initialized "java/lang/System" ∈ am_WS
section
variable {M : am_M} {g : am_g} {kn : Nat × Nat} {pc pc' : Nat} {ls : List (Option Value)} {st : List Value} {ws ws' : am_W}
theorem am_acopy {idx q N : Nat} {f : Nat → Int32} {sp dp n : Int32} (d : decode M.2.1 pc = .ok (.invokestatic idx, 3)) (hs : am_cps M.1.cls idx) (hc : ws[q]? = some (.inl (N, f))) (hg : ¬ (sp < 0 ∨ dp < 0 ∨ n < 0 ∨ N < sp.toNatClampNeg + n.toNatClampNeg ∨ N < dp.toNatClampNeg + n.toNatClampNeg)) (hcat : (st.map fun v => v.category).sum ≤ 8) (hf : 1 ≤ (am_R g).frames) (hl : 8 + (nativeFrameWords "java/lang/System" "arraycopy" 5 + 11) ≤ (am_R g).locals)
    (hw : ws.set q (.inl (N, va_cpy f f sp.toNatClampNeg dp.toNatClampNeg n.toNatClampNeg)) = ws') (hp : pc + 3 = pc') (k : am_G M g kn pc' ls st ws') : am_G M g kn pc ls (.int n :: .int dp :: .ref q :: .int sp :: .ref q :: st) ws := by
  subst hp; subst hw
  intro X p l e s m args below meth c E H locs lsA hP hS hk hL
  have e1 : (Value.int n :: Value.int dp :: Value.ref q :: Value.int sp :: Value.ref q :: st).map (am_cv X) = .int n :: .int dp :: .ref (X.1 + q) :: .int sp :: .ref (X.1 + q) :: st.map (am_cv X) := by
    simp only [List.map_cons]
    rw [← am_al_lt (X := X) (am_q hk.2 hc)]
    rfl
  rw [e1]
  obtain ⟨h1, h2, h3, h4⟩ := hs
  have hts := E.2.2.2.2.2.1
  have hq := am_wr_get (X := X) hc
  simp only [not_or] at hg
  obtain ⟨g1, g2, g3, g4, g5⟩ := hg
  refine va_copyi E.1 E.2.1 (E.2.2.1.trans hL.2.1.symm) E.2.2.2.2.1 (hts _ h1) (hts _ h2) (hts _ h3) (hts _ h4) E.2.2.2.2.2.2.2.2.1.1 hP (am_D X ws) hS q q 0 0 hq hq rfl rfl rfl g1 g2 g3 (Nat.not_lt.mp g4) (Nat.not_lt.mp g5) (fun _ _ => rfl) hf (by rw [am_cats]; omega) d (fun H1 locs1 hP1 _ hS1 => ?_)
  have e2 := am_wr_set X ws q (.inl (N, va_cpy f f sp.toNatClampNeg dp.toNatClampNeg n.toNatClampNeg))
  exact k X p l e s m args below meth c E H1 locs1 lsA (e2 ▸ hP1) hS1 (by rw [List.length_set]; exact hk) hL
end
theorem am_acopyL : Nat.ble (8 + (nativeFrameWords "java/lang/System" "arraycopy" 5 + 11)) 60 = true := by decide +kernel
theorem am_rbh {d' ml dd : Nat} (h : d' + 1 ≤ dd) (hm : ml ≤ 41) : am_rb d' ml dd = true := by
  simp only [am_rb, Bool.and_eq_true, Nat.ble_eq]
  omega
theorem am_cSU {M : am_M} {dd : Nat} {r0 : Option Value} {wF : am_W} {pc pc' : Nat} {ls : List (Option Value)} {st0 st' : List Value} {ws w1 : am_W} {idx n d' q ci : Nat} {fs : List Value} {q0 : vw_C} (rest as : List Value) {x : MethodName} {M' : am_M} {r : Option Value} (d : decode M.2.1 pc = .ok (.invokespecial idx, 3)) (hs : am_csu M.1.cls idx x M' n) (hT : am_T M' d' 0 0 (.ref q :: as) ws r w1) (hn : as.length = n) (hst : as.reverse ++ (.ref q :: rest) = st0) (hst' : r.toList ++ rest = st') (hc : ws[q]? = some (.inr (.inr (ci, fs)))) (hcl : vwCl[ci]? = some q0) (hcat : Nat.ble (rest.map fun v => v.category).sum 8 = true)
    (hroom : am_rb d' M'.2.2.1 dd = true) (hp : pc + 3 = pc') (k : am_G M (none, dd, 0, 0, r0, wF) (0, 0) pc' ls st' w1) : am_G M (none, dd, 0, 0, r0, wF) (0, 0) pc ls st0 ws := by
  subst hst'
  exact am_callSU rest as d hs hT hn hst hc hcl (Nat.le_of_ble_eq_true hcat) ⟨am_rb_s hroom, Nat.le_refl 0, Nat.le_refl 0⟩ rfl hp k
