/-! ===== calls ===== -/
theorem am_gi {l1 : List Cond} (h : ∀ w ∈ l1, w ∈ am_WS) : GoodIn am_WS l1 := fun w hw => ⟨h w hw, am_good (h w hw)⟩
theorem am_cats (X : am_X) (rest : List Value) : ((rest.map (am_cv X)).map fun v => v.category).sum = (rest.map fun v => v.category).sum := by
  rw [List.map_map]
  congr 1
  exact List.map_congr_left fun v _ => am_cat X v
/-- a method's code as one of the words -/
def am_co (M : am_M) : Cond := Cond.code M.1 M.2.1 M.2.2.1 M.2.2.2
/-- what a class's name and a descriptor must be -/
def am_dn (y : MethodName) (n : Nat) : Prop := y.cls ≠ "java/lang/invoke/MethodHandle" ∧ y.cls ≠ "java/lang/invoke/VarHandle" ∧ (parseMethodDescriptor y.desc).map (fun d => d.parameters.length) = some n
def am_cs (own : String) (idx : Nat) (M' : am_M) (n : Nat) : Prop := am_dn M'.1 n ∧ Cond.methodLink own idx M'.1 ∈ am_WS ∧ Cond.static M'.1 ∈ am_WS ∧ Cond.initialized M'.1.cls ∈ am_WS ∧ am_co M' ∈ am_WS
def am_csN (own : String) (idx : Nat) (M' : am_M) (n : Nat) (host : String) : Prop := am_dn M'.1 n ∧ Cond.methodLinkNest own idx M'.1 host ∈ am_nw ∧ Cond.static M'.1 ∈ am_WS ∧ Cond.initialized M'.1.cls ∈ am_WS ∧ am_co M' ∈ am_WS
def am_cvt (own : String) (idx : Nat) (M' : am_M) (n : Nat) : Prop := am_dn M'.1 n ∧ Cond.methodLink own idx M'.1 ∈ am_WS ∧ Cond.instanceMethod M'.1 ∈ am_WS ∧ Cond.selects M'.1.cls M'.1 M'.1 ∈ am_WS ∧ Cond.initialized M'.1.cls ∈ am_WS ∧ am_co M' ∈ am_WS
def am_ci (own : String) (idx : Nat) (M' : am_M) (n : Nat) : Prop := am_dn M'.1 n ∧ M'.1.name = "<init>" ∧ Cond.methodLink own idx M'.1 ∈ am_WS ∧ Cond.instanceMethod M'.1 ∈ am_WS ∧ Cond.initialized M'.1.cls ∈ am_WS ∧ am_co M' ∈ am_WS
def am_ciN (own : String) (idx : Nat) (M' : am_M) (n : Nat) (host : String) : Prop := am_dn M'.1 n ∧ M'.1.name = "<init>" ∧ Cond.methodLinkNest own idx M'.1 host ∈ am_nw ∧ Cond.instanceMethod M'.1 ∈ am_WS ∧ Cond.initialized M'.1.cls ∈ am_WS ∧ am_co M' ∈ am_WS
theorem am_cs1 {w : Cond} {l : List Cond} {P : Cond → Prop} (h : P w) (t : ∀ v ∈ l, P v) : ∀ v ∈ w :: l, P v := List.forall_mem_cons.mpr ⟨h, t⟩
theorem am_wsAll {M' : am_M} (h : am_co M' ∈ am_WS) : ∀ w ∈ Cond.code M'.1 M'.2.1 M'.2.2.1 M'.2.2.2 :: am_WS, w ∈ am_WS := am_cs1 h fun _ h => h
def am_Pp (X : am_X) (ws : am_W) : State → Prop := fun U => (am_K X U ∧ am_H X U U.heap) ∧ va_P X.2.2.1 vwCl (am_wr X ws) U.heap ∧ U.heap.size = X.1 + ws.length ∧ ws.length ≤ 1000
theorem am_blind (X : am_X) (av : List Value) (ws : am_W) : FrameBlind (va_Pc av (am_Pp X ws)) := by
  rintro a U g mk ⟨h1, ⟨h2, h3⟩, h4, h5⟩
  exact ⟨h1, ⟨am_K_same (s := U) (U := U.calling g mk a) rfl h2, am_H_to (s := U) (U := U.calling g mk a) (Vm.Alike.refl _) (fun _ _ _ => rfl) h3⟩, h4, h5⟩
theorem am_preU {X : am_X} {ws : am_W} {s U : State} {H : Heap} {locs : List Loc} (hK : am_K X s) (hH : am_H X s s.heap) (hP : va_P X.2.2.1 vwCl (am_wr X ws) H) (hS : va_S (am_F X) s.heap H locs) (hz : H.size = X.1 + ws.length ∧ ws.length ≤ 1000) (hU : U.heap = H) (hW : s.WarmedH U.vm) : am_Pp X ws U :=
  ⟨⟨am_K_warm hW hK, am_H_to hW.alike (fun a h1 h2 => by rw [hU]; exact hS.2.1 a h1 h2) hH⟩, by rw [hU]; exact hP, by rw [hU]; exact hz.1, hz.2⟩
section
variable {X : am_X} {p : Program} {l : Launch} {e : Env} {R : Room} {s : State} {m : MethodId} {args : Array Value} {below : List Frame} {meth : Method} {c : Code} {H : Heap} {locs : List Loc} {cells slots mc ms pc : Nat} {lsA : Array Slot} {Q : State → Prop}
theorem am_call {rest st0 : List Value} {r : Option Value} {wF : am_W} {a : Array Value} (hr : va_Run p l e R s m args below meth c H locs cells slots mc ms (F0 m pc lsA st0) rest (am_P X r wF a) (am_F X)) (hS : va_S (am_F X) s.heap H locs)
    (kk : ∀ (H1 : Heap) (locs1 : List Loc), va_P X.2.2.1 vwCl (am_wr X wF) H1 → va_S (am_F X) s.heap H1 locs1 → W p l e R s m args below meth c H1 locs1 (cells + mc) (slots + ms) Q (F0 m (pc + 3) lsA ((r.map (am_cv X)).toList ++ rest))) : W p l e R s m args below meth c H locs cells slots Q (F0 m pc lsA st0) := by
  intro T hT X0
  obtain ⟨v, st₀, t, T', L, h0, X', hL, e1, e2, ⟨⟨hv, hp⟩, hz, hk⟩, st⟩ := hr T hT X0
  cases hv
  rw [h0] at hz hk
  obtain ⟨t2, a1, b1⟩ := kk T'.heap (locs ++ L) (by rw [e1]; exact hp)
    ⟨Nat.le_trans hS.1 (by rw [e1]; exact hz), fun q h1 h2 => by rw [e1, hk q (Nat.lt_of_lt_of_le h1 hS.1) h2]; exact hS.2.1 q h1 h2, fun q hq => by
      rcases List.mem_append.mp hq with h | h
      · exact hS.2.2 q h
      · exact hL q h⟩ T' rfl X'
  exact ⟨t2, st t2 a1, b1⟩
end
theorem am_rl (X : am_X) (r : Option Value) (rest : List Value) : (r.map (am_cv X)).toList ++ rest.map (am_cv X) = (r.toList ++ rest).map (am_cv X) := by cases r <;> simp
section
variable {M : am_M} {g : am_g} {kn kn' : Nat × Nat} {pc pc' : Nat} {ls : List (Option Value)} {st0 : List Value} {ws w1 : am_W}
theorem am_callS {idx n d' mc' ms' : Nat} (rest as : List Value) {M' : am_M} {r : Option Value} (d : decode M.2.1 pc = .ok (.invokestatic idx, 3)) (hs : am_cs M.1.cls idx M' n) (hT : am_T M' d' mc' ms' as ws r w1) (hn : as.length = n) (hst : as.reverse ++ rest = st0) (hcat : (rest.map fun v => v.category).sum ≤ 8)
    (hroom : (d' + 1 ≤ (am_R g).frames ∧ 8 + (M'.2.2.1 + 11) + 60 * d' ≤ (am_R g).locals) ∧ kn.1 + mc' ≤ (am_R g).cells ∧ kn.2 + ms' ≤ (am_R g).slots) (hkn : (kn.1 + mc', kn.2 + ms') = kn') (hp : pc + 3 = pc') (k : am_G M g kn' pc' ls (r.toList ++ rest) w1) : am_G M g kn pc ls st0 ws := by
  subst hp; subst hst; subst hkn
  intro X p l e s m args below meth c E H locs lsA hP hS hk hL T hT0 X0
  have hz := am_size hk.1 E.2.2.2.2.2.2.2.2.2.2.1 hP hS hT0 X0
  obtain ⟨hd, h1, h2, h3, h4⟩ := hs
  have e1 : (as.reverse ++ rest).map (am_cv X) = (as.map (am_cv X)).reverse ++ rest.map (am_cv X) := by rw [List.map_append, List.map_reverse]
  rw [e1]
  refine am_call (X := X) (a := (as.map (am_cv X)).toArray) (va_runS (As := as.map (am_cv X)) (rest := rest.map (am_cv X)) ⟨E.1, E.2.1, E.2.2.1, E.2.2.2.2.1, E.2.2.2.2.2.1⟩ (hT.2 l X)
    (va_cwS n E.2.2.2.2.2.1 (am_gi (am_cs1 h1 (am_cs1 h2 (am_cs1 h3 (am_wsAll h4))))) rfl rfl rfl hd hroom.1) ⟨am_blind X _ ws, fun U hU hW => ⟨rfl, am_preU E.2.2.2.2.2.2.2.2.1 E.2.2.2.2.2.2.2.2.2.1 hP hS ⟨hz, hk.2⟩ hU hW⟩⟩ rfl (by rw [List.length_map]; exact hn) hL.2.1 rfl (lv_room (by rw [am_cats]; exact hcat)) d hroom.2) hS (fun H1 locs1 hP1 hS1 => ?_) T hT0 X0
  rw [am_rl]
  exact k X p l e s m args below meth c E H1 locs1 lsA hP1 hS1 ⟨by rw [hT.1.1]; have := hk.1; show s.heap.size + (kn.1 + mc') = _; omega, by have h5 := hT.1; have := hk.2; omega⟩ hL
theorem am_callSN {idx n d' mc' ms' : Nat} {host : String} (rest as : List Value) {M' : am_M} {r : Option Value} (d : decode M.2.1 pc = .ok (.invokestatic idx, 3)) (hs : am_csN M.1.cls idx M' n host) (hT : am_T M' d' mc' ms' as ws r w1) (hn : as.length = n) (hst : as.reverse ++ rest = st0) (hcat : (rest.map fun v => v.category).sum ≤ 8)
    (hroom : (d' + 1 ≤ (am_R g).frames ∧ 8 + (M'.2.2.1 + 11) + 60 * d' ≤ (am_R g).locals) ∧ kn.1 + mc' ≤ (am_R g).cells ∧ kn.2 + ms' ≤ (am_R g).slots) (hkn : (kn.1 + mc', kn.2 + ms') = kn') (hp : pc + 3 = pc') (k : am_G M g kn' pc' ls (r.toList ++ rest) w1) : am_G M g kn pc ls st0 ws := by
  subst hp; subst hst; subst hkn
  intro X p l e s m args below meth c E H locs lsA hP hS hk hL T hT0 X0
  have hz := am_size hk.1 E.2.2.2.2.2.2.2.2.2.2.1 hP hS hT0 X0
  obtain ⟨hd, h1, h2, h3, h4⟩ := hs
  have hts := E.2.2.2.2.2.1
  have e1 : (as.reverse ++ rest).map (am_cv X) = (as.map (am_cv X)).reverse ++ rest.map (am_cv X) := by rw [List.map_append, List.map_reverse]
  rw [e1]
  refine am_call (X := X) (a := (as.map (am_cv X)).toArray) (va_runSN (As := as.map (am_cv X)) (rest := rest.map (am_cv X)) ⟨E.1, E.2.1, E.2.2.1, E.2.2.2.2.1, E.2.2.2.2.2.1⟩ (hT.2 l X)
    ⟨va_cnB n hts (am_gi (am_wsAll h4)) rfl rfl rfl (E.2.2.2.2.2.2.2.2.1.2.1 _ h1) (hts _ h3) hd hroom.1, hts _ h2, trivial⟩ ⟨am_blind X _ ws, fun U hU hW => ⟨rfl, am_preU E.2.2.2.2.2.2.2.2.1 E.2.2.2.2.2.2.2.2.2.1 hP hS ⟨hz, hk.2⟩ hU hW⟩⟩ rfl (by rw [List.length_map]; exact hn) hL.2.1 rfl (lv_room (by rw [am_cats]; exact hcat)) d hroom.2) hS (fun H1 locs1 hP1 hS1 => ?_) T hT0 X0
  rw [am_rl]
  exact k X p l e s m args below meth c E H1 locs1 lsA hP1 hS1 ⟨by rw [hT.1.1]; have := hk.1; show s.heap.size + (kn.1 + mc') = _; omega, by have h5 := hT.1; have := hk.2; omega⟩ hL
theorem am_callV {idx n d' mc' ms' q ci : Nat} {fs : List Value} {q0 : vw_C} (rest as : List Value) {M' : am_M} {r : Option Value} (d : decode M.2.1 pc = .ok (.invokevirtual idx, 3)) (hs : am_cvt M.1.cls idx M' n) (hT : am_T M' d' mc' ms' (.ref q :: as) ws r w1) (hn : as.length = n) (hst : as.reverse ++ (.ref q :: rest) = st0) (hc : ws[q]? = some (.inr (.inr (ci, fs)))) (hcl : vwCl[ci]? = some q0) (hqc : q0.1 = M'.1.cls) (hcat : (rest.map fun v => v.category).sum ≤ 8)
    (hroom : (d' + 1 ≤ (am_R g).frames ∧ 8 + (M'.2.2.1 + 11) + 60 * d' ≤ (am_R g).locals) ∧ kn.1 + mc' ≤ (am_R g).cells ∧ kn.2 + ms' ≤ (am_R g).slots) (hkn : (kn.1 + mc', kn.2 + ms') = kn') (hp : pc + 3 = pc') (k : am_G M g kn' pc' ls (r.toList ++ rest) w1) : am_G M g kn pc ls st0 ws := by
  subst hp; subst hst; subst hkn
  intro X p l e s m args below meth c E H locs lsA hP hS hk hL T hT0 X0
  have hz := am_size hk.1 E.2.2.2.2.2.2.2.2.2.2.1 hP hS hT0 X0
  obtain ⟨hd, h1, h2, h3, h4, h5⟩ := hs
  have hts := E.2.2.2.2.2.1
  have e0 : am_cv X (.ref q) = .ref (X.1 + q) := by rw [← am_al_lt (X := X) (am_q hk.2 hc)]; rfl
  have e1 : (as.reverse ++ (.ref q :: rest)).map (am_cv X) = (as.map (am_cv X)).reverse ++ .ref (X.1 + q) :: rest.map (am_cv X) := by rw [List.map_append, List.map_reverse, List.map_cons, e0]
  rw [e1]
  have hrc := va_recv E.2.2.2.2.2.2.2.2.1.1 hP hcl (am_wr_get (X := X) hc)
  rw [hqc] at hrc
  refine am_call (X := X) (a := (Value.ref (X.1 + q) :: as.map (am_cv X)).toArray) (va_runV (C := M'.1.cls) (b := X.1 + q) (As := as.map (am_cv X)) (rest := rest.map (am_cv X)) ⟨E.1, E.2.1, E.2.2.1, E.2.2.2.2.1, E.2.2.2.2.2.1⟩ (hT.2 l X)
    (cwV n hts (am_gi (am_cs1 h1 (am_cs1 h2 (am_cs1 h3 (am_cs1 h4 (am_wsAll h5)))))) rfl rfl rfl ⟨rfl, hd⟩ hroom.1) ⟨am_blind X _ ws, hrc, fun U hU hW => ⟨by rw [List.map_cons, e0], am_preU E.2.2.2.2.2.2.2.2.1 E.2.2.2.2.2.2.2.2.2.1 hP hS ⟨hz, hk.2⟩ hU hW⟩⟩ rfl (by rw [List.length_map]; exact hn) hL.2.1 rfl (lv_room (by rw [am_cats]; exact hcat)) d hroom.2) hS (fun H1 locs1 hP1 hS1 => ?_) T hT0 X0
  rw [am_rl]
  exact k X p l e s m args below meth c E H1 locs1 lsA hP1 hS1 ⟨by rw [hT.1.1]; have := hk.1; show s.heap.size + (kn.1 + mc') = _; omega, by have h5 := hT.1; have := hk.2; omega⟩ hL
end
