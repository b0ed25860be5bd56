/-! ===== new cells ===== -/
theorem wa_int : Cond.arrayClass (newarray.typeOf .int) ∈ am_WS := am_t1 68 (by decide +kernel) rfl
theorem wa_over : Cond.arrayOver (.object RX9) ∈ am_nw := List.mem_of_getElem? (i := 36) (by decide +kernel)
theorem wo_inst : Cond.instanceMethod objectInit ∈ am_WS := am_t1 27 (by decide +kernel) rfl
theorem wo_code : Cond.code objectInit ⟨#[0xb1]⟩ 1 none ∈ am_WS := am_t1 28 rfl rfl
def am_nwc (own : String) (idx ci N : Nat) (fs : List Value) : Prop := ∃ (C : String) (T : u_T) (ty : Nat → FieldType), vwCl[ci]? = some (C, T, N) ∧ (∀ k, k < N → parseFieldDescriptor (T k).2.2.1 = some (ty k)) ∧ (∀ w ∈ u_ws C T N, w ∈ am_WS) ∧ Cond.classLink own idx C ∈ am_WS ∧ Cond.instantiable C N ∈ am_WS ∧ Cond.initialized C ∈ am_WS ∧ (∀ j, j < N → defaultValue (ty j) = vp_V fs j) ∧ ∀ X : am_X, fs.map (am_cv X) = fs
section
variable {M : am_M} {g : am_g} {kn : Nat × Nat} {pc pc' : Nat} {ls : List (Option Value)} {st : List Value} {ws ws' : am_W}
theorem am_new {idx ci N q : Nat} {fs : List Value} (d : decode M.2.1 pc = .ok (.new idx, 3)) (hn : am_nwc M.1.cls idx ci N fs) (hq : ws.length = q) (hle : Nat.blt q 1000 = true) (hr : kn.1 + 1 ≤ (am_R g).cells ∧ kn.2 + N ≤ (am_R g).slots) (hw : ws ++ [.inr (.inr (ci, fs))] = ws') (hp : pc + 3 = pc') (k : am_G M g (kn.1 + 1, kn.2 + N) pc' ls (.ref q :: st) ws') : am_G M g kn pc ls st ws := by
  subst hp; subst hw; subst hq
  have hle' : ws.length < 1000 := Nat.le_of_ble_eq_true hle
  intro X p l e s m args below meth c E H locs lsA hP hS hk hL T0 hT0 X0
  have hz := am_size hk.1 E.2.2.2.2.2.2.2.2.2.2.1 hP hS hT0 X0
  obtain ⟨C, T, ty, h1, h2, h3, h4, h5, h6, h7, h8⟩ := hn
  have hts := E.2.2.2.2.2.1
  have hK0 := E.2.2.2.2.2.2.2.2.1
  have hKn := hK0.1.1 ci _ h1
  refine W.newcK (g := F0 m pc lsA (st.map (am_cv X))) E.1 E.2.1 E.2.2.2.2.1 (hts _ h4) (hts _ h5) (hts _ h6) rfl d hr.1 hr.2 hKn.2.1 hz (fun H1 kC hkC e1 z1 o1 => ?_) T0 hT0 X0
  have hk2 : ∀ (k : Nat) (x : Nat × va_E), (am_wr X ws)[k]? = some x → H1[x.1]? = H[x.1]? := fun k x hx => o1 x.1 (by rw [← hz]; exact (hP k x hx).lt)
  have e2 : am_cv X (.ref ws.length) = .ref (X.1 + ws.length) := by rw [← am_al_lt (X := X) hle']; rfl
  have k1 := k X p l e s m args below meth c E H1 locs lsA (by
    rw [am_wr_app]
    refine (hP.kept hk2).app (fun k x hx => ?_)
    have hz2 : k < 1 := (List.getElem?_eq_some_iff.mp hx).1
    rw [show k = 0 by omega] at hx
    cases hx
    refine ⟨_, h1, ?_⟩
    show t_OB (X.1 + ws.length) _ _ _ H1 (vp_V (fs.map (am_cv X)))
    rw [h8 X]
    exact (u_born ty hts h3 hKn hkC e1 h2).to h7) ⟨Nat.le_trans hS.1 (by omega), fun x g1 g2 => (o1 x (by rw [← hz]; exact Nat.lt_of_lt_of_le g1 hS.1)).trans (hS.2.1 x g1 g2), hS.2.2⟩ (by rw [List.length_append]; have := hk.1; exact ⟨by show s.heap.size + (kn.1 + 1) = X.1 + (ws.length + 1); omega, by show ws.length + 1 ≤ 1000; omega⟩) hL
  rw [List.map_cons, e2] at k1
  exact k1
theorem am_newa {q n' : Nat} {n : Int32} (d : decode M.2.1 pc = .ok (.newarray .int, 2)) (hq : ws.length = q) (hle : Nat.blt q 1000 = true) (hn : ¬ n < 0) (hN : n.toNatClampNeg = n') (hb : Nat.ble n' 100000 = true) (hr : kn.1 + 1 ≤ (am_R g).cells ∧ kn.2 + n' ≤ (am_R g).slots) (hw : ws ++ [.inl (n', fun _ => 0)] = ws') (hp : pc + 2 = pc') (k : am_G M g (kn.1 + 1, kn.2 + n') pc' ls (.ref q :: st) ws') : am_G M g kn pc ls (.int n :: st) ws := by
  subst hp; subst hw; subst hq
  have hle' : ws.length < 1000 := Nat.le_of_ble_eq_true hle
  have hb' : n' ≤ 100000 := Nat.le_of_ble_eq_true hb
  intro X p l e s m args below meth c E H locs lsA hP hS hk hL T0 hT0 X0
  have hz := am_size hk.1 E.2.2.2.2.2.2.2.2.2.2.1 hP hS hT0 X0
  have hts := E.2.2.2.2.2.1
  have hK0 := E.2.2.2.2.2.2.2.2.1
  refine va_newaK (atype := .int) (g := F0 m pc lsA (.int n :: st.map (am_cv X))) E.1 E.2.1 (hts _ wa_int) rfl d rfl hn hN (by show n' * componentBytes .int ≤ _; simp only [componentBytes]; omega) hr.1 hr.2 hz (fun H1 cA e1 z1 o1 hA1 hA2 => ?_) T0 hT0 X0
  have hcA : cA = X.2.2.2.1 := by
    have h9 := (hK0.1.2 0 _ rfl).2
    have h10 : s.vm.findClass ("[" ++ (FieldType.int).toString) = some X.2.2.2.1 := h9
    exact Option.some.inj (hA2.symm.trans h10)
  have hk2 : ∀ (k : Nat) (x : Nat × va_E), (am_wr X ws)[k]? = some x → H1[x.1]? = H[x.1]? := fun k x hx => o1 x.1 (by rw [← hz]; exact (hP k x hx).lt)
  have e2 : am_cv X (.ref ws.length) = .ref (X.1 + ws.length) := by rw [← am_al_lt (X := X) hle']; rfl
  have k1 := k X p l e s m args below meth c E H1 locs lsA (by
    rw [am_wr_app]
    refine (hP.kept hk2).app (fun k x hx => ?_)
    have hz2 : k < 1 := (List.getElem?_eq_some_iff.mp hx).1
    rw [show k = 0 by omega] at hx
    cases hx
    show H1[X.1 + ws.length]? = some (vp_cell X.2.2.2.1 (n', .inl fun _ => 0))
    rw [← hcA]
    exact e1) ⟨Nat.le_trans hS.1 (by omega), fun x g1 g2 => (o1 x (by rw [← hz]; exact Nat.lt_of_lt_of_le g1 hS.1)).trans (hS.2.1 x g1 g2), hS.2.2⟩ (by rw [List.length_append]; have := hk.1; exact ⟨by show s.heap.size + (kn.1 + 1) = X.1 + (ws.length + 1); omega, by show ws.length + 1 ≤ 1000; omega⟩) hL
  rw [List.map_cons, e2] at k1
  exact k1
theorem am_newq {idx q n' : Nat} {n : Int32} (d : decode M.2.1 pc = .ok (.anewarray idx, 3)) (hw1 : Cond.classLink M.1.cls idx RX9 ∈ am_WS) (hw2 : Cond.arrayOver (.object RX9) ∈ am_nw) (hq : ws.length = q) (hle : Nat.blt q 1000 = true) (hn : ¬ n < 0) (hN : n.toNatClampNeg = n') (hb : Nat.ble n' 100000 = true) (hr : kn.1 + 1 ≤ (am_R g).cells ∧ kn.2 + n' ≤ (am_R g).slots) (hw : ws ++ [.inr (.inl (n', fun _ => none))] = ws') (hp : pc + 3 = pc') (k : am_G M g (kn.1 + 1, kn.2 + n') pc' ls (.ref q :: st) ws') : am_G M g kn pc ls (.int n :: st) ws := by
  subst hp; subst hw; subst hq; subst hN
  have hle' : ws.length < 1000 := Nat.le_of_ble_eq_true hle
  have hb' : n.toNatClampNeg ≤ 100000 := Nat.le_of_ble_eq_true hb
  intro X p l e s m args below meth c E H locs lsA hP hS hk hL T0 hT0 X0
  have hz := am_size hk.1 E.2.2.2.2.2.2.2.2.2.2.1 hP hS hT0 X0
  have hts := E.2.2.2.2.2.1
  have hK0 := E.2.2.2.2.2.2.2.2.1
  refine W.anew (g := F0 m pc lsA (.int n :: st.map (am_cv X))) E.1 E.2.1 E.2.2.2.2.1 (hts _ hw1) (va_AO.use (hK0.2.1 _ hw2)) rfl d rfl hn (by omega) hr.1 hr.2 (fun cA kA comp f1 f2 f3 f4 => ?_) T0 hT0 X0
  have hcA : cA = X.2.2.2.2 := by
    obtain ⟨kA', comp', -, -, -, h10⟩ := (hK0.1.2 1 _ rfl).2
    exact Option.some.inj (f1.symm.trans h10)
  generalize hH1 : H.push ({ cls := cA, slots := Array.replicate n.toNatClampNeg .null, vm := .none } : Cell) = H1
  have z1 : H1.size = H.size + 1 := by rw [← hH1, Array.size_push]
  have e1 : H1[H.size]? = some (arrV cA n.toNatClampNeg (fun _ => .null)) := by rw [← hH1, Array.getElem?_push_size, ← arrV_new]
  have o1 : ∀ x, x < H.size → H1[x]? = H[x]? := fun x hx => by rw [← hH1]; exact Array.getElem?_push_lt hx ▸ (Array.getElem?_eq_getElem hx).symm ▸ rfl
  have hk2 : ∀ (k : Nat) (x : Nat × va_E), (am_wr X ws)[k]? = some x → H1[x.1]? = H[x.1]? := fun k x hx => o1 x.1 (hP k x hx).lt
  have e2 : am_cv X (.ref ws.length) = .ref (X.1 + ws.length) := by rw [← am_al_lt (X := X) hle']; rfl
  have k1 := k X p l e s m args below meth c E H1 locs lsA (by
    rw [am_wr_app]
    refine (hP.kept hk2).app (fun k x hx => ?_)
    have hz2 : k < 1 := (List.getElem?_eq_some_iff.mp hx).1
    rw [show k = 0 by omega] at hx
    cases hx
    show H1[X.1 + ws.length]? = some (vp_cell X.2.2.2.2 (n.toNatClampNeg, .inr (.inr (.inr (.inr fun _ => none)))))
    rw [← hcA, ← hz]
    exact e1) ⟨Nat.le_trans hS.1 (by omega), fun x g1 g2 => (o1 x (Nat.lt_of_lt_of_le g1 hS.1)).trans (hS.2.1 x g1 g2), hS.2.2⟩ (by rw [List.length_append]; have := hk.1; exact ⟨by show s.heap.size + (kn.1 + 1) = X.1 + (ws.length + 1); omega, by show ws.length + 1 ≤ 1000; omega⟩) hL
  rw [List.map_cons, e2, ← hz] at k1
  exact k1
theorem am_aast {q qv n ci : Nat} {f : Nat → Option Nat} {fs : List Value} {q0 : vw_C} {i : Int32} (d : decode M.2.1 pc = .ok (.aastore, 1)) (hc : ws[q]? = some (.inr (.inl (n, f)))) (hv : ws[qv]? = some (.inr (.inr (ci, fs)))) (hcl : vwCl[ci]? = some q0) (hca : q0.1 = RX9 ∨ Cond.castable q0.1 RX9 ∈ am_nw) (hin : vp_in i n) (hw : ws.set q (.inr (.inl (n, va_up f i.toNatClampNeg (some qv)))) = ws') (hp : pc + 1 = pc') (k : am_G M g kn pc' ls st ws') : am_G M g kn pc ls (.ref qv :: .int i :: .ref q :: st) ws := by
  subst hp; subst hw
  intro X p l e s m args below meth c E H locs lsA hP hS hk hL
  have hK0 := E.2.2.2.2.2.2.2.2.1
  have e1 : (Value.ref qv :: Value.int i :: Value.ref q :: st).map (am_cv X) = .ref (X.1 + qv) :: .int i :: .ref (X.1 + q) :: st.map (am_cv X) := by
    simp only [List.map_cons]
    rw [← am_al_lt (X := X) (am_q hk.2 hc), ← am_al_lt (X := X) (am_q hk.2 hv)]
    rfl
  rw [e1]
  have e3 : (fun j => (va_up f i.toNatClampNeg (some qv) j).map (am_al X)) = va_up (fun j => (f j).map (am_al X)) i.toNatClampNeg (some (X.1 + qv)) := by
    funext j
    simp only [va_up]
    split
    · rw [Option.map_some, am_al_lt (am_q hk.2 hv)]
    · rfl
  have fin : ∀ (H1 : Heap) (locs1 : List Loc), va_P X.2.2.1 vwCl ((am_wr X ws).set q (X.1 + q, .inl (X.2.2.2.2, n, .inr (.inr (.inr (.inr (va_up (fun j => (f j).map (am_al X)) i.toNatClampNeg (some (X.1 + qv))))))))) H1 → va_S (am_F X) s.heap H1 locs1 → W p l e (am_R g) s m args below meth c H1 locs1 kn.1 kn.2 (am_Q X g below args s) (F0 m (pc + 1) lsA (st.map (am_cv X))) := by
    intro H1 locs1 hP1 hS1
    rw [← e3] at hP1
    exact k X p l e s m args below meth c E H1 locs1 lsA (am_wr_set X ws q (.inr (.inl (n, va_up f i.toNatClampNeg (some qv)))) ▸ hP1) hS1 (by rw [List.length_set]; exact hk) hL
  rcases hca with h | h
  · exact va_astq (r := q0) E.1 E.2.1 hK0.1 hP (am_D X ws) hS q 1 qv ci (am_wr_get (X := X) hc) (by rw [h]; rfl) (am_wr_get (X := X) hv) hcl hin d (fun H1 locs1 hP1 _ hS1 => fin H1 locs1 hP1 hS1)
  · exact va_astqO (r := q0) E.1 E.2.1 hK0.1 hP (am_D X ws) hS q 1 qv ci (am_wr_get (X := X) hc) rfl (hK0.2.1 _ h) (am_wr_get (X := X) hv) hcl hin d (fun H1 locs1 hP1 _ hS1 => fin H1 locs1 hP1 hS1)
theorem am_oinit {idx q : Nat} (d : decode M.2.1 pc = .ok (.invokespecial idx, 3)) (hw : Cond.methodLink M.1.cls idx objectInit ∈ am_WS) (hcat : Nat.ble (st.map fun v => v.category).sum 8 = true) (hf : 1 ≤ (am_R g).frames ∧ 20 ≤ (am_R g).locals) (hp : pc + 3 = pc') (k : am_G M g kn pc' ls st ws) : am_G M g kn pc ls (.ref q :: st) ws := by
  subst hp
  have hcat' := Nat.le_of_ble_eq_true hcat
  intro X p l e s m args below meth c E H locs lsA hP hS hk hL
  have hts := E.2.2.2.2.2.1
  exact W.objInit E.1 E.2.1 E.2.2.2.2.1 (hts _ hw) (hts _ wo_inst) (hts _ wo_code) (g := F0 m pc lsA (.ref (am_al X q) :: st.map (am_cv X))) rfl (hL.2.1.trans E.2.2.1.symm) rfl d hf.1 (by rw [am_cats]; show 2 * 0 + _ + 12 ≤ _; omega) (k X p l e s m args below meth c E H locs lsA hP hS hk hL)
end
section
variable {M : am_M} {g : am_g} {kn kn' : Nat × Nat} {pc pc' : Nat} {ls : List (Option Value)} {st0 : List Value} {ws w1 : am_W}
theorem am_callI {idx n d' mc' ms' q : Nat} (rest as : List Value) {M' : am_M} (d : decode M.2.1 pc = .ok (.invokespecial idx, 3)) (hs : am_ci M.1.cls idx M' n) (hret : M'.2.2.2 = none) (hT : am_T M' d' mc' ms' (.ref q :: as) ws none w1) (hn : as.length = n) (hst : as.reverse ++ (.ref q :: rest) = st0) (hcat : Nat.ble (rest.map fun v => v.category).sum 8 = true)
    (hroom : (d' + 1 ≤ (am_R g).frames ∧ 8 + (M'.2.2.1 + 11) + 60 * d' ≤ (am_R g).locals) ∧ kn.1 + mc' ≤ (am_R g).cells ∧ kn.2 + ms' ≤ (am_R g).slots) (hkn : (kn.1 + mc', kn.2 + ms') = kn') (hp : pc + 3 = pc') (k : am_G M g kn' pc' ls rest w1) : am_G M g kn pc ls st0 ws := by
  subst hp; subst hst; subst hkn
  intro X p l e s m args below meth c E H locs lsA hP hS hk hL T hT0 X0
  have hz := am_size hk.1 E.2.2.2.2.2.2.2.2.2.2.1 hP hS hT0 X0
  obtain ⟨hd, hy1, h1, h2, h3, h4⟩ := hs
  have hts := E.2.2.2.2.2.1
  have e1 : (as.reverse ++ (.ref q :: rest)).map (am_cv X) = (as.map (am_cv X)).reverse ++ .ref (am_al X q) :: rest.map (am_cv X) := by rw [List.map_append, List.map_reverse, List.map_cons]; rfl
  rw [e1]
  have hT2 := hT.2 l X
  rw [hret] at hT2
  refine am_call (X := X) (a := (Value.ref (am_al X q) :: as.map (am_cv X)).toArray) (va_runI (b := am_al X q) (As := as.map (am_cv X)) (rest := rest.map (am_cv X)) ⟨E.1, E.2.1, E.2.2.1, E.2.2.2.2.1, E.2.2.2.2.2.1⟩ hT2
    (cwI n hts (by rw [← hret]; exact am_gi (am_wsAll h4)) rfl rfl rfl (hts _ h3) (hts _ h1) (hts _ h2) hy1 hd hroom.1) ⟨am_blind X _ ws, fun U hU hW => ⟨rfl, am_preU E.2.2.2.2.2.2.2.2.1 E.2.2.2.2.2.2.2.2.2.1 hP hS ⟨hz, hk.2⟩ hU hW⟩⟩ rfl (by rw [List.length_map]; exact hn) hL.2.1 rfl (lv_room (by rw [am_cats]; exact Nat.le_of_ble_eq_true hcat)) d hroom.2) hS (fun H1 locs1 hP1 hS1 => ?_) T hT0 X0
  exact k X p l e s m args below meth c E H1 locs1 lsA hP1 hS1 ⟨by rw [hT.1.1]; have := hk.1; show s.heap.size + (kn.1 + mc') = _; omega, by have h5 := hT.1; have := hk.2; omega⟩ hL
theorem am_callIN {idx n d' mc' ms' q : Nat} {host : String} (rest as : List Value) {M' : am_M} (d : decode M.2.1 pc = .ok (.invokespecial idx, 3)) (hs : am_ciN M.1.cls idx M' n host) (hret : M'.2.2.2 = none) (hT : am_T M' d' mc' ms' (.ref q :: as) ws none w1) (hn : as.length = n) (hst : as.reverse ++ (.ref q :: rest) = st0) (hcat : Nat.ble (rest.map fun v => v.category).sum 8 = true)
    (hroom : (d' + 1 ≤ (am_R g).frames ∧ 8 + (M'.2.2.1 + 11) + 60 * d' ≤ (am_R g).locals) ∧ kn.1 + mc' ≤ (am_R g).cells ∧ kn.2 + ms' ≤ (am_R g).slots) (hkn : (kn.1 + mc', kn.2 + ms') = kn') (hp : pc + 3 = pc') (k : am_G M g kn' pc' ls rest w1) : am_G M g kn pc ls st0 ws := by
  subst hp; subst hst; subst hkn
  intro X p l e s m args below meth c E H locs lsA hP hS hk hL T hT0 X0
  have hz := am_size hk.1 E.2.2.2.2.2.2.2.2.2.2.1 hP hS hT0 X0
  obtain ⟨hd, hy1, h1, h2, h3, h4⟩ := hs
  have hts := E.2.2.2.2.2.1
  have e1 : (as.reverse ++ (.ref q :: rest)).map (am_cv X) = (as.map (am_cv X)).reverse ++ .ref (am_al X q) :: rest.map (am_cv X) := by rw [List.map_append, List.map_reverse, List.map_cons]; rfl
  rw [e1]
  have hT2 := hT.2 l X
  rw [hret] at hT2
  refine am_call (X := X) (a := (Value.ref (am_al X q) :: as.map (am_cv X)).toArray) (va_runIN (b := am_al X q) (As := as.map (am_cv X)) (rest := rest.map (am_cv X)) ⟨E.1, E.2.1, E.2.2.1, E.2.2.2.2.1, E.2.2.2.2.2.1⟩ hT2
    ⟨va_cnB n hts (by rw [← hret]; exact am_gi (am_wsAll h4)) rfl rfl rfl (E.2.2.2.2.2.2.2.2.1.2.1 _ h1) (hts _ h3) hd hroom.1, hy1, hts _ h2⟩ ⟨am_blind X _ ws, fun U hU hW => ⟨rfl, am_preU E.2.2.2.2.2.2.2.2.1 E.2.2.2.2.2.2.2.2.2.1 hP hS ⟨hz, hk.2⟩ hU hW⟩⟩ rfl (by rw [List.length_map]; exact hn) hL.2.1 rfl (lv_room (by rw [am_cats]; exact Nat.le_of_ble_eq_true hcat)) d hroom.2) hS (fun H1 locs1 hP1 hS1 => ?_) T hT0 X0
  exact k X p l e s m args below meth c E H1 locs1 lsA hP1 hS1 ⟨by rw [hT.1.1]; have := hk.1; show s.heap.size + (kn.1 + mc') = _; omega, by have h5 := hT.1; have := hk.2; omega⟩ hL
end
