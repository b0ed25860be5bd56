/-! ===== fields, rows, new cells ===== -/
theorem am_size {X : am_X} {ws : am_W} {H : Heap} {s : State} {locs : List Loc} {k n : Nat} {p : Program} {l : Launch} {e : Env} {R : Room} {m : MethodId} {args : Array Value} {below : List Frame} {meth : Method} {c : Code} {T : State} {L : List Loc} (hk : s.heap.size + k = X.1 + ws.length) (hb : X.1 ≤ s.heap.size) (hP : va_P X.2.2.1 vwCl (am_wr X ws) H) (hS : va_S (am_F X) s.heap H locs) (hT : T.heap = H) (X0 : Stand p l e R s m args below meth c T L k n) : H.size = X.1 + ws.length := by
  have h1 := X0.heapSize
  rw [hT] at h1
  have h2 := hS.1
  cases hw : ws.length with
  | zero => rw [hw] at hk; omega
  | succ j =>
    rw [hw] at hk
    have h3 : j < ws.length := by omega
    have h4 := (hP j _ (am_wr_get (X := X) (List.getElem?_eq_getElem h3))).lt
    have h5 : X.1 + j < H.size := h4
    omega
theorem am_q {ws : am_W} {q : Nat} {c : am_A} (h : ws.length ≤ 1000) (hc : ws[q]? = some c) : q < 1000 := by
  have := (List.getElem?_eq_some_iff.mp hc).1
  omega
def am_fl (own : String) (idx ci k : Nat) : Prop := ∃ (C : String) (T : u_T) (N : Nat), vwCl[ci]? = some (C, T, N) ∧ k < N ∧ (∀ w ∈ u_ws C T N, w ∈ am_WS) ∧ Cond.fieldLink own idx (T k).1 (T k).2.1 (T k).2.2.1 ∈ am_WS
def am_fp (own : String) (idx ci k : Nat) (ty : FieldType) (fin : Bool) : Prop := ∃ (C : String) (T : u_T) (N : Nat) (ty0 : Nat → FieldType), vwCl[ci]? = some (C, T, N) ∧ k < N ∧ (∀ w ∈ u_ws C T N, w ∈ am_WS) ∧ Cond.fieldLink own idx (T k).1 (T k).2.1 (T k).2.2.1 ∈ am_WS ∧
  (∀ k, k < N → parseFieldDescriptor (T k).2.2.1 = some (ty0 k)) ∧ (∀ a, a < N → ∀ b, b < N → a ≠ b → (T a).2.1 ≠ (T b).2.1) ∧ (T k).2.2.2 = fin ∧ parseFieldDescriptor (T k).2.2.1 = some ty ∧ (fin = true → (T k).1 = own)
section
variable {M : am_M} {g : am_g} {kn : Nat × Nat} {pc pc' : Nat} {ls : List (Option Value)} {st : List Value} {ws ws' : am_W}
theorem am_get {idx ci kf q : Nat} {fs : List Value} {v : Value} (d : decode M.2.1 pc = .ok (.getfield idx, 3)) (hf : am_fl M.1.cls idx ci kf) (hc : ws[q]? = some (.inr (.inr (ci, fs)))) (hv : fs[kf]? = some v) (hp : pc + 3 = pc') (k : am_G M g kn pc' ls (v :: st) ws) : am_G M g kn pc ls (.ref q :: st) ws := by
  subst hp
  intro X p l e s m args below meth c E H locs lsA hP hS hk hL
  obtain ⟨C, T, N, h1, h2, h3, h4⟩ := hf
  have h5 := am_wr_get (X := X) hc
  have e1 : (Value.ref q :: st).map (am_cv X) = .ref (X.1 + q) :: st.map (am_cv X) := by
    rw [List.map_cons, ← am_al_lt (X := X) (am_q hk.2 hc)]
    rfl
  rw [e1]
  have hts := E.2.2.2.2.2.1
  exact va_get E.1 E.2.1 hts h3 E.2.2.2.2.1 E.2.2.2.2.2.2.2.2.1.1 hP q h5 h1 kf h2 (hts _ h4) (fun _ h => h) (by rw [List.getElem?_map, hv]; rfl) d (k X p l e s m args below meth c E H locs lsA hP hS hk hL)
theorem am_put {idx ci kf q : Nat} {fs : List Value} {v : Value} {ty : FieldType} (d : decode M.2.1 pc = .ok (.putfield idx, 3)) (hf : am_fp M.1.cls idx ci kf ty false) (hc : ws[q]? = some (.inr (.inr (ci, fs)))) (hn : ∀ X : am_X, narrow ty (am_cv X v) = am_cv X v ∧ fits ty (am_cv X v) = true) (hl : kf < fs.length) (hw : ws.set q (.inr (.inr (ci, fs.set kf v))) = ws') (hp : pc + 3 = pc') (k : am_G M g kn pc' ls st ws') : am_G M g kn pc ls (v :: .ref q :: st) ws := by
  subst hp; subst hw
  intro X p l e s m args below meth c E H locs lsA hP hS hk hL
  obtain ⟨C, T, N, ty0, h1, h2, h3, h4, h5, h6, h7, h8, -⟩ := hf
  have h9 := am_wr_get (X := X) hc
  have e1 : (v :: Value.ref q :: st).map (am_cv X) = am_cv X v :: .ref (X.1 + q) :: st.map (am_cv X) := by
    rw [List.map_cons, List.map_cons, ← am_al_lt (X := X) (am_q hk.2 hc)]
    rfl
  rw [e1]
  have hts := E.2.2.2.2.2.1
  refine va_put E.1 E.2.1 hts h3 ty0 h5 h6 E.2.2.2.2.1 E.2.2.2.2.2.2.2.2.1.1 hP (am_D X ws) hS q h9 h1 kf h2 (hts _ h4) (fun _ h => h) h7 h8 (hn X).1 (hn X).2 (by rw [List.length_map]; exact hl) d (fun H1 locs1 hP1 _ hS1 => ?_)
  have e2 : (am_wr X ws).set q (X.1 + q, .inr (ci, (fs.map (am_cv X)).set kf (am_cv X v))) = am_wr X (ws.set q (.inr (.inr (ci, fs.set kf v)))) := by
    rw [← am_wr_set]
    show _ = (am_wr X ws).set q (X.1 + q, .inr (ci, (fs.set kf v).map (am_cv X)))
    rw [List.map_set]
  rw [e2] at hP1
  exact k X p l e s m args below meth c E H1 locs1 lsA hP1 hS1 (by rw [List.length_set]; exact hk) hL
theorem am_putF {idx ci kf q : Nat} {fs : List Value} {v : Value} {ty : FieldType} (d : decode M.2.1 pc = .ok (.putfield idx, 3)) (hi : M.1.name = "<init>") (hf : am_fp M.1.cls idx ci kf ty true) (hc : ws[q]? = some (.inr (.inr (ci, fs)))) (hn : ∀ X : am_X, narrow ty (am_cv X v) = am_cv X v ∧ fits ty (am_cv X v) = true) (hl : kf < fs.length) (hw : ws.set q (.inr (.inr (ci, fs.set kf v))) = ws') (hp : pc + 3 = pc') (k : am_G M g kn pc' ls st ws') : am_G M g kn pc ls (v :: .ref q :: st) ws := by
  subst hp; subst hw
  intro X p l e s m args below meth c E H locs lsA hP hS hk hL
  obtain ⟨C, T, N, ty0, h1, h2, h3, h4, h5, h6, h7, h8, h10⟩ := hf
  have h9 := am_wr_get (X := X) hc
  have e1 : (v :: Value.ref q :: st).map (am_cv X) = am_cv X v :: .ref (X.1 + q) :: st.map (am_cv X) := by
    rw [List.map_cons, List.map_cons, ← am_al_lt (X := X) (am_q hk.2 hc)]
    rfl
  rw [e1]
  have hts := E.2.2.2.2.2.1
  refine va_putF E.1 E.2.1 hts h3 ty0 h5 h6 E.2.2.2.2.1 E.2.2.2.2.2.2.2.2.1.1 hP (am_D X ws) hS q h9 h1 kf h2 (hts _ h4) (fun _ h => h) h7 (E.2.2.2.2.2.2.2.1 hi) (h10 rfl) h8 (hn X).1 (hn X).2 (by rw [List.length_map]; exact hl) d (fun H1 locs1 hP1 _ hS1 => ?_)
  have e2 : (am_wr X ws).set q (X.1 + q, .inr (ci, (fs.map (am_cv X)).set kf (am_cv X v))) = am_wr X (ws.set q (.inr (.inr (ci, fs.set kf v)))) := by
    rw [← am_wr_set]
    show _ = (am_wr X ws).set q (X.1 + q, .inr (ci, (fs.set kf v).map (am_cv X)))
    rw [List.map_set]
  rw [e2] at hP1
  exact k X p l e s m args below meth c E H1 locs1 lsA hP1 hS1 (by rw [List.length_set]; exact hk) hL
theorem am_iald {q n : Nat} {f : Nat → Int32} {i : Int32} (d : decode M.2.1 pc = .ok (.iaload, 1)) (hc : ws[q]? = some (.inl (n, f))) (hin : vp_in i n) (hp : pc + 1 = pc') (k : am_G M g kn pc' ls (.int (f i.toNatClampNeg) :: st) ws) : am_G M g kn pc ls (.int i :: .ref q :: st) ws := by
  subst hp
  intro X p l e s m args below meth c E H locs lsA hP hS hk hL
  have e1 : (Value.int i :: Value.ref q :: st).map (am_cv X) = .int i :: .ref (X.1 + q) :: st.map (am_cv X) := by
    rw [List.map_cons, List.map_cons, ← am_al_lt (X := X) (am_q hk.2 hc)]
    rfl
  rw [e1]
  exact va_iald E.1 E.2.1 E.2.2.2.2.2.2.2.2.1.1 hP q 0 (am_wr_get (X := X) hc) rfl hin d (k X p l e s m args below meth c E H locs lsA hP hS hk hL)
theorem am_iast {q n : Nat} {f : Nat → Int32} {i x : Int32} (d : decode M.2.1 pc = .ok (.iastore, 1)) (hc : ws[q]? = some (.inl (n, f))) (hin : vp_in i n) (hw : ws.set q (.inl (n, upd f i.toNatClampNeg x)) = ws') (hp : pc + 1 = pc') (k : am_G M g kn pc' ls st ws') : am_G M g kn pc ls (.int x :: .int i :: .ref q :: st) ws := by
  subst hp; subst hw
  intro X p l e s m args below meth c E H locs lsA hP hS hk hL
  have e1 : (Value.int x :: Value.int i :: Value.ref q :: st).map (am_cv X) = .int x :: .int i :: .ref (X.1 + q) :: st.map (am_cv X) := by
    rw [List.map_cons, List.map_cons, List.map_cons, ← am_al_lt (X := X) (am_q hk.2 hc)]
    rfl
  rw [e1]
  refine va_iast E.1 E.2.1 E.2.2.2.2.2.2.2.2.1.1 hP (am_D X ws) hS q 0 (am_wr_get (X := X) hc) rfl hin d (fun H1 locs1 hP1 _ hS1 => ?_)
  have e2 := am_wr_set X ws q (.inl (n, upd f i.toNatClampNeg x))
  exact k X p l e s m args below meth c E H1 locs1 lsA (e2 ▸ hP1) hS1 (by rw [List.length_set]; exact hk) hL
theorem am_aald {q n : Nat} {f : Nat → Option Nat} {i : Int32} (d : decode M.2.1 pc = .ok (.aaload, 1)) (hc : ws[q]? = some (.inr (.inl (n, f)))) (hin : vp_in i n) (hp : pc + 1 = pc') (k : am_G M g kn pc' ls (va_rf (f i.toNatClampNeg) :: st) ws) : am_G M g kn pc ls (.int i :: .ref q :: st) ws := by
  subst hp
  intro X p l e s m args below meth c E H locs lsA hP hS hk hL
  have e1 : (Value.int i :: Value.ref q :: st).map (am_cv X) = .int i :: .ref (X.1 + q) :: st.map (am_cv X) := by
    rw [List.map_cons, List.map_cons, ← am_al_lt (X := X) (am_q hk.2 hc)]
    rfl
  rw [e1]
  have k1 := k X p l e s m args below meth c E H locs lsA hP hS hk hL
  rw [List.map_cons, ← am_rf] at k1
  exact va_aldq E.1 E.2.1 E.2.2.2.2.2.2.2.2.1.1 hP q 1 (am_wr_get (X := X) hc) rfl hin d k1
theorem am_alen {q n : Nat} {f : Nat → Int32} (d : decode M.2.1 pc = .ok (.arraylength, 1)) (hc : ws[q]? = some (.inl (n, f))) (hp : pc + 1 = pc') (k : am_G M g kn pc' ls (.int (nI n) :: st) ws) : am_G M g kn pc ls (.ref q :: st) ws := by
  subst hp
  intro X p l e s m args below meth c E H locs lsA hP hS hk hL
  have e1 : (Value.ref q :: st).map (am_cv X) = .ref (X.1 + q) :: st.map (am_cv X) := by
    rw [List.map_cons, ← am_al_lt (X := X) (am_q hk.2 hc)]
    rfl
  rw [e1]
  exact va_alen E.1 E.2.1 E.2.2.2.2.2.2.2.2.1.1 hP q 0 (am_wr_get (X := X) hc) (ty := .int) rfl rfl d (k X p l e s m args below meth c E H locs lsA hP hS hk hL)
theorem am_alenA {q n : Nat} {f : Nat → Option Nat} (d : decode M.2.1 pc = .ok (.arraylength, 1)) (hc : ws[q]? = some (.inr (.inl (n, f)))) (hp : pc + 1 = pc') (k : am_G M g kn pc' ls (.int (nI n) :: st) ws) : am_G M g kn pc ls (.ref q :: st) ws := by
  subst hp
  intro X p l e s m args below meth c E H locs lsA hP hS hk hL
  have e1 : (Value.ref q :: st).map (am_cv X) = .ref (X.1 + q) :: st.map (am_cv X) := by
    rw [List.map_cons, ← am_al_lt (X := X) (am_q hk.2 hc)]
    rfl
  rw [e1]
  exact va_alen E.1 E.2.1 E.2.2.2.2.2.2.2.2.1.1 hP q 1 (am_wr_get (X := X) hc) (ty := .object RX9) rfl rfl d (k X p l e s m args below meth c E H locs lsA hP hS hk hL)
/-- the end of a method -/
theorem am_iret {d mc ms : Nat} {r : Option Value} {wF : am_W} {v : Int32} (dd : decode M.2.1 pc = .ok (.ireturn, 1)) (hret : M.2.2.2 = some .int) (hr : r = some (.int v)) (hw : ws = wF) : am_G M (none, d, mc, ms, r, wF) (mc, ms) pc ls [.int v] ws := by
  subst hr; subst hw
  intro X p l e s m args below meth c E H locs lsA hP hS hk hL
  exact W.iret (hlocks := E.2.2.2.2.2.2.1) E.1 E.2.1 (E.2.2.2.1.trans hret) (fun t ht hW => ⟨⟨rfl, by rw [ht]; exact hP⟩, hS.F ht⟩) hS.2.2 dd
theorem am_zret {d mc ms : Nat} {r : Option Value} {wF : am_W} {v : Int32} {ty : FieldType} (dd : decode M.2.1 pc = .ok (.ireturn, 1)) (hret : M.2.2.2 = some ty) (hn : narrow ty (.int v) = .int v) (hr : r = some (.int v)) (hw : ws = wF) : am_G M (none, d, mc, ms, r, wF) (mc, ms) pc ls [.int v] ws := by
  subst hr; subst hw
  intro X p l e s m args below meth c E H locs lsA hP hS hk hL
  exact W.zret (hlocks := E.2.2.2.2.2.2.1) E.1 E.2.1 (E.2.2.2.1.trans hret) hn (fun t ht hW => ⟨⟨rfl, by rw [ht]; exact hP⟩, hS.F ht⟩) hS.2.2 dd
theorem am_lret {d mc ms : Nat} {r : Option Value} {wF : am_W} {v : Int64} (dd : decode M.2.1 pc = .ok (.lreturn, 1)) (hret : M.2.2.2 = some .long) (hr : r = some (.long v)) (hw : ws = wF) : am_G M (none, d, mc, ms, r, wF) (mc, ms) pc ls [.long v] ws := by
  subst hr; subst hw
  intro X p l e s m args below meth c E H locs lsA hP hS hk hL
  exact W.lret (hlocks := E.2.2.2.2.2.2.1) E.1 E.2.1 (E.2.2.2.1.trans hret) (fun t ht hW => ⟨⟨rfl, by rw [ht]; exact hP⟩, hS.F ht⟩) hS.2.2 dd
theorem am_vret {d mc ms : Nat} {r : Option Value} {wF : am_W} (dd : decode M.2.1 pc = .ok (.return_, 1)) (hret : M.2.2.2 = none) (hr : r = none) (hw : ws = wF) : am_G M (none, d, mc, ms, r, wF) (mc, ms) pc ls [] ws := by
  subst hr; subst hw
  intro X p l e s m args below meth c E H locs lsA hP hS hk hL
  exact W.vret (hlocks := E.2.2.2.2.2.2.1) E.1 E.2.1 (E.2.2.2.1.trans hret) (fun t ht hW => ⟨⟨rfl, by rw [ht]; exact hP⟩, hS.F ht⟩) hS.2.2 dd
end
