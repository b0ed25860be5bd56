/-- the tables' words that a callee may take over -/
def am_WS : List Cond := lw_tbl.filter goodWord
theorem am_in {w : Cond} (k : Nat) (h : lw_tbl[k]? = some w) (hg : goodWord w = true) : w ∈ am_WS := List.mem_filter.mpr ⟨List.mem_of_getElem? h, hg⟩
theorem am_good {w : Cond} (h : w ∈ am_WS) : (w.onTables && w.keeps) = true ∨ ∃ ty, w = .arrayClass ty := good_of_word (List.mem_filter.mp h).2
/-! ===== an abstract machine over lists of cells; its rules are the kit's rows, told once ===== -/
/-- a cell: a row of ints, a row of references, an object (its kind in vwCl, its fields); references are places of the list -/
abbrev am_A : Type := (Nat × (Nat → Int32)) ⊕ ((Nat × (Nat → Option Nat)) ⊕ (Nat × List Value))
abbrev am_W : Type := List am_A
/-- where the cells begin; the special addresses; the kinds' numbers; the two kinds of rows -/
abbrev am_X : Type := Nat × (Nat → Nat) × va_G × ClassId × ClassId
def am_al (X : am_X) (k : Nat) : Nat := if k < 1000 then X.1 + k else X.2.1 (k - 1000)
def am_cv (X : am_X) : Value → Value
  | .ref k => .ref (am_al X k)
  | v => v
def am_c1 (X : am_X) : am_A → va_E
  | .inl (n, f) => .inl (X.2.2.2.1, n, .inl f)
  | .inr (.inl (n, f)) => .inl (X.2.2.2.2, n, .inr (.inr (.inr (.inr (fun i => (f i).map (am_al X))))))
  | .inr (.inr (ci, fs)) => .inr (ci, fs.map (am_cv X))
def am_wr (X : am_X) (ws : am_W) : va_W := ws.mapIdx (fun k c => (X.1 + k, am_c1 X c))
theorem am_wr_get {X : am_X} {ws : am_W} {k : Nat} {c : am_A} (h : ws[k]? = some c) : (am_wr X ws)[k]? = some (X.1 + k, am_c1 X c) := by
  simp [am_wr, List.getElem?_mapIdx, h]
theorem am_wr_set (X : am_X) (ws : am_W) (k : Nat) (c : am_A) : (am_wr X ws).set k (X.1 + k, am_c1 X c) = am_wr X (ws.set k c) := by
  simp [am_wr, List.mapIdx_set]
theorem am_wr_app (X : am_X) (ws : am_W) (c : am_A) : am_wr X (ws ++ [c]) = am_wr X ws ++ [(X.1 + ws.length, am_c1 X c)] := by
  simp [am_wr, List.mapIdx_append]
theorem am_wr_at {X : am_X} {ws : am_W} {k : Nat} {q : Nat × va_E} (h : (am_wr X ws)[k]? = some q) : q.1 = X.1 + k ∧ k < ws.length := by
  have hl : k < ws.length := by
    have := (List.getElem?_eq_some_iff.mp h).1
    simpa [am_wr] using this
  refine ⟨?_, hl⟩
  rw [am_wr, List.getElem?_mapIdx, List.getElem?_eq_getElem hl] at h
  cases h
  rfl
def am_F (X : am_X) : Nat → Prop := fun q => X.1 ≤ q
theorem am_D (X : am_X) (ws : am_W) : va_D (am_F X) (am_wr X ws) := by
  refine ⟨fun i j p q hi hj h => ?_, fun k q hk => ?_⟩
  · have h1 := (am_wr_at hi).1
    have h2 := (am_wr_at hj).1
    omega
  · have h1 := (am_wr_at hk).1
    show X.1 ≤ q.1
    omega
theorem am_al_lt {X : am_X} {k : Nat} (h : k < 1000) : am_al X k = X.1 + k := if_pos h
theorem am_cat (X : am_X) (v : Value) : (am_cv X v).category = v.category := by cases v <;> rfl
theorem am_rf (X : am_X) (o : Option Nat) : va_rf (o.map (am_al X)) = am_cv X (va_rf o) := by cases o <;> rfl
/-! the strings -/
def am_str : List (String × Nat × String × Nat) := [("FlatToLet", 94, "likes light - damp ; keeps 1 ; offers rich ;", 0), ("FlatToLet$Reader", 82, "likes", 1), ("FlatToLet$Reader", 88, "keeps", 2), ("FlatToLet$Reader", 90, "offers", 3), ("FlatToLet$Reader", 92, "or", 4), ("FlatToLet$Reader", 94, "and", 5), ("FlatToLet$Reader", 96, "not", 6), ("FlatToLet$Reader", 98, "light", 7), ("FlatToLet$Reader", 100, "damp", 8), ("FlatToLet$Reader", 102, "room", 9), ("FlatToLet$Reader", 104, "hour", 10), ("FlatToLet$Reader", 106, "crowd", 11), ("FlatToLet$Reader", 108, "rich", 12)]
def am_byt : List (List Int32) := am_str.map fun q => q.2.2.1.toList.map fun ch => Int32.ofNat ch.toNat
def am_len : List Nat := am_str.map fun q => q.2.2.1.length
/-- what the tables say beside am_WS -/
def am_nw : List Cond := [.methodLinkNest "FlatToLet" 9 ⟨"FlatToLet$State", "<init>", "()V"⟩ "FlatToLet", .methodLinkNest "FlatToLet" 21 ⟨"FlatToLet$Viewer", "<init>", "()V"⟩ "FlatToLet", .methodLinkNest "FlatToLet" 24 ⟨"FlatToLet$Couple", "<init>", "()V"⟩ "FlatToLet", .methodLinkNest "FlatToLet$Couple" 1 ⟨"FlatToLet$Viewer", "<init>", "()V"⟩ "FlatToLet", .methodLinkNest "FlatToLet" 27 ⟨"FlatToLet$Student", "<init>", "()V"⟩ "FlatToLet", .methodLinkNest "FlatToLet$Student" 1 ⟨"FlatToLet$Viewer", "<init>", "()V"⟩ "FlatToLet", .methodLinkNest "FlatToLet" 30 ⟨"FlatToLet$Doctor", "<init>", "()V"⟩ "FlatToLet", .methodLinkNest "FlatToLet$Doctor" 1 ⟨"FlatToLet$Couple", "<init>", "()V"⟩ "FlatToLet", .methodLinkNest "FlatToLet" 33 ⟨"FlatToLet$Pensioner", "<init>", "()V"⟩ "FlatToLet", .methodLinkNest "FlatToLet$Pensioner" 1 ⟨"FlatToLet$Student", "<init>", "()V"⟩ "FlatToLet", .methodLinkNest "FlatToLet" 36 ⟨"FlatToLet$Cat", "<init>", "()V"⟩ "FlatToLet", .methodLinkNest "FlatToLet$Cat" 3 ⟨"FlatToLet$Viewer", "<init>", "()V"⟩ "FlatToLet", .methodLinkNest "FlatToLet" 54 ⟨"FlatToLet$Texts", "<init>", "()V"⟩ "FlatToLet", .methodLinkNest "FlatToLet" 70 ⟨"FlatToLet$Sheets", "<init>", "()V"⟩ "FlatToLet", .methodLinkNest "FlatToLet$Visit" 26 ⟨"FlatToLet$Viewer", "<init>", "()V"⟩ "FlatToLet", .methodLinkNest "FlatToLet$Reader" 29 ⟨"FlatToLet", "set", "([III)V"⟩ "FlatToLet", .methodLinkNest "FlatToLet$Reader" 54 ⟨"FlatToLet", "at", "([II)I"⟩ "FlatToLet", .methodLinkNest "FlatToLet$Texts" 34 ⟨"FlatToLet", "within", "(II)Z"⟩ "FlatToLet", .methodLinkNest "FlatToLet$Texts" 38 ⟨"FlatToLet", "set", "([III)V"⟩ "FlatToLet", .methodLinkNest "FlatToLet$Visit" 41 ⟨"FlatToLet", "at", "([II)I"⟩ "FlatToLet", .methodLinkNest "FlatToLet$Visit" 45 ⟨"FlatToLet", "set", "([III)V"⟩ "FlatToLet", .methodLinkNest "FlatToLet$Texts" 46 ⟨"FlatToLet", "at", "([II)I"⟩ "FlatToLet", .methodLinkNest "FlatToLet$Texts" 54 ⟨"FlatToLet", "bound", "(III)I"⟩ "FlatToLet", .methodLinkNest "FlatToLet$Sheets" 21 ⟨"FlatToLet", "at", "([II)I"⟩ "FlatToLet", .methodLinkNest "FlatToLet$Sheets" 43 ⟨"FlatToLet", "within", "(II)Z"⟩ "FlatToLet", .declares ⟨"FlatToLet$Viewer", "offers", "(III)I"⟩, .methodLinkNest "FlatToLet$Sheets" 25 ⟨"FlatToLet", "set", "([III)V"⟩ "FlatToLet", .methodLinkNest "FlatToLet$State" 28 ⟨"FlatToLet", "at", "([II)I"⟩ "FlatToLet", .methodLinkNest "FlatToLet$State" 32 ⟨"FlatToLet", "set", "([III)V"⟩ "FlatToLet", .castable "FlatToLet$Doctor" "FlatToLet$Couple", .castable "FlatToLet$Pensioner" "FlatToLet$Student", .castable "FlatToLet$Couple" "FlatToLet$Viewer", .castable "FlatToLet$Student" "FlatToLet$Viewer", .castable "FlatToLet$Doctor" "FlatToLet$Viewer", .castable "FlatToLet$Pensioner" "FlatToLet$Viewer", .castable "FlatToLet$Cat" "FlatToLet$Viewer", .arrayOver (.object "FlatToLet$Viewer")]
def am_nc : List (String × String) := [("FlatToLet$Viewer", "FlatToLet$Couple"), ("FlatToLet$Viewer", "FlatToLet$Student"), ("FlatToLet$Viewer", "FlatToLet$Doctor"), ("FlatToLet$Viewer", "FlatToLet$Pensioner"), ("FlatToLet$Viewer", "FlatToLet$Cat"), ("FlatToLet$Couple", "FlatToLet$Student"), ("FlatToLet$Couple", "FlatToLet$Doctor"), ("FlatToLet$Couple", "FlatToLet$Pensioner"), ("FlatToLet$Couple", "FlatToLet$Cat"), ("FlatToLet$Student", "FlatToLet$Couple"), ("FlatToLet$Student", "FlatToLet$Doctor"), ("FlatToLet$Student", "FlatToLet$Pensioner"), ("FlatToLet$Student", "FlatToLet$Cat"), ("FlatToLet$Doctor", "FlatToLet$Student"), ("FlatToLet$Doctor", "FlatToLet$Pensioner"), ("FlatToLet$Doctor", "FlatToLet$Cat"), ("FlatToLet$Pensioner", "FlatToLet$Couple"), ("FlatToLet$Pensioner", "FlatToLet$Doctor"), ("FlatToLet$Pensioner", "FlatToLet$Cat"), ("FlatToLet$Cat", "FlatToLet$Couple"), ("FlatToLet$Cat", "FlatToLet$Student"), ("FlatToLet$Cat", "FlatToLet$Doctor"), ("FlatToLet$Cat", "FlatToLet$Pensioner")]
def am_K (X : am_X) (U : State) : Prop :=
  va_K X.2.2.1 vwCl [(X.2.2.2.1, .int), (X.2.2.2.2, .object RX9)] U ∧ (∀ w ∈ am_nw, va_Nw w U) ∧ (∀ q ∈ am_nc, va_Nc q.1 q.2 U) ∧ (∀ q ∈ am_str, vk_R q.1 q.2.1 q.2.2.1 (X.2.1 q.2.2.2) U)
def am_H (X : am_X) (U : State) (H : Heap) : Prop :=
  vk_S 13 am_len am_byt X.2.1 (fun i => X.2.1 (100 + i)) (am_F X) U H ∧ va_Z "java/lang/String" "COMPACT_STRINGS" "Z" (.int 1) (am_F X) U H ∧ va_Zq "jdk/internal/util/Preconditions" "SIOOBE_FORMATTER" "Ljava/util/function/BiFunction;" (am_F X) U H
def am_isN : Cond → Bool
  | .methodLinkNest _ _ _ _ => true
  | .castable _ _ => true
  | .declares _ => true
  | .arrayOver (.object _) => true
  | _ => false
theorem am_nw_ok : am_nw.all am_isN = true := by decide +kernel
theorem am_nw_warm {w : Cond} (h : am_isN w = true) {s U : State} (hW : s.WarmedH U.vm) (hZ : va_Nw w s) : va_Nw w U := by
  cases w <;> first | (exact va_Nw.warmM hW hZ) | (exact va_Nw.warmC hW hZ) | (exact va_Nw.warmD hW hZ) | (cases h; done) | (rename_i t; cases t <;> first | (exact va_AO.moved hW.alike hZ) | (cases h))
theorem am_K_warm {X : am_X} {s U : State} (hW : s.WarmedH U.vm) (h : am_K X s) : am_K X U := by
  obtain ⟨h1, h2, h3, h4⟩ := h
  exact ⟨va_K.moved hW.alike h1, fun w hw => am_nw_warm (List.all_eq_true.mp am_nw_ok w hw) hW (h2 w hw), fun q hq => va_Nc.moved hW.alike (h3 q hq), fun q hq => vk_R.warm hW (h4 q hq)⟩
theorem am_nw_same {w : Cond} (h : am_isN w = true) {s U : State} (hv : s.vm = U.vm) (hZ : va_Nw w s) : va_Nw w U := by
  cases w <;> first | (exact va_Nw.same rfl hv hZ) | (cases h; done) | (rename_i t; cases t <;> first | (exact va_AO.moved (u := s) (U := U) (hv ▸ Vm.Alike.refl _) hZ) | (cases h))
theorem am_K_same {X : am_X} {s U : State} (hv : s.vm = U.vm) (h : am_K X s) : am_K X U := by
  obtain ⟨h1, h2, h3, h4⟩ := h
  have ha : s.vm.Alike U.vm := by rw [hv]; exact Vm.Alike.refl _
  exact ⟨va_K.moved ha h1, fun w hw => am_nw_same (List.all_eq_true.mp am_nw_ok w hw) hv (h2 w hw), fun q hq => va_Nc.moved ha (h3 q hq), fun q hq => vk_R.same hv.symm (h4 q hq)⟩
theorem am_H_to {X : am_X} {s U : State} {H H1 : Heap} (hv : s.vm.Alike U.vm) (hk : ∀ a : Nat, a < H.size → ¬ am_F X a → H1[a]? = H[a]?) (h : am_H X s H) : am_H X U H1 := by
  obtain ⟨h1, h2, h3⟩ := h
  exact ⟨(h1.moved hv).kept hk, (h2.moved hv).kept hk, (h3.moved hv).kept hk⟩
/-! contracts -/
abbrev am_M : Type := MethodName × ByteArray × Nat × Option FieldType
/-- the goal: a law's script, or none; depth, new cells, new slots, result, world at the end -/
abbrev am_g : Type := Option (Nat × (Nat → Int32)) × Nat × Nat × Nat × Option Value × am_W
def am_rm (d mc ms : Nat) : Room := { frames := d, cells := mc, slots := ms, locals := 60 * d }
def am_R (g : am_g) : Room := match g.1 with
  | some _ => room_1
  | none => am_rm g.2.1 g.2.2.1 g.2.2.2.1
def am_P (X : am_X) (r : Option Value) (wF : am_W) : Array Value → State → Outcome → State → Prop := fun _ st o t =>
  (o = .returned (r.map (am_cv X)) ∧ va_P X.2.2.1 vwCl (am_wr X wF) t.heap) ∧ va_F (am_F X) st t
def am_Q (X : am_X) (g : am_g) (below : List Frame) (args : Array Value) (s : State) : State → Prop := match g.1 with
  | some _ => lw_Z below args s
  | none => MQ below (am_P X g.2.2.2.2.1 g.2.2.2.2.2) args s g.2.2.1 g.2.2.2.1 (am_F X)
def am_S (X : am_X) (g : am_g) (args : Array Value) (s : State) : Prop := match g.1 with
  | some q => q.1 ≤ 3584 ∧ args = #[.ref (X.2.1 50)] ∧ X.2.1 50 < X.1 ∧ va_X (X.2.1 50) q.1 q.2 s s.heap
  | none => True
def am_E (X : am_X) (M : am_M) (g : am_g) (p : Program) (s : State) (m : MethodId) (args : Array Value) (meth : Method) (c : Code) : Prop :=
  p.tables.exec = Jvm.exec ∧ c.code = M.2.1 ∧ c.maxLocals = M.2.2.1 ∧ meth.sig.returnType = M.2.2.2 ∧ s.vm.findClass M.1.cls = some m.cls ∧ (∀ w ∈ am_WS, w.before args s = true) ∧ meth.locks = false ∧ (M.1.name = "<init>" → meth.name = "<init>") ∧ am_K X s ∧ am_H X s s.heap ∧ X.1 ≤ s.heap.size ∧ am_S X g args s
def am_L (X : am_X) (lsA : Array Slot) (n : Nat) (ls : List (Option Value)) : Prop := ls.length = n ∧ lsA.size = n ∧ lv_wf lsA ∧ ∀ (i : Nat) (v : Value), ls[i]? = some (some v) → lsA[i]? = some (.val (am_cv X v))
def am_G (M : am_M) (g : am_g) (kn : Nat × Nat) (pc : Nat) (ls : List (Option Value)) (st : List Value) (ws : am_W) : Prop :=
  ∀ (X : am_X) (p : Program) (l : Launch) (e : Env) (s : State) (m : MethodId) (args : Array Value) (below : List Frame) (meth : Method) (c : Code), am_E X M g p s m args meth c →
    ∀ (H : Heap) (locs : List Loc) (lsA : Array Slot), va_P X.2.2.1 vwCl (am_wr X ws) H → va_S (am_F X) s.heap H locs → s.heap.size + kn.1 = X.1 + ws.length ∧ ws.length ≤ 1000 → am_L X lsA M.2.2.1 ls →
      W p l e (am_R g) s m args below meth c H locs kn.1 kn.2 (am_Q X g below args s) (F0 m pc lsA (st.map (am_cv X)))
def am_T (M : am_M) (d mc ms : Nat) (as : List Value) (ws : am_W) (r : Option Value) (wF : am_W) : Prop :=
  (wF.length = ws.length + mc ∧ (mc = 0 ∨ wF.length ≤ 1000)) ∧ ∀ (l : Launch) (X : am_X), Met l M.1 (Cond.code M.1 M.2.1 M.2.2.1 M.2.2.2 :: am_WS) (am_rm d mc ms)
    (va_Pc (as.map (am_cv X)) (fun U => (am_K X U ∧ am_H X U U.heap) ∧ va_P X.2.2.1 vwCl (am_wr X ws) U.heap ∧ U.heap.size = X.1 + ws.length ∧ ws.length ≤ 1000)) (am_P X r wF) mc ms (am_F X)
/-! locals -/
def am_as (X : am_X) (ls : List (Option Value)) : List (Nat × Value) := ls.zipIdx.filterMap (fun q => q.1.map (fun v => (q.2, am_cv X v)))
theorem am_as_in {X : am_X} {ls : List (Option Value)} {i : Nat} {v : Value} (h : ls[i]? = some (some v)) : (i, am_cv X v) ∈ am_as X ls :=
  List.mem_filterMap.mpr ⟨(some v, i), List.mem_zipIdx_iff_getElem?.mpr h, rfl⟩
theorem am_has {X : am_X} {lsA : Array Slot} {n : Nat} {ls : List (Option Value)} (h : am_L X lsA n ls) : lv_has lsA n (am_as X ls) := by
  refine ⟨h.2.1, h.2.2.1, fun q hq => ?_⟩
  obtain ⟨⟨o, i⟩, h1, h2⟩ := List.mem_filterMap.mp hq
  have h3 := List.mem_zipIdx_iff_getElem?.mp h1
  cases o with
  | none => cases h2
  | some v =>
    cases h2
    exact h.2.2.2 i v h3
def am_ok (ls : List (Option Value)) : Nat → Bool
  | 0 => true
  | j + 1 => match ls[j]? with
    | some (some v) => v.category == 1
    | _ => true
theorem am_ok_spec {ls : List (Option Value)} {i j : Nat} {v : Value} (h : am_ok ls i = true) (hj : j + 1 = i) (hv : ls[j]? = some (some v)) : ¬ v.category = 2 := by
  subst hj
  simp only [am_ok, hv, beq_iff_eq] at h
  omega
theorem am_st1 {X : am_X} {lsA : Array Slot} {n : Nat} {ls : List (Option Value)} {i : Nat} {v : Value} (h : ls.length = n) (hi : i < n) (hok : am_ok ls i = true)
    (h' : lv_has lsA n ((i, am_cv X v) :: (am_as X ls).filter (fun q => !(q.1 == i) && !(q.1 + 1 == i && q.2.category == 2)))) : am_L X lsA n (ls.set i (some v)) := by
  refine ⟨by rw [List.length_set]; exact h, h'.1, h'.2.1, fun j w hj => ?_⟩
  by_cases e : j = i
  · subst e
    rw [List.getElem?_set_self (by rw [h]; exact hi)] at hj
    cases hj
    exact h'.2.2 (j, am_cv X v) List.mem_cons_self
  · rw [List.getElem?_set_ne (Ne.symm e)] at hj
    refine h'.2.2 (j, am_cv X w) (List.mem_cons_of_mem _ (List.mem_filter.mpr ⟨am_as_in hj, ?_⟩))
    have hc : ¬ (j + 1 = i ∧ w.category = 2) := fun q => am_ok_spec hok q.1 hj q.2
    simp only [am_cat, Bool.and_eq_true, Bool.not_eq_true', beq_eq_false_iff_ne, ne_eq, Bool.and_eq_false_iff]
    refine ⟨e, ?_⟩
    rcases Classical.em (j + 1 = i) with q | q
    · exact Or.inr (fun z => hc ⟨q, z⟩)
    · exact Or.inl q
theorem am_st2 {X : am_X} {lsA : Array Slot} {n : Nat} {ls : List (Option Value)} {i : Nat} {v : Value} (h : ls.length = n) (hi : i + 1 < n) (hok : am_ok ls i = true)
    (h' : lv_has lsA n ((i, am_cv X v) :: (am_as X ls).filter (fun q => !(q.1 == i) && (!(q.1 == i + 1) && !(q.1 + 1 == i && q.2.category == 2))))) : am_L X lsA n ((ls.set i (some v)).set (i + 1) none) := by
  refine ⟨by rw [List.length_set, List.length_set]; exact h, h'.1, h'.2.1, fun j w hj => ?_⟩
  by_cases e1 : j = i + 1
  · subst e1
    rw [List.getElem?_set_self (by rw [List.length_set, h]; exact hi)] at hj
    cases hj
  · rw [List.getElem?_set_ne (Ne.symm e1)] at hj
    by_cases e : j = i
    · subst e
      rw [List.getElem?_set_self (by rw [h]; omega)] at hj
      cases hj
      exact h'.2.2 (j, am_cv X v) List.mem_cons_self
    · rw [List.getElem?_set_ne (Ne.symm e)] at hj
      refine h'.2.2 (j, am_cv X w) (List.mem_cons_of_mem _ (List.mem_filter.mpr ⟨am_as_in hj, ?_⟩))
      have hc : ¬ (j + 1 = i ∧ w.category = 2) := fun q => am_ok_spec hok q.1 hj q.2
      simp only [am_cat, Bool.and_eq_true, Bool.not_eq_true', beq_eq_false_iff_ne, ne_eq, Bool.and_eq_false_iff]
      refine ⟨e, e1, ?_⟩
      rcases Classical.em (j + 1 = i) with q | q
      · exact Or.inr (fun z => hc ⟨q, z⟩)
      · exact Or.inl q
def am_en : List Value → List (Option Value)
  | [] => []
  | v :: vs => if v.category = 2 then some v :: none :: am_en vs else some v :: am_en vs
theorem am_en_len (X : am_X) : ∀ as : List Value, (am_en as).length = (lg_sl (as.map (am_cv X))).length
  | [] => rfl
  | v :: vs => by
    have ih := am_en_len X vs
    simp only [am_en, lg_sl, List.map_cons, List.flatMap_cons, am_cat] at ih ⊢
    split <;> simp [ih]
theorem am_en_in (X : am_X) : ∀ (as : List Value) (o i : Nat) (v : Value), (am_en as)[i]? = some (some v) → (o + i, am_cv X v) ∈ lv_args o (as.map (am_cv X))
  | [], o, i, v, h => by simp [am_en] at h
  | w :: vs, o, i, v, h => by
    simp only [lv_args, List.map_cons, am_cat]
    rw [am_en] at h
    by_cases hc : w.category = 2
    · rw [if_pos hc] at h
      rw [if_pos hc]
      match i, h with
      | 0, h => cases h; exact List.mem_cons_self
      | 1, h => cases h
      | i + 2, h =>
        have := am_en_in X vs (o + 2) i v h
        rw [show o + (i + 2) = o + 2 + i by omega]
        exact List.mem_cons_of_mem _ this
    · rw [if_neg hc] at h
      rw [if_neg hc]
      match i, h with
      | 0, h => cases h; exact List.mem_cons_self
      | i + 1, h =>
        have := am_en_in X vs (o + 1) i v h
        rw [show o + (i + 1) = o + 1 + i by omega]
        exact List.mem_cons_of_mem _ this
theorem am_entry {X : am_X} {as : List Value} {n : Nat} (h : (am_en as).length ≤ n) : am_L X ((lg_sl (as.map (am_cv X)) ++ List.replicate (n - (lg_sl (as.map (am_cv X))).length) Slot.unset).toArray) n (am_en as ++ List.replicate (n - (am_en as).length) none) := by
  have hl := lv_entry (as.map (am_cv X)) (n := n) (by rw [← am_en_len]; exact h)
  refine ⟨by simp; omega, hl.1, hl.2.1, fun i v hi => ?_⟩
  have h1 : (am_en as)[i]? = some (some v) := by
    by_cases q : i < (am_en as).length
    · rw [List.getElem?_append_left q] at hi
      exact hi
    · rw [List.getElem?_append_right (by omega)] at hi
      have := List.mem_of_getElem? hi
      have := List.eq_of_mem_replicate this
      cases this
  have h2 := am_en_in X as 0 i v h1
  rw [Nat.zero_add] at h2
  exact hl.2.2 (i, am_cv X v) h2
/-- a method's contract out of a walk of its body -/
theorem am_meth {M : am_M} {d mc ms : Nat} {as : List Value} {ws wF : am_W} {r : Option Value} {ls : List (Option Value)} (hy : plainName M.1.cls = true) (hls : am_en as ++ List.replicate (M.2.2.1 - (am_en as).length) none = ls) (hle : (am_en as).length ≤ M.2.2.1) (hlen : wF.length = ws.length + mc ∧ (mc = 0 ∨ wF.length ≤ 1000))
    (k : am_G M (none, d, mc, ms, r, wF) (0, 0) 0 ls [] ws) : am_T M d mc ms as ws r wF := by
  refine ⟨hlen, fun l X => ?_⟩
  refine Met.ofW (cc := M.2.1) (maxL := M.2.2.1) (ret := M.2.2.2) hy rfl ?_
  intro p e s m args below meth c s₁ B hml hv
  obtain ⟨rfl, ⟨hK, hH⟩, hP, hsz, hle2⟩ := hv
  have hts := atoms_spec (ws := Cond.code M.1 M.2.1 M.2.2.1 M.2.2.2 :: am_WS) B.pre
  rw [lg_entry_eq]
  subst hls
  exact k X p l e s m _ below meth c ⟨B.exec, B.bytes, hml, B.returns, findClass_of_methodNamed B.named, fun w hw => hts w (List.mem_cons_of_mem _ hw), B.notSynchronized, fun h => (name_of_methodNamed B.named B.method).1.trans h, hK, hH, by rw [hsz]; exact Nat.le_add_right _ _, trivial⟩ s.heap [] _ hP va_S.rf ⟨hsz, hle2⟩ (am_entry hle)
