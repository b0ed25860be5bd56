theorem wo_X11_1 : Cond.methodLink RX11 1 objectInit ∈ am_WS := am_t1 26 (by decide +kernel) rfl
theorem wi_X6 : Cond.instantiable RX6 7 ∈ am_WS := am_t1 30 (by decide +kernel) rfl
theorem wn_X6 : Cond.initialized RX6 ∈ am_WS := am_t1 2 (by decide +kernel) rfl
theorem nw_X11_7 : am_nwc RX11 7 6 7 [.null, .null, .null, .null, .int 0, .int 0, .int 0] := ⟨RX6, TX6, tyX6, rfl, tyX6_ok, uin_X6, kl_X11_7, wi_X6, wn_X6, fun j hj => co_dec (N := 7) (P := fun j => defaultValue (tyX6 j) = vp_V [.null, .null, .null, .null, .int 0, .int 0, .int 0] j) (by decide +kernel) hj, fun X => rfl⟩
theorem wo_X6_3 : Cond.methodLink RX6 3 objectInit ∈ am_WS := am_t1 34 (by decide +kernel) rfl
theorem wi_X9 : Cond.instantiable RX9 0 ∈ am_WS := am_t1 71 (by decide +kernel) rfl
theorem wn_X9 : Cond.initialized RX9 ∈ am_WS := am_t1 3 (by decide +kernel) rfl
theorem nw_X11_19 : am_nwc RX11 19 9 0 [] := ⟨RX9, TX9, tyX9, rfl, tyX9_ok, uin_X9, kl_X11_19, wi_X9, wn_X9, fun j hj => absurd hj (Nat.not_lt_zero j), fun X => rfl⟩
theorem wo_X9_1 : Cond.methodLink RX9 1 objectInit ∈ am_WS := am_t1 75 (by decide +kernel) rfl
theorem wi_X1 : Cond.instantiable RX1 0 ∈ am_WS := am_t1 78 (by decide +kernel) rfl
theorem wn_X1 : Cond.initialized RX1 ∈ am_WS := am_t1 4 (by decide +kernel) rfl
theorem nw_X11_22 : am_nwc RX11 22 1 0 [] := ⟨RX1, TX1, tyX1, rfl, tyX1_ok, uin_X1, kl_X11_22, wi_X1, wn_X1, fun j hj => absurd hj (Nat.not_lt_zero j), fun X => rfl⟩
theorem wi_X7 : Cond.instantiable RX7 0 ∈ am_WS := am_t1 85 (by decide +kernel) rfl
theorem wn_X7 : Cond.initialized RX7 ∈ am_WS := am_t1 5 (by decide +kernel) rfl
theorem nw_X11_25 : am_nwc RX11 25 7 0 [] := ⟨RX7, TX7, tyX7, rfl, tyX7_ok, uin_X7, kl_X11_25, wi_X7, wn_X7, fun j hj => absurd hj (Nat.not_lt_zero j), fun X => rfl⟩
theorem wi_X2 : Cond.instantiable RX2 0 ∈ am_WS := am_t1 92 (by decide +kernel) rfl
theorem wn_X2 : Cond.initialized RX2 ∈ am_WS := am_t1 6 (by decide +kernel) rfl
theorem nw_X11_28 : am_nwc RX11 28 2 0 [] := ⟨RX2, TX2, tyX2, rfl, tyX2_ok, uin_X2, kl_X11_28, wi_X2, wn_X2, fun j hj => absurd hj (Nat.not_lt_zero j), fun X => rfl⟩
theorem wi_X3 : Cond.instantiable RX3 0 ∈ am_WS := am_t1 99 (by decide +kernel) rfl
theorem wn_X3 : Cond.initialized RX3 ∈ am_WS := am_t1 7 (by decide +kernel) rfl
theorem nw_X11_31 : am_nwc RX11 31 3 0 [] := ⟨RX3, TX3, tyX3, rfl, tyX3_ok, uin_X3, kl_X11_31, wi_X3, wn_X3, fun j hj => absurd hj (Nat.not_lt_zero j), fun X => rfl⟩
theorem wi_X0 : Cond.instantiable RX0 0 ∈ am_WS := am_t1 106 (by decide +kernel) rfl
theorem wn_X0 : Cond.initialized RX0 ∈ am_WS := am_t1 8 (by decide +kernel) rfl
theorem nw_X11_34 : am_nwc RX11 34 0 0 [] := ⟨RX0, TX0, tyX0, rfl, tyX0_ok, uin_X0, kl_X11_34, wi_X0, wn_X0, fun j hj => absurd hj (Nat.not_lt_zero j), fun X => rfl⟩
theorem wi_X8 : Cond.instantiable RX8 7 ∈ am_WS := am_t1 113 (by decide +kernel) rfl
theorem wn_X8 : Cond.initialized RX8 ∈ am_WS := am_t1 9 (by decide +kernel) rfl
theorem nw_X11_52 : am_nwc RX11 52 8 7 [.null, .null, .null, .null, .int 0, .int 0, .int 0] := ⟨RX8, TX8, tyX8, rfl, tyX8_ok, uin_X8, kl_X11_52, wi_X8, wn_X8, fun j hj => co_dec (N := 7) (P := fun j => defaultValue (tyX8 j) = vp_V [.null, .null, .null, .null, .int 0, .int 0, .int 0] j) (by decide +kernel) hj, fun X => rfl⟩
theorem wo_X8_3 : Cond.methodLink RX8 3 objectInit ∈ am_WS := am_t1 117 (by decide +kernel) rfl
theorem wi_X4 : Cond.instantiable RX4 8 ∈ am_WS := am_t1 142 (by decide +kernel) rfl
theorem wn_X4 : Cond.initialized RX4 ∈ am_WS := am_t1 10 (by decide +kernel) rfl
theorem nw_X11_59 : am_nwc RX11 59 4 8 [.null, .int 0, .null, .null, .null, .int 0, .int 0, .int 0] := ⟨RX4, TX4, tyX4, rfl, tyX4_ok, uin_X4, kl_X11_59, wi_X4, wn_X4, fun j hj => co_dec (N := 8) (P := fun j => defaultValue (tyX4 j) = vp_V [.null, .int 0, .null, .null, .null, .int 0, .int 0, .int 0] j) (by decide +kernel) hj, fun X => rfl⟩
theorem wo_X4_3 : Cond.methodLink RX4 3 objectInit ∈ am_WS := am_t1 146 (by decide +kernel) rfl
theorem wi_X5 : Cond.instantiable RX5 3 ∈ am_WS := am_t1 174 (by decide +kernel) rfl
theorem wn_X5 : Cond.initialized RX5 ∈ am_WS := am_t1 11 (by decide +kernel) rfl
theorem nw_X11_68 : am_nwc RX11 68 5 3 [.null, .null, .null] := ⟨RX5, TX5, tyX5, rfl, tyX5_ok, uin_X5, kl_X11_68, wi_X5, wn_X5, fun j hj => co_dec (N := 3) (P := fun j => defaultValue (tyX5 j) = vp_V [.null, .null, .null] j) (by decide +kernel) hj, fun X => rfl⟩
theorem wo_X5_3 : Cond.methodLink RX5 3 objectInit ∈ am_WS := am_t1 178 (by decide +kernel) rfl
theorem wi_X10 : Cond.instantiable RX10 13 ∈ am_WS := am_t1 190 (by decide +kernel) rfl
theorem wn_X10 : Cond.initialized RX10 ∈ am_WS := am_t1 12 (by decide +kernel) rfl
theorem nw_X11_75 : am_nwc RX11 75 10 13 [.null, .null, .null, .null, .null, .int 0, .null, .int 0, .int 0, .int 0, .int 0, .null, .int 0] := ⟨RX10, TX10, tyX10, rfl, tyX10_ok, uin_X10, kl_X11_75, wi_X10, wn_X10, fun j hj => co_dec (N := 13) (P := fun j => defaultValue (tyX10 j) = vp_V [.null, .null, .null, .null, .null, .int 0, .null, .int 0, .int 0, .int 0, .int 0, .null, .int 0] j) (by decide +kernel) hj, fun X => rfl⟩
theorem wo_X10_3 : Cond.methodLink RX10 3 objectInit ∈ am_WS := am_t1 194 (by decide +kernel) rfl
theorem nw_X10_24 : am_nwc RX10 24 9 0 [] := ⟨RX9, TX9, tyX9, rfl, tyX9_ok, uin_X9, kl_X10_24, wi_X9, wn_X9, fun j hj => absurd hj (Nat.not_lt_zero j), fun X => rfl⟩
theorem wo_X12_1 : Cond.methodLink RX12 1 objectInit ∈ am_WS := am_t4 178 (by decide +kernel) rfl
def am_pre (L : List Int32) (i : Nat) : Nat → Int32 := fun j => if j < i then L.getD j 0 else 0
theorem am_pre_0 (L : List Int32) : (fun _ => 0) = am_pre L 0 := by
  funext j
  rfl
theorem am_pre_s (L : List Int32) (i : Nat) (v : Int32) (h : L[i]? = some v) (hi : i < 2147483648) : upd (am_pre L i) (nI i).toNatClampNeg v = am_pre L (i + 1) := by
  rw [nI_clamp hi]
  funext j
  simp only [upd, am_pre]
  by_cases e : j = i
  · subst e
    rw [if_pos rfl, if_pos (Nat.lt_succ_self j), List.getD_eq_getElem?_getD, h]
    rfl
  · rw [if_neg e]
    by_cases q : j < i
    · rw [if_pos q, if_pos (Nat.lt_succ_of_lt q)]
    · rw [if_neg q, if_neg (by omega)]
theorem am_pre_full (L : List Int32) (n : Nat) (h : L.length = n) : am_pre L n = fun i => L.getD i 0 := by
  funext j
  simp only [am_pre]
  by_cases q : j < n
  · rw [if_pos q]
  · rw [if_neg q, List.getD_eq_getElem?_getD, List.getElem?_eq_none (by omega)]
    rfl
theorem am_inC {i : Int32} {n : Nat} (h : ¬ (i < 0 ∨ n ≤ i.toNatClampNeg)) : vp_in i n := h
theorem am_kinds_full : va_up (va_up (va_up (va_up (va_up (va_up (fun _ => none) ((0 : Int32)).toNatClampNeg (some 12)) ((1 : Int32)).toNatClampNeg (some 13)) ((2 : Int32)).toNatClampNeg (some 14)) ((3 : Int32)).toNatClampNeg (some 15)) ((4 : Int32)).toNatClampNeg (some 16)) ((5 : Int32)).toNatClampNeg (some 17) = am_kinds := by
  funext j
  match j with
  | 0 => rfl
  | 1 => rfl
  | 2 => rfl
  | 3 => rfl
  | 4 => rfl
  | 5 => rfl
  | n + 6 => rfl
theorem am_iastP {M : am_M} {g : am_g} {kn : Nat × Nat} {pc pc' : Nat} {ls : List (Option Value)} {st : List Value} {ws ws' : am_W} {q n : Nat} {f f' : Nat → Int32} {i x : Int32} (d : decode M.2.1 pc = .ok (.iastore, 1)) (hc : ws[q]? = some (.inl (n, f))) (hin : vp_in i n) (hf : upd f i.toNatClampNeg x = f') (hw : ws.set q (.inl (n, f')) = ws') (hp : pc + 1 = pc') (k : am_G M g kn pc' ls st ws') : am_G M g kn pc ls (.int x :: .int i :: .ref q :: st) ws := am_iast d hc hin (by rw [hf]; exact hw) hp k
theorem am_cellP {M : am_M} {g : am_g} {kn : Nat × Nat} {pc : Nat} {ls : List (Option Value)} {st : List Value} {ws w1 : am_W} {n : Nat} {f : Nat → Int32} (q : Nat) (f' : Nat → Int32) (hc : ws[q]? = some (.inl (n, f))) (hf : f = f') (hw : ws.set q (.inl (n, f')) = w1) (k : am_G M g kn pc ls st w1) : am_G M g kn pc ls st ws := by
  have e : ws = w1 := by
    rw [← hw, ← hf]
    obtain ⟨h1, h2⟩ := List.getElem?_eq_some_iff.mp hc
    rw [← h2, List.set_getElem_self]
  rw [e]
  exact k
section
variable {M : am_M} {dd mc ms : Nat} {r0 : Option Value} {wF : am_W} {pc pc' : Nat} {ls ls' : List (Option Value)} {st st0 st' : List Value} {ws w1 ws' : am_W}
theorem am_cVm {idx n d' q ci : Nat} {fs : List Value} {q0 : vw_C} (rest as : List Value) {M' : am_M} {r : Option Value} (d : decode M.2.1 pc = .ok (.invokevirtual idx, 3)) (hs : am_cvt M.1.cls idx M' n) (hT : am_T M' d' 0 0 (.ref q :: as) ws r w1) (hn : as.length = n) (hst : as.reverse ++ (.ref q :: rest) = st0) (hst' : r.toList ++ rest = st') (hc : ws[q]? = some (.inr (.inr (ci, fs)))) (hcl : vwCl[ci]? = some q0) (hqc : q0.1 = M'.1.cls) (hcat : Nat.ble (rest.map fun v => v.category).sum 8 = true)
    (hroom : am_rb d' M'.2.2.1 dd = true) (hp : pc + 3 = pc') (k : am_G M (none, dd, mc, ms, r0, wF) (mc, ms) pc' ls st' w1) : am_G M (none, dd, mc, ms, r0, wF) (mc, ms) pc ls st0 ws := by
  subst hst'
  exact am_callV rest as d hs hT hn hst hc hcl hqc (Nat.le_of_ble_eq_true hcat) ⟨am_rb_s hroom, Nat.le_refl mc, Nat.le_refl ms⟩ rfl hp k
theorem am_cVsm {idx n d' j : Nat} (rest as : List Value) {M' : am_M} {r : Option Value} (d : decode M.2.1 pc = .ok (.invokevirtual idx, 3)) (hs : am_cvt M.1.cls idx M' n) (hT : am_T M' d' 0 0 (.ref (1000 + j) :: as) ws r w1) (hn : as.length = n) (hst : as.reverse ++ (.ref (1000 + j) :: rest) = st0) (hst' : r.toList ++ rest = st') (hj : j < 13) (hqc : M'.1.cls = "java/lang/String") (hcat : Nat.ble (rest.map fun v => v.category).sum 8 = true)
    (hroom : am_rb d' M'.2.2.1 dd = true) (hp : pc + 3 = pc') (k : am_G M (none, dd, mc, ms, r0, wF) (mc, ms) pc' ls st' w1) : am_G M (none, dd, mc, ms, r0, wF) (mc, ms) pc ls st0 ws := by
  subst hst'
  exact am_callVs rest as d hs hT hn hst hj hqc (Nat.le_of_ble_eq_true hcat) ⟨am_rb_s hroom, Nat.le_refl mc, Nat.le_refl ms⟩ hp k
end
theorem tc_X9_init (ws : am_W) (q : Nat) : am_T mX9_init 1 0 0 [.ref q] ws none ws := by
  refine am_meth (ls := [some (.ref q)]) (by decide +kernel) rfl (Nat.le_of_ble_eq_true rfl) ⟨rfl, Or.inl rfl⟩ ?_
  refine am_aload_n (pc' := 1) 0 dX9_init_0 rfl rfl rfl ?_
  refine am_oinit (pc' := 4) dX9_init_1 wo_X9_1 rfl ⟨Nat.le_of_ble_eq_true rfl, Nat.le_of_ble_eq_true rfl⟩ rfl ?_
  exact am_vret dX9_init_4 rfl rfl rfl

theorem tc_X1_init (ws : am_W) (q : Nat) : am_T mX1_init 2 0 0 [.ref q] ws none ws := by
  refine am_meth (ls := [some (.ref q)]) (by decide +kernel) rfl (Nat.le_of_ble_eq_true rfl) ⟨rfl, Or.inl rfl⟩ ?_
  refine am_aload_n (pc' := 1) 0 dX1_init_0 rfl rfl rfl ?_
  refine am_callIN (pc' := 4) (kn' := (0, 0)) (w1 := ws) [] [] dX1_init_1 cs_X1_1 rfl (tc_X9_init ws q) rfl rfl rfl ⟨⟨Nat.le_of_ble_eq_true rfl, Nat.le_of_ble_eq_true rfl⟩, Nat.le_refl 0, Nat.le_refl 0⟩ rfl rfl ?_
  exact am_vret dX1_init_4 rfl rfl rfl

theorem tc_X7_init (ws : am_W) (q : Nat) : am_T mX7_init 2 0 0 [.ref q] ws none ws := by
  refine am_meth (ls := [some (.ref q)]) (by decide +kernel) rfl (Nat.le_of_ble_eq_true rfl) ⟨rfl, Or.inl rfl⟩ ?_
  refine am_aload_n (pc' := 1) 0 dX7_init_0 rfl rfl rfl ?_
  refine am_callIN (pc' := 4) (kn' := (0, 0)) (w1 := ws) [] [] dX7_init_1 cs_X7_1 rfl (tc_X9_init ws q) rfl rfl rfl ⟨⟨Nat.le_of_ble_eq_true rfl, Nat.le_of_ble_eq_true rfl⟩, Nat.le_refl 0, Nat.le_refl 0⟩ rfl rfl ?_
  exact am_vret dX7_init_4 rfl rfl rfl

theorem tc_X2_init (ws : am_W) (q : Nat) : am_T mX2_init 3 0 0 [.ref q] ws none ws := by
  refine am_meth (ls := [some (.ref q)]) (by decide +kernel) rfl (Nat.le_of_ble_eq_true rfl) ⟨rfl, Or.inl rfl⟩ ?_
  refine am_aload_n (pc' := 1) 0 dX2_init_0 rfl rfl rfl ?_
  refine am_callIN (pc' := 4) (kn' := (0, 0)) (w1 := ws) [] [] dX2_init_1 cs_X2_1 rfl (tc_X1_init ws q) rfl rfl rfl ⟨⟨Nat.le_of_ble_eq_true rfl, Nat.le_of_ble_eq_true rfl⟩, Nat.le_refl 0, Nat.le_refl 0⟩ rfl rfl ?_
  exact am_vret dX2_init_4 rfl rfl rfl

theorem tc_X3_init (ws : am_W) (q : Nat) : am_T mX3_init 3 0 0 [.ref q] ws none ws := by
  refine am_meth (ls := [some (.ref q)]) (by decide +kernel) rfl (Nat.le_of_ble_eq_true rfl) ⟨rfl, Or.inl rfl⟩ ?_
  refine am_aload_n (pc' := 1) 0 dX3_init_0 rfl rfl rfl ?_
  refine am_callIN (pc' := 4) (kn' := (0, 0)) (w1 := ws) [] [] dX3_init_1 cs_X3_1 rfl (tc_X7_init ws q) rfl rfl rfl ⟨⟨Nat.le_of_ble_eq_true rfl, Nat.le_of_ble_eq_true rfl⟩, Nat.le_refl 0, Nat.le_refl 0⟩ rfl rfl ?_
  exact am_vret dX3_init_4 rfl rfl rfl

theorem tc_X0_init (ws : am_W) (q : Nat) : am_T mX0_init 2 0 0 [.ref q] ws none ws := by
  refine am_meth (ls := [some (.ref q)]) (by decide +kernel) rfl (Nat.le_of_ble_eq_true rfl) ⟨rfl, Or.inl rfl⟩ ?_
  refine am_aload_n (pc' := 1) 0 dX0_init_0 rfl rfl rfl ?_
  refine am_callIN (pc' := 4) (kn' := (0, 0)) (w1 := ws) [] [] dX0_init_1 cs_X0_3 rfl (tc_X9_init ws q) rfl rfl rfl ⟨⟨Nat.le_of_ble_eq_true rfl, Nat.le_of_ble_eq_true rfl⟩, Nat.le_refl 0, Nat.le_refl 0⟩ rfl rfl ?_
  exact am_vret dX0_init_4 rfl rfl rfl
