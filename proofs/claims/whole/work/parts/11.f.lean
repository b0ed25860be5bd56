/-! the law from its start -/
theorem lw_t1 {w : Cond} (k : Nat) (h : tables_1_1[k]? = some w) : w ∈ lw_tbl := List.mem_append_right _ (List.mem_append_left _ (List.mem_of_getElem? h))
theorem lw_t2 {w : Cond} (k : Nat) (h : tables_1_2[k]? = some w) : w ∈ lw_tbl := List.mem_append_right _ (List.mem_append_right _ (List.mem_append_left _ (List.mem_of_getElem? h)))
theorem lw_t3 {w : Cond} (k : Nat) (h : tables_1_3[k]? = some w) : w ∈ lw_tbl := List.mem_append_right _ (List.mem_append_right _ (List.mem_append_right _ (List.mem_append_left _ (List.mem_of_getElem? h))))
theorem lw_t4 {w : Cond} (k : Nat) (h : tables_1_4[k]? = some w) : w ∈ lw_tbl := List.mem_append_right _ (List.mem_append_right _ (List.mem_append_right _ (List.mem_append_right _ (List.mem_append_left _ (List.mem_of_getElem? h)))))
theorem lw_t5 {w : Cond} (k : Nat) (h : tables_1_5[k]? = some w) : w ∈ lw_tbl := List.mem_append_right _ (List.mem_append_right _ (List.mem_append_right _ (List.mem_append_right _ (List.mem_append_right _ (List.mem_append_left _ (List.mem_of_getElem? h))))))
theorem lw_t6 {w : Cond} (k : Nat) (h : tables_1_6[k]? = some w) : w ∈ lw_tbl := List.mem_append_right _ (List.mem_append_right _ (List.mem_append_right _ (List.mem_append_right _ (List.mem_append_right _ (List.mem_append_right _ (List.mem_of_getElem? h))))))
theorem wi_X11 : Cond.instantiable RX11 16 ∈ am_WS := am_t1 22 (by decide +kernel) rfl
theorem wn_X11 : Cond.initialized RX11 ∈ am_WS := am_t1 1 (by decide +kernel) rfl
theorem nw_L_7 : am_nwc RL 7 11 16 [.null, .null, .int 0, .null, .null, .null, .null, .null, .null, .null, .null, .null, .null, .int 0, .null, .null] := ⟨RX11, TX11, tyX11, rfl, tyX11_ok, uin_X11, kl_L_7, wi_X11, wn_X11, fun j hj => co_dec (N := 16) (P := fun j => defaultValue (tyX11 j) = vp_V [.null, .null, .int 0, .null, .null, .null, .null, .null, .null, .null, .null, .null, .null, .int 0, .null, .null] j) (by decide +kernel) hj, fun X => rfl⟩
theorem wi_X12 : Cond.instantiable RX12 39 ∈ am_WS := am_t4 174 (by decide +kernel) rfl
theorem wn_X12 : Cond.initialized RX12 ∈ am_WS := am_t1 17 (by decide +kernel) rfl
theorem nw_L_10 : am_nwc RL 10 12 39 [.int 0, .null, .null, .null, .null, .int 0, .null, .int 0, .null, .null, .int 0, .int 0, .int 0, .null, .null, .null, .null, .null, .null, .int 0, .int 0, .int 0, .int 0, .null, .null, .int 0, .int 0, .int 0, .null, .null, .null, .int 0, .int 0, .int 0, .int 0, .null, .null, .null, .null] := ⟨RX12, TX12, tyX12, rfl, tyX12_ok, uin_X12, kl_L_10, wi_X12, wn_X12, fun j hj => co_dec (N := 39) (P := fun j => defaultValue (tyX12 j) = vp_V [.int 0, .null, .null, .null, .null, .int 0, .null, .int 0, .null, .null, .int 0, .int 0, .int 0, .null, .null, .null, .null, .null, .null, .int 0, .int 0, .int 0, .int 0, .null, .null, .int 0, .int 0, .int 0, .null, .null, .null, .int 0, .int 0, .int 0, .int 0, .null, .null, .null, .null] j) (by decide +kernel) hj, fun X => rfl⟩
theorem lw_start {R : sx_T → sm_T → Prop} (hR : lw_all R) {Si : sx_T} {Mi : sm_T} (h1 : fx_X11_init_end SX0 = some Si) (h2 : fx_X12_init_end SM0 = some Mi) (h0 : R Si Mi) {L : Nat} {xs : Nat → Int32} (hL : L ≤ 3584) : am_G mL_law (lw_g L xs) (0, 0) 0 [some (.ref 1050), none, none, none] [] [] := by
  refine am_new (pc' := 3) (ws' := cw_1) (q := 0) dL_law_0 nw_L_7 rfl rfl (lw_rc 1 16 rfl rfl L xs) rfl rfl ?_
  refine am_dupa (pc' := 4) dL_law_3 rfl ?_
  refine am_callI (pc' := 7) (kn' := (45, 2019)) (w1 := sx_w Si []) [.ref 0] [] dL_law_4 cs_L_9 rfl (tk_X11_init_0 Si h1) rfl rfl rfl ⟨lw_rf (319 + 1) (8 + (mX11_init.2.2.1 + 11) + 60 * 319) (by decide +kernel) (by decide +kernel) L xs, lw_rc (1 + 44) (16 + 2003) (by decide +kernel) (by decide +kernel) L xs⟩ (by decide +kernel) rfl ?_
  refine am_astore_n (pc' := 8) (ls' := [some (.ref 1050), some (.ref 0), none, none]) 1 dL_law_7 rfl (by decide) rfl rfl rfl ?_
  refine am_new (pc' := 11) (ws' := cm_1 Si) (q := 45) dL_law_8 nw_L_10 rfl rfl (lw_rc 46 2058 (by decide +kernel) (by decide +kernel) L xs) rfl rfl ?_
  refine am_dupa (pc' := 12) dL_law_11 rfl ?_
  refine am_callI (pc' := 15) (kn' := lw_kn) (w1 := sx_w Si (sm_w Mi)) [.ref 45] [] dL_law_12 cs_L_12 rfl (tk_X12_init_45 Si Mi h2) rfl rfl rfl ⟨lw_rf (5 + 1) (8 + (mX12_init.2.2.1 + 11) + 60 * 5) (by decide +kernel) (by decide +kernel) L xs, lw_rc (46 + 22) (2058 + 2301) (by decide +kernel) (by decide +kernel) L xs⟩ (by decide +kernel) rfl ?_
  refine am_astore_n (pc' := 16) (ls' := [some (.ref 1050), some (.ref 0), some (.ref 45), none]) 2 dL_law_15 rfl (by decide) rfl rfl rfl ?_
  refine am_iconst (pc' := 17) (v := nI 0) dL_law_16 (by decide) rfl ?_
  refine am_istore_n (pc' := 18) (ls' := [some (.ref 1050), some (.ref 0), some (.ref 45), some (.int (nI 0))]) 3 dL_law_17 rfl (by decide) rfl rfl rfl ?_
  exact lw_loop hR hL L 0 Si Mi (by omega) (by omega) h0
