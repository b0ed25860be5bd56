theorem vq_keeps_0 {M : am_M} {dd : Nat} {r0 : Option Value} {wF : am_W} {pc pc' : Nat} {ls : List (Option Value)} {st : List Value} (S : sx_T) (r : am_W) (a1 a2 a3 a4 a5 : Int32) (d : decode M.2.1 pc = .ok (.invokevirtual 95, 3)) (hM : M.1.cls = RX10) (h1 : 4 ≤ dd) (h2 : (st.map fun v => v.category).sum ≤ 8) (hp : pc + 3 = pc') (k : am_G M (none, dd, 0, 0, r0, wF) (0, 0) pc' ls (.int (fx_X9_keeps a1 a2 a3 a4 a5) :: st) (sx_w S r)) : am_G M (none, dd, 0, 0, r0, wF) (0, 0) pc ls (.int a5 :: .int a4 :: .int a3 :: .int a2 :: .int a1 :: .ref 12 :: st) (sx_w S r) :=
  am_callU st [.int a1, .int a2, .int a3, .int a4, .int a5] d (hM ▸ cu_X10_95_X9) (tx_X9_keeps (sx_w S r) 12 9 _ (sx_c12 S r) rfl a1 a2 a3 a4 a5 _ rfl) rfl rfl (sx_c12 S r) rfl h2 ⟨am_rb_s (am_rbh (Nat.le_trans (Nat.le_of_ble_eq_true rfl : 0 + 1 ≤ 4) h1) (Nat.le_of_ble_eq_true rfl)), Nat.le_refl 0, Nat.le_refl 0⟩ rfl hp k
theorem vq_keeps_1 {M : am_M} {dd : Nat} {r0 : Option Value} {wF : am_W} {pc pc' : Nat} {ls : List (Option Value)} {st : List Value} (S : sx_T) (r : am_W) (a1 a2 a3 a4 a5 : Int32) (d : decode M.2.1 pc = .ok (.invokevirtual 95, 3)) (hM : M.1.cls = RX10) (h1 : 4 ≤ dd) (h2 : (st.map fun v => v.category).sum ≤ 8) (hp : pc + 3 = pc') (k : am_G M (none, dd, 0, 0, r0, wF) (0, 0) pc' ls (.int (fx_X1_keeps a1 a2 a3 a4 a5) :: st) (sx_w S r)) : am_G M (none, dd, 0, 0, r0, wF) (0, 0) pc ls (.int a5 :: .int a4 :: .int a3 :: .int a2 :: .int a1 :: .ref 13 :: st) (sx_w S r) :=
  am_callU st [.int a1, .int a2, .int a3, .int a4, .int a5] d (hM ▸ cu_X10_95_X1) (tx_X1_keeps (sx_w S r) 13 1 _ (sx_c13 S r) rfl a1 a2 a3 a4 a5 _ rfl) rfl rfl (sx_c13 S r) rfl h2 ⟨am_rb_s (am_rbh (Nat.le_trans (Nat.le_of_ble_eq_true rfl : 0 + 1 ≤ 4) h1) (Nat.le_of_ble_eq_true rfl)), Nat.le_refl 0, Nat.le_refl 0⟩ rfl hp k
theorem vq_keeps_2 {M : am_M} {dd : Nat} {r0 : Option Value} {wF : am_W} {pc pc' : Nat} {ls : List (Option Value)} {st : List Value} (S : sx_T) (r : am_W) (a1 a2 a3 a4 a5 : Int32) (d : decode M.2.1 pc = .ok (.invokevirtual 95, 3)) (hM : M.1.cls = RX10) (h1 : 4 ≤ dd) (h2 : (st.map fun v => v.category).sum ≤ 8) (hp : pc + 3 = pc') (k : am_G M (none, dd, 0, 0, r0, wF) (0, 0) pc' ls (.int (fx_X7_keeps a1 a2 a3 a4 a5) :: st) (sx_w S r)) : am_G M (none, dd, 0, 0, r0, wF) (0, 0) pc ls (.int a5 :: .int a4 :: .int a3 :: .int a2 :: .int a1 :: .ref 14 :: st) (sx_w S r) :=
  am_callU st [.int a1, .int a2, .int a3, .int a4, .int a5] d (hM ▸ cu_X10_95_X7) (tx_X7_keeps (sx_w S r) 14 7 _ (sx_c14 S r) rfl a1 a2 a3 a4 a5 _ rfl) rfl rfl (sx_c14 S r) rfl h2 ⟨am_rb_s (am_rbh (Nat.le_trans (Nat.le_of_ble_eq_true rfl : 0 + 1 ≤ 4) h1) (Nat.le_of_ble_eq_true rfl)), Nat.le_refl 0, Nat.le_refl 0⟩ rfl hp k
theorem vq_keeps_3 {M : am_M} {dd : Nat} {r0 : Option Value} {wF : am_W} {pc pc' : Nat} {ls : List (Option Value)} {st : List Value} (S : sx_T) (r : am_W) (a1 a2 a3 a4 a5 : Int32) (d : decode M.2.1 pc = .ok (.invokevirtual 95, 3)) (hM : M.1.cls = RX10) (h1 : 4 ≤ dd) (h2 : (st.map fun v => v.category).sum ≤ 8) (hp : pc + 3 = pc') (k : am_G M (none, dd, 0, 0, r0, wF) (0, 0) pc' ls (.int (fx_X1_keeps a1 a2 a3 a4 a5) :: st) (sx_w S r)) : am_G M (none, dd, 0, 0, r0, wF) (0, 0) pc ls (.int a5 :: .int a4 :: .int a3 :: .int a2 :: .int a1 :: .ref 15 :: st) (sx_w S r) :=
  am_callU st [.int a1, .int a2, .int a3, .int a4, .int a5] d (hM ▸ cu_X10_95_X2) (tx_X1_keeps (sx_w S r) 15 2 _ (sx_c15 S r) rfl a1 a2 a3 a4 a5 _ rfl) rfl rfl (sx_c15 S r) rfl h2 ⟨am_rb_s (am_rbh (Nat.le_trans (Nat.le_of_ble_eq_true rfl : 0 + 1 ≤ 4) h1) (Nat.le_of_ble_eq_true rfl)), Nat.le_refl 0, Nat.le_refl 0⟩ rfl hp k
theorem vq_keeps_4 {M : am_M} {dd : Nat} {r0 : Option Value} {wF : am_W} {pc pc' : Nat} {ls : List (Option Value)} {st : List Value} (S : sx_T) (r : am_W) (a1 a2 a3 a4 a5 : Int32) (d : decode M.2.1 pc = .ok (.invokevirtual 95, 3)) (hM : M.1.cls = RX10) (h1 : 4 ≤ dd) (h2 : (st.map fun v => v.category).sum ≤ 8) (hp : pc + 3 = pc') (k : am_G M (none, dd, 0, 0, r0, wF) (0, 0) pc' ls (.int (fx_X3_keeps a1 a2 a3 a4 a5) :: st) (sx_w S r)) : am_G M (none, dd, 0, 0, r0, wF) (0, 0) pc ls (.int a5 :: .int a4 :: .int a3 :: .int a2 :: .int a1 :: .ref 16 :: st) (sx_w S r) :=
  am_callU st [.int a1, .int a2, .int a3, .int a4, .int a5] d (hM ▸ cu_X10_95_X3) (tx_X3_keeps (sx_w S r) 16 3 _ (sx_c16 S r) rfl a1 a2 a3 a4 a5 _ rfl) rfl rfl (sx_c16 S r) rfl h2 ⟨am_rb_s (am_rbh (Nat.le_trans (Nat.le_of_ble_eq_true rfl : 1 + 1 ≤ 4) h1) (Nat.le_of_ble_eq_true rfl)), Nat.le_refl 0, Nat.le_refl 0⟩ rfl hp k
theorem vq_keeps_5 {M : am_M} {dd : Nat} {r0 : Option Value} {wF : am_W} {pc pc' : Nat} {ls : List (Option Value)} {st : List Value} (S : sx_T) (r : am_W) (a1 a2 a3 a4 a5 : Int32) (d : decode M.2.1 pc = .ok (.invokevirtual 95, 3)) (hM : M.1.cls = RX10) (h1 : 4 ≤ dd) (h2 : (st.map fun v => v.category).sum ≤ 8) (hp : pc + 3 = pc') (k : am_G M (none, dd, 0, 0, r0, wF) (0, 0) pc' ls (.int (fx_X9_keeps a1 a2 a3 a4 a5) :: st) (sx_w S r)) : am_G M (none, dd, 0, 0, r0, wF) (0, 0) pc ls (.int a5 :: .int a4 :: .int a3 :: .int a2 :: .int a1 :: .ref 17 :: st) (sx_w S r) :=
  am_callU st [.int a1, .int a2, .int a3, .int a4, .int a5] d (hM ▸ cu_X10_95_X0) (tx_X9_keeps (sx_w S r) 17 0 _ (sx_c17 S r) rfl a1 a2 a3 a4 a5 _ rfl) rfl rfl (sx_c17 S r) rfl h2 ⟨am_rb_s (am_rbh (Nat.le_trans (Nat.le_of_ble_eq_true rfl : 0 + 1 ≤ 4) h1) (Nat.le_of_ble_eq_true rfl)), Nat.le_refl 0, Nat.le_refl 0⟩ rfl hp k
theorem vq_keeps_6 {M : am_M} {dd : Nat} {r0 : Option Value} {wF : am_W} {pc pc' : Nat} {ls : List (Option Value)} {st : List Value} (S : sx_T) (r : am_W) (a1 a2 a3 a4 a5 : Int32) (d : decode M.2.1 pc = .ok (.invokevirtual 95, 3)) (hM : M.1.cls = RX10) (h1 : 4 ≤ dd) (h2 : (st.map fun v => v.category).sum ≤ 8) (hp : pc + 3 = pc') (k : am_G M (none, dd, 0, 0, r0, wF) (0, 0) pc' ls (.int (fx_X9_keeps a1 a2 a3 a4 a5) :: st) (sx_w S r)) : am_G M (none, dd, 0, 0, r0, wF) (0, 0) pc ls (.int a5 :: .int a4 :: .int a3 :: .int a2 :: .int a1 :: .ref 18 :: st) (sx_w S r) :=
  am_callU st [.int a1, .int a2, .int a3, .int a4, .int a5] d (hM ▸ cu_X10_95_X9) (tx_X9_keeps (sx_w S r) 18 9 _ (sx_c18 S r) rfl a1 a2 a3 a4 a5 _ rfl) rfl rfl (sx_c18 S r) rfl h2 ⟨am_rb_s (am_rbh (Nat.le_trans (Nat.le_of_ble_eq_true rfl : 0 + 1 ≤ 4) h1) (Nat.le_of_ble_eq_true rfl)), Nat.le_refl 0, Nat.le_refl 0⟩ rfl hp k
theorem vq_keeps_7 {M : am_M} {dd : Nat} {r0 : Option Value} {wF : am_W} {pc pc' : Nat} {ls : List (Option Value)} {st : List Value} (S : sx_T) (r : am_W) (a1 a2 a3 a4 a5 : Int32) (d : decode M.2.1 pc = .ok (.invokevirtual 95, 3)) (hM : M.1.cls = RX10) (h1 : 4 ≤ dd) (h2 : (st.map fun v => v.category).sum ≤ 8) (hp : pc + 3 = pc') (k : am_G M (none, dd, 0, 0, r0, wF) (0, 0) pc' ls (.int (fx_X9_keeps a1 a2 a3 a4 a5) :: st) (sx_w S r)) : am_G M (none, dd, 0, 0, r0, wF) (0, 0) pc ls (.int a5 :: .int a4 :: .int a3 :: .int a2 :: .int a1 :: .ref 39 :: st) (sx_w S r) :=
  am_callU st [.int a1, .int a2, .int a3, .int a4, .int a5] d (hM ▸ cu_X10_95_X9) (tx_X9_keeps (sx_w S r) 39 9 _ (sx_c39 S r) rfl a1 a2 a3 a4 a5 _ rfl) rfl rfl (sx_c39 S r) rfl h2 ⟨am_rb_s (am_rbh (Nat.le_trans (Nat.le_of_ble_eq_true rfl : 0 + 1 ≤ 4) h1) (Nat.le_of_ble_eq_true rfl)), Nat.le_refl 0, Nat.le_refl 0⟩ rfl hp k
theorem vr_keeps {M : am_M} {dd : Nat} {r0 : Option Value} {wF : am_W} {pc pc' : Nat} {ls : List (Option Value)} {st : List Value} (c : Fin 8) (S : sx_T) (r : am_W) (a1 a2 a3 a4 a5 : Int32) (d : decode M.2.1 pc = .ok (.invokevirtual 95, 3)) (hM : M.1.cls = RX10) (hd : (Nat.ble 4 dd && Nat.ble (st.map fun v => v.category).sum 8) = true) (hp : pc + 3 = pc') (k : am_G M (none, dd, 0, 0, r0, wF) (0, 0) pc' ls (.int (fk_keeps c a1 a2 a3 a4 a5) :: st) (sx_w S r)) : am_G M (none, dd, 0, 0, r0, wF) (0, 0) pc ls (.int a5 :: .int a4 :: .int a3 :: .int a2 :: .int a1 :: .ref (am_kr c) :: st) (sx_w S r) := by
  simp only [Bool.and_eq_true] at hd
  have h1 := Nat.le_of_ble_eq_true hd.1
  have h2 := Nat.le_of_ble_eq_true hd.2
  match c, k with
  | ⟨0, _⟩, k => exact vq_keeps_0 S r a1 a2 a3 a4 a5 d hM h1 h2 hp k
  | ⟨1, _⟩, k => exact vq_keeps_1 S r a1 a2 a3 a4 a5 d hM h1 h2 hp k
  | ⟨2, _⟩, k => exact vq_keeps_2 S r a1 a2 a3 a4 a5 d hM h1 h2 hp k
  | ⟨3, _⟩, k => exact vq_keeps_3 S r a1 a2 a3 a4 a5 d hM h1 h2 hp k
  | ⟨4, _⟩, k => exact vq_keeps_4 S r a1 a2 a3 a4 a5 d hM h1 h2 hp k
  | ⟨5, _⟩, k => exact vq_keeps_5 S r a1 a2 a3 a4 a5 d hM h1 h2 hp k
  | ⟨6, _⟩, k => exact vq_keeps_6 S r a1 a2 a3 a4 a5 d hM h1 h2 hp k
  | ⟨7, _⟩, k => exact vq_keeps_7 S r a1 a2 a3 a4 a5 d hM h1 h2 hp k
set_option maxRecDepth 100000 in
set_option maxHeartbeats 4000000 in
theorem tx_X10_keptOf (r : am_W) (a1 : Int32) (a2 : Int32) (a3 : Int32) (S : sx_T) (res : Int32 × sx_T) (hres : fx_X10_keptOf a1 a2 a3 S = some res) : am_T mX10_keptOf 4 0 0 [.ref 34, .int a1, .int a2, .int a3] (sx_w S r) (some (.int res.1)) (sx_w res.2 r) := by
  refine am_meth (ls := [some (.ref 34), some (.int a1), some (.int a2), some (.int a3), none]) (by decide +kernel) rfl (Nat.le_of_ble_eq_true rfl) (sx_len _ _ _) ?_
  rw [fx_X10_keptOf] at hres
  refine am_aload_n (pc' := 1) 0 dX10_keptOf_0 rfl rfl rfl ?_
  refine am_iload_n (pc' := 2) 1 dX10_keptOf_1 rfl rfl rfl ?_
  obtain ⟨q1, hq2, hres⟩ := am_let_s hres
  refine am_cV (pc' := 5) (st' := []) [] [.int a1] dX10_keptOf_2 cs_X10_84 (tx_X10_lookAt r a1 S _ hq2) rfl rfl rfl (sx_c34 S r) rfl rfl rfl rfl rfl ?_
  refine am_aload_n (pc' := 6) 0 dX10_keptOf_5 rfl rfl rfl ?_
  refine am_get (pc' := 9) (v := .ref (am_kr (sx_vi_kind q1))) dX10_keptOf_6 fl_X10_27 (sx_c34 q1 r) rfl rfl ?_
  refine am_iload_n (pc' := 10) 1 dX10_keptOf_9 rfl rfl rfl ?_
  refine am_aload_n (pc' := 11) 0 dX10_keptOf_10 rfl rfl rfl ?_
  refine am_get (pc' := 14) (v := .ref 21) dX10_keptOf_11 fl_X10_34 (sx_c34 q1 r) rfl rfl ?_
  refine am_aload_n (pc' := 15) 0 dX10_keptOf_14 rfl rfl rfl ?_
  refine am_get (pc' := 18) (v := .int (sx_vi_law q1)) dX10_keptOf_15 fl_X10_61 (sx_c34 q1 r) rfl rfl ?_
  refine am_iconst (pc' := 19) (v := 0) dX10_keptOf_18 kc_0 rfl ?_
  refine am_aload_n (pc' := 20) 0 dX10_keptOf_19 rfl rfl rfl ?_
  refine am_get (pc' := 23) (v := .ref 38) dX10_keptOf_20 fl_X10_21 (sx_c34 q1 r) rfl rfl ?_
  obtain ⟨q3, hq4, hres⟩ := am_bd_s hres
  refine am_cV (pc' := 26) (st' := [.int q3.1, .int a1, .ref (am_kr (sx_vi_kind q1))]) [.int a1, .ref (am_kr (sx_vi_kind q1))] [.int (sx_vi_law q1), .int (0 : Int32), .ref 38] dX10_keptOf_23 cs_X10_87 (tx_X8_said_r38 r (sx_vi_law q1) (0 : Int32) q1 _ hq4) rfl rfl rfl (sx_c21 q1 r) rfl rfl rfl rfl rfl ?_
  refine am_aload_n (pc' := 27) 0 dX10_keptOf_26 rfl rfl rfl ?_
  refine am_get (pc' := 30) (v := .int (sx_vi_more q3.2)) dX10_keptOf_27 fl_X10_68 (sx_c34 q3.2 r) rfl rfl ?_
  refine vr_likes (pc' := 33) (sx_vi_kind q1) _ _ a1 q3.1 (sx_vi_more q3.2) dX10_keptOf_30 rfl rfl rfl ?_
  refine am_istore (pc' := 35) (ls' := [some (.ref 34), some (.int a1), some (.int a2), some (.int a3), some (.int (fk_likes (sx_vi_kind q1) a1 q3.1 (sx_vi_more q3.2)))]) dX10_keptOf_33 (Nat.le_of_ble_eq_true rfl) rfl rfl rfl ?_
  refine am_iload (pc' := 37) dX10_keptOf_35 rfl rfl ?_
  refine am_aload_n (pc' := 38) 0 dX10_keptOf_37 rfl rfl rfl ?_
  refine am_get (pc' := 41) (v := .ref (am_kr (sx_vi_kind q3.2))) dX10_keptOf_38 fl_X10_27 (sx_c34 q3.2 r) rfl rfl ?_
  refine am_aload_n (pc' := 42) 0 dX10_keptOf_41 rfl rfl rfl ?_
  refine am_get (pc' := 45) (v := .ref 21) dX10_keptOf_42 fl_X10_34 (sx_c34 q3.2 r) rfl rfl ?_
  refine am_aload_n (pc' := 46) 0 dX10_keptOf_45 rfl rfl rfl ?_
  refine am_get (pc' := 49) (v := .int (sx_vi_law q3.2)) dX10_keptOf_46 fl_X10_61 (sx_c34 q3.2 r) rfl rfl ?_
  refine am_iconst (pc' := 50) (v := 1) dX10_keptOf_49 kc_1 rfl ?_
  refine am_aload_n (pc' := 51) 0 dX10_keptOf_50 rfl rfl rfl ?_
  refine am_get (pc' := 54) (v := .ref 38) dX10_keptOf_51 fl_X10_21 (sx_c34 q3.2 r) rfl rfl ?_
  obtain ⟨q5, hq6, hres⟩ := am_bd_s hres
  refine am_cV (pc' := 57) (st' := [.int q5.1, .ref (am_kr (sx_vi_kind q3.2)), .int (fk_likes (sx_vi_kind q1) a1 q3.1 (sx_vi_more q3.2))]) [.ref (am_kr (sx_vi_kind q3.2)), .int (fk_likes (sx_vi_kind q1) a1 q3.1 (sx_vi_more q3.2))] [.int (sx_vi_law q3.2), .int (1 : Int32), .ref 38] dX10_keptOf_54 cs_X10_87 (tx_X8_said_r38 r (sx_vi_law q3.2) (1 : Int32) q3.2 _ hq6) rfl rfl rfl (sx_c21 q3.2 r) rfl rfl rfl rfl rfl ?_
  refine am_iload (pc' := 59) dX10_keptOf_57 rfl rfl ?_
  refine am_aload_n (pc' := 60) 0 dX10_keptOf_59 rfl rfl rfl ?_
  refine am_get (pc' := 63) (v := .int (sx_vi_more q5.2)) dX10_keptOf_60 fl_X10_68 (sx_c34 q5.2 r) rfl rfl ?_
  refine am_iload_n (pc' := 64) 2 dX10_keptOf_63 rfl rfl rfl ?_
  refine am_iload_n (pc' := 65) 3 dX10_keptOf_64 rfl rfl rfl ?_
  refine vr_keeps (pc' := 68) (sx_vi_kind q3.2) _ _ q5.1 (fk_likes (sx_vi_kind q1) a1 q3.1 (sx_vi_more q3.2)) (sx_vi_more q5.2) a2 a3 dX10_keptOf_65 rfl rfl rfl ?_
  refine am_imul (pc' := 69) dX10_keptOf_68 rfl ?_
  obtain rfl := Option.some.inj hres
  exact am_iret dX10_keptOf_69 rfl rfl rfl
set_option maxRecDepth 100000 in
set_option maxHeartbeats 4000000 in
theorem tx_X10_liked (r : am_W) (a1 : Int32) (S : sx_T) (res : Int32 × sx_T) (hres : fx_X10_liked a1 S = some res) : am_T mX10_liked 4 0 0 [.ref 34, .int a1] (sx_w S r) (some (.int res.1)) (sx_w res.2 r) := by
  refine am_meth (ls := [some (.ref 34), some (.int a1)]) (by decide +kernel) rfl (Nat.le_of_ble_eq_true rfl) (sx_len _ _ _) ?_
  rw [fx_X10_liked] at hres
  refine am_aload_n (pc' := 1) 0 dX10_liked_0 rfl rfl rfl ?_
  refine am_iload_n (pc' := 2) 1 dX10_liked_1 rfl rfl rfl ?_
  obtain ⟨q1, hq2, hres⟩ := am_let_s hres
  refine am_cV (pc' := 5) (st' := []) [] [.int a1] dX10_liked_2 cs_X10_84 (tx_X10_lookAt r a1 S _ hq2) rfl rfl rfl (sx_c34 S r) rfl rfl rfl rfl rfl ?_
  refine am_aload_n (pc' := 6) 0 dX10_liked_5 rfl rfl rfl ?_
  refine am_get (pc' := 9) (v := .ref (am_kr (sx_vi_kind q1))) dX10_liked_6 fl_X10_27 (sx_c34 q1 r) rfl rfl ?_
  refine am_iload_n (pc' := 10) 1 dX10_liked_9 rfl rfl rfl ?_
  refine am_aload_n (pc' := 11) 0 dX10_liked_10 rfl rfl rfl ?_
  refine am_get (pc' := 14) (v := .ref 21) dX10_liked_11 fl_X10_34 (sx_c34 q1 r) rfl rfl ?_
  refine am_aload_n (pc' := 15) 0 dX10_liked_14 rfl rfl rfl ?_
  refine am_get (pc' := 18) (v := .int (sx_vi_law q1)) dX10_liked_15 fl_X10_61 (sx_c34 q1 r) rfl rfl ?_
  refine am_iconst (pc' := 19) (v := 0) dX10_liked_18 kc_0 rfl ?_
  refine am_aload_n (pc' := 20) 0 dX10_liked_19 rfl rfl rfl ?_
  refine am_get (pc' := 23) (v := .ref 38) dX10_liked_20 fl_X10_21 (sx_c34 q1 r) rfl rfl ?_
  obtain ⟨q3, hq4, hres⟩ := am_bd_s hres
  refine am_cV (pc' := 26) (st' := [.int q3.1, .int a1, .ref (am_kr (sx_vi_kind q1))]) [.int a1, .ref (am_kr (sx_vi_kind q1))] [.int (sx_vi_law q1), .int (0 : Int32), .ref 38] dX10_liked_23 cs_X10_87 (tx_X8_said_r38 r (sx_vi_law q1) (0 : Int32) q1 _ hq4) rfl rfl rfl (sx_c21 q1 r) rfl rfl rfl rfl rfl ?_
  refine am_aload_n (pc' := 27) 0 dX10_liked_26 rfl rfl rfl ?_
  refine am_get (pc' := 30) (v := .int (sx_vi_more q3.2)) dX10_liked_27 fl_X10_68 (sx_c34 q3.2 r) rfl rfl ?_
  refine vr_likes (pc' := 33) (sx_vi_kind q1) _ _ a1 q3.1 (sx_vi_more q3.2) dX10_liked_30 rfl rfl rfl ?_
  obtain rfl := Option.some.inj hres
  exact am_iret dX10_liked_33 rfl rfl rfl
set_option maxRecDepth 100000 in
set_option maxHeartbeats 4000000 in
theorem tx_X10_lookAtNoRoom (r : am_W) (S : sx_T) (res : sx_T) (hres : fx_X10_lookAtNoRoom S = res) : am_T mX10_lookAtNoRoom 1 0 0 [.ref 34] (sx_w S r) none (sx_w res r) := by
  refine am_meth (ls := [some (.ref 34)]) (by decide +kernel) rfl (Nat.le_of_ble_eq_true rfl) (sx_len _ _ _) ?_
  rw [fx_X10_lookAtNoRoom] at hres
  refine am_aload_n (pc' := 1) 0 dX10_lookAtNoRoom_0 rfl rfl rfl ?_
  refine am_get (pc' := 4) (v := .ref 38) dX10_lookAtNoRoom_1 fl_X10_21 (sx_c34 S r) rfl rfl ?_
  refine am_iconst (pc' := 5) (v := 0) dX10_lookAtNoRoom_4 kc_0 rfl ?_
  refine am_iconst (pc' := 6) (v := 0) dX10_lookAtNoRoom_5 kc_0 rfl ?_
  refine am_cSN (pc' := 9) (st' := []) [] [.ref 38, .int (0 : Int32), .int (0 : Int32)] dX10_lookAtNoRoom_6 cs_X10_45 (tx_set (f := (sx_vi_names S)) (w1 := (sx_w (ux_vi_names S (am_up 6 (sx_vi_names S) (0 : Int32) (0 : Int32))) r)) (sx_c38 S r) rfl (0 : Int32) (0 : Int32) (sx_p_vi_names S r _)) rfl rfl rfl rfl rfl rfl ?_
  refine am_aload_n (pc' := 10) 0 dX10_lookAtNoRoom_9 rfl rfl rfl ?_
  refine am_get (pc' := 13) (v := .ref 38) dX10_lookAtNoRoom_10 fl_X10_21 (sx_c34 (ux_vi_names S (am_up 6 (sx_vi_names S) (0 : Int32) (0 : Int32))) r) rfl rfl ?_
  refine am_iconst (pc' := 14) (v := 1) dX10_lookAtNoRoom_13 kc_1 rfl ?_
  refine am_iconst (pc' := 15) (v := 0) dX10_lookAtNoRoom_14 kc_0 rfl ?_
  refine am_cSN (pc' := 18) (st' := []) [] [.ref 38, .int (1 : Int32), .int (0 : Int32)] dX10_lookAtNoRoom_15 cs_X10_45 (tx_set (f := (am_up 6 (sx_vi_names S) (0 : Int32) (0 : Int32))) (w1 := (sx_w (ux_vi_names (ux_vi_names S (am_up 6 (sx_vi_names S) (0 : Int32) (0 : Int32))) (am_up 6 (am_up 6 (sx_vi_names S) (0 : Int32) (0 : Int32)) (1 : Int32) (0 : Int32))) r)) (sx_c38 (ux_vi_names S (am_up 6 (sx_vi_names S) (0 : Int32) (0 : Int32))) r) rfl (1 : Int32) (0 : Int32) (sx_p_vi_names (ux_vi_names S (am_up 6 (sx_vi_names S) (0 : Int32) (0 : Int32))) r _)) rfl rfl rfl rfl rfl rfl ?_
  refine am_aload_n (pc' := 19) 0 dX10_lookAtNoRoom_18 rfl rfl rfl ?_
  refine am_get (pc' := 22) (v := .ref 38) dX10_lookAtNoRoom_19 fl_X10_21 (sx_c34 (ux_vi_names (ux_vi_names S (am_up 6 (sx_vi_names S) (0 : Int32) (0 : Int32))) (am_up 6 (am_up 6 (sx_vi_names S) (0 : Int32) (0 : Int32)) (1 : Int32) (0 : Int32))) r) rfl rfl ?_
  refine am_iconst (pc' := 23) (v := 2) dX10_lookAtNoRoom_22 kc_2 rfl ?_
  refine am_iconst (pc' := 24) (v := 0) dX10_lookAtNoRoom_23 kc_0 rfl ?_
  refine am_cSN (pc' := 27) (st' := []) [] [.ref 38, .int (2 : Int32), .int (0 : Int32)] dX10_lookAtNoRoom_24 cs_X10_45 (tx_set (f := (am_up 6 (am_up 6 (sx_vi_names S) (0 : Int32) (0 : Int32)) (1 : Int32) (0 : Int32))) (w1 := (sx_w (ux_vi_names (ux_vi_names (ux_vi_names S (am_up 6 (sx_vi_names S) (0 : Int32) (0 : Int32))) (am_up 6 (am_up 6 (sx_vi_names S) (0 : Int32) (0 : Int32)) (1 : Int32) (0 : Int32))) (am_up 6 (am_up 6 (am_up 6 (sx_vi_names S) (0 : Int32) (0 : Int32)) (1 : Int32) (0 : Int32)) (2 : Int32) (0 : Int32))) r)) (sx_c38 (ux_vi_names (ux_vi_names S (am_up 6 (sx_vi_names S) (0 : Int32) (0 : Int32))) (am_up 6 (am_up 6 (sx_vi_names S) (0 : Int32) (0 : Int32)) (1 : Int32) (0 : Int32))) r) rfl (2 : Int32) (0 : Int32) (sx_p_vi_names (ux_vi_names (ux_vi_names S (am_up 6 (sx_vi_names S) (0 : Int32) (0 : Int32))) (am_up 6 (am_up 6 (sx_vi_names S) (0 : Int32) (0 : Int32)) (1 : Int32) (0 : Int32))) r _)) rfl rfl rfl rfl rfl rfl ?_
  subst hres
  exact am_vret dX10_lookAtNoRoom_27 rfl rfl rfl
set_option maxRecDepth 100000 in
set_option maxHeartbeats 4000000 in
theorem tx_X8_mindNames (r : am_W) (a1 : Int32) (a2 : Int32) (S : sx_T) (res : Int32) (hres : fx_X8_mindNames a1 a2 S = res) : am_T mX8_mindNames 1 0 0 [.ref 21, .int a1, .int a2] (sx_w S r) (some (.int res)) (sx_w S r) := by
  refine am_meth (ls := [some (.ref 21), some (.int a1), some (.int a2), none]) (by decide +kernel) rfl (Nat.le_of_ble_eq_true rfl) (sx_len _ _ _) ?_
  rw [fx_X8_mindNames] at hres
  refine am_aload_n (pc' := 1) 0 dX8_mindNames_0 rfl rfl rfl ?_
  refine am_get (pc' := 4) (v := .ref 24) dX8_mindNames_1 fl_X8_18 (sx_c21 S r) rfl rfl ?_
  refine am_iload_n (pc' := 5) 1 dX8_mindNames_4 rfl rfl rfl ?_
  refine am_iconst (pc' := 6) (v := 3) dX8_mindNames_5 kc_3 rfl ?_
  refine am_imul (pc' := 7) dX8_mindNames_6 rfl ?_
  refine am_iconst (pc' := 8) (v := 0) dX8_mindNames_7 kc_0 rfl ?_
  refine am_iadd (pc' := 9) dX8_mindNames_8 rfl ?_
  refine am_cSN (pc' := 12) (st' := [.int (am_rd 18 (sx_tx_named S) ((a1 * (3 : Int32)) + (0 : Int32)))]) [] [.ref 24, .int ((a1 * (3 : Int32)) + (0 : Int32))] dX8_mindNames_9 cs_X8_46 (tx_at (f := (sx_tx_named S)) (sx_c24 S r) rfl ((a1 * (3 : Int32)) + (0 : Int32))) rfl rfl rfl rfl rfl rfl ?_
  refine am_aload_n (pc' := 13) 0 dX8_mindNames_12 rfl rfl rfl ?_
  refine am_get (pc' := 16) (v := .ref 24) dX8_mindNames_13 fl_X8_18 (sx_c21 S r) rfl rfl ?_
  refine am_iload_n (pc' := 17) 1 dX8_mindNames_16 rfl rfl rfl ?_
  refine am_iconst (pc' := 18) (v := 3) dX8_mindNames_17 kc_3 rfl ?_
  refine am_imul (pc' := 19) dX8_mindNames_18 rfl ?_
  refine am_iconst (pc' := 20) (v := 1) dX8_mindNames_19 kc_1 rfl ?_
  refine am_iadd (pc' := 21) dX8_mindNames_20 rfl ?_
  refine am_cSN (pc' := 24) (st' := [.int (am_rd 18 (sx_tx_named S) ((a1 * (3 : Int32)) + (1 : Int32))), .int (am_rd 18 (sx_tx_named S) ((a1 * (3 : Int32)) + (0 : Int32)))]) [.int (am_rd 18 (sx_tx_named S) ((a1 * (3 : Int32)) + (0 : Int32)))] [.ref 24, .int ((a1 * (3 : Int32)) + (1 : Int32))] dX8_mindNames_21 cs_X8_46 (tx_at (f := (sx_tx_named S)) (sx_c24 S r) rfl ((a1 * (3 : Int32)) + (1 : Int32))) rfl rfl rfl rfl rfl rfl ?_
  refine am_ior (pc' := 25) dX8_mindNames_24 rfl ?_
  refine am_istore_n (pc' := 26) (ls' := [some (.ref 21), some (.int a1), some (.int a2), some (.int ((am_rd 18 (sx_tx_named S) ((a1 * (3 : Int32)) + (0 : Int32))) ||| (am_rd 18 (sx_tx_named S) ((a1 * (3 : Int32)) + (1 : Int32)))))]) 3 dX8_mindNames_25 rfl (Nat.le_of_ble_eq_true rfl) rfl rfl rfl ?_
  refine am_iload_n (pc' := 27) 3 dX8_mindNames_26 rfl rfl rfl ?_
  refine am_bipush (pc' := 29) (v := (-10)) dX8_mindNames_27 kb_m10 rfl ?_
  refine am_iload_n (pc' := 30) 2 dX8_mindNames_29 rfl rfl rfl ?_
  refine am_isub (pc' := 31) dX8_mindNames_30 rfl ?_
  refine am_ishr (pc' := 32) dX8_mindNames_31 rfl ?_
  refine am_iconst (pc' := 33) (v := 1) dX8_mindNames_32 kc_1 rfl ?_
  refine am_iand (pc' := 34) dX8_mindNames_33 rfl ?_
  refine am_if_eq (pc' := 37) 41 dX8_mindNames_34 rfl rfl (fun hc1 => ?_) (fun hc1 => ?_)
  · rw [if_pos hc1] at hres
    refine am_iconst (pc' := 42) (v := 0) dX8_mindNames_41 kc_0 rfl ?_
    subst hres
    exact am_zret dX8_mindNames_42 rfl rfl rfl rfl
  · rw [if_neg hc1] at hres
    refine am_iconst (pc' := 38) (v := 1) dX8_mindNames_37 kc_1 rfl ?_
    refine am_goto 42 dX8_mindNames_38 rfl ?_
    subst hres
    exact am_zret dX8_mindNames_42 rfl rfl rfl rfl
theorem bz_X8_mindNames (a1 : Int32) (a2 : Int32) (S : sx_T) : narrow .boolean (.int (fx_X8_mindNames a1 a2 S)) = .int (fx_X8_mindNames a1 a2 S) := by
  rw [fx_X8_mindNames]
  repeat' (first | refine nb_ite ?_ ?_ | rfl)
set_option maxRecDepth 100000 in
set_option maxHeartbeats 4000000 in
theorem wx_X10_mind_49 (r : am_W) : ∀ (n : Nat) (v1 : Int32) (v2 : Int32) (v3 : Int32) (S : sx_T) (res : Int32 × sx_T) (hres : fx_X10_mind_49 n v1 v2 v3 S = some res), am_G mX10_mind (none, 5, 0, 0, (some (.int res.1)), (sx_w res.2 r)) (0, 0) 49 [some (.ref 34), some (.int v1), some (.int v2), some (.int v3)] [] (sx_w S r) := by
  intro n
  induction n with
  | zero =>
    intro v1 v2 v3 S res hres
    cases hres
  | succ n ih =>
    intro v1 v2 v3 S res hres
    rw [fx_X10_mind_49] at hres
    refine am_iload_n (pc' := 50) 3 dX10_mind_49 rfl rfl rfl ?_
    refine am_aload_n (pc' := 51) 0 dX10_mind_50 rfl rfl rfl ?_
    refine am_get (pc' := 54) (v := .int (sx_vi_length S)) dX10_mind_51 fl_X10_65 (sx_c34 S r) rfl rfl ?_
    refine am_icmp_ge (pc' := 57) 102 dX10_mind_54 rfl rfl (fun hc3 => ?_) (fun hc3 => ?_)
    · rw [if_pos hc3] at hres
      refine am_aload_n (pc' := 103) 0 dX10_mind_102 rfl rfl rfl ?_
      refine am_get (pc' := 106) (v := .ref 40) dX10_mind_103 fl_X10_31 (sx_c34 S r) rfl rfl ?_
      refine am_iload_n (pc' := 107) 1 dX10_mind_106 rfl rfl rfl ?_
      refine am_iload_n (pc' := 108) 2 dX10_mind_107 rfl rfl rfl ?_
      refine am_cSN (pc' := 111) (st' := []) [] [.ref 40, .int v1, .int v2] dX10_mind_108 cs_X10_45 (tx_set (f := (sx_vi_minds S)) (w1 := (sx_w (ux_vi_minds S (am_up 12 (sx_vi_minds S) v1 v2)) r)) (sx_c40 S r) rfl v1 v2 (sx_p_vi_minds S r _)) rfl rfl rfl rfl rfl rfl ?_
      refine am_aload_n (pc' := 112) 0 dX10_mind_111 rfl rfl rfl ?_
      refine am_dupa (pc' := 113) dX10_mind_112 rfl ?_
      refine am_get (pc' := 116) (v := .int (sx_vi_known S)) dX10_mind_113 fl_X10_62 (sx_c34 (ux_vi_minds S (am_up 12 (sx_vi_minds S) v1 v2)) r) rfl rfl ?_
      refine am_iconst (pc' := 117) (v := 1) dX10_mind_116 kc_1 rfl ?_
      refine am_iload_n (pc' := 118) 1 dX10_mind_117 rfl rfl rfl ?_
      refine am_ishl (pc' := 119) dX10_mind_118 rfl ?_
      refine am_ior (pc' := 120) dX10_mind_119 rfl ?_
      refine am_put (pc' := 123) (ws' := (sx_w (ux_vi_known (ux_vi_minds S (am_up 12 (sx_vi_minds S) v1 v2)) ((sx_vi_known S) ||| ((1 : Int32) <<< (v1 &&& 31)))) r)) (v := .int ((sx_vi_known S) ||| ((1 : Int32) <<< (v1 &&& 31)))) dX10_mind_120 fp_X10_62 (sx_c34 (ux_vi_minds S (am_up 12 (sx_vi_minds S) v1 v2)) r) (fun _ => ⟨rfl, rfl⟩) (Nat.le_of_ble_eq_true rfl) (sx_p_vi_known (ux_vi_minds S (am_up 12 (sx_vi_minds S) v1 v2)) r _) rfl ?_
      refine am_iload_n (pc' := 124) 2 dX10_mind_123 rfl rfl rfl ?_
      obtain rfl := Option.some.inj hres
      exact am_iret dX10_mind_124 rfl rfl rfl
    · rw [if_neg hc3] at hres
      refine am_iload_n (pc' := 58) 2 dX10_mind_57 rfl rfl rfl ?_
      refine am_aload_n (pc' := 59) 0 dX10_mind_58 rfl rfl rfl ?_
      refine am_aload_n (pc' := 60) 0 dX10_mind_59 rfl rfl rfl ?_
      refine am_get (pc' := 63) (v := .ref 37) dX10_mind_60 fl_X10_18 (sx_c34 S r) rfl rfl ?_
      refine am_iload_n (pc' := 64) 3 dX10_mind_63 rfl rfl rfl ?_
      refine am_cSN (pc' := 67) (st' := [.int (am_rd 6 (sx_vi_walked S) v3), .ref 34, .int v2]) [.ref 34, .int v2] [.ref 37, .int v3] dX10_mind_64 cs_X10_41 (tx_at (f := (sx_vi_walked S)) (sx_c37 S r) rfl v3) rfl rfl rfl rfl rfl rfl ?_
      refine am_iload_n (pc' := 68) 3 dX10_mind_67 rfl rfl rfl ?_
      refine am_if_ne (pc' := 71) 75 dX10_mind_68 rfl rfl (fun hc4 => ?_) (fun hc4 => ?_)
      · rw [if_neg hc4] at hres
        refine am_iconst (pc' := 76) (v := 0) dX10_mind_75 kc_0 rfl ?_
        refine am_iload_n (pc' := 77) 3 dX10_mind_76 rfl rfl rfl ?_
        refine am_aload_n (pc' := 78) 0 dX10_mind_77 rfl rfl rfl ?_
        refine am_get (pc' := 81) (v := .int (sx_vi_length S)) dX10_mind_78 fl_X10_65 (sx_c34 S r) rfl rfl ?_
        refine am_iconst (pc' := 82) (v := 1) dX10_mind_81 kc_1 rfl ?_
        refine am_isub (pc' := 83) dX10_mind_82 rfl ?_
        refine am_icmp_ne (pc' := 86) 90 dX10_mind_83 rfl rfl (fun hc5 => ?_) (fun hc5 => ?_)
        · rw [if_neg hc5] at hres
          refine am_iconst (pc' := 91) (v := 0) dX10_mind_90 kc_0 rfl ?_
          obtain ⟨q6, hq7, hres⟩ := am_bd_s hres
          refine am_cV (pc' := 94) (st' := [.int q6.1, .int v2]) [.int v2] [.int (am_rd 6 (sx_vi_walked S) v3), .int (0 : Int32), .int (0 : Int32)] dX10_mind_91 cs_X10_99 (tx_X10_keptOf r (am_rd 6 (sx_vi_walked S) v3) (0 : Int32) (0 : Int32) S _ hq7) rfl rfl rfl (sx_c34 S r) rfl rfl rfl rfl rfl ?_
          refine am_iadd (pc' := 95) dX10_mind_94 rfl ?_
          refine am_istore_n (pc' := 96) (ls' := [some (.ref 34), some (.int v1), some (.int (v2 + q6.1)), some (.int v3)]) 2 dX10_mind_95 rfl (Nat.le_of_ble_eq_true rfl) rfl rfl rfl ?_
          refine am_iinc (pc' := 99) (ls' := [some (.ref 34), some (.int v1), some (.int (v2 + q6.1)), some (.int (v3 + (1 : Int32)))]) dX10_mind_96 rfl (show v3 + Int32.ofInt 1 = (v3 + (1 : Int32)) from congrArg (fun z => v3 + z) kc_1) (Nat.le_of_ble_eq_true rfl) rfl rfl rfl ?_
          refine am_goto 49 dX10_mind_99 rfl ?_
          exact ih _ _ _ _ _ hres
        · rw [if_pos hc5] at hres
          refine am_iconst (pc' := 87) (v := 1) dX10_mind_86 kc_1 rfl ?_
          refine am_goto 91 dX10_mind_87 rfl ?_
          obtain ⟨q8, hq9, hres⟩ := am_bd_s hres
          refine am_cV (pc' := 94) (st' := [.int q8.1, .int v2]) [.int v2] [.int (am_rd 6 (sx_vi_walked S) v3), .int (0 : Int32), .int (1 : Int32)] dX10_mind_91 cs_X10_99 (tx_X10_keptOf r (am_rd 6 (sx_vi_walked S) v3) (0 : Int32) (1 : Int32) S _ hq9) rfl rfl rfl (sx_c34 S r) rfl rfl rfl rfl rfl ?_
          refine am_iadd (pc' := 95) dX10_mind_94 rfl ?_
          refine am_istore_n (pc' := 96) (ls' := [some (.ref 34), some (.int v1), some (.int (v2 + q8.1)), some (.int v3)]) 2 dX10_mind_95 rfl (Nat.le_of_ble_eq_true rfl) rfl rfl rfl ?_
          refine am_iinc (pc' := 99) (ls' := [some (.ref 34), some (.int v1), some (.int (v2 + q8.1)), some (.int (v3 + (1 : Int32)))]) dX10_mind_96 rfl (show v3 + Int32.ofInt 1 = (v3 + (1 : Int32)) from congrArg (fun z => v3 + z) kc_1) (Nat.le_of_ble_eq_true rfl) rfl rfl rfl ?_
          refine am_goto 49 dX10_mind_99 rfl ?_
          exact ih _ _ _ _ _ hres
      · rw [if_pos hc4] at hres
        refine am_iconst (pc' := 72) (v := 1) dX10_mind_71 kc_1 rfl ?_
        refine am_goto 76 dX10_mind_72 rfl ?_
        refine am_iload_n (pc' := 77) 3 dX10_mind_76 rfl rfl rfl ?_
        refine am_aload_n (pc' := 78) 0 dX10_mind_77 rfl rfl rfl ?_
        refine am_get (pc' := 81) (v := .int (sx_vi_length S)) dX10_mind_78 fl_X10_65 (sx_c34 S r) rfl rfl ?_
        refine am_iconst (pc' := 82) (v := 1) dX10_mind_81 kc_1 rfl ?_
        refine am_isub (pc' := 83) dX10_mind_82 rfl ?_
        refine am_icmp_ne (pc' := 86) 90 dX10_mind_83 rfl rfl (fun hc10 => ?_) (fun hc10 => ?_)
        · rw [if_neg hc10] at hres
          refine am_iconst (pc' := 91) (v := 0) dX10_mind_90 kc_0 rfl ?_
          obtain ⟨q11, hq12, hres⟩ := am_bd_s hres
          refine am_cV (pc' := 94) (st' := [.int q11.1, .int v2]) [.int v2] [.int (am_rd 6 (sx_vi_walked S) v3), .int (1 : Int32), .int (0 : Int32)] dX10_mind_91 cs_X10_99 (tx_X10_keptOf r (am_rd 6 (sx_vi_walked S) v3) (1 : Int32) (0 : Int32) S _ hq12) rfl rfl rfl (sx_c34 S r) rfl rfl rfl rfl rfl ?_
          refine am_iadd (pc' := 95) dX10_mind_94 rfl ?_
          refine am_istore_n (pc' := 96) (ls' := [some (.ref 34), some (.int v1), some (.int (v2 + q11.1)), some (.int v3)]) 2 dX10_mind_95 rfl (Nat.le_of_ble_eq_true rfl) rfl rfl rfl ?_
          refine am_iinc (pc' := 99) (ls' := [some (.ref 34), some (.int v1), some (.int (v2 + q11.1)), some (.int (v3 + (1 : Int32)))]) dX10_mind_96 rfl (show v3 + Int32.ofInt 1 = (v3 + (1 : Int32)) from congrArg (fun z => v3 + z) kc_1) (Nat.le_of_ble_eq_true rfl) rfl rfl rfl ?_
          refine am_goto 49 dX10_mind_99 rfl ?_
          exact ih _ _ _ _ _ hres
        · rw [if_pos hc10] at hres
          refine am_iconst (pc' := 87) (v := 1) dX10_mind_86 kc_1 rfl ?_
          refine am_goto 91 dX10_mind_87 rfl ?_
          obtain ⟨q13, hq14, hres⟩ := am_bd_s hres
          refine am_cV (pc' := 94) (st' := [.int q13.1, .int v2]) [.int v2] [.int (am_rd 6 (sx_vi_walked S) v3), .int (1 : Int32), .int (1 : Int32)] dX10_mind_91 cs_X10_99 (tx_X10_keptOf r (am_rd 6 (sx_vi_walked S) v3) (1 : Int32) (1 : Int32) S _ hq14) rfl rfl rfl (sx_c34 S r) rfl rfl rfl rfl rfl ?_
          refine am_iadd (pc' := 95) dX10_mind_94 rfl ?_
          refine am_istore_n (pc' := 96) (ls' := [some (.ref 34), some (.int v1), some (.int (v2 + q13.1)), some (.int v3)]) 2 dX10_mind_95 rfl (Nat.le_of_ble_eq_true rfl) rfl rfl rfl ?_
          refine am_iinc (pc' := 99) (ls' := [some (.ref 34), some (.int v1), some (.int (v2 + q13.1)), some (.int (v3 + (1 : Int32)))]) dX10_mind_96 rfl (show v3 + Int32.ofInt 1 = (v3 + (1 : Int32)) from congrArg (fun z => v3 + z) kc_1) (Nat.le_of_ble_eq_true rfl) rfl rfl rfl ?_
          refine am_goto 49 dX10_mind_99 rfl ?_
          exact ih _ _ _ _ _ hres

set_option maxRecDepth 100000 in
set_option maxHeartbeats 4000000 in
theorem wx_X10_mind_24 (r : am_W) : ∀ (w0 : Int32) (S : sx_T) (res : Int32 × sx_T) (hres : fx_X10_mind_24 w0 S = some res), am_G mX10_mind (none, 5, 0, 0, (some (.int res.1)), (sx_w res.2 r)) (0, 0) 24 [some (.ref 34), none, none, none] [.int w0] (sx_w S r) := by
  intro w0 S res hres
  rw [fx_X10_mind_24] at hres
  refine am_istore_n (pc' := 25) (ls' := [some (.ref 34), some (.int w0), none, none]) 1 dX10_mind_24 rfl (Nat.le_of_ble_eq_true rfl) rfl rfl rfl ?_
  refine am_aload_n (pc' := 26) 0 dX10_mind_25 rfl rfl rfl ?_
  refine am_get (pc' := 29) (v := .int (sx_vi_known S)) dX10_mind_26 fl_X10_62 (sx_c34 S r) rfl rfl ?_
  refine am_iload_n (pc' := 30) 1 dX10_mind_29 rfl rfl rfl ?_
  refine am_ishr (pc' := 31) dX10_mind_30 rfl ?_
  refine am_iconst (pc' := 32) (v := 1) dX10_mind_31 kc_1 rfl ?_
  refine am_iand (pc' := 33) dX10_mind_32 rfl ?_
  refine am_if_eq (pc' := 36) 45 dX10_mind_33 rfl rfl (fun hc2 => ?_) (fun hc2 => ?_)
  · rw [if_pos hc2] at hres
    refine am_iconst (pc' := 46) (v := 0) dX10_mind_45 kc_0 rfl ?_
    refine am_istore_n (pc' := 47) (ls' := [some (.ref 34), some (.int w0), some (.int (0 : Int32)), none]) 2 dX10_mind_46 rfl (Nat.le_of_ble_eq_true rfl) rfl rfl rfl ?_
    refine am_iconst (pc' := 48) (v := 0) dX10_mind_47 kc_0 rfl ?_
    refine am_istore_n (pc' := 49) (ls' := [some (.ref 34), some (.int w0), some (.int (0 : Int32)), some (.int (0 : Int32))]) 3 dX10_mind_48 rfl (Nat.le_of_ble_eq_true rfl) rfl rfl rfl ?_
    exact wx_X10_mind_49 r am_fu _ _ _ _ _ hres
  · rw [if_neg hc2] at hres
    refine am_aload_n (pc' := 37) 0 dX10_mind_36 rfl rfl rfl ?_
    refine am_get (pc' := 40) (v := .ref 40) dX10_mind_37 fl_X10_31 (sx_c34 S r) rfl rfl ?_
    refine am_iload_n (pc' := 41) 1 dX10_mind_40 rfl rfl rfl ?_
    refine am_cSN (pc' := 44) (st' := [.int (am_rd 12 (sx_vi_minds S) w0)]) [] [.ref 40, .int w0] dX10_mind_41 cs_X10_41 (tx_at (f := (sx_vi_minds S)) (sx_c40 S r) rfl w0) rfl rfl rfl rfl rfl rfl ?_
    obtain rfl := Option.some.inj hres
    exact am_iret dX10_mind_44 rfl rfl rfl

set_option maxRecDepth 100000 in
set_option maxHeartbeats 4000000 in
theorem tx_X10_mind (r : am_W) (S : sx_T) (res : Int32 × sx_T) (hres : fx_X10_mind S = some res) : am_T mX10_mind 5 0 0 [.ref 34] (sx_w S r) (some (.int res.1)) (sx_w res.2 r) := by
  refine am_meth (ls := [some (.ref 34), none, none, none]) (by decide +kernel) rfl (Nat.le_of_ble_eq_true rfl) (sx_len _ _ _) ?_
  rw [fx_X10_mind] at hres
  refine am_aload_n (pc' := 1) 0 dX10_mind_0 rfl rfl rfl ?_
  refine am_get (pc' := 4) (v := .ref 21) dX10_mind_1 fl_X10_34 (sx_c34 S r) rfl rfl ?_
  refine am_aload_n (pc' := 5) 0 dX10_mind_4 rfl rfl rfl ?_
  refine am_get (pc' := 8) (v := .int (sx_vi_law S)) dX10_mind_5 fl_X10_61 (sx_c34 S r) rfl rfl ?_
  refine am_bipush (pc' := 10) (v := (-13)) dX10_mind_8 kb_m13 rfl ?_
  refine am_cV (pc' := 13) (st' := [.int (fx_X8_mindNames (sx_vi_law S) (-13 : Int32) S)]) [] [.int (sx_vi_law S), .int (-13 : Int32)] dX10_mind_10 cs_X10_74 (tx_X8_mindNames r (sx_vi_law S) (-13 : Int32) S _ rfl) rfl rfl rfl (sx_c21 S r) rfl rfl rfl rfl rfl ?_
  refine am_if_eq (pc' := 16) 23 dX10_mind_13 rfl rfl (fun hc1 => ?_) (fun hc1 => ?_)
  · rw [if_pos hc1] at hres
    refine am_iconst (pc' := 24) (v := 0) dX10_mind_23 kc_0 rfl ?_
    exact wx_X10_mind_24 r _ _ _ hres
  · rw [if_neg hc1] at hres
    refine am_aload_n (pc' := 17) 0 dX10_mind_16 rfl rfl rfl ?_
    refine am_get (pc' := 20) (v := .int (sx_vi_hour S)) dX10_mind_17 fl_X10_80 (sx_c34 S r) rfl rfl ?_
    refine am_goto 24 dX10_mind_20 rfl ?_
    exact wx_X10_mind_24 r _ _ _ hres
set_option maxRecDepth 100000 in
set_option maxHeartbeats 4000000 in
theorem tx_X9_offers (ws : am_W) (q ci : Nat) (q0 : vw_C) (hc : ws[q]? = some (.inr (.inr (ci, [])))) (hcl : vwCl[ci]? = some q0) (a1 : Int32) (a2 : Int32) (a3 : Int32) (res : Int32) (hres : fx_X9_offers a1 a2 a3 = res) : am_T mX9_offers 0 0 0 [.ref q, .int a1, .int a2, .int a3] ws (some (.int res)) ws := by
  refine am_meth (ls := [some (.ref q), some (.int a1), some (.int a2), some (.int a3)]) (by decide +kernel) rfl (Nat.le_of_ble_eq_true rfl) ⟨rfl, Or.inl rfl⟩ ?_
  rw [fx_X9_offers] at hres
  refine am_iload_n (pc' := 1) 2 dX9_offers_0 rfl rfl rfl ?_
  refine am_if_le (pc' := 4) 8 dX9_offers_1 rfl rfl (fun hc1 => ?_) (fun hc1 => ?_)
  · rw [if_pos hc1] at hres
    refine am_iconst (pc' := 9) (v := 0) dX9_offers_8 kc_0 rfl ?_
    subst hres
    exact am_iret dX9_offers_9 rfl rfl rfl
  · rw [if_neg hc1] at hres
    refine am_iload_n (pc' := 5) 1 dX9_offers_4 rfl rfl rfl ?_
    refine am_goto 9 dX9_offers_5 rfl ?_
    subst hres
    exact am_iret dX9_offers_9 rfl rfl rfl
set_option maxRecDepth 100000 in
set_option maxHeartbeats 4000000 in
theorem tx_X7_offers (ws : am_W) (q ci : Nat) (q0 : vw_C) (hc : ws[q]? = some (.inr (.inr (ci, [])))) (hcl : vwCl[ci]? = some q0) (a1 : Int32) (a2 : Int32) (a3 : Int32) (res : Int32) (hres : fx_X7_offers a1 a2 a3 = res) : am_T mX7_offers 1 0 0 [.ref q, .int a1, .int a2, .int a3] ws (some (.int res)) ws := by
  refine am_meth (ls := [some (.ref q), some (.int a1), some (.int a2), some (.int a3), none]) (by decide +kernel) rfl (Nat.le_of_ble_eq_true rfl) ⟨rfl, Or.inl rfl⟩ ?_
  rw [fx_X7_offers] at hres
  refine am_aload_n (pc' := 1) 0 dX7_offers_0 rfl rfl rfl ?_
  refine am_iload_n (pc' := 2) 1 dX7_offers_1 rfl rfl rfl ?_
  refine am_iload_n (pc' := 3) 2 dX7_offers_2 rfl rfl rfl ?_
  refine am_iload_n (pc' := 4) 3 dX7_offers_3 rfl rfl rfl ?_
  refine am_cSU (pc' := 7) (st' := [.int (fx_X9_offers a1 a2 a3)]) [] [.int a1, .int a2, .int a3] dX7_offers_4 csu_X7_7 (tx_X9_offers ws q ci q0 hc hcl a1 a2 a3 _ rfl) rfl rfl rfl hc hcl rfl rfl rfl ?_
  refine am_istore (pc' := 9) (ls' := [some (.ref q), some (.int a1), some (.int a2), some (.int a3), some (.int (fx_X9_offers a1 a2 a3))]) dX7_offers_7 (Nat.le_of_ble_eq_true rfl) rfl rfl rfl ?_
  refine am_iload_n (pc' := 10) 3 dX7_offers_9 rfl rfl rfl ?_
  refine am_iconst (pc' := 11) (v := 2) dX7_offers_10 kc_2 rfl ?_
  refine am_icmp_le (pc' := 14) 24 dX7_offers_11 rfl rfl (fun hc1 => ?_) (fun hc1 => ?_)
  · rw [if_pos hc1] at hres
    refine am_iload (pc' := 26) dX7_offers_24 rfl rfl ?_
    subst hres
    exact am_iret dX7_offers_26 rfl rfl rfl
  · rw [if_neg hc1] at hres
    refine am_iload (pc' := 16) dX7_offers_14 rfl rfl ?_
    refine am_bipush (pc' := 18) (v := 10) dX7_offers_16 kb_10 rfl ?_
    refine am_iload_n (pc' := 19) 3 dX7_offers_18 rfl rfl rfl ?_
    refine am_imul (pc' := 20) dX7_offers_19 rfl ?_
    refine am_iadd (pc' := 21) dX7_offers_20 rfl ?_
    refine am_goto 26 dX7_offers_21 rfl ?_
    subst hres
    exact am_iret dX7_offers_26 rfl rfl rfl
set_option maxRecDepth 100000 in
set_option maxHeartbeats 4000000 in
theorem tx_X2_offers (ws : am_W) (q ci : Nat) (q0 : vw_C) (hc : ws[q]? = some (.inr (.inr (ci, [])))) (hcl : vwCl[ci]? = some q0) (a1 : Int32) (a2 : Int32) (a3 : Int32) (res : Int32) (hres : fx_X2_offers a1 a2 a3 = res) : am_T mX2_offers 1 0 0 [.ref q, .int a1, .int a2, .int a3] ws (some (.int res)) ws := by
  refine am_meth (ls := [some (.ref q), some (.int a1), some (.int a2), some (.int a3)]) (by decide +kernel) rfl (Nat.le_of_ble_eq_true rfl) ⟨rfl, Or.inl rfl⟩ ?_
  rw [fx_X2_offers] at hres
  refine am_iconst (pc' := 1) (v := 0) dX2_offers_0 kc_0 rfl ?_
  refine am_aload_n (pc' := 2) 0 dX2_offers_1 rfl rfl rfl ?_
  refine am_iload_n (pc' := 3) 1 dX2_offers_2 rfl rfl rfl ?_
  refine am_iload_n (pc' := 4) 2 dX2_offers_3 rfl rfl rfl ?_
  refine am_iload_n (pc' := 5) 3 dX2_offers_4 rfl rfl rfl ?_
  refine am_cSU (pc' := 8) (st' := [.int (fx_X9_offers a1 a2 a3), .int (0 : Int32)]) [.int (0 : Int32)] [.int a1, .int a2, .int a3] dX2_offers_5 csu_X2_17 (tx_X9_offers ws q ci q0 hc hcl a1 a2 a3 _ rfl) rfl rfl rfl hc hcl rfl rfl rfl ?_
  refine am_iload_n (pc' := 9) 2 dX2_offers_8 rfl rfl rfl ?_
  refine am_iadd (pc' := 10) dX2_offers_9 rfl ?_
  refine am_mmax (pc' := 13) dX2_offers_10 mx_X2_11 rfl (Nat.le_of_ble_eq_true rfl) rfl ?_
  subst hres
  exact am_iret dX2_offers_13 rfl rfl rfl
set_option maxRecDepth 100000 in
set_option maxHeartbeats 4000000 in
theorem tx_X3_offers (ws : am_W) (q ci : Nat) (q0 : vw_C) (hc : ws[q]? = some (.inr (.inr (ci, [])))) (hcl : vwCl[ci]? = some q0) (a1 : Int32) (a2 : Int32) (a3 : Int32) (res : Int32) (hres : fx_X3_offers a1 a2 a3 = res) : am_T mX3_offers 2 0 0 [.ref q, .int a1, .int a2, .int a3] ws (some (.int res)) ws := by
  refine am_meth (ls := [some (.ref q), some (.int a1), some (.int a2), some (.int a3)]) (by decide +kernel) rfl (Nat.le_of_ble_eq_true rfl) ⟨rfl, Or.inl rfl⟩ ?_
  rw [fx_X3_offers] at hres
  refine am_aload_n (pc' := 1) 0 dX3_offers_0 rfl rfl rfl ?_
  refine am_iload_n (pc' := 2) 1 dX3_offers_1 rfl rfl rfl ?_
  refine am_iload_n (pc' := 3) 2 dX3_offers_2 rfl rfl rfl ?_
  refine am_iload_n (pc' := 4) 3 dX3_offers_3 rfl rfl rfl ?_
  refine am_cSU (pc' := 7) (st' := [.int (fx_X7_offers a1 a2 a3)]) [] [.int a1, .int a2, .int a3] dX3_offers_4 csu_X3_11 (tx_X7_offers ws q ci q0 hc hcl a1 a2 a3 _ rfl) rfl rfl rfl hc hcl rfl rfl rfl ?_
  refine am_iconst (pc' := 8) (v := 2) dX3_offers_7 kc_2 rfl ?_
  refine am_idiv (pc' := 9) dX3_offers_8 (by decide) rfl ?_
  subst hres
  exact am_iret dX3_offers_9 rfl rfl rfl
set_option maxRecDepth 100000 in
set_option maxHeartbeats 4000000 in
theorem tx_X0_offers (ws : am_W) (q ci : Nat) (q0 : vw_C) (hc : ws[q]? = some (.inr (.inr (ci, [])))) (hcl : vwCl[ci]? = some q0) (a1 : Int32) (a2 : Int32) (a3 : Int32) (res : Int32) (hres : fx_X0_offers a1 a2 a3 = res) : am_T mX0_offers 0 0 0 [.ref q, .int a1, .int a2, .int a3] ws (some (.int res)) ws := by
  refine am_meth (ls := [some (.ref q), some (.int a1), some (.int a2), some (.int a3)]) (by decide +kernel) rfl (Nat.le_of_ble_eq_true rfl) ⟨rfl, Or.inl rfl⟩ ?_
  rw [fx_X0_offers] at hres
  refine am_iconst (pc' := 1) (v := 0) dX0_offers_0 kc_0 rfl ?_
  subst hres
  exact am_iret dX0_offers_1 rfl rfl rfl
theorem vq_offers_0 {M : am_M} {dd : Nat} {r0 : Option Value} {wF : am_W} {pc pc' : Nat} {ls : List (Option Value)} {st : List Value} (S : sx_T) (r : am_W) (a1 a2 a3 : Int32) (d : decode M.2.1 pc = .ok (.invokevirtual 107, 3)) (hM : M.1.cls = RX10) (h1 : 4 ≤ dd) (h2 : (st.map fun v => v.category).sum ≤ 8) (hp : pc + 3 = pc') (k : am_G M (none, dd, 0, 0, r0, wF) (0, 0) pc' ls (.int (fx_X9_offers a1 a2 a3) :: st) (sx_w S r)) : am_G M (none, dd, 0, 0, r0, wF) (0, 0) pc ls (.int a3 :: .int a2 :: .int a1 :: .ref 12 :: st) (sx_w S r) :=
  am_callU st [.int a1, .int a2, .int a3] d (hM ▸ cu_X10_107_X9) (tx_X9_offers (sx_w S r) 12 9 _ (sx_c12 S r) rfl a1 a2 a3 _ rfl) rfl rfl (sx_c12 S r) rfl h2 ⟨am_rb_s (am_rbh (Nat.le_trans (Nat.le_of_ble_eq_true rfl : 0 + 1 ≤ 4) h1) (Nat.le_of_ble_eq_true rfl)), Nat.le_refl 0, Nat.le_refl 0⟩ rfl hp k
theorem vq_offers_1 {M : am_M} {dd : Nat} {r0 : Option Value} {wF : am_W} {pc pc' : Nat} {ls : List (Option Value)} {st : List Value} (S : sx_T) (r : am_W) (a1 a2 a3 : Int32) (d : decode M.2.1 pc = .ok (.invokevirtual 107, 3)) (hM : M.1.cls = RX10) (h1 : 4 ≤ dd) (h2 : (st.map fun v => v.category).sum ≤ 8) (hp : pc + 3 = pc') (k : am_G M (none, dd, 0, 0, r0, wF) (0, 0) pc' ls (.int (fx_X9_offers a1 a2 a3) :: st) (sx_w S r)) : am_G M (none, dd, 0, 0, r0, wF) (0, 0) pc ls (.int a3 :: .int a2 :: .int a1 :: .ref 13 :: st) (sx_w S r) :=
  am_callU st [.int a1, .int a2, .int a3] d (hM ▸ cu_X10_107_X1) (tx_X9_offers (sx_w S r) 13 1 _ (sx_c13 S r) rfl a1 a2 a3 _ rfl) rfl rfl (sx_c13 S r) rfl h2 ⟨am_rb_s (am_rbh (Nat.le_trans (Nat.le_of_ble_eq_true rfl : 0 + 1 ≤ 4) h1) (Nat.le_of_ble_eq_true rfl)), Nat.le_refl 0, Nat.le_refl 0⟩ rfl hp k
theorem vq_offers_2 {M : am_M} {dd : Nat} {r0 : Option Value} {wF : am_W} {pc pc' : Nat} {ls : List (Option Value)} {st : List Value} (S : sx_T) (r : am_W) (a1 a2 a3 : Int32) (d : decode M.2.1 pc = .ok (.invokevirtual 107, 3)) (hM : M.1.cls = RX10) (h1 : 4 ≤ dd) (h2 : (st.map fun v => v.category).sum ≤ 8) (hp : pc + 3 = pc') (k : am_G M (none, dd, 0, 0, r0, wF) (0, 0) pc' ls (.int (fx_X7_offers a1 a2 a3) :: st) (sx_w S r)) : am_G M (none, dd, 0, 0, r0, wF) (0, 0) pc ls (.int a3 :: .int a2 :: .int a1 :: .ref 14 :: st) (sx_w S r) :=
  am_callU st [.int a1, .int a2, .int a3] d (hM ▸ cu_X10_107_X7) (tx_X7_offers (sx_w S r) 14 7 _ (sx_c14 S r) rfl a1 a2 a3 _ rfl) rfl rfl (sx_c14 S r) rfl h2 ⟨am_rb_s (am_rbh (Nat.le_trans (Nat.le_of_ble_eq_true rfl : 1 + 1 ≤ 4) h1) (Nat.le_of_ble_eq_true rfl)), Nat.le_refl 0, Nat.le_refl 0⟩ rfl hp k
theorem vq_offers_3 {M : am_M} {dd : Nat} {r0 : Option Value} {wF : am_W} {pc pc' : Nat} {ls : List (Option Value)} {st : List Value} (S : sx_T) (r : am_W) (a1 a2 a3 : Int32) (d : decode M.2.1 pc = .ok (.invokevirtual 107, 3)) (hM : M.1.cls = RX10) (h1 : 4 ≤ dd) (h2 : (st.map fun v => v.category).sum ≤ 8) (hp : pc + 3 = pc') (k : am_G M (none, dd, 0, 0, r0, wF) (0, 0) pc' ls (.int (fx_X2_offers a1 a2 a3) :: st) (sx_w S r)) : am_G M (none, dd, 0, 0, r0, wF) (0, 0) pc ls (.int a3 :: .int a2 :: .int a1 :: .ref 15 :: st) (sx_w S r) :=
  am_callU st [.int a1, .int a2, .int a3] d (hM ▸ cu_X10_107_X2) (tx_X2_offers (sx_w S r) 15 2 _ (sx_c15 S r) rfl a1 a2 a3 _ rfl) rfl rfl (sx_c15 S r) rfl h2 ⟨am_rb_s (am_rbh (Nat.le_trans (Nat.le_of_ble_eq_true rfl : 1 + 1 ≤ 4) h1) (Nat.le_of_ble_eq_true rfl)), Nat.le_refl 0, Nat.le_refl 0⟩ rfl hp k
theorem vq_offers_4 {M : am_M} {dd : Nat} {r0 : Option Value} {wF : am_W} {pc pc' : Nat} {ls : List (Option Value)} {st : List Value} (S : sx_T) (r : am_W) (a1 a2 a3 : Int32) (d : decode M.2.1 pc = .ok (.invokevirtual 107, 3)) (hM : M.1.cls = RX10) (h1 : 4 ≤ dd) (h2 : (st.map fun v => v.category).sum ≤ 8) (hp : pc + 3 = pc') (k : am_G M (none, dd, 0, 0, r0, wF) (0, 0) pc' ls (.int (fx_X3_offers a1 a2 a3) :: st) (sx_w S r)) : am_G M (none, dd, 0, 0, r0, wF) (0, 0) pc ls (.int a3 :: .int a2 :: .int a1 :: .ref 16 :: st) (sx_w S r) :=
  am_callU st [.int a1, .int a2, .int a3] d (hM ▸ cu_X10_107_X3) (tx_X3_offers (sx_w S r) 16 3 _ (sx_c16 S r) rfl a1 a2 a3 _ rfl) rfl rfl (sx_c16 S r) rfl h2 ⟨am_rb_s (am_rbh (Nat.le_trans (Nat.le_of_ble_eq_true rfl : 2 + 1 ≤ 4) h1) (Nat.le_of_ble_eq_true rfl)), Nat.le_refl 0, Nat.le_refl 0⟩ rfl hp k
theorem vq_offers_5 {M : am_M} {dd : Nat} {r0 : Option Value} {wF : am_W} {pc pc' : Nat} {ls : List (Option Value)} {st : List Value} (S : sx_T) (r : am_W) (a1 a2 a3 : Int32) (d : decode M.2.1 pc = .ok (.invokevirtual 107, 3)) (hM : M.1.cls = RX10) (h1 : 4 ≤ dd) (h2 : (st.map fun v => v.category).sum ≤ 8) (hp : pc + 3 = pc') (k : am_G M (none, dd, 0, 0, r0, wF) (0, 0) pc' ls (.int (fx_X0_offers a1 a2 a3) :: st) (sx_w S r)) : am_G M (none, dd, 0, 0, r0, wF) (0, 0) pc ls (.int a3 :: .int a2 :: .int a1 :: .ref 17 :: st) (sx_w S r) :=
  am_callU st [.int a1, .int a2, .int a3] d (hM ▸ cu_X10_107_X0) (tx_X0_offers (sx_w S r) 17 0 _ (sx_c17 S r) rfl a1 a2 a3 _ rfl) rfl rfl (sx_c17 S r) rfl h2 ⟨am_rb_s (am_rbh (Nat.le_trans (Nat.le_of_ble_eq_true rfl : 0 + 1 ≤ 4) h1) (Nat.le_of_ble_eq_true rfl)), Nat.le_refl 0, Nat.le_refl 0⟩ rfl hp k
theorem vq_offers_6 {M : am_M} {dd : Nat} {r0 : Option Value} {wF : am_W} {pc pc' : Nat} {ls : List (Option Value)} {st : List Value} (S : sx_T) (r : am_W) (a1 a2 a3 : Int32) (d : decode M.2.1 pc = .ok (.invokevirtual 107, 3)) (hM : M.1.cls = RX10) (h1 : 4 ≤ dd) (h2 : (st.map fun v => v.category).sum ≤ 8) (hp : pc + 3 = pc') (k : am_G M (none, dd, 0, 0, r0, wF) (0, 0) pc' ls (.int (fx_X9_offers a1 a2 a3) :: st) (sx_w S r)) : am_G M (none, dd, 0, 0, r0, wF) (0, 0) pc ls (.int a3 :: .int a2 :: .int a1 :: .ref 18 :: st) (sx_w S r) :=
  am_callU st [.int a1, .int a2, .int a3] d (hM ▸ cu_X10_107_X9) (tx_X9_offers (sx_w S r) 18 9 _ (sx_c18 S r) rfl a1 a2 a3 _ rfl) rfl rfl (sx_c18 S r) rfl h2 ⟨am_rb_s (am_rbh (Nat.le_trans (Nat.le_of_ble_eq_true rfl : 0 + 1 ≤ 4) h1) (Nat.le_of_ble_eq_true rfl)), Nat.le_refl 0, Nat.le_refl 0⟩ rfl hp k
theorem vq_offers_7 {M : am_M} {dd : Nat} {r0 : Option Value} {wF : am_W} {pc pc' : Nat} {ls : List (Option Value)} {st : List Value} (S : sx_T) (r : am_W) (a1 a2 a3 : Int32) (d : decode M.2.1 pc = .ok (.invokevirtual 107, 3)) (hM : M.1.cls = RX10) (h1 : 4 ≤ dd) (h2 : (st.map fun v => v.category).sum ≤ 8) (hp : pc + 3 = pc') (k : am_G M (none, dd, 0, 0, r0, wF) (0, 0) pc' ls (.int (fx_X9_offers a1 a2 a3) :: st) (sx_w S r)) : am_G M (none, dd, 0, 0, r0, wF) (0, 0) pc ls (.int a3 :: .int a2 :: .int a1 :: .ref 39 :: st) (sx_w S r) :=
  am_callU st [.int a1, .int a2, .int a3] d (hM ▸ cu_X10_107_X9) (tx_X9_offers (sx_w S r) 39 9 _ (sx_c39 S r) rfl a1 a2 a3 _ rfl) rfl rfl (sx_c39 S r) rfl h2 ⟨am_rb_s (am_rbh (Nat.le_trans (Nat.le_of_ble_eq_true rfl : 0 + 1 ≤ 4) h1) (Nat.le_of_ble_eq_true rfl)), Nat.le_refl 0, Nat.le_refl 0⟩ rfl hp k
theorem vr_offers {M : am_M} {dd : Nat} {r0 : Option Value} {wF : am_W} {pc pc' : Nat} {ls : List (Option Value)} {st : List Value} (c : Fin 8) (S : sx_T) (r : am_W) (a1 a2 a3 : Int32) (d : decode M.2.1 pc = .ok (.invokevirtual 107, 3)) (hM : M.1.cls = RX10) (hd : (Nat.ble 4 dd && Nat.ble (st.map fun v => v.category).sum 8) = true) (hp : pc + 3 = pc') (k : am_G M (none, dd, 0, 0, r0, wF) (0, 0) pc' ls (.int (fk_offers c a1 a2 a3) :: st) (sx_w S r)) : am_G M (none, dd, 0, 0, r0, wF) (0, 0) pc ls (.int a3 :: .int a2 :: .int a1 :: .ref (am_kr c) :: st) (sx_w S r) := by
  simp only [Bool.and_eq_true] at hd
  have h1 := Nat.le_of_ble_eq_true hd.1
  have h2 := Nat.le_of_ble_eq_true hd.2
  match c, k with
  | ⟨0, _⟩, k => exact vq_offers_0 S r a1 a2 a3 d hM h1 h2 hp k
  | ⟨1, _⟩, k => exact vq_offers_1 S r a1 a2 a3 d hM h1 h2 hp k
  | ⟨2, _⟩, k => exact vq_offers_2 S r a1 a2 a3 d hM h1 h2 hp k
  | ⟨3, _⟩, k => exact vq_offers_3 S r a1 a2 a3 d hM h1 h2 hp k
  | ⟨4, _⟩, k => exact vq_offers_4 S r a1 a2 a3 d hM h1 h2 hp k
  | ⟨5, _⟩, k => exact vq_offers_5 S r a1 a2 a3 d hM h1 h2 hp k
  | ⟨6, _⟩, k => exact vq_offers_6 S r a1 a2 a3 d hM h1 h2 hp k
  | ⟨7, _⟩, k => exact vq_offers_7 S r a1 a2 a3 d hM h1 h2 hp k
set_option maxRecDepth 100000 in
set_option maxHeartbeats 4000000 in
theorem tx_X10_offer (r : am_W) (S : sx_T) (res : Int32 × sx_T) (hres : fx_X10_offer S = some res) : am_T mX10_offer 6 0 0 [.ref 34] (sx_w S r) (some (.int res.1)) (sx_w res.2 r) := by
  refine am_meth (ls := [some (.ref 34), none]) (by decide +kernel) rfl (Nat.le_of_ble_eq_true rfl) (sx_len _ _ _) ?_
  rw [fx_X10_offer] at hres
  refine am_aload_n (pc' := 1) 0 dX10_offer_0 rfl rfl rfl ?_
  obtain ⟨q1, hq2, hres⟩ := am_bd_s hres
  refine am_cV (pc' := 4) (st' := [.int q1.1]) [] [] dX10_offer_1 cs_X10_103 (tx_X10_mind r S _ hq2) rfl rfl rfl (sx_c34 S r) rfl rfl rfl rfl rfl ?_
  refine am_istore_n (pc' := 5) (ls' := [some (.ref 34), some (.int q1.1)]) 1 dX10_offer_4 rfl (Nat.le_of_ble_eq_true rfl) rfl rfl rfl ?_
  refine am_aload_n (pc' := 6) 0 dX10_offer_5 rfl rfl rfl ?_
  obtain ⟨q3, hq4, hres⟩ := am_let_s hres
  refine am_cV (pc' := 9) (st' := []) [] [] dX10_offer_6 cs_X10_81 (tx_X10_lookAtNoRoom r q1.2 _ hq4) rfl rfl rfl (sx_c34 q1.2 r) rfl rfl rfl rfl rfl ?_
  refine am_aload_n (pc' := 10) 0 dX10_offer_9 rfl rfl rfl ?_
  refine am_get (pc' := 13) (v := .ref (am_kr (sx_vi_kind q3))) dX10_offer_10 fl_X10_27 (sx_c34 q3 r) rfl rfl ?_
  refine am_aload_n (pc' := 14) 0 dX10_offer_13 rfl rfl rfl ?_
  refine am_get (pc' := 17) (v := .ref 21) dX10_offer_14 fl_X10_34 (sx_c34 q3 r) rfl rfl ?_
  refine am_aload_n (pc' := 18) 0 dX10_offer_17 rfl rfl rfl ?_
  refine am_get (pc' := 21) (v := .int (sx_vi_law q3)) dX10_offer_18 fl_X10_61 (sx_c34 q3 r) rfl rfl ?_
  refine am_iconst (pc' := 22) (v := 2) dX10_offer_21 kc_2 rfl ?_
  refine am_aload_n (pc' := 23) 0 dX10_offer_22 rfl rfl rfl ?_
  refine am_get (pc' := 26) (v := .ref 38) dX10_offer_23 fl_X10_21 (sx_c34 q3 r) rfl rfl ?_
  obtain ⟨q5, hq6, hres⟩ := am_bd_s hres
  refine am_cV (pc' := 29) (st' := [.int q5.1, .ref (am_kr (sx_vi_kind q3))]) [.ref (am_kr (sx_vi_kind q3))] [.int (sx_vi_law q3), .int (2 : Int32), .ref 38] dX10_offer_26 cs_X10_87 (tx_X8_said_r38 r (sx_vi_law q3) (2 : Int32) q3 _ hq6) rfl rfl rfl (sx_c21 q3 r) rfl rfl rfl rfl rfl ?_
  refine am_iload_n (pc' := 30) 1 dX10_offer_29 rfl rfl rfl ?_
  refine am_aload_n (pc' := 31) 0 dX10_offer_30 rfl rfl rfl ?_
  refine am_get (pc' := 34) (v := .int (sx_vi_crowd q5.2)) dX10_offer_31 fl_X10_71 (sx_c34 q5.2 r) rfl rfl ?_
  refine vr_offers (pc' := 37) (sx_vi_kind q3) _ _ q5.1 q1.1 (sx_vi_crowd q5.2) dX10_offer_34 rfl rfl rfl ?_
  obtain rfl := Option.some.inj hres
  exact am_iret dX10_offer_37 rfl rfl rfl
set_option maxRecDepth 100000 in
set_option maxHeartbeats 4000000 in
theorem tx_X10_said (r : am_W) (a1 : Int32) (a2 : Int32) (S : sx_T) (res : Int32 × sx_T) (hres : fx_X10_said a1 a2 S = some res) : am_T mX10_said 2 0 0 [.ref 34, .int a1, .int a2] (sx_w S r) (some (.int res.1)) (sx_w res.2 r) := by
  refine am_meth (ls := [some (.ref 34), some (.int a1), some (.int a2)]) (by decide +kernel) rfl (Nat.le_of_ble_eq_true rfl) (sx_len _ _ _) ?_
  rw [fx_X10_said] at hres
  refine am_iload_n (pc' := 1) 1 dX10_said_0 rfl rfl rfl ?_
  refine am_iconst (pc' := 2) (v := 2) dX10_said_1 kc_2 rfl ?_
  refine am_icmp_ne (pc' := 5) 12 dX10_said_2 rfl rfl (fun hc1 => ?_) (fun hc1 => ?_)
  · rw [if_neg hc1] at hres
    refine am_aload_n (pc' := 13) 0 dX10_said_12 rfl rfl rfl ?_
    refine am_iload_n (pc' := 14) 2 dX10_said_13 rfl rfl rfl ?_
    obtain ⟨q2, hq3, hres⟩ := am_let_s hres
    refine am_cV (pc' := 17) (st' := []) [] [.int a2] dX10_said_14 cs_X10_84 (tx_X10_lookAt r a2 S _ hq3) rfl rfl rfl (sx_c34 S r) rfl rfl rfl rfl rfl ?_
    refine am_aload_n (pc' := 18) 0 dX10_said_17 rfl rfl rfl ?_
    refine am_get (pc' := 21) (v := .ref 21) dX10_said_18 fl_X10_34 (sx_c34 q2 r) rfl rfl ?_
    refine am_aload_n (pc' := 22) 0 dX10_said_21 rfl rfl rfl ?_
    refine am_get (pc' := 25) (v := .int (sx_vi_law q2)) dX10_said_22 fl_X10_61 (sx_c34 q2 r) rfl rfl ?_
    refine am_iload_n (pc' := 26) 1 dX10_said_25 rfl rfl rfl ?_
    refine am_aload_n (pc' := 27) 0 dX10_said_26 rfl rfl rfl ?_
    refine am_get (pc' := 30) (v := .ref 38) dX10_said_27 fl_X10_21 (sx_c34 q2 r) rfl rfl ?_
    obtain ⟨q4, hq5, hres⟩ := am_bd_s hres
    refine am_cV (pc' := 33) (st' := [.int q4.1]) [] [.int (sx_vi_law q2), .int a1, .ref 38] dX10_said_30 cs_X10_87 (tx_X8_said_r38 r (sx_vi_law q2) a1 q2 _ hq5) rfl rfl rfl (sx_c21 q2 r) rfl rfl rfl rfl rfl ?_
    obtain rfl := Option.some.inj hres
    exact am_iret dX10_said_33 rfl rfl rfl
  · rw [if_pos hc1] at hres
    refine am_aload_n (pc' := 6) 0 dX10_said_5 rfl rfl rfl ?_
    obtain ⟨q6, hq7, hres⟩ := am_let_s hres
    refine am_cV (pc' := 9) (st' := []) [] [] dX10_said_6 cs_X10_81 (tx_X10_lookAtNoRoom r S _ hq7) rfl rfl rfl (sx_c34 S r) rfl rfl rfl rfl rfl ?_
    refine am_goto 17 dX10_said_9 rfl ?_
    refine am_aload_n (pc' := 18) 0 dX10_said_17 rfl rfl rfl ?_
    refine am_get (pc' := 21) (v := .ref 21) dX10_said_18 fl_X10_34 (sx_c34 q6 r) rfl rfl ?_
    refine am_aload_n (pc' := 22) 0 dX10_said_21 rfl rfl rfl ?_
    refine am_get (pc' := 25) (v := .int (sx_vi_law q6)) dX10_said_22 fl_X10_61 (sx_c34 q6 r) rfl rfl ?_
    refine am_iload_n (pc' := 26) 1 dX10_said_25 rfl rfl rfl ?_
    refine am_aload_n (pc' := 27) 0 dX10_said_26 rfl rfl rfl ?_
    refine am_get (pc' := 30) (v := .ref 38) dX10_said_27 fl_X10_21 (sx_c34 q6 r) rfl rfl ?_
    obtain ⟨q8, hq9, hres⟩ := am_bd_s hres
    refine am_cV (pc' := 33) (st' := [.int q8.1]) [] [.int (sx_vi_law q6), .int a1, .ref 38] dX10_said_30 cs_X10_87 (tx_X8_said_r38 r (sx_vi_law q6) a1 q6 _ hq9) rfl rfl rfl (sx_c21 q6 r) rfl rfl rfl rfl rfl ?_
    obtain rfl := Option.some.inj hres
    exact am_iret dX10_said_33 rfl rfl rfl
set_option maxRecDepth 100000 in
set_option maxHeartbeats 4000000 in
theorem tx_X10_setCrowd (r : am_W) (a1 : Int32) (S : sx_T) (res : sx_T) (hres : fx_X10_setCrowd a1 S = res) : am_T mX10_setCrowd 1 0 0 [.ref 34, .int a1] (sx_w S r) none (sx_w res r) := by
  refine am_meth (ls := [some (.ref 34), some (.int a1)]) (by decide +kernel) rfl (Nat.le_of_ble_eq_true rfl) (sx_len _ _ _) ?_
  rw [fx_X10_setCrowd] at hres
  refine am_aload_n (pc' := 1) 0 dX10_setCrowd_0 rfl rfl rfl ?_
  refine am_iload_n (pc' := 2) 1 dX10_setCrowd_1 rfl rfl rfl ?_
  refine am_put (pc' := 5) (ws' := (sx_w (ux_vi_crowd S a1) r)) (v := .int a1) dX10_setCrowd_2 fp_X10_71 (sx_c34 S r) (fun _ => ⟨rfl, rfl⟩) (Nat.le_of_ble_eq_true rfl) (sx_p_vi_crowd S r _) rfl ?_
  refine am_aload_n (pc' := 6) 0 dX10_setCrowd_5 rfl rfl rfl ?_
  refine am_get (pc' := 9) (v := .ref 38) dX10_setCrowd_6 fl_X10_21 (sx_c34 (ux_vi_crowd S a1) r) rfl rfl ?_
  refine am_iconst (pc' := 10) (v := 4) dX10_setCrowd_9 kc_4 rfl ?_
  refine am_iload_n (pc' := 11) 1 dX10_setCrowd_10 rfl rfl rfl ?_
  refine am_cSN (pc' := 14) (st' := []) [] [.ref 38, .int (4 : Int32), .int a1] dX10_setCrowd_11 cs_X10_45 (tx_set (f := (sx_vi_names S)) (w1 := (sx_w (ux_vi_names (ux_vi_crowd S a1) (am_up 6 (sx_vi_names S) (4 : Int32) a1)) r)) (sx_c38 (ux_vi_crowd S a1) r) rfl (4 : Int32) a1 (sx_p_vi_names (ux_vi_crowd S a1) r _)) rfl rfl rfl rfl rfl rfl ?_
  refine am_aload_n (pc' := 15) 0 dX10_setCrowd_14 rfl rfl rfl ?_
  refine am_iconst (pc' := 16) (v := 0) dX10_setCrowd_15 kc_0 rfl ?_
  refine am_put (pc' := 19) (ws' := (sx_w (ux_vi_known (ux_vi_names (ux_vi_crowd S a1) (am_up 6 (sx_vi_names S) (4 : Int32) a1)) (0 : Int32)) r)) (v := .int (0 : Int32)) dX10_setCrowd_16 fp_X10_62 (sx_c34 (ux_vi_names (ux_vi_crowd S a1) (am_up 6 (sx_vi_names S) (4 : Int32) a1)) r) (fun _ => ⟨rfl, rfl⟩) (Nat.le_of_ble_eq_true rfl) (sx_p_vi_known (ux_vi_names (ux_vi_crowd S a1) (am_up 6 (sx_vi_names S) (4 : Int32) a1)) r _) rfl ?_
  subst hres
  exact am_vret dX10_setCrowd_19 rfl rfl rfl
set_option maxRecDepth 100000 in
set_option maxHeartbeats 4000000 in
theorem tx_X10_setDamp (r : am_W) (a1 : Int32) (a2 : Int32) (S : sx_T) (res : sx_T) (hres : fx_X10_setDamp a1 a2 S = res) : am_T mX10_setDamp 1 0 0 [.ref 34, .int a1, .int a2] (sx_w S r) none (sx_w res r) := by
  refine am_meth (ls := [some (.ref 34), some (.int a1), some (.int a2)]) (by decide +kernel) rfl (Nat.le_of_ble_eq_true rfl) (sx_len _ _ _) ?_
  rw [fx_X10_setDamp] at hres
  refine am_aload_n (pc' := 1) 0 dX10_setDamp_0 rfl rfl rfl ?_
  refine am_get (pc' := 4) (v := .ref 36) dX10_setDamp_1 fl_X10_15 (sx_c34 S r) rfl rfl ?_
  refine am_iload_n (pc' := 5) 1 dX10_setDamp_4 rfl rfl rfl ?_
  refine am_iload_n (pc' := 6) 2 dX10_setDamp_5 rfl rfl rfl ?_
  refine am_cSN (pc' := 9) (st' := []) [] [.ref 36, .int a1, .int a2] dX10_setDamp_6 cs_X10_45 (tx_set (f := (sx_vi_damp S)) (w1 := (sx_w (ux_vi_damp S (am_up 6 (sx_vi_damp S) a1 a2)) r)) (sx_c36 S r) rfl a1 a2 (sx_p_vi_damp S r _)) rfl rfl rfl rfl rfl rfl ?_
  refine am_aload_n (pc' := 10) 0 dX10_setDamp_9 rfl rfl rfl ?_
  refine am_iconst (pc' := 11) (v := 0) dX10_setDamp_10 kc_0 rfl ?_
  refine am_put (pc' := 14) (ws' := (sx_w (ux_vi_known (ux_vi_damp S (am_up 6 (sx_vi_damp S) a1 a2)) (0 : Int32)) r)) (v := .int (0 : Int32)) dX10_setDamp_11 fp_X10_62 (sx_c34 (ux_vi_damp S (am_up 6 (sx_vi_damp S) a1 a2)) r) (fun _ => ⟨rfl, rfl⟩) (Nat.le_of_ble_eq_true rfl) (sx_p_vi_known (ux_vi_damp S (am_up 6 (sx_vi_damp S) a1 a2)) r _) rfl ?_
  subst hres
  exact am_vret dX10_setDamp_14 rfl rfl rfl
set_option maxRecDepth 100000 in
set_option maxHeartbeats 4000000 in
theorem tx_X10_setHour (r : am_W) (a1 : Int32) (S : sx_T) (res : sx_T) (hres : fx_X10_setHour a1 S = res) : am_T mX10_setHour 1 0 0 [.ref 34, .int a1] (sx_w S r) none (sx_w res r) := by
  refine am_meth (ls := [some (.ref 34), some (.int a1)]) (by decide +kernel) rfl (Nat.le_of_ble_eq_true rfl) (sx_len _ _ _) ?_
  rw [fx_X10_setHour] at hres
  refine am_aload_n (pc' := 1) 0 dX10_setHour_0 rfl rfl rfl ?_
  refine am_iload_n (pc' := 2) 1 dX10_setHour_1 rfl rfl rfl ?_
  refine am_put (pc' := 5) (ws' := (sx_w (ux_vi_hour S a1) r)) (v := .int a1) dX10_setHour_2 fp_X10_80 (sx_c34 S r) (fun _ => ⟨rfl, rfl⟩) (Nat.le_of_ble_eq_true rfl) (sx_p_vi_hour S r _) rfl ?_
  refine am_aload_n (pc' := 6) 0 dX10_setHour_5 rfl rfl rfl ?_
  refine am_get (pc' := 9) (v := .ref 38) dX10_setHour_6 fl_X10_21 (sx_c34 (ux_vi_hour S a1) r) rfl rfl ?_
  refine am_iconst (pc' := 10) (v := 3) dX10_setHour_9 kc_3 rfl ?_
  refine am_iload_n (pc' := 11) 1 dX10_setHour_10 rfl rfl rfl ?_
  refine am_cSN (pc' := 14) (st' := []) [] [.ref 38, .int (3 : Int32), .int a1] dX10_setHour_11 cs_X10_45 (tx_set (f := (sx_vi_names S)) (w1 := (sx_w (ux_vi_names (ux_vi_hour S a1) (am_up 6 (sx_vi_names S) (3 : Int32) a1)) r)) (sx_c38 (ux_vi_hour S a1) r) rfl (3 : Int32) a1 (sx_p_vi_names (ux_vi_hour S a1) r _)) rfl rfl rfl rfl rfl rfl ?_
  subst hres
  exact am_vret dX10_setHour_14 rfl rfl rfl
set_option maxRecDepth 100000 in
set_option maxHeartbeats 4000000 in
theorem tx_X10_setKind (r : am_W) (a1 : Fin 8) (S : sx_T) (res : sx_T) (hres : fx_X10_setKind a1 S = res) : am_T mX10_setKind 0 0 0 [.ref 34, .ref (am_kr a1)] (sx_w S r) none (sx_w res r) := by
  refine am_meth (ls := [some (.ref 34), some (.ref (am_kr a1))]) (by decide +kernel) rfl (Nat.le_of_ble_eq_true rfl) (sx_len _ _ _) ?_
  rw [fx_X10_setKind] at hres
  refine am_aload_n (pc' := 1) 1 dX10_setKind_0 rfl rfl rfl ?_
  refine am_ifnull (pc' := 4) dX10_setKind_1 rfl ?_
  refine am_aload_n (pc' := 5) 0 dX10_setKind_4 rfl rfl rfl ?_
  refine am_aload_n (pc' := 6) 1 dX10_setKind_5 rfl rfl rfl ?_
  refine am_put (pc' := 9) (ws' := (sx_w (ux_vi_kind S a1) r)) (v := .ref (am_kr a1)) dX10_setKind_6 fp_X10_27 (sx_c34 S r) (fun _ => ⟨rfl, rfl⟩) (Nat.le_of_ble_eq_true rfl) (sx_p_vi_kind S r _) rfl ?_
  refine am_aload_n (pc' := 10) 0 dX10_setKind_9 rfl rfl rfl ?_
  refine am_iconst (pc' := 11) (v := 0) dX10_setKind_10 kc_0 rfl ?_
  refine am_put (pc' := 14) (ws' := (sx_w (ux_vi_known (ux_vi_kind S a1) (0 : Int32)) r)) (v := .int (0 : Int32)) dX10_setKind_11 fp_X10_62 (sx_c34 (ux_vi_kind S a1) r) (fun _ => ⟨rfl, rfl⟩) (Nat.le_of_ble_eq_true rfl) (sx_p_vi_known (ux_vi_kind S a1) r _) rfl ?_
  subst hres
  exact am_vret dX10_setKind_14 rfl rfl rfl
set_option maxRecDepth 100000 in
set_option maxHeartbeats 4000000 in
theorem tx_X10_setLaw (r : am_W) (a1 : Int32) (S : sx_T) (res : sx_T) (hres : fx_X10_setLaw a1 S = res) : am_T mX10_setLaw 0 0 0 [.ref 34, .int a1] (sx_w S r) none (sx_w res r) := by
  refine am_meth (ls := [some (.ref 34), some (.int a1)]) (by decide +kernel) rfl (Nat.le_of_ble_eq_true rfl) (sx_len _ _ _) ?_
  rw [fx_X10_setLaw] at hres
  refine am_aload_n (pc' := 1) 0 dX10_setLaw_0 rfl rfl rfl ?_
  refine am_iload_n (pc' := 2) 1 dX10_setLaw_1 rfl rfl rfl ?_
  refine am_put (pc' := 5) (ws' := (sx_w (ux_vi_law S a1) r)) (v := .int a1) dX10_setLaw_2 fp_X10_61 (sx_c34 S r) (fun _ => ⟨rfl, rfl⟩) (Nat.le_of_ble_eq_true rfl) (sx_p_vi_law S r _) rfl ?_
  refine am_aload_n (pc' := 6) 0 dX10_setLaw_5 rfl rfl rfl ?_
  refine am_iconst (pc' := 7) (v := 0) dX10_setLaw_6 kc_0 rfl ?_
  refine am_put (pc' := 10) (ws' := (sx_w (ux_vi_known (ux_vi_law S a1) (0 : Int32)) r)) (v := .int (0 : Int32)) dX10_setLaw_7 fp_X10_62 (sx_c34 (ux_vi_law S a1) r) (fun _ => ⟨rfl, rfl⟩) (Nat.le_of_ble_eq_true rfl) (sx_p_vi_known (ux_vi_law S a1) r _) rfl ?_
  subst hres
  exact am_vret dX10_setLaw_10 rfl rfl rfl
set_option maxRecDepth 100000 in
set_option maxHeartbeats 4000000 in
theorem tx_X10_setLight (r : am_W) (a1 : Int32) (a2 : Int32) (S : sx_T) (res : sx_T) (hres : fx_X10_setLight a1 a2 S = res) : am_T mX10_setLight 1 0 0 [.ref 34, .int a1, .int a2] (sx_w S r) none (sx_w res r) := by
  refine am_meth (ls := [some (.ref 34), some (.int a1), some (.int a2)]) (by decide +kernel) rfl (Nat.le_of_ble_eq_true rfl) (sx_len _ _ _) ?_
  rw [fx_X10_setLight] at hres
  refine am_aload_n (pc' := 1) 0 dX10_setLight_0 rfl rfl rfl ?_
  refine am_get (pc' := 4) (v := .ref 35) dX10_setLight_1 fl_X10_9 (sx_c34 S r) rfl rfl ?_
  refine am_iload_n (pc' := 5) 1 dX10_setLight_4 rfl rfl rfl ?_
  refine am_iload_n (pc' := 6) 2 dX10_setLight_5 rfl rfl rfl ?_
  refine am_cSN (pc' := 9) (st' := []) [] [.ref 35, .int a1, .int a2] dX10_setLight_6 cs_X10_45 (tx_set (f := (sx_vi_light S)) (w1 := (sx_w (ux_vi_light S (am_up 6 (sx_vi_light S) a1 a2)) r)) (sx_c35 S r) rfl a1 a2 (sx_p_vi_light S r _)) rfl rfl rfl rfl rfl rfl ?_
  refine am_aload_n (pc' := 10) 0 dX10_setLight_9 rfl rfl rfl ?_
  refine am_iconst (pc' := 11) (v := 0) dX10_setLight_10 kc_0 rfl ?_
  refine am_put (pc' := 14) (ws' := (sx_w (ux_vi_known (ux_vi_light S (am_up 6 (sx_vi_light S) a1 a2)) (0 : Int32)) r)) (v := .int (0 : Int32)) dX10_setLight_11 fp_X10_62 (sx_c34 (ux_vi_light S (am_up 6 (sx_vi_light S) a1 a2)) r) (fun _ => ⟨rfl, rfl⟩) (Nat.le_of_ble_eq_true rfl) (sx_p_vi_known (ux_vi_light S (am_up 6 (sx_vi_light S) a1 a2)) r _) rfl ?_
  subst hres
  exact am_vret dX10_setLight_14 rfl rfl rfl
set_option maxRecDepth 100000 in
set_option maxHeartbeats 4000000 in
theorem tx_X10_setMore (r : am_W) (a1 : Int32) (S : sx_T) (res : sx_T) (hres : fx_X10_setMore a1 S = res) : am_T mX10_setMore 0 0 0 [.ref 34, .int a1] (sx_w S r) none (sx_w res r) := by
  refine am_meth (ls := [some (.ref 34), some (.int a1)]) (by decide +kernel) rfl (Nat.le_of_ble_eq_true rfl) (sx_len _ _ _) ?_
  rw [fx_X10_setMore] at hres
  refine am_aload_n (pc' := 1) 0 dX10_setMore_0 rfl rfl rfl ?_
  refine am_iload_n (pc' := 2) 1 dX10_setMore_1 rfl rfl rfl ?_
  refine am_put (pc' := 5) (ws' := (sx_w (ux_vi_more S a1) r)) (v := .int a1) dX10_setMore_2 fp_X10_68 (sx_c34 S r) (fun _ => ⟨rfl, rfl⟩) (Nat.le_of_ble_eq_true rfl) (sx_p_vi_more S r _) rfl ?_
  refine am_aload_n (pc' := 6) 0 dX10_setMore_5 rfl rfl rfl ?_
  refine am_iconst (pc' := 7) (v := 0) dX10_setMore_6 kc_0 rfl ?_
  refine am_put (pc' := 10) (ws' := (sx_w (ux_vi_known (ux_vi_more S a1) (0 : Int32)) r)) (v := .int (0 : Int32)) dX10_setMore_7 fp_X10_62 (sx_c34 (ux_vi_more S a1) r) (fun _ => ⟨rfl, rfl⟩) (Nat.le_of_ble_eq_true rfl) (sx_p_vi_known (ux_vi_more S a1) r _) rfl ?_
  subst hres
  exact am_vret dX10_setMore_10 rfl rfl rfl
set_option maxRecDepth 100000 in
set_option maxHeartbeats 4000000 in
theorem tx_X10_setRich (r : am_W) (a1 : Int32) (S : sx_T) (res : sx_T) (hres : fx_X10_setRich a1 S = res) : am_T mX10_setRich 2 0 0 [.ref 34, .int a1] (sx_w S r) none (sx_w res r) := by
  refine am_meth (ls := [some (.ref 34), some (.int a1)]) (by decide +kernel) rfl (Nat.le_of_ble_eq_true rfl) (sx_len _ _ _) ?_
  rw [fx_X10_setRich] at hres
  refine am_aload_n (pc' := 1) 0 dX10_setRich_0 rfl rfl rfl ?_
  refine am_get (pc' := 4) (v := .ref 38) dX10_setRich_1 fl_X10_21 (sx_c34 S r) rfl rfl ?_
  refine am_iconst (pc' := 5) (v := 5) dX10_setRich_4 kc_5 rfl ?_
  refine am_iload_n (pc' := 6) 1 dX10_setRich_5 rfl rfl rfl ?_
  refine am_cSN (pc' := 9) (st' := []) [] [.ref 38, .int (5 : Int32), .int a1] dX10_setRich_6 cs_X10_45 (tx_set (f := (sx_vi_names S)) (w1 := (sx_w (ux_vi_names S (am_up 6 (sx_vi_names S) (5 : Int32) a1)) r)) (sx_c38 S r) rfl (5 : Int32) a1 (sx_p_vi_names S r _)) rfl rfl rfl rfl rfl rfl ?_
  refine am_aload_n (pc' := 10) 0 dX10_setRich_9 rfl rfl rfl ?_
  refine am_get (pc' := 13) (v := .ref 21) dX10_setRich_10 fl_X10_34 (sx_c34 (ux_vi_names S (am_up 6 (sx_vi_names S) (5 : Int32) a1)) r) rfl rfl ?_
  refine am_aload_n (pc' := 14) 0 dX10_setRich_13 rfl rfl rfl ?_
  refine am_get (pc' := 17) (v := .int (sx_vi_law S)) dX10_setRich_14 fl_X10_61 (sx_c34 (ux_vi_names S (am_up 6 (sx_vi_names S) (5 : Int32) a1)) r) rfl rfl ?_
  refine am_bipush (pc' := 19) (v := (-15)) dX10_setRich_17 kb_m15 rfl ?_
  refine am_cV (pc' := 22) (st' := [.int (fx_X8_mindNames (sx_vi_law S) (-15 : Int32) (ux_vi_names S (am_up 6 (sx_vi_names S) (5 : Int32) a1)))]) [] [.int (sx_vi_law S), .int (-15 : Int32)] dX10_setRich_19 cs_X10_74 (tx_X8_mindNames r (sx_vi_law S) (-15 : Int32) (ux_vi_names S (am_up 6 (sx_vi_names S) (5 : Int32) a1)) _ rfl) rfl rfl rfl (sx_c21 (ux_vi_names S (am_up 6 (sx_vi_names S) (5 : Int32) a1)) r) rfl rfl rfl rfl rfl ?_
  refine am_if_eq (pc' := 25) 30 dX10_setRich_22 rfl rfl (fun hc1 => ?_) (fun hc1 => ?_)
  · rw [if_pos hc1] at hres
    subst hres
    exact am_vret dX10_setRich_30 rfl rfl rfl
  · rw [if_neg hc1] at hres
    refine am_aload_n (pc' := 26) 0 dX10_setRich_25 rfl rfl rfl ?_
    refine am_iconst (pc' := 27) (v := 0) dX10_setRich_26 kc_0 rfl ?_
    refine am_put (pc' := 30) (ws' := (sx_w (ux_vi_known (ux_vi_names S (am_up 6 (sx_vi_names S) (5 : Int32) a1)) (0 : Int32)) r)) (v := .int (0 : Int32)) dX10_setRich_27 fp_X10_62 (sx_c34 (ux_vi_names S (am_up 6 (sx_vi_names S) (5 : Int32) a1)) r) (fun _ => ⟨rfl, rfl⟩) (Nat.le_of_ble_eq_true rfl) (sx_p_vi_known (ux_vi_names S (am_up 6 (sx_vi_names S) (5 : Int32) a1)) r _) rfl ?_
    subst hres
    exact am_vret dX10_setRich_30 rfl rfl rfl
set_option maxRecDepth 100000 in
set_option maxHeartbeats 4000000 in
theorem wx_X10_suppose_r1_2 (r : am_W) : ∀ (n : Nat) (v2 : Int32) (S : sx_T) (res : sx_T) (hres : fx_X10_suppose_r1_2 n v2 S = some res), am_G mX10_suppose (none, 2, 0, 0, none, (sx_w res r)) (0, 0) 2 [some (.ref 34), some (.ref 1), some (.int v2)] [] (sx_w S r) := by
  intro n
  induction n with
  | zero =>
    intro v2 S res hres
    cases hres
  | succ n ih =>
    intro v2 S res hres
    rw [fx_X10_suppose_r1_2] at hres
    refine am_iload_n (pc' := 3) 2 dX10_suppose_2 rfl rfl rfl ?_
    refine am_bipush (pc' := 5) (v := 6) dX10_suppose_3 kb_6 rfl ?_
    refine am_icmp_ge (pc' := 8) 46 dX10_suppose_5 rfl rfl (fun hc1 => ?_) (fun hc1 => ?_)
    · rw [if_pos hc1] at hres
      refine am_aload_n (pc' := 47) 0 dX10_suppose_46 rfl rfl rfl ?_
      refine am_aload_n (pc' := 48) 1 dX10_suppose_47 rfl rfl rfl ?_
      refine am_get (pc' := 51) (v := .int (sx_now_hour S)) dX10_suppose_48 fl_X10_50 (sx_c1 S r) rfl rfl ?_
      obtain ⟨q2, hq3, hres⟩ := am_let_s hres
      refine am_cV (pc' := 54) (st' := []) [] [.int (sx_now_hour S)] dX10_suppose_51 cs_X10_54 (tx_X10_setHour r (sx_now_hour S) S _ hq3) rfl rfl rfl (sx_c34 S r) rfl rfl rfl rfl rfl ?_
      refine am_aload_n (pc' := 55) 0 dX10_suppose_54 rfl rfl rfl ?_
      refine am_aload_n (pc' := 56) 1 dX10_suppose_55 rfl rfl rfl ?_
      refine am_get (pc' := 59) (v := .int (sx_now_law q2)) dX10_suppose_56 fl_X10_58 (sx_c1 q2 r) rfl rfl ?_
      refine am_put (pc' := 62) (ws' := (sx_w (ux_vi_law q2 (sx_now_law q2)) r)) (v := .int (sx_now_law q2)) dX10_suppose_59 fp_X10_61 (sx_c34 q2 r) (fun _ => ⟨rfl, rfl⟩) (Nat.le_of_ble_eq_true rfl) (sx_p_vi_law q2 r _) rfl ?_
      refine am_aload_n (pc' := 63) 0 dX10_suppose_62 rfl rfl rfl ?_
      refine am_iconst (pc' := 64) (v := 0) dX10_suppose_63 kc_0 rfl ?_
      refine am_put (pc' := 67) (ws' := (sx_w (ux_vi_known (ux_vi_law q2 (sx_now_law q2)) (0 : Int32)) r)) (v := .int (0 : Int32)) dX10_suppose_64 fp_X10_62 (sx_c34 (ux_vi_law q2 (sx_now_law q2)) r) (fun _ => ⟨rfl, rfl⟩) (Nat.le_of_ble_eq_true rfl) (sx_p_vi_known (ux_vi_law q2 (sx_now_law q2)) r _) rfl ?_
      obtain rfl := Option.some.inj hres
      exact am_vret dX10_suppose_67 rfl rfl rfl
    · rw [if_neg hc1] at hres
      refine am_aload_n (pc' := 9) 0 dX10_suppose_8 rfl rfl rfl ?_
      refine am_get (pc' := 12) (v := .ref 35) dX10_suppose_9 fl_X10_9 (sx_c34 S r) rfl rfl ?_
      refine am_iload_n (pc' := 13) 2 dX10_suppose_12 rfl rfl rfl ?_
      refine am_aload_n (pc' := 14) 1 dX10_suppose_13 rfl rfl rfl ?_
      refine am_get (pc' := 17) (v := .ref 2) dX10_suppose_14 fl_X10_38 (sx_c1 S r) rfl rfl ?_
      refine am_iload_n (pc' := 18) 2 dX10_suppose_17 rfl rfl rfl ?_
      refine am_cSN (pc' := 21) (st' := [.int (am_rd 6 (sx_now_light S) v2), .int v2, .ref 35]) [.int v2, .ref 35] [.ref 2, .int v2] dX10_suppose_18 cs_X10_41 (tx_at (f := (sx_now_light S)) (sx_c2 S r) rfl v2) rfl rfl rfl rfl rfl rfl ?_
      refine am_cSN (pc' := 24) (st' := []) [] [.ref 35, .int v2, .int (am_rd 6 (sx_now_light S) v2)] dX10_suppose_21 cs_X10_45 (tx_set (f := (sx_vi_light S)) (w1 := (sx_w (ux_vi_light S (am_up 6 (sx_vi_light S) v2 (am_rd 6 (sx_now_light S) v2))) r)) (sx_c35 S r) rfl v2 (am_rd 6 (sx_now_light S) v2) (sx_p_vi_light S r _)) rfl rfl rfl rfl rfl rfl ?_
      refine am_aload_n (pc' := 25) 0 dX10_suppose_24 rfl rfl rfl ?_
      refine am_get (pc' := 28) (v := .ref 36) dX10_suppose_25 fl_X10_15 (sx_c34 (ux_vi_light S (am_up 6 (sx_vi_light S) v2 (am_rd 6 (sx_now_light S) v2))) r) rfl rfl ?_
      refine am_iload_n (pc' := 29) 2 dX10_suppose_28 rfl rfl rfl ?_
      refine am_aload_n (pc' := 30) 1 dX10_suppose_29 rfl rfl rfl ?_
      refine am_get (pc' := 33) (v := .ref 3) dX10_suppose_30 fl_X10_49 (sx_c1 (ux_vi_light S (am_up 6 (sx_vi_light S) v2 (am_rd 6 (sx_now_light S) v2))) r) rfl rfl ?_
      refine am_iload_n (pc' := 34) 2 dX10_suppose_33 rfl rfl rfl ?_
      refine am_cSN (pc' := 37) (st' := [.int (am_rd 6 (sx_now_damp S) v2), .int v2, .ref 36]) [.int v2, .ref 36] [.ref 3, .int v2] dX10_suppose_34 cs_X10_41 (tx_at (f := (sx_now_damp S)) (sx_c3 (ux_vi_light S (am_up 6 (sx_vi_light S) v2 (am_rd 6 (sx_now_light S) v2))) r) rfl v2) rfl rfl rfl rfl rfl rfl ?_
      refine am_cSN (pc' := 40) (st' := []) [] [.ref 36, .int v2, .int (am_rd 6 (sx_now_damp S) v2)] dX10_suppose_37 cs_X10_45 (tx_set (f := (sx_vi_damp S)) (w1 := (sx_w (ux_vi_damp (ux_vi_light S (am_up 6 (sx_vi_light S) v2 (am_rd 6 (sx_now_light S) v2))) (am_up 6 (sx_vi_damp S) v2 (am_rd 6 (sx_now_damp S) v2))) r)) (sx_c36 (ux_vi_light S (am_up 6 (sx_vi_light S) v2 (am_rd 6 (sx_now_light S) v2))) r) rfl v2 (am_rd 6 (sx_now_damp S) v2) (sx_p_vi_damp (ux_vi_light S (am_up 6 (sx_vi_light S) v2 (am_rd 6 (sx_now_light S) v2))) r _)) rfl rfl rfl rfl rfl rfl ?_
      refine am_iinc (pc' := 43) (ls' := [some (.ref 34), some (.ref 1), some (.int (v2 + (1 : Int32)))]) dX10_suppose_40 rfl (show v2 + Int32.ofInt 1 = (v2 + (1 : Int32)) from congrArg (fun z => v2 + z) kc_1) (Nat.le_of_ble_eq_true rfl) rfl rfl rfl ?_
      refine am_goto 2 dX10_suppose_43 rfl ?_
      exact ih _ _ _ hres

set_option maxRecDepth 100000 in
set_option maxHeartbeats 4000000 in
theorem tx_X10_suppose_r1 (r : am_W) (S : sx_T) (res : sx_T) (hres : fx_X10_suppose_r1 S = some res) : am_T mX10_suppose 2 0 0 [.ref 34, .ref 1] (sx_w S r) none (sx_w res r) := by
  refine am_meth (ls := [some (.ref 34), some (.ref 1), none]) (by decide +kernel) rfl (Nat.le_of_ble_eq_true rfl) (sx_len _ _ _) ?_
  rw [fx_X10_suppose_r1] at hres
  refine am_iconst (pc' := 1) (v := 0) dX10_suppose_0 kc_0 rfl ?_
  refine am_istore_n (pc' := 2) (ls' := [some (.ref 34), some (.ref 1), some (.int (0 : Int32))]) 2 dX10_suppose_1 rfl (Nat.le_of_ble_eq_true rfl) rfl rfl rfl ?_
  exact wx_X10_suppose_r1_2 r am_fu _ _ _ hres
set_option maxRecDepth 100000 in
set_option maxHeartbeats 4000000 in
theorem wx_X10_walk_r42_8 (r : am_W) : ∀ (n : Nat) (v2 : Int32) (v3 : Int32) (v4 : Int32) (S : sx_T) (res : sx_T) (hres : fx_X10_walk_r42_8 n v2 v3 v4 S = some res), am_G mX10_walk (none, 1, 0, 0, none, (sx_w res r)) (0, 0) 8 [some (.ref 34), some (.ref 42), some (.int v2), some (.int v3), some (.int v4)] [] (sx_w S r) := by
  intro n
  induction n with
  | zero =>
    intro v2 v3 v4 S res hres
    cases hres
  | succ n ih =>
    intro v2 v3 v4 S res hres
    rw [fx_X10_walk_r42_8] at hres
    refine am_iload (pc' := 10) dX10_walk_8 rfl rfl ?_
    refine am_iload_n (pc' := 11) 2 dX10_walk_10 rfl rfl rfl ?_
    refine am_icmp_ge (pc' := 14) 56 dX10_walk_11 rfl rfl (fun hc1 => ?_) (fun hc1 => ?_)
    · rw [if_pos hc1] at hres
      refine am_aload_n (pc' := 57) 0 dX10_walk_56 rfl rfl rfl ?_
      refine am_iconst (pc' := 58) (v := 0) dX10_walk_57 kc_0 rfl ?_
      refine am_put (pc' := 61) (ws' := (sx_w (ux_vi_known S (0 : Int32)) r)) (v := .int (0 : Int32)) dX10_walk_58 fp_X10_62 (sx_c34 S r) (fun _ => ⟨rfl, rfl⟩) (Nat.le_of_ble_eq_true rfl) (sx_p_vi_known S r _) rfl ?_
      obtain rfl := Option.some.inj hres
      exact am_vret dX10_walk_61 rfl rfl rfl
    · rw [if_neg hc1] at hres
      refine am_iload (pc' := 16) dX10_walk_14 rfl rfl ?_
      refine am_iload_n (pc' := 17) 3 dX10_walk_16 rfl rfl rfl ?_
      refine am_icmp_ne (pc' := 20) 23 dX10_walk_17 rfl rfl (fun hc2 => ?_) (fun hc2 => ?_)
      · rw [if_neg hc2] at hres
        refine am_aload_n (pc' := 24) 0 dX10_walk_23 rfl rfl rfl ?_
        refine am_get (pc' := 27) (v := .ref 37) dX10_walk_24 fl_X10_18 (sx_c34 S r) rfl rfl ?_
        refine am_aload_n (pc' := 28) 0 dX10_walk_27 rfl rfl rfl ?_
        refine am_get (pc' := 31) (v := .int (sx_vi_length S)) dX10_walk_28 fl_X10_65 (sx_c34 S r) rfl rfl ?_
        refine am_aload_n (pc' := 32) 1 dX10_walk_31 rfl rfl rfl ?_
        refine am_iload (pc' := 34) dX10_walk_32 rfl rfl ?_
        refine am_cSN (pc' := 37) (st' := [.int (am_rd 6 (sx_way S) v4), .int (sx_vi_length S), .ref 37]) [.int (sx_vi_length S), .ref 37] [.ref 42, .int v4] dX10_walk_34 cs_X10_41 (tx_at (f := (sx_way S)) (sx_c42 S r) rfl v4) rfl rfl rfl rfl rfl rfl ?_
        refine am_cSN (pc' := 40) (st' := []) [] [.ref 37, .int (sx_vi_length S), .int (am_rd 6 (sx_way S) v4)] dX10_walk_37 cs_X10_45 (tx_set (f := (sx_vi_walked S)) (w1 := (sx_w (ux_vi_walked S (am_up 6 (sx_vi_walked S) (sx_vi_length S) (am_rd 6 (sx_way S) v4))) r)) (sx_c37 S r) rfl (sx_vi_length S) (am_rd 6 (sx_way S) v4) (sx_p_vi_walked S r _)) rfl rfl rfl rfl rfl rfl ?_
        refine am_aload_n (pc' := 41) 0 dX10_walk_40 rfl rfl rfl ?_
        refine am_dupa (pc' := 42) dX10_walk_41 rfl ?_
        refine am_get (pc' := 45) (v := .int (sx_vi_length S)) dX10_walk_42 fl_X10_65 (sx_c34 (ux_vi_walked S (am_up 6 (sx_vi_walked S) (sx_vi_length S) (am_rd 6 (sx_way S) v4))) r) rfl rfl ?_
        refine am_iconst (pc' := 46) (v := 1) dX10_walk_45 kc_1 rfl ?_
        refine am_iadd (pc' := 47) dX10_walk_46 rfl ?_
        refine am_put (pc' := 50) (ws' := (sx_w (ux_vi_length (ux_vi_walked S (am_up 6 (sx_vi_walked S) (sx_vi_length S) (am_rd 6 (sx_way S) v4))) ((sx_vi_length S) + (1 : Int32))) r)) (v := .int ((sx_vi_length S) + (1 : Int32))) dX10_walk_47 fp_X10_65 (sx_c34 (ux_vi_walked S (am_up 6 (sx_vi_walked S) (sx_vi_length S) (am_rd 6 (sx_way S) v4))) r) (fun _ => ⟨rfl, rfl⟩) (Nat.le_of_ble_eq_true rfl) (sx_p_vi_length (ux_vi_walked S (am_up 6 (sx_vi_walked S) (sx_vi_length S) (am_rd 6 (sx_way S) v4))) r _) rfl ?_
        refine am_iinc (pc' := 53) (ls' := [some (.ref 34), some (.ref 42), some (.int v2), some (.int v3), some (.int (v4 + (1 : Int32)))]) dX10_walk_50 rfl (show v4 + Int32.ofInt 1 = (v4 + (1 : Int32)) from congrArg (fun z => v4 + z) kc_1) (Nat.le_of_ble_eq_true rfl) rfl rfl rfl ?_
        refine am_goto 8 dX10_walk_53 rfl ?_
        exact ih _ _ _ _ _ hres
      · rw [if_pos hc2] at hres
        refine am_goto 50 dX10_walk_20 rfl ?_
        refine am_iinc (pc' := 53) (ls' := [some (.ref 34), some (.ref 42), some (.int v2), some (.int v3), some (.int (v4 + (1 : Int32)))]) dX10_walk_50 rfl (show v4 + Int32.ofInt 1 = (v4 + (1 : Int32)) from congrArg (fun z => v4 + z) kc_1) (Nat.le_of_ble_eq_true rfl) rfl rfl rfl ?_
        refine am_goto 8 dX10_walk_53 rfl ?_
        exact ih _ _ _ _ _ hres

set_option maxRecDepth 100000 in
set_option maxHeartbeats 4000000 in
theorem tx_X10_walk_r42 (r : am_W) (a2 : Int32) (a3 : Int32) (S : sx_T) (res : sx_T) (hres : fx_X10_walk_r42 a2 a3 S = some res) : am_T mX10_walk 1 0 0 [.ref 34, .ref 42, .int a2, .int a3] (sx_w S r) none (sx_w res r) := by
  refine am_meth (ls := [some (.ref 34), some (.ref 42), some (.int a2), some (.int a3), none]) (by decide +kernel) rfl (Nat.le_of_ble_eq_true rfl) (sx_len _ _ _) ?_
  rw [fx_X10_walk_r42] at hres
  refine am_aload_n (pc' := 1) 0 dX10_walk_0 rfl rfl rfl ?_
  refine am_iconst (pc' := 2) (v := 0) dX10_walk_1 kc_0 rfl ?_
  refine am_put (pc' := 5) (ws' := (sx_w (ux_vi_length S (0 : Int32)) r)) (v := .int (0 : Int32)) dX10_walk_2 fp_X10_65 (sx_c34 S r) (fun _ => ⟨rfl, rfl⟩) (Nat.le_of_ble_eq_true rfl) (sx_p_vi_length S r _) rfl ?_
  refine am_iconst (pc' := 6) (v := 0) dX10_walk_5 kc_0 rfl ?_
  refine am_istore (pc' := 8) (ls' := [some (.ref 34), some (.ref 42), some (.int a2), some (.int a3), some (.int (0 : Int32))]) dX10_walk_6 (Nat.le_of_ble_eq_true rfl) rfl rfl rfl ?_
  exact wx_X10_walk_r42_8 r am_fu _ _ _ _ _ hres
set_option maxRecDepth 100000 in
set_option maxHeartbeats 4000000 in
theorem wx_X10_walk_r41_8 (r : am_W) : ∀ (n : Nat) (v2 : Int32) (v3 : Int32) (v4 : Int32) (S : sx_T) (res : sx_T) (hres : fx_X10_walk_r41_8 n v2 v3 v4 S = some res), am_G mX10_walk (none, 1, 0, 0, none, (sx_w res r)) (0, 0) 8 [some (.ref 34), some (.ref 41), some (.int v2), some (.int v3), some (.int v4)] [] (sx_w S r) := by
  intro n
  induction n with
  | zero =>
    intro v2 v3 v4 S res hres
    cases hres
  | succ n ih =>
    intro v2 v3 v4 S res hres
    rw [fx_X10_walk_r41_8] at hres
    refine am_iload (pc' := 10) dX10_walk_8 rfl rfl ?_
    refine am_iload_n (pc' := 11) 2 dX10_walk_10 rfl rfl rfl ?_
    refine am_icmp_ge (pc' := 14) 56 dX10_walk_11 rfl rfl (fun hc1 => ?_) (fun hc1 => ?_)
    · rw [if_pos hc1] at hres
      refine am_aload_n (pc' := 57) 0 dX10_walk_56 rfl rfl rfl ?_
      refine am_iconst (pc' := 58) (v := 0) dX10_walk_57 kc_0 rfl ?_
      refine am_put (pc' := 61) (ws' := (sx_w (ux_vi_known S (0 : Int32)) r)) (v := .int (0 : Int32)) dX10_walk_58 fp_X10_62 (sx_c34 S r) (fun _ => ⟨rfl, rfl⟩) (Nat.le_of_ble_eq_true rfl) (sx_p_vi_known S r _) rfl ?_
      obtain rfl := Option.some.inj hres
      exact am_vret dX10_walk_61 rfl rfl rfl
    · rw [if_neg hc1] at hres
      refine am_iload (pc' := 16) dX10_walk_14 rfl rfl ?_
      refine am_iload_n (pc' := 17) 3 dX10_walk_16 rfl rfl rfl ?_
      refine am_icmp_ne (pc' := 20) 23 dX10_walk_17 rfl rfl (fun hc2 => ?_) (fun hc2 => ?_)
      · rw [if_neg hc2] at hres
        refine am_aload_n (pc' := 24) 0 dX10_walk_23 rfl rfl rfl ?_
        refine am_get (pc' := 27) (v := .ref 37) dX10_walk_24 fl_X10_18 (sx_c34 S r) rfl rfl ?_
        refine am_aload_n (pc' := 28) 0 dX10_walk_27 rfl rfl rfl ?_
        refine am_get (pc' := 31) (v := .int (sx_vi_length S)) dX10_walk_28 fl_X10_65 (sx_c34 S r) rfl rfl ?_
        refine am_aload_n (pc' := 32) 1 dX10_walk_31 rfl rfl rfl ?_
        refine am_iload (pc' := 34) dX10_walk_32 rfl rfl ?_
        refine am_cSN (pc' := 37) (st' := [.int (am_rd 6 (sx_order S) v4), .int (sx_vi_length S), .ref 37]) [.int (sx_vi_length S), .ref 37] [.ref 41, .int v4] dX10_walk_34 cs_X10_41 (tx_at (f := (sx_order S)) (sx_c41 S r) rfl v4) rfl rfl rfl rfl rfl rfl ?_
        refine am_cSN (pc' := 40) (st' := []) [] [.ref 37, .int (sx_vi_length S), .int (am_rd 6 (sx_order S) v4)] dX10_walk_37 cs_X10_45 (tx_set (f := (sx_vi_walked S)) (w1 := (sx_w (ux_vi_walked S (am_up 6 (sx_vi_walked S) (sx_vi_length S) (am_rd 6 (sx_order S) v4))) r)) (sx_c37 S r) rfl (sx_vi_length S) (am_rd 6 (sx_order S) v4) (sx_p_vi_walked S r _)) rfl rfl rfl rfl rfl rfl ?_
        refine am_aload_n (pc' := 41) 0 dX10_walk_40 rfl rfl rfl ?_
        refine am_dupa (pc' := 42) dX10_walk_41 rfl ?_
        refine am_get (pc' := 45) (v := .int (sx_vi_length S)) dX10_walk_42 fl_X10_65 (sx_c34 (ux_vi_walked S (am_up 6 (sx_vi_walked S) (sx_vi_length S) (am_rd 6 (sx_order S) v4))) r) rfl rfl ?_
        refine am_iconst (pc' := 46) (v := 1) dX10_walk_45 kc_1 rfl ?_
        refine am_iadd (pc' := 47) dX10_walk_46 rfl ?_
        refine am_put (pc' := 50) (ws' := (sx_w (ux_vi_length (ux_vi_walked S (am_up 6 (sx_vi_walked S) (sx_vi_length S) (am_rd 6 (sx_order S) v4))) ((sx_vi_length S) + (1 : Int32))) r)) (v := .int ((sx_vi_length S) + (1 : Int32))) dX10_walk_47 fp_X10_65 (sx_c34 (ux_vi_walked S (am_up 6 (sx_vi_walked S) (sx_vi_length S) (am_rd 6 (sx_order S) v4))) r) (fun _ => ⟨rfl, rfl⟩) (Nat.le_of_ble_eq_true rfl) (sx_p_vi_length (ux_vi_walked S (am_up 6 (sx_vi_walked S) (sx_vi_length S) (am_rd 6 (sx_order S) v4))) r _) rfl ?_
        refine am_iinc (pc' := 53) (ls' := [some (.ref 34), some (.ref 41), some (.int v2), some (.int v3), some (.int (v4 + (1 : Int32)))]) dX10_walk_50 rfl (show v4 + Int32.ofInt 1 = (v4 + (1 : Int32)) from congrArg (fun z => v4 + z) kc_1) (Nat.le_of_ble_eq_true rfl) rfl rfl rfl ?_
        refine am_goto 8 dX10_walk_53 rfl ?_
        exact ih _ _ _ _ _ hres
      · rw [if_pos hc2] at hres
        refine am_goto 50 dX10_walk_20 rfl ?_
        refine am_iinc (pc' := 53) (ls' := [some (.ref 34), some (.ref 41), some (.int v2), some (.int v3), some (.int (v4 + (1 : Int32)))]) dX10_walk_50 rfl (show v4 + Int32.ofInt 1 = (v4 + (1 : Int32)) from congrArg (fun z => v4 + z) kc_1) (Nat.le_of_ble_eq_true rfl) rfl rfl rfl ?_
        refine am_goto 8 dX10_walk_53 rfl ?_
        exact ih _ _ _ _ _ hres

set_option maxRecDepth 100000 in
set_option maxHeartbeats 4000000 in
theorem tx_X10_walk_r41 (r : am_W) (a2 : Int32) (a3 : Int32) (S : sx_T) (res : sx_T) (hres : fx_X10_walk_r41 a2 a3 S = some res) : am_T mX10_walk 1 0 0 [.ref 34, .ref 41, .int a2, .int a3] (sx_w S r) none (sx_w res r) := by
  refine am_meth (ls := [some (.ref 34), some (.ref 41), some (.int a2), some (.int a3), none]) (by decide +kernel) rfl (Nat.le_of_ble_eq_true rfl) (sx_len _ _ _) ?_
  rw [fx_X10_walk_r41] at hres
  refine am_aload_n (pc' := 1) 0 dX10_walk_0 rfl rfl rfl ?_
  refine am_iconst (pc' := 2) (v := 0) dX10_walk_1 kc_0 rfl ?_
  refine am_put (pc' := 5) (ws' := (sx_w (ux_vi_length S (0 : Int32)) r)) (v := .int (0 : Int32)) dX10_walk_2 fp_X10_65 (sx_c34 S r) (fun _ => ⟨rfl, rfl⟩) (Nat.le_of_ble_eq_true rfl) (sx_p_vi_length S r _) rfl ?_
  refine am_iconst (pc' := 6) (v := 0) dX10_walk_5 kc_0 rfl ?_
  refine am_istore (pc' := 8) (ls' := [some (.ref 34), some (.ref 41), some (.int a2), some (.int a3), some (.int (0 : Int32))]) dX10_walk_6 (Nat.le_of_ble_eq_true rfl) rfl rfl rfl ?_
  exact wx_X10_walk_r41_8 r am_fu _ _ _ _ _ hres
set_option maxRecDepth 100000 in
set_option maxHeartbeats 4000000 in
theorem tx_X11_addGain (r : am_W) (a1 : Int32) (a2 : Int32) (a3 : Int32) (S : sx_T) (res : sx_T) (hres : fx_X11_addGain a1 a2 a3 S = res) : am_T mX11_addGain 1 0 0 [.ref 0, .int a1, .int a2, .int a3] (sx_w S r) none (sx_w res r) := by
  refine am_meth (ls := [some (.ref 0), some (.int a1), some (.int a2), some (.int a3), none]) (by decide +kernel) rfl (Nat.le_of_ble_eq_true rfl) (sx_len _ _ _) ?_
  rw [fx_X11_addGain] at hres
  refine am_iload_n (pc' := 1) 1 dX11_addGain_0 rfl rfl rfl ?_
  refine am_bipush (pc' := 3) (v := 6) dX11_addGain_1 kb_6 rfl ?_
  refine am_imul (pc' := 4) dX11_addGain_3 rfl ?_
  refine am_iload_n (pc' := 5) 2 dX11_addGain_4 rfl rfl rfl ?_
  refine am_iadd (pc' := 6) dX11_addGain_5 rfl ?_
  refine am_istore (pc' := 8) (ls' := [some (.ref 0), some (.int a1), some (.int a2), some (.int a3), some (.int ((a1 * (6 : Int32)) + a2))]) dX11_addGain_6 (Nat.le_of_ble_eq_true rfl) rfl rfl rfl ?_
  refine am_aload_n (pc' := 9) 0 dX11_addGain_8 rfl rfl rfl ?_
  refine am_get (pc' := 12) (v := .ref 43) dX11_addGain_9 fl_X11_88 (sx_c0 S r) rfl rfl ?_
  refine am_iload (pc' := 14) dX11_addGain_12 rfl rfl ?_
  refine am_aload_n (pc' := 15) 0 dX11_addGain_14 rfl rfl rfl ?_
  refine am_get (pc' := 18) (v := .ref 43) dX11_addGain_15 fl_X11_88 (sx_c0 S r) rfl rfl ?_
  refine am_iload (pc' := 20) dX11_addGain_18 rfl rfl ?_
  refine am_cS (pc' := 23) (st' := [.int (am_rd 18 (sx_gains S) ((a1 * (6 : Int32)) + a2)), .int ((a1 * (6 : Int32)) + a2), .ref 43]) [.int ((a1 * (6 : Int32)) + a2), .ref 43] [.ref 43, .int ((a1 * (6 : Int32)) + a2)] dX11_addGain_20 cs_X11_139 (tx_at (f := (sx_gains S)) (sx_c43 S r) rfl ((a1 * (6 : Int32)) + a2)) rfl rfl rfl rfl rfl rfl ?_
  refine am_iload_n (pc' := 24) 3 dX11_addGain_23 rfl rfl rfl ?_
  refine am_iadd (pc' := 25) dX11_addGain_24 rfl ?_
  refine am_cS (pc' := 28) (st' := []) [] [.ref 43, .int ((a1 * (6 : Int32)) + a2), .int ((am_rd 18 (sx_gains S) ((a1 * (6 : Int32)) + a2)) + a3)] dX11_addGain_25 cs_X11_143 (tx_set (f := (sx_gains S)) (w1 := (sx_w (ux_gains S (am_up 18 (sx_gains S) ((a1 * (6 : Int32)) + a2) ((am_rd 18 (sx_gains S) ((a1 * (6 : Int32)) + a2)) + a3))) r)) (sx_c43 S r) rfl ((a1 * (6 : Int32)) + a2) ((am_rd 18 (sx_gains S) ((a1 * (6 : Int32)) + a2)) + a3) (sx_p_gains S r _)) rfl rfl rfl rfl rfl rfl ?_
  subst hres
  exact am_vret dX11_addGain_28 rfl rfl rfl
set_option maxRecDepth 100000 in
set_option maxHeartbeats 4000000 in
theorem tx_X11_areViewers (r : am_W) (a1 : Int32) (S : sx_T) (res : Int32) (hres : fx_X11_areViewers a1 S = res) : am_T mX11_areViewers 1 0 0 [.ref 0, .int a1] (sx_w S r) (some (.int res)) (sx_w S r) := by
  refine am_meth (ls := [some (.ref 0), some (.int a1)]) (by decide +kernel) rfl (Nat.le_of_ble_eq_true rfl) (sx_len _ _ _) ?_
  rw [fx_X11_areViewers] at hres
  refine am_iload_n (pc' := 1) 1 dX11_areViewers_0 rfl rfl rfl ?_
  refine am_iconst (pc' := 2) (v := 1) dX11_areViewers_1 kc_1 rfl ?_
  refine am_aload_n (pc' := 3) 0 dX11_areViewers_2 rfl rfl rfl ?_
  refine am_get (pc' := 6) (v := .ref 1) dX11_areViewers_3 fl_X11_10 (sx_c0 S r) rfl rfl ?_
  refine am_get (pc' := 9) (v := .int (sx_now_viewers S)) dX11_areViewers_6 fl_X11_120 (sx_c1 S r) rfl rfl ?_
  refine am_ishl (pc' := 10) dX11_areViewers_9 rfl ?_
  refine am_cS (pc' := 13) (st' := [.int (fx_X11_within a1 ((1 : Int32) <<< ((sx_now_viewers S) &&& 31)))]) [] [.int a1, .int ((1 : Int32) <<< ((sx_now_viewers S) &&& 31))] dX11_areViewers_10 cs_X11_129 (tx_X11_within (sx_w S r) a1 ((1 : Int32) <<< ((sx_now_viewers S) &&& 31)) _ rfl) rfl rfl rfl rfl rfl rfl ?_
  subst hres
  exact am_zret dX11_areViewers_13 rfl (bz_X11_within a1 ((1 : Int32) <<< ((sx_now_viewers S) &&& 31))) rfl rfl
theorem bz_X11_areViewers (a1 : Int32) (S : sx_T) : narrow .boolean (.int (fx_X11_areViewers a1 S)) = .int (fx_X11_areViewers a1 S) := by
  rw [fx_X11_areViewers]
  repeat' (first | refine nb_ite ?_ ?_ | rfl | exact bz_X11_within _ _ | exact bz_X11_within _ _)
set_option maxRecDepth 100000 in
set_option maxHeartbeats 4000000 in
theorem tx_X11_isViewer (r : am_W) (a1 : Int32) (S : sx_T) (res : Int32) (hres : fx_X11_isViewer a1 S = res) : am_T mX11_isViewer 1 0 0 [.ref 0, .int a1] (sx_w S r) (some (.int res)) (sx_w S r) := by
  refine am_meth (ls := [some (.ref 0), some (.int a1)]) (by decide +kernel) rfl (Nat.le_of_ble_eq_true rfl) (sx_len _ _ _) ?_
  rw [fx_X11_isViewer] at hres
  refine am_iload_n (pc' := 1) 1 dX11_isViewer_0 rfl rfl rfl ?_
  refine am_aload_n (pc' := 2) 0 dX11_isViewer_1 rfl rfl rfl ?_
  refine am_get (pc' := 5) (v := .ref 1) dX11_isViewer_2 fl_X11_10 (sx_c0 S r) rfl rfl ?_
  refine am_get (pc' := 8) (v := .int (sx_now_viewers S)) dX11_isViewer_5 fl_X11_120 (sx_c1 S r) rfl rfl ?_
  refine am_cS (pc' := 11) (st' := [.int (fx_X11_within a1 (sx_now_viewers S))]) [] [.int a1, .int (sx_now_viewers S)] dX11_isViewer_8 cs_X11_129 (tx_X11_within (sx_w S r) a1 (sx_now_viewers S) _ rfl) rfl rfl rfl rfl rfl rfl ?_
  subst hres
  exact am_zret dX11_isViewer_11 rfl (bz_X11_within a1 (sx_now_viewers S)) rfl rfl
theorem bz_X11_isViewer (a1 : Int32) (S : sx_T) : narrow .boolean (.int (fx_X11_isViewer a1 S)) = .int (fx_X11_isViewer a1 S) := by
  rw [fx_X11_isViewer]
  repeat' (first | refine nb_ite ?_ ?_ | rfl | exact bz_X11_within _ _ | exact bz_X11_within _ _)
set_option maxRecDepth 100000 in
set_option maxHeartbeats 4000000 in
theorem tx_X11_isCrowd (ws : am_W) (a1 : Int32) (res : Int32) (hres : fx_X11_isCrowd a1 = res) : am_T mX11_isCrowd 0 0 0 [.int a1] ws (some (.int res)) ws := by
  refine am_meth (ls := [some (.int a1)]) (by decide +kernel) rfl (Nat.le_of_ble_eq_true rfl) ⟨rfl, Or.inl rfl⟩ ?_
  rw [fx_X11_isCrowd] at hres
  refine am_iload_n (pc' := 1) 0 dX11_isCrowd_0 rfl rfl rfl ?_
  refine am_iconst (pc' := 2) (v := 1) dX11_isCrowd_1 kc_1 rfl ?_
  refine am_icmp_lt (pc' := 5) 15 dX11_isCrowd_2 rfl rfl (fun hc1 => ?_) (fun hc1 => ?_)
  · rw [if_pos hc1] at hres
    refine am_iconst (pc' := 16) (v := 0) dX11_isCrowd_15 kc_0 rfl ?_
    subst hres
    exact am_zret dX11_isCrowd_16 rfl rfl rfl rfl
  · rw [if_neg hc1] at hres
    refine am_iload_n (pc' := 6) 0 dX11_isCrowd_5 rfl rfl rfl ?_
    refine am_bipush (pc' := 8) (v := 8) dX11_isCrowd_6 kb_8 rfl ?_
    refine am_icmp_gt (pc' := 11) 15 dX11_isCrowd_8 rfl rfl (fun hc2 => ?_) (fun hc2 => ?_)
    · rw [if_pos hc2] at hres
      refine am_iconst (pc' := 16) (v := 0) dX11_isCrowd_15 kc_0 rfl ?_
      subst hres
      exact am_zret dX11_isCrowd_16 rfl rfl rfl rfl
    · rw [if_neg hc2] at hres
      refine am_iconst (pc' := 12) (v := 1) dX11_isCrowd_11 kc_1 rfl ?_
      refine am_goto 16 dX11_isCrowd_12 rfl ?_
      subst hres
      exact am_zret dX11_isCrowd_16 rfl rfl rfl rfl
theorem bz_X11_isCrowd (a1 : Int32) : narrow .boolean (.int (fx_X11_isCrowd a1)) = .int (fx_X11_isCrowd a1) := by
  rw [fx_X11_isCrowd]
  repeat' (first | refine nb_ite ?_ ?_ | rfl)
theorem am_kinds_at {a : Int32} (h0 : ¬ a < 0) (h1 : ¬ nI 6 ≤ a) : am_kinds a.toNatClampNeg = some (am_kr (fx_X11_kindAt a)) := by
  obtain ⟨j, hj, rfl⟩ := nI_of h0
  have h2 : j < 6 := by
    rcases Nat.lt_or_ge j 6 with q | q
    · exact q
    · exact absurd (nI_le q hj) h1
  rw [nI_clamp hj]
  match j, h2 with
  | 0, _ => rfl
  | 1, _ => rfl
  | 2, _ => rfl
  | 3, _ => rfl
  | 4, _ => rfl
  | 5, _ => rfl
theorem tx_X11_kindAt (r : am_W) (S : sx_T) (a : Int32) : am_T mX11_kindAt 0 0 0 [.ref 0, .int a] (sx_w S r) (some (.ref (am_kr (fx_X11_kindAt a)))) (sx_w S r) := by
  refine am_meth (ls := [some (.ref 0), some (.int a), none]) (by decide +kernel) rfl (Nat.le_of_ble_eq_true rfl) (sx_len _ _ _) ?_
  have J : ∀ q : Nat, .ref (am_kr (fx_X11_kindAt a)) = Value.ref q → am_G mX11_kindAt (none, 0, 0, 0, some (.ref (am_kr (fx_X11_kindAt a))), sx_w S r) (0, 0) 26 [some (.ref 0), some (.int a), none] [.ref q] (sx_w S r) := by
    intro q hq
    refine am_astore_n (pc' := 27) (ls' := [some (.ref 0), some (.int a), some (.ref q)]) 2 dX11_kindAt_26 rfl (Nat.le_of_ble_eq_true rfl) rfl rfl rfl ?_
    refine am_aload_n (pc' := 28) 2 dX11_kindAt_27 rfl rfl rfl ?_
    refine am_ifnonnull 38 dX11_kindAt_28 rfl ?_
    refine am_aload_n (pc' := 39) 2 dX11_kindAt_38 rfl rfl rfl ?_
    exact am_aret dX11_kindAt_39 rfl (by rw [hq]) rfl
  refine am_iload_n (pc' := 1) 1 dX11_kindAt_0 rfl rfl rfl ?_
  refine am_if_lt (pc' := 4) 22 dX11_kindAt_1 rfl rfl (fun h0 => ?_) (fun h0 => ?_)
  · refine am_aload_n (pc' := 23) 0 dX11_kindAt_22 rfl rfl rfl ?_
    refine am_get (pc' := 26) (v := .ref 18) dX11_kindAt_23 fl_X11_41 (sx_c0 _ _) rfl rfl ?_
    exact J 18 (by rw [fx_X11_kindAt, if_pos h0]; rfl)
  · refine am_iload_n (pc' := 5) 1 dX11_kindAt_4 rfl rfl rfl ?_
    refine am_aload_n (pc' := 6) 0 dX11_kindAt_5 rfl rfl rfl ?_
    refine am_get (pc' := 9) (v := .ref 11) dX11_kindAt_6 fl_X11_37 (sx_c0 _ _) rfl rfl ?_
    refine am_alenA (pc' := 10) dX11_kindAt_9 (sx_c11 _ _) rfl ?_
    refine am_icmp_ge (pc' := 13) 22 dX11_kindAt_10 rfl rfl (fun h1 => ?_) (fun h1 => ?_)
    · refine am_aload_n (pc' := 23) 0 dX11_kindAt_22 rfl rfl rfl ?_
      refine am_get (pc' := 26) (v := .ref 18) dX11_kindAt_23 fl_X11_41 (sx_c0 _ _) rfl rfl ?_
      exact J 18 (by rw [fx_X11_kindAt, if_neg h0, if_pos h1]; rfl)
    · refine am_aload_n (pc' := 14) 0 dX11_kindAt_13 rfl rfl rfl ?_
      refine am_get (pc' := 17) (v := .ref 11) dX11_kindAt_14 fl_X11_37 (sx_c0 _ _) rfl rfl ?_
      refine am_iload_n (pc' := 18) 1 dX11_kindAt_17 rfl rfl rfl ?_
      refine am_aald (pc' := 19) dX11_kindAt_18 (sx_c11 _ _) (am_inI (by decide) h0 h1) rfl ?_
      rw [am_kinds_at h0 h1]
      refine am_goto 26 dX11_kindAt_19 rfl ?_
      exact J _ rfl
set_option maxRecDepth 100000 in
set_option maxHeartbeats 4000000 in
theorem tx_X11_letCome (r : am_W) (a1 : Int32) (a2 : Int32) (S : sx_T) (res : sx_T) (hres : fx_X11_letCome a1 a2 S = res) : am_T mX11_letCome 3 0 0 [.ref 0, .int a1, .int a2] (sx_w S r) none (sx_w res r) := by
  refine am_meth (ls := [some (.ref 0), some (.int a1), some (.int a2)]) (by decide +kernel) rfl (Nat.le_of_ble_eq_true rfl) (sx_len _ _ _) ?_
  rw [fx_X11_letCome] at hres
  refine am_aload_n (pc' := 1) 0 dX11_letCome_0 rfl rfl rfl ?_
  refine am_get (pc' := 4) (v := .ref 34) dX11_letCome_1 fl_X11_78 (sx_c0 S r) rfl rfl ?_
  refine am_aload_n (pc' := 5) 0 dX11_letCome_4 rfl rfl rfl ?_
  refine am_aload_n (pc' := 6) 0 dX11_letCome_5 rfl rfl rfl ?_
  refine am_get (pc' := 9) (v := .ref 19) dX11_letCome_6 fl_X11_45 (sx_c0 S r) rfl rfl ?_
  refine am_iload_n (pc' := 10) 1 dX11_letCome_9 rfl rfl rfl ?_
  refine am_cS (pc' := 13) (st' := [.int (am_rd 8 (sx_kindOf S) a1), .ref 0, .ref 34]) [.ref 0, .ref 34] [.ref 19, .int a1] dX11_letCome_10 cs_X11_139 (tx_at (f := (sx_kindOf S)) (sx_c19 S r) rfl a1) rfl rfl rfl rfl rfl rfl ?_
  refine am_cV (pc' := 16) (st' := [.ref (am_kr (fx_X11_kindAt (am_rd 8 (sx_kindOf S) a1))), .ref 34]) [.ref 34] [.int (am_rd 8 (sx_kindOf S) a1)] dX11_letCome_13 cs_X11_252 (tx_X11_kindAt r S (am_rd 8 (sx_kindOf S) a1)) rfl rfl rfl (sx_c0 S r) rfl rfl rfl rfl rfl ?_
  obtain ⟨q1, hq2, hres⟩ := am_let_s hres
  refine am_cV (pc' := 19) (st' := []) [] [.ref (am_kr (fx_X11_kindAt (am_rd 8 (sx_kindOf S) a1)))] dX11_letCome_16 cs_X11_256 (tx_X10_setKind r (fx_X11_kindAt (am_rd 8 (sx_kindOf S) a1)) S _ hq2) rfl rfl rfl (sx_c34 S r) rfl rfl rfl rfl rfl ?_
  refine am_aload_n (pc' := 20) 0 dX11_letCome_19 rfl rfl rfl ?_
  refine am_get (pc' := 23) (v := .ref 34) dX11_letCome_20 fl_X11_78 (sx_c0 q1 r) rfl rfl ?_
  refine am_aload_n (pc' := 24) 0 dX11_letCome_23 rfl rfl rfl ?_
  refine am_get (pc' := 27) (v := .ref 20) dX11_letCome_24 fl_X11_49 (sx_c0 q1 r) rfl rfl ?_
  refine am_iload_n (pc' := 28) 1 dX11_letCome_27 rfl rfl rfl ?_
  refine am_cS (pc' := 31) (st' := [.int (am_rd 8 (sx_moreOf q1) a1), .ref 34]) [.ref 34] [.ref 20, .int a1] dX11_letCome_28 cs_X11_139 (tx_at (f := (sx_moreOf q1)) (sx_c20 q1 r) rfl a1) rfl rfl rfl rfl rfl rfl ?_
  obtain ⟨q3, hq4, hres⟩ := am_let_s hres
  refine am_cV (pc' := 34) (st' := []) [] [.int (am_rd 8 (sx_moreOf q1) a1)] dX11_letCome_31 cs_X11_260 (tx_X10_setMore r (am_rd 8 (sx_moreOf q1) a1) q1 _ hq4) rfl rfl rfl (sx_c34 q1 r) rfl rfl rfl rfl rfl ?_
  refine am_aload_n (pc' := 35) 0 dX11_letCome_34 rfl rfl rfl ?_
  refine am_get (pc' := 38) (v := .ref 34) dX11_letCome_35 fl_X11_78 (sx_c0 q3 r) rfl rfl ?_
  refine am_aload_n (pc' := 39) 0 dX11_letCome_38 rfl rfl rfl ?_
  refine am_get (pc' := 42) (v := .ref 1) dX11_letCome_39 fl_X11_10 (sx_c0 q3 r) rfl rfl ?_
  refine am_get (pc' := 45) (v := .ref 4) dX11_letCome_42 fl_X11_170 (sx_c1 q3 r) rfl rfl ?_
  refine am_iload_n (pc' := 46) 1 dX11_letCome_45 rfl rfl rfl ?_
  refine am_cS (pc' := 49) (st' := [.int (am_rd 8 (sx_now_rich q3) a1), .ref 34]) [.ref 34] [.ref 4, .int a1] dX11_letCome_46 cs_X11_139 (tx_at (f := (sx_now_rich q3)) (sx_c4 q3 r) rfl a1) rfl rfl rfl rfl rfl rfl ?_
  obtain ⟨q5, hq6, hres⟩ := am_let_s hres
  refine am_cV (pc' := 52) (st' := []) [] [.int (am_rd 8 (sx_now_rich q3) a1)] dX11_letCome_49 cs_X11_263 (tx_X10_setRich r (am_rd 8 (sx_now_rich q3) a1) q3 _ hq6) rfl rfl rfl (sx_c34 q3 r) rfl rfl rfl rfl rfl ?_
  refine am_aload_n (pc' := 53) 0 dX11_letCome_52 rfl rfl rfl ?_
  refine am_get (pc' := 56) (v := .ref 34) dX11_letCome_53 fl_X11_78 (sx_c0 q5 r) rfl rfl ?_
  refine am_iload_n (pc' := 57) 2 dX11_letCome_56 rfl rfl rfl ?_
  obtain ⟨q7, hq8, hres⟩ := am_let_s hres
  refine am_cV (pc' := 60) (st' := []) [] [.int a2] dX11_letCome_57 cs_X11_318 (tx_X10_setCrowd r a2 q5 _ hq8) rfl rfl rfl (sx_c34 q5 r) rfl rfl rfl rfl rfl ?_
  subst hres
  exact am_vret dX11_letCome_60 rfl rfl rfl
set_option maxRecDepth 100000 in
set_option maxHeartbeats 4000000 in
theorem tx_X11_asks (r : am_W) (a1 : Int32) (a2 : Int32) (a3 : Int32) (a4 : Int32) (S : sx_T) (res : Int32 × sx_T) (hres : fx_X11_asks a1 a2 a3 a4 S = some res) : am_T mX11_asks 4 0 0 [.ref 0, .int a1, .int a2, .int a3, .int a4] (sx_w S r) (some (.int res.1)) (sx_w res.2 r) := by
  refine am_meth (ls := [some (.ref 0), some (.int a1), some (.int a2), some (.int a3), some (.int a4)]) (by decide +kernel) rfl (Nat.le_of_ble_eq_true rfl) (sx_len _ _ _) ?_
  rw [fx_X11_asks] at hres
  refine am_iload_n (pc' := 1) 1 dX11_asks_0 rfl rfl rfl ?_
  refine am_iconst (pc' := 2) (v := 3) dX11_asks_1 kc_3 rfl ?_
  refine am_cS (pc' := 5) (st' := [.int (fx_X11_within a1 (3 : Int32))]) [] [.int a1, .int (3 : Int32)] dX11_asks_2 cs_X11_129 (tx_X11_within (sx_w S r) a1 (3 : Int32) _ rfl) rfl rfl rfl rfl rfl rfl ?_
  refine am_if_eq (pc' := 8) 33 dX11_asks_5 rfl rfl (fun hc1 => ?_) (fun hc1 => ?_)
  · rw [if_pos hc1] at hres
    refine am_sipush (pc' := 36) (v := (-1000)) dX11_asks_33 ks_m1000 rfl ?_
    obtain rfl := Option.some.inj hres
    exact am_iret dX11_asks_36 rfl rfl rfl
  · rw [if_neg hc1] at hres
    refine am_aload_n (pc' := 9) 0 dX11_asks_8 rfl rfl rfl ?_
    refine am_iload_n (pc' := 10) 2 dX11_asks_9 rfl rfl rfl ?_
    refine am_cV (pc' := 13) (st' := [.int (fx_X11_isViewer a2 S)]) [] [.int a2] dX11_asks_10 cs_X11_151 (tx_X11_isViewer r a2 S _ rfl) rfl rfl rfl (sx_c0 S r) rfl rfl rfl rfl rfl ?_
    refine am_if_eq (pc' := 16) 33 dX11_asks_13 rfl rfl (fun hc2 => ?_) (fun hc2 => ?_)
    · rw [if_pos hc2] at hres
      refine am_sipush (pc' := 36) (v := (-1000)) dX11_asks_33 ks_m1000 rfl ?_
      obtain rfl := Option.some.inj hres
      exact am_iret dX11_asks_36 rfl rfl rfl
    · rw [if_neg hc2] at hres
      refine am_iload_n (pc' := 17) 3 dX11_asks_16 rfl rfl rfl ?_
      refine am_bipush (pc' := 19) (v := 6) dX11_asks_17 kb_6 rfl ?_
      refine am_cS (pc' := 22) (st' := [.int (fx_X11_within a3 (6 : Int32))]) [] [.int a3, .int (6 : Int32)] dX11_asks_19 cs_X11_129 (tx_X11_within (sx_w S r) a3 (6 : Int32) _ rfl) rfl rfl rfl rfl rfl rfl ?_
      refine am_if_eq (pc' := 25) 33 dX11_asks_22 rfl rfl (fun hc3 => ?_) (fun hc3 => ?_)
      · rw [if_pos hc3] at hres
        refine am_sipush (pc' := 36) (v := (-1000)) dX11_asks_33 ks_m1000 rfl ?_
        obtain rfl := Option.some.inj hres
        exact am_iret dX11_asks_36 rfl rfl rfl
      · rw [if_neg hc3] at hres
        refine am_iload (pc' := 27) dX11_asks_25 rfl rfl ?_
        refine am_cS (pc' := 30) (st' := [.int (fx_X11_isCrowd a4)]) [] [.int a4] dX11_asks_27 cs_X11_154 (tx_X11_isCrowd (sx_w S r) a4 _ rfl) rfl rfl rfl rfl rfl rfl ?_
        refine am_if_ne (pc' := 33) 37 dX11_asks_30 rfl rfl (fun hc4 => ?_) (fun hc4 => ?_)
        · rw [if_neg hc4] at hres
          refine am_aload_n (pc' := 38) 0 dX11_asks_37 rfl rfl rfl ?_
          refine am_get (pc' := 41) (v := .ref 34) dX11_asks_38 fl_X11_78 (sx_c0 S r) rfl rfl ?_
          refine am_aload_n (pc' := 42) 0 dX11_asks_41 rfl rfl rfl ?_
          refine am_get (pc' := 45) (v := .ref 1) dX11_asks_42 fl_X11_10 (sx_c0 S r) rfl rfl ?_
          obtain ⟨q5, hq6, hres⟩ := am_bd_s hres
          refine am_cV (pc' := 48) (st' := []) [] [.ref 1] dX11_asks_45 cs_X11_157 (tx_X10_suppose_r1 r S _ hq6) rfl rfl rfl (sx_c34 S r) rfl rfl rfl rfl rfl ?_
          refine am_aload_n (pc' := 49) 0 dX11_asks_48 rfl rfl rfl ?_
          refine am_iload_n (pc' := 50) 2 dX11_asks_49 rfl rfl rfl ?_
          refine am_iload (pc' := 52) dX11_asks_50 rfl rfl ?_
          obtain ⟨q7, hq8, hres⟩ := am_let_s hres
          refine am_cV (pc' := 55) (st' := []) [] [.int a2, .int a4] dX11_asks_52 cs_X11_161 (tx_X11_letCome r a2 a4 q5 _ hq8) rfl rfl rfl (sx_c0 q5 r) rfl rfl rfl rfl rfl ?_
          refine am_aload_n (pc' := 56) 0 dX11_asks_55 rfl rfl rfl ?_
          refine am_get (pc' := 59) (v := .ref 34) dX11_asks_56 fl_X11_78 (sx_c0 q7 r) rfl rfl ?_
          refine am_iload_n (pc' := 60) 1 dX11_asks_59 rfl rfl rfl ?_
          refine am_iload_n (pc' := 61) 3 dX11_asks_60 rfl rfl rfl ?_
          obtain ⟨q9, hq10, hres⟩ := am_bd_s hres
          refine am_cV (pc' := 64) (st' := [.int q9.1]) [] [.int a1, .int a3] dX11_asks_61 cs_X11_165 (tx_X10_said r a1 a3 q7 _ hq10) rfl rfl rfl (sx_c34 q7 r) rfl rfl rfl rfl rfl ?_
          obtain rfl := Option.some.inj hres
          exact am_iret dX11_asks_64 rfl rfl rfl
        · rw [if_pos hc4] at hres
          refine am_sipush (pc' := 36) (v := (-1000)) dX11_asks_33 ks_m1000 rfl ?_
          obtain rfl := Option.some.inj hres
          exact am_iret dX11_asks_36 rfl rfl rfl
set_option maxRecDepth 100000 in
set_option maxHeartbeats 4000000 in
theorem wx_X6_become_o6_r1_48 (r : am_W) : ∀ (n : Nat) (v2 : Int32) (S : sx_T) (res : sx_T) (hres : fx_X6_become_o6_r1_48 n v2 S = some res), am_G mX6_become (none, 1, 0, 0, none, (sx_w res r)) (0, 0) 48 [some (.ref 6), some (.ref 1), some (.int v2)] [] (sx_w S r) := by
  intro n
  induction n with
  | zero =>
    intro v2 S res hres
    cases hres
  | succ n ih =>
    intro v2 S res hres
    rw [fx_X6_become_o6_r1_48] at hres
    refine am_iload_n (pc' := 49) 2 dX6_become_48 rfl rfl rfl ?_
    refine am_bipush (pc' := 51) (v := 8) dX6_become_49 kb_8 rfl ?_
    refine am_icmp_ge (pc' := 54) 92 dX6_become_51 rfl rfl (fun hc2 => ?_) (fun hc2 => ?_)
    · rw [if_pos hc2] at hres
      refine am_aload_n (pc' := 93) 0 dX6_become_92 rfl rfl rfl ?_
      refine am_aload_n (pc' := 94) 1 dX6_become_93 rfl rfl rfl ?_
      refine am_get (pc' := 97) (v := .int (sx_now_viewers S)) dX6_become_94 fl_X6_36 (sx_c1 S r) rfl rfl ?_
      refine am_put (pc' := 100) (ws' := (sx_w (ux_kept_viewers S (sx_now_viewers S)) r)) (v := .int (sx_now_viewers S)) dX6_become_97 fp_X6_36 (sx_c6 S r) (fun _ => ⟨rfl, rfl⟩) (Nat.le_of_ble_eq_true rfl) (sx_p_kept_viewers S r _) rfl ?_
      refine am_aload_n (pc' := 101) 0 dX6_become_100 rfl rfl rfl ?_
      refine am_aload_n (pc' := 102) 1 dX6_become_101 rfl rfl rfl ?_
      refine am_get (pc' := 105) (v := .int (sx_now_hour S)) dX6_become_102 fl_X6_24 (sx_c1 (ux_kept_viewers S (sx_now_viewers S)) r) rfl rfl ?_
      refine am_put (pc' := 108) (ws' := (sx_w (ux_kept_hour (ux_kept_viewers S (sx_now_viewers S)) (sx_now_hour S)) r)) (v := .int (sx_now_hour S)) dX6_become_105 fp_X6_24 (sx_c6 (ux_kept_viewers S (sx_now_viewers S)) r) (fun _ => ⟨rfl, rfl⟩) (Nat.le_of_ble_eq_true rfl) (sx_p_kept_hour (ux_kept_viewers S (sx_now_viewers S)) r _) rfl ?_
      refine am_aload_n (pc' := 109) 0 dX6_become_108 rfl rfl rfl ?_
      refine am_aload_n (pc' := 110) 1 dX6_become_109 rfl rfl rfl ?_
      refine am_get (pc' := 113) (v := .int (sx_now_law S)) dX6_become_110 fl_X6_39 (sx_c1 (ux_kept_hour (ux_kept_viewers S (sx_now_viewers S)) (sx_now_hour S)) r) rfl rfl ?_
      refine am_put (pc' := 116) (ws' := (sx_w (ux_kept_law (ux_kept_hour (ux_kept_viewers S (sx_now_viewers S)) (sx_now_hour S)) (sx_now_law S)) r)) (v := .int (sx_now_law S)) dX6_become_113 fp_X6_39 (sx_c6 (ux_kept_hour (ux_kept_viewers S (sx_now_viewers S)) (sx_now_hour S)) r) (fun _ => ⟨rfl, rfl⟩) (Nat.le_of_ble_eq_true rfl) (sx_p_kept_law (ux_kept_hour (ux_kept_viewers S (sx_now_viewers S)) (sx_now_hour S)) r _) rfl ?_
      obtain rfl := Option.some.inj hres
      exact am_vret dX6_become_116 rfl rfl rfl
    · rw [if_neg hc2] at hres
      refine am_aload_n (pc' := 55) 0 dX6_become_54 rfl rfl rfl ?_
      refine am_get (pc' := 58) (v := .ref 9) dX6_become_55 fl_X6_18 (sx_c6 S r) rfl rfl ?_
      refine am_iload_n (pc' := 59) 2 dX6_become_58 rfl rfl rfl ?_
      refine am_aload_n (pc' := 60) 1 dX6_become_59 rfl rfl rfl ?_
      refine am_get (pc' := 63) (v := .ref 4) dX6_become_60 fl_X6_18 (sx_c1 S r) rfl rfl ?_
      refine am_iload_n (pc' := 64) 2 dX6_become_63 rfl rfl rfl ?_
      refine am_cSN (pc' := 67) (st' := [.int (am_rd 8 (sx_now_rich S) v2), .int v2, .ref 9]) [.int v2, .ref 9] [.ref 4, .int v2] dX6_become_64 cs_X6_28 (tx_at (f := (sx_now_rich S)) (sx_c4 S r) rfl v2) rfl rfl rfl rfl rfl rfl ?_
      refine am_cSN (pc' := 70) (st' := []) [] [.ref 9, .int v2, .int (am_rd 8 (sx_now_rich S) v2)] dX6_become_67 cs_X6_32 (tx_set (f := (sx_kept_rich S)) (w1 := (sx_w (ux_kept_rich S (am_up 8 (sx_kept_rich S) v2 (am_rd 8 (sx_now_rich S) v2))) r)) (sx_c9 S r) rfl v2 (am_rd 8 (sx_now_rich S) v2) (sx_p_kept_rich S r _)) rfl rfl rfl rfl rfl rfl ?_
      refine am_aload_n (pc' := 71) 0 dX6_become_70 rfl rfl rfl ?_
      refine am_get (pc' := 74) (v := .ref 10) dX6_become_71 fl_X6_21 (sx_c6 (ux_kept_rich S (am_up 8 (sx_kept_rich S) v2 (am_rd 8 (sx_now_rich S) v2))) r) rfl rfl ?_
      refine am_iload_n (pc' := 75) 2 dX6_become_74 rfl rfl rfl ?_
      refine am_aload_n (pc' := 76) 1 dX6_become_75 rfl rfl rfl ?_
      refine am_get (pc' := 79) (v := .ref 5) dX6_become_76 fl_X6_21 (sx_c1 (ux_kept_rich S (am_up 8 (sx_kept_rich S) v2 (am_rd 8 (sx_now_rich S) v2))) r) rfl rfl ?_
      refine am_iload_n (pc' := 80) 2 dX6_become_79 rfl rfl rfl ?_
      refine am_cSN (pc' := 83) (st' := [.int (am_rd 8 (sx_now_quiet S) v2), .int v2, .ref 10]) [.int v2, .ref 10] [.ref 5, .int v2] dX6_become_80 cs_X6_28 (tx_at (f := (sx_now_quiet S)) (sx_c5 (ux_kept_rich S (am_up 8 (sx_kept_rich S) v2 (am_rd 8 (sx_now_rich S) v2))) r) rfl v2) rfl rfl rfl rfl rfl rfl ?_
      refine am_cSN (pc' := 86) (st' := []) [] [.ref 10, .int v2, .int (am_rd 8 (sx_now_quiet S) v2)] dX6_become_83 cs_X6_32 (tx_set (f := (sx_kept_quiet S)) (w1 := (sx_w (ux_kept_quiet (ux_kept_rich S (am_up 8 (sx_kept_rich S) v2 (am_rd 8 (sx_now_rich S) v2))) (am_up 8 (sx_kept_quiet S) v2 (am_rd 8 (sx_now_quiet S) v2))) r)) (sx_c10 (ux_kept_rich S (am_up 8 (sx_kept_rich S) v2 (am_rd 8 (sx_now_rich S) v2))) r) rfl v2 (am_rd 8 (sx_now_quiet S) v2) (sx_p_kept_quiet (ux_kept_rich S (am_up 8 (sx_kept_rich S) v2 (am_rd 8 (sx_now_rich S) v2))) r _)) rfl rfl rfl rfl rfl rfl ?_
      refine am_iinc (pc' := 89) (ls' := [some (.ref 6), some (.ref 1), some (.int (v2 + (1 : Int32)))]) dX6_become_86 rfl (show v2 + Int32.ofInt 1 = (v2 + (1 : Int32)) from congrArg (fun z => v2 + z) kc_1) (Nat.le_of_ble_eq_true rfl) rfl rfl rfl ?_
      refine am_goto 48 dX6_become_89 rfl ?_
      exact ih _ _ _ hres

set_option maxRecDepth 100000 in
set_option maxHeartbeats 4000000 in
theorem wx_X6_become_o6_r1_2 (r : am_W) : ∀ (n : Nat) (v2 : Int32) (S : sx_T) (res : sx_T) (hres : fx_X6_become_o6_r1_2 n v2 S = some res), am_G mX6_become (none, 1, 0, 0, none, (sx_w res r)) (0, 0) 2 [some (.ref 6), some (.ref 1), some (.int v2)] [] (sx_w S r) := by
  intro n
  induction n with
  | zero =>
    intro v2 S res hres
    cases hres
  | succ n ih =>
    intro v2 S res hres
    rw [fx_X6_become_o6_r1_2] at hres
    refine am_iload_n (pc' := 3) 2 dX6_become_2 rfl rfl rfl ?_
    refine am_bipush (pc' := 5) (v := 6) dX6_become_3 kb_6 rfl ?_
    refine am_icmp_ge (pc' := 8) 46 dX6_become_5 rfl rfl (fun hc1 => ?_) (fun hc1 => ?_)
    · rw [if_pos hc1] at hres
      refine am_iconst (pc' := 47) (v := 0) dX6_become_46 kc_0 rfl ?_
      refine am_istore_n (pc' := 48) (ls' := [some (.ref 6), some (.ref 1), some (.int (0 : Int32))]) 2 dX6_become_47 rfl (Nat.le_of_ble_eq_true rfl) rfl rfl rfl ?_
      exact wx_X6_become_o6_r1_48 r am_fu _ _ _ hres
    · rw [if_neg hc1] at hres
      refine am_aload_n (pc' := 9) 0 dX6_become_8 rfl rfl rfl ?_
      refine am_get (pc' := 12) (v := .ref 7) dX6_become_9 fl_X6_9 (sx_c6 S r) rfl rfl ?_
      refine am_iload_n (pc' := 13) 2 dX6_become_12 rfl rfl rfl ?_
      refine am_aload_n (pc' := 14) 1 dX6_become_13 rfl rfl rfl ?_
      refine am_get (pc' := 17) (v := .ref 2) dX6_become_14 fl_X6_9 (sx_c1 S r) rfl rfl ?_
      refine am_iload_n (pc' := 18) 2 dX6_become_17 rfl rfl rfl ?_
      refine am_cSN (pc' := 21) (st' := [.int (am_rd 6 (sx_now_light S) v2), .int v2, .ref 7]) [.int v2, .ref 7] [.ref 2, .int v2] dX6_become_18 cs_X6_28 (tx_at (f := (sx_now_light S)) (sx_c2 S r) rfl v2) rfl rfl rfl rfl rfl rfl ?_
      refine am_cSN (pc' := 24) (st' := []) [] [.ref 7, .int v2, .int (am_rd 6 (sx_now_light S) v2)] dX6_become_21 cs_X6_32 (tx_set (f := (sx_kept_light S)) (w1 := (sx_w (ux_kept_light S (am_up 6 (sx_kept_light S) v2 (am_rd 6 (sx_now_light S) v2))) r)) (sx_c7 S r) rfl v2 (am_rd 6 (sx_now_light S) v2) (sx_p_kept_light S r _)) rfl rfl rfl rfl rfl rfl ?_
      refine am_aload_n (pc' := 25) 0 dX6_become_24 rfl rfl rfl ?_
      refine am_get (pc' := 28) (v := .ref 8) dX6_become_25 fl_X6_15 (sx_c6 (ux_kept_light S (am_up 6 (sx_kept_light S) v2 (am_rd 6 (sx_now_light S) v2))) r) rfl rfl ?_
      refine am_iload_n (pc' := 29) 2 dX6_become_28 rfl rfl rfl ?_
      refine am_aload_n (pc' := 30) 1 dX6_become_29 rfl rfl rfl ?_
      refine am_get (pc' := 33) (v := .ref 3) dX6_become_30 fl_X6_15 (sx_c1 (ux_kept_light S (am_up 6 (sx_kept_light S) v2 (am_rd 6 (sx_now_light S) v2))) r) rfl rfl ?_
      refine am_iload_n (pc' := 34) 2 dX6_become_33 rfl rfl rfl ?_
      refine am_cSN (pc' := 37) (st' := [.int (am_rd 6 (sx_now_damp S) v2), .int v2, .ref 8]) [.int v2, .ref 8] [.ref 3, .int v2] dX6_become_34 cs_X6_28 (tx_at (f := (sx_now_damp S)) (sx_c3 (ux_kept_light S (am_up 6 (sx_kept_light S) v2 (am_rd 6 (sx_now_light S) v2))) r) rfl v2) rfl rfl rfl rfl rfl rfl ?_
      refine am_cSN (pc' := 40) (st' := []) [] [.ref 8, .int v2, .int (am_rd 6 (sx_now_damp S) v2)] dX6_become_37 cs_X6_32 (tx_set (f := (sx_kept_damp S)) (w1 := (sx_w (ux_kept_damp (ux_kept_light S (am_up 6 (sx_kept_light S) v2 (am_rd 6 (sx_now_light S) v2))) (am_up 6 (sx_kept_damp S) v2 (am_rd 6 (sx_now_damp S) v2))) r)) (sx_c8 (ux_kept_light S (am_up 6 (sx_kept_light S) v2 (am_rd 6 (sx_now_light S) v2))) r) rfl v2 (am_rd 6 (sx_now_damp S) v2) (sx_p_kept_damp (ux_kept_light S (am_up 6 (sx_kept_light S) v2 (am_rd 6 (sx_now_light S) v2))) r _)) rfl rfl rfl rfl rfl rfl ?_
      refine am_iinc (pc' := 43) (ls' := [some (.ref 6), some (.ref 1), some (.int (v2 + (1 : Int32)))]) dX6_become_40 rfl (show v2 + Int32.ofInt 1 = (v2 + (1 : Int32)) from congrArg (fun z => v2 + z) kc_1) (Nat.le_of_ble_eq_true rfl) rfl rfl rfl ?_
      refine am_goto 2 dX6_become_43 rfl ?_
      exact ih _ _ _ hres

set_option maxRecDepth 100000 in
set_option maxHeartbeats 4000000 in
theorem tx_X6_become_o6_r1 (r : am_W) (S : sx_T) (res : sx_T) (hres : fx_X6_become_o6_r1 S = some res) : am_T mX6_become 1 0 0 [.ref 6, .ref 1] (sx_w S r) none (sx_w res r) := by
  refine am_meth (ls := [some (.ref 6), some (.ref 1), none]) (by decide +kernel) rfl (Nat.le_of_ble_eq_true rfl) (sx_len _ _ _) ?_
  rw [fx_X6_become_o6_r1] at hres
  refine am_iconst (pc' := 1) (v := 0) dX6_become_0 kc_0 rfl ?_
  refine am_istore_n (pc' := 2) (ls' := [some (.ref 6), some (.ref 1), some (.int (0 : Int32))]) 2 dX6_become_1 rfl (Nat.le_of_ble_eq_true rfl) rfl rfl rfl ?_
  exact wx_X6_become_o6_r1_2 r am_fu _ _ _ hres
set_option maxRecDepth 100000 in
set_option maxHeartbeats 4000000 in
theorem wx_X6_become_o1_r6_48 (r : am_W) : ∀ (n : Nat) (v2 : Int32) (S : sx_T) (res : sx_T) (hres : fx_X6_become_o1_r6_48 n v2 S = some res), am_G mX6_become (none, 1, 0, 0, none, (sx_w res r)) (0, 0) 48 [some (.ref 1), some (.ref 6), some (.int v2)] [] (sx_w S r) := by
  intro n
  induction n with
  | zero =>
    intro v2 S res hres
    cases hres
  | succ n ih =>
    intro v2 S res hres
    rw [fx_X6_become_o1_r6_48] at hres
    refine am_iload_n (pc' := 49) 2 dX6_become_48 rfl rfl rfl ?_
    refine am_bipush (pc' := 51) (v := 8) dX6_become_49 kb_8 rfl ?_
    refine am_icmp_ge (pc' := 54) 92 dX6_become_51 rfl rfl (fun hc2 => ?_) (fun hc2 => ?_)
    · rw [if_pos hc2] at hres
      refine am_aload_n (pc' := 93) 0 dX6_become_92 rfl rfl rfl ?_
      refine am_aload_n (pc' := 94) 1 dX6_become_93 rfl rfl rfl ?_
      refine am_get (pc' := 97) (v := .int (sx_kept_viewers S)) dX6_become_94 fl_X6_36 (sx_c6 S r) rfl rfl ?_
      refine am_put (pc' := 100) (ws' := (sx_w (ux_now_viewers S (sx_kept_viewers S)) r)) (v := .int (sx_kept_viewers S)) dX6_become_97 fp_X6_36 (sx_c1 S r) (fun _ => ⟨rfl, rfl⟩) (Nat.le_of_ble_eq_true rfl) (sx_p_now_viewers S r _) rfl ?_
      refine am_aload_n (pc' := 101) 0 dX6_become_100 rfl rfl rfl ?_
      refine am_aload_n (pc' := 102) 1 dX6_become_101 rfl rfl rfl ?_
      refine am_get (pc' := 105) (v := .int (sx_kept_hour S)) dX6_become_102 fl_X6_24 (sx_c6 (ux_now_viewers S (sx_kept_viewers S)) r) rfl rfl ?_
      refine am_put (pc' := 108) (ws' := (sx_w (ux_now_hour (ux_now_viewers S (sx_kept_viewers S)) (sx_kept_hour S)) r)) (v := .int (sx_kept_hour S)) dX6_become_105 fp_X6_24 (sx_c1 (ux_now_viewers S (sx_kept_viewers S)) r) (fun _ => ⟨rfl, rfl⟩) (Nat.le_of_ble_eq_true rfl) (sx_p_now_hour (ux_now_viewers S (sx_kept_viewers S)) r _) rfl ?_
      refine am_aload_n (pc' := 109) 0 dX6_become_108 rfl rfl rfl ?_
      refine am_aload_n (pc' := 110) 1 dX6_become_109 rfl rfl rfl ?_
      refine am_get (pc' := 113) (v := .int (sx_kept_law S)) dX6_become_110 fl_X6_39 (sx_c6 (ux_now_hour (ux_now_viewers S (sx_kept_viewers S)) (sx_kept_hour S)) r) rfl rfl ?_
      refine am_put (pc' := 116) (ws' := (sx_w (ux_now_law (ux_now_hour (ux_now_viewers S (sx_kept_viewers S)) (sx_kept_hour S)) (sx_kept_law S)) r)) (v := .int (sx_kept_law S)) dX6_become_113 fp_X6_39 (sx_c1 (ux_now_hour (ux_now_viewers S (sx_kept_viewers S)) (sx_kept_hour S)) r) (fun _ => ⟨rfl, rfl⟩) (Nat.le_of_ble_eq_true rfl) (sx_p_now_law (ux_now_hour (ux_now_viewers S (sx_kept_viewers S)) (sx_kept_hour S)) r _) rfl ?_
      obtain rfl := Option.some.inj hres
      exact am_vret dX6_become_116 rfl rfl rfl
    · rw [if_neg hc2] at hres
      refine am_aload_n (pc' := 55) 0 dX6_become_54 rfl rfl rfl ?_
      refine am_get (pc' := 58) (v := .ref 4) dX6_become_55 fl_X6_18 (sx_c1 S r) rfl rfl ?_
      refine am_iload_n (pc' := 59) 2 dX6_become_58 rfl rfl rfl ?_
      refine am_aload_n (pc' := 60) 1 dX6_become_59 rfl rfl rfl ?_
      refine am_get (pc' := 63) (v := .ref 9) dX6_become_60 fl_X6_18 (sx_c6 S r) rfl rfl ?_
      refine am_iload_n (pc' := 64) 2 dX6_become_63 rfl rfl rfl ?_
      refine am_cSN (pc' := 67) (st' := [.int (am_rd 8 (sx_kept_rich S) v2), .int v2, .ref 4]) [.int v2, .ref 4] [.ref 9, .int v2] dX6_become_64 cs_X6_28 (tx_at (f := (sx_kept_rich S)) (sx_c9 S r) rfl v2) rfl rfl rfl rfl rfl rfl ?_
      refine am_cSN (pc' := 70) (st' := []) [] [.ref 4, .int v2, .int (am_rd 8 (sx_kept_rich S) v2)] dX6_become_67 cs_X6_32 (tx_set (f := (sx_now_rich S)) (w1 := (sx_w (ux_now_rich S (am_up 8 (sx_now_rich S) v2 (am_rd 8 (sx_kept_rich S) v2))) r)) (sx_c4 S r) rfl v2 (am_rd 8 (sx_kept_rich S) v2) (sx_p_now_rich S r _)) rfl rfl rfl rfl rfl rfl ?_
      refine am_aload_n (pc' := 71) 0 dX6_become_70 rfl rfl rfl ?_
      refine am_get (pc' := 74) (v := .ref 5) dX6_become_71 fl_X6_21 (sx_c1 (ux_now_rich S (am_up 8 (sx_now_rich S) v2 (am_rd 8 (sx_kept_rich S) v2))) r) rfl rfl ?_
      refine am_iload_n (pc' := 75) 2 dX6_become_74 rfl rfl rfl ?_
      refine am_aload_n (pc' := 76) 1 dX6_become_75 rfl rfl rfl ?_
      refine am_get (pc' := 79) (v := .ref 10) dX6_become_76 fl_X6_21 (sx_c6 (ux_now_rich S (am_up 8 (sx_now_rich S) v2 (am_rd 8 (sx_kept_rich S) v2))) r) rfl rfl ?_
      refine am_iload_n (pc' := 80) 2 dX6_become_79 rfl rfl rfl ?_
      refine am_cSN (pc' := 83) (st' := [.int (am_rd 8 (sx_kept_quiet S) v2), .int v2, .ref 5]) [.int v2, .ref 5] [.ref 10, .int v2] dX6_become_80 cs_X6_28 (tx_at (f := (sx_kept_quiet S)) (sx_c10 (ux_now_rich S (am_up 8 (sx_now_rich S) v2 (am_rd 8 (sx_kept_rich S) v2))) r) rfl v2) rfl rfl rfl rfl rfl rfl ?_
      refine am_cSN (pc' := 86) (st' := []) [] [.ref 5, .int v2, .int (am_rd 8 (sx_kept_quiet S) v2)] dX6_become_83 cs_X6_32 (tx_set (f := (sx_now_quiet S)) (w1 := (sx_w (ux_now_quiet (ux_now_rich S (am_up 8 (sx_now_rich S) v2 (am_rd 8 (sx_kept_rich S) v2))) (am_up 8 (sx_now_quiet S) v2 (am_rd 8 (sx_kept_quiet S) v2))) r)) (sx_c5 (ux_now_rich S (am_up 8 (sx_now_rich S) v2 (am_rd 8 (sx_kept_rich S) v2))) r) rfl v2 (am_rd 8 (sx_kept_quiet S) v2) (sx_p_now_quiet (ux_now_rich S (am_up 8 (sx_now_rich S) v2 (am_rd 8 (sx_kept_rich S) v2))) r _)) rfl rfl rfl rfl rfl rfl ?_
      refine am_iinc (pc' := 89) (ls' := [some (.ref 1), some (.ref 6), some (.int (v2 + (1 : Int32)))]) dX6_become_86 rfl (show v2 + Int32.ofInt 1 = (v2 + (1 : Int32)) from congrArg (fun z => v2 + z) kc_1) (Nat.le_of_ble_eq_true rfl) rfl rfl rfl ?_
      refine am_goto 48 dX6_become_89 rfl ?_
      exact ih _ _ _ hres

set_option maxRecDepth 100000 in
set_option maxHeartbeats 4000000 in
theorem wx_X6_become_o1_r6_2 (r : am_W) : ∀ (n : Nat) (v2 : Int32) (S : sx_T) (res : sx_T) (hres : fx_X6_become_o1_r6_2 n v2 S = some res), am_G mX6_become (none, 1, 0, 0, none, (sx_w res r)) (0, 0) 2 [some (.ref 1), some (.ref 6), some (.int v2)] [] (sx_w S r) := by
  intro n
  induction n with
  | zero =>
    intro v2 S res hres
    cases hres
  | succ n ih =>
    intro v2 S res hres
    rw [fx_X6_become_o1_r6_2] at hres
    refine am_iload_n (pc' := 3) 2 dX6_become_2 rfl rfl rfl ?_
    refine am_bipush (pc' := 5) (v := 6) dX6_become_3 kb_6 rfl ?_
    refine am_icmp_ge (pc' := 8) 46 dX6_become_5 rfl rfl (fun hc1 => ?_) (fun hc1 => ?_)
    · rw [if_pos hc1] at hres
      refine am_iconst (pc' := 47) (v := 0) dX6_become_46 kc_0 rfl ?_
      refine am_istore_n (pc' := 48) (ls' := [some (.ref 1), some (.ref 6), some (.int (0 : Int32))]) 2 dX6_become_47 rfl (Nat.le_of_ble_eq_true rfl) rfl rfl rfl ?_
      exact wx_X6_become_o1_r6_48 r am_fu _ _ _ hres
    · rw [if_neg hc1] at hres
      refine am_aload_n (pc' := 9) 0 dX6_become_8 rfl rfl rfl ?_
      refine am_get (pc' := 12) (v := .ref 2) dX6_become_9 fl_X6_9 (sx_c1 S r) rfl rfl ?_
      refine am_iload_n (pc' := 13) 2 dX6_become_12 rfl rfl rfl ?_
      refine am_aload_n (pc' := 14) 1 dX6_become_13 rfl rfl rfl ?_
      refine am_get (pc' := 17) (v := .ref 7) dX6_become_14 fl_X6_9 (sx_c6 S r) rfl rfl ?_
      refine am_iload_n (pc' := 18) 2 dX6_become_17 rfl rfl rfl ?_
      refine am_cSN (pc' := 21) (st' := [.int (am_rd 6 (sx_kept_light S) v2), .int v2, .ref 2]) [.int v2, .ref 2] [.ref 7, .int v2] dX6_become_18 cs_X6_28 (tx_at (f := (sx_kept_light S)) (sx_c7 S r) rfl v2) rfl rfl rfl rfl rfl rfl ?_
      refine am_cSN (pc' := 24) (st' := []) [] [.ref 2, .int v2, .int (am_rd 6 (sx_kept_light S) v2)] dX6_become_21 cs_X6_32 (tx_set (f := (sx_now_light S)) (w1 := (sx_w (ux_now_light S (am_up 6 (sx_now_light S) v2 (am_rd 6 (sx_kept_light S) v2))) r)) (sx_c2 S r) rfl v2 (am_rd 6 (sx_kept_light S) v2) (sx_p_now_light S r _)) rfl rfl rfl rfl rfl rfl ?_
      refine am_aload_n (pc' := 25) 0 dX6_become_24 rfl rfl rfl ?_
      refine am_get (pc' := 28) (v := .ref 3) dX6_become_25 fl_X6_15 (sx_c1 (ux_now_light S (am_up 6 (sx_now_light S) v2 (am_rd 6 (sx_kept_light S) v2))) r) rfl rfl ?_
      refine am_iload_n (pc' := 29) 2 dX6_become_28 rfl rfl rfl ?_
      refine am_aload_n (pc' := 30) 1 dX6_become_29 rfl rfl rfl ?_
      refine am_get (pc' := 33) (v := .ref 8) dX6_become_30 fl_X6_15 (sx_c6 (ux_now_light S (am_up 6 (sx_now_light S) v2 (am_rd 6 (sx_kept_light S) v2))) r) rfl rfl ?_
      refine am_iload_n (pc' := 34) 2 dX6_become_33 rfl rfl rfl ?_
      refine am_cSN (pc' := 37) (st' := [.int (am_rd 6 (sx_kept_damp S) v2), .int v2, .ref 3]) [.int v2, .ref 3] [.ref 8, .int v2] dX6_become_34 cs_X6_28 (tx_at (f := (sx_kept_damp S)) (sx_c8 (ux_now_light S (am_up 6 (sx_now_light S) v2 (am_rd 6 (sx_kept_light S) v2))) r) rfl v2) rfl rfl rfl rfl rfl rfl ?_
      refine am_cSN (pc' := 40) (st' := []) [] [.ref 3, .int v2, .int (am_rd 6 (sx_kept_damp S) v2)] dX6_become_37 cs_X6_32 (tx_set (f := (sx_now_damp S)) (w1 := (sx_w (ux_now_damp (ux_now_light S (am_up 6 (sx_now_light S) v2 (am_rd 6 (sx_kept_light S) v2))) (am_up 6 (sx_now_damp S) v2 (am_rd 6 (sx_kept_damp S) v2))) r)) (sx_c3 (ux_now_light S (am_up 6 (sx_now_light S) v2 (am_rd 6 (sx_kept_light S) v2))) r) rfl v2 (am_rd 6 (sx_kept_damp S) v2) (sx_p_now_damp (ux_now_light S (am_up 6 (sx_now_light S) v2 (am_rd 6 (sx_kept_light S) v2))) r _)) rfl rfl rfl rfl rfl rfl ?_
      refine am_iinc (pc' := 43) (ls' := [some (.ref 1), some (.ref 6), some (.int (v2 + (1 : Int32)))]) dX6_become_40 rfl (show v2 + Int32.ofInt 1 = (v2 + (1 : Int32)) from congrArg (fun z => v2 + z) kc_1) (Nat.le_of_ble_eq_true rfl) rfl rfl rfl ?_
      refine am_goto 2 dX6_become_43 rfl ?_
      exact ih _ _ _ hres

set_option maxRecDepth 100000 in
set_option maxHeartbeats 4000000 in
theorem tx_X6_become_o1_r6 (r : am_W) (S : sx_T) (res : sx_T) (hres : fx_X6_become_o1_r6 S = some res) : am_T mX6_become 1 0 0 [.ref 1, .ref 6] (sx_w S r) none (sx_w res r) := by
  refine am_meth (ls := [some (.ref 1), some (.ref 6), none]) (by decide +kernel) rfl (Nat.le_of_ble_eq_true rfl) (sx_len _ _ _) ?_
  rw [fx_X6_become_o1_r6] at hres
  refine am_iconst (pc' := 1) (v := 0) dX6_become_0 kc_0 rfl ?_
  refine am_istore_n (pc' := 2) (ls' := [some (.ref 1), some (.ref 6), some (.int (0 : Int32))]) 2 dX6_become_1 rfl (Nat.le_of_ble_eq_true rfl) rfl rfl rfl ?_
  exact wx_X6_become_o1_r6_2 r am_fu _ _ _ hres
set_option maxRecDepth 100000 in
set_option maxHeartbeats 4000000 in
theorem tx_X11_back (r : am_W) (S : sx_T) (res : Int32 × sx_T) (hres : fx_X11_back S = some res) : am_T mX11_back 2 0 0 [.ref 0] (sx_w S r) (some (.int res.1)) (sx_w res.2 r) := by
  refine am_meth (ls := [some (.ref 0)]) (by decide +kernel) rfl (Nat.le_of_ble_eq_true rfl) (sx_len _ _ _) ?_
  rw [fx_X11_back] at hres
  refine am_aload_n (pc' := 1) 0 dX11_back_0 rfl rfl rfl ?_
  refine am_get (pc' := 4) (v := .int (sx_imageKept S)) dX11_back_1 fl_X11_288 (sx_c0 S r) rfl rfl ?_
  refine am_if_ne (pc' := 7) 10 dX11_back_4 rfl rfl (fun hc1 => ?_) (fun hc1 => ?_)
  · rw [if_neg hc1] at hres
    refine am_aload_n (pc' := 11) 0 dX11_back_10 rfl rfl rfl ?_
    refine am_get (pc' := 14) (v := .ref 1) dX11_back_11 fl_X11_10 (sx_c0 S r) rfl rfl ?_
    refine am_aload_n (pc' := 15) 0 dX11_back_14 rfl rfl rfl ?_
    refine am_get (pc' := 18) (v := .ref 6) dX11_back_15 fl_X11_16 (sx_c0 S r) rfl rfl ?_
    obtain ⟨q2, hq3, hres⟩ := am_bd_s hres
    refine am_cV (pc' := 21) (st' := []) [] [.ref 6] dX11_back_18 cs_X11_285 (tx_X6_become_o1_r6 r S _ hq3) rfl rfl rfl (sx_c1 S r) rfl rfl rfl rfl rfl ?_
    refine am_aload_n (pc' := 22) 0 dX11_back_21 rfl rfl rfl ?_
    refine am_get (pc' := 25) (v := .ref 1) dX11_back_22 fl_X11_10 (sx_c0 q2 r) rfl rfl ?_
    refine am_get (pc' := 28) (v := .int (sx_now_viewers q2)) dX11_back_25 fl_X11_120 (sx_c1 q2 r) rfl rfl ?_
    obtain rfl := Option.some.inj hres
    exact am_iret dX11_back_28 rfl rfl rfl
  · rw [if_pos hc1] at hres
    refine am_bipush (pc' := 9) (v := (-3)) dX11_back_7 kb_m3 rfl ?_
    obtain rfl := Option.some.inj hres
    exact am_iret dX11_back_9 rfl rfl rfl
