set_option maxRecDepth 100000 in
set_option maxHeartbeats 4000000 in
theorem wx_X11_fillGains_61 (r : am_W) (k28 : Int32 → Int32 → Int32 → sx_T → Option (sx_T)) (hk28 : ∀ (v1 : Int32) (v2 : Int32) (v3 : Int32) (S : sx_T) (res : sx_T), k28 v1 v2 v3 S = some res → am_G mX11_fillGains (none, 5, 0, 0, none, (sx_w res r)) (0, 0) 28 [some (.ref 0), some (.int v1), some (.int v2), some (.int v3), none] [] (sx_w S r)) : ∀ (n : Nat) (v1 : Int32) (v2 : Int32) (v3 : Int32) (v4 : Int32) (S : sx_T) (res : sx_T) (hres : fx_X11_fillGains_61 k28 n v1 v2 v3 v4 S = some res), am_G mX11_fillGains (none, 5, 0, 0, none, (sx_w res r)) (0, 0) 61 [some (.ref 0), some (.int v1), some (.int v2), some (.int v3), some (.int v4)] [] (sx_w S r) := by
  intro n
  induction n with
  | zero =>
    intro v1 v2 v3 v4 S res hres
    cases hres
  | succ n ih =>
    intro v1 v2 v3 v4 S res hres
    rw [fx_X11_fillGains_61] at hres
    refine am_iload (pc' := 63) dX11_fillGains_61 rfl rfl ?_
    refine am_bipush (pc' := 65) (v := 6) dX11_fillGains_63 kb_6 rfl ?_
    refine am_icmp_ge (pc' := 68) 128 dX11_fillGains_65 rfl rfl (fun hc6 => ?_) (fun hc6 => ?_)
    · rw [if_pos hc6] at hres
      refine am_iinc (pc' := 131) (ls' := [some (.ref 0), some (.int v1), some (.int v2), some (.int (v3 + (1 : Int32))), some (.int v4)]) dX11_fillGains_128 rfl (show v3 + Int32.ofInt 1 = (v3 + (1 : Int32)) from congrArg (fun z => v3 + z) kc_1) (Nat.le_of_ble_eq_true rfl) rfl rfl rfl ?_
      refine am_goto 28 dX11_fillGains_131 rfl ?_
      refine am_weak (ls' := [some (.ref 0), some (.int v1), some (.int v2), some (.int (v3 + (1 : Int32))), none]) [false, false, false, false, true] rfl ?_
      exact hk28 _ _ _ _ _ hres
    · rw [if_neg hc6] at hres
      refine am_aload_n (pc' := 69) 0 dX11_fillGains_68 rfl rfl rfl ?_
      refine am_iconst (pc' := 70) (v := 0) dX11_fillGains_69 kc_0 rfl ?_
      refine am_iload (pc' := 72) dX11_fillGains_70 rfl rfl ?_
      refine am_aload_n (pc' := 73) 0 dX11_fillGains_72 rfl rfl rfl ?_
      refine am_get (pc' := 76) (v := .ref 34) dX11_fillGains_73 fl_X11_78 (sx_c0 S r) rfl rfl ?_
      refine am_iload (pc' := 78) dX11_fillGains_76 rfl rfl ?_
      refine am_iconst (pc' := 79) (v := 1) dX11_fillGains_78 kc_1 rfl ?_
      refine am_iconst (pc' := 80) (v := 0) dX11_fillGains_79 kc_0 rfl ?_
      obtain ⟨q7, hq8, hres⟩ := am_bd_s hres
      refine am_cV (pc' := 83) (st' := [.int q7.1, .int v4, .int (0 : Int32), .ref 0]) [.int v4, .int (0 : Int32), .ref 0] [.int v4, .int (1 : Int32), .int (0 : Int32)] dX11_fillGains_80 cs_X11_328 (tx_X10_keptOf r v4 (1 : Int32) (0 : Int32) S _ hq8) rfl rfl rfl (sx_c34 S r) rfl rfl rfl rfl rfl ?_
      obtain ⟨q9, hq10, hres⟩ := am_let_s hres
      refine am_cV (pc' := 86) (st' := []) [] [.int (0 : Int32), .int v4, .int q7.1] dX11_fillGains_83 cs_X11_332 (tx_X11_addGain r (0 : Int32) v4 q7.1 q7.2 _ hq10) rfl rfl rfl (sx_c0 q7.2 r) rfl rfl rfl rfl rfl ?_
      refine am_aload_n (pc' := 87) 0 dX11_fillGains_86 rfl rfl rfl ?_
      refine am_iconst (pc' := 88) (v := 1) dX11_fillGains_87 kc_1 rfl ?_
      refine am_iload (pc' := 90) dX11_fillGains_88 rfl rfl ?_
      refine am_aload_n (pc' := 91) 0 dX11_fillGains_90 rfl rfl rfl ?_
      refine am_get (pc' := 94) (v := .ref 34) dX11_fillGains_91 fl_X11_78 (sx_c0 q9 r) rfl rfl ?_
      refine am_iload (pc' := 96) dX11_fillGains_94 rfl rfl ?_
      refine am_iconst (pc' := 97) (v := 0) dX11_fillGains_96 kc_0 rfl ?_
      refine am_iconst (pc' := 98) (v := 0) dX11_fillGains_97 kc_0 rfl ?_
      obtain ⟨q11, hq12, hres⟩ := am_bd_s hres
      refine am_cV (pc' := 101) (st' := [.int q11.1, .int v4, .int (1 : Int32), .ref 0]) [.int v4, .int (1 : Int32), .ref 0] [.int v4, .int (0 : Int32), .int (0 : Int32)] dX11_fillGains_98 cs_X11_328 (tx_X10_keptOf r v4 (0 : Int32) (0 : Int32) q9 _ hq12) rfl rfl rfl (sx_c34 q9 r) rfl rfl rfl rfl rfl ?_
      obtain ⟨q13, hq14, hres⟩ := am_let_s hres
      refine am_cV (pc' := 104) (st' := []) [] [.int (1 : Int32), .int v4, .int q11.1] dX11_fillGains_101 cs_X11_332 (tx_X11_addGain r (1 : Int32) v4 q11.1 q11.2 _ hq14) rfl rfl rfl (sx_c0 q11.2 r) rfl rfl rfl rfl rfl ?_
      refine am_aload_n (pc' := 105) 0 dX11_fillGains_104 rfl rfl rfl ?_
      refine am_iconst (pc' := 106) (v := 2) dX11_fillGains_105 kc_2 rfl ?_
      refine am_iload (pc' := 108) dX11_fillGains_106 rfl rfl ?_
      refine am_aload_n (pc' := 109) 0 dX11_fillGains_108 rfl rfl rfl ?_
      refine am_get (pc' := 112) (v := .ref 34) dX11_fillGains_109 fl_X11_78 (sx_c0 q13 r) rfl rfl ?_
      refine am_iload (pc' := 114) dX11_fillGains_112 rfl rfl ?_
      refine am_iconst (pc' := 115) (v := 0) dX11_fillGains_114 kc_0 rfl ?_
      refine am_iconst (pc' := 116) (v := 1) dX11_fillGains_115 kc_1 rfl ?_
      obtain ⟨q15, hq16, hres⟩ := am_bd_s hres
      refine am_cV (pc' := 119) (st' := [.int q15.1, .int v4, .int (2 : Int32), .ref 0]) [.int v4, .int (2 : Int32), .ref 0] [.int v4, .int (0 : Int32), .int (1 : Int32)] dX11_fillGains_116 cs_X11_328 (tx_X10_keptOf r v4 (0 : Int32) (1 : Int32) q13 _ hq16) rfl rfl rfl (sx_c34 q13 r) rfl rfl rfl rfl rfl ?_
      obtain ⟨q17, hq18, hres⟩ := am_let_s hres
      refine am_cV (pc' := 122) (st' := []) [] [.int (2 : Int32), .int v4, .int q15.1] dX11_fillGains_119 cs_X11_332 (tx_X11_addGain r (2 : Int32) v4 q15.1 q15.2 _ hq18) rfl rfl rfl (sx_c0 q15.2 r) rfl rfl rfl rfl rfl ?_
      refine am_iinc (pc' := 125) (ls' := [some (.ref 0), some (.int v1), some (.int v2), some (.int v3), some (.int (v4 + (1 : Int32)))]) dX11_fillGains_122 rfl (show v4 + Int32.ofInt 1 = (v4 + (1 : Int32)) from congrArg (fun z => v4 + z) kc_1) (Nat.le_of_ble_eq_true rfl) rfl rfl rfl ?_
      refine am_goto 61 dX11_fillGains_125 rfl ?_
      exact ih _ _ _ _ _ _ hres

set_option maxRecDepth 100000 in
set_option maxHeartbeats 4000000 in
theorem wx_X11_fillGains_28 (r : am_W) : ∀ (n : Nat) (v1 : Int32) (v2 : Int32) (v3 : Int32) (S : sx_T) (res : sx_T) (hres : fx_X11_fillGains_28 n v1 v2 v3 S = some res), am_G mX11_fillGains (none, 5, 0, 0, none, (sx_w res r)) (0, 0) 28 [some (.ref 0), some (.int v1), some (.int v2), some (.int v3), none] [] (sx_w S r) := by
  intro n
  induction n with
  | zero =>
    intro v1 v2 v3 S res hres
    cases hres
  | succ n ih =>
    intro v1 v2 v3 S res hres
    rw [fx_X11_fillGains_28] at hres
    refine am_iload_n (pc' := 29) 3 dX11_fillGains_28 rfl rfl rfl ?_
    refine am_aload_n (pc' := 30) 0 dX11_fillGains_29 rfl rfl rfl ?_
    refine am_get (pc' := 33) (v := .ref 1) dX11_fillGains_30 fl_X11_10 (sx_c0 S r) rfl rfl ?_
    refine am_get (pc' := 36) (v := .int (sx_now_viewers S)) dX11_fillGains_33 fl_X11_120 (sx_c1 S r) rfl rfl ?_
    refine am_icmp_ge (pc' := 39) 134 dX11_fillGains_36 rfl rfl (fun hc2 => ?_) (fun hc2 => ?_)
    · rw [if_pos hc2] at hres
      obtain rfl := Option.some.inj hres
      exact am_vret dX11_fillGains_134 rfl rfl rfl
    · rw [if_neg hc2] at hres
      refine am_iload_n (pc' := 40) 1 dX11_fillGains_39 rfl rfl rfl ?_
      refine am_iconst (pc' := 41) (v := (-1)) dX11_fillGains_40 kc_m1 rfl ?_
      refine am_icmp_eq (pc' := 44) 52 dX11_fillGains_41 rfl rfl (fun hc3 => ?_) (fun hc3 => ?_)
      · rw [if_pos hc3] at hres
        refine am_aload_n (pc' := 53) 0 dX11_fillGains_52 rfl rfl rfl ?_
        refine am_iload_n (pc' := 54) 3 dX11_fillGains_53 rfl rfl rfl ?_
        refine am_iload_n (pc' := 55) 2 dX11_fillGains_54 rfl rfl rfl ?_
        obtain ⟨q4, hq5, hres⟩ := am_let_s hres
        refine am_cV (pc' := 58) (st' := []) [] [.int v3, .int v2] dX11_fillGains_55 cs_X11_161 (tx_X11_letCome r v3 v2 S _ hq5) rfl rfl rfl (sx_c0 S r) rfl rfl rfl rfl rfl ?_
        refine am_iconst (pc' := 59) (v := 0) dX11_fillGains_58 kc_0 rfl ?_
        refine am_istore (pc' := 61) (ls' := [some (.ref 0), some (.int v1), some (.int v2), some (.int v3), some (.int (0 : Int32))]) dX11_fillGains_59 (Nat.le_of_ble_eq_true rfl) rfl rfl rfl ?_
        exact wx_X11_fillGains_61 r _ (fun a0 a1 a2 a3 => ih a0 a1 a2 a3) am_fu _ _ _ _ _ _ hres
      · rw [if_neg hc3] at hres
        refine am_iload_n (pc' := 45) 1 dX11_fillGains_44 rfl rfl rfl ?_
        refine am_iload_n (pc' := 46) 3 dX11_fillGains_45 rfl rfl rfl ?_
        refine am_icmp_eq (pc' := 49) 52 dX11_fillGains_46 rfl rfl (fun hc19 => ?_) (fun hc19 => ?_)
        · rw [if_pos hc19] at hres
          refine am_aload_n (pc' := 53) 0 dX11_fillGains_52 rfl rfl rfl ?_
          refine am_iload_n (pc' := 54) 3 dX11_fillGains_53 rfl rfl rfl ?_
          refine am_iload_n (pc' := 55) 2 dX11_fillGains_54 rfl rfl rfl ?_
          obtain ⟨q20, hq21, hres⟩ := am_let_s hres
          refine am_cV (pc' := 58) (st' := []) [] [.int v3, .int v2] dX11_fillGains_55 cs_X11_161 (tx_X11_letCome r v3 v2 S _ hq21) rfl rfl rfl (sx_c0 S r) rfl rfl rfl rfl rfl ?_
          refine am_iconst (pc' := 59) (v := 0) dX11_fillGains_58 kc_0 rfl ?_
          refine am_istore (pc' := 61) (ls' := [some (.ref 0), some (.int v1), some (.int v2), some (.int v3), some (.int (0 : Int32))]) dX11_fillGains_59 (Nat.le_of_ble_eq_true rfl) rfl rfl rfl ?_
          exact wx_X11_fillGains_61 r _ (fun a0 a1 a2 a3 => ih a0 a1 a2 a3) am_fu _ _ _ _ _ _ hres
        · rw [if_neg hc19] at hres
          refine am_goto 128 dX11_fillGains_49 rfl ?_
          refine am_iinc (pc' := 131) (ls' := [some (.ref 0), some (.int v1), some (.int v2), some (.int (v3 + (1 : Int32))), none]) dX11_fillGains_128 rfl (show v3 + Int32.ofInt 1 = (v3 + (1 : Int32)) from congrArg (fun z => v3 + z) kc_1) (Nat.le_of_ble_eq_true rfl) rfl rfl rfl ?_
          refine am_goto 28 dX11_fillGains_131 rfl ?_
          exact ih _ _ _ _ _ hres

set_option maxRecDepth 100000 in
set_option maxHeartbeats 4000000 in
theorem wx_X11_fillGains_2 (r : am_W) : ∀ (n : Nat) (v1 : Int32) (v2 : Int32) (v3 : Int32) (S : sx_T) (res : sx_T) (hres : fx_X11_fillGains_2 n v1 v2 v3 S = some res), am_G mX11_fillGains (none, 5, 0, 0, none, (sx_w res r)) (0, 0) 2 [some (.ref 0), some (.int v1), some (.int v2), some (.int v3), none] [] (sx_w S r) := by
  intro n
  induction n with
  | zero =>
    intro v1 v2 v3 S res hres
    cases hres
  | succ n ih =>
    intro v1 v2 v3 S res hres
    rw [fx_X11_fillGains_2] at hres
    refine am_iload_n (pc' := 3) 3 dX11_fillGains_2 rfl rfl rfl ?_
    refine am_aload_n (pc' := 4) 0 dX11_fillGains_3 rfl rfl rfl ?_
    refine am_get (pc' := 7) (v := .ref 43) dX11_fillGains_4 fl_X11_88 (sx_c0 S r) rfl rfl ?_
    refine am_alen (pc' := 8) dX11_fillGains_7 (sx_c43 S r) rfl ?_
    refine am_icmp_ge (pc' := 11) 26 dX11_fillGains_8 rfl rfl (fun hc1 => ?_) (fun hc1 => ?_)
    · rw [if_pos hc1] at hres
      refine am_iconst (pc' := 27) (v := 0) dX11_fillGains_26 kc_0 rfl ?_
      refine am_istore_n (pc' := 28) (ls' := [some (.ref 0), some (.int v1), some (.int v2), some (.int (0 : Int32)), none]) 3 dX11_fillGains_27 rfl (Nat.le_of_ble_eq_true rfl) rfl rfl rfl ?_
      exact wx_X11_fillGains_28 r am_fu _ _ _ _ _ hres
    · rw [if_neg hc1] at hres
      refine am_aload_n (pc' := 12) 0 dX11_fillGains_11 rfl rfl rfl ?_
      refine am_get (pc' := 15) (v := .ref 43) dX11_fillGains_12 fl_X11_88 (sx_c0 S r) rfl rfl ?_
      refine am_iload_n (pc' := 16) 3 dX11_fillGains_15 rfl rfl rfl ?_
      refine am_iconst (pc' := 17) (v := 0) dX11_fillGains_16 kc_0 rfl ?_
      refine am_cS (pc' := 20) (st' := []) [] [.ref 43, .int v3, .int (0 : Int32)] dX11_fillGains_17 cs_X11_143 (tx_set (f := (sx_gains S)) (w1 := (sx_w (ux_gains S (am_up 18 (sx_gains S) v3 (0 : Int32))) r)) (sx_c43 S r) rfl v3 (0 : Int32) (sx_p_gains S r _)) rfl rfl rfl rfl rfl rfl ?_
      refine am_iinc (pc' := 23) (ls' := [some (.ref 0), some (.int v1), some (.int v2), some (.int (v3 + (1 : Int32))), none]) dX11_fillGains_20 rfl (show v3 + Int32.ofInt 1 = (v3 + (1 : Int32)) from congrArg (fun z => v3 + z) kc_1) (Nat.le_of_ble_eq_true rfl) rfl rfl rfl ?_
      refine am_goto 2 dX11_fillGains_23 rfl ?_
      exact ih _ _ _ _ _ hres

set_option maxRecDepth 100000 in
set_option maxHeartbeats 4000000 in
theorem tx_X11_fillGains (r : am_W) (a1 : Int32) (a2 : Int32) (S : sx_T) (res : sx_T) (hres : fx_X11_fillGains a1 a2 S = some res) : am_T mX11_fillGains 5 0 0 [.ref 0, .int a1, .int a2] (sx_w S r) none (sx_w res r) := by
  refine am_meth (ls := [some (.ref 0), some (.int a1), some (.int a2), none, none]) (by decide +kernel) rfl (Nat.le_of_ble_eq_true rfl) (sx_len _ _ _) ?_
  rw [fx_X11_fillGains] at hres
  refine am_iconst (pc' := 1) (v := 0) dX11_fillGains_0 kc_0 rfl ?_
  refine am_istore_n (pc' := 2) (ls' := [some (.ref 0), some (.int a1), some (.int a2), some (.int (0 : Int32)), none]) 3 dX11_fillGains_1 rfl (Nat.le_of_ble_eq_true rfl) rfl rfl rfl ?_
  exact wx_X11_fillGains_2 r am_fu _ _ _ _ _ hres
set_option maxRecDepth 100000 in
set_option maxHeartbeats 4000000 in
theorem wx_X11_firstOrder_2 (r : am_W) : ∀ (n : Nat) (v1 : Int32) (v2 : Int32) (S : sx_T) (res : sx_T) (hres : fx_X11_firstOrder_2 n v1 v2 S = some res), am_G mX11_firstOrder (none, 1, 0, 0, none, (sx_w res r)) (0, 0) 2 [some (.ref 0), some (.int v1), some (.int v2)] [] (sx_w S r) := by
  intro n
  induction n with
  | zero =>
    intro v1 v2 S res hres
    cases hres
  | succ n ih =>
    intro v1 v2 S res hres
    rw [fx_X11_firstOrder_2] at hres
    refine am_iload_n (pc' := 3) 2 dX11_firstOrder_2 rfl rfl rfl ?_
    refine am_iload_n (pc' := 4) 1 dX11_firstOrder_3 rfl rfl rfl ?_
    refine am_icmp_ge (pc' := 7) 22 dX11_firstOrder_4 rfl rfl (fun hc1 => ?_) (fun hc1 => ?_)
    · rw [if_pos hc1] at hres
      obtain rfl := Option.some.inj hres
      exact am_vret dX11_firstOrder_22 rfl rfl rfl
    · rw [if_neg hc1] at hres
      refine am_aload_n (pc' := 8) 0 dX11_firstOrder_7 rfl rfl rfl ?_
      refine am_get (pc' := 11) (v := .ref 41) dX11_firstOrder_8 fl_X11_82 (sx_c0 S r) rfl rfl ?_
      refine am_iload_n (pc' := 12) 2 dX11_firstOrder_11 rfl rfl rfl ?_
      refine am_iload_n (pc' := 13) 2 dX11_firstOrder_12 rfl rfl rfl ?_
      refine am_cS (pc' := 16) (st' := []) [] [.ref 41, .int v2, .int v2] dX11_firstOrder_13 cs_X11_143 (tx_set (f := (sx_order S)) (w1 := (sx_w (ux_order S (am_up 6 (sx_order S) v2 v2)) r)) (sx_c41 S r) rfl v2 v2 (sx_p_order S r _)) rfl rfl rfl rfl rfl rfl ?_
      refine am_iinc (pc' := 19) (ls' := [some (.ref 0), some (.int v1), some (.int (v2 + (1 : Int32)))]) dX11_firstOrder_16 rfl (show v2 + Int32.ofInt 1 = (v2 + (1 : Int32)) from congrArg (fun z => v2 + z) kc_1) (Nat.le_of_ble_eq_true rfl) rfl rfl rfl ?_
      refine am_goto 2 dX11_firstOrder_19 rfl ?_
      exact ih _ _ _ _ hres

set_option maxRecDepth 100000 in
set_option maxHeartbeats 4000000 in
theorem tx_X11_firstOrder (r : am_W) (a1 : Int32) (S : sx_T) (res : sx_T) (hres : fx_X11_firstOrder a1 S = some res) : am_T mX11_firstOrder 1 0 0 [.ref 0, .int a1] (sx_w S r) none (sx_w res r) := by
  refine am_meth (ls := [some (.ref 0), some (.int a1), none]) (by decide +kernel) rfl (Nat.le_of_ble_eq_true rfl) (sx_len _ _ _) ?_
  rw [fx_X11_firstOrder] at hres
  refine am_iconst (pc' := 1) (v := 0) dX11_firstOrder_0 kc_0 rfl ?_
  refine am_istore_n (pc' := 2) (ls' := [some (.ref 0), some (.int a1), some (.int (0 : Int32))]) 2 dX11_firstOrder_1 rfl (Nat.le_of_ble_eq_true rfl) rfl rfl rfl ?_
  exact wx_X11_firstOrder_2 r am_fu _ _ _ _ hres
set_option maxRecDepth 100000 in
set_option maxHeartbeats 4000000 in
theorem wx_X11_gainOfOrder_28 (r : am_W) (S : sx_T) (k4 : Int32 → Int32 → Option (Int32)) (hk4 : ∀ (v1 : Int32) (v2 : Int32) (res : Int32), k4 v1 v2 = some res → am_G mX11_gainOfOrder (none, 1, 0, 0, (some (.int res)), (sx_w S r)) (0, 0) 4 [some (.ref 0), some (.int v1), some (.int v2), none] [] (sx_w S r)) : ∀ (v1 : Int32) (v2 : Int32) (w0 : Int32) (res : Int32) (hres : fx_X11_gainOfOrder_28 S k4 v1 v2 w0 = some res), am_G mX11_gainOfOrder (none, 1, 0, 0, (some (.int res)), (sx_w S r)) (0, 0) 28 [some (.ref 0), some (.int v1), some (.int v2), none] [.int w0] (sx_w S r) := by
  intro v1 v2 w0 res hres
  rw [fx_X11_gainOfOrder_28] at hres
  refine am_istore_n (pc' := 29) (ls' := [some (.ref 0), some (.int v1), some (.int v2), some (.int w0)]) 3 dX11_gainOfOrder_28 rfl (Nat.le_of_ble_eq_true rfl) rfl rfl rfl ?_
  refine am_iload_n (pc' := 30) 1 dX11_gainOfOrder_29 rfl rfl rfl ?_
  refine am_aload_n (pc' := 31) 0 dX11_gainOfOrder_30 rfl rfl rfl ?_
  refine am_get (pc' := 34) (v := .ref 43) dX11_gainOfOrder_31 fl_X11_88 (sx_c0 S r) rfl rfl ?_
  refine am_iload_n (pc' := 35) 3 dX11_gainOfOrder_34 rfl rfl rfl ?_
  refine am_bipush (pc' := 37) (v := 6) dX11_gainOfOrder_35 kb_6 rfl ?_
  refine am_imul (pc' := 38) dX11_gainOfOrder_37 rfl ?_
  refine am_aload_n (pc' := 39) 0 dX11_gainOfOrder_38 rfl rfl rfl ?_
  refine am_get (pc' := 42) (v := .ref 41) dX11_gainOfOrder_39 fl_X11_82 (sx_c0 S r) rfl rfl ?_
  refine am_iload_n (pc' := 43) 2 dX11_gainOfOrder_42 rfl rfl rfl ?_
  refine am_cS (pc' := 46) (st' := [.int (am_rd 6 (sx_order S) v2), .int (w0 * (6 : Int32)), .ref 43, .int v1]) [.int (w0 * (6 : Int32)), .ref 43, .int v1] [.ref 41, .int v2] dX11_gainOfOrder_43 cs_X11_139 (tx_at (f := (sx_order S)) (sx_c41 S r) rfl v2) rfl rfl rfl rfl rfl rfl ?_
  refine am_iadd (pc' := 47) dX11_gainOfOrder_46 rfl ?_
  refine am_cS (pc' := 50) (st' := [.int (am_rd 18 (sx_gains S) ((w0 * (6 : Int32)) + (am_rd 6 (sx_order S) v2))), .int v1]) [.int v1] [.ref 43, .int ((w0 * (6 : Int32)) + (am_rd 6 (sx_order S) v2))] dX11_gainOfOrder_47 cs_X11_139 (tx_at (f := (sx_gains S)) (sx_c43 S r) rfl ((w0 * (6 : Int32)) + (am_rd 6 (sx_order S) v2))) rfl rfl rfl rfl rfl rfl ?_
  refine am_iadd (pc' := 51) dX11_gainOfOrder_50 rfl ?_
  refine am_istore_n (pc' := 52) (ls' := [some (.ref 0), some (.int (v1 + (am_rd 18 (sx_gains S) ((w0 * (6 : Int32)) + (am_rd 6 (sx_order S) v2))))), some (.int v2), some (.int w0)]) 1 dX11_gainOfOrder_51 rfl (Nat.le_of_ble_eq_true rfl) rfl rfl rfl ?_
  refine am_iinc (pc' := 55) (ls' := [some (.ref 0), some (.int (v1 + (am_rd 18 (sx_gains S) ((w0 * (6 : Int32)) + (am_rd 6 (sx_order S) v2))))), some (.int (v2 + (1 : Int32))), some (.int w0)]) dX11_gainOfOrder_52 rfl (show v2 + Int32.ofInt 1 = (v2 + (1 : Int32)) from congrArg (fun z => v2 + z) kc_1) (Nat.le_of_ble_eq_true rfl) rfl rfl rfl ?_
  refine am_goto 4 dX11_gainOfOrder_55 rfl ?_
  refine am_weak (ls' := [some (.ref 0), some (.int (v1 + (am_rd 18 (sx_gains S) ((w0 * (6 : Int32)) + (am_rd 6 (sx_order S) v2))))), some (.int (v2 + (1 : Int32))), none]) [false, false, false, true] rfl ?_
  exact hk4 _ _ _ hres

set_option maxRecDepth 100000 in
set_option maxHeartbeats 4000000 in
theorem wx_X11_gainOfOrder_4 (r : am_W) (S : sx_T) : ∀ (n : Nat) (v1 : Int32) (v2 : Int32) (res : Int32) (hres : fx_X11_gainOfOrder_4 S n v1 v2 = some res), am_G mX11_gainOfOrder (none, 1, 0, 0, (some (.int res)), (sx_w S r)) (0, 0) 4 [some (.ref 0), some (.int v1), some (.int v2), none] [] (sx_w S r) := by
  intro n
  induction n with
  | zero =>
    intro v1 v2 res hres
    cases hres
  | succ n ih =>
    intro v1 v2 res hres
    rw [fx_X11_gainOfOrder_4] at hres
    refine am_iload_n (pc' := 5) 2 dX11_gainOfOrder_4 rfl rfl rfl ?_
    refine am_bipush (pc' := 7) (v := 6) dX11_gainOfOrder_5 kb_6 rfl ?_
    refine am_icmp_ge (pc' := 10) 58 dX11_gainOfOrder_7 rfl rfl (fun hc1 => ?_) (fun hc1 => ?_)
    · rw [if_pos hc1] at hres
      refine am_iload_n (pc' := 59) 1 dX11_gainOfOrder_58 rfl rfl rfl ?_
      obtain rfl := Option.some.inj hres
      exact am_iret dX11_gainOfOrder_59 rfl rfl rfl
    · rw [if_neg hc1] at hres
      refine am_iload_n (pc' := 11) 2 dX11_gainOfOrder_10 rfl rfl rfl ?_
      refine am_if_ne (pc' := 14) 18 dX11_gainOfOrder_11 rfl rfl (fun hc2 => ?_) (fun hc2 => ?_)
      · rw [if_neg hc2] at hres
        refine am_iload_n (pc' := 19) 2 dX11_gainOfOrder_18 rfl rfl rfl ?_
        refine am_iconst (pc' := 20) (v := 5) dX11_gainOfOrder_19 kc_5 rfl ?_
        refine am_icmp_ne (pc' := 23) 27 dX11_gainOfOrder_20 rfl rfl (fun hc3 => ?_) (fun hc3 => ?_)
        · rw [if_neg hc3] at hres
          refine am_iconst (pc' := 28) (v := 1) dX11_gainOfOrder_27 kc_1 rfl ?_
          exact wx_X11_gainOfOrder_28 r S _ (fun a0 a1 => ih a0 a1) _ _ _ _ hres
        · rw [if_pos hc3] at hres
          refine am_iconst (pc' := 24) (v := 2) dX11_gainOfOrder_23 kc_2 rfl ?_
          refine am_goto 28 dX11_gainOfOrder_24 rfl ?_
          exact wx_X11_gainOfOrder_28 r S _ (fun a0 a1 => ih a0 a1) _ _ _ _ hres
      · rw [if_pos hc2] at hres
        refine am_iconst (pc' := 15) (v := 0) dX11_gainOfOrder_14 kc_0 rfl ?_
        refine am_goto 28 dX11_gainOfOrder_15 rfl ?_
        exact wx_X11_gainOfOrder_28 r S _ (fun a0 a1 => ih a0 a1) _ _ _ _ hres

set_option maxRecDepth 100000 in
set_option maxHeartbeats 4000000 in
theorem tx_X11_gainOfOrder (r : am_W) (S : sx_T) (res : Int32) (hres : fx_X11_gainOfOrder S = some res) : am_T mX11_gainOfOrder 1 0 0 [.ref 0] (sx_w S r) (some (.int res)) (sx_w S r) := by
  refine am_meth (ls := [some (.ref 0), none, none, none]) (by decide +kernel) rfl (Nat.le_of_ble_eq_true rfl) (sx_len _ _ _) ?_
  rw [fx_X11_gainOfOrder] at hres
  refine am_iconst (pc' := 1) (v := 0) dX11_gainOfOrder_0 kc_0 rfl ?_
  refine am_istore_n (pc' := 2) (ls' := [some (.ref 0), some (.int (0 : Int32)), none, none]) 1 dX11_gainOfOrder_1 rfl (Nat.le_of_ble_eq_true rfl) rfl rfl rfl ?_
  refine am_iconst (pc' := 3) (v := 0) dX11_gainOfOrder_2 kc_0 rfl ?_
  refine am_istore_n (pc' := 4) (ls' := [some (.ref 0), some (.int (0 : Int32)), some (.int (0 : Int32)), none]) 2 dX11_gainOfOrder_3 rfl (Nat.le_of_ble_eq_true rfl) rfl rfl rfl ?_
  exact wx_X11_gainOfOrder_4 r S am_fu _ _ _ hres
set_option maxRecDepth 100000 in
set_option maxHeartbeats 4000000 in
theorem wx_X11_digitsOfOrder_4 (r : am_W) (S : sx_T) : ∀ (n : Nat) (v1 : Int32) (v2 : Int32) (res : Int32) (hres : fx_X11_digitsOfOrder_4 S n v1 v2 = some res), am_G mX11_digitsOfOrder (none, 1, 0, 0, (some (.int res)), (sx_w S r)) (0, 0) 4 [some (.ref 0), some (.int v1), some (.int v2)] [] (sx_w S r) := by
  intro n
  induction n with
  | zero =>
    intro v1 v2 res hres
    cases hres
  | succ n ih =>
    intro v1 v2 res hres
    rw [fx_X11_digitsOfOrder_4] at hres
    refine am_iload_n (pc' := 5) 2 dX11_digitsOfOrder_4 rfl rfl rfl ?_
    refine am_bipush (pc' := 7) (v := 6) dX11_digitsOfOrder_5 kb_6 rfl ?_
    refine am_icmp_ge (pc' := 10) 32 dX11_digitsOfOrder_7 rfl rfl (fun hc1 => ?_) (fun hc1 => ?_)
    · rw [if_pos hc1] at hres
      refine am_iload_n (pc' := 33) 1 dX11_digitsOfOrder_32 rfl rfl rfl ?_
      obtain rfl := Option.some.inj hres
      exact am_iret dX11_digitsOfOrder_33 rfl rfl rfl
    · rw [if_neg hc1] at hres
      refine am_bipush (pc' := 12) (v := 10) dX11_digitsOfOrder_10 kb_10 rfl ?_
      refine am_iload_n (pc' := 13) 1 dX11_digitsOfOrder_12 rfl rfl rfl ?_
      refine am_imul (pc' := 14) dX11_digitsOfOrder_13 rfl ?_
      refine am_aload_n (pc' := 15) 0 dX11_digitsOfOrder_14 rfl rfl rfl ?_
      refine am_get (pc' := 18) (v := .ref 41) dX11_digitsOfOrder_15 fl_X11_82 (sx_c0 S r) rfl rfl ?_
      refine am_iload_n (pc' := 19) 2 dX11_digitsOfOrder_18 rfl rfl rfl ?_
      refine am_cS (pc' := 22) (st' := [.int (am_rd 6 (sx_order S) v2), .int ((10 : Int32) * v1)]) [.int ((10 : Int32) * v1)] [.ref 41, .int v2] dX11_digitsOfOrder_19 cs_X11_139 (tx_at (f := (sx_order S)) (sx_c41 S r) rfl v2) rfl rfl rfl rfl rfl rfl ?_
      refine am_iadd (pc' := 23) dX11_digitsOfOrder_22 rfl ?_
      refine am_iconst (pc' := 24) (v := 1) dX11_digitsOfOrder_23 kc_1 rfl ?_
      refine am_iadd (pc' := 25) dX11_digitsOfOrder_24 rfl ?_
      refine am_istore_n (pc' := 26) (ls' := [some (.ref 0), some (.int ((((10 : Int32) * v1) + (am_rd 6 (sx_order S) v2)) + (1 : Int32))), some (.int v2)]) 1 dX11_digitsOfOrder_25 rfl (Nat.le_of_ble_eq_true rfl) rfl rfl rfl ?_
      refine am_iinc (pc' := 29) (ls' := [some (.ref 0), some (.int ((((10 : Int32) * v1) + (am_rd 6 (sx_order S) v2)) + (1 : Int32))), some (.int (v2 + (1 : Int32)))]) dX11_digitsOfOrder_26 rfl (show v2 + Int32.ofInt 1 = (v2 + (1 : Int32)) from congrArg (fun z => v2 + z) kc_1) (Nat.le_of_ble_eq_true rfl) rfl rfl rfl ?_
      refine am_goto 4 dX11_digitsOfOrder_29 rfl ?_
      exact ih _ _ _ hres

set_option maxRecDepth 100000 in
set_option maxHeartbeats 4000000 in
theorem tx_X11_digitsOfOrder (r : am_W) (S : sx_T) (res : Int32) (hres : fx_X11_digitsOfOrder S = some res) : am_T mX11_digitsOfOrder 1 0 0 [.ref 0] (sx_w S r) (some (.int res)) (sx_w S r) := by
  refine am_meth (ls := [some (.ref 0), none, none]) (by decide +kernel) rfl (Nat.le_of_ble_eq_true rfl) (sx_len _ _ _) ?_
  rw [fx_X11_digitsOfOrder] at hres
  refine am_iconst (pc' := 1) (v := 0) dX11_digitsOfOrder_0 kc_0 rfl ?_
  refine am_istore_n (pc' := 2) (ls' := [some (.ref 0), some (.int (0 : Int32)), none]) 1 dX11_digitsOfOrder_1 rfl (Nat.le_of_ble_eq_true rfl) rfl rfl rfl ?_
  refine am_iconst (pc' := 3) (v := 0) dX11_digitsOfOrder_2 kc_0 rfl ?_
  refine am_istore_n (pc' := 4) (ls' := [some (.ref 0), some (.int (0 : Int32)), some (.int (0 : Int32))]) 2 dX11_digitsOfOrder_3 rfl (Nat.le_of_ble_eq_true rfl) rfl rfl rfl ?_
  exact wx_X11_digitsOfOrder_4 r S am_fu _ _ _ hres
set_option maxRecDepth 100000 in
set_option maxHeartbeats 4000000 in
theorem tx_X11_swap (r : am_W) (a1 : Int32) (a2 : Int32) (S : sx_T) (res : sx_T) (hres : fx_X11_swap a1 a2 S = res) : am_T mX11_swap 1 0 0 [.ref 0, .int a1, .int a2] (sx_w S r) none (sx_w res r) := by
  refine am_meth (ls := [some (.ref 0), some (.int a1), some (.int a2), none]) (by decide +kernel) rfl (Nat.le_of_ble_eq_true rfl) (sx_len _ _ _) ?_
  rw [fx_X11_swap] at hres
  refine am_aload_n (pc' := 1) 0 dX11_swap_0 rfl rfl rfl ?_
  refine am_get (pc' := 4) (v := .ref 41) dX11_swap_1 fl_X11_82 (sx_c0 S r) rfl rfl ?_
  refine am_iload_n (pc' := 5) 1 dX11_swap_4 rfl rfl rfl ?_
  refine am_cS (pc' := 8) (st' := [.int (am_rd 6 (sx_order S) a1)]) [] [.ref 41, .int a1] dX11_swap_5 cs_X11_139 (tx_at (f := (sx_order S)) (sx_c41 S r) rfl a1) rfl rfl rfl rfl rfl rfl ?_
  refine am_istore_n (pc' := 9) (ls' := [some (.ref 0), some (.int a1), some (.int a2), some (.int (am_rd 6 (sx_order S) a1))]) 3 dX11_swap_8 rfl (Nat.le_of_ble_eq_true rfl) rfl rfl rfl ?_
  refine am_aload_n (pc' := 10) 0 dX11_swap_9 rfl rfl rfl ?_
  refine am_get (pc' := 13) (v := .ref 41) dX11_swap_10 fl_X11_82 (sx_c0 S r) rfl rfl ?_
  refine am_iload_n (pc' := 14) 1 dX11_swap_13 rfl rfl rfl ?_
  refine am_aload_n (pc' := 15) 0 dX11_swap_14 rfl rfl rfl ?_
  refine am_get (pc' := 18) (v := .ref 41) dX11_swap_15 fl_X11_82 (sx_c0 S r) rfl rfl ?_
  refine am_iload_n (pc' := 19) 2 dX11_swap_18 rfl rfl rfl ?_
  refine am_cS (pc' := 22) (st' := [.int (am_rd 6 (sx_order S) a2), .int a1, .ref 41]) [.int a1, .ref 41] [.ref 41, .int a2] dX11_swap_19 cs_X11_139 (tx_at (f := (sx_order S)) (sx_c41 S r) rfl a2) rfl rfl rfl rfl rfl rfl ?_
  refine am_cS (pc' := 25) (st' := []) [] [.ref 41, .int a1, .int (am_rd 6 (sx_order S) a2)] dX11_swap_22 cs_X11_143 (tx_set (f := (sx_order S)) (w1 := (sx_w (ux_order S (am_up 6 (sx_order S) a1 (am_rd 6 (sx_order S) a2))) r)) (sx_c41 S r) rfl a1 (am_rd 6 (sx_order S) a2) (sx_p_order S r _)) rfl rfl rfl rfl rfl rfl ?_
  refine am_aload_n (pc' := 26) 0 dX11_swap_25 rfl rfl rfl ?_
  refine am_get (pc' := 29) (v := .ref 41) dX11_swap_26 fl_X11_82 (sx_c0 (ux_order S (am_up 6 (sx_order S) a1 (am_rd 6 (sx_order S) a2))) r) rfl rfl ?_
  refine am_iload_n (pc' := 30) 2 dX11_swap_29 rfl rfl rfl ?_
  refine am_iload_n (pc' := 31) 3 dX11_swap_30 rfl rfl rfl ?_
  refine am_cS (pc' := 34) (st' := []) [] [.ref 41, .int a2, .int (am_rd 6 (sx_order S) a1)] dX11_swap_31 cs_X11_143 (tx_set (f := (am_up 6 (sx_order S) a1 (am_rd 6 (sx_order S) a2))) (w1 := (sx_w (ux_order (ux_order S (am_up 6 (sx_order S) a1 (am_rd 6 (sx_order S) a2))) (am_up 6 (am_up 6 (sx_order S) a1 (am_rd 6 (sx_order S) a2)) a2 (am_rd 6 (sx_order S) a1))) r)) (sx_c41 (ux_order S (am_up 6 (sx_order S) a1 (am_rd 6 (sx_order S) a2))) r) rfl a2 (am_rd 6 (sx_order S) a1) (sx_p_order (ux_order S (am_up 6 (sx_order S) a1 (am_rd 6 (sx_order S) a2))) r _)) rfl rfl rfl rfl rfl rfl ?_
  subst hres
  exact am_vret dX11_swap_34 rfl rfl rfl
set_option maxRecDepth 100000 in
set_option maxHeartbeats 4000000 in
theorem wx_X11_nextOrder_91 (r : am_W) : ∀ (n : Nat) (v4 : Int32) (v5 : Int32) (S : sx_T) (res : Int32 × sx_T) (hres : fx_X11_nextOrder_91 n v4 v5 S = some res), am_G mX11_nextOrder (none, 2, 0, 0, (some (.int res.1)), (sx_w res.2 r)) (0, 0) 91 [some (.ref 0), none, none, none, some (.int v4), some (.int v5)] [] (sx_w S r) := by
  intro n
  induction n with
  | zero =>
    intro v4 v5 S res hres
    cases hres
  | succ n ih =>
    intro v4 v5 S res hres
    rw [fx_X11_nextOrder_91] at hres
    refine am_iload (pc' := 93) dX11_nextOrder_91 rfl rfl ?_
    refine am_iload (pc' := 95) dX11_nextOrder_93 rfl rfl ?_
    refine am_icmp_ge (pc' := 98) 115 dX11_nextOrder_95 rfl rfl (fun hc6 => ?_) (fun hc6 => ?_)
    · rw [if_pos hc6] at hres
      refine am_iconst (pc' := 116) (v := 1) dX11_nextOrder_115 kc_1 rfl ?_
      obtain rfl := Option.some.inj hres
      exact am_zret dX11_nextOrder_116 rfl rfl rfl rfl
    · rw [if_neg hc6] at hres
      refine am_aload_n (pc' := 99) 0 dX11_nextOrder_98 rfl rfl rfl ?_
      refine am_iload (pc' := 101) dX11_nextOrder_99 rfl rfl ?_
      refine am_iload (pc' := 103) dX11_nextOrder_101 rfl rfl ?_
      obtain ⟨q7, hq8, hres⟩ := am_let_s hres
      refine am_cV (pc' := 106) (st' := []) [] [.int v4, .int v5] dX11_nextOrder_103 cs_X11_321 (tx_X11_swap r v4 v5 S _ hq8) rfl rfl rfl (sx_c0 S r) rfl rfl rfl rfl rfl ?_
      refine am_iinc (pc' := 109) (ls' := [some (.ref 0), none, none, none, some (.int (v4 + (1 : Int32))), some (.int v5)]) dX11_nextOrder_106 rfl (show v4 + Int32.ofInt 1 = (v4 + (1 : Int32)) from congrArg (fun z => v4 + z) kc_1) (Nat.le_of_ble_eq_true rfl) rfl rfl rfl ?_
      refine am_iinc (pc' := 112) (ls' := [some (.ref 0), none, none, none, some (.int (v4 + (1 : Int32))), some (.int (v5 + (-1 : Int32)))]) dX11_nextOrder_109 rfl (show v5 + Int32.ofInt (-1) = (v5 + (-1 : Int32)) from congrArg (fun z => v5 + z) kc_m1) (Nat.le_of_ble_eq_true rfl) rfl rfl rfl ?_
      refine am_goto 91 dX11_nextOrder_112 rfl ?_
      exact ih _ _ _ _ hres

set_option maxRecDepth 100000 in
set_option maxHeartbeats 4000000 in
theorem wx_X11_nextOrder_45 (r : am_W) : ∀ (n : Nat) (v1 : Int32) (v2 : Int32) (v3 : Int32) (S : sx_T) (res : Int32 × sx_T) (hres : fx_X11_nextOrder_45 n v1 v2 v3 S = some res), am_G mX11_nextOrder (none, 2, 0, 0, (some (.int res.1)), (sx_w res.2 r)) (0, 0) 45 [some (.ref 0), some (.int v1), some (.int v2), some (.int v3), none, none] [] (sx_w S r) := by
  intro n
  induction n with
  | zero =>
    intro v1 v2 v3 S res hres
    cases hres
  | succ n ih =>
    intro v1 v2 v3 S res hres
    rw [fx_X11_nextOrder_45] at hres
    refine am_iload_n (pc' := 46) 3 dX11_nextOrder_45 rfl rfl rfl ?_
    refine am_iload_n (pc' := 47) 2 dX11_nextOrder_46 rfl rfl rfl ?_
    refine am_icmp_le (pc' := 50) 75 dX11_nextOrder_47 rfl rfl (fun hc3 => ?_) (fun hc3 => ?_)
    · rw [if_pos hc3] at hres
      refine am_aload_n (pc' := 76) 0 dX11_nextOrder_75 rfl rfl rfl ?_
      refine am_iload_n (pc' := 77) 2 dX11_nextOrder_76 rfl rfl rfl ?_
      refine am_iload_n (pc' := 78) 3 dX11_nextOrder_77 rfl rfl rfl ?_
      obtain ⟨q4, hq5, hres⟩ := am_let_s hres
      refine am_cV (pc' := 81) (st' := []) [] [.int v2, .int v3] dX11_nextOrder_78 cs_X11_321 (tx_X11_swap r v2 v3 S _ hq5) rfl rfl rfl (sx_c0 S r) rfl rfl rfl rfl rfl ?_
      refine am_iload_n (pc' := 82) 2 dX11_nextOrder_81 rfl rfl rfl ?_
      refine am_iconst (pc' := 83) (v := 1) dX11_nextOrder_82 kc_1 rfl ?_
      refine am_iadd (pc' := 84) dX11_nextOrder_83 rfl ?_
      refine am_istore (pc' := 86) (ls' := [some (.ref 0), some (.int v1), some (.int v2), some (.int v3), some (.int (v2 + (1 : Int32))), none]) dX11_nextOrder_84 (Nat.le_of_ble_eq_true rfl) rfl rfl rfl ?_
      refine am_iload_n (pc' := 87) 1 dX11_nextOrder_86 rfl rfl rfl ?_
      refine am_iconst (pc' := 88) (v := 1) dX11_nextOrder_87 kc_1 rfl ?_
      refine am_isub (pc' := 89) dX11_nextOrder_88 rfl ?_
      refine am_istore (pc' := 91) (ls' := [some (.ref 0), some (.int v1), some (.int v2), some (.int v3), some (.int (v2 + (1 : Int32))), some (.int (v1 - (1 : Int32)))]) dX11_nextOrder_89 (Nat.le_of_ble_eq_true rfl) rfl rfl rfl ?_
      refine am_weak (ls' := [some (.ref 0), none, none, none, some (.int (v2 + (1 : Int32))), some (.int (v1 - (1 : Int32)))]) [false, true, true, true, false, false] rfl ?_
      exact wx_X11_nextOrder_91 r am_fu _ _ _ _ hres
    · rw [if_neg hc3] at hres
      refine am_aload_n (pc' := 51) 0 dX11_nextOrder_50 rfl rfl rfl ?_
      refine am_get (pc' := 54) (v := .ref 41) dX11_nextOrder_51 fl_X11_82 (sx_c0 S r) rfl rfl ?_
      refine am_iload_n (pc' := 55) 3 dX11_nextOrder_54 rfl rfl rfl ?_
      refine am_cS (pc' := 58) (st' := [.int (am_rd 6 (sx_order S) v3)]) [] [.ref 41, .int v3] dX11_nextOrder_55 cs_X11_139 (tx_at (f := (sx_order S)) (sx_c41 S r) rfl v3) rfl rfl rfl rfl rfl rfl ?_
      refine am_aload_n (pc' := 59) 0 dX11_nextOrder_58 rfl rfl rfl ?_
      refine am_get (pc' := 62) (v := .ref 41) dX11_nextOrder_59 fl_X11_82 (sx_c0 S r) rfl rfl ?_
      refine am_iload_n (pc' := 63) 2 dX11_nextOrder_62 rfl rfl rfl ?_
      refine am_cS (pc' := 66) (st' := [.int (am_rd 6 (sx_order S) v2), .int (am_rd 6 (sx_order S) v3)]) [.int (am_rd 6 (sx_order S) v3)] [.ref 41, .int v2] dX11_nextOrder_63 cs_X11_139 (tx_at (f := (sx_order S)) (sx_c41 S r) rfl v2) rfl rfl rfl rfl rfl rfl ?_
      refine am_icmp_ge (pc' := 69) 75 dX11_nextOrder_66 rfl rfl (fun hc9 => ?_) (fun hc9 => ?_)
      · rw [if_pos hc9] at hres
        refine am_aload_n (pc' := 76) 0 dX11_nextOrder_75 rfl rfl rfl ?_
        refine am_iload_n (pc' := 77) 2 dX11_nextOrder_76 rfl rfl rfl ?_
        refine am_iload_n (pc' := 78) 3 dX11_nextOrder_77 rfl rfl rfl ?_
        obtain ⟨q10, hq11, hres⟩ := am_let_s hres
        refine am_cV (pc' := 81) (st' := []) [] [.int v2, .int v3] dX11_nextOrder_78 cs_X11_321 (tx_X11_swap r v2 v3 S _ hq11) rfl rfl rfl (sx_c0 S r) rfl rfl rfl rfl rfl ?_
        refine am_iload_n (pc' := 82) 2 dX11_nextOrder_81 rfl rfl rfl ?_
        refine am_iconst (pc' := 83) (v := 1) dX11_nextOrder_82 kc_1 rfl ?_
        refine am_iadd (pc' := 84) dX11_nextOrder_83 rfl ?_
        refine am_istore (pc' := 86) (ls' := [some (.ref 0), some (.int v1), some (.int v2), some (.int v3), some (.int (v2 + (1 : Int32))), none]) dX11_nextOrder_84 (Nat.le_of_ble_eq_true rfl) rfl rfl rfl ?_
        refine am_iload_n (pc' := 87) 1 dX11_nextOrder_86 rfl rfl rfl ?_
        refine am_iconst (pc' := 88) (v := 1) dX11_nextOrder_87 kc_1 rfl ?_
        refine am_isub (pc' := 89) dX11_nextOrder_88 rfl ?_
        refine am_istore (pc' := 91) (ls' := [some (.ref 0), some (.int v1), some (.int v2), some (.int v3), some (.int (v2 + (1 : Int32))), some (.int (v1 - (1 : Int32)))]) dX11_nextOrder_89 (Nat.le_of_ble_eq_true rfl) rfl rfl rfl ?_
        refine am_weak (ls' := [some (.ref 0), none, none, none, some (.int (v2 + (1 : Int32))), some (.int (v1 - (1 : Int32)))]) [false, true, true, true, false, false] rfl ?_
        exact wx_X11_nextOrder_91 r am_fu _ _ _ _ hres
      · rw [if_neg hc9] at hres
        refine am_iinc (pc' := 72) (ls' := [some (.ref 0), some (.int v1), some (.int v2), some (.int (v3 + (-1 : Int32))), none, none]) dX11_nextOrder_69 rfl (show v3 + Int32.ofInt (-1) = (v3 + (-1 : Int32)) from congrArg (fun z => v3 + z) kc_m1) (Nat.le_of_ble_eq_true rfl) rfl rfl rfl ?_
        refine am_goto 45 dX11_nextOrder_72 rfl ?_
        exact ih _ _ _ _ _ hres

set_option maxRecDepth 100000 in
set_option maxHeartbeats 4000000 in
theorem wx_X11_nextOrder_4 (r : am_W) : ∀ (n : Nat) (v1 : Int32) (v2 : Int32) (S : sx_T) (res : Int32 × sx_T) (hres : fx_X11_nextOrder_4 n v1 v2 S = some res), am_G mX11_nextOrder (none, 2, 0, 0, (some (.int res.1)), (sx_w res.2 r)) (0, 0) 4 [some (.ref 0), some (.int v1), some (.int v2), none, none, none] [] (sx_w S r) := by
  intro n
  induction n with
  | zero =>
    intro v1 v2 S res hres
    cases hres
  | succ n ih =>
    intro v1 v2 S res hres
    rw [fx_X11_nextOrder_4] at hres
    refine am_iload_n (pc' := 5) 2 dX11_nextOrder_4 rfl rfl rfl ?_
    refine am_if_lt (pc' := 8) 35 dX11_nextOrder_5 rfl rfl (fun hc1 => ?_) (fun hc1 => ?_)
    · rw [if_pos hc1] at hres
      refine am_iload_n (pc' := 36) 2 dX11_nextOrder_35 rfl rfl rfl ?_
      refine am_if_ge (pc' := 39) 41 dX11_nextOrder_36 rfl rfl (fun hc2 => ?_) (fun hc2 => ?_)
      · rw [if_pos hc2] at hres
        refine am_iload_n (pc' := 42) 1 dX11_nextOrder_41 rfl rfl rfl ?_
        refine am_iconst (pc' := 43) (v := 1) dX11_nextOrder_42 kc_1 rfl ?_
        refine am_isub (pc' := 44) dX11_nextOrder_43 rfl ?_
        refine am_istore_n (pc' := 45) (ls' := [some (.ref 0), some (.int v1), some (.int v2), some (.int (v1 - (1 : Int32))), none, none]) 3 dX11_nextOrder_44 rfl (Nat.le_of_ble_eq_true rfl) rfl rfl rfl ?_
        exact wx_X11_nextOrder_45 r am_fu _ _ _ _ _ hres
      · rw [if_neg hc2] at hres
        refine am_iconst (pc' := 40) (v := 0) dX11_nextOrder_39 kc_0 rfl ?_
        obtain rfl := Option.some.inj hres
        exact am_zret dX11_nextOrder_40 rfl rfl rfl rfl
    · rw [if_neg hc1] at hres
      refine am_aload_n (pc' := 9) 0 dX11_nextOrder_8 rfl rfl rfl ?_
      refine am_get (pc' := 12) (v := .ref 41) dX11_nextOrder_9 fl_X11_82 (sx_c0 S r) rfl rfl ?_
      refine am_iload_n (pc' := 13) 2 dX11_nextOrder_12 rfl rfl rfl ?_
      refine am_cS (pc' := 16) (st' := [.int (am_rd 6 (sx_order S) v2)]) [] [.ref 41, .int v2] dX11_nextOrder_13 cs_X11_139 (tx_at (f := (sx_order S)) (sx_c41 S r) rfl v2) rfl rfl rfl rfl rfl rfl ?_
      refine am_aload_n (pc' := 17) 0 dX11_nextOrder_16 rfl rfl rfl ?_
      refine am_get (pc' := 20) (v := .ref 41) dX11_nextOrder_17 fl_X11_82 (sx_c0 S r) rfl rfl ?_
      refine am_iload_n (pc' := 21) 2 dX11_nextOrder_20 rfl rfl rfl ?_
      refine am_iconst (pc' := 22) (v := 1) dX11_nextOrder_21 kc_1 rfl ?_
      refine am_iadd (pc' := 23) dX11_nextOrder_22 rfl ?_
      refine am_cS (pc' := 26) (st' := [.int (am_rd 6 (sx_order S) (v2 + (1 : Int32))), .int (am_rd 6 (sx_order S) v2)]) [.int (am_rd 6 (sx_order S) v2)] [.ref 41, .int (v2 + (1 : Int32))] dX11_nextOrder_23 cs_X11_139 (tx_at (f := (sx_order S)) (sx_c41 S r) rfl (v2 + (1 : Int32))) rfl rfl rfl rfl rfl rfl ?_
      refine am_icmp_le (pc' := 29) 35 dX11_nextOrder_26 rfl rfl (fun hc12 => ?_) (fun hc12 => ?_)
      · rw [if_pos hc12] at hres
        refine am_iload_n (pc' := 36) 2 dX11_nextOrder_35 rfl rfl rfl ?_
        refine am_if_ge (pc' := 39) 41 dX11_nextOrder_36 rfl rfl (fun hc13 => ?_) (fun hc13 => ?_)
        · rw [if_pos hc13] at hres
          refine am_iload_n (pc' := 42) 1 dX11_nextOrder_41 rfl rfl rfl ?_
          refine am_iconst (pc' := 43) (v := 1) dX11_nextOrder_42 kc_1 rfl ?_
          refine am_isub (pc' := 44) dX11_nextOrder_43 rfl ?_
          refine am_istore_n (pc' := 45) (ls' := [some (.ref 0), some (.int v1), some (.int v2), some (.int (v1 - (1 : Int32))), none, none]) 3 dX11_nextOrder_44 rfl (Nat.le_of_ble_eq_true rfl) rfl rfl rfl ?_
          exact wx_X11_nextOrder_45 r am_fu _ _ _ _ _ hres
        · rw [if_neg hc13] at hres
          refine am_iconst (pc' := 40) (v := 0) dX11_nextOrder_39 kc_0 rfl ?_
          obtain rfl := Option.some.inj hres
          exact am_zret dX11_nextOrder_40 rfl rfl rfl rfl
      · rw [if_neg hc12] at hres
        refine am_iinc (pc' := 32) (ls' := [some (.ref 0), some (.int v1), some (.int (v2 + (-1 : Int32))), none, none, none]) dX11_nextOrder_29 rfl (show v2 + Int32.ofInt (-1) = (v2 + (-1 : Int32)) from congrArg (fun z => v2 + z) kc_m1) (Nat.le_of_ble_eq_true rfl) rfl rfl rfl ?_
        refine am_goto 4 dX11_nextOrder_32 rfl ?_
        exact ih _ _ _ _ hres

set_option maxRecDepth 100000 in
set_option maxHeartbeats 4000000 in
theorem tx_X11_nextOrder (r : am_W) (a1 : Int32) (S : sx_T) (res : Int32 × sx_T) (hres : fx_X11_nextOrder a1 S = some res) : am_T mX11_nextOrder 2 0 0 [.ref 0, .int a1] (sx_w S r) (some (.int res.1)) (sx_w res.2 r) := by
  refine am_meth (ls := [some (.ref 0), some (.int a1), none, none, none, none]) (by decide +kernel) rfl (Nat.le_of_ble_eq_true rfl) (sx_len _ _ _) ?_
  rw [fx_X11_nextOrder] at hres
  refine am_iload_n (pc' := 1) 1 dX11_nextOrder_0 rfl rfl rfl ?_
  refine am_iconst (pc' := 2) (v := 2) dX11_nextOrder_1 kc_2 rfl ?_
  refine am_isub (pc' := 3) dX11_nextOrder_2 rfl ?_
  refine am_istore_n (pc' := 4) (ls' := [some (.ref 0), some (.int a1), some (.int (a1 - (2 : Int32))), none, none, none]) 2 dX11_nextOrder_3 rfl (Nat.le_of_ble_eq_true rfl) rfl rfl rfl ?_
  exact wx_X11_nextOrder_4 r am_fu _ _ _ _ hres
set_option maxRecDepth 100000 in
set_option maxHeartbeats 4000000 in
theorem wx_X11_best_69 (r : am_W) : ∀ (n : Nat) (v3 : Int32) (v4 : Int32) (v5 : Int32) (v6 : Int32) (v7 : Int32) (S : sx_T) (res : Int32 × sx_T) (hres : fx_X11_best_69 n v3 v4 v5 v6 v7 S = some res), am_G mX11_best (none, 6, 0, 0, (some (.int res.1)), (sx_w res.2 r)) (0, 0) 69 [some (.ref 0), none, none, some (.int v3), some (.int v4), some (.int v5), some (.int v6), some (.int v7), none] [] (sx_w S r) := by
  intro n
  induction n with
  | zero =>
    intro v3 v4 v5 v6 v7 S res hres
    cases hres
  | succ n ih =>
    intro v3 v4 v5 v6 v7 S res hres
    rw [fx_X11_best_69] at hres
    refine am_iload (pc' := 71) dX11_best_69 rfl rfl ?_
    refine am_sipush (pc' := 74) (v := 720) dX11_best_71 ks_720 rfl ?_
    refine am_icmp_ge (pc' := 77) 124 dX11_best_74 rfl rfl (fun hc10 => ?_) (fun hc10 => ?_)
    · rw [if_pos hc10] at hres
      refine am_iload_n (pc' := 125) 3 dX11_best_124 rfl rfl rfl ?_
      refine am_if_ne (pc' := 128) 133 dX11_best_125 rfl rfl (fun hc11 => ?_) (fun hc11 => ?_)
      · rw [if_neg hc11] at hres
        refine am_iload (pc' := 135) dX11_best_133 rfl rfl ?_
        obtain rfl := Option.some.inj hres
        exact am_iret dX11_best_135 rfl rfl rfl
      · rw [if_pos hc11] at hres
        refine am_iload (pc' := 130) dX11_best_128 rfl rfl ?_
        refine am_goto 135 dX11_best_130 rfl ?_
        obtain rfl := Option.some.inj hres
        exact am_iret dX11_best_135 rfl rfl rfl
    · rw [if_neg hc10] at hres
      refine am_iload (pc' := 79) dX11_best_77 rfl rfl ?_
      refine am_if_eq (pc' := 82) 124 dX11_best_79 rfl rfl (fun hc12 => ?_) (fun hc12 => ?_)
      · rw [if_pos hc12] at hres
        refine am_iload_n (pc' := 125) 3 dX11_best_124 rfl rfl rfl ?_
        refine am_if_ne (pc' := 128) 133 dX11_best_125 rfl rfl (fun hc13 => ?_) (fun hc13 => ?_)
        · rw [if_neg hc13] at hres
          refine am_iload (pc' := 135) dX11_best_133 rfl rfl ?_
          obtain rfl := Option.some.inj hres
          exact am_iret dX11_best_135 rfl rfl rfl
        · rw [if_pos hc13] at hres
          refine am_iload (pc' := 130) dX11_best_128 rfl rfl ?_
          refine am_goto 135 dX11_best_130 rfl ?_
          obtain rfl := Option.some.inj hres
          exact am_iret dX11_best_135 rfl rfl rfl
      · rw [if_neg hc12] at hres
        refine am_aload_n (pc' := 83) 0 dX11_best_82 rfl rfl rfl ?_
        obtain ⟨q14, hq15, hres⟩ := am_bd_s hres
        refine am_cV (pc' := 86) (st' := [.int q14]) [] [] dX11_best_83 cs_X11_218 (tx_X11_gainOfOrder r S _ hq15) rfl rfl rfl (sx_c0 S r) rfl rfl rfl rfl rfl ?_
        refine am_istore (pc' := 88) (ls' := [some (.ref 0), none, none, some (.int v3), some (.int v4), some (.int v5), some (.int v6), some (.int v7), some (.int q14)]) dX11_best_86 (Nat.le_of_ble_eq_true rfl) rfl rfl rfl ?_
        refine am_iload (pc' := 90) dX11_best_88 rfl rfl ?_
        refine am_if_eq (pc' := 93) 100 dX11_best_90 rfl rfl (fun hc16 => ?_) (fun hc16 => ?_)
        · rw [if_pos hc16] at hres
          refine am_iload (pc' := 102) dX11_best_100 rfl rfl ?_
          refine am_istore (pc' := 104) (ls' := [some (.ref 0), none, none, some (.int v3), some (.int q14), some (.int v5), some (.int v6), some (.int v7), some (.int q14)]) dX11_best_102 (Nat.le_of_ble_eq_true rfl) rfl rfl rfl ?_
          refine am_aload_n (pc' := 105) 0 dX11_best_104 rfl rfl rfl ?_
          obtain ⟨q17, hq18, hres⟩ := am_bd_s hres
          refine am_cV (pc' := 108) (st' := [.int q17]) [] [] dX11_best_105 cs_X11_221 (tx_X11_digitsOfOrder r S _ hq18) rfl rfl rfl (sx_c0 S r) rfl rfl rfl rfl rfl ?_
          refine am_istore (pc' := 110) (ls' := [some (.ref 0), none, none, some (.int v3), some (.int q14), some (.int q17), some (.int v6), some (.int v7), some (.int q14)]) dX11_best_108 (Nat.le_of_ble_eq_true rfl) rfl rfl rfl ?_
          refine am_aload_n (pc' := 111) 0 dX11_best_110 rfl rfl rfl ?_
          refine am_bipush (pc' := 113) (v := 6) dX11_best_111 kb_6 rfl ?_
          obtain ⟨q19, hq20, hres⟩ := am_bd_s hres
          refine am_cV (pc' := 116) (st' := [.int q19.1]) [] [.int (6 : Int32)] dX11_best_113 cs_X11_224 (tx_X11_nextOrder r (6 : Int32) S _ hq20) rfl rfl rfl (sx_c0 S r) rfl rfl rfl rfl rfl ?_
          refine am_istore (pc' := 118) (ls' := [some (.ref 0), none, none, some (.int v3), some (.int q14), some (.int q17), some (.int q19.1), some (.int v7), some (.int q14)]) dX11_best_116 (Nat.le_of_ble_eq_true rfl) rfl rfl rfl ?_
          refine am_iinc (pc' := 121) (ls' := [some (.ref 0), none, none, some (.int v3), some (.int q14), some (.int q17), some (.int q19.1), some (.int (v7 + (1 : Int32))), some (.int q14)]) dX11_best_118 rfl (show v7 + Int32.ofInt 1 = (v7 + (1 : Int32)) from congrArg (fun z => v7 + z) kc_1) (Nat.le_of_ble_eq_true rfl) rfl rfl rfl ?_
          refine am_goto 69 dX11_best_121 rfl ?_
          refine am_weak (ls' := [some (.ref 0), none, none, some (.int v3), some (.int q14), some (.int q17), some (.int q19.1), some (.int (v7 + (1 : Int32))), none]) [false, false, false, false, false, false, false, false, true] rfl ?_
          exact ih _ _ _ _ _ _ _ hres
        · rw [if_neg hc16] at hres
          refine am_iload (pc' := 95) dX11_best_93 rfl rfl ?_
          refine am_iload (pc' := 97) dX11_best_95 rfl rfl ?_
          refine am_icmp_le (pc' := 100) 110 dX11_best_97 rfl rfl (fun hc21 => ?_) (fun hc21 => ?_)
          · rw [if_pos hc21] at hres
            refine am_aload_n (pc' := 111) 0 dX11_best_110 rfl rfl rfl ?_
            refine am_bipush (pc' := 113) (v := 6) dX11_best_111 kb_6 rfl ?_
            obtain ⟨q22, hq23, hres⟩ := am_bd_s hres
            refine am_cV (pc' := 116) (st' := [.int q22.1]) [] [.int (6 : Int32)] dX11_best_113 cs_X11_224 (tx_X11_nextOrder r (6 : Int32) S _ hq23) rfl rfl rfl (sx_c0 S r) rfl rfl rfl rfl rfl ?_
            refine am_istore (pc' := 118) (ls' := [some (.ref 0), none, none, some (.int v3), some (.int v4), some (.int v5), some (.int q22.1), some (.int v7), some (.int q14)]) dX11_best_116 (Nat.le_of_ble_eq_true rfl) rfl rfl rfl ?_
            refine am_iinc (pc' := 121) (ls' := [some (.ref 0), none, none, some (.int v3), some (.int v4), some (.int v5), some (.int q22.1), some (.int (v7 + (1 : Int32))), some (.int q14)]) dX11_best_118 rfl (show v7 + Int32.ofInt 1 = (v7 + (1 : Int32)) from congrArg (fun z => v7 + z) kc_1) (Nat.le_of_ble_eq_true rfl) rfl rfl rfl ?_
            refine am_goto 69 dX11_best_121 rfl ?_
            refine am_weak (ls' := [some (.ref 0), none, none, some (.int v3), some (.int v4), some (.int v5), some (.int q22.1), some (.int (v7 + (1 : Int32))), none]) [false, false, false, false, false, false, false, false, true] rfl ?_
            exact ih _ _ _ _ _ _ _ hres
          · rw [if_neg hc21] at hres
            refine am_iload (pc' := 102) dX11_best_100 rfl rfl ?_
            refine am_istore (pc' := 104) (ls' := [some (.ref 0), none, none, some (.int v3), some (.int q14), some (.int v5), some (.int v6), some (.int v7), some (.int q14)]) dX11_best_102 (Nat.le_of_ble_eq_true rfl) rfl rfl rfl ?_
            refine am_aload_n (pc' := 105) 0 dX11_best_104 rfl rfl rfl ?_
            obtain ⟨q24, hq25, hres⟩ := am_bd_s hres
            refine am_cV (pc' := 108) (st' := [.int q24]) [] [] dX11_best_105 cs_X11_221 (tx_X11_digitsOfOrder r S _ hq25) rfl rfl rfl (sx_c0 S r) rfl rfl rfl rfl rfl ?_
            refine am_istore (pc' := 110) (ls' := [some (.ref 0), none, none, some (.int v3), some (.int q14), some (.int q24), some (.int v6), some (.int v7), some (.int q14)]) dX11_best_108 (Nat.le_of_ble_eq_true rfl) rfl rfl rfl ?_
            refine am_aload_n (pc' := 111) 0 dX11_best_110 rfl rfl rfl ?_
            refine am_bipush (pc' := 113) (v := 6) dX11_best_111 kb_6 rfl ?_
            obtain ⟨q26, hq27, hres⟩ := am_bd_s hres
            refine am_cV (pc' := 116) (st' := [.int q26.1]) [] [.int (6 : Int32)] dX11_best_113 cs_X11_224 (tx_X11_nextOrder r (6 : Int32) S _ hq27) rfl rfl rfl (sx_c0 S r) rfl rfl rfl rfl rfl ?_
            refine am_istore (pc' := 118) (ls' := [some (.ref 0), none, none, some (.int v3), some (.int q14), some (.int q24), some (.int q26.1), some (.int v7), some (.int q14)]) dX11_best_116 (Nat.le_of_ble_eq_true rfl) rfl rfl rfl ?_
            refine am_iinc (pc' := 121) (ls' := [some (.ref 0), none, none, some (.int v3), some (.int q14), some (.int q24), some (.int q26.1), some (.int (v7 + (1 : Int32))), some (.int q14)]) dX11_best_118 rfl (show v7 + Int32.ofInt 1 = (v7 + (1 : Int32)) from congrArg (fun z => v7 + z) kc_1) (Nat.le_of_ble_eq_true rfl) rfl rfl rfl ?_
            refine am_goto 69 dX11_best_121 rfl ?_
            refine am_weak (ls' := [some (.ref 0), none, none, some (.int v3), some (.int q14), some (.int q24), some (.int q26.1), some (.int (v7 + (1 : Int32))), none]) [false, false, false, false, false, false, false, false, true] rfl ?_
            exact ih _ _ _ _ _ _ _ hres

set_option maxRecDepth 100000 in
set_option maxHeartbeats 4000000 in
theorem wx_X11_best_16 (r : am_W) : ∀ (v1 : Int32) (v2 : Int32) (v3 : Int32) (S : sx_T) (res : Int32 × sx_T) (hres : fx_X11_best_16 v1 v2 v3 S = some res), am_G mX11_best (none, 6, 0, 0, (some (.int res.1)), (sx_w res.2 r)) (0, 0) 16 [some (.ref 0), some (.int v1), some (.int v2), some (.int v3), none, none, none, none, none] [] (sx_w S r) := by
  intro v1 v2 v3 S res hres
  rw [fx_X11_best_16] at hres
  refine am_iload_n (pc' := 17) 2 dX11_best_16 rfl rfl rfl ?_
  refine am_cS (pc' := 20) (st' := [.int (fx_X11_isCrowd v2)]) [] [.int v2] dX11_best_17 cs_X11_154 (tx_X11_isCrowd (sx_w S r) v2 _ rfl) rfl rfl rfl rfl rfl rfl ?_
  refine am_if_eq (pc' := 23) 31 dX11_best_20 rfl rfl (fun hc2 => ?_) (fun hc2 => ?_)
  · rw [if_pos hc2] at hres
    refine am_ldc (pc' := 33) dX11_best_31 ck_X11_181 rfl ?_
    obtain rfl := Option.some.inj hres
    exact am_iret dX11_best_33 rfl rfl rfl
  · rw [if_neg hc2] at hres
    refine am_iload_n (pc' := 24) 3 dX11_best_23 rfl rfl rfl ?_
    refine am_iconst (pc' := 25) (v := 2) dX11_best_24 kc_2 rfl ?_
    refine am_cS (pc' := 28) (st' := [.int (fx_X11_within v3 (2 : Int32))]) [] [.int v3, .int (2 : Int32)] dX11_best_25 cs_X11_129 (tx_X11_within (sx_w S r) v3 (2 : Int32) _ rfl) rfl rfl rfl rfl rfl rfl ?_
    refine am_if_ne (pc' := 31) 34 dX11_best_28 rfl rfl (fun hc3 => ?_) (fun hc3 => ?_)
    · rw [if_neg hc3] at hres
      refine am_aload_n (pc' := 35) 0 dX11_best_34 rfl rfl rfl ?_
      refine am_get (pc' := 38) (v := .ref 34) dX11_best_35 fl_X11_78 (sx_c0 S r) rfl rfl ?_
      refine am_aload_n (pc' := 39) 0 dX11_best_38 rfl rfl rfl ?_
      refine am_get (pc' := 42) (v := .ref 1) dX11_best_39 fl_X11_10 (sx_c0 S r) rfl rfl ?_
      obtain ⟨q4, hq5, hres⟩ := am_bd_s hres
      refine am_cV (pc' := 45) (st' := []) [] [.ref 1] dX11_best_42 cs_X11_157 (tx_X10_suppose_r1 r S _ hq5) rfl rfl rfl (sx_c34 S r) rfl rfl rfl rfl rfl ?_
      refine am_aload_n (pc' := 46) 0 dX11_best_45 rfl rfl rfl ?_
      refine am_iload_n (pc' := 47) 1 dX11_best_46 rfl rfl rfl ?_
      refine am_iload_n (pc' := 48) 2 dX11_best_47 rfl rfl rfl ?_
      obtain ⟨q6, hq7, hres⟩ := am_bd_s hres
      refine am_cV (pc' := 51) (st' := []) [] [.int v1, .int v2] dX11_best_48 cs_X11_212 (tx_X11_fillGains r v1 v2 q4 _ hq7) rfl rfl rfl (sx_c0 q4 r) rfl rfl rfl rfl rfl ?_
      refine am_iconst (pc' := 52) (v := 0) dX11_best_51 kc_0 rfl ?_
      refine am_istore (pc' := 54) (ls' := [some (.ref 0), some (.int v1), some (.int v2), some (.int v3), some (.int (0 : Int32)), none, none, none, none]) dX11_best_52 (Nat.le_of_ble_eq_true rfl) rfl rfl rfl ?_
      refine am_iconst (pc' := 55) (v := 0) dX11_best_54 kc_0 rfl ?_
      refine am_istore (pc' := 57) (ls' := [some (.ref 0), some (.int v1), some (.int v2), some (.int v3), some (.int (0 : Int32)), some (.int (0 : Int32)), none, none, none]) dX11_best_55 (Nat.le_of_ble_eq_true rfl) rfl rfl rfl ?_
      refine am_aload_n (pc' := 58) 0 dX11_best_57 rfl rfl rfl ?_
      refine am_bipush (pc' := 60) (v := 6) dX11_best_58 kb_6 rfl ?_
      obtain ⟨q8, hq9, hres⟩ := am_bd_s hres
      refine am_cV (pc' := 63) (st' := []) [] [.int (6 : Int32)] dX11_best_60 cs_X11_215 (tx_X11_firstOrder r (6 : Int32) q6 _ hq9) rfl rfl rfl (sx_c0 q6 r) rfl rfl rfl rfl rfl ?_
      refine am_iconst (pc' := 64) (v := 1) dX11_best_63 kc_1 rfl ?_
      refine am_istore (pc' := 66) (ls' := [some (.ref 0), some (.int v1), some (.int v2), some (.int v3), some (.int (0 : Int32)), some (.int (0 : Int32)), some (.int (1 : Int32)), none, none]) dX11_best_64 (Nat.le_of_ble_eq_true rfl) rfl rfl rfl ?_
      refine am_iconst (pc' := 67) (v := 0) dX11_best_66 kc_0 rfl ?_
      refine am_istore (pc' := 69) (ls' := [some (.ref 0), some (.int v1), some (.int v2), some (.int v3), some (.int (0 : Int32)), some (.int (0 : Int32)), some (.int (1 : Int32)), some (.int (0 : Int32)), none]) dX11_best_67 (Nat.le_of_ble_eq_true rfl) rfl rfl rfl ?_
      refine am_weak (ls' := [some (.ref 0), none, none, some (.int v3), some (.int (0 : Int32)), some (.int (0 : Int32)), some (.int (1 : Int32)), some (.int (0 : Int32)), none]) [false, true, true, false, false, false, false, false, false] rfl ?_
      exact wx_X11_best_69 r am_fu _ _ _ _ _ _ _ hres
    · rw [if_pos hc3] at hres
      refine am_ldc (pc' := 33) dX11_best_31 ck_X11_181 rfl ?_
      obtain rfl := Option.some.inj hres
      exact am_iret dX11_best_33 rfl rfl rfl

set_option maxRecDepth 100000 in
set_option maxHeartbeats 4000000 in
theorem tx_X11_best (r : am_W) (a1 : Int32) (a2 : Int32) (a3 : Int32) (S : sx_T) (res : Int32 × sx_T) (hres : fx_X11_best a1 a2 a3 S = some res) : am_T mX11_best 6 0 0 [.ref 0, .int a1, .int a2, .int a3] (sx_w S r) (some (.int res.1)) (sx_w res.2 r) := by
  refine am_meth (ls := [some (.ref 0), some (.int a1), some (.int a2), some (.int a3), none, none, none, none, none]) (by decide +kernel) rfl (Nat.le_of_ble_eq_true rfl) (sx_len _ _ _) ?_
  rw [fx_X11_best] at hres
  refine am_iload_n (pc' := 1) 1 dX11_best_0 rfl rfl rfl ?_
  refine am_iconst (pc' := 2) (v := (-1)) dX11_best_1 kc_m1 rfl ?_
  refine am_icmp_eq (pc' := 5) 16 dX11_best_2 rfl rfl (fun hc1 => ?_) (fun hc1 => ?_)
  · rw [if_pos hc1] at hres
    exact wx_X11_best_16 r _ _ _ _ _ hres
  · rw [if_neg hc1] at hres
    refine am_aload_n (pc' := 6) 0 dX11_best_5 rfl rfl rfl ?_
    refine am_iload_n (pc' := 7) 1 dX11_best_6 rfl rfl rfl ?_
    refine am_cV (pc' := 10) (st' := [.int (fx_X11_isViewer a1 S)]) [] [.int a1] dX11_best_7 cs_X11_151 (tx_X11_isViewer r a1 S _ rfl) rfl rfl rfl (sx_c0 S r) rfl rfl rfl rfl rfl ?_
    refine am_if_ne (pc' := 13) 16 dX11_best_10 rfl rfl (fun hc28 => ?_) (fun hc28 => ?_)
    · rw [if_neg hc28] at hres
      exact wx_X11_best_16 r _ _ _ _ _ hres
    · rw [if_pos hc28] at hres
      refine am_ldc (pc' := 15) dX11_best_13 ck_X11_211 rfl ?_
      obtain rfl := Option.some.inj hres
      exact am_iret dX11_best_15 rfl rfl rfl
set_option maxRecDepth 100000 in
set_option maxHeartbeats 4000000 in
theorem tx_X5_isMissing (r : am_W) (a1 : Int32) (S : sx_T) (res : Int32) (hres : fx_X5_isMissing a1 S = res) : am_T mX5_isMissing 1 0 0 [.ref 30, .int a1] (sx_w S r) (some (.int res)) (sx_w S r) := by
  refine am_meth (ls := [some (.ref 30), some (.int a1)]) (by decide +kernel) rfl (Nat.le_of_ble_eq_true rfl) (sx_len _ _ _) ?_
  rw [fx_X5_isMissing] at hres
  refine am_aload_n (pc' := 1) 0 dX5_isMissing_0 rfl rfl rfl ?_
  refine am_get (pc' := 4) (v := .ref 32) dX5_isMissing_1 fl_X5_15 (sx_c30 S r) rfl rfl ?_
  refine am_iload_n (pc' := 5) 1 dX5_isMissing_4 rfl rfl rfl ?_
  refine am_cSN (pc' := 8) (st' := [.int (am_rd 4 (sx_sh_sorts S) a1)]) [] [.ref 32, .int a1] dX5_isMissing_5 cs_X5_21 (tx_at (f := (sx_sh_sorts S)) (sx_c32 S r) rfl a1) rfl rfl rfl rfl rfl rfl ?_
  refine am_iconst (pc' := 9) (v := (-1)) dX5_isMissing_8 kc_m1 rfl ?_
  refine am_icmp_ne (pc' := 12) 16 dX5_isMissing_9 rfl rfl (fun hc1 => ?_) (fun hc1 => ?_)
  · rw [if_neg hc1] at hres
    refine am_iconst (pc' := 17) (v := 0) dX5_isMissing_16 kc_0 rfl ?_
    subst hres
    exact am_zret dX5_isMissing_17 rfl rfl rfl rfl
  · rw [if_pos hc1] at hres
    refine am_iconst (pc' := 13) (v := 1) dX5_isMissing_12 kc_1 rfl ?_
    refine am_goto 17 dX5_isMissing_13 rfl ?_
    subst hres
    exact am_zret dX5_isMissing_17 rfl rfl rfl rfl
theorem bz_X5_isMissing (a1 : Int32) (S : sx_T) : narrow .boolean (.int (fx_X5_isMissing a1 S)) = .int (fx_X5_isMissing a1 S) := by
  rw [fx_X5_isMissing]
  repeat' (first | refine nb_ite ?_ ?_ | rfl)
set_option maxRecDepth 100000 in
set_option maxHeartbeats 4000000 in
theorem tx_X5_size (r : am_W) (a1 : Int32) (S : sx_T) (res : Int32) (hres : fx_X5_size a1 S = res) : am_T mX5_size 1 0 0 [.ref 30, .int a1] (sx_w S r) (some (.int res)) (sx_w S r) := by
  refine am_meth (ls := [some (.ref 30), some (.int a1)]) (by decide +kernel) rfl (Nat.le_of_ble_eq_true rfl) (sx_len _ _ _) ?_
  rw [fx_X5_size] at hres
  refine am_aload_n (pc' := 1) 0 dX5_size_0 rfl rfl rfl ?_
  refine am_get (pc' := 4) (v := .ref 33) dX5_size_1 fl_X5_18 (sx_c30 S r) rfl rfl ?_
  refine am_iload_n (pc' := 5) 1 dX5_size_4 rfl rfl rfl ?_
  refine am_cSN (pc' := 8) (st' := [.int (am_rd 4 (sx_sh_sizes S) a1)]) [] [.ref 33, .int a1] dX5_size_5 cs_X5_21 (tx_at (f := (sx_sh_sizes S)) (sx_c33 S r) rfl a1) rfl rfl rfl rfl rfl rfl ?_
  subst hres
  exact am_iret dX5_size_8 rfl rfl rfl
set_option maxRecDepth 100000 in
set_option maxHeartbeats 4000000 in
theorem tx_X5_write (r : am_W) (a1 : Int32) (a2 : Int32) (a3 : Int32) (S : sx_T) (res : sx_T) (hres : fx_X5_write a1 a2 a3 S = res) : am_T mX5_write 1 0 0 [.ref 30, .int a1, .int a2, .int a3] (sx_w S r) none (sx_w res r) := by
  refine am_meth (ls := [some (.ref 30), some (.int a1), some (.int a2), some (.int a3), none]) (by decide +kernel) rfl (Nat.le_of_ble_eq_true rfl) (sx_len _ _ _) ?_
  rw [fx_X5_write] at hres
  refine am_aload_n (pc' := 1) 0 dX5_write_0 rfl rfl rfl ?_
  refine am_get (pc' := 4) (v := .ref 32) dX5_write_1 fl_X5_15 (sx_c30 S r) rfl rfl ?_
  refine am_iload_n (pc' := 5) 1 dX5_write_4 rfl rfl rfl ?_
  refine am_cSN (pc' := 8) (st' := [.int (am_rd 4 (sx_sh_sorts S) a1)]) [] [.ref 32, .int a1] dX5_write_5 cs_X5_21 (tx_at (f := (sx_sh_sorts S)) (sx_c32 S r) rfl a1) rfl rfl rfl rfl rfl rfl ?_
  refine am_istore (pc' := 10) (ls' := [some (.ref 30), some (.int a1), some (.int a2), some (.int a3), some (.int (am_rd 4 (sx_sh_sorts S) a1))]) dX5_write_8 (Nat.le_of_ble_eq_true rfl) rfl rfl rfl ?_
  refine am_aload_n (pc' := 11) 0 dX5_write_10 rfl rfl rfl ?_
  refine am_get (pc' := 14) (v := .ref 31) dX5_write_11 fl_X5_9 (sx_c30 S r) rfl rfl ?_
  refine am_iload_n (pc' := 15) 1 dX5_write_14 rfl rfl rfl ?_
  refine am_bipush (pc' := 17) (v := 40) dX5_write_15 kb_40 rfl ?_
  refine am_imul (pc' := 18) dX5_write_17 rfl ?_
  refine am_iload_n (pc' := 19) 2 dX5_write_18 rfl rfl rfl ?_
  refine am_iadd (pc' := 20) dX5_write_19 rfl ?_
  refine am_iload (pc' := 22) dX5_write_20 rfl rfl ?_
  refine am_if_ne (pc' := 25) 30 dX5_write_22 rfl rfl (fun hc1 => ?_) (fun hc1 => ?_)
  · rw [if_neg hc1] at hres
    refine am_iload (pc' := 32) dX5_write_30 rfl rfl ?_
    refine am_iconst (pc' := 33) (v := 1) dX5_write_32 kc_1 rfl ?_
    refine am_icmp_ne (pc' := 36) 41 dX5_write_33 rfl rfl (fun hc2 => ?_) (fun hc2 => ?_)
    · rw [if_neg hc2] at hres
      refine am_iload_n (pc' := 42) 3 dX5_write_41 rfl rfl rfl ?_
      refine am_cSN (pc' := 45) (st' := []) [] [.ref 31, .int ((a1 * (40 : Int32)) + a2), .int a3] dX5_write_42 cs_X5_25 (tx_set (f := (sx_sh_cells S)) (w1 := (sx_w (ux_sh_cells S (am_up 160 (sx_sh_cells S) ((a1 * (40 : Int32)) + a2) a3)) r)) (sx_c31 S r) rfl ((a1 * (40 : Int32)) + a2) a3 (sx_p_sh_cells S r _)) rfl rfl rfl rfl rfl rfl ?_
      subst hres
      exact am_vret dX5_write_45 rfl rfl rfl
    · rw [if_pos hc2] at hres
      refine am_iload_n (pc' := 37) 3 dX5_write_36 rfl rfl rfl ?_
      refine am_i2s (pc' := 38) dX5_write_37 rfl ?_
      refine am_goto 42 dX5_write_38 rfl ?_
      refine am_cSN (pc' := 45) (st' := []) [] [.ref 31, .int ((a1 * (40 : Int32)) + a2), .int (a3.toInt16.toInt32)] dX5_write_42 cs_X5_25 (tx_set (f := (sx_sh_cells S)) (w1 := (sx_w (ux_sh_cells S (am_up 160 (sx_sh_cells S) ((a1 * (40 : Int32)) + a2) (a3.toInt16.toInt32))) r)) (sx_c31 S r) rfl ((a1 * (40 : Int32)) + a2) (a3.toInt16.toInt32) (sx_p_sh_cells S r _)) rfl rfl rfl rfl rfl rfl ?_
      subst hres
      exact am_vret dX5_write_45 rfl rfl rfl
  · rw [if_pos hc1] at hres
    refine am_iload_n (pc' := 26) 3 dX5_write_25 rfl rfl rfl ?_
    refine am_i2b (pc' := 27) dX5_write_26 rfl ?_
    refine am_goto 42 dX5_write_27 rfl ?_
    refine am_cSN (pc' := 45) (st' := []) [] [.ref 31, .int ((a1 * (40 : Int32)) + a2), .int (a3.toInt8.toInt32)] dX5_write_42 cs_X5_25 (tx_set (f := (sx_sh_cells S)) (w1 := (sx_w (ux_sh_cells S (am_up 160 (sx_sh_cells S) ((a1 * (40 : Int32)) + a2) (a3.toInt8.toInt32))) r)) (sx_c31 S r) rfl ((a1 * (40 : Int32)) + a2) (a3.toInt8.toInt32) (sx_p_sh_cells S r _)) rfl rfl rfl rfl rfl rfl ?_
    subst hres
    exact am_vret dX5_write_45 rfl rfl rfl
set_option maxRecDepth 100000 in
set_option maxHeartbeats 4000000 in
theorem tx_X11_cell (r : am_W) (a1 : Int32) (a2 : Int32) (a3 : Int32) (S : sx_T) (res : Int32 × sx_T) (hres : fx_X11_cell a1 a2 a3 S = res) : am_T mX11_cell 2 0 0 [.ref 0, .int a1, .int a2, .int a3] (sx_w S r) (some (.int res.1)) (sx_w res.2 r) := by
  refine am_meth (ls := [some (.ref 0), some (.int a1), some (.int a2), some (.int a3)]) (by decide +kernel) rfl (Nat.le_of_ble_eq_true rfl) (sx_len _ _ _) ?_
  rw [fx_X11_cell] at hres
  refine am_iload_n (pc' := 1) 1 dX11_cell_0 rfl rfl rfl ?_
  refine am_iconst (pc' := 2) (v := 4) dX11_cell_1 kc_4 rfl ?_
  refine am_cS (pc' := 5) (st' := [.int (fx_X11_within a1 (4 : Int32))]) [] [.int a1, .int (4 : Int32)] dX11_cell_2 cs_X11_129 (tx_X11_within (sx_w S r) a1 (4 : Int32) _ rfl) rfl rfl rfl rfl rfl rfl ?_
  refine am_if_ne (pc' := 8) 11 dX11_cell_5 rfl rfl (fun hc1 => ?_) (fun hc1 => ?_)
  · rw [if_neg hc1] at hres
    refine am_aload_n (pc' := 12) 0 dX11_cell_11 rfl rfl rfl ?_
    refine am_get (pc' := 15) (v := .ref 30) dX11_cell_12 fl_X11_71 (sx_c0 S r) rfl rfl ?_
    refine am_iload_n (pc' := 16) 1 dX11_cell_15 rfl rfl rfl ?_
    refine am_cV (pc' := 19) (st' := [.int (fx_X5_isMissing a1 S)]) [] [.int a1] dX11_cell_16 cs_X11_292 (tx_X5_isMissing r a1 S _ rfl) rfl rfl rfl (sx_c30 S r) rfl rfl rfl rfl rfl ?_
    refine am_if_eq (pc' := 22) 25 dX11_cell_19 rfl rfl (fun hc2 => ?_) (fun hc2 => ?_)
    · rw [if_pos hc2] at hres
      refine am_iload_n (pc' := 26) 2 dX11_cell_25 rfl rfl rfl ?_
      refine am_aload_n (pc' := 27) 0 dX11_cell_26 rfl rfl rfl ?_
      refine am_get (pc' := 30) (v := .ref 30) dX11_cell_27 fl_X11_71 (sx_c0 S r) rfl rfl ?_
      refine am_iload_n (pc' := 31) 1 dX11_cell_30 rfl rfl rfl ?_
      refine am_cV (pc' := 34) (st' := [.int (fx_X5_size a1 S), .int a2]) [.int a2] [.int a1] dX11_cell_31 cs_X11_295 (tx_X5_size r a1 S _ rfl) rfl rfl rfl (sx_c30 S r) rfl rfl rfl rfl rfl ?_
      refine am_cS (pc' := 37) (st' := [.int (fx_X11_within a2 (fx_X5_size a1 S))]) [] [.int a2, .int (fx_X5_size a1 S)] dX11_cell_34 cs_X11_129 (tx_X11_within (sx_w S r) a2 (fx_X5_size a1 S) _ rfl) rfl rfl rfl rfl rfl rfl ?_
      refine am_if_ne (pc' := 40) 43 dX11_cell_37 rfl rfl (fun hc3 => ?_) (fun hc3 => ?_)
      · rw [if_neg hc3] at hres
        refine am_aload_n (pc' := 44) 0 dX11_cell_43 rfl rfl rfl ?_
        refine am_get (pc' := 47) (v := .ref 30) dX11_cell_44 fl_X11_71 (sx_c0 S r) rfl rfl ?_
        refine am_iload_n (pc' := 48) 1 dX11_cell_47 rfl rfl rfl ?_
        refine am_iload_n (pc' := 49) 2 dX11_cell_48 rfl rfl rfl ?_
        refine am_iload_n (pc' := 50) 3 dX11_cell_49 rfl rfl rfl ?_
        obtain ⟨q4, hq5, hres⟩ := am_let_s hres
        refine am_cV (pc' := 53) (st' := []) [] [.int a1, .int a2, .int a3] dX11_cell_50 cs_X11_276 (tx_X5_write r a1 a2 a3 S _ hq5) rfl rfl rfl (sx_c30 S r) rfl rfl rfl rfl rfl ?_
        refine am_iconst (pc' := 54) (v := 1) dX11_cell_53 kc_1 rfl ?_
        subst hres
        exact am_iret dX11_cell_54 rfl rfl rfl
      · rw [if_pos hc3] at hres
        refine am_bipush (pc' := 42) (v := (-12)) dX11_cell_40 kb_m12 rfl ?_
        subst hres
        exact am_iret dX11_cell_42 rfl rfl rfl
    · rw [if_neg hc2] at hres
      refine am_bipush (pc' := 24) (v := (-11)) dX11_cell_22 kb_m11 rfl ?_
      subst hres
      exact am_iret dX11_cell_24 rfl rfl rfl
  · rw [if_pos hc1] at hres
    refine am_bipush (pc' := 10) (v := (-2)) dX11_cell_8 kb_m2 rfl ?_
    subst hres
    exact am_iret dX11_cell_10 rfl rfl rfl
set_option maxRecDepth 100000 in
set_option maxHeartbeats 4000000 in
theorem tx_X5_sort (r : am_W) (a1 : Int32) (S : sx_T) (res : Int32) (hres : fx_X5_sort a1 S = res) : am_T mX5_sort 1 0 0 [.ref 30, .int a1] (sx_w S r) (some (.int res)) (sx_w S r) := by
  refine am_meth (ls := [some (.ref 30), some (.int a1)]) (by decide +kernel) rfl (Nat.le_of_ble_eq_true rfl) (sx_len _ _ _) ?_
  rw [fx_X5_sort] at hres
  refine am_aload_n (pc' := 1) 0 dX5_sort_0 rfl rfl rfl ?_
  refine am_get (pc' := 4) (v := .ref 32) dX5_sort_1 fl_X5_15 (sx_c30 S r) rfl rfl ?_
  refine am_iload_n (pc' := 5) 1 dX5_sort_4 rfl rfl rfl ?_
  refine am_cSN (pc' := 8) (st' := [.int (am_rd 4 (sx_sh_sorts S) a1)]) [] [.ref 32, .int a1] dX5_sort_5 cs_X5_21 (tx_at (f := (sx_sh_sorts S)) (sx_c32 S r) rfl a1) rfl rfl rfl rfl rfl rfl ?_
  subst hres
  exact am_iret dX5_sort_8 rfl rfl rfl
set_option maxRecDepth 100000 in
set_option maxHeartbeats 4000000 in
theorem tx_X5_has (r : am_W) (a1 : Int32) (a2 : Int32) (a3 : Int32) (S : sx_T) (res : Int32) (hres : fx_X5_has a1 a2 a3 S = res) : am_T mX5_has 2 0 0 [.ref 30, .int a1, .int a2, .int a3] (sx_w S r) (some (.int res)) (sx_w S r) := by
  refine am_meth (ls := [some (.ref 30), some (.int a1), some (.int a2), some (.int a3)]) (by decide +kernel) rfl (Nat.le_of_ble_eq_true rfl) (sx_len _ _ _) ?_
  rw [fx_X5_has] at hres
  refine am_iload_n (pc' := 1) 2 dX5_has_0 rfl rfl rfl ?_
  refine am_if_lt (pc' := 4) 32 dX5_has_1 rfl rfl (fun hc1 => ?_) (fun hc1 => ?_)
  · rw [if_pos hc1] at hres
    refine am_iconst (pc' := 33) (v := 0) dX5_has_32 kc_0 rfl ?_
    subst hres
    exact am_zret dX5_has_33 rfl rfl rfl rfl
  · rw [if_neg hc1] at hres
    refine am_iload_n (pc' := 5) 3 dX5_has_4 rfl rfl rfl ?_
    refine am_if_lt (pc' := 8) 32 dX5_has_5 rfl rfl (fun hc2 => ?_) (fun hc2 => ?_)
    · rw [if_pos hc2] at hres
      refine am_iconst (pc' := 33) (v := 0) dX5_has_32 kc_0 rfl ?_
      subst hres
      exact am_zret dX5_has_33 rfl rfl rfl rfl
    · rw [if_neg hc2] at hres
      refine am_iload_n (pc' := 9) 3 dX5_has_8 rfl rfl rfl ?_
      refine am_aload_n (pc' := 10) 0 dX5_has_9 rfl rfl rfl ?_
      refine am_iload_n (pc' := 11) 1 dX5_has_10 rfl rfl rfl ?_
      refine am_cV (pc' := 14) (st' := [.int (fx_X5_size a1 S), .int a3]) [.int a3] [.int a1] dX5_has_11 cs_X5_29 (tx_X5_size r a1 S _ rfl) rfl rfl rfl (sx_c30 S r) rfl rfl rfl rfl rfl ?_
      refine am_icmp_gt (pc' := 17) 32 dX5_has_14 rfl rfl (fun hc3 => ?_) (fun hc3 => ?_)
      · rw [if_pos hc3] at hres
        refine am_iconst (pc' := 33) (v := 0) dX5_has_32 kc_0 rfl ?_
        subst hres
        exact am_zret dX5_has_33 rfl rfl rfl rfl
      · rw [if_neg hc3] at hres
        refine am_iload_n (pc' := 18) 2 dX5_has_17 rfl rfl rfl ?_
        refine am_aload_n (pc' := 19) 0 dX5_has_18 rfl rfl rfl ?_
        refine am_iload_n (pc' := 20) 1 dX5_has_19 rfl rfl rfl ?_
        refine am_cV (pc' := 23) (st' := [.int (fx_X5_size a1 S), .int a2]) [.int a2] [.int a1] dX5_has_20 cs_X5_29 (tx_X5_size r a1 S _ rfl) rfl rfl rfl (sx_c30 S r) rfl rfl rfl rfl rfl ?_
        refine am_iload_n (pc' := 24) 3 dX5_has_23 rfl rfl rfl ?_
        refine am_isub (pc' := 25) dX5_has_24 rfl ?_
        refine am_icmp_gt (pc' := 28) 32 dX5_has_25 rfl rfl (fun hc4 => ?_) (fun hc4 => ?_)
        · rw [if_pos hc4] at hres
          refine am_iconst (pc' := 33) (v := 0) dX5_has_32 kc_0 rfl ?_
          subst hres
          exact am_zret dX5_has_33 rfl rfl rfl rfl
        · rw [if_neg hc4] at hres
          refine am_iconst (pc' := 29) (v := 1) dX5_has_28 kc_1 rfl ?_
          refine am_goto 33 dX5_has_29 rfl ?_
          subst hres
          exact am_zret dX5_has_33 rfl rfl rfl rfl
theorem bz_X5_has (a1 : Int32) (a2 : Int32) (a3 : Int32) (S : sx_T) : narrow .boolean (.int (fx_X5_has a1 a2 a3 S)) = .int (fx_X5_has a1 a2 a3 S) := by
  rw [fx_X5_has]
  repeat' (first | refine nb_ite ?_ ?_ | rfl)
set_option maxRecDepth 100000 in
set_option maxHeartbeats 4000000 in
theorem tx_X5_move (r : am_W) (a1 : Int32) (a2 : Int32) (a3 : Int32) (a4 : Int32) (a5 : Int32) (S : sx_T) (res : sx_T) (hres : fx_X5_move a1 a2 a3 a4 a5 S = some res) : am_T mX5_move 1 0 0 [.ref 30, .int a1, .int a2, .int a3, .int a4, .int a5] (sx_w S r) none (sx_w res r) := by
  refine am_meth (ls := [some (.ref 30), some (.int a1), some (.int a2), some (.int a3), some (.int a4), some (.int a5), none, none]) (by decide +kernel) rfl (Nat.le_of_ble_eq_true rfl) (sx_len _ _ _) ?_
  rw [fx_X5_move] at hres
  refine am_iload_n (pc' := 1) 1 dX5_move_0 rfl rfl rfl ?_
  refine am_bipush (pc' := 3) (v := 40) dX5_move_1 kb_40 rfl ?_
  refine am_imul (pc' := 4) dX5_move_3 rfl ?_
  refine am_iload_n (pc' := 5) 2 dX5_move_4 rfl rfl rfl ?_
  refine am_iadd (pc' := 6) dX5_move_5 rfl ?_
  refine am_istore (pc' := 8) (ls' := [some (.ref 30), some (.int a1), some (.int a2), some (.int a3), some (.int a4), some (.int a5), some (.int ((a1 * (40 : Int32)) + a2)), none]) dX5_move_6 (Nat.le_of_ble_eq_true rfl) rfl rfl rfl ?_
  refine am_iload_n (pc' := 9) 3 dX5_move_8 rfl rfl rfl ?_
  refine am_bipush (pc' := 11) (v := 40) dX5_move_9 kb_40 rfl ?_
  refine am_imul (pc' := 12) dX5_move_11 rfl ?_
  refine am_iload (pc' := 14) dX5_move_12 rfl rfl ?_
  refine am_iadd (pc' := 15) dX5_move_14 rfl ?_
  refine am_istore (pc' := 17) (ls' := [some (.ref 30), some (.int a1), some (.int a2), some (.int a3), some (.int a4), some (.int a5), some (.int ((a1 * (40 : Int32)) + a2)), some (.int ((a3 * (40 : Int32)) + a4))]) dX5_move_15 (Nat.le_of_ble_eq_true rfl) rfl rfl rfl ?_
  refine am_iload (pc' := 19) dX5_move_17 rfl rfl ?_
  refine am_if_lt (pc' := 22) 58 dX5_move_19 rfl rfl (fun hc1 => ?_) (fun hc1 => ?_)
  · rw [if_pos hc1] at hres
    obtain rfl := Option.some.inj hres
    exact am_vret dX5_move_58 rfl rfl rfl
  · rw [if_neg hc1] at hres
    refine am_iload (pc' := 24) dX5_move_22 rfl rfl ?_
    refine am_if_lt (pc' := 27) 58 dX5_move_24 rfl rfl (fun hc2 => ?_) (fun hc2 => ?_)
    · rw [if_pos hc2] at hres
      obtain rfl := Option.some.inj hres
      exact am_vret dX5_move_58 rfl rfl rfl
    · rw [if_neg hc2] at hres
      refine am_iload (pc' := 29) dX5_move_27 rfl rfl ?_
      refine am_if_lt (pc' := 32) 58 dX5_move_29 rfl rfl (fun hc3 => ?_) (fun hc3 => ?_)
      · rw [if_pos hc3] at hres
        obtain rfl := Option.some.inj hres
        exact am_vret dX5_move_58 rfl rfl rfl
      · rw [if_neg hc3] at hres
        refine am_iload (pc' := 34) dX5_move_32 rfl rfl ?_
        refine am_aload_n (pc' := 35) 0 dX5_move_34 rfl rfl rfl ?_
        refine am_get (pc' := 38) (v := .ref 31) dX5_move_35 fl_X5_9 (sx_c30 S r) rfl rfl ?_
        refine am_alen (pc' := 39) dX5_move_38 (sx_c31 S r) rfl ?_
        refine am_iload (pc' := 41) dX5_move_39 rfl rfl ?_
        refine am_isub (pc' := 42) dX5_move_41 rfl ?_
        refine am_icmp_gt (pc' := 45) 58 dX5_move_42 rfl rfl (fun hc4 => ?_) (fun hc4 => ?_)
        · rw [if_pos hc4] at hres
          obtain rfl := Option.some.inj hres
          exact am_vret dX5_move_58 rfl rfl rfl
        · rw [if_neg hc4] at hres
          refine am_iload (pc' := 47) dX5_move_45 rfl rfl ?_
          refine am_aload_n (pc' := 48) 0 dX5_move_47 rfl rfl rfl ?_
          refine am_get (pc' := 51) (v := .ref 31) dX5_move_48 fl_X5_9 (sx_c30 S r) rfl rfl ?_
          refine am_alen (pc' := 52) dX5_move_51 (sx_c31 S r) rfl ?_
          refine am_iload (pc' := 54) dX5_move_52 rfl rfl ?_
          refine am_isub (pc' := 55) dX5_move_54 rfl ?_
          refine am_icmp_le (pc' := 58) 59 dX5_move_55 rfl rfl (fun hc5 => ?_) (fun hc5 => ?_)
          · rw [if_pos hc5] at hres
            refine am_aload_n (pc' := 60) 0 dX5_move_59 rfl rfl rfl ?_
            refine am_get (pc' := 63) (v := .ref 31) dX5_move_60 fl_X5_9 (sx_c30 S r) rfl rfl ?_
            refine am_iload (pc' := 65) dX5_move_63 rfl rfl ?_
            refine am_aload_n (pc' := 66) 0 dX5_move_65 rfl rfl rfl ?_
            refine am_get (pc' := 69) (v := .ref 31) dX5_move_66 fl_X5_9 (sx_c30 S r) rfl rfl ?_
            refine am_iload (pc' := 71) dX5_move_69 rfl rfl ?_
            refine am_iload (pc' := 73) dX5_move_71 rfl rfl ?_
            obtain ⟨hr6, hres⟩ := am_rg hres
            refine am_acopy (pc' := 76) (f := (sx_sh_cells S)) (ws' := (sx_w (ux_sh_cells S (va_cpy (sx_sh_cells S) (sx_sh_cells S) ((a1 * (40 : Int32)) + a2).toNatClampNeg ((a3 * (40 : Int32)) + a4).toNatClampNeg a5.toNatClampNeg)) r)) dX5_move_73 cp_X5_33 (sx_c31 S r) hr6 (Nat.le_of_ble_eq_true rfl) (Nat.le_of_ble_eq_true rfl) (Nat.le_of_ble_eq_true am_acopyL) (sx_p_sh_cells S r _) rfl ?_
            obtain rfl := Option.some.inj hres
            exact am_vret dX5_move_76 rfl rfl rfl
          · rw [if_neg hc5] at hres
            obtain rfl := Option.some.inj hres
            exact am_vret dX5_move_58 rfl rfl rfl
set_option maxRecDepth 100000 in
set_option maxHeartbeats 4000000 in
theorem tx_X11_copy (r : am_W) (a1 : Int32) (a2 : Int32) (a3 : Int32) (a4 : Int32) (a5 : Int32) (S : sx_T) (res : Int32 × sx_T) (hres : fx_X11_copy a1 a2 a3 a4 a5 S = some res) : am_T mX11_copy 3 0 0 [.ref 0, .int a1, .int a2, .int a3, .int a4, .int a5] (sx_w S r) (some (.int res.1)) (sx_w res.2 r) := by
  refine am_meth (ls := [some (.ref 0), some (.int a1), some (.int a2), some (.int a3), some (.int a4), some (.int a5)]) (by decide +kernel) rfl (Nat.le_of_ble_eq_true rfl) (sx_len _ _ _) ?_
  rw [fx_X11_copy] at hres
  refine am_iload_n (pc' := 1) 1 dX11_copy_0 rfl rfl rfl ?_
  refine am_iconst (pc' := 2) (v := 4) dX11_copy_1 kc_4 rfl ?_
  refine am_cS (pc' := 5) (st' := [.int (fx_X11_within a1 (4 : Int32))]) [] [.int a1, .int (4 : Int32)] dX11_copy_2 cs_X11_129 (tx_X11_within (sx_w S r) a1 (4 : Int32) _ rfl) rfl rfl rfl rfl rfl rfl ?_
  refine am_if_eq (pc' := 8) 16 dX11_copy_5 rfl rfl (fun hc1 => ?_) (fun hc1 => ?_)
  · rw [if_pos hc1] at hres
    refine am_bipush (pc' := 18) (v := (-2)) dX11_copy_16 kb_m2 rfl ?_
    obtain rfl := Option.some.inj hres
    exact am_iret dX11_copy_18 rfl rfl rfl
  · rw [if_neg hc1] at hres
    refine am_iload_n (pc' := 9) 3 dX11_copy_8 rfl rfl rfl ?_
    refine am_iconst (pc' := 10) (v := 4) dX11_copy_9 kc_4 rfl ?_
    refine am_cS (pc' := 13) (st' := [.int (fx_X11_within a3 (4 : Int32))]) [] [.int a3, .int (4 : Int32)] dX11_copy_10 cs_X11_129 (tx_X11_within (sx_w S r) a3 (4 : Int32) _ rfl) rfl rfl rfl rfl rfl rfl ?_
    refine am_if_ne (pc' := 16) 19 dX11_copy_13 rfl rfl (fun hc2 => ?_) (fun hc2 => ?_)
    · rw [if_neg hc2] at hres
      refine am_aload_n (pc' := 20) 0 dX11_copy_19 rfl rfl rfl ?_
      refine am_get (pc' := 23) (v := .ref 30) dX11_copy_20 fl_X11_71 (sx_c0 S r) rfl rfl ?_
      refine am_iload_n (pc' := 24) 1 dX11_copy_23 rfl rfl rfl ?_
      refine am_cV (pc' := 27) (st' := [.int (fx_X5_isMissing a1 S)]) [] [.int a1] dX11_copy_24 cs_X11_292 (tx_X5_isMissing r a1 S _ rfl) rfl rfl rfl (sx_c30 S r) rfl rfl rfl rfl rfl ?_
      refine am_if_ne (pc' := 30) 41 dX11_copy_27 rfl rfl (fun hc3 => ?_) (fun hc3 => ?_)
      · rw [if_neg hc3] at hres
        refine am_bipush (pc' := 43) (v := (-11)) dX11_copy_41 kb_m11 rfl ?_
        obtain rfl := Option.some.inj hres
        exact am_iret dX11_copy_43 rfl rfl rfl
      · rw [if_pos hc3] at hres
        refine am_aload_n (pc' := 31) 0 dX11_copy_30 rfl rfl rfl ?_
        refine am_get (pc' := 34) (v := .ref 30) dX11_copy_31 fl_X11_71 (sx_c0 S r) rfl rfl ?_
        refine am_iload_n (pc' := 35) 3 dX11_copy_34 rfl rfl rfl ?_
        refine am_cV (pc' := 38) (st' := [.int (fx_X5_isMissing a3 S)]) [] [.int a3] dX11_copy_35 cs_X11_292 (tx_X5_isMissing r a3 S _ rfl) rfl rfl rfl (sx_c30 S r) rfl rfl rfl rfl rfl ?_
        refine am_if_eq (pc' := 41) 44 dX11_copy_38 rfl rfl (fun hc4 => ?_) (fun hc4 => ?_)
        · rw [if_pos hc4] at hres
          refine am_aload_n (pc' := 45) 0 dX11_copy_44 rfl rfl rfl ?_
          refine am_get (pc' := 48) (v := .ref 30) dX11_copy_45 fl_X11_71 (sx_c0 S r) rfl rfl ?_
          refine am_iload_n (pc' := 49) 1 dX11_copy_48 rfl rfl rfl ?_
          refine am_cV (pc' := 52) (st' := [.int (fx_X5_sort a1 S)]) [] [.int a1] dX11_copy_49 cs_X11_297 (tx_X5_sort r a1 S _ rfl) rfl rfl rfl (sx_c30 S r) rfl rfl rfl rfl rfl ?_
          refine am_aload_n (pc' := 53) 0 dX11_copy_52 rfl rfl rfl ?_
          refine am_get (pc' := 56) (v := .ref 30) dX11_copy_53 fl_X11_71 (sx_c0 S r) rfl rfl ?_
          refine am_iload_n (pc' := 57) 3 dX11_copy_56 rfl rfl rfl ?_
          refine am_cV (pc' := 60) (st' := [.int (fx_X5_sort a3 S), .int (fx_X5_sort a1 S)]) [.int (fx_X5_sort a1 S)] [.int a3] dX11_copy_57 cs_X11_297 (tx_X5_sort r a3 S _ rfl) rfl rfl rfl (sx_c30 S r) rfl rfl rfl rfl rfl ?_
          refine am_icmp_eq (pc' := 63) 66 dX11_copy_60 rfl rfl (fun hc5 => ?_) (fun hc5 => ?_)
          · rw [if_pos hc5] at hres
            refine am_aload_n (pc' := 67) 0 dX11_copy_66 rfl rfl rfl ?_
            refine am_get (pc' := 70) (v := .ref 30) dX11_copy_67 fl_X11_71 (sx_c0 S r) rfl rfl ?_
            refine am_iload_n (pc' := 71) 1 dX11_copy_70 rfl rfl rfl ?_
            refine am_iload_n (pc' := 72) 2 dX11_copy_71 rfl rfl rfl ?_
            refine am_iload (pc' := 74) dX11_copy_72 rfl rfl ?_
            refine am_cV (pc' := 77) (st' := [.int (fx_X5_has a1 a2 a5 S)]) [] [.int a1, .int a2, .int a5] dX11_copy_74 cs_X11_300 (tx_X5_has r a1 a2 a5 S _ rfl) rfl rfl rfl (sx_c30 S r) rfl rfl rfl rfl rfl ?_
            refine am_if_eq (pc' := 80) 95 dX11_copy_77 rfl rfl (fun hc6 => ?_) (fun hc6 => ?_)
            · rw [if_pos hc6] at hres
              refine am_bipush (pc' := 97) (v := (-12)) dX11_copy_95 kb_m12 rfl ?_
              obtain rfl := Option.some.inj hres
              exact am_iret dX11_copy_97 rfl rfl rfl
            · rw [if_neg hc6] at hres
              refine am_aload_n (pc' := 81) 0 dX11_copy_80 rfl rfl rfl ?_
              refine am_get (pc' := 84) (v := .ref 30) dX11_copy_81 fl_X11_71 (sx_c0 S r) rfl rfl ?_
              refine am_iload_n (pc' := 85) 3 dX11_copy_84 rfl rfl rfl ?_
              refine am_iload (pc' := 87) dX11_copy_85 rfl rfl ?_
              refine am_iload (pc' := 89) dX11_copy_87 rfl rfl ?_
              refine am_cV (pc' := 92) (st' := [.int (fx_X5_has a3 a4 a5 S)]) [] [.int a3, .int a4, .int a5] dX11_copy_89 cs_X11_300 (tx_X5_has r a3 a4 a5 S _ rfl) rfl rfl rfl (sx_c30 S r) rfl rfl rfl rfl rfl ?_
              refine am_if_ne (pc' := 95) 98 dX11_copy_92 rfl rfl (fun hc7 => ?_) (fun hc7 => ?_)
              · rw [if_neg hc7] at hres
                refine am_aload_n (pc' := 99) 0 dX11_copy_98 rfl rfl rfl ?_
                refine am_get (pc' := 102) (v := .ref 30) dX11_copy_99 fl_X11_71 (sx_c0 S r) rfl rfl ?_
                refine am_iload_n (pc' := 103) 1 dX11_copy_102 rfl rfl rfl ?_
                refine am_iload_n (pc' := 104) 2 dX11_copy_103 rfl rfl rfl ?_
                refine am_iload_n (pc' := 105) 3 dX11_copy_104 rfl rfl rfl ?_
                refine am_iload (pc' := 107) dX11_copy_105 rfl rfl ?_
                refine am_iload (pc' := 109) dX11_copy_107 rfl rfl ?_
                obtain ⟨q8, hq9, hres⟩ := am_bd_s hres
                refine am_cV (pc' := 112) (st' := []) [] [.int a1, .int a2, .int a3, .int a4, .int a5] dX11_copy_109 cs_X11_304 (tx_X5_move r a1 a2 a3 a4 a5 S _ hq9) rfl rfl rfl (sx_c30 S r) rfl rfl rfl rfl rfl ?_
                refine am_iload (pc' := 114) dX11_copy_112 rfl rfl ?_
                obtain rfl := Option.some.inj hres
                exact am_iret dX11_copy_114 rfl rfl rfl
              · rw [if_pos hc7] at hres
                refine am_bipush (pc' := 97) (v := (-12)) dX11_copy_95 kb_m12 rfl ?_
                obtain rfl := Option.some.inj hres
                exact am_iret dX11_copy_97 rfl rfl rfl
          · rw [if_neg hc5] at hres
            refine am_bipush (pc' := 65) (v := (-13)) dX11_copy_63 kb_m13 rfl ?_
            obtain rfl := Option.some.inj hres
            exact am_iret dX11_copy_65 rfl rfl rfl
        · rw [if_neg hc4] at hres
          refine am_bipush (pc' := 43) (v := (-11)) dX11_copy_41 kb_m11 rfl ?_
          obtain rfl := Option.some.inj hres
          exact am_iret dX11_copy_43 rfl rfl rfl
    · rw [if_pos hc2] at hres
      refine am_bipush (pc' := 18) (v := (-2)) dX11_copy_16 kb_m2 rfl ?_
      obtain rfl := Option.some.inj hres
      exact am_iret dX11_copy_18 rfl rfl rfl
set_option maxRecDepth 100000 in
set_option maxHeartbeats 4000000 in
theorem tx_X11_count (r : am_W) (a1 : Int32) (S : sx_T) (res : Int32) (hres : fx_X11_count a1 S = res) : am_T mX11_count 0 0 0 [.ref 0, .int a1] (sx_w S r) (some (.int res)) (sx_w S r) := by
  refine am_meth (ls := [some (.ref 0), some (.int a1)]) (by decide +kernel) rfl (Nat.le_of_ble_eq_true rfl) (sx_len _ _ _) ?_
  rw [fx_X11_count] at hres
  refine am_iload_n (pc' := 1) 1 dX11_count_0 rfl rfl rfl ?_
  rcases Classical.em (a1 = (0 : Int32)) with hs1 | hs1
  · rw [if_pos hs1] at hres
    refine am_tsAt (0 : Int32) 36 dX11_count_1 hs1 (by decide) (by decide) rfl rfl ?_
    refine am_aload_n (pc' := 37) 0 dX11_count_36 rfl rfl rfl ?_
    refine am_get (pc' := 40) (v := .ref 1) dX11_count_37 fl_X11_10 (sx_c0 S r) rfl rfl ?_
    refine am_get (pc' := 43) (v := .int (sx_now_viewers S)) dX11_count_40 fl_X11_120 (sx_c1 S r) rfl rfl ?_
    subst hres
    exact am_iret dX11_count_43 rfl rfl rfl
  · rw [if_neg hs1] at hres
    rcases Classical.em (a1 = (1 : Int32)) with hs2 | hs2
    · rw [if_pos hs2] at hres
      refine am_tsAt (1 : Int32) 44 dX11_count_1 hs2 (by decide) (by decide) rfl rfl ?_
      refine am_aload_n (pc' := 45) 0 dX11_count_44 rfl rfl rfl ?_
      refine am_get (pc' := 48) (v := .ref 1) dX11_count_45 fl_X11_10 (sx_c0 S r) rfl rfl ?_
      refine am_get (pc' := 51) (v := .int (sx_now_hour S)) dX11_count_48 fl_X11_123 (sx_c1 S r) rfl rfl ?_
      subst hres
      exact am_iret dX11_count_51 rfl rfl rfl
    · rw [if_neg hs2] at hres
      rcases Classical.em (a1 = (2 : Int32)) with hs3 | hs3
      · rw [if_pos hs3] at hres
        refine am_tsAt (2 : Int32) 52 dX11_count_1 hs3 (by decide) (by decide) rfl rfl ?_
        refine am_aload_n (pc' := 53) 0 dX11_count_52 rfl rfl rfl ?_
        refine am_get (pc' := 56) (v := .ref 21) dX11_count_53 fl_X11_55 (sx_c0 S r) rfl rfl ?_
        refine am_get (pc' := 59) (v := .int (sx_tx_count S)) dX11_count_56 fl_X11_117 (sx_c21 S r) rfl rfl ?_
        subst hres
        exact am_iret dX11_count_59 rfl rfl rfl
      · rw [if_neg hs3] at hres
        rcases Classical.em (a1 = (3 : Int32)) with hs4 | hs4
        · rw [if_pos hs4] at hres
          refine am_tsAt (3 : Int32) 60 dX11_count_1 hs4 (by decide) (by decide) rfl rfl ?_
          refine am_aload_n (pc' := 61) 0 dX11_count_60 rfl rfl rfl ?_
          refine am_get (pc' := 64) (v := .ref 1) dX11_count_61 fl_X11_10 (sx_c0 S r) rfl rfl ?_
          refine am_get (pc' := 67) (v := .int (sx_now_law S)) dX11_count_64 fl_X11_126 (sx_c1 S r) rfl rfl ?_
          subst hres
          exact am_iret dX11_count_67 rfl rfl rfl
        · rw [if_neg hs4] at hres
          rcases Classical.em (a1 = (4 : Int32)) with hs5 | hs5
          · rw [if_pos hs5] at hres
            refine am_tsAt (4 : Int32) 68 dX11_count_1 hs5 (by decide) (by decide) rfl rfl ?_
            refine am_aload_n (pc' := 69) 0 dX11_count_68 rfl rfl rfl ?_
            refine am_get (pc' := 72) (v := .ref 26) dX11_count_69 fl_X11_64 (sx_c0 S r) rfl rfl ?_
            refine am_get (pc' := 75) (v := .int (sx_rd_size S)) dX11_count_72 fl_X11_113 (sx_c26 S r) rfl rfl ?_
            subst hres
            exact am_iret dX11_count_75 rfl rfl rfl
          · rw [if_neg hs5] at hres
            refine am_tsOff 5 76 dX11_count_1 rfl (fun i hi => by match i, hi with | 0, _ => exact hs1 | 1, _ => exact hs2 | 2, _ => exact hs3 | 3, _ => exact hs4 | 4, _ => exact hs5) rfl ?_
            refine am_bipush (pc' := 78) (v := (-2)) dX11_count_76 kb_m2 rfl ?_
            subst hres
            exact am_iret dX11_count_78 rfl rfl rfl
set_option maxRecDepth 100000 in
set_option maxHeartbeats 4000000 in
theorem wx_X11_drawOrder_14 (r : am_W) : ∀ (n : Nat) (v2 : Int64) (v4 : Int32) (S : sx_T) (res : sx_T) (hres : fx_X11_drawOrder_14 n v2 v4 S = some res), am_G mX11_drawOrder (none, 2, 0, 0, none, (sx_w res r)) (0, 0) 14 [some (.ref 0), none, some (.long v2), none, some (.int v4)] [] (sx_w S r) := by
  intro n
  induction n with
  | zero =>
    intro v2 v4 S res hres
    cases hres
  | succ n ih =>
    intro v2 v4 S res hres
    rw [fx_X11_drawOrder_14] at hres
    refine am_iload (pc' := 16) dX11_drawOrder_14 rfl rfl ?_
    refine am_iconst (pc' := 17) (v := 1) dX11_drawOrder_16 kc_1 rfl ?_
    refine am_icmp_lt (pc' := 20) 50 dX11_drawOrder_17 rfl rfl (fun hc3 => ?_) (fun hc3 => ?_)
    · rw [if_pos hc3] at hres
      obtain rfl := Option.some.inj hres
      exact am_vret dX11_drawOrder_50 rfl rfl rfl
    · rw [if_neg hc3] at hres
      refine am_lload_n (pc' := 21) 2 dX11_drawOrder_20 rfl rfl rfl ?_
      refine am_ldc2 (pc' := 24) dX11_drawOrder_21 ck_X11_324 rfl ?_
      refine am_lmul (pc' := 25) dX11_drawOrder_24 rfl ?_
      refine am_ldc2 (pc' := 28) dX11_drawOrder_25 ck_X11_326 rfl ?_
      refine am_lrem (pc' := 29) dX11_drawOrder_28 (by decide) rfl ?_
      refine am_lstore_n (pc' := 30) (ls' := [some (.ref 0), none, some (.long ((v2 * (48271 : Int64)) - (v2 * (48271 : Int64)) / (2147483647 : Int64) * (2147483647 : Int64))), none, some (.int v4)]) 2 dX11_drawOrder_29 rfl (Nat.le_of_ble_eq_true rfl) rfl rfl rfl ?_
      refine am_aload_n (pc' := 31) 0 dX11_drawOrder_30 rfl rfl rfl ?_
      refine am_iload (pc' := 33) dX11_drawOrder_31 rfl rfl ?_
      refine am_lload_n (pc' := 34) 2 dX11_drawOrder_33 rfl rfl rfl ?_
      refine am_iload (pc' := 36) dX11_drawOrder_34 rfl rfl ?_
      refine am_iconst (pc' := 37) (v := 1) dX11_drawOrder_36 kc_1 rfl ?_
      refine am_iadd (pc' := 38) dX11_drawOrder_37 rfl ?_
      refine am_i2l (pc' := 39) dX11_drawOrder_38 rfl ?_
      obtain ⟨hz4, hres⟩ := am_rg hres
      refine am_lrem (pc' := 40) dX11_drawOrder_39 hz4 rfl ?_
      refine am_l2i (pc' := 41) dX11_drawOrder_40 rfl ?_
      obtain ⟨q5, hq6, hres⟩ := am_let_s hres
      refine am_cV (pc' := 44) (st' := []) [] [.int v4, .int ((((v2 * (48271 : Int64)) - (v2 * (48271 : Int64)) / (2147483647 : Int64) * (2147483647 : Int64)) - ((v2 * (48271 : Int64)) - (v2 * (48271 : Int64)) / (2147483647 : Int64) * (2147483647 : Int64)) / ((v4 + (1 : Int32)).toInt64) * ((v4 + (1 : Int32)).toInt64)).toInt32)] dX11_drawOrder_41 cs_X11_321 (tx_X11_swap r v4 ((((v2 * (48271 : Int64)) - (v2 * (48271 : Int64)) / (2147483647 : Int64) * (2147483647 : Int64)) - ((v2 * (48271 : Int64)) - (v2 * (48271 : Int64)) / (2147483647 : Int64) * (2147483647 : Int64)) / ((v4 + (1 : Int32)).toInt64) * ((v4 + (1 : Int32)).toInt64)).toInt32) S _ hq6) rfl rfl rfl (sx_c0 S r) rfl rfl rfl rfl rfl ?_
      refine am_iinc (pc' := 47) (ls' := [some (.ref 0), none, some (.long ((v2 * (48271 : Int64)) - (v2 * (48271 : Int64)) / (2147483647 : Int64) * (2147483647 : Int64))), none, some (.int (v4 + (-1 : Int32)))]) dX11_drawOrder_44 rfl (show v4 + Int32.ofInt (-1) = (v4 + (-1 : Int32)) from congrArg (fun z => v4 + z) kc_m1) (Nat.le_of_ble_eq_true rfl) rfl rfl rfl ?_
      refine am_goto 14 dX11_drawOrder_47 rfl ?_
      exact ih _ _ _ _ hres

set_option maxRecDepth 100000 in
set_option maxHeartbeats 4000000 in
theorem tx_X11_drawOrder (r : am_W) (a1 : Int32) (S : sx_T) (res : sx_T) (hres : fx_X11_drawOrder a1 S = some res) : am_T mX11_drawOrder 2 0 0 [.ref 0, .int a1] (sx_w S r) none (sx_w res r) := by
  refine am_meth (ls := [some (.ref 0), some (.int a1), none, none, none]) (by decide +kernel) rfl (Nat.le_of_ble_eq_true rfl) (sx_len _ _ _) ?_
  rw [fx_X11_drawOrder] at hres
  refine am_aload_n (pc' := 1) 0 dX11_drawOrder_0 rfl rfl rfl ?_
  refine am_bipush (pc' := 3) (v := 6) dX11_drawOrder_1 kb_6 rfl ?_
  obtain ⟨q1, hq2, hres⟩ := am_bd_s hres
  refine am_cV (pc' := 6) (st' := []) [] [.int (6 : Int32)] dX11_drawOrder_3 cs_X11_215 (tx_X11_firstOrder r (6 : Int32) S _ hq2) rfl rfl rfl (sx_c0 S r) rfl rfl rfl rfl rfl ?_
  refine am_iload_n (pc' := 7) 1 dX11_drawOrder_6 rfl rfl rfl ?_
  refine am_i2l (pc' := 8) dX11_drawOrder_7 rfl ?_
  refine am_lconst (pc' := 9) (v := 1) dX11_drawOrder_8 kl_1 rfl ?_
  refine am_ladd (pc' := 10) dX11_drawOrder_9 rfl ?_
  refine am_lstore_n (pc' := 11) (ls' := [some (.ref 0), some (.int a1), some (.long (((a1).toInt64) + (1 : Int64))), none, none]) 2 dX11_drawOrder_10 rfl (Nat.le_of_ble_eq_true rfl) rfl rfl rfl ?_
  refine am_iconst (pc' := 12) (v := 5) dX11_drawOrder_11 kc_5 rfl ?_
  refine am_istore (pc' := 14) (ls' := [some (.ref 0), some (.int a1), some (.long (((a1).toInt64) + (1 : Int64))), none, some (.int (5 : Int32))]) dX11_drawOrder_12 (Nat.le_of_ble_eq_true rfl) rfl rfl rfl ?_
  refine am_weak (ls' := [some (.ref 0), none, some (.long (((a1).toInt64) + (1 : Int64))), none, some (.int (5 : Int32))]) [false, true, false, false, false] rfl ?_
  exact wx_X11_drawOrder_14 r am_fu _ _ _ _ hres
set_option maxRecDepth 100000 in
set_option maxHeartbeats 4000000 in
theorem tx_X11_drawn (r : am_W) (a1 : Int32) (a2 : Int32) (a3 : Int32) (S : sx_T) (res : Int32 × sx_T) (hres : fx_X11_drawn a1 a2 a3 S = some res) : am_T mX11_drawn 7 0 0 [.ref 0, .int a1, .int a2, .int a3] (sx_w S r) (some (.int res.1)) (sx_w res.2 r) := by
  refine am_meth (ls := [some (.ref 0), some (.int a1), some (.int a2), some (.int a3)]) (by decide +kernel) rfl (Nat.le_of_ble_eq_true rfl) (sx_len _ _ _) ?_
  rw [fx_X11_drawn] at hres
  refine am_iload_n (pc' := 1) 1 dX11_drawn_0 rfl rfl rfl ?_
  refine am_ldc (pc' := 3) dX11_drawn_1 ck_X11_169 rfl ?_
  refine am_cS (pc' := 6) (st' := [.int (fx_X11_within a1 (100000 : Int32))]) [] [.int a1, .int (100000 : Int32)] dX11_drawn_3 cs_X11_129 (tx_X11_within (sx_w S r) a1 (100000 : Int32) _ rfl) rfl rfl rfl rfl rfl rfl ?_
  refine am_if_eq (pc' := 9) 25 dX11_drawn_6 rfl rfl (fun hc1 => ?_) (fun hc1 => ?_)
  · rw [if_pos hc1] at hres
    refine am_ldc (pc' := 27) dX11_drawn_25 ck_X11_181 rfl ?_
    obtain rfl := Option.some.inj hres
    exact am_iret dX11_drawn_27 rfl rfl rfl
  · rw [if_neg hc1] at hres
    refine am_aload_n (pc' := 10) 0 dX11_drawn_9 rfl rfl rfl ?_
    refine am_iload_n (pc' := 11) 2 dX11_drawn_10 rfl rfl rfl ?_
    refine am_cV (pc' := 14) (st' := [.int (fx_X11_isViewer a2 S)]) [] [.int a2] dX11_drawn_11 cs_X11_151 (tx_X11_isViewer r a2 S _ rfl) rfl rfl rfl (sx_c0 S r) rfl rfl rfl rfl rfl ?_
    refine am_if_eq (pc' := 17) 25 dX11_drawn_14 rfl rfl (fun hc2 => ?_) (fun hc2 => ?_)
    · rw [if_pos hc2] at hres
      refine am_ldc (pc' := 27) dX11_drawn_25 ck_X11_181 rfl ?_
      obtain rfl := Option.some.inj hres
      exact am_iret dX11_drawn_27 rfl rfl rfl
    · rw [if_neg hc2] at hres
      refine am_iload_n (pc' := 18) 3 dX11_drawn_17 rfl rfl rfl ?_
      refine am_iconst (pc' := 19) (v := 3) dX11_drawn_18 kc_3 rfl ?_
      refine am_cS (pc' := 22) (st' := [.int (fx_X11_within a3 (3 : Int32))]) [] [.int a3, .int (3 : Int32)] dX11_drawn_19 cs_X11_129 (tx_X11_within (sx_w S r) a3 (3 : Int32) _ rfl) rfl rfl rfl rfl rfl rfl ?_
      refine am_if_ne (pc' := 25) 28 dX11_drawn_22 rfl rfl (fun hc3 => ?_) (fun hc3 => ?_)
      · rw [if_neg hc3] at hres
        refine am_aload_n (pc' := 29) 0 dX11_drawn_28 rfl rfl rfl ?_
        refine am_iload_n (pc' := 30) 1 dX11_drawn_29 rfl rfl rfl ?_
        obtain ⟨q4, hq5, hres⟩ := am_bd_s hres
        refine am_cV (pc' := 33) (st' := []) [] [.int a1] dX11_drawn_30 cs_X11_282 (tx_X11_drawOrder r a1 S _ hq5) rfl rfl rfl (sx_c0 S r) rfl rfl rfl rfl rfl ?_
        refine am_iload_n (pc' := 34) 3 dX11_drawn_33 rfl rfl rfl ?_
        refine am_if_ne (pc' := 37) 42 dX11_drawn_34 rfl rfl (fun hc6 => ?_) (fun hc6 => ?_)
        · rw [if_neg hc6] at hres
          refine am_aload_n (pc' := 43) 0 dX11_drawn_42 rfl rfl rfl ?_
          refine am_get (pc' := 46) (v := .ref 34) dX11_drawn_43 fl_X11_78 (sx_c0 q4 r) rfl rfl ?_
          refine am_aload_n (pc' := 47) 0 dX11_drawn_46 rfl rfl rfl ?_
          refine am_get (pc' := 50) (v := .ref 1) dX11_drawn_47 fl_X11_10 (sx_c0 q4 r) rfl rfl ?_
          obtain ⟨q7, hq8, hres⟩ := am_bd_s hres
          refine am_cV (pc' := 53) (st' := []) [] [.ref 1] dX11_drawn_50 cs_X11_157 (tx_X10_suppose_r1 r q4 _ hq8) rfl rfl rfl (sx_c34 q4 r) rfl rfl rfl rfl rfl ?_
          refine am_aload_n (pc' := 54) 0 dX11_drawn_53 rfl rfl rfl ?_
          refine am_iload_n (pc' := 55) 2 dX11_drawn_54 rfl rfl rfl ?_
          refine am_iconst (pc' := 56) (v := 1) dX11_drawn_55 kc_1 rfl ?_
          obtain ⟨q9, hq10, hres⟩ := am_let_s hres
          refine am_cV (pc' := 59) (st' := []) [] [.int a2, .int (1 : Int32)] dX11_drawn_56 cs_X11_161 (tx_X11_letCome r a2 (1 : Int32) q7 _ hq10) rfl rfl rfl (sx_c0 q7 r) rfl rfl rfl rfl rfl ?_
          refine am_aload_n (pc' := 60) 0 dX11_drawn_59 rfl rfl rfl ?_
          refine am_get (pc' := 63) (v := .ref 34) dX11_drawn_60 fl_X11_78 (sx_c0 q9 r) rfl rfl ?_
          refine am_aload_n (pc' := 64) 0 dX11_drawn_63 rfl rfl rfl ?_
          refine am_get (pc' := 67) (v := .ref 41) dX11_drawn_64 fl_X11_82 (sx_c0 q9 r) rfl rfl ?_
          refine am_bipush (pc' := 69) (v := 6) dX11_drawn_67 kb_6 rfl ?_
          refine am_iconst (pc' := 70) (v := (-1)) dX11_drawn_69 kc_m1 rfl ?_
          obtain ⟨q11, hq12, hres⟩ := am_bd_s hres
          refine am_cV (pc' := 73) (st' := []) [] [.ref 41, .int (6 : Int32), .int (-1 : Int32)] dX11_drawn_70 cs_X11_230 (tx_X10_walk_r41 r (6 : Int32) (-1 : Int32) q9 _ hq12) rfl rfl rfl (sx_c34 q9 r) rfl rfl rfl rfl rfl ?_
          refine am_iload_n (pc' := 74) 3 dX11_drawn_73 rfl rfl rfl ?_
          refine am_iconst (pc' := 75) (v := 1) dX11_drawn_74 kc_1 rfl ?_
          refine am_icmp_ne (pc' := 78) 88 dX11_drawn_75 rfl rfl (fun hc13 => ?_) (fun hc13 => ?_)
          · rw [if_neg hc13] at hres
            refine am_aload_n (pc' := 89) 0 dX11_drawn_88 rfl rfl rfl ?_
            refine am_get (pc' := 92) (v := .ref 34) dX11_drawn_89 fl_X11_78 (sx_c0 q11 r) rfl rfl ?_
            obtain ⟨q14, hq15, hres⟩ := am_bd_s hres
            refine am_cV (pc' := 95) (st' := [.int q14.1]) [] [] dX11_drawn_92 cs_X11_185 (tx_X10_offer r q11 _ hq15) rfl rfl rfl (sx_c34 q11 r) rfl rfl rfl rfl rfl ?_
            obtain rfl := Option.some.inj hres
            exact am_iret dX11_drawn_95 rfl rfl rfl
          · rw [if_pos hc13] at hres
            refine am_aload_n (pc' := 79) 0 dX11_drawn_78 rfl rfl rfl ?_
            refine am_get (pc' := 82) (v := .ref 34) dX11_drawn_79 fl_X11_78 (sx_c0 q11 r) rfl rfl ?_
            obtain ⟨q16, hq17, hres⟩ := am_bd_s hres
            refine am_cV (pc' := 85) (st' := [.int q16.1]) [] [] dX11_drawn_82 cs_X11_182 (tx_X10_mind r q11 _ hq17) rfl rfl rfl (sx_c34 q11 r) rfl rfl rfl rfl rfl ?_
            refine am_goto 95 dX11_drawn_85 rfl ?_
            obtain rfl := Option.some.inj hres
            exact am_iret dX11_drawn_95 rfl rfl rfl
        · rw [if_pos hc6] at hres
          refine am_aload_n (pc' := 38) 0 dX11_drawn_37 rfl rfl rfl ?_
          obtain ⟨q18, hq19, hres⟩ := am_bd_s hres
          refine am_cV (pc' := 41) (st' := [.int q18]) [] [] dX11_drawn_38 cs_X11_221 (tx_X11_digitsOfOrder r q4 _ hq19) rfl rfl rfl (sx_c0 q4 r) rfl rfl rfl rfl rfl ?_
          obtain rfl := Option.some.inj hres
          exact am_iret dX11_drawn_41 rfl rfl rfl
      · rw [if_pos hc3] at hres
        refine am_ldc (pc' := 27) dX11_drawn_25 ck_X11_181 rfl ?_
        obtain rfl := Option.some.inj hres
        exact am_iret dX11_drawn_27 rfl rfl rfl
set_option maxRecDepth 100000 in
set_option maxHeartbeats 4000000 in
theorem tx_X11_isByte (ws : am_W) (a1 : Int32) (res : Int32) (hres : fx_X11_isByte a1 = res) : am_T mX11_isByte 1 0 0 [.int a1] ws (some (.int res)) ws := by
  refine am_meth (ls := [some (.int a1)]) (by decide +kernel) rfl (Nat.le_of_ble_eq_true rfl) ⟨rfl, Or.inl rfl⟩ ?_
  rw [fx_X11_isByte] at hres
  refine am_iload_n (pc' := 1) 0 dX11_isByte_0 rfl rfl rfl ?_
  refine am_sipush (pc' := 4) (v := 256) dX11_isByte_1 ks_256 rfl ?_
  refine am_cS (pc' := 7) (st' := [.int (fx_X11_within a1 (256 : Int32))]) [] [.int a1, .int (256 : Int32)] dX11_isByte_4 cs_X11_129 (tx_X11_within ws a1 (256 : Int32) _ rfl) rfl rfl rfl rfl rfl rfl ?_
  subst hres
  exact am_zret dX11_isByte_7 rfl (bz_X11_within a1 (256 : Int32)) rfl rfl
theorem bz_X11_isByte (a1 : Int32) : narrow .boolean (.int (fx_X11_isByte a1)) = .int (fx_X11_isByte a1) := by
  rw [fx_X11_isByte]
  repeat' (first | refine nb_ite ?_ ?_ | rfl | exact bz_X11_within _ _ | exact bz_X11_within _ _)
set_option maxRecDepth 100000 in
set_option maxHeartbeats 4000000 in
theorem tx_X4_take (r : am_W) (a1 : Int32) (S : sx_T) (res : sx_T) (hres : fx_X4_take a1 S = res) : am_T mX4_take 1 0 0 [.ref 26, .int a1] (sx_w S r) none (sx_w res r) := by
  refine am_meth (ls := [some (.ref 26), some (.int a1)]) (by decide +kernel) rfl (Nat.le_of_ble_eq_true rfl) (sx_len _ _ _) ?_
  rw [fx_X4_take] at hres
  refine am_aload_n (pc' := 1) 0 dX4_take_0 rfl rfl rfl ?_
  refine am_get (pc' := 4) (v := .int (sx_rd_size S)) dX4_take_1 fl_X4_25 (sx_c26 S r) rfl rfl ?_
  refine am_sipush (pc' := 7) (v := 160) dX4_take_4 ks_160 rfl ?_
  refine am_icmp_lt (pc' := 10) 11 dX4_take_7 rfl rfl (fun hc1 => ?_) (fun hc1 => ?_)
  · rw [if_pos hc1] at hres
    refine am_aload_n (pc' := 12) 0 dX4_take_11 rfl rfl rfl ?_
    refine am_get (pc' := 15) (v := .ref 27) dX4_take_12 fl_X4_9 (sx_c26 S r) rfl rfl ?_
    refine am_aload_n (pc' := 16) 0 dX4_take_15 rfl rfl rfl ?_
    refine am_get (pc' := 19) (v := .int (sx_rd_size S)) dX4_take_16 fl_X4_25 (sx_c26 S r) rfl rfl ?_
    refine am_iload_n (pc' := 20) 1 dX4_take_19 rfl rfl rfl ?_
    refine am_cSN (pc' := 23) (st' := []) [] [.ref 27, .int (sx_rd_size S), .int a1] dX4_take_20 cs_X4_29 (tx_set (f := (sx_rd_tape S)) (w1 := (sx_w (ux_rd_tape S (am_up 160 (sx_rd_tape S) (sx_rd_size S) a1)) r)) (sx_c27 S r) rfl (sx_rd_size S) a1 (sx_p_rd_tape S r _)) rfl rfl rfl rfl rfl rfl ?_
    refine am_aload_n (pc' := 24) 0 dX4_take_23 rfl rfl rfl ?_
    refine am_dupa (pc' := 25) dX4_take_24 rfl ?_
    refine am_get (pc' := 28) (v := .int (sx_rd_size S)) dX4_take_25 fl_X4_25 (sx_c26 (ux_rd_tape S (am_up 160 (sx_rd_tape S) (sx_rd_size S) a1)) r) rfl rfl ?_
    refine am_iconst (pc' := 29) (v := 1) dX4_take_28 kc_1 rfl ?_
    refine am_iadd (pc' := 30) dX4_take_29 rfl ?_
    refine am_put (pc' := 33) (ws' := (sx_w (ux_rd_size (ux_rd_tape S (am_up 160 (sx_rd_tape S) (sx_rd_size S) a1)) ((sx_rd_size S) + (1 : Int32))) r)) (v := .int ((sx_rd_size S) + (1 : Int32))) dX4_take_30 fp_X4_25 (sx_c26 (ux_rd_tape S (am_up 160 (sx_rd_tape S) (sx_rd_size S) a1)) r) (fun _ => ⟨rfl, rfl⟩) (Nat.le_of_ble_eq_true rfl) (sx_p_rd_size (ux_rd_tape S (am_up 160 (sx_rd_tape S) (sx_rd_size S) a1)) r _) rfl ?_
    subst hres
    exact am_vret dX4_take_33 rfl rfl rfl
  · rw [if_neg hc1] at hres
    subst hres
    exact am_vret dX4_take_10 rfl rfl rfl
set_option maxRecDepth 100000 in
set_option maxHeartbeats 4000000 in
theorem wx_X11_feed_107 (r : am_W) : ∀ (v1 : Int32) (v5 : Int32) (v6 : Int32) (S : sx_T) (res : Int32 × sx_T) (hres : fx_X11_feed_107 v1 v5 v6 S = res), am_G mX11_feed (none, 2, 0, 0, (some (.int res.1)), (sx_w res.2 r)) (0, 0) 107 [some (.ref 0), some (.int v1), none, none, none, some (.int v5), some (.int v6)] [] (sx_w S r) := by
  intro v1 v5 v6 S res hres
  rw [fx_X11_feed_107] at hres
  refine am_iload_n (pc' := 108) 1 dX11_feed_107 rfl rfl rfl ?_
  refine am_iconst (pc' := 109) (v := 3) dX11_feed_108 kc_3 rfl ?_
  refine am_icmp_le (pc' := 112) 121 dX11_feed_109 rfl rfl (fun hc13 => ?_) (fun hc13 => ?_)
  · rw [if_pos hc13] at hres
    refine am_iload_n (pc' := 122) 1 dX11_feed_121 rfl rfl rfl ?_
    refine am_iconst (pc' := 123) (v := 4) dX11_feed_122 kc_4 rfl ?_
    refine am_icmp_le (pc' := 126) 135 dX11_feed_123 rfl rfl (fun hc14 => ?_) (fun hc14 => ?_)
    · rw [if_pos hc14] at hres
      refine am_aload_n (pc' := 136) 0 dX11_feed_135 rfl rfl rfl ?_
      refine am_get (pc' := 139) (v := .ref 26) dX11_feed_136 fl_X11_64 (sx_c0 S r) rfl rfl ?_
      refine am_get (pc' := 142) (v := .int (sx_rd_size S)) dX11_feed_139 fl_X11_113 (sx_c26 S r) rfl rfl ?_
      subst hres
      exact am_iret dX11_feed_142 rfl rfl rfl
    · rw [if_neg hc14] at hres
      refine am_aload_n (pc' := 127) 0 dX11_feed_126 rfl rfl rfl ?_
      refine am_get (pc' := 130) (v := .ref 26) dX11_feed_127 fl_X11_64 (sx_c0 S r) rfl rfl ?_
      refine am_iload (pc' := 132) dX11_feed_130 rfl rfl ?_
      obtain ⟨q15, hq16, hres⟩ := am_let_s hres
      refine am_cV (pc' := 135) (st' := []) [] [.int v6] dX11_feed_132 cs_X11_106 (tx_X4_take r v6 S _ hq16) rfl rfl rfl (sx_c26 S r) rfl rfl rfl rfl rfl ?_
      refine am_aload_n (pc' := 136) 0 dX11_feed_135 rfl rfl rfl ?_
      refine am_get (pc' := 139) (v := .ref 26) dX11_feed_136 fl_X11_64 (sx_c0 q15 r) rfl rfl ?_
      refine am_get (pc' := 142) (v := .int (sx_rd_size q15)) dX11_feed_139 fl_X11_113 (sx_c26 q15 r) rfl rfl ?_
      subst hres
      exact am_iret dX11_feed_142 rfl rfl rfl
  · rw [if_neg hc13] at hres
    refine am_aload_n (pc' := 113) 0 dX11_feed_112 rfl rfl rfl ?_
    refine am_get (pc' := 116) (v := .ref 26) dX11_feed_113 fl_X11_64 (sx_c0 S r) rfl rfl ?_
    refine am_iload (pc' := 118) dX11_feed_116 rfl rfl ?_
    obtain ⟨q17, hq18, hres⟩ := am_let_s hres
    refine am_cV (pc' := 121) (st' := []) [] [.int v5] dX11_feed_118 cs_X11_106 (tx_X4_take r v5 S _ hq18) rfl rfl rfl (sx_c26 S r) rfl rfl rfl rfl rfl ?_
    refine am_iload_n (pc' := 122) 1 dX11_feed_121 rfl rfl rfl ?_
    refine am_iconst (pc' := 123) (v := 4) dX11_feed_122 kc_4 rfl ?_
    refine am_icmp_le (pc' := 126) 135 dX11_feed_123 rfl rfl (fun hc19 => ?_) (fun hc19 => ?_)
    · rw [if_pos hc19] at hres
      refine am_aload_n (pc' := 136) 0 dX11_feed_135 rfl rfl rfl ?_
      refine am_get (pc' := 139) (v := .ref 26) dX11_feed_136 fl_X11_64 (sx_c0 q17 r) rfl rfl ?_
      refine am_get (pc' := 142) (v := .int (sx_rd_size q17)) dX11_feed_139 fl_X11_113 (sx_c26 q17 r) rfl rfl ?_
      subst hres
      exact am_iret dX11_feed_142 rfl rfl rfl
    · rw [if_neg hc19] at hres
      refine am_aload_n (pc' := 127) 0 dX11_feed_126 rfl rfl rfl ?_
      refine am_get (pc' := 130) (v := .ref 26) dX11_feed_127 fl_X11_64 (sx_c0 q17 r) rfl rfl ?_
      refine am_iload (pc' := 132) dX11_feed_130 rfl rfl ?_
      obtain ⟨q20, hq21, hres⟩ := am_let_s hres
      refine am_cV (pc' := 135) (st' := []) [] [.int v6] dX11_feed_132 cs_X11_106 (tx_X4_take r v6 q17 _ hq21) rfl rfl rfl (sx_c26 q17 r) rfl rfl rfl rfl rfl ?_
      refine am_aload_n (pc' := 136) 0 dX11_feed_135 rfl rfl rfl ?_
      refine am_get (pc' := 139) (v := .ref 26) dX11_feed_136 fl_X11_64 (sx_c0 q20 r) rfl rfl ?_
      refine am_get (pc' := 142) (v := .int (sx_rd_size q20)) dX11_feed_139 fl_X11_113 (sx_c26 q20 r) rfl rfl ?_
      subst hres
      exact am_iret dX11_feed_142 rfl rfl rfl

set_option maxRecDepth 100000 in
set_option maxHeartbeats 4000000 in
theorem wx_X11_feed_93 (r : am_W) : ∀ (v1 : Int32) (v4 : Int32) (v5 : Int32) (v6 : Int32) (S : sx_T) (res : Int32 × sx_T) (hres : fx_X11_feed_93 v1 v4 v5 v6 S = res), am_G mX11_feed (none, 2, 0, 0, (some (.int res.1)), (sx_w res.2 r)) (0, 0) 93 [some (.ref 0), some (.int v1), none, none, some (.int v4), some (.int v5), some (.int v6)] [] (sx_w S r) := by
  intro v1 v4 v5 v6 S res hres
  rw [fx_X11_feed_93] at hres
  refine am_iload_n (pc' := 94) 1 dX11_feed_93 rfl rfl rfl ?_
  refine am_iconst (pc' := 95) (v := 2) dX11_feed_94 kc_2 rfl ?_
  refine am_icmp_le (pc' := 98) 107 dX11_feed_95 rfl rfl (fun hc12 => ?_) (fun hc12 => ?_)
  · rw [if_pos hc12] at hres
    refine am_weak (ls' := [some (.ref 0), some (.int v1), none, none, none, some (.int v5), some (.int v6)]) [false, false, false, false, true, false, false] rfl ?_
    exact wx_X11_feed_107 r _ _ _ _ _ hres
  · rw [if_neg hc12] at hres
    refine am_aload_n (pc' := 99) 0 dX11_feed_98 rfl rfl rfl ?_
    refine am_get (pc' := 102) (v := .ref 26) dX11_feed_99 fl_X11_64 (sx_c0 S r) rfl rfl ?_
    refine am_iload (pc' := 104) dX11_feed_102 rfl rfl ?_
    obtain ⟨q22, hq23, hres⟩ := am_let_s hres
    refine am_cV (pc' := 107) (st' := []) [] [.int v4] dX11_feed_104 cs_X11_106 (tx_X4_take r v4 S _ hq23) rfl rfl rfl (sx_c26 S r) rfl rfl rfl rfl rfl ?_
    refine am_weak (ls' := [some (.ref 0), some (.int v1), none, none, none, some (.int v5), some (.int v6)]) [false, false, false, false, true, false, false] rfl ?_
    exact wx_X11_feed_107 r _ _ _ _ _ hres

set_option maxRecDepth 100000 in
set_option maxHeartbeats 4000000 in
theorem tx_X11_feed (r : am_W) (a1 : Int32) (a2 : Int32) (a3 : Int32) (a4 : Int32) (a5 : Int32) (a6 : Int32) (S : sx_T) (res : Int32 × sx_T) (hres : fx_X11_feed a1 a2 a3 a4 a5 a6 S = res) : am_T mX11_feed 2 0 0 [.ref 0, .int a1, .int a2, .int a3, .int a4, .int a5, .int a6] (sx_w S r) (some (.int res.1)) (sx_w res.2 r) := by
  refine am_meth (ls := [some (.ref 0), some (.int a1), some (.int a2), some (.int a3), some (.int a4), some (.int a5), some (.int a6)]) (by decide +kernel) rfl (Nat.le_of_ble_eq_true rfl) (sx_len _ _ _) ?_
  rw [fx_X11_feed] at hres
  refine am_iload_n (pc' := 1) 1 dX11_feed_0 rfl rfl rfl ?_
  refine am_iconst (pc' := 2) (v := 1) dX11_feed_1 kc_1 rfl ?_
  refine am_icmp_lt (pc' := 5) 10 dX11_feed_2 rfl rfl (fun hc1 => ?_) (fun hc1 => ?_)
  · rw [if_pos hc1] at hres
    refine am_bipush (pc' := 12) (v := (-2)) dX11_feed_10 kb_m2 rfl ?_
    subst hres
    exact am_iret dX11_feed_12 rfl rfl rfl
  · rw [if_neg hc1] at hres
    refine am_iload_n (pc' := 6) 1 dX11_feed_5 rfl rfl rfl ?_
    refine am_iconst (pc' := 7) (v := 5) dX11_feed_6 kc_5 rfl ?_
    refine am_icmp_le (pc' := 10) 13 dX11_feed_7 rfl rfl (fun hc2 => ?_) (fun hc2 => ?_)
    · rw [if_pos hc2] at hres
      refine am_iload_n (pc' := 14) 2 dX11_feed_13 rfl rfl rfl ?_
      refine am_cS (pc' := 17) (st' := [.int (fx_X11_isByte a2)]) [] [.int a2] dX11_feed_14 cs_X11_147 (tx_X11_isByte (sx_w S r) a2 _ rfl) rfl rfl rfl rfl rfl rfl ?_
      refine am_if_eq (pc' := 20) 51 dX11_feed_17 rfl rfl (fun hc3 => ?_) (fun hc3 => ?_)
      · rw [if_pos hc3] at hres
        refine am_bipush (pc' := 53) (v := (-2)) dX11_feed_51 kb_m2 rfl ?_
        subst hres
        exact am_iret dX11_feed_53 rfl rfl rfl
      · rw [if_neg hc3] at hres
        refine am_iload_n (pc' := 21) 3 dX11_feed_20 rfl rfl rfl ?_
        refine am_cS (pc' := 24) (st' := [.int (fx_X11_isByte a3)]) [] [.int a3] dX11_feed_21 cs_X11_147 (tx_X11_isByte (sx_w S r) a3 _ rfl) rfl rfl rfl rfl rfl rfl ?_
        refine am_if_eq (pc' := 27) 51 dX11_feed_24 rfl rfl (fun hc4 => ?_) (fun hc4 => ?_)
        · rw [if_pos hc4] at hres
          refine am_bipush (pc' := 53) (v := (-2)) dX11_feed_51 kb_m2 rfl ?_
          subst hres
          exact am_iret dX11_feed_53 rfl rfl rfl
        · rw [if_neg hc4] at hres
          refine am_iload (pc' := 29) dX11_feed_27 rfl rfl ?_
          refine am_cS (pc' := 32) (st' := [.int (fx_X11_isByte a4)]) [] [.int a4] dX11_feed_29 cs_X11_147 (tx_X11_isByte (sx_w S r) a4 _ rfl) rfl rfl rfl rfl rfl rfl ?_
          refine am_if_eq (pc' := 35) 51 dX11_feed_32 rfl rfl (fun hc5 => ?_) (fun hc5 => ?_)
          · rw [if_pos hc5] at hres
            refine am_bipush (pc' := 53) (v := (-2)) dX11_feed_51 kb_m2 rfl ?_
            subst hres
            exact am_iret dX11_feed_53 rfl rfl rfl
          · rw [if_neg hc5] at hres
            refine am_iload (pc' := 37) dX11_feed_35 rfl rfl ?_
            refine am_cS (pc' := 40) (st' := [.int (fx_X11_isByte a5)]) [] [.int a5] dX11_feed_37 cs_X11_147 (tx_X11_isByte (sx_w S r) a5 _ rfl) rfl rfl rfl rfl rfl rfl ?_
            refine am_if_eq (pc' := 43) 51 dX11_feed_40 rfl rfl (fun hc6 => ?_) (fun hc6 => ?_)
            · rw [if_pos hc6] at hres
              refine am_bipush (pc' := 53) (v := (-2)) dX11_feed_51 kb_m2 rfl ?_
              subst hres
              exact am_iret dX11_feed_53 rfl rfl rfl
            · rw [if_neg hc6] at hres
              refine am_iload (pc' := 45) dX11_feed_43 rfl rfl ?_
              refine am_cS (pc' := 48) (st' := [.int (fx_X11_isByte a6)]) [] [.int a6] dX11_feed_45 cs_X11_147 (tx_X11_isByte (sx_w S r) a6 _ rfl) rfl rfl rfl rfl rfl rfl ?_
              refine am_if_ne (pc' := 51) 54 dX11_feed_48 rfl rfl (fun hc7 => ?_) (fun hc7 => ?_)
              · rw [if_neg hc7] at hres
                refine am_aload_n (pc' := 55) 0 dX11_feed_54 rfl rfl rfl ?_
                refine am_get (pc' := 58) (v := .ref 26) dX11_feed_55 fl_X11_64 (sx_c0 S r) rfl rfl ?_
                refine am_get (pc' := 61) (v := .int (sx_rd_size S)) dX11_feed_58 fl_X11_113 (sx_c26 S r) rfl rfl ?_
                refine am_iload_n (pc' := 62) 1 dX11_feed_61 rfl rfl rfl ?_
                refine am_iadd (pc' := 63) dX11_feed_62 rfl ?_
                refine am_sipush (pc' := 66) (v := 160) dX11_feed_63 ks_160 rfl ?_
                refine am_icmp_le (pc' := 69) 72 dX11_feed_66 rfl rfl (fun hc8 => ?_) (fun hc8 => ?_)
                · rw [if_pos hc8] at hres
                  refine am_aload_n (pc' := 73) 0 dX11_feed_72 rfl rfl rfl ?_
                  refine am_get (pc' := 76) (v := .ref 26) dX11_feed_73 fl_X11_64 (sx_c0 S r) rfl rfl ?_
                  refine am_iload_n (pc' := 77) 2 dX11_feed_76 rfl rfl rfl ?_
                  obtain ⟨q9, hq10, hres⟩ := am_let_s hres
                  refine am_cV (pc' := 80) (st' := []) [] [.int a2] dX11_feed_77 cs_X11_106 (tx_X4_take r a2 S _ hq10) rfl rfl rfl (sx_c26 S r) rfl rfl rfl rfl rfl ?_
                  refine am_iload_n (pc' := 81) 1 dX11_feed_80 rfl rfl rfl ?_
                  refine am_iconst (pc' := 82) (v := 1) dX11_feed_81 kc_1 rfl ?_
                  refine am_icmp_le (pc' := 85) 93 dX11_feed_82 rfl rfl (fun hc11 => ?_) (fun hc11 => ?_)
                  · rw [if_pos hc11] at hres
                    refine am_weak (ls' := [some (.ref 0), some (.int a1), none, none, some (.int a4), some (.int a5), some (.int a6)]) [false, false, true, true, false, false, false] rfl ?_
                    exact wx_X11_feed_93 r _ _ _ _ _ _ hres
                  · rw [if_neg hc11] at hres
                    refine am_aload_n (pc' := 86) 0 dX11_feed_85 rfl rfl rfl ?_
                    refine am_get (pc' := 89) (v := .ref 26) dX11_feed_86 fl_X11_64 (sx_c0 q9 r) rfl rfl ?_
                    refine am_iload_n (pc' := 90) 3 dX11_feed_89 rfl rfl rfl ?_
                    obtain ⟨q24, hq25, hres⟩ := am_let_s hres
                    refine am_cV (pc' := 93) (st' := []) [] [.int a3] dX11_feed_90 cs_X11_106 (tx_X4_take r a3 q9 _ hq25) rfl rfl rfl (sx_c26 q9 r) rfl rfl rfl rfl rfl ?_
                    refine am_weak (ls' := [some (.ref 0), some (.int a1), none, none, some (.int a4), some (.int a5), some (.int a6)]) [false, false, true, true, false, false, false] rfl ?_
                    exact wx_X11_feed_93 r _ _ _ _ _ _ hres
                · rw [if_neg hc8] at hres
                  refine am_bipush (pc' := 71) (v := (-4)) dX11_feed_69 kb_m4 rfl ?_
                  subst hres
                  exact am_iret dX11_feed_71 rfl rfl rfl
              · rw [if_pos hc7] at hres
                refine am_bipush (pc' := 53) (v := (-2)) dX11_feed_51 kb_m2 rfl ?_
                subst hres
                exact am_iret dX11_feed_53 rfl rfl rfl
    · rw [if_neg hc2] at hres
      refine am_bipush (pc' := 12) (v := (-2)) dX11_feed_10 kb_m2 rfl ?_
      subst hres
      exact am_iret dX11_feed_12 rfl rfl rfl
set_option maxRecDepth 100000 in
set_option maxHeartbeats 4000000 in
theorem wx_X11_fillOffers_2 (r : am_W) : ∀ (n : Nat) (v1 : Int32) (v2 : Int32) (v3 : Int32) (S : sx_T) (res : sx_T) (hres : fx_X11_fillOffers_2 n v1 v2 v3 S = some res), am_G mX11_fillOffers (none, 7, 0, 0, none, (sx_w res r)) (0, 0) 2 [some (.ref 0), some (.int v1), some (.int v2), some (.int v3)] [] (sx_w S r) := by
  intro n
  induction n with
  | zero =>
    intro v1 v2 v3 S res hres
    cases hres
  | succ n ih =>
    intro v1 v2 v3 S res hres
    rw [fx_X11_fillOffers_2] at hres
    refine am_iload_n (pc' := 3) 3 dX11_fillOffers_2 rfl rfl rfl ?_
    refine am_aload_n (pc' := 4) 0 dX11_fillOffers_3 rfl rfl rfl ?_
    refine am_get (pc' := 7) (v := .ref 1) dX11_fillOffers_4 fl_X11_10 (sx_c0 S r) rfl rfl ?_
    refine am_get (pc' := 10) (v := .int (sx_now_viewers S)) dX11_fillOffers_7 fl_X11_120 (sx_c1 S r) rfl rfl ?_
    refine am_icmp_ge (pc' := 13) 51 dX11_fillOffers_10 rfl rfl (fun hc1 => ?_) (fun hc1 => ?_)
    · rw [if_pos hc1] at hres
      obtain rfl := Option.some.inj hres
      exact am_vret dX11_fillOffers_51 rfl rfl rfl
    · rw [if_neg hc1] at hres
      refine am_iload_n (pc' := 14) 1 dX11_fillOffers_13 rfl rfl rfl ?_
      refine am_iload_n (pc' := 15) 3 dX11_fillOffers_14 rfl rfl rfl ?_
      refine am_ishr (pc' := 16) dX11_fillOffers_15 rfl ?_
      refine am_iconst (pc' := 17) (v := 1) dX11_fillOffers_16 kc_1 rfl ?_
      refine am_iand (pc' := 18) dX11_fillOffers_17 rfl ?_
      refine am_if_ne (pc' := 21) 24 dX11_fillOffers_18 rfl rfl (fun hc2 => ?_) (fun hc2 => ?_)
      · rw [if_neg hc2] at hres
        refine am_aload_n (pc' := 25) 0 dX11_fillOffers_24 rfl rfl rfl ?_
        refine am_iload_n (pc' := 26) 3 dX11_fillOffers_25 rfl rfl rfl ?_
        refine am_iload_n (pc' := 27) 2 dX11_fillOffers_26 rfl rfl rfl ?_
        obtain ⟨q3, hq4, hres⟩ := am_let_s hres
        refine am_cV (pc' := 30) (st' := []) [] [.int v3, .int v2] dX11_fillOffers_27 cs_X11_161 (tx_X11_letCome r v3 v2 S _ hq4) rfl rfl rfl (sx_c0 S r) rfl rfl rfl rfl rfl ?_
        refine am_aload_n (pc' := 31) 0 dX11_fillOffers_30 rfl rfl rfl ?_
        refine am_get (pc' := 34) (v := .ref 44) dX11_fillOffers_31 fl_X11_91 (sx_c0 q3 r) rfl rfl ?_
        refine am_iload_n (pc' := 35) 3 dX11_fillOffers_34 rfl rfl rfl ?_
        refine am_aload_n (pc' := 36) 0 dX11_fillOffers_35 rfl rfl rfl ?_
        refine am_get (pc' := 39) (v := .ref 34) dX11_fillOffers_36 fl_X11_78 (sx_c0 q3 r) rfl rfl ?_
        obtain ⟨q5, hq6, hres⟩ := am_bd_s hres
        refine am_cV (pc' := 42) (st' := [.int q5.1, .int v3, .ref 44]) [.int v3, .ref 44] [] dX11_fillOffers_39 cs_X11_185 (tx_X10_offer r q3 _ hq6) rfl rfl rfl (sx_c34 q3 r) rfl rfl rfl rfl rfl ?_
        refine am_cS (pc' := 45) (st' := []) [] [.ref 44, .int v3, .int q5.1] dX11_fillOffers_42 cs_X11_143 (tx_set (f := (sx_offered q5.2)) (w1 := (sx_w (ux_offered q5.2 (am_up 8 (sx_offered q5.2) v3 q5.1)) r)) (sx_c44 q5.2 r) rfl v3 q5.1 (sx_p_offered q5.2 r _)) rfl rfl rfl rfl rfl rfl ?_
        refine am_iinc (pc' := 48) (ls' := [some (.ref 0), some (.int v1), some (.int v2), some (.int (v3 + (1 : Int32)))]) dX11_fillOffers_45 rfl (show v3 + Int32.ofInt 1 = (v3 + (1 : Int32)) from congrArg (fun z => v3 + z) kc_1) (Nat.le_of_ble_eq_true rfl) rfl rfl rfl ?_
        refine am_goto 2 dX11_fillOffers_48 rfl ?_
        exact ih _ _ _ _ _ hres
      · rw [if_pos hc2] at hres
        refine am_goto 45 dX11_fillOffers_21 rfl ?_
        refine am_iinc (pc' := 48) (ls' := [some (.ref 0), some (.int v1), some (.int v2), some (.int (v3 + (1 : Int32)))]) dX11_fillOffers_45 rfl (show v3 + Int32.ofInt 1 = (v3 + (1 : Int32)) from congrArg (fun z => v3 + z) kc_1) (Nat.le_of_ble_eq_true rfl) rfl rfl rfl ?_
        refine am_goto 2 dX11_fillOffers_48 rfl ?_
        exact ih _ _ _ _ _ hres

set_option maxRecDepth 100000 in
set_option maxHeartbeats 4000000 in
theorem tx_X11_fillOffers (r : am_W) (a1 : Int32) (a2 : Int32) (S : sx_T) (res : sx_T) (hres : fx_X11_fillOffers a1 a2 S = some res) : am_T mX11_fillOffers 7 0 0 [.ref 0, .int a1, .int a2] (sx_w S r) none (sx_w res r) := by
  refine am_meth (ls := [some (.ref 0), some (.int a1), some (.int a2), none]) (by decide +kernel) rfl (Nat.le_of_ble_eq_true rfl) (sx_len _ _ _) ?_
  rw [fx_X11_fillOffers] at hres
  refine am_iconst (pc' := 1) (v := 0) dX11_fillOffers_0 kc_0 rfl ?_
  refine am_istore_n (pc' := 2) (ls' := [some (.ref 0), some (.int a1), some (.int a2), some (.int (0 : Int32))]) 3 dX11_fillOffers_1 rfl (Nat.le_of_ble_eq_true rfl) rfl rfl rfl ?_
  exact wx_X11_fillOffers_2 r am_fu _ _ _ _ _ hres
set_option maxRecDepth 100000 in
set_option maxHeartbeats 4000000 in
theorem tx_X5_read (r : am_W) (a1 : Int32) (a2 : Int32) (S : sx_T) (res : Int32) (hres : fx_X5_read a1 a2 S = res) : am_T mX5_read 1 0 0 [.ref 30, .int a1, .int a2] (sx_w S r) (some (.int res)) (sx_w S r) := by
  refine am_meth (ls := [some (.ref 30), some (.int a1), some (.int a2)]) (by decide +kernel) rfl (Nat.le_of_ble_eq_true rfl) (sx_len _ _ _) ?_
  rw [fx_X5_read] at hres
  refine am_aload_n (pc' := 1) 0 dX5_read_0 rfl rfl rfl ?_
  refine am_get (pc' := 4) (v := .ref 31) dX5_read_1 fl_X5_9 (sx_c30 S r) rfl rfl ?_
  refine am_iload_n (pc' := 5) 1 dX5_read_4 rfl rfl rfl ?_
  refine am_bipush (pc' := 7) (v := 40) dX5_read_5 kb_40 rfl ?_
  refine am_imul (pc' := 8) dX5_read_7 rfl ?_
  refine am_iload_n (pc' := 9) 2 dX5_read_8 rfl rfl rfl ?_
  refine am_iadd (pc' := 10) dX5_read_9 rfl ?_
  refine am_cSN (pc' := 13) (st' := [.int (am_rd 160 (sx_sh_cells S) ((a1 * (40 : Int32)) + a2))]) [] [.ref 31, .int ((a1 * (40 : Int32)) + a2)] dX5_read_10 cs_X5_21 (tx_at (f := (sx_sh_cells S)) (sx_c31 S r) rfl ((a1 * (40 : Int32)) + a2)) rfl rfl rfl rfl rfl rfl ?_
  subst hres
  exact am_iret dX5_read_13 rfl rfl rfl
set_option maxRecDepth 100000 in
set_option maxHeartbeats 4000000 in
theorem wx_X5_tellsTour_4 (r : am_W) (S : sx_T) : ∀ (n : Nat) (v1 : Int32) (v2 : Int32) (v3 : Int32) (res : Int32) (hres : fx_X5_tellsTour_4 S n v1 v2 v3 = some res), am_G mX5_tellsTour (none, 2, 0, 0, (some (.int res)), (sx_w S r)) (0, 0) 4 [some (.ref 30), some (.int v1), some (.int v2), some (.int v3), none] [] (sx_w S r) := by
  intro n
  induction n with
  | zero =>
    intro v1 v2 v3 res hres
    cases hres
  | succ n ih =>
    intro v1 v2 v3 res hres
    rw [fx_X5_tellsTour_4] at hres
    refine am_iload_n (pc' := 5) 3 dX5_tellsTour_4 rfl rfl rfl ?_
    refine am_aload_n (pc' := 6) 0 dX5_tellsTour_5 rfl rfl rfl ?_
    refine am_iload_n (pc' := 7) 1 dX5_tellsTour_6 rfl rfl rfl ?_
    refine am_cV (pc' := 10) (st' := [.int (fx_X5_size v1 S), .int v3]) [.int v3] [.int v1] dX5_tellsTour_7 cs_X5_29 (tx_X5_size r v1 S _ rfl) rfl rfl rfl (sx_c30 S r) rfl rfl rfl rfl rfl ?_
    refine am_icmp_ge (pc' := 13) 55 dX5_tellsTour_10 rfl rfl (fun hc1 => ?_) (fun hc1 => ?_)
    · rw [if_pos hc1] at hres
      refine am_iconst (pc' := 56) (v := 1) dX5_tellsTour_55 kc_1 rfl ?_
      obtain rfl := Option.some.inj hres
      exact am_zret dX5_tellsTour_56 rfl rfl rfl rfl
    · rw [if_neg hc1] at hres
      refine am_aload_n (pc' := 14) 0 dX5_tellsTour_13 rfl rfl rfl ?_
      refine am_iload_n (pc' := 15) 1 dX5_tellsTour_14 rfl rfl rfl ?_
      refine am_iload_n (pc' := 16) 3 dX5_tellsTour_15 rfl rfl rfl ?_
      refine am_cV (pc' := 19) (st' := [.int (fx_X5_read v1 v3 S)]) [] [.int v1, .int v3] dX5_tellsTour_16 cs_X5_39 (tx_X5_read r v1 v3 S _ rfl) rfl rfl rfl (sx_c30 S r) rfl rfl rfl rfl rfl ?_
      refine am_istore (pc' := 21) (ls' := [some (.ref 30), some (.int v1), some (.int v2), some (.int v3), some (.int (fx_X5_read v1 v3 S))]) dX5_tellsTour_19 (Nat.le_of_ble_eq_true rfl) rfl rfl rfl ?_
      refine am_iload (pc' := 23) dX5_tellsTour_21 rfl rfl ?_
      refine am_bipush (pc' := 25) (v := 6) dX5_tellsTour_23 kb_6 rfl ?_
      refine am_cSN (pc' := 28) (st' := [.int (fx_X11_within (fx_X5_read v1 v3 S) (6 : Int32))]) [] [.int (fx_X5_read v1 v3 S), .int (6 : Int32)] dX5_tellsTour_25 cs_X5_43 (tx_X11_within (sx_w S r) (fx_X5_read v1 v3 S) (6 : Int32) _ rfl) rfl rfl rfl rfl rfl rfl ?_
      refine am_if_eq (pc' := 31) 40 dX5_tellsTour_28 rfl rfl (fun hc2 => ?_) (fun hc2 => ?_)
      · rw [if_pos hc2] at hres
        refine am_iconst (pc' := 41) (v := 0) dX5_tellsTour_40 kc_0 rfl ?_
        obtain rfl := Option.some.inj hres
        exact am_zret dX5_tellsTour_41 rfl rfl rfl rfl
      · rw [if_neg hc2] at hres
        refine am_iload_n (pc' := 32) 2 dX5_tellsTour_31 rfl rfl rfl ?_
        refine am_iload (pc' := 34) dX5_tellsTour_32 rfl rfl ?_
        refine am_ishr (pc' := 35) dX5_tellsTour_34 rfl ?_
        refine am_iconst (pc' := 36) (v := 1) dX5_tellsTour_35 kc_1 rfl ?_
        refine am_iand (pc' := 37) dX5_tellsTour_36 rfl ?_
        refine am_if_eq (pc' := 40) 42 dX5_tellsTour_37 rfl rfl (fun hc3 => ?_) (fun hc3 => ?_)
        · rw [if_pos hc3] at hres
          refine am_iload_n (pc' := 43) 2 dX5_tellsTour_42 rfl rfl rfl ?_
          refine am_iconst (pc' := 44) (v := 1) dX5_tellsTour_43 kc_1 rfl ?_
          refine am_iload (pc' := 46) dX5_tellsTour_44 rfl rfl ?_
          refine am_ishl (pc' := 47) dX5_tellsTour_46 rfl ?_
          refine am_ior (pc' := 48) dX5_tellsTour_47 rfl ?_
          refine am_istore_n (pc' := 49) (ls' := [some (.ref 30), some (.int v1), some (.int (v2 ||| ((1 : Int32) <<< ((fx_X5_read v1 v3 S) &&& 31)))), some (.int v3), some (.int (fx_X5_read v1 v3 S))]) 2 dX5_tellsTour_48 rfl (Nat.le_of_ble_eq_true rfl) rfl rfl rfl ?_
          refine am_iinc (pc' := 52) (ls' := [some (.ref 30), some (.int v1), some (.int (v2 ||| ((1 : Int32) <<< ((fx_X5_read v1 v3 S) &&& 31)))), some (.int (v3 + (1 : Int32))), some (.int (fx_X5_read v1 v3 S))]) dX5_tellsTour_49 rfl (show v3 + Int32.ofInt 1 = (v3 + (1 : Int32)) from congrArg (fun z => v3 + z) kc_1) (Nat.le_of_ble_eq_true rfl) rfl rfl rfl ?_
          refine am_goto 4 dX5_tellsTour_52 rfl ?_
          refine am_weak (ls' := [some (.ref 30), some (.int v1), some (.int (v2 ||| ((1 : Int32) <<< ((fx_X5_read v1 v3 S) &&& 31)))), some (.int (v3 + (1 : Int32))), none]) [false, false, false, false, true] rfl ?_
          exact ih _ _ _ _ hres
        · rw [if_neg hc3] at hres
          refine am_iconst (pc' := 41) (v := 0) dX5_tellsTour_40 kc_0 rfl ?_
          obtain rfl := Option.some.inj hres
          exact am_zret dX5_tellsTour_41 rfl rfl rfl rfl

set_option maxRecDepth 100000 in
set_option maxHeartbeats 4000000 in
theorem tx_X5_tellsTour (r : am_W) (a1 : Int32) (S : sx_T) (res : Int32) (hres : fx_X5_tellsTour a1 S = some res) : am_T mX5_tellsTour 2 0 0 [.ref 30, .int a1] (sx_w S r) (some (.int res)) (sx_w S r) := by
  refine am_meth (ls := [some (.ref 30), some (.int a1), none, none, none]) (by decide +kernel) rfl (Nat.le_of_ble_eq_true rfl) (sx_len _ _ _) ?_
  rw [fx_X5_tellsTour] at hres
  refine am_iconst (pc' := 1) (v := 0) dX5_tellsTour_0 kc_0 rfl ?_
  refine am_istore_n (pc' := 2) (ls' := [some (.ref 30), some (.int a1), some (.int (0 : Int32)), none, none]) 2 dX5_tellsTour_1 rfl (Nat.le_of_ble_eq_true rfl) rfl rfl rfl ?_
  refine am_iconst (pc' := 3) (v := 0) dX5_tellsTour_2 kc_0 rfl ?_
  refine am_istore_n (pc' := 4) (ls' := [some (.ref 30), some (.int a1), some (.int (0 : Int32)), some (.int (0 : Int32)), none]) 3 dX5_tellsTour_3 rfl (Nat.le_of_ble_eq_true rfl) rfl rfl rfl ?_
  exact wx_X5_tellsTour_4 r S am_fu _ _ _ _ hres
