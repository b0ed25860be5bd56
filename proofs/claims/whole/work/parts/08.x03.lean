set_option maxRecDepth 100000 in
set_option maxHeartbeats 4000000 in
theorem wx_X11_startTour_53 (r : am_W) : ∀ (n : Nat) (v1 : Int32) (v2 : Int32) (S : sx_T) (res : Int32 × sx_T) (hres : fx_X11_startTour_53 n v1 v2 S = some res), am_G mX11_startTour (none, 3, 0, 0, (some (.int res.1)), (sx_w res.2 r)) (0, 0) 53 [some (.ref 0), some (.int v1), some (.int v2)] [] (sx_w S r) := by
  intro n
  induction n with
  | zero =>
    intro v1 v2 S res hres
    cases hres
  | succ n ih =>
    intro v1 v2 S res hres
    rw [fx_X11_startTour_53] at hres
    refine am_iload_n (pc' := 54) 2 dX11_startTour_53 rfl rfl rfl ?_
    refine am_aload_n (pc' := 55) 0 dX11_startTour_54 rfl rfl rfl ?_
    refine am_get (pc' := 58) (v := .int (sx_wayLength S)) dX11_startTour_55 fl_X11_188 (sx_c0 S r) rfl rfl ?_
    refine am_icmp_ge (pc' := 61) 84 dX11_startTour_58 rfl rfl (fun hc6 => ?_) (fun hc6 => ?_)
    · rw [if_pos hc6] at hres
      refine am_aload_n (pc' := 85) 0 dX11_startTour_84 rfl rfl rfl ?_
      refine am_get (pc' := 88) (v := .ref 34) dX11_startTour_85 fl_X11_78 (sx_c0 S r) rfl rfl ?_
      refine am_aload_n (pc' := 89) 0 dX11_startTour_88 rfl rfl rfl ?_
      refine am_get (pc' := 92) (v := .ref 1) dX11_startTour_89 fl_X11_10 (sx_c0 S r) rfl rfl ?_
      obtain ⟨q7, hq8, hres⟩ := am_bd_s hres
      refine am_cV (pc' := 95) (st' := []) [] [.ref 1] dX11_startTour_92 cs_X11_157 (tx_X10_suppose_r1 r S _ hq8) rfl rfl rfl (sx_c34 S r) rfl rfl rfl rfl rfl ?_
      refine am_aload_n (pc' := 96) 0 dX11_startTour_95 rfl rfl rfl ?_
      refine am_get (pc' := 99) (v := .ref 34) dX11_startTour_96 fl_X11_78 (sx_c0 q7 r) rfl rfl ?_
      refine am_aload_n (pc' := 100) 0 dX11_startTour_99 rfl rfl rfl ?_
      refine am_get (pc' := 103) (v := .ref 42) dX11_startTour_100 fl_X11_85 (sx_c0 q7 r) rfl rfl ?_
      refine am_aload_n (pc' := 104) 0 dX11_startTour_103 rfl rfl rfl ?_
      refine am_get (pc' := 107) (v := .int (sx_wayLength q7)) dX11_startTour_104 fl_X11_188 (sx_c0 q7 r) rfl rfl ?_
      refine am_iconst (pc' := 108) (v := (-1)) dX11_startTour_107 kc_m1 rfl ?_
      obtain ⟨q9, hq10, hres⟩ := am_bd_s hres
      refine am_cV (pc' := 111) (st' := []) [] [.ref 42, .int (sx_wayLength q7), .int (-1 : Int32)] dX11_startTour_108 cs_X11_230 (tx_X10_walk_r42 r (sx_wayLength q7) (-1 : Int32) q7 _ hq10) rfl rfl rfl (sx_c34 q7 r) rfl rfl rfl rfl rfl ?_
      refine am_iconst (pc' := 112) (v := 0) dX11_startTour_111 kc_0 rfl ?_
      obtain rfl := Option.some.inj hres
      exact am_iret dX11_startTour_112 rfl rfl rfl
    · rw [if_neg hc6] at hres
      refine am_aload_n (pc' := 62) 0 dX11_startTour_61 rfl rfl rfl ?_
      refine am_get (pc' := 65) (v := .ref 42) dX11_startTour_62 fl_X11_85 (sx_c0 S r) rfl rfl ?_
      refine am_iload_n (pc' := 66) 2 dX11_startTour_65 rfl rfl rfl ?_
      refine am_aload_n (pc' := 67) 0 dX11_startTour_66 rfl rfl rfl ?_
      refine am_get (pc' := 70) (v := .ref 30) dX11_startTour_67 fl_X11_71 (sx_c0 S r) rfl rfl ?_
      refine am_iload_n (pc' := 71) 1 dX11_startTour_70 rfl rfl rfl ?_
      refine am_iload_n (pc' := 72) 2 dX11_startTour_71 rfl rfl rfl ?_
      refine am_cV (pc' := 75) (st' := [.int (fx_X5_read v1 v2 S), .int v2, .ref 42]) [.int v2, .ref 42] [.int v1, .int v2] dX11_startTour_72 cs_X11_279 (tx_X5_read r v1 v2 S _ rfl) rfl rfl rfl (sx_c30 S r) rfl rfl rfl rfl rfl ?_
      refine am_cS (pc' := 78) (st' := []) [] [.ref 42, .int v2, .int (fx_X5_read v1 v2 S)] dX11_startTour_75 cs_X11_143 (tx_set (f := (sx_way S)) (w1 := (sx_w (ux_way S (am_up 6 (sx_way S) v2 (fx_X5_read v1 v2 S))) r)) (sx_c42 S r) rfl v2 (fx_X5_read v1 v2 S) (sx_p_way S r _)) rfl rfl rfl rfl rfl rfl ?_
      refine am_iinc (pc' := 81) (ls' := [some (.ref 0), some (.int v1), some (.int (v2 + (1 : Int32)))]) dX11_startTour_78 rfl (show v2 + Int32.ofInt 1 = (v2 + (1 : Int32)) from congrArg (fun z => v2 + z) kc_1) (Nat.le_of_ble_eq_true rfl) rfl rfl rfl ?_
      refine am_goto 53 dX11_startTour_81 rfl ?_
      exact ih _ _ _ _ hres

set_option maxRecDepth 100000 in
set_option maxHeartbeats 4000000 in
theorem tx_X11_startTour (r : am_W) (a1 : Int32) (S : sx_T) (res : Int32 × sx_T) (hres : fx_X11_startTour a1 S = some res) : am_T mX11_startTour 3 0 0 [.ref 0, .int a1] (sx_w S r) (some (.int res.1)) (sx_w res.2 r) := by
  refine am_meth (ls := [some (.ref 0), some (.int a1), none]) (by decide +kernel) rfl (Nat.le_of_ble_eq_true rfl) (sx_len _ _ _) ?_
  rw [fx_X11_startTour] at hres
  refine am_iload_n (pc' := 1) 1 dX11_startTour_0 rfl rfl rfl ?_
  refine am_iconst (pc' := 2) (v := 4) dX11_startTour_1 kc_4 rfl ?_
  refine am_cS (pc' := 5) (st' := [.int (fx_X11_within a1 (4 : Int32))]) [] [.int a1, .int (4 : Int32)] dX11_startTour_2 cs_X11_129 (tx_X11_within (sx_w S r) a1 (4 : Int32) _ rfl) rfl rfl rfl rfl rfl rfl ?_
  refine am_if_ne (pc' := 8) 11 dX11_startTour_5 rfl rfl (fun hc1 => ?_) (fun hc1 => ?_)
  · rw [if_neg hc1] at hres
    refine am_aload_n (pc' := 12) 0 dX11_startTour_11 rfl rfl rfl ?_
    refine am_get (pc' := 15) (v := .ref 30) dX11_startTour_12 fl_X11_71 (sx_c0 S r) rfl rfl ?_
    refine am_iload_n (pc' := 16) 1 dX11_startTour_15 rfl rfl rfl ?_
    refine am_cV (pc' := 19) (st' := [.int (fx_X5_isMissing a1 S)]) [] [.int a1] dX11_startTour_16 cs_X11_292 (tx_X5_isMissing r a1 S _ rfl) rfl rfl rfl (sx_c30 S r) rfl rfl rfl rfl rfl ?_
    refine am_if_eq (pc' := 22) 25 dX11_startTour_19 rfl rfl (fun hc2 => ?_) (fun hc2 => ?_)
    · rw [if_pos hc2] at hres
      refine am_aload_n (pc' := 26) 0 dX11_startTour_25 rfl rfl rfl ?_
      refine am_get (pc' := 29) (v := .ref 30) dX11_startTour_26 fl_X11_71 (sx_c0 S r) rfl rfl ?_
      refine am_iload_n (pc' := 30) 1 dX11_startTour_29 rfl rfl rfl ?_
      obtain ⟨q3, hq4, hres⟩ := am_bd_s hres
      refine am_cV (pc' := 33) (st' := [.int q3]) [] [.int a1] dX11_startTour_30 cs_X11_315 (tx_X5_tellsTour r a1 S _ hq4) rfl rfl rfl (sx_c30 S r) rfl rfl rfl rfl rfl ?_
      refine am_if_ne (pc' := 36) 39 dX11_startTour_33 rfl rfl (fun hc5 => ?_) (fun hc5 => ?_)
      · rw [if_neg hc5] at hres
        refine am_aload_n (pc' := 40) 0 dX11_startTour_39 rfl rfl rfl ?_
        refine am_aload_n (pc' := 41) 0 dX11_startTour_40 rfl rfl rfl ?_
        refine am_get (pc' := 44) (v := .ref 30) dX11_startTour_41 fl_X11_71 (sx_c0 S r) rfl rfl ?_
        refine am_iload_n (pc' := 45) 1 dX11_startTour_44 rfl rfl rfl ?_
        refine am_cV (pc' := 48) (st' := [.int (fx_X5_size a1 S), .ref 0]) [.ref 0] [.int a1] dX11_startTour_45 cs_X11_295 (tx_X5_size r a1 S _ rfl) rfl rfl rfl (sx_c30 S r) rfl rfl rfl rfl rfl ?_
        refine am_put (pc' := 51) (ws' := (sx_w (ux_wayLength S (fx_X5_size a1 S)) r)) (v := .int (fx_X5_size a1 S)) dX11_startTour_48 fp_X11_188 (sx_c0 S r) (fun _ => ⟨rfl, rfl⟩) (Nat.le_of_ble_eq_true rfl) (sx_p_wayLength S r _) rfl ?_
        refine am_iconst (pc' := 52) (v := 0) dX11_startTour_51 kc_0 rfl ?_
        refine am_istore_n (pc' := 53) (ls' := [some (.ref 0), some (.int a1), some (.int (0 : Int32))]) 2 dX11_startTour_52 rfl (Nat.le_of_ble_eq_true rfl) rfl rfl rfl ?_
        exact wx_X11_startTour_53 r am_fu _ _ _ _ hres
      · rw [if_pos hc5] at hres
        refine am_bipush (pc' := 38) (v := (-2)) dX11_startTour_36 kb_m2 rfl ?_
        obtain rfl := Option.some.inj hres
        exact am_iret dX11_startTour_38 rfl rfl rfl
    · rw [if_neg hc2] at hres
      refine am_bipush (pc' := 24) (v := (-11)) dX11_startTour_22 kb_m11 rfl ?_
      obtain rfl := Option.some.inj hres
      exact am_iret dX11_startTour_24 rfl rfl rfl
  · rw [if_pos hc1] at hres
    refine am_bipush (pc' := 10) (v := (-2)) dX11_startTour_8 kb_m2 rfl ?_
    obtain rfl := Option.some.inj hres
    exact am_iret dX11_startTour_10 rfl rfl rfl
set_option maxRecDepth 100000 in
set_option maxHeartbeats 4000000 in
theorem wx_X5_lay_21 (r : am_W) : ∀ (n : Nat) (v1 : Int32) (v3 : Int32) (v4 : Int32) (S : sx_T) (res : sx_T) (hres : fx_X5_lay_21 n v1 v3 v4 S = some res), am_G mX5_lay (none, 1, 0, 0, none, (sx_w res r)) (0, 0) 21 [some (.ref 30), some (.int v1), none, some (.int v3), some (.int v4)] [] (sx_w S r) := by
  intro n
  induction n with
  | zero =>
    intro v1 v3 v4 S res hres
    cases hres
  | succ n ih =>
    intro v1 v3 v4 S res hres
    rw [fx_X5_lay_21] at hres
    refine am_iload (pc' := 23) dX5_lay_21 rfl rfl ?_
    refine am_iload_n (pc' := 24) 3 dX5_lay_23 rfl rfl rfl ?_
    refine am_icmp_ge (pc' := 27) 48 dX5_lay_24 rfl rfl (fun hc1 => ?_) (fun hc1 => ?_)
    · rw [if_pos hc1] at hres
      obtain rfl := Option.some.inj hres
      exact am_vret dX5_lay_48 rfl rfl rfl
    · rw [if_neg hc1] at hres
      refine am_aload_n (pc' := 28) 0 dX5_lay_27 rfl rfl rfl ?_
      refine am_get (pc' := 31) (v := .ref 31) dX5_lay_28 fl_X5_9 (sx_c30 S r) rfl rfl ?_
      refine am_iload_n (pc' := 32) 1 dX5_lay_31 rfl rfl rfl ?_
      refine am_bipush (pc' := 34) (v := 40) dX5_lay_32 kb_40 rfl ?_
      refine am_imul (pc' := 35) dX5_lay_34 rfl ?_
      refine am_iload (pc' := 37) dX5_lay_35 rfl rfl ?_
      refine am_iadd (pc' := 38) dX5_lay_37 rfl ?_
      refine am_iconst (pc' := 39) (v := 0) dX5_lay_38 kc_0 rfl ?_
      refine am_cSN (pc' := 42) (st' := []) [] [.ref 31, .int ((v1 * (40 : Int32)) + v4), .int (0 : Int32)] dX5_lay_39 cs_X5_25 (tx_set (f := (sx_sh_cells S)) (w1 := (sx_w (ux_sh_cells S (am_up 160 (sx_sh_cells S) ((v1 * (40 : Int32)) + v4) (0 : Int32))) r)) (sx_c31 S r) rfl ((v1 * (40 : Int32)) + v4) (0 : Int32) (sx_p_sh_cells S r _)) rfl rfl rfl rfl rfl rfl ?_
      refine am_iinc (pc' := 45) (ls' := [some (.ref 30), some (.int v1), none, some (.int v3), some (.int (v4 + (1 : Int32)))]) dX5_lay_42 rfl (show v4 + Int32.ofInt 1 = (v4 + (1 : Int32)) from congrArg (fun z => v4 + z) kc_1) (Nat.le_of_ble_eq_true rfl) rfl rfl rfl ?_
      refine am_goto 21 dX5_lay_45 rfl ?_
      exact ih _ _ _ _ _ hres

set_option maxRecDepth 100000 in
set_option maxHeartbeats 4000000 in
theorem tx_X5_lay (r : am_W) (a1 : Int32) (a2 : Int32) (a3 : Int32) (S : sx_T) (res : sx_T) (hres : fx_X5_lay a1 a2 a3 S = some res) : am_T mX5_lay 1 0 0 [.ref 30, .int a1, .int a2, .int a3] (sx_w S r) none (sx_w res r) := by
  refine am_meth (ls := [some (.ref 30), some (.int a1), some (.int a2), some (.int a3), none]) (by decide +kernel) rfl (Nat.le_of_ble_eq_true rfl) (sx_len _ _ _) ?_
  rw [fx_X5_lay] at hres
  refine am_aload_n (pc' := 1) 0 dX5_lay_0 rfl rfl rfl ?_
  refine am_get (pc' := 4) (v := .ref 32) dX5_lay_1 fl_X5_15 (sx_c30 S r) rfl rfl ?_
  refine am_iload_n (pc' := 5) 1 dX5_lay_4 rfl rfl rfl ?_
  refine am_iload_n (pc' := 6) 2 dX5_lay_5 rfl rfl rfl ?_
  refine am_cSN (pc' := 9) (st' := []) [] [.ref 32, .int a1, .int a2] dX5_lay_6 cs_X5_25 (tx_set (f := (sx_sh_sorts S)) (w1 := (sx_w (ux_sh_sorts S (am_up 4 (sx_sh_sorts S) a1 a2)) r)) (sx_c32 S r) rfl a1 a2 (sx_p_sh_sorts S r _)) rfl rfl rfl rfl rfl rfl ?_
  refine am_aload_n (pc' := 10) 0 dX5_lay_9 rfl rfl rfl ?_
  refine am_get (pc' := 13) (v := .ref 33) dX5_lay_10 fl_X5_18 (sx_c30 (ux_sh_sorts S (am_up 4 (sx_sh_sorts S) a1 a2)) r) rfl rfl ?_
  refine am_iload_n (pc' := 14) 1 dX5_lay_13 rfl rfl rfl ?_
  refine am_iload_n (pc' := 15) 3 dX5_lay_14 rfl rfl rfl ?_
  refine am_cSN (pc' := 18) (st' := []) [] [.ref 33, .int a1, .int a3] dX5_lay_15 cs_X5_25 (tx_set (f := (sx_sh_sizes S)) (w1 := (sx_w (ux_sh_sizes (ux_sh_sorts S (am_up 4 (sx_sh_sorts S) a1 a2)) (am_up 4 (sx_sh_sizes S) a1 a3)) r)) (sx_c33 (ux_sh_sorts S (am_up 4 (sx_sh_sorts S) a1 a2)) r) rfl a1 a3 (sx_p_sh_sizes (ux_sh_sorts S (am_up 4 (sx_sh_sorts S) a1 a2)) r _)) rfl rfl rfl rfl rfl rfl ?_
  refine am_iconst (pc' := 19) (v := 0) dX5_lay_18 kc_0 rfl ?_
  refine am_istore (pc' := 21) (ls' := [some (.ref 30), some (.int a1), some (.int a2), some (.int a3), some (.int (0 : Int32))]) dX5_lay_19 (Nat.le_of_ble_eq_true rfl) rfl rfl rfl ?_
  refine am_weak (ls' := [some (.ref 30), some (.int a1), none, some (.int a3), some (.int (0 : Int32))]) [false, false, true, false, false] rfl ?_
  exact wx_X5_lay_21 r am_fu _ _ _ _ _ hres
set_option maxRecDepth 100000 in
set_option maxHeartbeats 4000000 in
theorem wx_X11_film_70 (r : am_W) : ∀ (n : Nat) (v2 : Int32) (v5 : Int32) (S : sx_T) (res : Int32 × sx_T) (hres : fx_X11_film_70 n v2 v5 S = some res), am_G mX11_film (none, 7, 0, 0, (some (.int res.1)), (sx_w res.2 r)) (0, 0) 70 [some (.ref 0), none, some (.int v2), none, none, some (.int v5)] [] (sx_w S r) := by
  intro n
  induction n with
  | zero =>
    intro v2 v5 S res hres
    cases hres
  | succ n ih =>
    intro v2 v5 S res hres
    rw [fx_X11_film_70] at hres
    refine am_iload (pc' := 72) dX11_film_70 rfl rfl ?_
    refine am_bipush (pc' := 74) (v := 12) dX11_film_72 kb_12 rfl ?_
    refine am_icmp_ge (pc' := 77) 109 dX11_film_74 rfl rfl (fun hc12 => ?_) (fun hc12 => ?_)
    · rw [if_pos hc12] at hres
      refine am_aload_n (pc' := 110) 0 dX11_film_109 rfl rfl rfl ?_
      refine am_get (pc' := 113) (v := .ref 30) dX11_film_110 fl_X11_71 (sx_c0 S r) rfl rfl ?_
      refine am_iload_n (pc' := 114) 2 dX11_film_113 rfl rfl rfl ?_
      refine am_aload_n (pc' := 115) 0 dX11_film_114 rfl rfl rfl ?_
      refine am_get (pc' := 118) (v := .ref 1) dX11_film_115 fl_X11_10 (sx_c0 S r) rfl rfl ?_
      refine am_get (pc' := 121) (v := .int (sx_now_hour S)) dX11_film_118 fl_X11_123 (sx_c1 S r) rfl rfl ?_
      refine am_cV (pc' := 124) (st' := [.int (fx_X5_read v2 (sx_now_hour S) S)]) [] [.int v2, .int (sx_now_hour S)] dX11_film_121 cs_X11_279 (tx_X5_read r v2 (sx_now_hour S) S _ rfl) rfl rfl rfl (sx_c30 S r) rfl rfl rfl rfl rfl ?_
      obtain rfl := Option.some.inj hres
      exact am_iret dX11_film_124 rfl rfl rfl
    · rw [if_neg hc12] at hres
      refine am_aload_n (pc' := 78) 0 dX11_film_77 rfl rfl rfl ?_
      refine am_get (pc' := 81) (v := .ref 34) dX11_film_78 fl_X11_78 (sx_c0 S r) rfl rfl ?_
      refine am_iload (pc' := 83) dX11_film_81 rfl rfl ?_
      obtain ⟨q13, hq14, hres⟩ := am_let_s hres
      refine am_cV (pc' := 86) (st' := []) [] [.int v5] dX11_film_83 cs_X11_227 (tx_X10_setHour r v5 S _ hq14) rfl rfl rfl (sx_c34 S r) rfl rfl rfl rfl rfl ?_
      refine am_aload_n (pc' := 87) 0 dX11_film_86 rfl rfl rfl ?_
      refine am_get (pc' := 90) (v := .ref 30) dX11_film_87 fl_X11_71 (sx_c0 q13 r) rfl rfl ?_
      refine am_iload_n (pc' := 91) 2 dX11_film_90 rfl rfl rfl ?_
      refine am_iload (pc' := 93) dX11_film_91 rfl rfl ?_
      refine am_aload_n (pc' := 94) 0 dX11_film_93 rfl rfl rfl ?_
      refine am_get (pc' := 97) (v := .ref 34) dX11_film_94 fl_X11_78 (sx_c0 q13 r) rfl rfl ?_
      obtain ⟨q15, hq16, hres⟩ := am_bd_s hres
      refine am_cV (pc' := 100) (st' := [.int q15.1, .int v5, .int v2, .ref 30]) [.int v5, .int v2, .ref 30] [] dX11_film_97 cs_X11_185 (tx_X10_offer r q13 _ hq16) rfl rfl rfl (sx_c34 q13 r) rfl rfl rfl rfl rfl ?_
      obtain ⟨q17, hq18, hres⟩ := am_let_s hres
      refine am_cV (pc' := 103) (st' := []) [] [.int v2, .int v5, .int q15.1] dX11_film_100 cs_X11_276 (tx_X5_write r v2 v5 q15.1 q15.2 _ hq18) rfl rfl rfl (sx_c30 q15.2 r) rfl rfl rfl rfl rfl ?_
      refine am_iinc (pc' := 106) (ls' := [some (.ref 0), none, some (.int v2), none, none, some (.int (v5 + (1 : Int32)))]) dX11_film_103 rfl (show v5 + Int32.ofInt 1 = (v5 + (1 : Int32)) from congrArg (fun z => v5 + z) kc_1) (Nat.le_of_ble_eq_true rfl) rfl rfl rfl ?_
      refine am_goto 70 dX11_film_106 rfl ?_
      exact ih _ _ _ _ hres

set_option maxRecDepth 100000 in
set_option maxHeartbeats 4000000 in
theorem tx_X11_film (r : am_W) (a1 : Int32) (a2 : Int32) (a3 : Int32) (S : sx_T) (res : Int32 × sx_T) (hres : fx_X11_film a1 a2 a3 S = some res) : am_T mX11_film 7 0 0 [.ref 0, .int a1, .int a2, .int a3] (sx_w S r) (some (.int res.1)) (sx_w res.2 r) := by
  refine am_meth (ls := [some (.ref 0), some (.int a1), some (.int a2), some (.int a3), none, none]) (by decide +kernel) rfl (Nat.le_of_ble_eq_true rfl) (sx_len _ _ _) ?_
  rw [fx_X11_film] at hres
  refine am_iload_n (pc' := 1) 1 dX11_film_0 rfl rfl rfl ?_
  refine am_iconst (pc' := 2) (v := 4) dX11_film_1 kc_4 rfl ?_
  refine am_cS (pc' := 5) (st' := [.int (fx_X11_within a1 (4 : Int32))]) [] [.int a1, .int (4 : Int32)] dX11_film_2 cs_X11_129 (tx_X11_within (sx_w S r) a1 (4 : Int32) _ rfl) rfl rfl rfl rfl rfl rfl ?_
  refine am_if_eq (pc' := 8) 21 dX11_film_5 rfl rfl (fun hc1 => ?_) (fun hc1 => ?_)
  · rw [if_pos hc1] at hres
    refine am_bipush (pc' := 23) (v := (-2)) dX11_film_21 kb_m2 rfl ?_
    obtain rfl := Option.some.inj hres
    exact am_iret dX11_film_23 rfl rfl rfl
  · rw [if_neg hc1] at hres
    refine am_iload_n (pc' := 9) 2 dX11_film_8 rfl rfl rfl ?_
    refine am_iconst (pc' := 10) (v := 4) dX11_film_9 kc_4 rfl ?_
    refine am_cS (pc' := 13) (st' := [.int (fx_X11_within a2 (4 : Int32))]) [] [.int a2, .int (4 : Int32)] dX11_film_10 cs_X11_129 (tx_X11_within (sx_w S r) a2 (4 : Int32) _ rfl) rfl rfl rfl rfl rfl rfl ?_
    refine am_if_eq (pc' := 16) 21 dX11_film_13 rfl rfl (fun hc2 => ?_) (fun hc2 => ?_)
    · rw [if_pos hc2] at hres
      refine am_bipush (pc' := 23) (v := (-2)) dX11_film_21 kb_m2 rfl ?_
      obtain rfl := Option.some.inj hres
      exact am_iret dX11_film_23 rfl rfl rfl
    · rw [if_neg hc2] at hres
      refine am_iload_n (pc' := 17) 1 dX11_film_16 rfl rfl rfl ?_
      refine am_iload_n (pc' := 18) 2 dX11_film_17 rfl rfl rfl ?_
      refine am_icmp_ne (pc' := 21) 24 dX11_film_18 rfl rfl (fun hc3 => ?_) (fun hc3 => ?_)
      · rw [if_neg hc3] at hres
        refine am_aload_n (pc' := 25) 0 dX11_film_24 rfl rfl rfl ?_
        refine am_iload_n (pc' := 26) 1 dX11_film_25 rfl rfl rfl ?_
        obtain ⟨q4, hq5, hres⟩ := am_bd_s hres
        refine am_cV (pc' := 29) (st' := [.int q4.1]) [] [.int a1] dX11_film_26 cs_X11_176 (tx_X11_startTour r a1 S _ hq5) rfl rfl rfl (sx_c0 S r) rfl rfl rfl rfl rfl ?_
        refine am_istore (pc' := 31) (ls' := [some (.ref 0), some (.int a1), some (.int a2), some (.int a3), some (.int q4.1), none]) dX11_film_29 (Nat.le_of_ble_eq_true rfl) rfl rfl rfl ?_
        refine am_iload (pc' := 33) dX11_film_31 rfl rfl ?_
        refine am_if_eq (pc' := 36) 39 dX11_film_33 rfl rfl (fun hc6 => ?_) (fun hc6 => ?_)
        · rw [if_pos hc6] at hres
          refine am_aload_n (pc' := 40) 0 dX11_film_39 rfl rfl rfl ?_
          refine am_iload_n (pc' := 41) 3 dX11_film_40 rfl rfl rfl ?_
          refine am_cV (pc' := 44) (st' := [.int (fx_X11_isViewer a3 q4.2)]) [] [.int a3] dX11_film_41 cs_X11_151 (tx_X11_isViewer r a3 q4.2 _ rfl) rfl rfl rfl (sx_c0 q4.2 r) rfl rfl rfl rfl rfl ?_
          refine am_if_ne (pc' := 47) 50 dX11_film_44 rfl rfl (fun hc7 => ?_) (fun hc7 => ?_)
          · rw [if_neg hc7] at hres
            refine am_aload_n (pc' := 51) 0 dX11_film_50 rfl rfl rfl ?_
            refine am_iload_n (pc' := 52) 3 dX11_film_51 rfl rfl rfl ?_
            refine am_iconst (pc' := 53) (v := 1) dX11_film_52 kc_1 rfl ?_
            obtain ⟨q8, hq9, hres⟩ := am_let_s hres
            refine am_cV (pc' := 56) (st' := []) [] [.int a3, .int (1 : Int32)] dX11_film_53 cs_X11_161 (tx_X11_letCome r a3 (1 : Int32) q4.2 _ hq9) rfl rfl rfl (sx_c0 q4.2 r) rfl rfl rfl rfl rfl ?_
            refine am_aload_n (pc' := 57) 0 dX11_film_56 rfl rfl rfl ?_
            refine am_get (pc' := 60) (v := .ref 30) dX11_film_57 fl_X11_71 (sx_c0 q8 r) rfl rfl ?_
            refine am_iload_n (pc' := 61) 2 dX11_film_60 rfl rfl rfl ?_
            refine am_iconst (pc' := 62) (v := 2) dX11_film_61 kc_2 rfl ?_
            refine am_bipush (pc' := 64) (v := 12) dX11_film_62 kb_12 rfl ?_
            obtain ⟨q10, hq11, hres⟩ := am_bd_s hres
            refine am_cV (pc' := 67) (st' := []) [] [.int a2, .int (2 : Int32), .int (12 : Int32)] dX11_film_64 cs_X11_272 (tx_X5_lay r a2 (2 : Int32) (12 : Int32) q8 _ hq11) rfl rfl rfl (sx_c30 q8 r) rfl rfl rfl rfl rfl ?_
            refine am_iconst (pc' := 68) (v := 0) dX11_film_67 kc_0 rfl ?_
            refine am_istore (pc' := 70) (ls' := [some (.ref 0), some (.int a1), some (.int a2), some (.int a3), some (.int q4.1), some (.int (0 : Int32))]) dX11_film_68 (Nat.le_of_ble_eq_true rfl) rfl rfl rfl ?_
            refine am_weak (ls' := [some (.ref 0), none, some (.int a2), none, none, some (.int (0 : Int32))]) [false, true, false, true, true, false] rfl ?_
            exact wx_X11_film_70 r am_fu _ _ _ _ hres
          · rw [if_pos hc7] at hres
            refine am_bipush (pc' := 49) (v := (-5)) dX11_film_47 kb_m5 rfl ?_
            obtain rfl := Option.some.inj hres
            exact am_iret dX11_film_49 rfl rfl rfl
        · rw [if_neg hc6] at hres
          refine am_iload (pc' := 38) dX11_film_36 rfl rfl ?_
          obtain rfl := Option.some.inj hres
          exact am_iret dX11_film_38 rfl rfl rfl
      · rw [if_pos hc3] at hres
        refine am_bipush (pc' := 23) (v := (-2)) dX11_film_21 kb_m2 rfl ?_
        obtain rfl := Option.some.inj hres
        exact am_iret dX11_film_23 rfl rfl rfl
set_option maxRecDepth 100000 in
set_option maxHeartbeats 4000000 in
theorem wx_X11_firstOfMost_4 (r : am_W) (S : sx_T) : ∀ (n : Nat) (v1 : Int32) (v2 : Int32) (v3 : Int32) (res : Int32) (hres : fx_X11_firstOfMost_4 S n v1 v2 v3 = some res), am_G mX11_firstOfMost (none, 1, 0, 0, (some (.int res)), (sx_w S r)) (0, 0) 4 [some (.ref 0), some (.int v1), some (.int v2), some (.int v3)] [] (sx_w S r) := by
  intro n
  induction n with
  | zero =>
    intro v1 v2 v3 res hres
    cases hres
  | succ n ih =>
    intro v1 v2 v3 res hres
    rw [fx_X11_firstOfMost_4] at hres
    refine am_iload_n (pc' := 5) 3 dX11_firstOfMost_4 rfl rfl rfl ?_
    refine am_aload_n (pc' := 6) 0 dX11_firstOfMost_5 rfl rfl rfl ?_
    refine am_get (pc' := 9) (v := .ref 1) dX11_firstOfMost_6 fl_X11_10 (sx_c0 S r) rfl rfl ?_
    refine am_get (pc' := 12) (v := .int (sx_now_viewers S)) dX11_firstOfMost_9 fl_X11_120 (sx_c1 S r) rfl rfl ?_
    refine am_icmp_ge (pc' := 15) 58 dX11_firstOfMost_12 rfl rfl (fun hc1 => ?_) (fun hc1 => ?_)
    · rw [if_pos hc1] at hres
      refine am_iload_n (pc' := 59) 2 dX11_firstOfMost_58 rfl rfl rfl ?_
      obtain rfl := Option.some.inj hres
      exact am_iret dX11_firstOfMost_59 rfl rfl rfl
    · rw [if_neg hc1] at hres
      refine am_iload_n (pc' := 16) 1 dX11_firstOfMost_15 rfl rfl rfl ?_
      refine am_iload_n (pc' := 17) 3 dX11_firstOfMost_16 rfl rfl rfl ?_
      refine am_ishr (pc' := 18) dX11_firstOfMost_17 rfl ?_
      refine am_iconst (pc' := 19) (v := 1) dX11_firstOfMost_18 kc_1 rfl ?_
      refine am_iand (pc' := 20) dX11_firstOfMost_19 rfl ?_
      refine am_if_ne (pc' := 23) 26 dX11_firstOfMost_20 rfl rfl (fun hc2 => ?_) (fun hc2 => ?_)
      · rw [if_neg hc2] at hres
        refine am_iload_n (pc' := 27) 2 dX11_firstOfMost_26 rfl rfl rfl ?_
        refine am_iconst (pc' := 28) (v := (-1)) dX11_firstOfMost_27 kc_m1 rfl ?_
        refine am_icmp_eq (pc' := 31) 50 dX11_firstOfMost_28 rfl rfl (fun hc3 => ?_) (fun hc3 => ?_)
        · rw [if_pos hc3] at hres
          refine am_iload_n (pc' := 51) 3 dX11_firstOfMost_50 rfl rfl rfl ?_
          refine am_istore_n (pc' := 52) (ls' := [some (.ref 0), some (.int v1), some (.int v3), some (.int v3)]) 2 dX11_firstOfMost_51 rfl (Nat.le_of_ble_eq_true rfl) rfl rfl rfl ?_
          refine am_iinc (pc' := 55) (ls' := [some (.ref 0), some (.int v1), some (.int v3), some (.int (v3 + (1 : Int32)))]) dX11_firstOfMost_52 rfl (show v3 + Int32.ofInt 1 = (v3 + (1 : Int32)) from congrArg (fun z => v3 + z) kc_1) (Nat.le_of_ble_eq_true rfl) rfl rfl rfl ?_
          refine am_goto 4 dX11_firstOfMost_55 rfl ?_
          exact ih _ _ _ _ hres
        · rw [if_neg hc3] at hres
          refine am_aload_n (pc' := 32) 0 dX11_firstOfMost_31 rfl rfl rfl ?_
          refine am_get (pc' := 35) (v := .ref 44) dX11_firstOfMost_32 fl_X11_91 (sx_c0 S r) rfl rfl ?_
          refine am_iload_n (pc' := 36) 3 dX11_firstOfMost_35 rfl rfl rfl ?_
          refine am_cS (pc' := 39) (st' := [.int (am_rd 8 (sx_offered S) v3)]) [] [.ref 44, .int v3] dX11_firstOfMost_36 cs_X11_139 (tx_at (f := (sx_offered S)) (sx_c44 S r) rfl v3) rfl rfl rfl rfl rfl rfl ?_
          refine am_aload_n (pc' := 40) 0 dX11_firstOfMost_39 rfl rfl rfl ?_
          refine am_get (pc' := 43) (v := .ref 44) dX11_firstOfMost_40 fl_X11_91 (sx_c0 S r) rfl rfl ?_
          refine am_iload_n (pc' := 44) 2 dX11_firstOfMost_43 rfl rfl rfl ?_
          refine am_cS (pc' := 47) (st' := [.int (am_rd 8 (sx_offered S) v2), .int (am_rd 8 (sx_offered S) v3)]) [.int (am_rd 8 (sx_offered S) v3)] [.ref 44, .int v2] dX11_firstOfMost_44 cs_X11_139 (tx_at (f := (sx_offered S)) (sx_c44 S r) rfl v2) rfl rfl rfl rfl rfl rfl ?_
          refine am_icmp_le (pc' := 50) 52 dX11_firstOfMost_47 rfl rfl (fun hc4 => ?_) (fun hc4 => ?_)
          · rw [if_pos hc4] at hres
            refine am_iinc (pc' := 55) (ls' := [some (.ref 0), some (.int v1), some (.int v2), some (.int (v3 + (1 : Int32)))]) dX11_firstOfMost_52 rfl (show v3 + Int32.ofInt 1 = (v3 + (1 : Int32)) from congrArg (fun z => v3 + z) kc_1) (Nat.le_of_ble_eq_true rfl) rfl rfl rfl ?_
            refine am_goto 4 dX11_firstOfMost_55 rfl ?_
            exact ih _ _ _ _ hres
          · rw [if_neg hc4] at hres
            refine am_iload_n (pc' := 51) 3 dX11_firstOfMost_50 rfl rfl rfl ?_
            refine am_istore_n (pc' := 52) (ls' := [some (.ref 0), some (.int v1), some (.int v3), some (.int v3)]) 2 dX11_firstOfMost_51 rfl (Nat.le_of_ble_eq_true rfl) rfl rfl rfl ?_
            refine am_iinc (pc' := 55) (ls' := [some (.ref 0), some (.int v1), some (.int v3), some (.int (v3 + (1 : Int32)))]) dX11_firstOfMost_52 rfl (show v3 + Int32.ofInt 1 = (v3 + (1 : Int32)) from congrArg (fun z => v3 + z) kc_1) (Nat.le_of_ble_eq_true rfl) rfl rfl rfl ?_
            refine am_goto 4 dX11_firstOfMost_55 rfl ?_
            exact ih _ _ _ _ hres
      · rw [if_pos hc2] at hres
        refine am_goto 52 dX11_firstOfMost_23 rfl ?_
        refine am_iinc (pc' := 55) (ls' := [some (.ref 0), some (.int v1), some (.int v2), some (.int (v3 + (1 : Int32)))]) dX11_firstOfMost_52 rfl (show v3 + Int32.ofInt 1 = (v3 + (1 : Int32)) from congrArg (fun z => v3 + z) kc_1) (Nat.le_of_ble_eq_true rfl) rfl rfl rfl ?_
        refine am_goto 4 dX11_firstOfMost_55 rfl ?_
        exact ih _ _ _ _ hres

set_option maxRecDepth 100000 in
set_option maxHeartbeats 4000000 in
theorem tx_X11_firstOfMost (r : am_W) (a1 : Int32) (S : sx_T) (res : Int32) (hres : fx_X11_firstOfMost a1 S = some res) : am_T mX11_firstOfMost 1 0 0 [.ref 0, .int a1] (sx_w S r) (some (.int res)) (sx_w S r) := by
  refine am_meth (ls := [some (.ref 0), some (.int a1), none, none]) (by decide +kernel) rfl (Nat.le_of_ble_eq_true rfl) (sx_len _ _ _) ?_
  rw [fx_X11_firstOfMost] at hres
  refine am_iconst (pc' := 1) (v := (-1)) dX11_firstOfMost_0 kc_m1 rfl ?_
  refine am_istore_n (pc' := 2) (ls' := [some (.ref 0), some (.int a1), some (.int (-1 : Int32)), none]) 2 dX11_firstOfMost_1 rfl (Nat.le_of_ble_eq_true rfl) rfl rfl rfl ?_
  refine am_iconst (pc' := 3) (v := 0) dX11_firstOfMost_2 kc_0 rfl ?_
  refine am_istore_n (pc' := 4) (ls' := [some (.ref 0), some (.int a1), some (.int (-1 : Int32)), some (.int (0 : Int32))]) 3 dX11_firstOfMost_3 rfl (Nat.le_of_ble_eq_true rfl) rfl rfl rfl ?_
  exact wx_X11_firstOfMost_4 r S am_fu _ _ _ _ hres
set_option maxRecDepth 100000 in
set_option maxHeartbeats 4000000 in
theorem wx_X11_firstOtherwise_11 (r : am_W) : ∀ (n : Nat) (v1 : Int32) (v2 : Int32) (v3 : Int32) (S : sx_T) (res : Int32 × sx_T) (hres : fx_X11_firstOtherwise_11 n v1 v2 v3 S = some res), am_G mX11_firstOtherwise (none, 7, 0, 0, (some (.int res.1)), (sx_w res.2 r)) (0, 0) 11 [some (.ref 0), some (.int v1), some (.int v2), some (.int v3)] [] (sx_w S r) := by
  intro n
  induction n with
  | zero =>
    intro v1 v2 v3 S res hres
    cases hres
  | succ n ih =>
    intro v1 v2 v3 S res hres
    rw [fx_X11_firstOtherwise_11] at hres
    refine am_iload_n (pc' := 12) 3 dX11_firstOtherwise_11 rfl rfl rfl ?_
    refine am_iload_n (pc' := 13) 2 dX11_firstOtherwise_12 rfl rfl rfl ?_
    refine am_icmp_ge (pc' := 16) 51 dX11_firstOtherwise_13 rfl rfl (fun hc1 => ?_) (fun hc1 => ?_)
    · rw [if_pos hc1] at hres
      refine am_iconst (pc' := 52) (v := (-1)) dX11_firstOtherwise_51 kc_m1 rfl ?_
      obtain rfl := Option.some.inj hres
      exact am_iret dX11_firstOtherwise_52 rfl rfl rfl
    · rw [if_neg hc1] at hres
      refine am_aload_n (pc' := 17) 0 dX11_firstOtherwise_16 rfl rfl rfl ?_
      refine am_get (pc' := 20) (v := .ref 34) dX11_firstOtherwise_17 fl_X11_78 (sx_c0 S r) rfl rfl ?_
      refine am_iload_n (pc' := 21) 3 dX11_firstOtherwise_20 rfl rfl rfl ?_
      obtain ⟨q2, hq3, hres⟩ := am_let_s hres
      refine am_cV (pc' := 24) (st' := []) [] [.int v3] dX11_firstOtherwise_21 cs_X11_227 (tx_X10_setHour r v3 S _ hq3) rfl rfl rfl (sx_c34 S r) rfl rfl rfl rfl rfl ?_
      refine am_aload_n (pc' := 25) 0 dX11_firstOtherwise_24 rfl rfl rfl ?_
      refine am_get (pc' := 28) (v := .ref 34) dX11_firstOtherwise_25 fl_X11_78 (sx_c0 q2 r) rfl rfl ?_
      obtain ⟨q4, hq5, hres⟩ := am_bd_s hres
      refine am_cV (pc' := 31) (st' := [.int q4.1]) [] [] dX11_firstOtherwise_28 cs_X11_185 (tx_X10_offer r q2 _ hq5) rfl rfl rfl (sx_c34 q2 r) rfl rfl rfl rfl rfl ?_
      refine am_aload_n (pc' := 32) 0 dX11_firstOtherwise_31 rfl rfl rfl ?_
      refine am_get (pc' := 35) (v := .ref 30) dX11_firstOtherwise_32 fl_X11_71 (sx_c0 q4.2 r) rfl rfl ?_
      refine am_iload_n (pc' := 36) 1 dX11_firstOtherwise_35 rfl rfl rfl ?_
      refine am_iload_n (pc' := 37) 3 dX11_firstOtherwise_36 rfl rfl rfl ?_
      refine am_cV (pc' := 40) (st' := [.int (fx_X5_read v1 v3 q4.2), .int q4.1]) [.int q4.1] [.int v1, .int v3] dX11_firstOtherwise_37 cs_X11_279 (tx_X5_read r v1 v3 q4.2 _ rfl) rfl rfl rfl (sx_c30 q4.2 r) rfl rfl rfl rfl rfl ?_
      refine am_icmp_eq (pc' := 43) 45 dX11_firstOtherwise_40 rfl rfl (fun hc6 => ?_) (fun hc6 => ?_)
      · rw [if_pos hc6] at hres
        refine am_iinc (pc' := 48) (ls' := [some (.ref 0), some (.int v1), some (.int v2), some (.int (v3 + (1 : Int32)))]) dX11_firstOtherwise_45 rfl (show v3 + Int32.ofInt 1 = (v3 + (1 : Int32)) from congrArg (fun z => v3 + z) kc_1) (Nat.le_of_ble_eq_true rfl) rfl rfl rfl ?_
        refine am_goto 11 dX11_firstOtherwise_48 rfl ?_
        exact ih _ _ _ _ _ hres
      · rw [if_neg hc6] at hres
        refine am_iload_n (pc' := 44) 3 dX11_firstOtherwise_43 rfl rfl rfl ?_
        obtain rfl := Option.some.inj hres
        exact am_iret dX11_firstOtherwise_44 rfl rfl rfl

set_option maxRecDepth 100000 in
set_option maxHeartbeats 4000000 in
theorem tx_X11_firstOtherwise (r : am_W) (a1 : Int32) (S : sx_T) (res : Int32 × sx_T) (hres : fx_X11_firstOtherwise a1 S = some res) : am_T mX11_firstOtherwise 7 0 0 [.ref 0, .int a1] (sx_w S r) (some (.int res.1)) (sx_w res.2 r) := by
  refine am_meth (ls := [some (.ref 0), some (.int a1), none, none]) (by decide +kernel) rfl (Nat.le_of_ble_eq_true rfl) (sx_len _ _ _) ?_
  rw [fx_X11_firstOtherwise] at hres
  refine am_aload_n (pc' := 1) 0 dX11_firstOtherwise_0 rfl rfl rfl ?_
  refine am_get (pc' := 4) (v := .ref 30) dX11_firstOtherwise_1 fl_X11_71 (sx_c0 S r) rfl rfl ?_
  refine am_iload_n (pc' := 5) 1 dX11_firstOtherwise_4 rfl rfl rfl ?_
  refine am_cV (pc' := 8) (st' := [.int (fx_X5_size a1 S)]) [] [.int a1] dX11_firstOtherwise_5 cs_X11_295 (tx_X5_size r a1 S _ rfl) rfl rfl rfl (sx_c30 S r) rfl rfl rfl rfl rfl ?_
  refine am_istore_n (pc' := 9) (ls' := [some (.ref 0), some (.int a1), some (.int (fx_X5_size a1 S)), none]) 2 dX11_firstOtherwise_8 rfl (Nat.le_of_ble_eq_true rfl) rfl rfl rfl ?_
  refine am_iconst (pc' := 10) (v := 0) dX11_firstOtherwise_9 kc_0 rfl ?_
  refine am_istore_n (pc' := 11) (ls' := [some (.ref 0), some (.int a1), some (.int (fx_X5_size a1 S)), some (.int (0 : Int32))]) 3 dX11_firstOtherwise_10 rfl (Nat.le_of_ble_eq_true rfl) rfl rfl rfl ?_
  exact wx_X11_firstOtherwise_11 r am_fu _ _ _ _ _ hres
set_option maxRecDepth 100000 in
set_option maxHeartbeats 4000000 in
theorem tx_X11_force (r : am_W) (a1 : Int32) (S : sx_T) (res : Int32 × sx_T) (hres : fx_X11_force a1 S = res) : am_T mX11_force 1 0 0 [.ref 0, .int a1] (sx_w S r) (some (.int res.1)) (sx_w res.2 r) := by
  refine am_meth (ls := [some (.ref 0), some (.int a1), none]) (by decide +kernel) rfl (Nat.le_of_ble_eq_true rfl) (sx_len _ _ _) ?_
  rw [fx_X11_force] at hres
  refine am_iload_n (pc' := 1) 1 dX11_force_0 rfl rfl rfl ?_
  refine am_aload_n (pc' := 2) 0 dX11_force_1 rfl rfl rfl ?_
  refine am_get (pc' := 5) (v := .ref 21) dX11_force_2 fl_X11_55 (sx_c0 S r) rfl rfl ?_
  refine am_get (pc' := 8) (v := .int (sx_tx_count S)) dX11_force_5 fl_X11_117 (sx_c21 S r) rfl rfl ?_
  refine am_cS (pc' := 11) (st' := [.int (fx_X11_within a1 (sx_tx_count S))]) [] [.int a1, .int (sx_tx_count S)] dX11_force_8 cs_X11_129 (tx_X11_within (sx_w S r) a1 (sx_tx_count S) _ rfl) rfl rfl rfl rfl rfl rfl ?_
  refine am_if_ne (pc' := 14) 17 dX11_force_11 rfl rfl (fun hc1 => ?_) (fun hc1 => ?_)
  · rw [if_neg hc1] at hres
    refine am_aload_n (pc' := 18) 0 dX11_force_17 rfl rfl rfl ?_
    refine am_get (pc' := 21) (v := .ref 1) dX11_force_18 fl_X11_10 (sx_c0 S r) rfl rfl ?_
    refine am_get (pc' := 24) (v := .int (sx_now_law S)) dX11_force_21 fl_X11_126 (sx_c1 S r) rfl rfl ?_
    refine am_istore_n (pc' := 25) (ls' := [some (.ref 0), some (.int a1), some (.int (sx_now_law S))]) 2 dX11_force_24 rfl (Nat.le_of_ble_eq_true rfl) rfl rfl rfl ?_
    refine am_aload_n (pc' := 26) 0 dX11_force_25 rfl rfl rfl ?_
    refine am_get (pc' := 29) (v := .ref 1) dX11_force_26 fl_X11_10 (sx_c0 S r) rfl rfl ?_
    refine am_iload_n (pc' := 30) 1 dX11_force_29 rfl rfl rfl ?_
    refine am_put (pc' := 33) (ws' := (sx_w (ux_now_law S a1) r)) (v := .int a1) dX11_force_30 fp_X11_126 (sx_c1 S r) (fun _ => ⟨rfl, rfl⟩) (Nat.le_of_ble_eq_true rfl) (sx_p_now_law S r _) rfl ?_
    refine am_iload_n (pc' := 34) 2 dX11_force_33 rfl rfl rfl ?_
    subst hres
    exact am_iret dX11_force_34 rfl rfl rfl
  · rw [if_pos hc1] at hres
    refine am_bipush (pc' := 16) (v := (-2)) dX11_force_14 kb_m2 rfl ?_
    subst hres
    exact am_iret dX11_force_16 rfl rfl rfl
set_option maxRecDepth 100000 in
set_option maxHeartbeats 4000000 in
theorem tx_X11_hours (r : am_W) (a1 : Int32) (S : sx_T) (res : Int32 × sx_T) (hres : fx_X11_hours a1 S = res) : am_T mX11_hours 1 0 0 [.ref 0, .int a1] (sx_w S r) (some (.int res.1)) (sx_w res.2 r) := by
  refine am_meth (ls := [some (.ref 0), some (.int a1), none]) (by decide +kernel) rfl (Nat.le_of_ble_eq_true rfl) (sx_len _ _ _) ?_
  rw [fx_X11_hours] at hres
  refine am_iload_n (pc' := 1) 1 dX11_hours_0 rfl rfl rfl ?_
  refine am_bipush (pc' := 3) (v := 12) dX11_hours_1 kb_12 rfl ?_
  refine am_cS (pc' := 6) (st' := [.int (fx_X11_within a1 (12 : Int32))]) [] [.int a1, .int (12 : Int32)] dX11_hours_3 cs_X11_129 (tx_X11_within (sx_w S r) a1 (12 : Int32) _ rfl) rfl rfl rfl rfl rfl rfl ?_
  refine am_if_ne (pc' := 9) 12 dX11_hours_6 rfl rfl (fun hc1 => ?_) (fun hc1 => ?_)
  · rw [if_neg hc1] at hres
    refine am_aload_n (pc' := 13) 0 dX11_hours_12 rfl rfl rfl ?_
    refine am_get (pc' := 16) (v := .ref 1) dX11_hours_13 fl_X11_10 (sx_c0 S r) rfl rfl ?_
    refine am_get (pc' := 19) (v := .int (sx_now_hour S)) dX11_hours_16 fl_X11_123 (sx_c1 S r) rfl rfl ?_
    refine am_istore_n (pc' := 20) (ls' := [some (.ref 0), some (.int a1), some (.int (sx_now_hour S))]) 2 dX11_hours_19 rfl (Nat.le_of_ble_eq_true rfl) rfl rfl rfl ?_
    refine am_aload_n (pc' := 21) 0 dX11_hours_20 rfl rfl rfl ?_
    refine am_get (pc' := 24) (v := .ref 1) dX11_hours_21 fl_X11_10 (sx_c0 S r) rfl rfl ?_
    refine am_iload_n (pc' := 25) 1 dX11_hours_24 rfl rfl rfl ?_
    refine am_put (pc' := 28) (ws' := (sx_w (ux_now_hour S a1) r)) (v := .int a1) dX11_hours_25 fp_X11_123 (sx_c1 S r) (fun _ => ⟨rfl, rfl⟩) (Nat.le_of_ble_eq_true rfl) (sx_p_now_hour S r _) rfl ?_
    refine am_iload_n (pc' := 29) 2 dX11_hours_28 rfl rfl rfl ?_
    subst hres
    exact am_iret dX11_hours_29 rfl rfl rfl
  · rw [if_pos hc1] at hres
    refine am_bipush (pc' := 11) (v := (-2)) dX11_hours_9 kb_m2 rfl ?_
    subst hres
    exact am_iret dX11_hours_11 rfl rfl rfl
set_option maxRecDepth 100000 in
set_option maxHeartbeats 4000000 in
theorem tx_X11_image (r : am_W) (S : sx_T) (res : Int32 × sx_T) (hres : fx_X11_image S = some res) : am_T mX11_image 2 0 0 [.ref 0] (sx_w S r) (some (.int res.1)) (sx_w res.2 r) := by
  refine am_meth (ls := [some (.ref 0)]) (by decide +kernel) rfl (Nat.le_of_ble_eq_true rfl) (sx_len _ _ _) ?_
  rw [fx_X11_image] at hres
  refine am_aload_n (pc' := 1) 0 dX11_image_0 rfl rfl rfl ?_
  refine am_get (pc' := 4) (v := .ref 6) dX11_image_1 fl_X11_16 (sx_c0 S r) rfl rfl ?_
  refine am_aload_n (pc' := 5) 0 dX11_image_4 rfl rfl rfl ?_
  refine am_get (pc' := 8) (v := .ref 1) dX11_image_5 fl_X11_10 (sx_c0 S r) rfl rfl ?_
  obtain ⟨q1, hq2, hres⟩ := am_bd_s hres
  refine am_cV (pc' := 11) (st' := []) [] [.ref 1] dX11_image_8 cs_X11_285 (tx_X6_become_o6_r1 r S _ hq2) rfl rfl rfl (sx_c6 S r) rfl rfl rfl rfl rfl ?_
  refine am_aload_n (pc' := 12) 0 dX11_image_11 rfl rfl rfl ?_
  refine am_iconst (pc' := 13) (v := 1) dX11_image_12 kc_1 rfl ?_
  refine am_put (pc' := 16) (ws' := (sx_w (ux_imageKept q1 (1 : Int32)) r)) (v := .int (1 : Int32)) dX11_image_13 fp_X11_288 (sx_c0 q1 r) (fun _ => ⟨rfl, rfl⟩) (Nat.le_of_ble_eq_true rfl) (sx_p_imageKept q1 r _) rfl ?_
  refine am_aload_n (pc' := 17) 0 dX11_image_16 rfl rfl rfl ?_
  refine am_get (pc' := 20) (v := .ref 1) dX11_image_17 fl_X11_10 (sx_c0 (ux_imageKept q1 (1 : Int32)) r) rfl rfl ?_
  refine am_get (pc' := 23) (v := .int (sx_now_viewers q1)) dX11_image_20 fl_X11_120 (sx_c1 (ux_imageKept q1 (1 : Int32)) r) rfl rfl ?_
  obtain rfl := Option.some.inj hres
  exact am_iret dX11_image_23 rfl rfl rfl
set_option maxRecDepth 100000 in
set_option maxHeartbeats 4000000 in
theorem wx_X11_inLowestTerms_39 (ws : am_W) : ∀ (v0 : Int32) (v1 : Int32) (v2 : Int32) (v3 : Int32) (res : Int64) (hres : fx_X11_inLowestTerms_39 v0 v1 v2 v3 = some res), am_G mX11_inLowestTerms (none, 0, 0, 0, (some (.long res)), ws) (0, 0) 39 [some (.int v0), some (.int v1), some (.int v2), some (.int v3), none, none, none] [] ws := by
  intro v0 v1 v2 v3 res hres
  rw [fx_X11_inLowestTerms_39] at hres
  refine am_iload_n (pc' := 40) 3 dX11_inLowestTerms_39 rfl rfl rfl ?_
  refine am_if_ne (pc' := 43) 47 dX11_inLowestTerms_40 rfl rfl (fun hc2 => ?_) (fun hc2 => ?_)
  · rw [if_neg hc2] at hres
    refine am_iload_n (pc' := 48) 2 dX11_inLowestTerms_47 rfl rfl rfl ?_
    refine am_if_ne (pc' := 51) 58 dX11_inLowestTerms_48 rfl rfl (fun hc3 => ?_) (fun hc3 => ?_)
    · rw [if_neg hc3] at hres
      refine am_iload_n (pc' := 59) 1 dX11_inLowestTerms_58 rfl rfl rfl ?_
      refine am_iload_n (pc' := 60) 3 dX11_inLowestTerms_59 rfl rfl rfl ?_
      obtain ⟨hz4, hres⟩ := am_rg hres
      refine am_idiv (pc' := 61) dX11_inLowestTerms_60 hz4 rfl ?_
      refine am_i2l (pc' := 62) dX11_inLowestTerms_61 rfl ?_
      obtain rfl := Option.some.inj hres
      exact am_lret dX11_inLowestTerms_62 rfl rfl rfl
    · rw [if_pos hc3] at hres
      refine am_iload_n (pc' := 52) 0 dX11_inLowestTerms_51 rfl rfl rfl ?_
      refine am_iload_n (pc' := 53) 3 dX11_inLowestTerms_52 rfl rfl rfl ?_
      obtain ⟨hz5, hres⟩ := am_rg hres
      refine am_idiv (pc' := 54) dX11_inLowestTerms_53 hz5 rfl ?_
      refine am_i2l (pc' := 55) dX11_inLowestTerms_54 rfl ?_
      refine am_goto 62 dX11_inLowestTerms_55 rfl ?_
      obtain rfl := Option.some.inj hres
      exact am_lret dX11_inLowestTerms_62 rfl rfl rfl
  · rw [if_pos hc2] at hres
    refine am_ldc2 (pc' := 46) dX11_inLowestTerms_43 ck_X11_236 rfl ?_
    obtain rfl := Option.some.inj hres
    exact am_lret dX11_inLowestTerms_46 rfl rfl rfl

set_option maxRecDepth 100000 in
set_option maxHeartbeats 4000000 in
theorem wx_X11_inLowestTerms_8 (ws : am_W) : ∀ (n : Nat) (v0 : Int32) (v1 : Int32) (v2 : Int32) (v3 : Int32) (v4 : Int32) (v5 : Int32) (res : Int64) (hres : fx_X11_inLowestTerms_8 n v0 v1 v2 v3 v4 v5 = some res), am_G mX11_inLowestTerms (none, 0, 0, 0, (some (.long res)), ws) (0, 0) 8 [some (.int v0), some (.int v1), some (.int v2), some (.int v3), some (.int v4), some (.int v5), none] [] ws := by
  intro n
  induction n with
  | zero =>
    intro v0 v1 v2 v3 v4 v5 res hres
    cases hres
  | succ n ih =>
    intro v0 v1 v2 v3 v4 v5 res hres
    rw [fx_X11_inLowestTerms_8] at hres
    refine am_iload (pc' := 10) dX11_inLowestTerms_8 rfl rfl ?_
    refine am_bipush (pc' := 12) (v := 64) dX11_inLowestTerms_10 kb_64 rfl ?_
    refine am_icmp_ge (pc' := 15) 39 dX11_inLowestTerms_12 rfl rfl (fun hc1 => ?_) (fun hc1 => ?_)
    · rw [if_pos hc1] at hres
      refine am_weak (ls' := [some (.int v0), some (.int v1), some (.int v2), some (.int v3), none, none, none]) [false, false, false, false, true, true, false] rfl ?_
      exact wx_X11_inLowestTerms_39 ws _ _ _ _ _ hres
    · rw [if_neg hc1] at hres
      refine am_iload (pc' := 17) dX11_inLowestTerms_15 rfl rfl ?_
      refine am_if_eq (pc' := 20) 39 dX11_inLowestTerms_17 rfl rfl (fun hc6 => ?_) (fun hc6 => ?_)
      · rw [if_pos hc6] at hres
        refine am_weak (ls' := [some (.int v0), some (.int v1), some (.int v2), some (.int v3), none, none, none]) [false, false, false, false, true, true, false] rfl ?_
        exact wx_X11_inLowestTerms_39 ws _ _ _ _ _ hres
      · rw [if_neg hc6] at hres
        refine am_iload_n (pc' := 21) 3 dX11_inLowestTerms_20 rfl rfl rfl ?_
        refine am_iload (pc' := 23) dX11_inLowestTerms_21 rfl rfl ?_
        obtain ⟨hz7, hres⟩ := am_rg hres
        refine am_irem (pc' := 24) dX11_inLowestTerms_23 hz7 rfl ?_
        refine am_istore (pc' := 26) (ls' := [some (.int v0), some (.int v1), some (.int v2), some (.int v3), some (.int v4), some (.int v5), some (.int (v3 - v3 / v4 * v4))]) dX11_inLowestTerms_24 (Nat.le_of_ble_eq_true rfl) rfl rfl rfl ?_
        refine am_iload (pc' := 28) dX11_inLowestTerms_26 rfl rfl ?_
        refine am_istore_n (pc' := 29) (ls' := [some (.int v0), some (.int v1), some (.int v2), some (.int v4), some (.int v4), some (.int v5), some (.int (v3 - v3 / v4 * v4))]) 3 dX11_inLowestTerms_28 rfl (Nat.le_of_ble_eq_true rfl) rfl rfl rfl ?_
        refine am_iload (pc' := 31) dX11_inLowestTerms_29 rfl rfl ?_
        refine am_istore (pc' := 33) (ls' := [some (.int v0), some (.int v1), some (.int v2), some (.int v4), some (.int (v3 - v3 / v4 * v4)), some (.int v5), some (.int (v3 - v3 / v4 * v4))]) dX11_inLowestTerms_31 (Nat.le_of_ble_eq_true rfl) rfl rfl rfl ?_
        refine am_iinc (pc' := 36) (ls' := [some (.int v0), some (.int v1), some (.int v2), some (.int v4), some (.int (v3 - v3 / v4 * v4)), some (.int (v5 + (1 : Int32))), some (.int (v3 - v3 / v4 * v4))]) dX11_inLowestTerms_33 rfl (show v5 + Int32.ofInt 1 = (v5 + (1 : Int32)) from congrArg (fun z => v5 + z) kc_1) (Nat.le_of_ble_eq_true rfl) rfl rfl rfl ?_
        refine am_goto 8 dX11_inLowestTerms_36 rfl ?_
        refine am_weak (ls' := [some (.int v0), some (.int v1), some (.int v2), some (.int v4), some (.int (v3 - v3 / v4 * v4)), some (.int (v5 + (1 : Int32))), none]) [false, false, false, false, false, false, true] rfl ?_
        exact ih _ _ _ _ _ _ _ hres

set_option maxRecDepth 100000 in
set_option maxHeartbeats 4000000 in
theorem tx_X11_inLowestTerms (ws : am_W) (a1 : Int32) (a2 : Int32) (a3 : Int32) (res : Int64) (hres : fx_X11_inLowestTerms a1 a2 a3 = some res) : am_T mX11_inLowestTerms 0 0 0 [.int a1, .int a2, .int a3] ws (some (.long res)) ws := by
  refine am_meth (ls := [some (.int a1), some (.int a2), some (.int a3), none, none, none, none]) (by decide +kernel) rfl (Nat.le_of_ble_eq_true rfl) ⟨rfl, Or.inl rfl⟩ ?_
  rw [fx_X11_inLowestTerms] at hres
  refine am_iload_n (pc' := 1) 0 dX11_inLowestTerms_0 rfl rfl rfl ?_
  refine am_istore_n (pc' := 2) (ls' := [some (.int a1), some (.int a2), some (.int a3), some (.int a1), none, none, none]) 3 dX11_inLowestTerms_1 rfl (Nat.le_of_ble_eq_true rfl) rfl rfl rfl ?_
  refine am_iload_n (pc' := 3) 1 dX11_inLowestTerms_2 rfl rfl rfl ?_
  refine am_istore (pc' := 5) (ls' := [some (.int a1), some (.int a2), some (.int a3), some (.int a1), some (.int a2), none, none]) dX11_inLowestTerms_3 (Nat.le_of_ble_eq_true rfl) rfl rfl rfl ?_
  refine am_iconst (pc' := 6) (v := 0) dX11_inLowestTerms_5 kc_0 rfl ?_
  refine am_istore (pc' := 8) (ls' := [some (.int a1), some (.int a2), some (.int a3), some (.int a1), some (.int a2), some (.int (0 : Int32)), none]) dX11_inLowestTerms_6 (Nat.le_of_ble_eq_true rfl) rfl rfl rfl ?_
  exact wx_X11_inLowestTerms_8 ws am_fu _ _ _ _ _ _ _ hres
theorem vr_isCouple {M : am_M} {g : am_g} {kn : Nat × Nat} {pc pc' : Nat} {ls : List (Option Value)} {st : List Value} (c : Fin 8) (S : sx_T) (r : am_W) (d : decode M.2.1 pc = .ok (.instanceof 22, 3)) (hM : M.1.cls = RX11) (hp : pc + 3 = pc') (k : am_G M g kn pc' ls (.int (fk_isCouple c) :: st) (sx_w S r)) : am_G M g kn pc ls (.ref (am_kr c) :: st) (sx_w S r) := by
  match c, k with
  | ⟨0, _⟩, k => exact am_inst d (hM ▸ kl_X11_22) (sx_c12 S r) rfl (Or.inr (Or.inr ⟨rfl, List.mem_of_getElem? (i := 0) (by decide +kernel)⟩)) hp k
  | ⟨1, _⟩, k => exact am_inst d (hM ▸ kl_X11_22) (sx_c13 S r) rfl (Or.inl ⟨rfl, rfl⟩) hp k
  | ⟨2, _⟩, k => exact am_inst d (hM ▸ kl_X11_22) (sx_c14 S r) rfl (Or.inr (Or.inr ⟨rfl, List.mem_of_getElem? (i := 9) (by decide +kernel)⟩)) hp k
  | ⟨3, _⟩, k => exact am_inst d (hM ▸ kl_X11_22) (sx_c15 S r) rfl (Or.inr (Or.inl ⟨rfl, List.mem_of_getElem? (i := 29) (by decide +kernel)⟩)) hp k
  | ⟨4, _⟩, k => exact am_inst d (hM ▸ kl_X11_22) (sx_c16 S r) rfl (Or.inr (Or.inr ⟨rfl, List.mem_of_getElem? (i := 16) (by decide +kernel)⟩)) hp k
  | ⟨5, _⟩, k => exact am_inst d (hM ▸ kl_X11_22) (sx_c17 S r) rfl (Or.inr (Or.inr ⟨rfl, List.mem_of_getElem? (i := 19) (by decide +kernel)⟩)) hp k
  | ⟨6, _⟩, k => exact am_inst d (hM ▸ kl_X11_22) (sx_c18 S r) rfl (Or.inr (Or.inr ⟨rfl, List.mem_of_getElem? (i := 0) (by decide +kernel)⟩)) hp k
  | ⟨7, _⟩, k => exact am_inst d (hM ▸ kl_X11_22) (sx_c39 S r) rfl (Or.inr (Or.inr ⟨rfl, List.mem_of_getElem? (i := 0) (by decide +kernel)⟩)) hp k
theorem bz_isCouple (c : Fin 8) : narrow .boolean (.int (fk_isCouple c)) = .int (fk_isCouple c) := by
  rw [fk_isCouple]
  (repeat' split) <;> rfl
theorem vr_isStudent {M : am_M} {g : am_g} {kn : Nat × Nat} {pc pc' : Nat} {ls : List (Option Value)} {st : List Value} (c : Fin 8) (S : sx_T) (r : am_W) (d : decode M.2.1 pc = .ok (.instanceof 25, 3)) (hM : M.1.cls = RX11) (hp : pc + 3 = pc') (k : am_G M g kn pc' ls (.int (fk_isStudent c) :: st) (sx_w S r)) : am_G M g kn pc ls (.ref (am_kr c) :: st) (sx_w S r) := by
  match c, k with
  | ⟨0, _⟩, k => exact am_inst d (hM ▸ kl_X11_25) (sx_c12 S r) rfl (Or.inr (Or.inr ⟨rfl, List.mem_of_getElem? (i := 1) (by decide +kernel)⟩)) hp k
  | ⟨1, _⟩, k => exact am_inst d (hM ▸ kl_X11_25) (sx_c13 S r) rfl (Or.inr (Or.inr ⟨rfl, List.mem_of_getElem? (i := 5) (by decide +kernel)⟩)) hp k
  | ⟨2, _⟩, k => exact am_inst d (hM ▸ kl_X11_25) (sx_c14 S r) rfl (Or.inl ⟨rfl, rfl⟩) hp k
  | ⟨3, _⟩, k => exact am_inst d (hM ▸ kl_X11_25) (sx_c15 S r) rfl (Or.inr (Or.inr ⟨rfl, List.mem_of_getElem? (i := 13) (by decide +kernel)⟩)) hp k
  | ⟨4, _⟩, k => exact am_inst d (hM ▸ kl_X11_25) (sx_c16 S r) rfl (Or.inr (Or.inl ⟨rfl, List.mem_of_getElem? (i := 30) (by decide +kernel)⟩)) hp k
  | ⟨5, _⟩, k => exact am_inst d (hM ▸ kl_X11_25) (sx_c17 S r) rfl (Or.inr (Or.inr ⟨rfl, List.mem_of_getElem? (i := 20) (by decide +kernel)⟩)) hp k
  | ⟨6, _⟩, k => exact am_inst d (hM ▸ kl_X11_25) (sx_c18 S r) rfl (Or.inr (Or.inr ⟨rfl, List.mem_of_getElem? (i := 1) (by decide +kernel)⟩)) hp k
  | ⟨7, _⟩, k => exact am_inst d (hM ▸ kl_X11_25) (sx_c39 S r) rfl (Or.inr (Or.inr ⟨rfl, List.mem_of_getElem? (i := 1) (by decide +kernel)⟩)) hp k
theorem bz_isStudent (c : Fin 8) : narrow .boolean (.int (fk_isStudent c)) = .int (fk_isStudent c) := by
  rw [fk_isStudent]
  (repeat' split) <;> rfl
theorem vr_isDoctor {M : am_M} {g : am_g} {kn : Nat × Nat} {pc pc' : Nat} {ls : List (Option Value)} {st : List Value} (c : Fin 8) (S : sx_T) (r : am_W) (d : decode M.2.1 pc = .ok (.instanceof 28, 3)) (hM : M.1.cls = RX11) (hp : pc + 3 = pc') (k : am_G M g kn pc' ls (.int (fk_isDoctor c) :: st) (sx_w S r)) : am_G M g kn pc ls (.ref (am_kr c) :: st) (sx_w S r) := by
  match c, k with
  | ⟨0, _⟩, k => exact am_inst d (hM ▸ kl_X11_28) (sx_c12 S r) rfl (Or.inr (Or.inr ⟨rfl, List.mem_of_getElem? (i := 2) (by decide +kernel)⟩)) hp k
  | ⟨1, _⟩, k => exact am_inst d (hM ▸ kl_X11_28) (sx_c13 S r) rfl (Or.inr (Or.inr ⟨rfl, List.mem_of_getElem? (i := 6) (by decide +kernel)⟩)) hp k
  | ⟨2, _⟩, k => exact am_inst d (hM ▸ kl_X11_28) (sx_c14 S r) rfl (Or.inr (Or.inr ⟨rfl, List.mem_of_getElem? (i := 10) (by decide +kernel)⟩)) hp k
  | ⟨3, _⟩, k => exact am_inst d (hM ▸ kl_X11_28) (sx_c15 S r) rfl (Or.inl ⟨rfl, rfl⟩) hp k
  | ⟨4, _⟩, k => exact am_inst d (hM ▸ kl_X11_28) (sx_c16 S r) rfl (Or.inr (Or.inr ⟨rfl, List.mem_of_getElem? (i := 17) (by decide +kernel)⟩)) hp k
  | ⟨5, _⟩, k => exact am_inst d (hM ▸ kl_X11_28) (sx_c17 S r) rfl (Or.inr (Or.inr ⟨rfl, List.mem_of_getElem? (i := 21) (by decide +kernel)⟩)) hp k
  | ⟨6, _⟩, k => exact am_inst d (hM ▸ kl_X11_28) (sx_c18 S r) rfl (Or.inr (Or.inr ⟨rfl, List.mem_of_getElem? (i := 2) (by decide +kernel)⟩)) hp k
  | ⟨7, _⟩, k => exact am_inst d (hM ▸ kl_X11_28) (sx_c39 S r) rfl (Or.inr (Or.inr ⟨rfl, List.mem_of_getElem? (i := 2) (by decide +kernel)⟩)) hp k
theorem bz_isDoctor (c : Fin 8) : narrow .boolean (.int (fk_isDoctor c)) = .int (fk_isDoctor c) := by
  rw [fk_isDoctor]
  (repeat' split) <;> rfl
theorem vr_isPensioner {M : am_M} {g : am_g} {kn : Nat × Nat} {pc pc' : Nat} {ls : List (Option Value)} {st : List Value} (c : Fin 8) (S : sx_T) (r : am_W) (d : decode M.2.1 pc = .ok (.instanceof 31, 3)) (hM : M.1.cls = RX11) (hp : pc + 3 = pc') (k : am_G M g kn pc' ls (.int (fk_isPensioner c) :: st) (sx_w S r)) : am_G M g kn pc ls (.ref (am_kr c) :: st) (sx_w S r) := by
  match c, k with
  | ⟨0, _⟩, k => exact am_inst d (hM ▸ kl_X11_31) (sx_c12 S r) rfl (Or.inr (Or.inr ⟨rfl, List.mem_of_getElem? (i := 3) (by decide +kernel)⟩)) hp k
  | ⟨1, _⟩, k => exact am_inst d (hM ▸ kl_X11_31) (sx_c13 S r) rfl (Or.inr (Or.inr ⟨rfl, List.mem_of_getElem? (i := 7) (by decide +kernel)⟩)) hp k
  | ⟨2, _⟩, k => exact am_inst d (hM ▸ kl_X11_31) (sx_c14 S r) rfl (Or.inr (Or.inr ⟨rfl, List.mem_of_getElem? (i := 11) (by decide +kernel)⟩)) hp k
  | ⟨3, _⟩, k => exact am_inst d (hM ▸ kl_X11_31) (sx_c15 S r) rfl (Or.inr (Or.inr ⟨rfl, List.mem_of_getElem? (i := 14) (by decide +kernel)⟩)) hp k
  | ⟨4, _⟩, k => exact am_inst d (hM ▸ kl_X11_31) (sx_c16 S r) rfl (Or.inl ⟨rfl, rfl⟩) hp k
  | ⟨5, _⟩, k => exact am_inst d (hM ▸ kl_X11_31) (sx_c17 S r) rfl (Or.inr (Or.inr ⟨rfl, List.mem_of_getElem? (i := 22) (by decide +kernel)⟩)) hp k
  | ⟨6, _⟩, k => exact am_inst d (hM ▸ kl_X11_31) (sx_c18 S r) rfl (Or.inr (Or.inr ⟨rfl, List.mem_of_getElem? (i := 3) (by decide +kernel)⟩)) hp k
  | ⟨7, _⟩, k => exact am_inst d (hM ▸ kl_X11_31) (sx_c39 S r) rfl (Or.inr (Or.inr ⟨rfl, List.mem_of_getElem? (i := 3) (by decide +kernel)⟩)) hp k
theorem bz_isPensioner (c : Fin 8) : narrow .boolean (.int (fk_isPensioner c)) = .int (fk_isPensioner c) := by
  rw [fk_isPensioner]
  (repeat' split) <;> rfl
theorem vr_isCat {M : am_M} {g : am_g} {kn : Nat × Nat} {pc pc' : Nat} {ls : List (Option Value)} {st : List Value} (c : Fin 8) (S : sx_T) (r : am_W) (d : decode M.2.1 pc = .ok (.instanceof 34, 3)) (hM : M.1.cls = RX11) (hp : pc + 3 = pc') (k : am_G M g kn pc' ls (.int (fk_isCat c) :: st) (sx_w S r)) : am_G M g kn pc ls (.ref (am_kr c) :: st) (sx_w S r) := by
  match c, k with
  | ⟨0, _⟩, k => exact am_inst d (hM ▸ kl_X11_34) (sx_c12 S r) rfl (Or.inr (Or.inr ⟨rfl, List.mem_of_getElem? (i := 4) (by decide +kernel)⟩)) hp k
  | ⟨1, _⟩, k => exact am_inst d (hM ▸ kl_X11_34) (sx_c13 S r) rfl (Or.inr (Or.inr ⟨rfl, List.mem_of_getElem? (i := 8) (by decide +kernel)⟩)) hp k
  | ⟨2, _⟩, k => exact am_inst d (hM ▸ kl_X11_34) (sx_c14 S r) rfl (Or.inr (Or.inr ⟨rfl, List.mem_of_getElem? (i := 12) (by decide +kernel)⟩)) hp k
  | ⟨3, _⟩, k => exact am_inst d (hM ▸ kl_X11_34) (sx_c15 S r) rfl (Or.inr (Or.inr ⟨rfl, List.mem_of_getElem? (i := 15) (by decide +kernel)⟩)) hp k
  | ⟨4, _⟩, k => exact am_inst d (hM ▸ kl_X11_34) (sx_c16 S r) rfl (Or.inr (Or.inr ⟨rfl, List.mem_of_getElem? (i := 18) (by decide +kernel)⟩)) hp k
  | ⟨5, _⟩, k => exact am_inst d (hM ▸ kl_X11_34) (sx_c17 S r) rfl (Or.inl ⟨rfl, rfl⟩) hp k
  | ⟨6, _⟩, k => exact am_inst d (hM ▸ kl_X11_34) (sx_c18 S r) rfl (Or.inr (Or.inr ⟨rfl, List.mem_of_getElem? (i := 4) (by decide +kernel)⟩)) hp k
  | ⟨7, _⟩, k => exact am_inst d (hM ▸ kl_X11_34) (sx_c39 S r) rfl (Or.inr (Or.inr ⟨rfl, List.mem_of_getElem? (i := 4) (by decide +kernel)⟩)) hp k
theorem bz_isCat (c : Fin 8) : narrow .boolean (.int (fk_isCat c)) = .int (fk_isCat c) := by
  rw [fk_isCat]
  (repeat' split) <;> rfl
set_option maxRecDepth 100000 in
set_option maxHeartbeats 4000000 in
theorem tx_X11_isOfKind (r : am_W) (a1 : Fin 8) (a2 : Int32) (S : sx_T) (res : Int32) (hres : fx_X11_isOfKind a1 a2 S = res) : am_T mX11_isOfKind 0 0 0 [.ref (am_kr a1), .int a2] (sx_w S r) (some (.int res)) (sx_w S r) := by
  refine am_meth (ls := [some (.ref (am_kr a1)), some (.int a2)]) (by decide +kernel) rfl (Nat.le_of_ble_eq_true rfl) (sx_len _ _ _) ?_
  rw [fx_X11_isOfKind] at hres
  refine am_iload_n (pc' := 1) 1 dX11_isOfKind_0 rfl rfl rfl ?_
  rcases Classical.em (a2 = (0 : Int32)) with hs1 | hs1
  · rw [if_pos hs1] at hres
    refine am_tsAt (0 : Int32) 40 dX11_isOfKind_1 hs1 (by decide) (by decide) rfl rfl ?_
    refine am_iconst (pc' := 41) (v := 1) dX11_isOfKind_40 kc_1 rfl ?_
    subst hres
    exact am_zret dX11_isOfKind_41 rfl rfl rfl rfl
  · rw [if_neg hs1] at hres
    rcases Classical.em (a2 = (1 : Int32)) with hs2 | hs2
    · rw [if_pos hs2] at hres
      refine am_tsAt (1 : Int32) 42 dX11_isOfKind_1 hs2 (by decide) (by decide) rfl rfl ?_
      refine am_aload_n (pc' := 43) 0 dX11_isOfKind_42 rfl rfl rfl ?_
      refine vr_isCouple (pc' := 46) a1 S r dX11_isOfKind_43 rfl rfl ?_
      subst hres
      exact am_zret dX11_isOfKind_46 rfl (bz_isCouple a1) rfl rfl
    · rw [if_neg hs2] at hres
      rcases Classical.em (a2 = (2 : Int32)) with hs3 | hs3
      · rw [if_pos hs3] at hres
        refine am_tsAt (2 : Int32) 47 dX11_isOfKind_1 hs3 (by decide) (by decide) rfl rfl ?_
        refine am_aload_n (pc' := 48) 0 dX11_isOfKind_47 rfl rfl rfl ?_
        refine vr_isStudent (pc' := 51) a1 S r dX11_isOfKind_48 rfl rfl ?_
        subst hres
        exact am_zret dX11_isOfKind_51 rfl (bz_isStudent a1) rfl rfl
      · rw [if_neg hs3] at hres
        rcases Classical.em (a2 = (3 : Int32)) with hs4 | hs4
        · rw [if_pos hs4] at hres
          refine am_tsAt (3 : Int32) 52 dX11_isOfKind_1 hs4 (by decide) (by decide) rfl rfl ?_
          refine am_aload_n (pc' := 53) 0 dX11_isOfKind_52 rfl rfl rfl ?_
          refine vr_isDoctor (pc' := 56) a1 S r dX11_isOfKind_53 rfl rfl ?_
          subst hres
          exact am_zret dX11_isOfKind_56 rfl (bz_isDoctor a1) rfl rfl
        · rw [if_neg hs4] at hres
          rcases Classical.em (a2 = (4 : Int32)) with hs5 | hs5
          · rw [if_pos hs5] at hres
            refine am_tsAt (4 : Int32) 57 dX11_isOfKind_1 hs5 (by decide) (by decide) rfl rfl ?_
            refine am_aload_n (pc' := 58) 0 dX11_isOfKind_57 rfl rfl rfl ?_
            refine vr_isPensioner (pc' := 61) a1 S r dX11_isOfKind_58 rfl rfl ?_
            subst hres
            exact am_zret dX11_isOfKind_61 rfl (bz_isPensioner a1) rfl rfl
          · rw [if_neg hs5] at hres
            rcases Classical.em (a2 = (5 : Int32)) with hs6 | hs6
            · rw [if_pos hs6] at hres
              refine am_tsAt (5 : Int32) 62 dX11_isOfKind_1 hs6 (by decide) (by decide) rfl rfl ?_
              refine am_aload_n (pc' := 63) 0 dX11_isOfKind_62 rfl rfl rfl ?_
              refine vr_isCat (pc' := 66) a1 S r dX11_isOfKind_63 rfl rfl ?_
              subst hres
              exact am_zret dX11_isOfKind_66 rfl (bz_isCat a1) rfl rfl
            · rw [if_neg hs6] at hres
              refine am_tsOff 6 67 dX11_isOfKind_1 rfl (fun i hi => by match i, hi with | 0, _ => exact hs1 | 1, _ => exact hs2 | 2, _ => exact hs3 | 3, _ => exact hs4 | 4, _ => exact hs5 | 5, _ => exact hs6) rfl ?_
              refine am_iconst (pc' := 68) (v := 0) dX11_isOfKind_67 kc_0 rfl ?_
              subst hres
              exact am_zret dX11_isOfKind_68 rfl rfl rfl rfl
theorem bz_X11_isOfKind (a1 : Fin 8) (a2 : Int32) (S : sx_T) : narrow .boolean (.int (fx_X11_isOfKind a1 a2 S)) = .int (fx_X11_isOfKind a1 a2 S) := by
  rw [fx_X11_isOfKind]
  repeat' (first | refine nb_ite ?_ ?_ | rfl | exact bz_isCouple _ | exact bz_isStudent _ | exact bz_isDoctor _ | exact bz_isPensioner _ | exact bz_isCat _)
set_option maxRecDepth 100000 in
set_option maxHeartbeats 4000000 in
theorem tx_X11_startTold (r : am_W) (a1 : Int32) (a2 : Int32) (a3 : Int32) (S : sx_T) (res : Int32 × sx_T) (hres : fx_X11_startTold a1 a2 a3 S = some res) : am_T mX11_startTold 4 0 0 [.ref 0, .int a1, .int a2, .int a3] (sx_w S r) (some (.int res.1)) (sx_w res.2 r) := by
  refine am_meth (ls := [some (.ref 0), some (.int a1), some (.int a2), some (.int a3), none]) (by decide +kernel) rfl (Nat.le_of_ble_eq_true rfl) (sx_len _ _ _) ?_
  rw [fx_X11_startTold] at hres
  refine am_iload_n (pc' := 1) 1 dX11_startTold_0 rfl rfl rfl ?_
  refine am_iconst (pc' := 2) (v := 4) dX11_startTold_1 kc_4 rfl ?_
  refine am_cS (pc' := 5) (st' := [.int (fx_X11_within a1 (4 : Int32))]) [] [.int a1, .int (4 : Int32)] dX11_startTold_2 cs_X11_129 (tx_X11_within (sx_w S r) a1 (4 : Int32) _ rfl) rfl rfl rfl rfl rfl rfl ?_
  refine am_if_eq (pc' := 8) 16 dX11_startTold_5 rfl rfl (fun hc1 => ?_) (fun hc1 => ?_)
  · rw [if_pos hc1] at hres
    refine am_bipush (pc' := 18) (v := (-2)) dX11_startTold_16 kb_m2 rfl ?_
    obtain rfl := Option.some.inj hres
    exact am_iret dX11_startTold_18 rfl rfl rfl
  · rw [if_neg hc1] at hres
    refine am_iload_n (pc' := 9) 2 dX11_startTold_8 rfl rfl rfl ?_
    refine am_iconst (pc' := 10) (v := 4) dX11_startTold_9 kc_4 rfl ?_
    refine am_cS (pc' := 13) (st' := [.int (fx_X11_within a2 (4 : Int32))]) [] [.int a2, .int (4 : Int32)] dX11_startTold_10 cs_X11_129 (tx_X11_within (sx_w S r) a2 (4 : Int32) _ rfl) rfl rfl rfl rfl rfl rfl ?_
    refine am_if_ne (pc' := 16) 19 dX11_startTold_13 rfl rfl (fun hc2 => ?_) (fun hc2 => ?_)
    · rw [if_neg hc2] at hres
      refine am_aload_n (pc' := 20) 0 dX11_startTold_19 rfl rfl rfl ?_
      refine am_get (pc' := 23) (v := .ref 30) dX11_startTold_20 fl_X11_71 (sx_c0 S r) rfl rfl ?_
      refine am_iload_n (pc' := 24) 1 dX11_startTold_23 rfl rfl rfl ?_
      refine am_cV (pc' := 27) (st' := [.int (fx_X5_isMissing a1 S)]) [] [.int a1] dX11_startTold_24 cs_X11_292 (tx_X5_isMissing r a1 S _ rfl) rfl rfl rfl (sx_c30 S r) rfl rfl rfl rfl rfl ?_
      refine am_if_ne (pc' := 30) 41 dX11_startTold_27 rfl rfl (fun hc3 => ?_) (fun hc3 => ?_)
      · rw [if_neg hc3] at hres
        refine am_bipush (pc' := 43) (v := (-11)) dX11_startTold_41 kb_m11 rfl ?_
        obtain rfl := Option.some.inj hres
        exact am_iret dX11_startTold_43 rfl rfl rfl
      · rw [if_pos hc3] at hres
        refine am_aload_n (pc' := 31) 0 dX11_startTold_30 rfl rfl rfl ?_
        refine am_get (pc' := 34) (v := .ref 30) dX11_startTold_31 fl_X11_71 (sx_c0 S r) rfl rfl ?_
        refine am_iload_n (pc' := 35) 2 dX11_startTold_34 rfl rfl rfl ?_
        refine am_cV (pc' := 38) (st' := [.int (fx_X5_isMissing a2 S)]) [] [.int a2] dX11_startTold_35 cs_X11_292 (tx_X5_isMissing r a2 S _ rfl) rfl rfl rfl (sx_c30 S r) rfl rfl rfl rfl rfl ?_
        refine am_if_eq (pc' := 41) 44 dX11_startTold_38 rfl rfl (fun hc4 => ?_) (fun hc4 => ?_)
        · rw [if_pos hc4] at hres
          refine am_aload_n (pc' := 45) 0 dX11_startTold_44 rfl rfl rfl ?_
          refine am_iload_n (pc' := 46) 1 dX11_startTold_45 rfl rfl rfl ?_
          obtain ⟨q5, hq6, hres⟩ := am_bd_s hres
          refine am_cV (pc' := 49) (st' := [.int q5.1]) [] [.int a1] dX11_startTold_46 cs_X11_176 (tx_X11_startTour r a1 S _ hq6) rfl rfl rfl (sx_c0 S r) rfl rfl rfl rfl rfl ?_
          refine am_istore (pc' := 51) (ls' := [some (.ref 0), some (.int a1), some (.int a2), some (.int a3), some (.int q5.1)]) dX11_startTold_49 (Nat.le_of_ble_eq_true rfl) rfl rfl rfl ?_
          refine am_iload (pc' := 53) dX11_startTold_51 rfl rfl ?_
          refine am_if_eq (pc' := 56) 59 dX11_startTold_53 rfl rfl (fun hc7 => ?_) (fun hc7 => ?_)
          · rw [if_pos hc7] at hres
            refine am_aload_n (pc' := 60) 0 dX11_startTold_59 rfl rfl rfl ?_
            refine am_get (pc' := 63) (v := .ref 30) dX11_startTold_60 fl_X11_71 (sx_c0 q5.2 r) rfl rfl ?_
            refine am_iload_n (pc' := 64) 2 dX11_startTold_63 rfl rfl rfl ?_
            refine am_cV (pc' := 67) (st' := [.int (fx_X5_size a2 q5.2)]) [] [.int a2] dX11_startTold_64 cs_X11_295 (tx_X5_size r a2 q5.2 _ rfl) rfl rfl rfl (sx_c30 q5.2 r) rfl rfl rfl rfl rfl ?_
            refine am_bipush (pc' := 69) (v := 12) dX11_startTold_67 kb_12 rfl ?_
            refine am_icmp_le (pc' := 72) 75 dX11_startTold_69 rfl rfl (fun hc8 => ?_) (fun hc8 => ?_)
            · rw [if_pos hc8] at hres
              refine am_aload_n (pc' := 76) 0 dX11_startTold_75 rfl rfl rfl ?_
              refine am_iload_n (pc' := 77) 3 dX11_startTold_76 rfl rfl rfl ?_
              refine am_cV (pc' := 80) (st' := [.int (fx_X11_isViewer a3 q5.2)]) [] [.int a3] dX11_startTold_77 cs_X11_151 (tx_X11_isViewer r a3 q5.2 _ rfl) rfl rfl rfl (sx_c0 q5.2 r) rfl rfl rfl rfl rfl ?_
              refine am_if_ne (pc' := 83) 86 dX11_startTold_80 rfl rfl (fun hc9 => ?_) (fun hc9 => ?_)
              · rw [if_neg hc9] at hres
                refine am_aload_n (pc' := 87) 0 dX11_startTold_86 rfl rfl rfl ?_
                refine am_iload_n (pc' := 88) 3 dX11_startTold_87 rfl rfl rfl ?_
                refine am_iconst (pc' := 89) (v := 1) dX11_startTold_88 kc_1 rfl ?_
                obtain ⟨q10, hq11, hres⟩ := am_let_s hres
                refine am_cV (pc' := 92) (st' := []) [] [.int a3, .int (1 : Int32)] dX11_startTold_89 cs_X11_161 (tx_X11_letCome r a3 (1 : Int32) q5.2 _ hq11) rfl rfl rfl (sx_c0 q5.2 r) rfl rfl rfl rfl rfl ?_
                refine am_iconst (pc' := 93) (v := 0) dX11_startTold_92 kc_0 rfl ?_
                obtain rfl := Option.some.inj hres
                exact am_iret dX11_startTold_93 rfl rfl rfl
              · rw [if_pos hc9] at hres
                refine am_bipush (pc' := 85) (v := (-5)) dX11_startTold_83 kb_m5 rfl ?_
                obtain rfl := Option.some.inj hres
                exact am_iret dX11_startTold_85 rfl rfl rfl
            · rw [if_neg hc8] at hres
              refine am_bipush (pc' := 74) (v := (-2)) dX11_startTold_72 kb_m2 rfl ?_
              obtain rfl := Option.some.inj hres
              exact am_iret dX11_startTold_74 rfl rfl rfl
          · rw [if_neg hc7] at hres
            refine am_iload (pc' := 58) dX11_startTold_56 rfl rfl ?_
            obtain rfl := Option.some.inj hres
            exact am_iret dX11_startTold_58 rfl rfl rfl
        · rw [if_neg hc4] at hres
          refine am_bipush (pc' := 43) (v := (-11)) dX11_startTold_41 kb_m11 rfl ?_
          obtain rfl := Option.some.inj hres
          exact am_iret dX11_startTold_43 rfl rfl rfl
    · rw [if_pos hc2] at hres
      refine am_bipush (pc' := 18) (v := (-2)) dX11_startTold_16 kb_m2 rfl ?_
      obtain rfl := Option.some.inj hres
      exact am_iret dX11_startTold_18 rfl rfl rfl
set_option maxRecDepth 100000 in
set_option maxHeartbeats 4000000 in
theorem tx_X11_judge (r : am_W) (a1 : Int32) (a2 : Int32) (a3 : Int32) (S : sx_T) (res : Int32 × sx_T) (hres : fx_X11_judge a1 a2 a3 S = some res) : am_T mX11_judge 8 0 0 [.ref 0, .int a1, .int a2, .int a3] (sx_w S r) (some (.int res.1)) (sx_w res.2 r) := by
  refine am_meth (ls := [some (.ref 0), some (.int a1), some (.int a2), some (.int a3), none]) (by decide +kernel) rfl (Nat.le_of_ble_eq_true rfl) (sx_len _ _ _) ?_
  rw [fx_X11_judge] at hres
  refine am_aload_n (pc' := 1) 0 dX11_judge_0 rfl rfl rfl ?_
  refine am_iload_n (pc' := 2) 1 dX11_judge_1 rfl rfl rfl ?_
  refine am_iload_n (pc' := 3) 2 dX11_judge_2 rfl rfl rfl ?_
  refine am_iload_n (pc' := 4) 3 dX11_judge_3 rfl rfl rfl ?_
  obtain ⟨q1, hq2, hres⟩ := am_bd_s hres
  refine am_cV (pc' := 7) (st' := [.int q1.1]) [] [.int a1, .int a2, .int a3] dX11_judge_4 cs_X11_245 (tx_X11_startTold r a1 a2 a3 S _ hq2) rfl rfl rfl (sx_c0 S r) rfl rfl rfl rfl rfl ?_
  refine am_istore (pc' := 9) (ls' := [some (.ref 0), some (.int a1), some (.int a2), some (.int a3), some (.int q1.1)]) dX11_judge_7 (Nat.le_of_ble_eq_true rfl) rfl rfl rfl ?_
  refine am_iload (pc' := 11) dX11_judge_9 rfl rfl ?_
  refine am_if_eq (pc' := 14) 19 dX11_judge_11 rfl rfl (fun hc3 => ?_) (fun hc3 => ?_)
  · rw [if_pos hc3] at hres
    refine am_aload_n (pc' := 20) 0 dX11_judge_19 rfl rfl rfl ?_
    refine am_iload_n (pc' := 21) 2 dX11_judge_20 rfl rfl rfl ?_
    obtain ⟨q4, hq5, hres⟩ := am_bd_s hres
    refine am_cV (pc' := 24) (st' := [.int q4.1]) [] [.int a2] dX11_judge_21 cs_X11_249 (tx_X11_firstOtherwise r a2 q1.2 _ hq5) rfl rfl rfl (sx_c0 q1.2 r) rfl rfl rfl rfl rfl ?_
    obtain rfl := Option.some.inj hres
    exact am_iret dX11_judge_24 rfl rfl rfl
  · rw [if_neg hc3] at hres
    refine am_iload (pc' := 16) dX11_judge_14 rfl rfl ?_
    refine am_goto 24 dX11_judge_16 rfl ?_
    obtain rfl := Option.some.inj hres
    exact am_iret dX11_judge_24 rfl rfl rfl
set_option maxRecDepth 100000 in
set_option maxHeartbeats 4000000 in
theorem wx_X11_kinds_49 (r : am_W) (k35 : Int32 → Int32 → Int32 → Int32 → sx_T → Option (Int32 × sx_T)) (hk35 : ∀ (v2 : Int32) (v4 : Int32) (v6 : Int32) (v7 : Int32) (S : sx_T) (res : Int32 × sx_T), k35 v2 v4 v6 v7 S = some res → am_G mX11_kinds (none, 8, 0, 0, (some (.int res.1)), (sx_w res.2 r)) (0, 0) 35 [some (.ref 0), none, some (.int v2), none, some (.int v4), none, some (.int v6), some (.int v7)] [] (sx_w S r)) : ∀ (v2 : Int32) (v4 : Int32) (v6 : Int32) (v7 : Int32) (w0 : Int32) (w1 : Int32) (S : sx_T) (res : Int32 × sx_T) (hres : fx_X11_kinds_49 k35 v2 v4 v6 v7 w0 w1 S = some res), am_G mX11_kinds (none, 8, 0, 0, (some (.int res.1)), (sx_w res.2 r)) (0, 0) 49 [some (.ref 0), none, some (.int v2), none, some (.int v4), none, some (.int v6), some (.int v7)] [.int w1, .int w0] (sx_w S r) := by
  intro v2 v4 v6 v7 w0 w1 S res hres
  rw [fx_X11_kinds_49] at hres
  refine am_icmp_ge (pc' := 52) 106 dX11_kinds_49 rfl rfl (fun hc6 => ?_) (fun hc6 => ?_)
  · rw [if_pos hc6] at hres
    refine am_iload (pc' := 108) dX11_kinds_106 rfl rfl ?_
    obtain rfl := Option.some.inj hres
    exact am_iret dX11_kinds_108 rfl rfl rfl
  · rw [if_neg hc6] at hres
    refine am_iload (pc' := 54) dX11_kinds_52 rfl rfl ?_
    refine am_if_ne (pc' := 57) 73 dX11_kinds_54 rfl rfl (fun hc7 => ?_) (fun hc7 => ?_)
    · rw [if_neg hc7] at hres
      refine am_aload_n (pc' := 74) 0 dX11_kinds_73 rfl rfl rfl ?_
      refine am_get (pc' := 77) (v := .ref 34) dX11_kinds_74 fl_X11_78 (sx_c0 S r) rfl rfl ?_
      refine am_iload (pc' := 79) dX11_kinds_77 rfl rfl ?_
      obtain ⟨q8, hq9, hres⟩ := am_let_s hres
      refine am_cV (pc' := 82) (st' := []) [] [.int v7] dX11_kinds_79 cs_X11_260 (tx_X10_setMore r v7 S _ hq9) rfl rfl rfl (sx_c34 S r) rfl rfl rfl rfl rfl ?_
      refine am_aload_n (pc' := 83) 0 dX11_kinds_82 rfl rfl rfl ?_
      refine am_iload_n (pc' := 84) 2 dX11_kinds_83 rfl rfl rfl ?_
      obtain ⟨q10, hq11, hres⟩ := am_bd_s hres
      refine am_cV (pc' := 87) (st' := [.int q10.1]) [] [.int v2] dX11_kinds_84 cs_X11_249 (tx_X11_firstOtherwise r v2 q8 _ hq11) rfl rfl rfl (sx_c0 q8 r) rfl rfl rfl rfl rfl ?_
      refine am_iconst (pc' := 88) (v := (-1)) dX11_kinds_87 kc_m1 rfl ?_
      refine am_icmp_ne (pc' := 91) 100 dX11_kinds_88 rfl rfl (fun hc12 => ?_) (fun hc12 => ?_)
      · rw [if_neg hc12] at hres
        refine am_iinc (pc' := 103) (ls' := [some (.ref 0), none, some (.int v2), none, some (.int v4), none, some (.int v6), some (.int (v7 + (1 : Int32)))]) dX11_kinds_100 rfl (show v7 + Int32.ofInt 1 = (v7 + (1 : Int32)) from congrArg (fun z => v7 + z) kc_1) (Nat.le_of_ble_eq_true rfl) rfl rfl rfl ?_
        refine am_goto 35 dX11_kinds_103 rfl ?_
        exact hk35 _ _ _ _ _ _ hres
      · rw [if_pos hc12] at hres
        refine am_iload (pc' := 93) dX11_kinds_91 rfl rfl ?_
        refine am_iconst (pc' := 94) (v := 1) dX11_kinds_93 kc_1 rfl ?_
        refine am_iload (pc' := 96) dX11_kinds_94 rfl rfl ?_
        refine am_ishl (pc' := 97) dX11_kinds_96 rfl ?_
        refine am_ior (pc' := 98) dX11_kinds_97 rfl ?_
        refine am_istore (pc' := 100) (ls' := [some (.ref 0), none, some (.int v2), none, some (.int v4), none, some (.int (v6 ||| ((1 : Int32) <<< (v7 &&& 31)))), some (.int v7)]) dX11_kinds_98 (Nat.le_of_ble_eq_true rfl) rfl rfl rfl ?_
        refine am_iinc (pc' := 103) (ls' := [some (.ref 0), none, some (.int v2), none, some (.int v4), none, some (.int (v6 ||| ((1 : Int32) <<< (v7 &&& 31)))), some (.int (v7 + (1 : Int32)))]) dX11_kinds_100 rfl (show v7 + Int32.ofInt 1 = (v7 + (1 : Int32)) from congrArg (fun z => v7 + z) kc_1) (Nat.le_of_ble_eq_true rfl) rfl rfl rfl ?_
        refine am_goto 35 dX11_kinds_103 rfl ?_
        exact hk35 _ _ _ _ _ _ hres
    · rw [if_pos hc7] at hres
      refine am_aload_n (pc' := 58) 0 dX11_kinds_57 rfl rfl rfl ?_
      refine am_get (pc' := 61) (v := .ref 34) dX11_kinds_58 fl_X11_78 (sx_c0 S r) rfl rfl ?_
      refine am_aload_n (pc' := 62) 0 dX11_kinds_61 rfl rfl rfl ?_
      refine am_iload (pc' := 64) dX11_kinds_62 rfl rfl ?_
      refine am_cV (pc' := 67) (st' := [.ref (am_kr (fx_X11_kindAt v7)), .ref 34]) [.ref 34] [.int v7] dX11_kinds_64 cs_X11_252 (tx_X11_kindAt r S v7) rfl rfl rfl (sx_c0 S r) rfl rfl rfl rfl rfl ?_
      obtain ⟨q13, hq14, hres⟩ := am_let_s hres
      refine am_cV (pc' := 70) (st' := []) [] [.ref (am_kr (fx_X11_kindAt v7))] dX11_kinds_67 cs_X11_256 (tx_X10_setKind r (fx_X11_kindAt v7) S _ hq14) rfl rfl rfl (sx_c34 S r) rfl rfl rfl rfl rfl ?_
      refine am_goto 82 dX11_kinds_70 rfl ?_
      refine am_aload_n (pc' := 83) 0 dX11_kinds_82 rfl rfl rfl ?_
      refine am_iload_n (pc' := 84) 2 dX11_kinds_83 rfl rfl rfl ?_
      obtain ⟨q15, hq16, hres⟩ := am_bd_s hres
      refine am_cV (pc' := 87) (st' := [.int q15.1]) [] [.int v2] dX11_kinds_84 cs_X11_249 (tx_X11_firstOtherwise r v2 q13 _ hq16) rfl rfl rfl (sx_c0 q13 r) rfl rfl rfl rfl rfl ?_
      refine am_iconst (pc' := 88) (v := (-1)) dX11_kinds_87 kc_m1 rfl ?_
      refine am_icmp_ne (pc' := 91) 100 dX11_kinds_88 rfl rfl (fun hc17 => ?_) (fun hc17 => ?_)
      · rw [if_neg hc17] at hres
        refine am_iinc (pc' := 103) (ls' := [some (.ref 0), none, some (.int v2), none, some (.int v4), none, some (.int v6), some (.int (v7 + (1 : Int32)))]) dX11_kinds_100 rfl (show v7 + Int32.ofInt 1 = (v7 + (1 : Int32)) from congrArg (fun z => v7 + z) kc_1) (Nat.le_of_ble_eq_true rfl) rfl rfl rfl ?_
        refine am_goto 35 dX11_kinds_103 rfl ?_
        exact hk35 _ _ _ _ _ _ hres
      · rw [if_pos hc17] at hres
        refine am_iload (pc' := 93) dX11_kinds_91 rfl rfl ?_
        refine am_iconst (pc' := 94) (v := 1) dX11_kinds_93 kc_1 rfl ?_
        refine am_iload (pc' := 96) dX11_kinds_94 rfl rfl ?_
        refine am_ishl (pc' := 97) dX11_kinds_96 rfl ?_
        refine am_ior (pc' := 98) dX11_kinds_97 rfl ?_
        refine am_istore (pc' := 100) (ls' := [some (.ref 0), none, some (.int v2), none, some (.int v4), none, some (.int (v6 ||| ((1 : Int32) <<< (v7 &&& 31)))), some (.int v7)]) dX11_kinds_98 (Nat.le_of_ble_eq_true rfl) rfl rfl rfl ?_
        refine am_iinc (pc' := 103) (ls' := [some (.ref 0), none, some (.int v2), none, some (.int v4), none, some (.int (v6 ||| ((1 : Int32) <<< (v7 &&& 31)))), some (.int (v7 + (1 : Int32)))]) dX11_kinds_100 rfl (show v7 + Int32.ofInt 1 = (v7 + (1 : Int32)) from congrArg (fun z => v7 + z) kc_1) (Nat.le_of_ble_eq_true rfl) rfl rfl rfl ?_
        refine am_goto 35 dX11_kinds_103 rfl ?_
        exact hk35 _ _ _ _ _ _ hres

set_option maxRecDepth 100000 in
set_option maxHeartbeats 4000000 in
theorem wx_X11_kinds_35 (r : am_W) : ∀ (n : Nat) (v2 : Int32) (v4 : Int32) (v6 : Int32) (v7 : Int32) (S : sx_T) (res : Int32 × sx_T) (hres : fx_X11_kinds_35 n v2 v4 v6 v7 S = some res), am_G mX11_kinds (none, 8, 0, 0, (some (.int res.1)), (sx_w res.2 r)) (0, 0) 35 [some (.ref 0), none, some (.int v2), none, some (.int v4), none, some (.int v6), some (.int v7)] [] (sx_w S r) := by
  intro n
  induction n with
  | zero =>
    intro v2 v4 v6 v7 S res hres
    cases hres
  | succ n ih =>
    intro v2 v4 v6 v7 S res hres
    rw [fx_X11_kinds_35] at hres
    refine am_iload (pc' := 37) dX11_kinds_35 rfl rfl ?_
    refine am_iload (pc' := 39) dX11_kinds_37 rfl rfl ?_
    refine am_if_ne (pc' := 42) 47 dX11_kinds_39 rfl rfl (fun hc5 => ?_) (fun hc5 => ?_)
    · rw [if_neg hc5] at hres
      refine am_bipush (pc' := 49) (v := 10) dX11_kinds_47 kb_10 rfl ?_
      exact wx_X11_kinds_49 r _ (fun a0 a1 a2 a3 a4 => ih a0 a1 a2 a3 a4) _ _ _ _ _ _ _ _ hres
    · rw [if_pos hc5] at hres
      refine am_bipush (pc' := 44) (v := 6) dX11_kinds_42 kb_6 rfl ?_
      refine am_goto 49 dX11_kinds_44 rfl ?_
      exact wx_X11_kinds_49 r _ (fun a0 a1 a2 a3 a4 => ih a0 a1 a2 a3 a4) _ _ _ _ _ _ _ _ hres

set_option maxRecDepth 100000 in
set_option maxHeartbeats 4000000 in
theorem tx_X11_kinds (r : am_W) (a1 : Int32) (a2 : Int32) (a3 : Int32) (a4 : Int32) (S : sx_T) (res : Int32 × sx_T) (hres : fx_X11_kinds a1 a2 a3 a4 S = some res) : am_T mX11_kinds 8 0 0 [.ref 0, .int a1, .int a2, .int a3, .int a4] (sx_w S r) (some (.int res.1)) (sx_w res.2 r) := by
  refine am_meth (ls := [some (.ref 0), some (.int a1), some (.int a2), some (.int a3), some (.int a4), none, none, none]) (by decide +kernel) rfl (Nat.le_of_ble_eq_true rfl) (sx_len _ _ _) ?_
  rw [fx_X11_kinds] at hres
  refine am_aload_n (pc' := 1) 0 dX11_kinds_0 rfl rfl rfl ?_
  refine am_iload_n (pc' := 2) 1 dX11_kinds_1 rfl rfl rfl ?_
  refine am_iload_n (pc' := 3) 2 dX11_kinds_2 rfl rfl rfl ?_
  refine am_iload_n (pc' := 4) 3 dX11_kinds_3 rfl rfl rfl ?_
  obtain ⟨q1, hq2, hres⟩ := am_bd_s hres
  refine am_cV (pc' := 7) (st' := [.int q1.1]) [] [.int a1, .int a2, .int a3] dX11_kinds_4 cs_X11_245 (tx_X11_startTold r a1 a2 a3 S _ hq2) rfl rfl rfl (sx_c0 S r) rfl rfl rfl rfl rfl ?_
  refine am_istore (pc' := 9) (ls' := [some (.ref 0), some (.int a1), some (.int a2), some (.int a3), some (.int a4), some (.int q1.1), none, none]) dX11_kinds_7 (Nat.le_of_ble_eq_true rfl) rfl rfl rfl ?_
  refine am_iload (pc' := 11) dX11_kinds_9 rfl rfl ?_
  refine am_if_eq (pc' := 14) 17 dX11_kinds_11 rfl rfl (fun hc3 => ?_) (fun hc3 => ?_)
  · rw [if_pos hc3] at hres
    refine am_iload (pc' := 19) dX11_kinds_17 rfl rfl ?_
    refine am_iconst (pc' := 20) (v := 2) dX11_kinds_19 kc_2 rfl ?_
    refine am_cS (pc' := 23) (st' := [.int (fx_X11_within a4 (2 : Int32))]) [] [.int a4, .int (2 : Int32)] dX11_kinds_20 cs_X11_129 (tx_X11_within (sx_w q1.2 r) a4 (2 : Int32) _ rfl) rfl rfl rfl rfl rfl rfl ?_
    refine am_if_ne (pc' := 26) 29 dX11_kinds_23 rfl rfl (fun hc4 => ?_) (fun hc4 => ?_)
    · rw [if_neg hc4] at hres
      refine am_iconst (pc' := 30) (v := 0) dX11_kinds_29 kc_0 rfl ?_
      refine am_istore (pc' := 32) (ls' := [some (.ref 0), some (.int a1), some (.int a2), some (.int a3), some (.int a4), some (.int q1.1), some (.int (0 : Int32)), none]) dX11_kinds_30 (Nat.le_of_ble_eq_true rfl) rfl rfl rfl ?_
      refine am_iconst (pc' := 33) (v := 0) dX11_kinds_32 kc_0 rfl ?_
      refine am_istore (pc' := 35) (ls' := [some (.ref 0), some (.int a1), some (.int a2), some (.int a3), some (.int a4), some (.int q1.1), some (.int (0 : Int32)), some (.int (0 : Int32))]) dX11_kinds_33 (Nat.le_of_ble_eq_true rfl) rfl rfl rfl ?_
      refine am_weak (ls' := [some (.ref 0), none, some (.int a2), none, some (.int a4), none, some (.int (0 : Int32)), some (.int (0 : Int32))]) [false, true, false, true, false, true, false, false] rfl ?_
      exact wx_X11_kinds_35 r am_fu _ _ _ _ _ _ hres
    · rw [if_pos hc4] at hres
      refine am_bipush (pc' := 28) (v := (-7)) dX11_kinds_26 kb_m7 rfl ?_
      obtain rfl := Option.some.inj hres
      exact am_iret dX11_kinds_28 rfl rfl rfl
  · rw [if_neg hc3] at hres
    refine am_iload (pc' := 16) dX11_kinds_14 rfl rfl ?_
    obtain rfl := Option.some.inj hres
    exact am_iret dX11_kinds_16 rfl rfl rfl
set_option maxRecDepth 100000 in
set_option maxHeartbeats 4000000 in
theorem wx_X11_laws_23 (r : am_W) : ∀ (n : Nat) (v2 : Int32) (v5 : Int32) (v6 : Int32) (S : sx_T) (res : Int32 × sx_T) (hres : fx_X11_laws_23 n v2 v5 v6 S = some res), am_G mX11_laws (none, 8, 0, 0, (some (.int res.1)), (sx_w res.2 r)) (0, 0) 23 [some (.ref 0), none, some (.int v2), none, none, some (.int v5), some (.int v6)] [] (sx_w S r) := by
  intro n
  induction n with
  | zero =>
    intro v2 v5 v6 S res hres
    cases hres
  | succ n ih =>
    intro v2 v5 v6 S res hres
    rw [fx_X11_laws_23] at hres
    refine am_iload (pc' := 25) dX11_laws_23 rfl rfl ?_
    refine am_aload_n (pc' := 26) 0 dX11_laws_25 rfl rfl rfl ?_
    refine am_get (pc' := 29) (v := .ref 21) dX11_laws_26 fl_X11_55 (sx_c0 S r) rfl rfl ?_
    refine am_get (pc' := 32) (v := .int (sx_tx_count S)) dX11_laws_29 fl_X11_117 (sx_c21 S r) rfl rfl ?_
    refine am_icmp_ge (pc' := 35) 68 dX11_laws_32 rfl rfl (fun hc4 => ?_) (fun hc4 => ?_)
    · rw [if_pos hc4] at hres
      refine am_iload (pc' := 70) dX11_laws_68 rfl rfl ?_
      obtain rfl := Option.some.inj hres
      exact am_iret dX11_laws_70 rfl rfl rfl
    · rw [if_neg hc4] at hres
      refine am_aload_n (pc' := 36) 0 dX11_laws_35 rfl rfl rfl ?_
      refine am_get (pc' := 39) (v := .ref 34) dX11_laws_36 fl_X11_78 (sx_c0 S r) rfl rfl ?_
      refine am_iload (pc' := 41) dX11_laws_39 rfl rfl ?_
      obtain ⟨q5, hq6, hres⟩ := am_let_s hres
      refine am_cV (pc' := 44) (st' := []) [] [.int v6] dX11_laws_41 cs_X11_269 (tx_X10_setLaw r v6 S _ hq6) rfl rfl rfl (sx_c34 S r) rfl rfl rfl rfl rfl ?_
      refine am_aload_n (pc' := 45) 0 dX11_laws_44 rfl rfl rfl ?_
      refine am_iload_n (pc' := 46) 2 dX11_laws_45 rfl rfl rfl ?_
      obtain ⟨q7, hq8, hres⟩ := am_bd_s hres
      refine am_cV (pc' := 49) (st' := [.int q7.1]) [] [.int v2] dX11_laws_46 cs_X11_249 (tx_X11_firstOtherwise r v2 q5 _ hq8) rfl rfl rfl (sx_c0 q5 r) rfl rfl rfl rfl rfl ?_
      refine am_iconst (pc' := 50) (v := (-1)) dX11_laws_49 kc_m1 rfl ?_
      refine am_icmp_ne (pc' := 53) 62 dX11_laws_50 rfl rfl (fun hc9 => ?_) (fun hc9 => ?_)
      · rw [if_neg hc9] at hres
        refine am_iinc (pc' := 65) (ls' := [some (.ref 0), none, some (.int v2), none, none, some (.int v5), some (.int (v6 + (1 : Int32)))]) dX11_laws_62 rfl (show v6 + Int32.ofInt 1 = (v6 + (1 : Int32)) from congrArg (fun z => v6 + z) kc_1) (Nat.le_of_ble_eq_true rfl) rfl rfl rfl ?_
        refine am_goto 23 dX11_laws_65 rfl ?_
        exact ih _ _ _ _ _ hres
      · rw [if_pos hc9] at hres
        refine am_iload (pc' := 55) dX11_laws_53 rfl rfl ?_
        refine am_iconst (pc' := 56) (v := 1) dX11_laws_55 kc_1 rfl ?_
        refine am_iload (pc' := 58) dX11_laws_56 rfl rfl ?_
        refine am_ishl (pc' := 59) dX11_laws_58 rfl ?_
        refine am_ior (pc' := 60) dX11_laws_59 rfl ?_
        refine am_istore (pc' := 62) (ls' := [some (.ref 0), none, some (.int v2), none, none, some (.int (v5 ||| ((1 : Int32) <<< (v6 &&& 31)))), some (.int v6)]) dX11_laws_60 (Nat.le_of_ble_eq_true rfl) rfl rfl rfl ?_
        refine am_iinc (pc' := 65) (ls' := [some (.ref 0), none, some (.int v2), none, none, some (.int (v5 ||| ((1 : Int32) <<< (v6 &&& 31)))), some (.int (v6 + (1 : Int32)))]) dX11_laws_62 rfl (show v6 + Int32.ofInt 1 = (v6 + (1 : Int32)) from congrArg (fun z => v6 + z) kc_1) (Nat.le_of_ble_eq_true rfl) rfl rfl rfl ?_
        refine am_goto 23 dX11_laws_65 rfl ?_
        exact ih _ _ _ _ _ hres

set_option maxRecDepth 100000 in
set_option maxHeartbeats 4000000 in
theorem tx_X11_laws (r : am_W) (a1 : Int32) (a2 : Int32) (a3 : Int32) (S : sx_T) (res : Int32 × sx_T) (hres : fx_X11_laws a1 a2 a3 S = some res) : am_T mX11_laws 8 0 0 [.ref 0, .int a1, .int a2, .int a3] (sx_w S r) (some (.int res.1)) (sx_w res.2 r) := by
  refine am_meth (ls := [some (.ref 0), some (.int a1), some (.int a2), some (.int a3), none, none, none]) (by decide +kernel) rfl (Nat.le_of_ble_eq_true rfl) (sx_len _ _ _) ?_
  rw [fx_X11_laws] at hres
  refine am_aload_n (pc' := 1) 0 dX11_laws_0 rfl rfl rfl ?_
  refine am_iload_n (pc' := 2) 1 dX11_laws_1 rfl rfl rfl ?_
  refine am_iload_n (pc' := 3) 2 dX11_laws_2 rfl rfl rfl ?_
  refine am_iload_n (pc' := 4) 3 dX11_laws_3 rfl rfl rfl ?_
  obtain ⟨q1, hq2, hres⟩ := am_bd_s hres
  refine am_cV (pc' := 7) (st' := [.int q1.1]) [] [.int a1, .int a2, .int a3] dX11_laws_4 cs_X11_245 (tx_X11_startTold r a1 a2 a3 S _ hq2) rfl rfl rfl (sx_c0 S r) rfl rfl rfl rfl rfl ?_
  refine am_istore (pc' := 9) (ls' := [some (.ref 0), some (.int a1), some (.int a2), some (.int a3), some (.int q1.1), none, none]) dX11_laws_7 (Nat.le_of_ble_eq_true rfl) rfl rfl rfl ?_
  refine am_iload (pc' := 11) dX11_laws_9 rfl rfl ?_
  refine am_if_eq (pc' := 14) 17 dX11_laws_11 rfl rfl (fun hc3 => ?_) (fun hc3 => ?_)
  · rw [if_pos hc3] at hres
    refine am_iconst (pc' := 18) (v := 0) dX11_laws_17 kc_0 rfl ?_
    refine am_istore (pc' := 20) (ls' := [some (.ref 0), some (.int a1), some (.int a2), some (.int a3), some (.int q1.1), some (.int (0 : Int32)), none]) dX11_laws_18 (Nat.le_of_ble_eq_true rfl) rfl rfl rfl ?_
    refine am_iconst (pc' := 21) (v := 0) dX11_laws_20 kc_0 rfl ?_
    refine am_istore (pc' := 23) (ls' := [some (.ref 0), some (.int a1), some (.int a2), some (.int a3), some (.int q1.1), some (.int (0 : Int32)), some (.int (0 : Int32))]) dX11_laws_21 (Nat.le_of_ble_eq_true rfl) rfl rfl rfl ?_
    refine am_weak (ls' := [some (.ref 0), none, some (.int a2), none, none, some (.int (0 : Int32)), some (.int (0 : Int32))]) [false, true, false, true, true, false, false] rfl ?_
    exact wx_X11_laws_23 r am_fu _ _ _ _ _ hres
  · rw [if_neg hc3] at hres
    refine am_iload (pc' := 16) dX11_laws_14 rfl rfl ?_
    obtain rfl := Option.some.inj hres
    exact am_iret dX11_laws_16 rfl rfl rfl
set_option maxRecDepth 100000 in
set_option maxHeartbeats 4000000 in
theorem tx_X11_mostOffered (r : am_W) (a1 : Int32) (S : sx_T) (res : Int32) (hres : fx_X11_mostOffered a1 S = some res) : am_T mX11_mostOffered 2 0 0 [.ref 0, .int a1] (sx_w S r) (some (.int res)) (sx_w S r) := by
  refine am_meth (ls := [some (.ref 0), some (.int a1), none]) (by decide +kernel) rfl (Nat.le_of_ble_eq_true rfl) (sx_len _ _ _) ?_
  rw [fx_X11_mostOffered] at hres
  refine am_aload_n (pc' := 1) 0 dX11_mostOffered_0 rfl rfl rfl ?_
  refine am_iload_n (pc' := 2) 1 dX11_mostOffered_1 rfl rfl rfl ?_
  obtain ⟨q1, hq2, hres⟩ := am_bd_s hres
  refine am_cV (pc' := 5) (st' := [.int q1]) [] [.int a1] dX11_mostOffered_2 cs_X11_205 (tx_X11_firstOfMost r a1 S _ hq2) rfl rfl rfl (sx_c0 S r) rfl rfl rfl rfl rfl ?_
  refine am_istore_n (pc' := 6) (ls' := [some (.ref 0), some (.int a1), some (.int q1)]) 2 dX11_mostOffered_5 rfl (Nat.le_of_ble_eq_true rfl) rfl rfl rfl ?_
  refine am_iload_n (pc' := 7) 2 dX11_mostOffered_6 rfl rfl rfl ?_
  refine am_iconst (pc' := 8) (v := (-1)) dX11_mostOffered_7 kc_m1 rfl ?_
  refine am_icmp_ne (pc' := 11) 15 dX11_mostOffered_8 rfl rfl (fun hc3 => ?_) (fun hc3 => ?_)
  · rw [if_neg hc3] at hres
    refine am_aload_n (pc' := 16) 0 dX11_mostOffered_15 rfl rfl rfl ?_
    refine am_get (pc' := 19) (v := .ref 44) dX11_mostOffered_16 fl_X11_91 (sx_c0 S r) rfl rfl ?_
    refine am_iload_n (pc' := 20) 2 dX11_mostOffered_19 rfl rfl rfl ?_
    refine am_cS (pc' := 23) (st' := [.int (am_rd 8 (sx_offered S) q1)]) [] [.ref 44, .int q1] dX11_mostOffered_20 cs_X11_139 (tx_at (f := (sx_offered S)) (sx_c44 S r) rfl q1) rfl rfl rfl rfl rfl rfl ?_
    obtain rfl := Option.some.inj hres
    exact am_iret dX11_mostOffered_23 rfl rfl rfl
  · rw [if_pos hc3] at hres
    refine am_iconst (pc' := 12) (v := 0) dX11_mostOffered_11 kc_0 rfl ?_
    refine am_goto 23 dX11_mostOffered_12 rfl ?_
    obtain rfl := Option.some.inj hres
    exact am_iret dX11_mostOffered_23 rfl rfl rfl
set_option maxRecDepth 100000 in
set_option maxHeartbeats 4000000 in
theorem wx_X11_odds_80 (r : am_W) : ∀ (n : Nat) (v1 : Int32) (v2 : Int32) (v3 : Int32) (v4 : Int32) (v5 : Int32) (v6 : Int32) (S : sx_T) (res : Int64 × sx_T) (hres : fx_X11_odds_80 n v1 v2 v3 v4 v5 v6 S = some res), am_G mX11_odds (none, 7, 0, 0, (some (.long res.1)), (sx_w res.2 r)) (0, 0) 80 [some (.ref 0), some (.int v1), some (.int v2), some (.int v3), some (.int v4), some (.int v5), some (.int v6)] [] (sx_w S r) := by
  intro n
  induction n with
  | zero =>
    intro v1 v2 v3 v4 v5 v6 S res hres
    cases hres
  | succ n ih =>
    intro v1 v2 v3 v4 v5 v6 S res hres
    rw [fx_X11_odds_80] at hres
    refine am_iload (pc' := 82) dX11_odds_80 rfl rfl ?_
    refine am_iload_n (pc' := 83) 2 dX11_odds_82 rfl rfl rfl ?_
    refine am_icmp_ge (pc' := 86) 132 dX11_odds_83 rfl rfl (fun hc11 => ?_) (fun hc11 => ?_)
    · rw [if_pos hc11] at hres
      refine am_iload (pc' := 134) dX11_odds_132 rfl rfl ?_
      refine am_iload_n (pc' := 135) 2 dX11_odds_134 rfl rfl rfl ?_
      refine am_iload (pc' := 137) dX11_odds_135 rfl rfl ?_
      obtain ⟨q12, hq13, hres⟩ := am_bd_s hres
      refine am_cS (pc' := 140) (st' := [.long q12]) [] [.int v5, .int v2, .int v4] dX11_odds_137 cs_X11_241 (tx_X11_inLowestTerms (sx_w S r) v5 v2 v4 _ hq13) rfl rfl rfl rfl rfl rfl ?_
      obtain rfl := Option.some.inj hres
      exact am_lret dX11_odds_140 rfl rfl rfl
    · rw [if_neg hc11] at hres
      refine am_aload_n (pc' := 87) 0 dX11_odds_86 rfl rfl rfl ?_
      refine am_iload_n (pc' := 88) 1 dX11_odds_87 rfl rfl rfl ?_
      refine am_iload (pc' := 90) dX11_odds_88 rfl rfl ?_
      refine am_iadd (pc' := 91) dX11_odds_90 rfl ?_
      obtain ⟨q14, hq15, hres⟩ := am_bd_s hres
      refine am_cV (pc' := 94) (st' := []) [] [.int (v1 + v6)] dX11_odds_91 cs_X11_282 (tx_X11_drawOrder r (v1 + v6) S _ hq15) rfl rfl rfl (sx_c0 S r) rfl rfl rfl rfl rfl ?_
      refine am_aload_n (pc' := 95) 0 dX11_odds_94 rfl rfl rfl ?_
      refine am_get (pc' := 98) (v := .ref 34) dX11_odds_95 fl_X11_78 (sx_c0 q14 r) rfl rfl ?_
      refine am_aload_n (pc' := 99) 0 dX11_odds_98 rfl rfl rfl ?_
      refine am_get (pc' := 102) (v := .ref 41) dX11_odds_99 fl_X11_82 (sx_c0 q14 r) rfl rfl ?_
      refine am_bipush (pc' := 104) (v := 6) dX11_odds_102 kb_6 rfl ?_
      refine am_iconst (pc' := 105) (v := (-1)) dX11_odds_104 kc_m1 rfl ?_
      obtain ⟨q16, hq17, hres⟩ := am_bd_s hres
      refine am_cV (pc' := 108) (st' := []) [] [.ref 41, .int (6 : Int32), .int (-1 : Int32)] dX11_odds_105 cs_X11_230 (tx_X10_walk_r41 r (6 : Int32) (-1 : Int32) q14 _ hq17) rfl rfl rfl (sx_c34 q14 r) rfl rfl rfl rfl rfl ?_
      refine am_aload_n (pc' := 109) 0 dX11_odds_108 rfl rfl rfl ?_
      refine am_get (pc' := 112) (v := .ref 34) dX11_odds_109 fl_X11_78 (sx_c0 q16 r) rfl rfl ?_
      obtain ⟨q18, hq19, hres⟩ := am_bd_s hres
      refine am_cV (pc' := 115) (st' := [.int q18.1]) [] [] dX11_odds_112 cs_X11_185 (tx_X10_offer r q16 _ hq19) rfl rfl rfl (sx_c34 q16 r) rfl rfl rfl rfl rfl ?_
      refine am_iload_n (pc' := 116) 3 dX11_odds_115 rfl rfl rfl ?_
      refine am_sipush (pc' := 119) (v := 10000) dX11_odds_116 ks_10000 rfl ?_
      refine am_irem (pc' := 120) dX11_odds_119 (by decide) rfl ?_
      refine am_icmp_lt (pc' := 123) 126 dX11_odds_120 rfl rfl (fun hc20 => ?_) (fun hc20 => ?_)
      · rw [if_pos hc20] at hres
        refine am_iinc (pc' := 129) (ls' := [some (.ref 0), some (.int v1), some (.int v2), some (.int v3), some (.int v4), some (.int v5), some (.int (v6 + (1 : Int32)))]) dX11_odds_126 rfl (show v6 + Int32.ofInt 1 = (v6 + (1 : Int32)) from congrArg (fun z => v6 + z) kc_1) (Nat.le_of_ble_eq_true rfl) rfl rfl rfl ?_
        refine am_goto 80 dX11_odds_129 rfl ?_
        exact ih _ _ _ _ _ _ _ _ hres
      · rw [if_neg hc20] at hres
        refine am_iinc (pc' := 126) (ls' := [some (.ref 0), some (.int v1), some (.int v2), some (.int v3), some (.int v4), some (.int (v5 + (1 : Int32))), some (.int v6)]) dX11_odds_123 rfl (show v5 + Int32.ofInt 1 = (v5 + (1 : Int32)) from congrArg (fun z => v5 + z) kc_1) (Nat.le_of_ble_eq_true rfl) rfl rfl rfl ?_
        refine am_iinc (pc' := 129) (ls' := [some (.ref 0), some (.int v1), some (.int v2), some (.int v3), some (.int v4), some (.int (v5 + (1 : Int32))), some (.int (v6 + (1 : Int32)))]) dX11_odds_126 rfl (show v6 + Int32.ofInt 1 = (v6 + (1 : Int32)) from congrArg (fun z => v6 + z) kc_1) (Nat.le_of_ble_eq_true rfl) rfl rfl rfl ?_
        refine am_goto 80 dX11_odds_129 rfl ?_
        exact ih _ _ _ _ _ _ _ _ hres

set_option maxRecDepth 100000 in
set_option maxHeartbeats 4000000 in
theorem tx_X11_odds (r : am_W) (a1 : Int32) (a2 : Int32) (a3 : Int32) (a4 : Int32) (S : sx_T) (res : Int64 × sx_T) (hres : fx_X11_odds a1 a2 a3 a4 S = some res) : am_T mX11_odds 7 0 0 [.ref 0, .int a1, .int a2, .int a3, .int a4] (sx_w S r) (some (.long res.1)) (sx_w res.2 r) := by
  refine am_meth (ls := [some (.ref 0), some (.int a1), some (.int a2), some (.int a3), some (.int a4), none, none]) (by decide +kernel) rfl (Nat.le_of_ble_eq_true rfl) (sx_len _ _ _) ?_
  rw [fx_X11_odds] at hres
  refine am_iload_n (pc' := 1) 1 dX11_odds_0 rfl rfl rfl ?_
  refine am_ldc (pc' := 3) dX11_odds_1 ck_X11_169 rfl ?_
  refine am_cS (pc' := 6) (st' := [.int (fx_X11_within a1 (100000 : Int32))]) [] [.int a1, .int (100000 : Int32)] dX11_odds_3 cs_X11_129 (tx_X11_within (sx_w S r) a1 (100000 : Int32) _ rfl) rfl rfl rfl rfl rfl rfl ?_
  refine am_if_eq (pc' := 9) 20 dX11_odds_6 rfl rfl (fun hc1 => ?_) (fun hc1 => ?_)
  · rw [if_pos hc1] at hres
    refine am_ldc2 (pc' := 23) dX11_odds_20 ck_X11_236 rfl ?_
    obtain rfl := Option.some.inj hres
    exact am_lret dX11_odds_23 rfl rfl rfl
  · rw [if_neg hc1] at hres
    refine am_iload_n (pc' := 10) 2 dX11_odds_9 rfl rfl rfl ?_
    refine am_iconst (pc' := 11) (v := 1) dX11_odds_10 kc_1 rfl ?_
    refine am_icmp_lt (pc' := 14) 20 dX11_odds_11 rfl rfl (fun hc2 => ?_) (fun hc2 => ?_)
    · rw [if_pos hc2] at hres
      refine am_ldc2 (pc' := 23) dX11_odds_20 ck_X11_236 rfl ?_
      obtain rfl := Option.some.inj hres
      exact am_lret dX11_odds_23 rfl rfl rfl
    · rw [if_neg hc2] at hres
      refine am_iload_n (pc' := 15) 2 dX11_odds_14 rfl rfl rfl ?_
      refine am_bipush (pc' := 17) (v := 40) dX11_odds_15 kb_40 rfl ?_
      refine am_icmp_le (pc' := 20) 24 dX11_odds_17 rfl rfl (fun hc3 => ?_) (fun hc3 => ?_)
      · rw [if_pos hc3] at hres
        refine am_iload_n (pc' := 25) 3 dX11_odds_24 rfl rfl rfl ?_
        refine am_if_lt (pc' := 28) 49 dX11_odds_25 rfl rfl (fun hc4 => ?_) (fun hc4 => ?_)
        · rw [if_pos hc4] at hres
          refine am_ldc2 (pc' := 52) dX11_odds_49 ck_X11_236 rfl ?_
          obtain rfl := Option.some.inj hres
          exact am_lret dX11_odds_52 rfl rfl rfl
        · rw [if_neg hc4] at hres
          refine am_aload_n (pc' := 29) 0 dX11_odds_28 rfl rfl rfl ?_
          refine am_iload_n (pc' := 30) 3 dX11_odds_29 rfl rfl rfl ?_
          refine am_sipush (pc' := 33) (v := 10000) dX11_odds_30 ks_10000 rfl ?_
          refine am_idiv (pc' := 34) dX11_odds_33 (by decide) rfl ?_
          refine am_cV (pc' := 37) (st' := [.int (fx_X11_isViewer (a3 / (10000 : Int32)) S)]) [] [.int (a3 / (10000 : Int32))] dX11_odds_34 cs_X11_151 (tx_X11_isViewer r (a3 / (10000 : Int32)) S _ rfl) rfl rfl rfl (sx_c0 S r) rfl rfl rfl rfl rfl ?_
          refine am_if_eq (pc' := 40) 49 dX11_odds_37 rfl rfl (fun hc5 => ?_) (fun hc5 => ?_)
          · rw [if_pos hc5] at hres
            refine am_ldc2 (pc' := 52) dX11_odds_49 ck_X11_236 rfl ?_
            obtain rfl := Option.some.inj hres
            exact am_lret dX11_odds_52 rfl rfl rfl
          · rw [if_neg hc5] at hres
            refine am_iload (pc' := 42) dX11_odds_40 rfl rfl ?_
            refine am_iconst (pc' := 43) (v := 2) dX11_odds_42 kc_2 rfl ?_
            refine am_cS (pc' := 46) (st' := [.int (fx_X11_within a4 (2 : Int32))]) [] [.int a4, .int (2 : Int32)] dX11_odds_43 cs_X11_129 (tx_X11_within (sx_w S r) a4 (2 : Int32) _ rfl) rfl rfl rfl rfl rfl rfl ?_
            refine am_if_ne (pc' := 49) 53 dX11_odds_46 rfl rfl (fun hc6 => ?_) (fun hc6 => ?_)
            · rw [if_neg hc6] at hres
              refine am_aload_n (pc' := 54) 0 dX11_odds_53 rfl rfl rfl ?_
              refine am_get (pc' := 57) (v := .ref 34) dX11_odds_54 fl_X11_78 (sx_c0 S r) rfl rfl ?_
              refine am_aload_n (pc' := 58) 0 dX11_odds_57 rfl rfl rfl ?_
              refine am_get (pc' := 61) (v := .ref 1) dX11_odds_58 fl_X11_10 (sx_c0 S r) rfl rfl ?_
              obtain ⟨q7, hq8, hres⟩ := am_bd_s hres
              refine am_cV (pc' := 64) (st' := []) [] [.ref 1] dX11_odds_61 cs_X11_157 (tx_X10_suppose_r1 r S _ hq8) rfl rfl rfl (sx_c34 S r) rfl rfl rfl rfl rfl ?_
              refine am_aload_n (pc' := 65) 0 dX11_odds_64 rfl rfl rfl ?_
              refine am_iload_n (pc' := 66) 3 dX11_odds_65 rfl rfl rfl ?_
              refine am_sipush (pc' := 69) (v := 10000) dX11_odds_66 ks_10000 rfl ?_
              refine am_idiv (pc' := 70) dX11_odds_69 (by decide) rfl ?_
              refine am_iconst (pc' := 71) (v := 1) dX11_odds_70 kc_1 rfl ?_
              obtain ⟨q9, hq10, hres⟩ := am_let_s hres
              refine am_cV (pc' := 74) (st' := []) [] [.int (a3 / (10000 : Int32)), .int (1 : Int32)] dX11_odds_71 cs_X11_161 (tx_X11_letCome r (a3 / (10000 : Int32)) (1 : Int32) q7 _ hq10) rfl rfl rfl (sx_c0 q7 r) rfl rfl rfl rfl rfl ?_
              refine am_iconst (pc' := 75) (v := 0) dX11_odds_74 kc_0 rfl ?_
              refine am_istore (pc' := 77) (ls' := [some (.ref 0), some (.int a1), some (.int a2), some (.int a3), some (.int a4), some (.int (0 : Int32)), none]) dX11_odds_75 (Nat.le_of_ble_eq_true rfl) rfl rfl rfl ?_
              refine am_iconst (pc' := 78) (v := 0) dX11_odds_77 kc_0 rfl ?_
              refine am_istore (pc' := 80) (ls' := [some (.ref 0), some (.int a1), some (.int a2), some (.int a3), some (.int a4), some (.int (0 : Int32)), some (.int (0 : Int32))]) dX11_odds_78 (Nat.le_of_ble_eq_true rfl) rfl rfl rfl ?_
              exact wx_X11_odds_80 r am_fu _ _ _ _ _ _ _ _ hres
            · rw [if_pos hc6] at hres
              refine am_ldc2 (pc' := 52) dX11_odds_49 ck_X11_236 rfl ?_
              obtain rfl := Option.some.inj hres
              exact am_lret dX11_odds_52 rfl rfl rfl
      · rw [if_neg hc3] at hres
        refine am_ldc2 (pc' := 23) dX11_odds_20 ck_X11_236 rfl ?_
        obtain rfl := Option.some.inj hres
        exact am_lret dX11_odds_23 rfl rfl rfl
set_option maxRecDepth 100000 in
set_option maxHeartbeats 4000000 in
theorem tx_X11_one (r : am_W) (a1 : Int32) (a2 : Int32) (S : sx_T) (res : Int32) (hres : fx_X11_one a1 a2 S = res) : am_T mX11_one 2 0 0 [.ref 0, .int a1, .int a2] (sx_w S r) (some (.int res)) (sx_w S r) := by
  refine am_meth (ls := [some (.ref 0), some (.int a1), some (.int a2)]) (by decide +kernel) rfl (Nat.le_of_ble_eq_true rfl) (sx_len _ _ _) ?_
  rw [fx_X11_one] at hres
  refine am_aload_n (pc' := 1) 0 dX11_one_0 rfl rfl rfl ?_
  refine am_iload_n (pc' := 2) 1 dX11_one_1 rfl rfl rfl ?_
  refine am_cV (pc' := 5) (st' := [.int (fx_X11_isViewer a1 S)]) [] [.int a1] dX11_one_2 cs_X11_151 (tx_X11_isViewer r a1 S _ rfl) rfl rfl rfl (sx_c0 S r) rfl rfl rfl rfl rfl ?_
  refine am_if_ne (pc' := 8) 11 dX11_one_5 rfl rfl (fun hc1 => ?_) (fun hc1 => ?_)
  · rw [if_neg hc1] at hres
    refine am_iload_n (pc' := 12) 2 dX11_one_11 rfl rfl rfl ?_
    rcases Classical.em (a2 = (0 : Int32)) with hs2 | hs2
    · rw [if_pos hs2] at hres
      refine am_tsAt (0 : Int32) 44 dX11_one_12 hs2 (by decide) (by decide) rfl rfl ?_
      refine am_aload_n (pc' := 45) 0 dX11_one_44 rfl rfl rfl ?_
      refine am_get (pc' := 48) (v := .ref 1) dX11_one_45 fl_X11_10 (sx_c0 S r) rfl rfl ?_
      refine am_get (pc' := 51) (v := .ref 4) dX11_one_48 fl_X11_170 (sx_c1 S r) rfl rfl ?_
      refine am_iload_n (pc' := 52) 1 dX11_one_51 rfl rfl rfl ?_
      refine am_cS (pc' := 55) (st' := [.int (am_rd 8 (sx_now_rich S) a1)]) [] [.ref 4, .int a1] dX11_one_52 cs_X11_139 (tx_at (f := (sx_now_rich S)) (sx_c4 S r) rfl a1) rfl rfl rfl rfl rfl rfl ?_
      subst hres
      exact am_iret dX11_one_55 rfl rfl rfl
    · rw [if_neg hs2] at hres
      rcases Classical.em (a2 = (1 : Int32)) with hs3 | hs3
      · rw [if_pos hs3] at hres
        refine am_tsAt (1 : Int32) 56 dX11_one_12 hs3 (by decide) (by decide) rfl rfl ?_
        refine am_aload_n (pc' := 57) 0 dX11_one_56 rfl rfl rfl ?_
        refine am_get (pc' := 60) (v := .ref 1) dX11_one_57 fl_X11_10 (sx_c0 S r) rfl rfl ?_
        refine am_get (pc' := 63) (v := .ref 5) dX11_one_60 fl_X11_173 (sx_c1 S r) rfl rfl ?_
        refine am_iload_n (pc' := 64) 1 dX11_one_63 rfl rfl rfl ?_
        refine am_cS (pc' := 67) (st' := [.int (am_rd 8 (sx_now_quiet S) a1)]) [] [.ref 5, .int a1] dX11_one_64 cs_X11_139 (tx_at (f := (sx_now_quiet S)) (sx_c5 S r) rfl a1) rfl rfl rfl rfl rfl rfl ?_
        subst hres
        exact am_iret dX11_one_67 rfl rfl rfl
      · rw [if_neg hs3] at hres
        rcases Classical.em (a2 = (2 : Int32)) with hs4 | hs4
        · rw [if_pos hs4] at hres
          refine am_tsAt (2 : Int32) 68 dX11_one_12 hs4 (by decide) (by decide) rfl rfl ?_
          refine am_aload_n (pc' := 69) 0 dX11_one_68 rfl rfl rfl ?_
          refine am_get (pc' := 72) (v := .ref 19) dX11_one_69 fl_X11_45 (sx_c0 S r) rfl rfl ?_
          refine am_iload_n (pc' := 73) 1 dX11_one_72 rfl rfl rfl ?_
          refine am_cS (pc' := 76) (st' := [.int (am_rd 8 (sx_kindOf S) a1)]) [] [.ref 19, .int a1] dX11_one_73 cs_X11_139 (tx_at (f := (sx_kindOf S)) (sx_c19 S r) rfl a1) rfl rfl rfl rfl rfl rfl ?_
          subst hres
          exact am_iret dX11_one_76 rfl rfl rfl
        · rw [if_neg hs4] at hres
          rcases Classical.em (a2 = (3 : Int32)) with hs5 | hs5
          · rw [if_pos hs5] at hres
            refine am_tsAt (3 : Int32) 77 dX11_one_12 hs5 (by decide) (by decide) rfl rfl ?_
            refine am_aload_n (pc' := 78) 0 dX11_one_77 rfl rfl rfl ?_
            refine am_get (pc' := 81) (v := .ref 20) dX11_one_78 fl_X11_49 (sx_c0 S r) rfl rfl ?_
            refine am_iload_n (pc' := 82) 1 dX11_one_81 rfl rfl rfl ?_
            refine am_cS (pc' := 85) (st' := [.int (am_rd 8 (sx_moreOf S) a1)]) [] [.ref 20, .int a1] dX11_one_82 cs_X11_139 (tx_at (f := (sx_moreOf S)) (sx_c20 S r) rfl a1) rfl rfl rfl rfl rfl rfl ?_
            subst hres
            exact am_iret dX11_one_85 rfl rfl rfl
          · rw [if_neg hs5] at hres
            refine am_tsOff 4 86 dX11_one_12 rfl (fun i hi => by match i, hi with | 0, _ => exact hs2 | 1, _ => exact hs3 | 2, _ => exact hs4 | 3, _ => exact hs5) rfl ?_
            refine am_bipush (pc' := 88) (v := (-7)) dX11_one_86 kb_m7 rfl ?_
            subst hres
            exact am_iret dX11_one_88 rfl rfl rfl
  · rw [if_pos hc1] at hres
    refine am_bipush (pc' := 10) (v := (-5)) dX11_one_8 kb_m5 rfl ?_
    subst hres
    exact am_iret dX11_one_10 rfl rfl rfl
set_option maxRecDepth 100000 in
set_option maxHeartbeats 4000000 in
theorem tx_X11_paint (r : am_W) (a1 : Int32) (a2 : Int32) (a3 : Int32) (S : sx_T) (res : Int32 × sx_T) (hres : fx_X11_paint a1 a2 a3 S = some res) : am_T mX11_paint 7 0 0 [.ref 0, .int a1, .int a2, .int a3] (sx_w S r) (some (.int res.1)) (sx_w res.2 r) := by
  refine am_meth (ls := [some (.ref 0), some (.int a1), some (.int a2), some (.int a3), none, none]) (by decide +kernel) rfl (Nat.le_of_ble_eq_true rfl) (sx_len _ _ _) ?_
  rw [fx_X11_paint] at hres
  refine am_aload_n (pc' := 1) 0 dX11_paint_0 rfl rfl rfl ?_
  refine am_iload_n (pc' := 2) 1 dX11_paint_1 rfl rfl rfl ?_
  obtain ⟨q1, hq2, hres⟩ := am_bd_s hres
  refine am_cV (pc' := 5) (st' := [.int q1.1]) [] [.int a1] dX11_paint_2 cs_X11_176 (tx_X11_startTour r a1 S _ hq2) rfl rfl rfl (sx_c0 S r) rfl rfl rfl rfl rfl ?_
  refine am_istore (pc' := 7) (ls' := [some (.ref 0), some (.int a1), some (.int a2), some (.int a3), some (.int q1.1), none]) dX11_paint_5 (Nat.le_of_ble_eq_true rfl) rfl rfl rfl ?_
  refine am_iload (pc' := 9) dX11_paint_7 rfl rfl ?_
  refine am_if_eq (pc' := 12) 18 dX11_paint_9 rfl rfl (fun hc3 => ?_) (fun hc3 => ?_)
  · rw [if_pos hc3] at hres
    refine am_aload_n (pc' := 19) 0 dX11_paint_18 rfl rfl rfl ?_
    refine am_iload_n (pc' := 20) 2 dX11_paint_19 rfl rfl rfl ?_
    refine am_cV (pc' := 23) (st' := [.int (fx_X11_isViewer a2 q1.2)]) [] [.int a2] dX11_paint_20 cs_X11_151 (tx_X11_isViewer r a2 q1.2 _ rfl) rfl rfl rfl (sx_c0 q1.2 r) rfl rfl rfl rfl rfl ?_
    refine am_if_eq (pc' := 26) 35 dX11_paint_23 rfl rfl (fun hc4 => ?_) (fun hc4 => ?_)
    · rw [if_pos hc4] at hres
      refine am_ldc (pc' := 37) dX11_paint_35 ck_X11_211 rfl ?_
      obtain rfl := Option.some.inj hres
      exact am_iret dX11_paint_37 rfl rfl rfl
    · rw [if_neg hc4] at hres
      refine am_iload_n (pc' := 27) 3 dX11_paint_26 rfl rfl rfl ?_
      refine am_bipush (pc' := 29) (v := 6) dX11_paint_27 kb_6 rfl ?_
      refine am_cS (pc' := 32) (st' := [.int (fx_X11_within a3 (6 : Int32))]) [] [.int a3, .int (6 : Int32)] dX11_paint_29 cs_X11_129 (tx_X11_within (sx_w q1.2 r) a3 (6 : Int32) _ rfl) rfl rfl rfl rfl rfl rfl ?_
      refine am_if_ne (pc' := 35) 38 dX11_paint_32 rfl rfl (fun hc5 => ?_) (fun hc5 => ?_)
      · rw [if_neg hc5] at hres
        refine am_aload_n (pc' := 39) 0 dX11_paint_38 rfl rfl rfl ?_
        refine am_iload_n (pc' := 40) 2 dX11_paint_39 rfl rfl rfl ?_
        refine am_iconst (pc' := 41) (v := 1) dX11_paint_40 kc_1 rfl ?_
        obtain ⟨q6, hq7, hres⟩ := am_let_s hres
        refine am_cV (pc' := 44) (st' := []) [] [.int a2, .int (1 : Int32)] dX11_paint_41 cs_X11_161 (tx_X11_letCome r a2 (1 : Int32) q1.2 _ hq7) rfl rfl rfl (sx_c0 q1.2 r) rfl rfl rfl rfl rfl ?_
        refine am_aload_n (pc' := 45) 0 dX11_paint_44 rfl rfl rfl ?_
        refine am_get (pc' := 48) (v := .ref 34) dX11_paint_45 fl_X11_78 (sx_c0 q6 r) rfl rfl ?_
        obtain ⟨q8, hq9, hres⟩ := am_bd_s hres
        refine am_cV (pc' := 51) (st' := [.int q8.1]) [] [] dX11_paint_48 cs_X11_185 (tx_X10_offer r q6 _ hq9) rfl rfl rfl (sx_c34 q6 r) rfl rfl rfl rfl rfl ?_
        refine am_istore (pc' := 53) (ls' := [some (.ref 0), some (.int a1), some (.int a2), some (.int a3), some (.int q1.1), some (.int q8.1)]) dX11_paint_51 (Nat.le_of_ble_eq_true rfl) rfl rfl rfl ?_
        refine am_aload_n (pc' := 54) 0 dX11_paint_53 rfl rfl rfl ?_
        refine am_get (pc' := 57) (v := .ref 34) dX11_paint_54 fl_X11_78 (sx_c0 q8.2 r) rfl rfl ?_
        refine am_iload_n (pc' := 58) 3 dX11_paint_57 rfl rfl rfl ?_
        refine am_iconst (pc' := 59) (v := 0) dX11_paint_58 kc_0 rfl ?_
        obtain ⟨q10, hq11, hres⟩ := am_let_s hres
        refine am_cV (pc' := 62) (st' := []) [] [.int a3, .int (0 : Int32)] dX11_paint_59 cs_X11_233 (tx_X10_setDamp r a3 (0 : Int32) q8.2 _ hq11) rfl rfl rfl (sx_c34 q8.2 r) rfl rfl rfl rfl rfl ?_
        refine am_aload_n (pc' := 63) 0 dX11_paint_62 rfl rfl rfl ?_
        refine am_get (pc' := 66) (v := .ref 34) dX11_paint_63 fl_X11_78 (sx_c0 q10 r) rfl rfl ?_
        obtain ⟨q12, hq13, hres⟩ := am_bd_s hres
        refine am_cV (pc' := 69) (st' := [.int q12.1]) [] [] dX11_paint_66 cs_X11_185 (tx_X10_offer r q10 _ hq13) rfl rfl rfl (sx_c34 q10 r) rfl rfl rfl rfl rfl ?_
        refine am_iload (pc' := 71) dX11_paint_69 rfl rfl ?_
        refine am_isub (pc' := 72) dX11_paint_71 rfl ?_
        obtain rfl := Option.some.inj hres
        exact am_iret dX11_paint_72 rfl rfl rfl
      · rw [if_pos hc5] at hres
        refine am_ldc (pc' := 37) dX11_paint_35 ck_X11_211 rfl ?_
        obtain rfl := Option.some.inj hres
        exact am_iret dX11_paint_37 rfl rfl rfl
  · rw [if_neg hc3] at hres
    refine am_ldc (pc' := 14) dX11_paint_12 ck_X11_180 rfl ?_
    refine am_iload (pc' := 16) dX11_paint_14 rfl rfl ?_
    refine am_iadd (pc' := 17) dX11_paint_16 rfl ?_
    obtain rfl := Option.some.inj hres
    exact am_iret dX11_paint_17 rfl rfl rfl
set_option maxRecDepth 100000 in
set_option maxHeartbeats 4000000 in
theorem wx_X11_put_32 (r : am_W) : ∀ (v1 : Int32) (v2 : Int32) (v3 : Int32) (w0 : Int32) (w1 : Int32) (S : sx_T) (res : Int32 × sx_T) (hres : fx_X11_put_32 v1 v2 v3 w0 w1 S = res), am_G mX11_put (none, 2, 0, 0, (some (.int res.1)), (sx_w res.2 r)) (0, 0) 32 [some (.ref 0), some (.int v1), some (.int v2), some (.int v3), none, none] [.int w1, .int w0] (sx_w S r) := by
  intro v1 v2 v3 w0 w1 S res hres
  rw [fx_X11_put_32] at hres
  refine am_cS (pc' := 35) (st' := [.int (fx_X11_within w0 w1)]) [] [.int w0, .int w1] dX11_put_32 cs_X11_129 (tx_X11_within (sx_w S r) w0 w1 _ rfl) rfl rfl rfl rfl rfl rfl ?_
  refine am_if_ne (pc' := 38) 41 dX11_put_35 rfl rfl (fun hc4 => ?_) (fun hc4 => ?_)
  · rw [if_neg hc4] at hres
    refine am_iload_n (pc' := 42) 2 dX11_put_41 rfl rfl rfl ?_
    refine am_if_ne (pc' := 45) 55 dX11_put_42 rfl rfl (fun hc5 => ?_) (fun hc5 => ?_)
    · rw [if_neg hc5] at hres
      refine am_aload_n (pc' := 56) 0 dX11_put_55 rfl rfl rfl ?_
      refine am_get (pc' := 59) (v := .ref 1) dX11_put_56 fl_X11_10 (sx_c0 S r) rfl rfl ?_
      refine am_get (pc' := 62) (v := .ref 5) dX11_put_59 fl_X11_173 (sx_c1 S r) rfl rfl ?_
      refine am_astore (pc' := 64) (ls' := [some (.ref 0), some (.int v1), some (.int v2), some (.int v3), some (.ref 5), none]) dX11_put_62 (Nat.le_of_ble_eq_true rfl) rfl rfl rfl ?_
      refine am_aload (pc' := 66) dX11_put_64 rfl rfl ?_
      refine am_iload_n (pc' := 67) 1 dX11_put_66 rfl rfl rfl ?_
      refine am_cS (pc' := 70) (st' := [.int (am_rd 8 (sx_now_quiet S) v1)]) [] [.ref 5, .int v1] dX11_put_67 cs_X11_139 (tx_at (f := (sx_now_quiet S)) (sx_c5 S r) rfl v1) rfl rfl rfl rfl rfl rfl ?_
      refine am_istore (pc' := 72) (ls' := [some (.ref 0), some (.int v1), some (.int v2), some (.int v3), some (.ref 5), some (.int (am_rd 8 (sx_now_quiet S) v1))]) dX11_put_70 (Nat.le_of_ble_eq_true rfl) rfl rfl rfl ?_
      refine am_aload (pc' := 74) dX11_put_72 rfl rfl ?_
      refine am_iload_n (pc' := 75) 1 dX11_put_74 rfl rfl rfl ?_
      refine am_iload_n (pc' := 76) 3 dX11_put_75 rfl rfl rfl ?_
      refine am_cS (pc' := 79) (st' := []) [] [.ref 5, .int v1, .int v3] dX11_put_76 cs_X11_143 (tx_set (f := (sx_now_quiet S)) (w1 := (sx_w (ux_now_quiet S (am_up 8 (sx_now_quiet S) v1 v3)) r)) (sx_c5 S r) rfl v1 v3 (sx_p_now_quiet S r _)) rfl rfl rfl rfl rfl rfl ?_
      refine am_iload (pc' := 81) dX11_put_79 rfl rfl ?_
      subst hres
      exact am_iret dX11_put_81 rfl rfl rfl
    · rw [if_pos hc5] at hres
      refine am_aload_n (pc' := 46) 0 dX11_put_45 rfl rfl rfl ?_
      refine am_get (pc' := 49) (v := .ref 1) dX11_put_46 fl_X11_10 (sx_c0 S r) rfl rfl ?_
      refine am_get (pc' := 52) (v := .ref 4) dX11_put_49 fl_X11_170 (sx_c1 S r) rfl rfl ?_
      refine am_goto 62 dX11_put_52 rfl ?_
      refine am_astore (pc' := 64) (ls' := [some (.ref 0), some (.int v1), some (.int v2), some (.int v3), some (.ref 4), none]) dX11_put_62 (Nat.le_of_ble_eq_true rfl) rfl rfl rfl ?_
      refine am_aload (pc' := 66) dX11_put_64 rfl rfl ?_
      refine am_iload_n (pc' := 67) 1 dX11_put_66 rfl rfl rfl ?_
      refine am_cS (pc' := 70) (st' := [.int (am_rd 8 (sx_now_rich S) v1)]) [] [.ref 4, .int v1] dX11_put_67 cs_X11_139 (tx_at (f := (sx_now_rich S)) (sx_c4 S r) rfl v1) rfl rfl rfl rfl rfl rfl ?_
      refine am_istore (pc' := 72) (ls' := [some (.ref 0), some (.int v1), some (.int v2), some (.int v3), some (.ref 4), some (.int (am_rd 8 (sx_now_rich S) v1))]) dX11_put_70 (Nat.le_of_ble_eq_true rfl) rfl rfl rfl ?_
      refine am_aload (pc' := 74) dX11_put_72 rfl rfl ?_
      refine am_iload_n (pc' := 75) 1 dX11_put_74 rfl rfl rfl ?_
      refine am_iload_n (pc' := 76) 3 dX11_put_75 rfl rfl rfl ?_
      refine am_cS (pc' := 79) (st' := []) [] [.ref 4, .int v1, .int v3] dX11_put_76 cs_X11_143 (tx_set (f := (sx_now_rich S)) (w1 := (sx_w (ux_now_rich S (am_up 8 (sx_now_rich S) v1 v3)) r)) (sx_c4 S r) rfl v1 v3 (sx_p_now_rich S r _)) rfl rfl rfl rfl rfl rfl ?_
      refine am_iload (pc' := 81) dX11_put_79 rfl rfl ?_
      subst hres
      exact am_iret dX11_put_81 rfl rfl rfl
  · rw [if_pos hc4] at hres
    refine am_bipush (pc' := 40) (v := (-7)) dX11_put_38 kb_m7 rfl ?_
    subst hres
    exact am_iret dX11_put_40 rfl rfl rfl

set_option maxRecDepth 100000 in
set_option maxHeartbeats 4000000 in
theorem tx_X11_put (r : am_W) (a1 : Int32) (a2 : Int32) (a3 : Int32) (S : sx_T) (res : Int32 × sx_T) (hres : fx_X11_put a1 a2 a3 S = res) : am_T mX11_put 2 0 0 [.ref 0, .int a1, .int a2, .int a3] (sx_w S r) (some (.int res.1)) (sx_w res.2 r) := by
  refine am_meth (ls := [some (.ref 0), some (.int a1), some (.int a2), some (.int a3), none, none]) (by decide +kernel) rfl (Nat.le_of_ble_eq_true rfl) (sx_len _ _ _) ?_
  rw [fx_X11_put] at hres
  refine am_aload_n (pc' := 1) 0 dX11_put_0 rfl rfl rfl ?_
  refine am_iload_n (pc' := 2) 1 dX11_put_1 rfl rfl rfl ?_
  refine am_cV (pc' := 5) (st' := [.int (fx_X11_isViewer a1 S)]) [] [.int a1] dX11_put_2 cs_X11_151 (tx_X11_isViewer r a1 S _ rfl) rfl rfl rfl (sx_c0 S r) rfl rfl rfl rfl rfl ?_
  refine am_if_ne (pc' := 8) 11 dX11_put_5 rfl rfl (fun hc1 => ?_) (fun hc1 => ?_)
  · rw [if_neg hc1] at hres
    refine am_iload_n (pc' := 12) 2 dX11_put_11 rfl rfl rfl ?_
    refine am_iconst (pc' := 13) (v := 2) dX11_put_12 kc_2 rfl ?_
    refine am_cS (pc' := 16) (st' := [.int (fx_X11_within a2 (2 : Int32))]) [] [.int a2, .int (2 : Int32)] dX11_put_13 cs_X11_129 (tx_X11_within (sx_w S r) a2 (2 : Int32) _ rfl) rfl rfl rfl rfl rfl rfl ?_
    refine am_if_eq (pc' := 19) 38 dX11_put_16 rfl rfl (fun hc2 => ?_) (fun hc2 => ?_)
    · rw [if_pos hc2] at hres
      refine am_bipush (pc' := 40) (v := (-7)) dX11_put_38 kb_m7 rfl ?_
      subst hres
      exact am_iret dX11_put_40 rfl rfl rfl
    · rw [if_neg hc2] at hres
      refine am_iload_n (pc' := 20) 3 dX11_put_19 rfl rfl rfl ?_
      refine am_iload_n (pc' := 21) 2 dX11_put_20 rfl rfl rfl ?_
      refine am_if_ne (pc' := 24) 30 dX11_put_21 rfl rfl (fun hc3 => ?_) (fun hc3 => ?_)
      · rw [if_neg hc3] at hres
        refine am_bipush (pc' := 32) (v := 100) dX11_put_30 kb_100 rfl ?_
        exact wx_X11_put_32 r _ _ _ _ _ _ _ hres
      · rw [if_pos hc3] at hres
        refine am_sipush (pc' := 27) (v := 1000) dX11_put_24 ks_1000 rfl ?_
        refine am_goto 32 dX11_put_27 rfl ?_
        exact wx_X11_put_32 r _ _ _ _ _ _ _ hres
  · rw [if_pos hc1] at hres
    refine am_bipush (pc' := 10) (v := (-5)) dX11_put_8 kb_m5 rfl ?_
    subst hres
    exact am_iret dX11_put_10 rfl rfl rfl
set_option maxRecDepth 100000 in
set_option maxHeartbeats 4000000 in
theorem wx_X11_riches_38 (r : am_W) : ∀ (n : Nat) (v2 : Int32) (v4 : Int32) (v6 : Int32) (v7 : Int32) (v8 : Int32) (S : sx_T) (res : Int32 × sx_T) (hres : fx_X11_riches_38 n v2 v4 v6 v7 v8 S = some res), am_G mX11_riches (none, 8, 0, 0, (some (.int res.1)), (sx_w res.2 r)) (0, 0) 38 [some (.ref 0), none, some (.int v2), none, some (.int v4), none, some (.int v6), some (.int v7), some (.int v8)] [] (sx_w S r) := by
  intro n
  induction n with
  | zero =>
    intro v2 v4 v6 v7 v8 S res hres
    cases hres
  | succ n ih =>
    intro v2 v4 v6 v7 v8 S res hres
    rw [fx_X11_riches_38] at hres
    refine am_iload (pc' := 40) dX11_riches_38 rfl rfl ?_
    refine am_sipush (pc' := 43) (v := 1000) dX11_riches_40 ks_1000 rfl ?_
    refine am_icmp_ge (pc' := 46) 85 dX11_riches_43 rfl rfl (fun hc5 => ?_) (fun hc5 => ?_)
    · rw [if_pos hc5] at hres
      refine am_iload (pc' := 87) dX11_riches_85 rfl rfl ?_
      refine am_if_ne (pc' := 90) 95 dX11_riches_87 rfl rfl (fun hc6 => ?_) (fun hc6 => ?_)
      · rw [if_neg hc6] at hres
        refine am_iload (pc' := 97) dX11_riches_95 rfl rfl ?_
        obtain rfl := Option.some.inj hres
        exact am_iret dX11_riches_97 rfl rfl rfl
      · rw [if_pos hc6] at hres
        refine am_iload (pc' := 92) dX11_riches_90 rfl rfl ?_
        refine am_goto 97 dX11_riches_92 rfl ?_
        obtain rfl := Option.some.inj hres
        exact am_iret dX11_riches_97 rfl rfl rfl
    · rw [if_neg hc5] at hres
      refine am_aload_n (pc' := 47) 0 dX11_riches_46 rfl rfl rfl ?_
      refine am_get (pc' := 50) (v := .ref 34) dX11_riches_47 fl_X11_78 (sx_c0 S r) rfl rfl ?_
      refine am_iload (pc' := 52) dX11_riches_50 rfl rfl ?_
      obtain ⟨q7, hq8, hres⟩ := am_let_s hres
      refine am_cV (pc' := 55) (st' := []) [] [.int v8] dX11_riches_52 cs_X11_263 (tx_X10_setRich r v8 S _ hq8) rfl rfl rfl (sx_c34 S r) rfl rfl rfl rfl rfl ?_
      refine am_aload_n (pc' := 56) 0 dX11_riches_55 rfl rfl rfl ?_
      refine am_iload_n (pc' := 57) 2 dX11_riches_56 rfl rfl rfl ?_
      obtain ⟨q9, hq10, hres⟩ := am_bd_s hres
      refine am_cV (pc' := 60) (st' := [.int q9.1]) [] [.int v2] dX11_riches_57 cs_X11_249 (tx_X11_firstOtherwise r v2 q7 _ hq10) rfl rfl rfl (sx_c0 q7 r) rfl rfl rfl rfl rfl ?_
      refine am_iconst (pc' := 61) (v := (-1)) dX11_riches_60 kc_m1 rfl ?_
      refine am_icmp_eq (pc' := 64) 67 dX11_riches_61 rfl rfl (fun hc11 => ?_) (fun hc11 => ?_)
      · rw [if_pos hc11] at hres
        refine am_iload (pc' := 69) dX11_riches_67 rfl rfl ?_
        refine am_if_ne (pc' := 72) 76 dX11_riches_69 rfl rfl (fun hc12 => ?_) (fun hc12 => ?_)
        · rw [if_neg hc12] at hres
          refine am_iinc (pc' := 79) (ls' := [some (.ref 0), none, some (.int v2), none, some (.int v4), none, some (.int (v6 + (1 : Int32))), some (.int v7), some (.int v8)]) dX11_riches_76 rfl (show v6 + Int32.ofInt 1 = (v6 + (1 : Int32)) from congrArg (fun z => v6 + z) kc_1) (Nat.le_of_ble_eq_true rfl) rfl rfl rfl ?_
          refine am_iinc (pc' := 82) (ls' := [some (.ref 0), none, some (.int v2), none, some (.int v4), none, some (.int (v6 + (1 : Int32))), some (.int v7), some (.int (v8 + (1 : Int32)))]) dX11_riches_79 rfl (show v8 + Int32.ofInt 1 = (v8 + (1 : Int32)) from congrArg (fun z => v8 + z) kc_1) (Nat.le_of_ble_eq_true rfl) rfl rfl rfl ?_
          refine am_goto 38 dX11_riches_82 rfl ?_
          exact ih _ _ _ _ _ _ _ hres
        · rw [if_pos hc12] at hres
          refine am_iload (pc' := 74) dX11_riches_72 rfl rfl ?_
          refine am_istore (pc' := 76) (ls' := [some (.ref 0), none, some (.int v2), none, some (.int v4), none, some (.int v6), some (.int v8), some (.int v8)]) dX11_riches_74 (Nat.le_of_ble_eq_true rfl) rfl rfl rfl ?_
          refine am_iinc (pc' := 79) (ls' := [some (.ref 0), none, some (.int v2), none, some (.int v4), none, some (.int (v6 + (1 : Int32))), some (.int v8), some (.int v8)]) dX11_riches_76 rfl (show v6 + Int32.ofInt 1 = (v6 + (1 : Int32)) from congrArg (fun z => v6 + z) kc_1) (Nat.le_of_ble_eq_true rfl) rfl rfl rfl ?_
          refine am_iinc (pc' := 82) (ls' := [some (.ref 0), none, some (.int v2), none, some (.int v4), none, some (.int (v6 + (1 : Int32))), some (.int v8), some (.int (v8 + (1 : Int32)))]) dX11_riches_79 rfl (show v8 + Int32.ofInt 1 = (v8 + (1 : Int32)) from congrArg (fun z => v8 + z) kc_1) (Nat.le_of_ble_eq_true rfl) rfl rfl rfl ?_
          refine am_goto 38 dX11_riches_82 rfl ?_
          exact ih _ _ _ _ _ _ _ hres
      · rw [if_neg hc11] at hres
        refine am_goto 79 dX11_riches_64 rfl ?_
        refine am_iinc (pc' := 82) (ls' := [some (.ref 0), none, some (.int v2), none, some (.int v4), none, some (.int v6), some (.int v7), some (.int (v8 + (1 : Int32)))]) dX11_riches_79 rfl (show v8 + Int32.ofInt 1 = (v8 + (1 : Int32)) from congrArg (fun z => v8 + z) kc_1) (Nat.le_of_ble_eq_true rfl) rfl rfl rfl ?_
        refine am_goto 38 dX11_riches_82 rfl ?_
        exact ih _ _ _ _ _ _ _ hres

set_option maxRecDepth 100000 in
set_option maxHeartbeats 4000000 in
theorem tx_X11_riches (r : am_W) (a1 : Int32) (a2 : Int32) (a3 : Int32) (a4 : Int32) (S : sx_T) (res : Int32 × sx_T) (hres : fx_X11_riches a1 a2 a3 a4 S = some res) : am_T mX11_riches 8 0 0 [.ref 0, .int a1, .int a2, .int a3, .int a4] (sx_w S r) (some (.int res.1)) (sx_w res.2 r) := by
  refine am_meth (ls := [some (.ref 0), some (.int a1), some (.int a2), some (.int a3), some (.int a4), none, none, none, none]) (by decide +kernel) rfl (Nat.le_of_ble_eq_true rfl) (sx_len _ _ _) ?_
  rw [fx_X11_riches] at hres
  refine am_aload_n (pc' := 1) 0 dX11_riches_0 rfl rfl rfl ?_
  refine am_iload_n (pc' := 2) 1 dX11_riches_1 rfl rfl rfl ?_
  refine am_iload_n (pc' := 3) 2 dX11_riches_2 rfl rfl rfl ?_
  refine am_iload_n (pc' := 4) 3 dX11_riches_3 rfl rfl rfl ?_
  obtain ⟨q1, hq2, hres⟩ := am_bd_s hres
  refine am_cV (pc' := 7) (st' := [.int q1.1]) [] [.int a1, .int a2, .int a3] dX11_riches_4 cs_X11_245 (tx_X11_startTold r a1 a2 a3 S _ hq2) rfl rfl rfl (sx_c0 S r) rfl rfl rfl rfl rfl ?_
  refine am_istore (pc' := 9) (ls' := [some (.ref 0), some (.int a1), some (.int a2), some (.int a3), some (.int a4), some (.int q1.1), none, none, none]) dX11_riches_7 (Nat.le_of_ble_eq_true rfl) rfl rfl rfl ?_
  refine am_iload (pc' := 11) dX11_riches_9 rfl rfl ?_
  refine am_if_eq (pc' := 14) 17 dX11_riches_11 rfl rfl (fun hc3 => ?_) (fun hc3 => ?_)
  · rw [if_pos hc3] at hres
    refine am_iload (pc' := 19) dX11_riches_17 rfl rfl ?_
    refine am_iconst (pc' := 20) (v := 2) dX11_riches_19 kc_2 rfl ?_
    refine am_cS (pc' := 23) (st' := [.int (fx_X11_within a4 (2 : Int32))]) [] [.int a4, .int (2 : Int32)] dX11_riches_20 cs_X11_129 (tx_X11_within (sx_w q1.2 r) a4 (2 : Int32) _ rfl) rfl rfl rfl rfl rfl rfl ?_
    refine am_if_ne (pc' := 26) 29 dX11_riches_23 rfl rfl (fun hc4 => ?_) (fun hc4 => ?_)
    · rw [if_neg hc4] at hres
      refine am_iconst (pc' := 30) (v := 0) dX11_riches_29 kc_0 rfl ?_
      refine am_istore (pc' := 32) (ls' := [some (.ref 0), some (.int a1), some (.int a2), some (.int a3), some (.int a4), some (.int q1.1), some (.int (0 : Int32)), none, none]) dX11_riches_30 (Nat.le_of_ble_eq_true rfl) rfl rfl rfl ?_
      refine am_iconst (pc' := 33) (v := (-1)) dX11_riches_32 kc_m1 rfl ?_
      refine am_istore (pc' := 35) (ls' := [some (.ref 0), some (.int a1), some (.int a2), some (.int a3), some (.int a4), some (.int q1.1), some (.int (0 : Int32)), some (.int (-1 : Int32)), none]) dX11_riches_33 (Nat.le_of_ble_eq_true rfl) rfl rfl rfl ?_
      refine am_iconst (pc' := 36) (v := 0) dX11_riches_35 kc_0 rfl ?_
      refine am_istore (pc' := 38) (ls' := [some (.ref 0), some (.int a1), some (.int a2), some (.int a3), some (.int a4), some (.int q1.1), some (.int (0 : Int32)), some (.int (-1 : Int32)), some (.int (0 : Int32))]) dX11_riches_36 (Nat.le_of_ble_eq_true rfl) rfl rfl rfl ?_
      refine am_weak (ls' := [some (.ref 0), none, some (.int a2), none, some (.int a4), none, some (.int (0 : Int32)), some (.int (-1 : Int32)), some (.int (0 : Int32))]) [false, true, false, true, false, true, false, false, false] rfl ?_
      exact wx_X11_riches_38 r am_fu _ _ _ _ _ _ _ hres
    · rw [if_pos hc4] at hres
      refine am_bipush (pc' := 28) (v := (-7)) dX11_riches_26 kb_m7 rfl ?_
      obtain rfl := Option.some.inj hres
      exact am_iret dX11_riches_28 rfl rfl rfl
  · rw [if_neg hc3] at hres
    refine am_iload (pc' := 16) dX11_riches_14 rfl rfl ?_
    obtain rfl := Option.some.inj hres
    exact am_iret dX11_riches_16 rfl rfl rfl
set_option maxRecDepth 100000 in
set_option maxHeartbeats 4000000 in
theorem tx_X11_room (r : am_W) (a1 : Int32) (a2 : Int32) (a3 : Int32) (S : sx_T) (res : Int32 × sx_T) (hres : fx_X11_room a1 a2 a3 S = res) : am_T mX11_room 1 0 0 [.ref 0, .int a1, .int a2, .int a3] (sx_w S r) (some (.int res.1)) (sx_w res.2 r) := by
  refine am_meth (ls := [some (.ref 0), some (.int a1), some (.int a2), some (.int a3), none, none]) (by decide +kernel) rfl (Nat.le_of_ble_eq_true rfl) (sx_len _ _ _) ?_
  rw [fx_X11_room] at hres
  refine am_iload_n (pc' := 1) 1 dX11_room_0 rfl rfl rfl ?_
  refine am_bipush (pc' := 3) (v := 6) dX11_room_1 kb_6 rfl ?_
  refine am_cS (pc' := 6) (st' := [.int (fx_X11_within a1 (6 : Int32))]) [] [.int a1, .int (6 : Int32)] dX11_room_3 cs_X11_129 (tx_X11_within (sx_w S r) a1 (6 : Int32) _ rfl) rfl rfl rfl rfl rfl rfl ?_
  refine am_if_ne (pc' := 9) 12 dX11_room_6 rfl rfl (fun hc1 => ?_) (fun hc1 => ?_)
  · rw [if_neg hc1] at hres
    refine am_iload_n (pc' := 13) 2 dX11_room_12 rfl rfl rfl ?_
    refine am_iconst (pc' := 14) (v := 2) dX11_room_13 kc_2 rfl ?_
    refine am_cS (pc' := 17) (st' := [.int (fx_X11_within a2 (2 : Int32))]) [] [.int a2, .int (2 : Int32)] dX11_room_14 cs_X11_129 (tx_X11_within (sx_w S r) a2 (2 : Int32) _ rfl) rfl rfl rfl rfl rfl rfl ?_
    refine am_if_eq (pc' := 20) 29 dX11_room_17 rfl rfl (fun hc2 => ?_) (fun hc2 => ?_)
    · rw [if_pos hc2] at hres
      refine am_bipush (pc' := 31) (v := (-7)) dX11_room_29 kb_m7 rfl ?_
      subst hres
      exact am_iret dX11_room_31 rfl rfl rfl
    · rw [if_neg hc2] at hres
      refine am_iload_n (pc' := 21) 3 dX11_room_20 rfl rfl rfl ?_
      refine am_bipush (pc' := 23) (v := 100) dX11_room_21 kb_100 rfl ?_
      refine am_cS (pc' := 26) (st' := [.int (fx_X11_within a3 (100 : Int32))]) [] [.int a3, .int (100 : Int32)] dX11_room_23 cs_X11_129 (tx_X11_within (sx_w S r) a3 (100 : Int32) _ rfl) rfl rfl rfl rfl rfl rfl ?_
      refine am_if_ne (pc' := 29) 32 dX11_room_26 rfl rfl (fun hc3 => ?_) (fun hc3 => ?_)
      · rw [if_neg hc3] at hres
        refine am_iload_n (pc' := 33) 2 dX11_room_32 rfl rfl rfl ?_
        refine am_if_ne (pc' := 36) 46 dX11_room_33 rfl rfl (fun hc4 => ?_) (fun hc4 => ?_)
        · rw [if_neg hc4] at hres
          refine am_aload_n (pc' := 47) 0 dX11_room_46 rfl rfl rfl ?_
          refine am_get (pc' := 50) (v := .ref 1) dX11_room_47 fl_X11_10 (sx_c0 S r) rfl rfl ?_
          refine am_get (pc' := 53) (v := .ref 3) dX11_room_50 fl_X11_136 (sx_c1 S r) rfl rfl ?_
          refine am_astore (pc' := 55) (ls' := [some (.ref 0), some (.int a1), some (.int a2), some (.int a3), some (.ref 3), none]) dX11_room_53 (Nat.le_of_ble_eq_true rfl) rfl rfl rfl ?_
          refine am_aload (pc' := 57) dX11_room_55 rfl rfl ?_
          refine am_iload_n (pc' := 58) 1 dX11_room_57 rfl rfl rfl ?_
          refine am_cS (pc' := 61) (st' := [.int (am_rd 6 (sx_now_damp S) a1)]) [] [.ref 3, .int a1] dX11_room_58 cs_X11_139 (tx_at (f := (sx_now_damp S)) (sx_c3 S r) rfl a1) rfl rfl rfl rfl rfl rfl ?_
          refine am_istore (pc' := 63) (ls' := [some (.ref 0), some (.int a1), some (.int a2), some (.int a3), some (.ref 3), some (.int (am_rd 6 (sx_now_damp S) a1))]) dX11_room_61 (Nat.le_of_ble_eq_true rfl) rfl rfl rfl ?_
          refine am_aload (pc' := 65) dX11_room_63 rfl rfl ?_
          refine am_iload_n (pc' := 66) 1 dX11_room_65 rfl rfl rfl ?_
          refine am_iload_n (pc' := 67) 3 dX11_room_66 rfl rfl rfl ?_
          refine am_cS (pc' := 70) (st' := []) [] [.ref 3, .int a1, .int a3] dX11_room_67 cs_X11_143 (tx_set (f := (sx_now_damp S)) (w1 := (sx_w (ux_now_damp S (am_up 6 (sx_now_damp S) a1 a3)) r)) (sx_c3 S r) rfl a1 a3 (sx_p_now_damp S r _)) rfl rfl rfl rfl rfl rfl ?_
          refine am_iload (pc' := 72) dX11_room_70 rfl rfl ?_
          subst hres
          exact am_iret dX11_room_72 rfl rfl rfl
        · rw [if_pos hc4] at hres
          refine am_aload_n (pc' := 37) 0 dX11_room_36 rfl rfl rfl ?_
          refine am_get (pc' := 40) (v := .ref 1) dX11_room_37 fl_X11_10 (sx_c0 S r) rfl rfl ?_
          refine am_get (pc' := 43) (v := .ref 2) dX11_room_40 fl_X11_133 (sx_c1 S r) rfl rfl ?_
          refine am_goto 53 dX11_room_43 rfl ?_
          refine am_astore (pc' := 55) (ls' := [some (.ref 0), some (.int a1), some (.int a2), some (.int a3), some (.ref 2), none]) dX11_room_53 (Nat.le_of_ble_eq_true rfl) rfl rfl rfl ?_
          refine am_aload (pc' := 57) dX11_room_55 rfl rfl ?_
          refine am_iload_n (pc' := 58) 1 dX11_room_57 rfl rfl rfl ?_
          refine am_cS (pc' := 61) (st' := [.int (am_rd 6 (sx_now_light S) a1)]) [] [.ref 2, .int a1] dX11_room_58 cs_X11_139 (tx_at (f := (sx_now_light S)) (sx_c2 S r) rfl a1) rfl rfl rfl rfl rfl rfl ?_
          refine am_istore (pc' := 63) (ls' := [some (.ref 0), some (.int a1), some (.int a2), some (.int a3), some (.ref 2), some (.int (am_rd 6 (sx_now_light S) a1))]) dX11_room_61 (Nat.le_of_ble_eq_true rfl) rfl rfl rfl ?_
          refine am_aload (pc' := 65) dX11_room_63 rfl rfl ?_
          refine am_iload_n (pc' := 66) 1 dX11_room_65 rfl rfl rfl ?_
          refine am_iload_n (pc' := 67) 3 dX11_room_66 rfl rfl rfl ?_
          refine am_cS (pc' := 70) (st' := []) [] [.ref 2, .int a1, .int a3] dX11_room_67 cs_X11_143 (tx_set (f := (sx_now_light S)) (w1 := (sx_w (ux_now_light S (am_up 6 (sx_now_light S) a1 a3)) r)) (sx_c2 S r) rfl a1 a3 (sx_p_now_light S r _)) rfl rfl rfl rfl rfl rfl ?_
          refine am_iload (pc' := 72) dX11_room_70 rfl rfl ?_
          subst hres
          exact am_iret dX11_room_72 rfl rfl rfl
      · rw [if_pos hc3] at hres
        refine am_bipush (pc' := 31) (v := (-7)) dX11_room_29 kb_m7 rfl ?_
        subst hres
        exact am_iret dX11_room_31 rfl rfl rfl
  · rw [if_pos hc1] at hres
    refine am_bipush (pc' := 11) (v := (-5)) dX11_room_9 kb_m5 rfl ?_
    subst hres
    exact am_iret dX11_room_11 rfl rfl rfl
