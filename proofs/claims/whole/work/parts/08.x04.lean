set_option maxRecDepth 100000 in
set_option maxHeartbeats 4000000 in
theorem wx_X11_rooms_85 (r : am_W) : ∀ (n : Nat) (v2 : Int32) (v6 : Int32) (v7 : Int32) (v8 : Int32) (v9 : Int32) (v10 : Int32) (v11 : Int32) (S : sx_T) (res : Int32 × sx_T) (hres : fx_X11_rooms_85 n v2 v6 v7 v8 v9 v10 v11 S = some res), am_G mX11_rooms (none, 8, 0, 0, (some (.int res.1)), (sx_w res.2 r)) (0, 0) 85 [some (.ref 0), none, some (.int v2), none, none, none, some (.int v6), some (.int v7), some (.int v8), some (.int v9), some (.int v10), some (.int v11)] [] (sx_w S r) := by
  intro n
  induction n with
  | zero =>
    intro v2 v6 v7 v8 v9 v10 v11 S res hres
    cases hres
  | succ n ih =>
    intro v2 v6 v7 v8 v9 v10 v11 S res hres
    rw [fx_X11_rooms_85] at hres
    refine am_iload (pc' := 87) dX11_rooms_85 rfl rfl ?_
    refine am_bipush (pc' := 89) (v := 100) dX11_rooms_87 kb_100 rfl ?_
    refine am_icmp_ge (pc' := 92) 152 dX11_rooms_89 rfl rfl (fun hc7 => ?_) (fun hc7 => ?_)
    · rw [if_pos hc7] at hres
      refine am_iload (pc' := 154) dX11_rooms_152 rfl rfl ?_
      refine am_if_ne (pc' := 157) 162 dX11_rooms_154 rfl rfl (fun hc8 => ?_) (fun hc8 => ?_)
      · rw [if_neg hc8] at hres
        refine am_iload (pc' := 164) dX11_rooms_162 rfl rfl ?_
        obtain rfl := Option.some.inj hres
        exact am_iret dX11_rooms_164 rfl rfl rfl
      · rw [if_pos hc8] at hres
        refine am_iload (pc' := 159) dX11_rooms_157 rfl rfl ?_
        refine am_goto 164 dX11_rooms_159 rfl ?_
        obtain rfl := Option.some.inj hres
        exact am_iret dX11_rooms_164 rfl rfl rfl
    · rw [if_neg hc7] at hres
      refine am_iload (pc' := 94) dX11_rooms_92 rfl rfl ?_
      refine am_if_ne (pc' := 97) 111 dX11_rooms_94 rfl rfl (fun hc9 => ?_) (fun hc9 => ?_)
      · rw [if_neg hc9] at hres
        refine am_aload_n (pc' := 112) 0 dX11_rooms_111 rfl rfl rfl ?_
        refine am_get (pc' := 115) (v := .ref 34) dX11_rooms_112 fl_X11_78 (sx_c0 S r) rfl rfl ?_
        refine am_iload (pc' := 117) dX11_rooms_115 rfl rfl ?_
        refine am_iload (pc' := 119) dX11_rooms_117 rfl rfl ?_
        obtain ⟨q10, hq11, hres⟩ := am_let_s hres
        refine am_cV (pc' := 122) (st' := []) [] [.int v6, .int v11] dX11_rooms_119 cs_X11_233 (tx_X10_setDamp r v6 v11 S _ hq11) rfl rfl rfl (sx_c34 S r) rfl rfl rfl rfl rfl ?_
        refine am_aload_n (pc' := 123) 0 dX11_rooms_122 rfl rfl rfl ?_
        refine am_iload_n (pc' := 124) 2 dX11_rooms_123 rfl rfl rfl ?_
        obtain ⟨q12, hq13, hres⟩ := am_bd_s hres
        refine am_cV (pc' := 127) (st' := [.int q12.1]) [] [.int v2] dX11_rooms_124 cs_X11_249 (tx_X11_firstOtherwise r v2 q10 _ hq13) rfl rfl rfl (sx_c0 q10 r) rfl rfl rfl rfl rfl ?_
        refine am_iconst (pc' := 128) (v := (-1)) dX11_rooms_127 kc_m1 rfl ?_
        refine am_icmp_eq (pc' := 131) 134 dX11_rooms_128 rfl rfl (fun hc14 => ?_) (fun hc14 => ?_)
        · rw [if_pos hc14] at hres
          refine am_iload (pc' := 136) dX11_rooms_134 rfl rfl ?_
          refine am_if_ne (pc' := 139) 143 dX11_rooms_136 rfl rfl (fun hc15 => ?_) (fun hc15 => ?_)
          · rw [if_neg hc15] at hres
            refine am_iinc (pc' := 146) (ls' := [some (.ref 0), none, some (.int v2), none, none, none, some (.int v6), some (.int v7), some (.int v8), some (.int (v9 + (1 : Int32))), some (.int v10), some (.int v11)]) dX11_rooms_143 rfl (show v9 + Int32.ofInt 1 = (v9 + (1 : Int32)) from congrArg (fun z => v9 + z) kc_1) (Nat.le_of_ble_eq_true rfl) rfl rfl rfl ?_
            refine am_iinc (pc' := 149) (ls' := [some (.ref 0), none, some (.int v2), none, none, none, some (.int v6), some (.int v7), some (.int v8), some (.int (v9 + (1 : Int32))), some (.int v10), some (.int (v11 + (1 : Int32)))]) dX11_rooms_146 rfl (show v11 + Int32.ofInt 1 = (v11 + (1 : Int32)) from congrArg (fun z => v11 + z) kc_1) (Nat.le_of_ble_eq_true rfl) rfl rfl rfl ?_
            refine am_goto 85 dX11_rooms_149 rfl ?_
            exact ih _ _ _ _ _ _ _ _ _ hres
          · rw [if_pos hc15] at hres
            refine am_iload (pc' := 141) dX11_rooms_139 rfl rfl ?_
            refine am_istore (pc' := 143) (ls' := [some (.ref 0), none, some (.int v2), none, none, none, some (.int v6), some (.int v7), some (.int v8), some (.int v9), some (.int v11), some (.int v11)]) dX11_rooms_141 (Nat.le_of_ble_eq_true rfl) rfl rfl rfl ?_
            refine am_iinc (pc' := 146) (ls' := [some (.ref 0), none, some (.int v2), none, none, none, some (.int v6), some (.int v7), some (.int v8), some (.int (v9 + (1 : Int32))), some (.int v11), some (.int v11)]) dX11_rooms_143 rfl (show v9 + Int32.ofInt 1 = (v9 + (1 : Int32)) from congrArg (fun z => v9 + z) kc_1) (Nat.le_of_ble_eq_true rfl) rfl rfl rfl ?_
            refine am_iinc (pc' := 149) (ls' := [some (.ref 0), none, some (.int v2), none, none, none, some (.int v6), some (.int v7), some (.int v8), some (.int (v9 + (1 : Int32))), some (.int v11), some (.int (v11 + (1 : Int32)))]) dX11_rooms_146 rfl (show v11 + Int32.ofInt 1 = (v11 + (1 : Int32)) from congrArg (fun z => v11 + z) kc_1) (Nat.le_of_ble_eq_true rfl) rfl rfl rfl ?_
            refine am_goto 85 dX11_rooms_149 rfl ?_
            exact ih _ _ _ _ _ _ _ _ _ hres
        · rw [if_neg hc14] at hres
          refine am_goto 146 dX11_rooms_131 rfl ?_
          refine am_iinc (pc' := 149) (ls' := [some (.ref 0), none, some (.int v2), none, none, none, some (.int v6), some (.int v7), some (.int v8), some (.int v9), some (.int v10), some (.int (v11 + (1 : Int32)))]) dX11_rooms_146 rfl (show v11 + Int32.ofInt 1 = (v11 + (1 : Int32)) from congrArg (fun z => v11 + z) kc_1) (Nat.le_of_ble_eq_true rfl) rfl rfl rfl ?_
          refine am_goto 85 dX11_rooms_149 rfl ?_
          exact ih _ _ _ _ _ _ _ _ _ hres
      · rw [if_pos hc9] at hres
        refine am_aload_n (pc' := 98) 0 dX11_rooms_97 rfl rfl rfl ?_
        refine am_get (pc' := 101) (v := .ref 34) dX11_rooms_98 fl_X11_78 (sx_c0 S r) rfl rfl ?_
        refine am_iload (pc' := 103) dX11_rooms_101 rfl rfl ?_
        refine am_iload (pc' := 105) dX11_rooms_103 rfl rfl ?_
        obtain ⟨q16, hq17, hres⟩ := am_let_s hres
        refine am_cV (pc' := 108) (st' := []) [] [.int v6, .int v11] dX11_rooms_105 cs_X11_266 (tx_X10_setLight r v6 v11 S _ hq17) rfl rfl rfl (sx_c34 S r) rfl rfl rfl rfl rfl ?_
        refine am_goto 122 dX11_rooms_108 rfl ?_
        refine am_aload_n (pc' := 123) 0 dX11_rooms_122 rfl rfl rfl ?_
        refine am_iload_n (pc' := 124) 2 dX11_rooms_123 rfl rfl rfl ?_
        obtain ⟨q18, hq19, hres⟩ := am_bd_s hres
        refine am_cV (pc' := 127) (st' := [.int q18.1]) [] [.int v2] dX11_rooms_124 cs_X11_249 (tx_X11_firstOtherwise r v2 q16 _ hq19) rfl rfl rfl (sx_c0 q16 r) rfl rfl rfl rfl rfl ?_
        refine am_iconst (pc' := 128) (v := (-1)) dX11_rooms_127 kc_m1 rfl ?_
        refine am_icmp_eq (pc' := 131) 134 dX11_rooms_128 rfl rfl (fun hc20 => ?_) (fun hc20 => ?_)
        · rw [if_pos hc20] at hres
          refine am_iload (pc' := 136) dX11_rooms_134 rfl rfl ?_
          refine am_if_ne (pc' := 139) 143 dX11_rooms_136 rfl rfl (fun hc21 => ?_) (fun hc21 => ?_)
          · rw [if_neg hc21] at hres
            refine am_iinc (pc' := 146) (ls' := [some (.ref 0), none, some (.int v2), none, none, none, some (.int v6), some (.int v7), some (.int v8), some (.int (v9 + (1 : Int32))), some (.int v10), some (.int v11)]) dX11_rooms_143 rfl (show v9 + Int32.ofInt 1 = (v9 + (1 : Int32)) from congrArg (fun z => v9 + z) kc_1) (Nat.le_of_ble_eq_true rfl) rfl rfl rfl ?_
            refine am_iinc (pc' := 149) (ls' := [some (.ref 0), none, some (.int v2), none, none, none, some (.int v6), some (.int v7), some (.int v8), some (.int (v9 + (1 : Int32))), some (.int v10), some (.int (v11 + (1 : Int32)))]) dX11_rooms_146 rfl (show v11 + Int32.ofInt 1 = (v11 + (1 : Int32)) from congrArg (fun z => v11 + z) kc_1) (Nat.le_of_ble_eq_true rfl) rfl rfl rfl ?_
            refine am_goto 85 dX11_rooms_149 rfl ?_
            exact ih _ _ _ _ _ _ _ _ _ hres
          · rw [if_pos hc21] at hres
            refine am_iload (pc' := 141) dX11_rooms_139 rfl rfl ?_
            refine am_istore (pc' := 143) (ls' := [some (.ref 0), none, some (.int v2), none, none, none, some (.int v6), some (.int v7), some (.int v8), some (.int v9), some (.int v11), some (.int v11)]) dX11_rooms_141 (Nat.le_of_ble_eq_true rfl) rfl rfl rfl ?_
            refine am_iinc (pc' := 146) (ls' := [some (.ref 0), none, some (.int v2), none, none, none, some (.int v6), some (.int v7), some (.int v8), some (.int (v9 + (1 : Int32))), some (.int v11), some (.int v11)]) dX11_rooms_143 rfl (show v9 + Int32.ofInt 1 = (v9 + (1 : Int32)) from congrArg (fun z => v9 + z) kc_1) (Nat.le_of_ble_eq_true rfl) rfl rfl rfl ?_
            refine am_iinc (pc' := 149) (ls' := [some (.ref 0), none, some (.int v2), none, none, none, some (.int v6), some (.int v7), some (.int v8), some (.int (v9 + (1 : Int32))), some (.int v11), some (.int (v11 + (1 : Int32)))]) dX11_rooms_146 rfl (show v11 + Int32.ofInt 1 = (v11 + (1 : Int32)) from congrArg (fun z => v11 + z) kc_1) (Nat.le_of_ble_eq_true rfl) rfl rfl rfl ?_
            refine am_goto 85 dX11_rooms_149 rfl ?_
            exact ih _ _ _ _ _ _ _ _ _ hres
        · rw [if_neg hc20] at hres
          refine am_goto 146 dX11_rooms_131 rfl ?_
          refine am_iinc (pc' := 149) (ls' := [some (.ref 0), none, some (.int v2), none, none, none, some (.int v6), some (.int v7), some (.int v8), some (.int v9), some (.int v10), some (.int (v11 + (1 : Int32)))]) dX11_rooms_146 rfl (show v11 + Int32.ofInt 1 = (v11 + (1 : Int32)) from congrArg (fun z => v11 + z) kc_1) (Nat.le_of_ble_eq_true rfl) rfl rfl rfl ?_
          refine am_goto 85 dX11_rooms_149 rfl ?_
          exact ih _ _ _ _ _ _ _ _ _ hres

set_option maxRecDepth 100000 in
set_option maxHeartbeats 4000000 in
theorem tx_X11_rooms (r : am_W) (a1 : Int32) (a2 : Int32) (a3 : Int32) (a4 : Int32) (S : sx_T) (res : Int32 × sx_T) (hres : fx_X11_rooms a1 a2 a3 a4 S = some res) : am_T mX11_rooms 8 0 0 [.ref 0, .int a1, .int a2, .int a3, .int a4] (sx_w S r) (some (.int res.1)) (sx_w res.2 r) := by
  refine am_meth (ls := [some (.ref 0), some (.int a1), some (.int a2), some (.int a3), some (.int a4), none, none, none, none, none, none, none]) (by decide +kernel) rfl (Nat.le_of_ble_eq_true rfl) (sx_len _ _ _) ?_
  rw [fx_X11_rooms] at hres
  refine am_aload_n (pc' := 1) 0 dX11_rooms_0 rfl rfl rfl ?_
  refine am_iload_n (pc' := 2) 1 dX11_rooms_1 rfl rfl rfl ?_
  refine am_iload_n (pc' := 3) 2 dX11_rooms_2 rfl rfl rfl ?_
  refine am_iload_n (pc' := 4) 3 dX11_rooms_3 rfl rfl rfl ?_
  obtain ⟨q1, hq2, hres⟩ := am_bd_s hres
  refine am_cV (pc' := 7) (st' := [.int q1.1]) [] [.int a1, .int a2, .int a3] dX11_rooms_4 cs_X11_245 (tx_X11_startTold r a1 a2 a3 S _ hq2) rfl rfl rfl (sx_c0 S r) rfl rfl rfl rfl rfl ?_
  refine am_istore (pc' := 9) (ls' := [some (.ref 0), some (.int a1), some (.int a2), some (.int a3), some (.int a4), some (.int q1.1), none, none, none, none, none, none]) dX11_rooms_7 (Nat.le_of_ble_eq_true rfl) rfl rfl rfl ?_
  refine am_iload (pc' := 11) dX11_rooms_9 rfl rfl ?_
  refine am_if_eq (pc' := 14) 17 dX11_rooms_11 rfl rfl (fun hc3 => ?_) (fun hc3 => ?_)
  · rw [if_pos hc3] at hres
    refine am_iload (pc' := 19) dX11_rooms_17 rfl rfl ?_
    refine am_sipush (pc' := 22) (v := 600) dX11_rooms_19 ks_600 rfl ?_
    refine am_cS (pc' := 25) (st' := [.int (fx_X11_within a4 (600 : Int32))]) [] [.int a4, .int (600 : Int32)] dX11_rooms_22 cs_X11_129 (tx_X11_within (sx_w q1.2 r) a4 (600 : Int32) _ rfl) rfl rfl rfl rfl rfl rfl ?_
    refine am_if_ne (pc' := 28) 31 dX11_rooms_25 rfl rfl (fun hc4 => ?_) (fun hc4 => ?_)
    · rw [if_neg hc4] at hres
      refine am_iload (pc' := 33) dX11_rooms_31 rfl rfl ?_
      refine am_bipush (pc' := 35) (v := 100) dX11_rooms_33 kb_100 rfl ?_
      refine am_idiv (pc' := 36) dX11_rooms_35 (by decide) rfl ?_
      refine am_istore (pc' := 38) (ls' := [some (.ref 0), some (.int a1), some (.int a2), some (.int a3), some (.int a4), some (.int q1.1), some (.int (a4 / (100 : Int32))), none, none, none, none, none]) dX11_rooms_36 (Nat.le_of_ble_eq_true rfl) rfl rfl rfl ?_
      refine am_iload (pc' := 40) dX11_rooms_38 rfl rfl ?_
      refine am_bipush (pc' := 42) (v := 10) dX11_rooms_40 kb_10 rfl ?_
      refine am_idiv (pc' := 43) dX11_rooms_42 (by decide) rfl ?_
      refine am_bipush (pc' := 45) (v := 10) dX11_rooms_43 kb_10 rfl ?_
      refine am_irem (pc' := 46) dX11_rooms_45 (by decide) rfl ?_
      refine am_istore (pc' := 48) (ls' := [some (.ref 0), some (.int a1), some (.int a2), some (.int a3), some (.int a4), some (.int q1.1), some (.int (a4 / (100 : Int32))), some (.int ((a4 / (10 : Int32)) - (a4 / (10 : Int32)) / (10 : Int32) * (10 : Int32))), none, none, none, none]) dX11_rooms_46 (Nat.le_of_ble_eq_true rfl) rfl rfl rfl ?_
      refine am_iload (pc' := 50) dX11_rooms_48 rfl rfl ?_
      refine am_bipush (pc' := 52) (v := 10) dX11_rooms_50 kb_10 rfl ?_
      refine am_irem (pc' := 53) dX11_rooms_52 (by decide) rfl ?_
      refine am_istore (pc' := 55) (ls' := [some (.ref 0), some (.int a1), some (.int a2), some (.int a3), some (.int a4), some (.int q1.1), some (.int (a4 / (100 : Int32))), some (.int ((a4 / (10 : Int32)) - (a4 / (10 : Int32)) / (10 : Int32) * (10 : Int32))), some (.int (a4 - a4 / (10 : Int32) * (10 : Int32))), none, none, none]) dX11_rooms_53 (Nat.le_of_ble_eq_true rfl) rfl rfl rfl ?_
      refine am_iload (pc' := 57) dX11_rooms_55 rfl rfl ?_
      refine am_iconst (pc' := 58) (v := 2) dX11_rooms_57 kc_2 rfl ?_
      refine am_cS (pc' := 61) (st' := [.int (fx_X11_within ((a4 / (10 : Int32)) - (a4 / (10 : Int32)) / (10 : Int32) * (10 : Int32)) (2 : Int32))]) [] [.int ((a4 / (10 : Int32)) - (a4 / (10 : Int32)) / (10 : Int32) * (10 : Int32)), .int (2 : Int32)] dX11_rooms_58 cs_X11_129 (tx_X11_within (sx_w q1.2 r) ((a4 / (10 : Int32)) - (a4 / (10 : Int32)) / (10 : Int32) * (10 : Int32)) (2 : Int32) _ rfl) rfl rfl rfl rfl rfl rfl ?_
      refine am_if_eq (pc' := 64) 73 dX11_rooms_61 rfl rfl (fun hc5 => ?_) (fun hc5 => ?_)
      · rw [if_pos hc5] at hres
        refine am_bipush (pc' := 75) (v := (-7)) dX11_rooms_73 kb_m7 rfl ?_
        obtain rfl := Option.some.inj hres
        exact am_iret dX11_rooms_75 rfl rfl rfl
      · rw [if_neg hc5] at hres
        refine am_iload (pc' := 66) dX11_rooms_64 rfl rfl ?_
        refine am_iconst (pc' := 67) (v := 2) dX11_rooms_66 kc_2 rfl ?_
        refine am_cS (pc' := 70) (st' := [.int (fx_X11_within (a4 - a4 / (10 : Int32) * (10 : Int32)) (2 : Int32))]) [] [.int (a4 - a4 / (10 : Int32) * (10 : Int32)), .int (2 : Int32)] dX11_rooms_67 cs_X11_129 (tx_X11_within (sx_w q1.2 r) (a4 - a4 / (10 : Int32) * (10 : Int32)) (2 : Int32) _ rfl) rfl rfl rfl rfl rfl rfl ?_
        refine am_if_ne (pc' := 73) 76 dX11_rooms_70 rfl rfl (fun hc6 => ?_) (fun hc6 => ?_)
        · rw [if_neg hc6] at hres
          refine am_iconst (pc' := 77) (v := 0) dX11_rooms_76 kc_0 rfl ?_
          refine am_istore (pc' := 79) (ls' := [some (.ref 0), some (.int a1), some (.int a2), some (.int a3), some (.int a4), some (.int q1.1), some (.int (a4 / (100 : Int32))), some (.int ((a4 / (10 : Int32)) - (a4 / (10 : Int32)) / (10 : Int32) * (10 : Int32))), some (.int (a4 - a4 / (10 : Int32) * (10 : Int32))), some (.int (0 : Int32)), none, none]) dX11_rooms_77 (Nat.le_of_ble_eq_true rfl) rfl rfl rfl ?_
          refine am_iconst (pc' := 80) (v := (-1)) dX11_rooms_79 kc_m1 rfl ?_
          refine am_istore (pc' := 82) (ls' := [some (.ref 0), some (.int a1), some (.int a2), some (.int a3), some (.int a4), some (.int q1.1), some (.int (a4 / (100 : Int32))), some (.int ((a4 / (10 : Int32)) - (a4 / (10 : Int32)) / (10 : Int32) * (10 : Int32))), some (.int (a4 - a4 / (10 : Int32) * (10 : Int32))), some (.int (0 : Int32)), some (.int (-1 : Int32)), none]) dX11_rooms_80 (Nat.le_of_ble_eq_true rfl) rfl rfl rfl ?_
          refine am_iconst (pc' := 83) (v := 0) dX11_rooms_82 kc_0 rfl ?_
          refine am_istore (pc' := 85) (ls' := [some (.ref 0), some (.int a1), some (.int a2), some (.int a3), some (.int a4), some (.int q1.1), some (.int (a4 / (100 : Int32))), some (.int ((a4 / (10 : Int32)) - (a4 / (10 : Int32)) / (10 : Int32) * (10 : Int32))), some (.int (a4 - a4 / (10 : Int32) * (10 : Int32))), some (.int (0 : Int32)), some (.int (-1 : Int32)), some (.int (0 : Int32))]) dX11_rooms_83 (Nat.le_of_ble_eq_true rfl) rfl rfl rfl ?_
          refine am_weak (ls' := [some (.ref 0), none, some (.int a2), none, none, none, some (.int (a4 / (100 : Int32))), some (.int ((a4 / (10 : Int32)) - (a4 / (10 : Int32)) / (10 : Int32) * (10 : Int32))), some (.int (a4 - a4 / (10 : Int32) * (10 : Int32))), some (.int (0 : Int32)), some (.int (-1 : Int32)), some (.int (0 : Int32))]) [false, true, false, true, true, true, false, false, false, false, false, false] rfl ?_
          exact wx_X11_rooms_85 r am_fu _ _ _ _ _ _ _ _ _ hres
        · rw [if_pos hc6] at hres
          refine am_bipush (pc' := 75) (v := (-7)) dX11_rooms_73 kb_m7 rfl ?_
          obtain rfl := Option.some.inj hres
          exact am_iret dX11_rooms_75 rfl rfl rfl
    · rw [if_pos hc4] at hres
      refine am_bipush (pc' := 30) (v := (-7)) dX11_rooms_28 kb_m7 rfl ?_
      obtain rfl := Option.some.inj hres
      exact am_iret dX11_rooms_30 rfl rfl rfl
  · rw [if_neg hc3] at hres
    refine am_iload (pc' := 16) dX11_rooms_14 rfl rfl ?_
    obtain rfl := Option.some.inj hres
    exact am_iret dX11_rooms_16 rfl rfl rfl
set_option maxRecDepth 100000 in
set_option maxHeartbeats 4000000 in
theorem tx_X11_sheet (r : am_W) (a1 : Int32) (a2 : Int32) (a3 : Int32) (S : sx_T) (res : Int32 × sx_T) (hres : fx_X11_sheet a1 a2 a3 S = some res) : am_T mX11_sheet 2 0 0 [.ref 0, .int a1, .int a2, .int a3] (sx_w S r) (some (.int res.1)) (sx_w res.2 r) := by
  refine am_meth (ls := [some (.ref 0), some (.int a1), some (.int a2), some (.int a3)]) (by decide +kernel) rfl (Nat.le_of_ble_eq_true rfl) (sx_len _ _ _) ?_
  rw [fx_X11_sheet] at hres
  refine am_iload_n (pc' := 1) 1 dX11_sheet_0 rfl rfl rfl ?_
  refine am_iconst (pc' := 2) (v := 4) dX11_sheet_1 kc_4 rfl ?_
  refine am_cS (pc' := 5) (st' := [.int (fx_X11_within a1 (4 : Int32))]) [] [.int a1, .int (4 : Int32)] dX11_sheet_2 cs_X11_129 (tx_X11_within (sx_w S r) a1 (4 : Int32) _ rfl) rfl rfl rfl rfl rfl rfl ?_
  refine am_if_eq (pc' := 8) 18 dX11_sheet_5 rfl rfl (fun hc1 => ?_) (fun hc1 => ?_)
  · rw [if_pos hc1] at hres
    refine am_bipush (pc' := 20) (v := (-2)) dX11_sheet_18 kb_m2 rfl ?_
    obtain rfl := Option.some.inj hres
    exact am_iret dX11_sheet_20 rfl rfl rfl
  · rw [if_neg hc1] at hres
    refine am_iload_n (pc' := 9) 2 dX11_sheet_8 rfl rfl rfl ?_
    refine am_iconst (pc' := 10) (v := (-1)) dX11_sheet_9 kc_m1 rfl ?_
    refine am_icmp_lt (pc' := 13) 18 dX11_sheet_10 rfl rfl (fun hc2 => ?_) (fun hc2 => ?_)
    · rw [if_pos hc2] at hres
      refine am_bipush (pc' := 20) (v := (-2)) dX11_sheet_18 kb_m2 rfl ?_
      obtain rfl := Option.some.inj hres
      exact am_iret dX11_sheet_20 rfl rfl rfl
    · rw [if_neg hc2] at hres
      refine am_iload_n (pc' := 14) 2 dX11_sheet_13 rfl rfl rfl ?_
      refine am_iconst (pc' := 15) (v := 2) dX11_sheet_14 kc_2 rfl ?_
      refine am_icmp_le (pc' := 18) 21 dX11_sheet_15 rfl rfl (fun hc3 => ?_) (fun hc3 => ?_)
      · rw [if_pos hc3] at hres
        refine am_iload_n (pc' := 22) 2 dX11_sheet_21 rfl rfl rfl ?_
        refine am_iconst (pc' := 23) (v := (-1)) dX11_sheet_22 kc_m1 rfl ?_
        refine am_icmp_ne (pc' := 26) 38 dX11_sheet_23 rfl rfl (fun hc4 => ?_) (fun hc4 => ?_)
        · rw [if_neg hc4] at hres
          refine am_iload_n (pc' := 39) 3 dX11_sheet_38 rfl rfl rfl ?_
          refine am_bipush (pc' := 41) (v := 40) dX11_sheet_39 kb_40 rfl ?_
          refine am_icmp_le (pc' := 44) 47 dX11_sheet_41 rfl rfl (fun hc5 => ?_) (fun hc5 => ?_)
          · rw [if_pos hc5] at hres
            refine am_iload_n (pc' := 48) 3 dX11_sheet_47 rfl rfl rfl ?_
            refine am_if_ge (pc' := 51) 54 dX11_sheet_48 rfl rfl (fun hc6 => ?_) (fun hc6 => ?_)
            · rw [if_pos hc6] at hres
              refine am_aload_n (pc' := 55) 0 dX11_sheet_54 rfl rfl rfl ?_
              refine am_get (pc' := 58) (v := .ref 30) dX11_sheet_55 fl_X11_71 (sx_c0 S r) rfl rfl ?_
              refine am_iload_n (pc' := 59) 1 dX11_sheet_58 rfl rfl rfl ?_
              refine am_iload_n (pc' := 60) 2 dX11_sheet_59 rfl rfl rfl ?_
              refine am_iload_n (pc' := 61) 3 dX11_sheet_60 rfl rfl rfl ?_
              obtain ⟨q7, hq8, hres⟩ := am_bd_s hres
              refine am_cV (pc' := 64) (st' := []) [] [.int a1, .int a2, .int a3] dX11_sheet_61 cs_X11_272 (tx_X5_lay r a1 a2 a3 S _ hq8) rfl rfl rfl (sx_c30 S r) rfl rfl rfl rfl rfl ?_
              refine am_iconst (pc' := 65) (v := 1) dX11_sheet_64 kc_1 rfl ?_
              obtain rfl := Option.some.inj hres
              exact am_iret dX11_sheet_65 rfl rfl rfl
            · rw [if_neg hc6] at hres
              refine am_bipush (pc' := 53) (v := (-14)) dX11_sheet_51 kb_m14 rfl ?_
              obtain rfl := Option.some.inj hres
              exact am_iret dX11_sheet_53 rfl rfl rfl
          · rw [if_neg hc5] at hres
            refine am_bipush (pc' := 46) (v := (-2)) dX11_sheet_44 kb_m2 rfl ?_
            obtain rfl := Option.some.inj hres
            exact am_iret dX11_sheet_46 rfl rfl rfl
        · rw [if_pos hc4] at hres
          refine am_aload_n (pc' := 27) 0 dX11_sheet_26 rfl rfl rfl ?_
          refine am_get (pc' := 30) (v := .ref 30) dX11_sheet_27 fl_X11_71 (sx_c0 S r) rfl rfl ?_
          refine am_iload_n (pc' := 31) 1 dX11_sheet_30 rfl rfl rfl ?_
          refine am_iconst (pc' := 32) (v := (-1)) dX11_sheet_31 kc_m1 rfl ?_
          refine am_iconst (pc' := 33) (v := 0) dX11_sheet_32 kc_0 rfl ?_
          obtain ⟨q9, hq10, hres⟩ := am_bd_s hres
          refine am_cV (pc' := 36) (st' := []) [] [.int a1, .int (-1 : Int32), .int (0 : Int32)] dX11_sheet_33 cs_X11_272 (tx_X5_lay r a1 (-1 : Int32) (0 : Int32) S _ hq10) rfl rfl rfl (sx_c30 S r) rfl rfl rfl rfl rfl ?_
          refine am_iconst (pc' := 37) (v := 1) dX11_sheet_36 kc_1 rfl ?_
          obtain rfl := Option.some.inj hres
          exact am_iret dX11_sheet_37 rfl rfl rfl
      · rw [if_neg hc3] at hres
        refine am_bipush (pc' := 20) (v := (-2)) dX11_sheet_18 kb_m2 rfl ?_
        obtain rfl := Option.some.inj hres
        exact am_iret dX11_sheet_20 rfl rfl rfl
set_option maxRecDepth 100000 in
set_option maxHeartbeats 4000000 in
theorem tx_J6_bitCount_0f7a4 (ws : am_W) (a1 : Int32) (res : Int32) (hres : fx_J6_bitCount_0f7a4 a1 = res) : am_T mJ6_bitCount_0f7a4 0 0 0 [.int a1] ws (some (.int res)) ws := by
  refine am_meth (ls := [some (.int a1)]) (by decide +kernel) rfl (Nat.le_of_ble_eq_true rfl) ⟨rfl, Or.inl rfl⟩ ?_
  rw [fx_J6_bitCount_0f7a4] at hres
  refine am_iload_n (pc' := 1) 0 dJ6_bitCount_0f7a4_0 rfl rfl rfl ?_
  refine am_iload_n (pc' := 2) 0 dJ6_bitCount_0f7a4_1 rfl rfl rfl ?_
  refine am_iconst (pc' := 3) (v := 1) dJ6_bitCount_0f7a4_2 kc_1 rfl ?_
  refine am_iushr (pc' := 4) dJ6_bitCount_0f7a4_3 rfl rfl ?_
  refine am_ldcw (pc' := 7) dJ6_bitCount_0f7a4_4 ck_J6_265 rfl ?_
  refine am_iand (pc' := 8) dJ6_bitCount_0f7a4_7 rfl ?_
  refine am_isub (pc' := 9) dJ6_bitCount_0f7a4_8 rfl ?_
  refine am_istore_n (pc' := 10) (ls' := [some (.int (a1 - (((a1.toUInt32 >>> ((1 : Int32).toUInt32 &&& Int32.toUInt32 31)).toInt32) &&& (1431655765 : Int32))))]) 0 dJ6_bitCount_0f7a4_9 rfl (Nat.le_of_ble_eq_true rfl) rfl rfl rfl ?_
  refine am_iload_n (pc' := 11) 0 dJ6_bitCount_0f7a4_10 rfl rfl rfl ?_
  refine am_ldcw (pc' := 14) dJ6_bitCount_0f7a4_11 ck_J6_266 rfl ?_
  refine am_iand (pc' := 15) dJ6_bitCount_0f7a4_14 rfl ?_
  refine am_iload_n (pc' := 16) 0 dJ6_bitCount_0f7a4_15 rfl rfl rfl ?_
  refine am_iconst (pc' := 17) (v := 2) dJ6_bitCount_0f7a4_16 kc_2 rfl ?_
  refine am_iushr (pc' := 18) dJ6_bitCount_0f7a4_17 rfl rfl ?_
  refine am_ldcw (pc' := 21) dJ6_bitCount_0f7a4_18 ck_J6_266 rfl ?_
  refine am_iand (pc' := 22) dJ6_bitCount_0f7a4_21 rfl ?_
  refine am_iadd (pc' := 23) dJ6_bitCount_0f7a4_22 rfl ?_
  refine am_istore_n (pc' := 24) (ls' := [some (.int (((a1 - (((a1.toUInt32 >>> ((1 : Int32).toUInt32 &&& Int32.toUInt32 31)).toInt32) &&& (1431655765 : Int32))) &&& (858993459 : Int32)) + ((((a1 - (((a1.toUInt32 >>> ((1 : Int32).toUInt32 &&& Int32.toUInt32 31)).toInt32) &&& (1431655765 : Int32))).toUInt32 >>> ((2 : Int32).toUInt32 &&& Int32.toUInt32 31)).toInt32) &&& (858993459 : Int32))))]) 0 dJ6_bitCount_0f7a4_23 rfl (Nat.le_of_ble_eq_true rfl) rfl rfl rfl ?_
  refine am_iload_n (pc' := 25) 0 dJ6_bitCount_0f7a4_24 rfl rfl rfl ?_
  refine am_iload_n (pc' := 26) 0 dJ6_bitCount_0f7a4_25 rfl rfl rfl ?_
  refine am_iconst (pc' := 27) (v := 4) dJ6_bitCount_0f7a4_26 kc_4 rfl ?_
  refine am_iushr (pc' := 28) dJ6_bitCount_0f7a4_27 rfl rfl ?_
  refine am_iadd (pc' := 29) dJ6_bitCount_0f7a4_28 rfl ?_
  refine am_ldcw (pc' := 32) dJ6_bitCount_0f7a4_29 ck_J6_267 rfl ?_
  refine am_iand (pc' := 33) dJ6_bitCount_0f7a4_32 rfl ?_
  refine am_istore_n (pc' := 34) (ls' := [some (.int (((((a1 - (((a1.toUInt32 >>> ((1 : Int32).toUInt32 &&& Int32.toUInt32 31)).toInt32) &&& (1431655765 : Int32))) &&& (858993459 : Int32)) + ((((a1 - (((a1.toUInt32 >>> ((1 : Int32).toUInt32 &&& Int32.toUInt32 31)).toInt32) &&& (1431655765 : Int32))).toUInt32 >>> ((2 : Int32).toUInt32 &&& Int32.toUInt32 31)).toInt32) &&& (858993459 : Int32))) + (((((a1 - (((a1.toUInt32 >>> ((1 : Int32).toUInt32 &&& Int32.toUInt32 31)).toInt32) &&& (1431655765 : Int32))) &&& (858993459 : Int32)) + ((((a1 - (((a1.toUInt32 >>> ((1 : Int32).toUInt32 &&& Int32.toUInt32 31)).toInt32) &&& (1431655765 : Int32))).toUInt32 >>> ((2 : Int32).toUInt32 &&& Int32.toUInt32 31)).toInt32) &&& (858993459 : Int32))).toUInt32 >>> ((4 : Int32).toUInt32 &&& Int32.toUInt32 31)).toInt32)) &&& (252645135 : Int32)))]) 0 dJ6_bitCount_0f7a4_33 rfl (Nat.le_of_ble_eq_true rfl) rfl rfl rfl ?_
  refine am_iload_n (pc' := 35) 0 dJ6_bitCount_0f7a4_34 rfl rfl rfl ?_
  refine am_iload_n (pc' := 36) 0 dJ6_bitCount_0f7a4_35 rfl rfl rfl ?_
  refine am_bipush (pc' := 38) (v := 8) dJ6_bitCount_0f7a4_36 kb_8 rfl ?_
  refine am_iushr (pc' := 39) dJ6_bitCount_0f7a4_38 rfl rfl ?_
  refine am_iadd (pc' := 40) dJ6_bitCount_0f7a4_39 rfl ?_
  refine am_istore_n (pc' := 41) (ls' := [some (.int ((((((a1 - (((a1.toUInt32 >>> ((1 : Int32).toUInt32 &&& Int32.toUInt32 31)).toInt32) &&& (1431655765 : Int32))) &&& (858993459 : Int32)) + ((((a1 - (((a1.toUInt32 >>> ((1 : Int32).toUInt32 &&& Int32.toUInt32 31)).toInt32) &&& (1431655765 : Int32))).toUInt32 >>> ((2 : Int32).toUInt32 &&& Int32.toUInt32 31)).toInt32) &&& (858993459 : Int32))) + (((((a1 - (((a1.toUInt32 >>> ((1 : Int32).toUInt32 &&& Int32.toUInt32 31)).toInt32) &&& (1431655765 : Int32))) &&& (858993459 : Int32)) + ((((a1 - (((a1.toUInt32 >>> ((1 : Int32).toUInt32 &&& Int32.toUInt32 31)).toInt32) &&& (1431655765 : Int32))).toUInt32 >>> ((2 : Int32).toUInt32 &&& Int32.toUInt32 31)).toInt32) &&& (858993459 : Int32))).toUInt32 >>> ((4 : Int32).toUInt32 &&& Int32.toUInt32 31)).toInt32)) &&& (252645135 : Int32)) + (((((((a1 - (((a1.toUInt32 >>> ((1 : Int32).toUInt32 &&& Int32.toUInt32 31)).toInt32) &&& (1431655765 : Int32))) &&& (858993459 : Int32)) + ((((a1 - (((a1.toUInt32 >>> ((1 : Int32).toUInt32 &&& Int32.toUInt32 31)).toInt32) &&& (1431655765 : Int32))).toUInt32 >>> ((2 : Int32).toUInt32 &&& Int32.toUInt32 31)).toInt32) &&& (858993459 : Int32))) + (((((a1 - (((a1.toUInt32 >>> ((1 : Int32).toUInt32 &&& Int32.toUInt32 31)).toInt32) &&& (1431655765 : Int32))) &&& (858993459 : Int32)) + ((((a1 - (((a1.toUInt32 >>> ((1 : Int32).toUInt32 &&& Int32.toUInt32 31)).toInt32) &&& (1431655765 : Int32))).toUInt32 >>> ((2 : Int32).toUInt32 &&& Int32.toUInt32 31)).toInt32) &&& (858993459 : Int32))).toUInt32 >>> ((4 : Int32).toUInt32 &&& Int32.toUInt32 31)).toInt32)) &&& (252645135 : Int32)).toUInt32 >>> ((8 : Int32).toUInt32 &&& Int32.toUInt32 31)).toInt32)))]) 0 dJ6_bitCount_0f7a4_40 rfl (Nat.le_of_ble_eq_true rfl) rfl rfl rfl ?_
  refine am_iload_n (pc' := 42) 0 dJ6_bitCount_0f7a4_41 rfl rfl rfl ?_
  refine am_iload_n (pc' := 43) 0 dJ6_bitCount_0f7a4_42 rfl rfl rfl ?_
  refine am_bipush (pc' := 45) (v := 16) dJ6_bitCount_0f7a4_43 kb_16 rfl ?_
  refine am_iushr (pc' := 46) dJ6_bitCount_0f7a4_45 rfl rfl ?_
  refine am_iadd (pc' := 47) dJ6_bitCount_0f7a4_46 rfl ?_
  refine am_istore_n (pc' := 48) (ls' := [some (.int (((((((a1 - (((a1.toUInt32 >>> ((1 : Int32).toUInt32 &&& Int32.toUInt32 31)).toInt32) &&& (1431655765 : Int32))) &&& (858993459 : Int32)) + ((((a1 - (((a1.toUInt32 >>> ((1 : Int32).toUInt32 &&& Int32.toUInt32 31)).toInt32) &&& (1431655765 : Int32))).toUInt32 >>> ((2 : Int32).toUInt32 &&& Int32.toUInt32 31)).toInt32) &&& (858993459 : Int32))) + (((((a1 - (((a1.toUInt32 >>> ((1 : Int32).toUInt32 &&& Int32.toUInt32 31)).toInt32) &&& (1431655765 : Int32))) &&& (858993459 : Int32)) + ((((a1 - (((a1.toUInt32 >>> ((1 : Int32).toUInt32 &&& Int32.toUInt32 31)).toInt32) &&& (1431655765 : Int32))).toUInt32 >>> ((2 : Int32).toUInt32 &&& Int32.toUInt32 31)).toInt32) &&& (858993459 : Int32))).toUInt32 >>> ((4 : Int32).toUInt32 &&& Int32.toUInt32 31)).toInt32)) &&& (252645135 : Int32)) + (((((((a1 - (((a1.toUInt32 >>> ((1 : Int32).toUInt32 &&& Int32.toUInt32 31)).toInt32) &&& (1431655765 : Int32))) &&& (858993459 : Int32)) + ((((a1 - (((a1.toUInt32 >>> ((1 : Int32).toUInt32 &&& Int32.toUInt32 31)).toInt32) &&& (1431655765 : Int32))).toUInt32 >>> ((2 : Int32).toUInt32 &&& Int32.toUInt32 31)).toInt32) &&& (858993459 : Int32))) + (((((a1 - (((a1.toUInt32 >>> ((1 : Int32).toUInt32 &&& Int32.toUInt32 31)).toInt32) &&& (1431655765 : Int32))) &&& (858993459 : Int32)) + ((((a1 - (((a1.toUInt32 >>> ((1 : Int32).toUInt32 &&& Int32.toUInt32 31)).toInt32) &&& (1431655765 : Int32))).toUInt32 >>> ((2 : Int32).toUInt32 &&& Int32.toUInt32 31)).toInt32) &&& (858993459 : Int32))).toUInt32 >>> ((4 : Int32).toUInt32 &&& Int32.toUInt32 31)).toInt32)) &&& (252645135 : Int32)).toUInt32 >>> ((8 : Int32).toUInt32 &&& Int32.toUInt32 31)).toInt32)) + ((((((((a1 - (((a1.toUInt32 >>> ((1 : Int32).toUInt32 &&& Int32.toUInt32 31)).toInt32) &&& (1431655765 : Int32))) &&& (858993459 : Int32)) + ((((a1 - (((a1.toUInt32 >>> ((1 : Int32).toUInt32 &&& Int32.toUInt32 31)).toInt32) &&& (1431655765 : Int32))).toUInt32 >>> ((2 : Int32).toUInt32 &&& Int32.toUInt32 31)).toInt32) &&& (858993459 : Int32))) + (((((a1 - (((a1.toUInt32 >>> ((1 : Int32).toUInt32 &&& Int32.toUInt32 31)).toInt32) &&& (1431655765 : Int32))) &&& (858993459 : Int32)) + ((((a1 - (((a1.toUInt32 >>> ((1 : Int32).toUInt32 &&& Int32.toUInt32 31)).toInt32) &&& (1431655765 : Int32))).toUInt32 >>> ((2 : Int32).toUInt32 &&& Int32.toUInt32 31)).toInt32) &&& (858993459 : Int32))).toUInt32 >>> ((4 : Int32).toUInt32 &&& Int32.toUInt32 31)).toInt32)) &&& (252645135 : Int32)) + (((((((a1 - (((a1.toUInt32 >>> ((1 : Int32).toUInt32 &&& Int32.toUInt32 31)).toInt32) &&& (1431655765 : Int32))) &&& (858993459 : Int32)) + ((((a1 - (((a1.toUInt32 >>> ((1 : Int32).toUInt32 &&& Int32.toUInt32 31)).toInt32) &&& (1431655765 : Int32))).toUInt32 >>> ((2 : Int32).toUInt32 &&& Int32.toUInt32 31)).toInt32) &&& (858993459 : Int32))) + (((((a1 - (((a1.toUInt32 >>> ((1 : Int32).toUInt32 &&& Int32.toUInt32 31)).toInt32) &&& (1431655765 : Int32))) &&& (858993459 : Int32)) + ((((a1 - (((a1.toUInt32 >>> ((1 : Int32).toUInt32 &&& Int32.toUInt32 31)).toInt32) &&& (1431655765 : Int32))).toUInt32 >>> ((2 : Int32).toUInt32 &&& Int32.toUInt32 31)).toInt32) &&& (858993459 : Int32))).toUInt32 >>> ((4 : Int32).toUInt32 &&& Int32.toUInt32 31)).toInt32)) &&& (252645135 : Int32)).toUInt32 >>> ((8 : Int32).toUInt32 &&& Int32.toUInt32 31)).toInt32)).toUInt32 >>> ((16 : Int32).toUInt32 &&& Int32.toUInt32 31)).toInt32)))]) 0 dJ6_bitCount_0f7a4_47 rfl (Nat.le_of_ble_eq_true rfl) rfl rfl rfl ?_
  refine am_iload_n (pc' := 49) 0 dJ6_bitCount_0f7a4_48 rfl rfl rfl ?_
  refine am_bipush (pc' := 51) (v := 63) dJ6_bitCount_0f7a4_49 kb_63 rfl ?_
  refine am_iand (pc' := 52) dJ6_bitCount_0f7a4_51 rfl ?_
  subst hres
  exact am_iret dJ6_bitCount_0f7a4_52 rfl rfl rfl
set_option maxRecDepth 100000 in
set_option maxHeartbeats 4000000 in
theorem tx_X11_shown (r : am_W) (a1 : Int32) (a2 : Int32) (a3 : Int32) (S : sx_T) (res : Int32 × sx_T) (hres : fx_X11_shown a1 a2 a3 S = some res) : am_T mX11_shown 8 0 0 [.ref 0, .int a1, .int a2, .int a3] (sx_w S r) (some (.int res.1)) (sx_w res.2 r) := by
  refine am_meth (ls := [some (.ref 0), some (.int a1), some (.int a2), some (.int a3), none, none]) (by decide +kernel) rfl (Nat.le_of_ble_eq_true rfl) (sx_len _ _ _) ?_
  rw [fx_X11_shown] at hres
  refine am_aload_n (pc' := 1) 0 dX11_shown_0 rfl rfl rfl ?_
  refine am_iload_n (pc' := 2) 1 dX11_shown_1 rfl rfl rfl ?_
  obtain ⟨q1, hq2, hres⟩ := am_bd_s hres
  refine am_cV (pc' := 5) (st' := [.int q1.1]) [] [.int a1] dX11_shown_2 cs_X11_176 (tx_X11_startTour r a1 S _ hq2) rfl rfl rfl (sx_c0 S r) rfl rfl rfl rfl rfl ?_
  refine am_istore (pc' := 7) (ls' := [some (.ref 0), some (.int a1), some (.int a2), some (.int a3), some (.int q1.1), none]) dX11_shown_5 (Nat.le_of_ble_eq_true rfl) rfl rfl rfl ?_
  refine am_iload (pc' := 9) dX11_shown_7 rfl rfl ?_
  refine am_if_eq (pc' := 12) 15 dX11_shown_9 rfl rfl (fun hc3 => ?_) (fun hc3 => ?_)
  · rw [if_pos hc3] at hres
    refine am_aload_n (pc' := 16) 0 dX11_shown_15 rfl rfl rfl ?_
    refine am_iload_n (pc' := 17) 2 dX11_shown_16 rfl rfl rfl ?_
    refine am_cV (pc' := 20) (st' := [.int (fx_X11_areViewers a2 q1.2)]) [] [.int a2] dX11_shown_17 cs_X11_194 (tx_X11_areViewers r a2 q1.2 _ rfl) rfl rfl rfl (sx_c0 q1.2 r) rfl rfl rfl rfl rfl ?_
    refine am_if_eq (pc' := 23) 31 dX11_shown_20 rfl rfl (fun hc4 => ?_) (fun hc4 => ?_)
    · rw [if_pos hc4] at hres
      refine am_bipush (pc' := 33) (v := (-7)) dX11_shown_31 kb_m7 rfl ?_
      obtain rfl := Option.some.inj hres
      exact am_iret dX11_shown_33 rfl rfl rfl
    · rw [if_neg hc4] at hres
      refine am_iload_n (pc' := 24) 3 dX11_shown_23 rfl rfl rfl ?_
      refine am_iconst (pc' := 25) (v := 3) dX11_shown_24 kc_3 rfl ?_
      refine am_cS (pc' := 28) (st' := [.int (fx_X11_within a3 (3 : Int32))]) [] [.int a3, .int (3 : Int32)] dX11_shown_25 cs_X11_129 (tx_X11_within (sx_w q1.2 r) a3 (3 : Int32) _ rfl) rfl rfl rfl rfl rfl rfl ?_
      refine am_if_ne (pc' := 31) 34 dX11_shown_28 rfl rfl (fun hc5 => ?_) (fun hc5 => ?_)
      · rw [if_neg hc5] at hres
        refine am_aload_n (pc' := 35) 0 dX11_shown_34 rfl rfl rfl ?_
        refine am_iload_n (pc' := 36) 2 dX11_shown_35 rfl rfl rfl ?_
        refine am_iload_n (pc' := 37) 2 dX11_shown_36 rfl rfl rfl ?_
        refine am_cS (pc' := 40) (st' := [.int (fx_J6_bitCount_0f7a4 a2), .int a2, .ref 0]) [.int a2, .ref 0] [.int a2] dX11_shown_37 cs_X11_197 (tx_J6_bitCount_0f7a4 (sx_w q1.2 r) a2 _ rfl) rfl rfl rfl rfl rfl rfl ?_
        obtain ⟨q6, hq7, hres⟩ := am_bd_s hres
        refine am_cV (pc' := 43) (st' := []) [] [.int a2, .int (fx_J6_bitCount_0f7a4 a2)] dX11_shown_40 cs_X11_202 (tx_X11_fillOffers r a2 (fx_J6_bitCount_0f7a4 a2) q1.2 _ hq7) rfl rfl rfl (sx_c0 q1.2 r) rfl rfl rfl rfl rfl ?_
        refine am_aload_n (pc' := 44) 0 dX11_shown_43 rfl rfl rfl ?_
        refine am_iload_n (pc' := 45) 2 dX11_shown_44 rfl rfl rfl ?_
        obtain ⟨q8, hq9, hres⟩ := am_bd_s hres
        refine am_cV (pc' := 48) (st' := [.int q8]) [] [.int a2] dX11_shown_45 cs_X11_205 (tx_X11_firstOfMost r a2 q6 _ hq9) rfl rfl rfl (sx_c0 q6 r) rfl rfl rfl rfl rfl ?_
        refine am_istore (pc' := 50) (ls' := [some (.ref 0), some (.int a1), some (.int a2), some (.int a3), some (.int q1.1), some (.int q8)]) dX11_shown_48 (Nat.le_of_ble_eq_true rfl) rfl rfl rfl ?_
        refine am_iload_n (pc' := 51) 3 dX11_shown_50 rfl rfl rfl ?_
        refine am_if_ne (pc' := 54) 57 dX11_shown_51 rfl rfl (fun hc10 => ?_) (fun hc10 => ?_)
        · rw [if_neg hc10] at hres
          refine am_iload_n (pc' := 58) 3 dX11_shown_57 rfl rfl rfl ?_
          refine am_iconst (pc' := 59) (v := 1) dX11_shown_58 kc_1 rfl ?_
          refine am_icmp_ne (pc' := 62) 68 dX11_shown_59 rfl rfl (fun hc11 => ?_) (fun hc11 => ?_)
          · rw [if_neg hc11] at hres
            refine am_iload (pc' := 70) dX11_shown_68 rfl rfl ?_
            refine am_iconst (pc' := 71) (v := (-1)) dX11_shown_70 kc_m1 rfl ?_
            refine am_icmp_ne (pc' := 74) 78 dX11_shown_71 rfl rfl (fun hc12 => ?_) (fun hc12 => ?_)
            · rw [if_neg hc12] at hres
              refine am_aload_n (pc' := 79) 0 dX11_shown_78 rfl rfl rfl ?_
              refine am_iload_n (pc' := 80) 2 dX11_shown_79 rfl rfl rfl ?_
              refine am_iconst (pc' := 81) (v := 1) dX11_shown_80 kc_1 rfl ?_
              refine am_iload (pc' := 83) dX11_shown_81 rfl rfl ?_
              refine am_ishl (pc' := 84) dX11_shown_83 rfl ?_
              refine am_iconst (pc' := 85) (v := (-1)) dX11_shown_84 kc_m1 rfl ?_
              refine am_ixor (pc' := 86) dX11_shown_85 rfl ?_
              refine am_iand (pc' := 87) dX11_shown_86 rfl ?_
              obtain ⟨q13, hq14, hres⟩ := am_bd_s hres
              refine am_cV (pc' := 90) (st' := [.int q13]) [] [.int (a2 &&& (((1 : Int32) <<< (q8 &&& 31)) ^^^ (-1 : Int32)))] dX11_shown_87 cs_X11_208 (tx_X11_mostOffered r (a2 &&& (((1 : Int32) <<< (q8 &&& 31)) ^^^ (-1 : Int32))) q6 _ hq14) rfl rfl rfl (sx_c0 q6 r) rfl rfl rfl rfl rfl ?_
              obtain rfl := Option.some.inj hres
              exact am_iret dX11_shown_90 rfl rfl rfl
            · rw [if_pos hc12] at hres
              refine am_iconst (pc' := 75) (v := 0) dX11_shown_74 kc_0 rfl ?_
              refine am_goto 90 dX11_shown_75 rfl ?_
              obtain rfl := Option.some.inj hres
              exact am_iret dX11_shown_90 rfl rfl rfl
          · rw [if_pos hc11] at hres
            refine am_aload_n (pc' := 63) 0 dX11_shown_62 rfl rfl rfl ?_
            refine am_iload_n (pc' := 64) 2 dX11_shown_63 rfl rfl rfl ?_
            obtain ⟨q15, hq16, hres⟩ := am_bd_s hres
            refine am_cV (pc' := 67) (st' := [.int q15]) [] [.int a2] dX11_shown_64 cs_X11_208 (tx_X11_mostOffered r a2 q6 _ hq16) rfl rfl rfl (sx_c0 q6 r) rfl rfl rfl rfl rfl ?_
            obtain rfl := Option.some.inj hres
            exact am_iret dX11_shown_67 rfl rfl rfl
        · rw [if_pos hc10] at hres
          refine am_iload (pc' := 56) dX11_shown_54 rfl rfl ?_
          obtain rfl := Option.some.inj hres
          exact am_iret dX11_shown_56 rfl rfl rfl
      · rw [if_pos hc5] at hres
        refine am_bipush (pc' := 33) (v := (-7)) dX11_shown_31 kb_m7 rfl ?_
        obtain rfl := Option.some.inj hres
        exact am_iret dX11_shown_33 rfl rfl rfl
  · rw [if_neg hc3] at hres
    refine am_iload (pc' := 14) dX11_shown_12 rfl rfl ?_
    obtain rfl := Option.some.inj hres
    exact am_iret dX11_shown_14 rfl rfl rfl
set_option maxRecDepth 100000 in
set_option maxHeartbeats 4000000 in
theorem wx_X11_taken_48 (r : am_W) (S : sx_T) : ∀ (v2 : Int32) (v3 : Int32) (w0 : Int32) (res : Int32) (hres : fx_X11_taken_48 S v2 v3 w0 = res), am_G mX11_taken (none, 2, 0, 0, (some (.int res)), (sx_w S r)) (0, 0) 48 [some (.ref 0), none, some (.int v2), some (.int v3), none] [.int w0] (sx_w S r) := by
  intro v2 v3 w0 res hres
  rw [fx_X11_taken_48] at hres
  refine am_istore (pc' := 50) (ls' := [some (.ref 0), none, some (.int v2), some (.int v3), some (.int w0)]) dX11_taken_48 (Nat.le_of_ble_eq_true rfl) rfl rfl rfl ?_
  refine am_aload_n (pc' := 51) 0 dX11_taken_50 rfl rfl rfl ?_
  refine am_iload (pc' := 53) dX11_taken_51 rfl rfl ?_
  refine am_cV (pc' := 56) (st' := [.int (fx_X11_isViewer w0 S)]) [] [.int w0] dX11_taken_53 cs_X11_151 (tx_X11_isViewer r w0 S _ rfl) rfl rfl rfl (sx_c0 S r) rfl rfl rfl rfl rfl ?_
  refine am_if_ne (pc' := 59) 62 dX11_taken_56 rfl rfl (fun hc5 => ?_) (fun hc5 => ?_)
  · rw [if_neg hc5] at hres
    refine am_iload_n (pc' := 63) 2 dX11_taken_62 rfl rfl rfl ?_
    refine am_bipush (pc' := 65) (v := 6) dX11_taken_63 kb_6 rfl ?_
    refine am_icmp_ne (pc' := 68) 90 dX11_taken_65 rfl rfl (fun hc6 => ?_) (fun hc6 => ?_)
    · rw [if_neg hc6] at hres
      refine am_iload_n (pc' := 91) 3 dX11_taken_90 rfl rfl rfl ?_
      refine am_if_ne (pc' := 94) 119 dX11_taken_91 rfl rfl (fun hc7 => ?_) (fun hc7 => ?_)
      · rw [if_neg hc7] at hres
        refine am_bipush (pc' := 121) (v := (-13)) dX11_taken_119 kb_m13 rfl ?_
        subst hres
        exact am_iret dX11_taken_121 rfl rfl rfl
      · rw [if_pos hc7] at hres
        refine am_aload_n (pc' := 95) 0 dX11_taken_94 rfl rfl rfl ?_
        refine am_aload_n (pc' := 96) 0 dX11_taken_95 rfl rfl rfl ?_
        refine am_get (pc' := 99) (v := .ref 19) dX11_taken_96 fl_X11_45 (sx_c0 S r) rfl rfl ?_
        refine am_iload (pc' := 101) dX11_taken_99 rfl rfl ?_
        refine am_cS (pc' := 104) (st' := [.int (am_rd 8 (sx_kindOf S) w0), .ref 0]) [.ref 0] [.ref 19, .int w0] dX11_taken_101 cs_X11_139 (tx_at (f := (sx_kindOf S)) (sx_c19 S r) rfl w0) rfl rfl rfl rfl rfl rfl ?_
        refine am_cV (pc' := 107) (st' := [.ref (am_kr (fx_X11_kindAt (am_rd 8 (sx_kindOf S) w0)))]) [] [.int (am_rd 8 (sx_kindOf S) w0)] dX11_taken_104 cs_X11_252 (tx_X11_kindAt r S (am_rd 8 (sx_kindOf S) w0)) rfl rfl rfl (sx_c0 S r) rfl rfl rfl rfl rfl ?_
        refine am_iload_n (pc' := 108) 2 dX11_taken_107 rfl rfl rfl ?_
        refine am_cS (pc' := 111) (st' := [.int (fx_X11_isOfKind (fx_X11_kindAt (am_rd 8 (sx_kindOf S) w0)) v2 S)]) [] [.ref (am_kr (fx_X11_kindAt (am_rd 8 (sx_kindOf S) w0))), .int v2] dX11_taken_108 cs_X11_311 (tx_X11_isOfKind r (fx_X11_kindAt (am_rd 8 (sx_kindOf S) w0)) v2 S _ rfl) rfl rfl rfl rfl rfl rfl ?_
        refine am_if_eq (pc' := 114) 119 dX11_taken_111 rfl rfl (fun hc8 => ?_) (fun hc8 => ?_)
        · rw [if_pos hc8] at hres
          refine am_bipush (pc' := 121) (v := (-13)) dX11_taken_119 kb_m13 rfl ?_
          subst hres
          exact am_iret dX11_taken_121 rfl rfl rfl
        · rw [if_neg hc8] at hres
          refine am_iload (pc' := 116) dX11_taken_114 rfl rfl ?_
          refine am_goto 121 dX11_taken_116 rfl ?_
          subst hres
          exact am_iret dX11_taken_121 rfl rfl rfl
    · rw [if_pos hc6] at hres
      refine am_iload_n (pc' := 69) 3 dX11_taken_68 rfl rfl rfl ?_
      refine am_if_eq (pc' := 72) 87 dX11_taken_69 rfl rfl (fun hc9 => ?_) (fun hc9 => ?_)
      · rw [if_pos hc9] at hres
        refine am_bipush (pc' := 89) (v := (-13)) dX11_taken_87 kb_m13 rfl ?_
        subst hres
        exact am_iret dX11_taken_89 rfl rfl rfl
      · rw [if_neg hc9] at hres
        refine am_aload_n (pc' := 73) 0 dX11_taken_72 rfl rfl rfl ?_
        refine am_get (pc' := 76) (v := .ref 1) dX11_taken_73 fl_X11_10 (sx_c0 S r) rfl rfl ?_
        refine am_get (pc' := 79) (v := .ref 5) dX11_taken_76 fl_X11_173 (sx_c1 S r) rfl rfl ?_
        refine am_iload (pc' := 81) dX11_taken_79 rfl rfl ?_
        refine am_cS (pc' := 84) (st' := [.int (am_rd 8 (sx_now_quiet S) w0)]) [] [.ref 5, .int w0] dX11_taken_81 cs_X11_139 (tx_at (f := (sx_now_quiet S)) (sx_c5 S r) rfl w0) rfl rfl rfl rfl rfl rfl ?_
        refine am_goto 89 dX11_taken_84 rfl ?_
        subst hres
        exact am_iret dX11_taken_89 rfl rfl rfl
  · rw [if_pos hc5] at hres
    refine am_bipush (pc' := 61) (v := (-11)) dX11_taken_59 kb_m11 rfl ?_
    subst hres
    exact am_iret dX11_taken_61 rfl rfl rfl

set_option maxRecDepth 100000 in
set_option maxHeartbeats 4000000 in
theorem wx_X11_taken_35 (r : am_W) (S : sx_T) : ∀ (v1 : Int32) (v2 : Int32) (w0 : Int32) (res : Int32) (hres : fx_X11_taken_35 S v1 v2 w0 = res), am_G mX11_taken (none, 2, 0, 0, (some (.int res)), (sx_w S r)) (0, 0) 35 [some (.ref 0), some (.int v1), some (.int v2), none, none] [.int w0] (sx_w S r) := by
  intro v1 v2 w0 res hres
  rw [fx_X11_taken_35] at hres
  refine am_istore_n (pc' := 36) (ls' := [some (.ref 0), some (.int v1), some (.int v2), some (.int w0), none]) 3 dX11_taken_35 rfl (Nat.le_of_ble_eq_true rfl) rfl rfl rfl ?_
  refine am_iload_n (pc' := 37) 3 dX11_taken_36 rfl rfl rfl ?_
  refine am_if_eq (pc' := 40) 47 dX11_taken_37 rfl rfl (fun hc4 => ?_) (fun hc4 => ?_)
  · rw [if_pos hc4] at hres
    refine am_iload_n (pc' := 48) 1 dX11_taken_47 rfl rfl rfl ?_
    refine am_weak (ls' := [some (.ref 0), none, some (.int v2), some (.int w0), none]) [false, true, false, false, false] rfl ?_
    exact wx_X11_taken_48 r S _ _ _ _ hres
  · rw [if_neg hc4] at hres
    refine am_iload_n (pc' := 41) 1 dX11_taken_40 rfl rfl rfl ?_
    refine am_bipush (pc' := 43) (v := 8) dX11_taken_41 kb_8 rfl ?_
    refine am_isub (pc' := 44) dX11_taken_43 rfl ?_
    refine am_goto 48 dX11_taken_44 rfl ?_
    refine am_weak (ls' := [some (.ref 0), none, some (.int v2), some (.int w0), none]) [false, true, false, false, false] rfl ?_
    exact wx_X11_taken_48 r S _ _ _ _ hres

set_option maxRecDepth 100000 in
set_option maxHeartbeats 4000000 in
theorem tx_X11_taken (r : am_W) (a1 : Int32) (a2 : Int32) (S : sx_T) (res : Int32) (hres : fx_X11_taken a1 a2 S = res) : am_T mX11_taken 2 0 0 [.ref 0, .int a1, .int a2] (sx_w S r) (some (.int res)) (sx_w S r) := by
  refine am_meth (ls := [some (.ref 0), some (.int a1), some (.int a2), none, none]) (by decide +kernel) rfl (Nat.le_of_ble_eq_true rfl) (sx_len _ _ _) ?_
  rw [fx_X11_taken] at hres
  refine am_iload_n (pc' := 1) 2 dX11_taken_0 rfl rfl rfl ?_
  refine am_bipush (pc' := 3) (v := 7) dX11_taken_1 kb_7 rfl ?_
  refine am_cS (pc' := 6) (st' := [.int (fx_X11_within a2 (7 : Int32))]) [] [.int a2, .int (7 : Int32)] dX11_taken_3 cs_X11_129 (tx_X11_within (sx_w S r) a2 (7 : Int32) _ rfl) rfl rfl rfl rfl rfl rfl ?_
  refine am_if_ne (pc' := 9) 12 dX11_taken_6 rfl rfl (fun hc1 => ?_) (fun hc1 => ?_)
  · rw [if_neg hc1] at hres
    refine am_iload_n (pc' := 13) 1 dX11_taken_12 rfl rfl rfl ?_
    refine am_bipush (pc' := 15) (v := 16) dX11_taken_13 kb_16 rfl ?_
    refine am_cS (pc' := 18) (st' := [.int (fx_X11_within a1 (16 : Int32))]) [] [.int a1, .int (16 : Int32)] dX11_taken_15 cs_X11_129 (tx_X11_within (sx_w S r) a1 (16 : Int32) _ rfl) rfl rfl rfl rfl rfl rfl ?_
    refine am_if_ne (pc' := 21) 24 dX11_taken_18 rfl rfl (fun hc2 => ?_) (fun hc2 => ?_)
    · rw [if_neg hc2] at hres
      refine am_iload_n (pc' := 25) 1 dX11_taken_24 rfl rfl rfl ?_
      refine am_bipush (pc' := 27) (v := 8) dX11_taken_25 kb_8 rfl ?_
      refine am_icmp_lt (pc' := 30) 34 dX11_taken_27 rfl rfl (fun hc3 => ?_) (fun hc3 => ?_)
      · rw [if_pos hc3] at hres
        refine am_iconst (pc' := 35) (v := 0) dX11_taken_34 kc_0 rfl ?_
        exact wx_X11_taken_35 r S _ _ _ _ hres
      · rw [if_neg hc3] at hres
        refine am_iconst (pc' := 31) (v := 1) dX11_taken_30 kc_1 rfl ?_
        refine am_goto 35 dX11_taken_31 rfl ?_
        exact wx_X11_taken_35 r S _ _ _ _ hres
    · rw [if_pos hc2] at hres
      refine am_bipush (pc' := 23) (v := (-12)) dX11_taken_21 kb_m12 rfl ?_
      subst hres
      exact am_iret dX11_taken_23 rfl rfl rfl
  · rw [if_pos hc1] at hres
    refine am_bipush (pc' := 11) (v := (-2)) dX11_taken_9 kb_m2 rfl ?_
    subst hres
    exact am_iret dX11_taken_11 rfl rfl rfl
set_option maxRecDepth 100000 in
set_option maxHeartbeats 4000000 in
theorem wx_X11_takenOfOrder_5 (r : am_W) (S : sx_T) : ∀ (n : Nat) (v1 : Int32) (v2 : Int32) (v3 : Int32) (v4 : Int32) (res : Int32) (hres : fx_X11_takenOfOrder_5 S n v1 v2 v3 v4 = some res), am_G mX11_takenOfOrder (none, 1, 0, 0, (some (.int res)), (sx_w S r)) (0, 0) 5 [some (.ref 0), some (.int v1), some (.int v2), some (.int v3), some (.int v4), none] [] (sx_w S r) := by
  intro n
  induction n with
  | zero =>
    intro v1 v2 v3 v4 res hres
    cases hres
  | succ n ih =>
    intro v1 v2 v3 v4 res hres
    rw [fx_X11_takenOfOrder_5] at hres
    refine am_iload (pc' := 7) dX11_takenOfOrder_5 rfl rfl ?_
    refine am_iload_n (pc' := 8) 1 dX11_takenOfOrder_7 rfl rfl rfl ?_
    refine am_icmp_ge (pc' := 11) 64 dX11_takenOfOrder_8 rfl rfl (fun hc1 => ?_) (fun hc1 => ?_)
    · rw [if_pos hc1] at hres
      refine am_aload_n (pc' := 65) 0 dX11_takenOfOrder_64 rfl rfl rfl ?_
      refine am_get (pc' := 68) (v := .ref 41) dX11_takenOfOrder_65 fl_X11_82 (sx_c0 S r) rfl rfl ?_
      refine am_iload_n (pc' := 69) 1 dX11_takenOfOrder_68 rfl rfl rfl ?_
      refine am_iconst (pc' := 70) (v := 1) dX11_takenOfOrder_69 kc_1 rfl ?_
      refine am_isub (pc' := 71) dX11_takenOfOrder_70 rfl ?_
      refine am_cS (pc' := 74) (st' := [.int (am_rd 6 (sx_order S) (v1 - (1 : Int32)))]) [] [.ref 41, .int (v1 - (1 : Int32))] dX11_takenOfOrder_71 cs_X11_139 (tx_at (f := (sx_order S)) (sx_c41 S r) rfl (v1 - (1 : Int32))) rfl rfl rfl rfl rfl rfl ?_
      obtain rfl := Option.some.inj hres
      exact am_iret dX11_takenOfOrder_74 rfl rfl rfl
    · rw [if_neg hc1] at hres
      refine am_aload_n (pc' := 12) 0 dX11_takenOfOrder_11 rfl rfl rfl ?_
      refine am_get (pc' := 15) (v := .ref 44) dX11_takenOfOrder_12 fl_X11_91 (sx_c0 S r) rfl rfl ?_
      refine am_aload_n (pc' := 16) 0 dX11_takenOfOrder_15 rfl rfl rfl ?_
      refine am_get (pc' := 19) (v := .ref 41) dX11_takenOfOrder_16 fl_X11_82 (sx_c0 S r) rfl rfl ?_
      refine am_iload (pc' := 21) dX11_takenOfOrder_19 rfl rfl ?_
      refine am_cS (pc' := 24) (st' := [.int (am_rd 6 (sx_order S) v4), .ref 44]) [.ref 44] [.ref 41, .int v4] dX11_takenOfOrder_21 cs_X11_139 (tx_at (f := (sx_order S)) (sx_c41 S r) rfl v4) rfl rfl rfl rfl rfl rfl ?_
      refine am_cS (pc' := 27) (st' := [.int (am_rd 8 (sx_offered S) (am_rd 6 (sx_order S) v4))]) [] [.ref 44, .int (am_rd 6 (sx_order S) v4)] dX11_takenOfOrder_24 cs_X11_139 (tx_at (f := (sx_offered S)) (sx_c44 S r) rfl (am_rd 6 (sx_order S) v4)) rfl rfl rfl rfl rfl rfl ?_
      refine am_istore (pc' := 29) (ls' := [some (.ref 0), some (.int v1), some (.int v2), some (.int v3), some (.int v4), some (.int (am_rd 8 (sx_offered S) (am_rd 6 (sx_order S) v4)))]) dX11_takenOfOrder_27 (Nat.le_of_ble_eq_true rfl) rfl rfl rfl ?_
      refine am_iload (pc' := 31) dX11_takenOfOrder_29 rfl rfl ?_
      refine am_iload_n (pc' := 32) 2 dX11_takenOfOrder_31 rfl rfl rfl ?_
      refine am_icmp_lt (pc' := 35) 51 dX11_takenOfOrder_32 rfl rfl (fun hc2 => ?_) (fun hc2 => ?_)
      · rw [if_pos hc2] at hres
        refine am_iload_n (pc' := 52) 3 dX11_takenOfOrder_51 rfl rfl rfl ?_
        refine am_iload (pc' := 54) dX11_takenOfOrder_52 rfl rfl ?_
        refine am_mmax (pc' := 57) dX11_takenOfOrder_54 mx_X11_335 rfl (Nat.le_of_ble_eq_true rfl) rfl ?_
        refine am_istore_n (pc' := 58) (ls' := [some (.ref 0), some (.int v1), some (.int v2), some (.int (am_mx v3 (am_rd 8 (sx_offered S) (am_rd 6 (sx_order S) v4)))), some (.int v4), some (.int (am_rd 8 (sx_offered S) (am_rd 6 (sx_order S) v4)))]) 3 dX11_takenOfOrder_57 rfl (Nat.le_of_ble_eq_true rfl) rfl rfl rfl ?_
        refine am_iinc (pc' := 61) (ls' := [some (.ref 0), some (.int v1), some (.int v2), some (.int (am_mx v3 (am_rd 8 (sx_offered S) (am_rd 6 (sx_order S) v4)))), some (.int (v4 + (1 : Int32))), some (.int (am_rd 8 (sx_offered S) (am_rd 6 (sx_order S) v4)))]) dX11_takenOfOrder_58 rfl (show v4 + Int32.ofInt 1 = (v4 + (1 : Int32)) from congrArg (fun z => v4 + z) kc_1) (Nat.le_of_ble_eq_true rfl) rfl rfl rfl ?_
        refine am_goto 5 dX11_takenOfOrder_61 rfl ?_
        refine am_weak (ls' := [some (.ref 0), some (.int v1), some (.int v2), some (.int (am_mx v3 (am_rd 8 (sx_offered S) (am_rd 6 (sx_order S) v4)))), some (.int (v4 + (1 : Int32))), none]) [false, false, false, false, false, true] rfl ?_
        exact ih _ _ _ _ _ hres
      · rw [if_neg hc2] at hres
        refine am_iload (pc' := 37) dX11_takenOfOrder_35 rfl rfl ?_
        refine am_iload_n (pc' := 38) 3 dX11_takenOfOrder_37 rfl rfl rfl ?_
        refine am_icmp_le (pc' := 41) 51 dX11_takenOfOrder_38 rfl rfl (fun hc3 => ?_) (fun hc3 => ?_)
        · rw [if_pos hc3] at hres
          refine am_iload_n (pc' := 52) 3 dX11_takenOfOrder_51 rfl rfl rfl ?_
          refine am_iload (pc' := 54) dX11_takenOfOrder_52 rfl rfl ?_
          refine am_mmax (pc' := 57) dX11_takenOfOrder_54 mx_X11_335 rfl (Nat.le_of_ble_eq_true rfl) rfl ?_
          refine am_istore_n (pc' := 58) (ls' := [some (.ref 0), some (.int v1), some (.int v2), some (.int (am_mx v3 (am_rd 8 (sx_offered S) (am_rd 6 (sx_order S) v4)))), some (.int v4), some (.int (am_rd 8 (sx_offered S) (am_rd 6 (sx_order S) v4)))]) 3 dX11_takenOfOrder_57 rfl (Nat.le_of_ble_eq_true rfl) rfl rfl rfl ?_
          refine am_iinc (pc' := 61) (ls' := [some (.ref 0), some (.int v1), some (.int v2), some (.int (am_mx v3 (am_rd 8 (sx_offered S) (am_rd 6 (sx_order S) v4)))), some (.int (v4 + (1 : Int32))), some (.int (am_rd 8 (sx_offered S) (am_rd 6 (sx_order S) v4)))]) dX11_takenOfOrder_58 rfl (show v4 + Int32.ofInt 1 = (v4 + (1 : Int32)) from congrArg (fun z => v4 + z) kc_1) (Nat.le_of_ble_eq_true rfl) rfl rfl rfl ?_
          refine am_goto 5 dX11_takenOfOrder_61 rfl ?_
          refine am_weak (ls' := [some (.ref 0), some (.int v1), some (.int v2), some (.int (am_mx v3 (am_rd 8 (sx_offered S) (am_rd 6 (sx_order S) v4)))), some (.int (v4 + (1 : Int32))), none]) [false, false, false, false, false, true] rfl ?_
          exact ih _ _ _ _ _ hres
        · rw [if_neg hc3] at hres
          refine am_aload_n (pc' := 42) 0 dX11_takenOfOrder_41 rfl rfl rfl ?_
          refine am_get (pc' := 45) (v := .ref 41) dX11_takenOfOrder_42 fl_X11_82 (sx_c0 S r) rfl rfl ?_
          refine am_iload (pc' := 47) dX11_takenOfOrder_45 rfl rfl ?_
          refine am_cS (pc' := 50) (st' := [.int (am_rd 6 (sx_order S) v4)]) [] [.ref 41, .int v4] dX11_takenOfOrder_47 cs_X11_139 (tx_at (f := (sx_order S)) (sx_c41 S r) rfl v4) rfl rfl rfl rfl rfl rfl ?_
          obtain rfl := Option.some.inj hres
          exact am_iret dX11_takenOfOrder_50 rfl rfl rfl

set_option maxRecDepth 100000 in
set_option maxHeartbeats 4000000 in
theorem tx_X11_takenOfOrder (r : am_W) (a1 : Int32) (a2 : Int32) (S : sx_T) (res : Int32) (hres : fx_X11_takenOfOrder a1 a2 S = some res) : am_T mX11_takenOfOrder 1 0 0 [.ref 0, .int a1, .int a2] (sx_w S r) (some (.int res)) (sx_w S r) := by
  refine am_meth (ls := [some (.ref 0), some (.int a1), some (.int a2), none, none, none]) (by decide +kernel) rfl (Nat.le_of_ble_eq_true rfl) (sx_len _ _ _) ?_
  rw [fx_X11_takenOfOrder] at hres
  refine am_iconst (pc' := 1) (v := (-1)) dX11_takenOfOrder_0 kc_m1 rfl ?_
  refine am_istore_n (pc' := 2) (ls' := [some (.ref 0), some (.int a1), some (.int a2), some (.int (-1 : Int32)), none, none]) 3 dX11_takenOfOrder_1 rfl (Nat.le_of_ble_eq_true rfl) rfl rfl rfl ?_
  refine am_iconst (pc' := 3) (v := 0) dX11_takenOfOrder_2 kc_0 rfl ?_
  refine am_istore (pc' := 5) (ls' := [some (.ref 0), some (.int a1), some (.int a2), some (.int (-1 : Int32)), some (.int (0 : Int32)), none]) dX11_takenOfOrder_3 (Nat.le_of_ble_eq_true rfl) rfl rfl rfl ?_
  exact wx_X11_takenOfOrder_5 r S am_fu _ _ _ _ _ hres
set_option maxRecDepth 100000 in
set_option maxHeartbeats 4000000 in
theorem wx_X11_tenant_49 (r : am_W) : ∀ (n : Nat) (v2 : Int32) (v3 : Int32) (v5 : Int32) (v6 : Int32) (v7 : Int32) (v8 : Int32) (S : sx_T) (res : Int32 × sx_T) (hres : fx_X11_tenant_49 n v2 v3 v5 v6 v7 v8 S = some res), am_G mX11_tenant (none, 7, 0, 0, (some (.int res.1)), (sx_w res.2 r)) (0, 0) 49 [some (.ref 0), none, some (.int v2), some (.int v3), none, some (.int v5), some (.int v6), some (.int v7), some (.int v8), none, none] [] (sx_w S r) := by
  intro n
  induction n with
  | zero =>
    intro v2 v3 v5 v6 v7 v8 S res hres
    cases hres
  | succ n ih =>
    intro v2 v3 v5 v6 v7 v8 S res hres
    rw [fx_X11_tenant_49] at hres
    refine am_iload (pc' := 51) dX11_tenant_49 rfl rfl ?_
    refine am_aload_n (pc' := 52) 0 dX11_tenant_51 rfl rfl rfl ?_
    refine am_get (pc' := 55) (v := .ref 1) dX11_tenant_52 fl_X11_10 (sx_c0 S r) rfl rfl ?_
    refine am_get (pc' := 58) (v := .int (sx_now_viewers S)) dX11_tenant_55 fl_X11_120 (sx_c1 S r) rfl rfl ?_
    refine am_icmp_ge (pc' := 61) 151 dX11_tenant_58 rfl rfl (fun hc6 => ?_) (fun hc6 => ?_)
    · rw [if_pos hc6] at hres
      refine am_iload (pc' := 153) dX11_tenant_151 rfl rfl ?_
      obtain rfl := Option.some.inj hres
      exact am_iret dX11_tenant_153 rfl rfl rfl
    · rw [if_neg hc6] at hres
      refine am_aload_n (pc' := 62) 0 dX11_tenant_61 rfl rfl rfl ?_
      refine am_get (pc' := 65) (v := .ref 1) dX11_tenant_62 fl_X11_10 (sx_c0 S r) rfl rfl ?_
      refine am_get (pc' := 68) (v := .ref 5) dX11_tenant_65 fl_X11_173 (sx_c1 S r) rfl rfl ?_
      refine am_iload (pc' := 70) dX11_tenant_68 rfl rfl ?_
      refine am_cS (pc' := 73) (st' := [.int (am_rd 8 (sx_now_quiet S) v8)]) [] [.ref 5, .int v8] dX11_tenant_70 cs_X11_139 (tx_at (f := (sx_now_quiet S)) (sx_c5 S r) rfl v8) rfl rfl rfl rfl rfl rfl ?_
      refine am_istore (pc' := 75) (ls' := [some (.ref 0), none, some (.int v2), some (.int v3), none, some (.int v5), some (.int v6), some (.int v7), some (.int v8), some (.int (am_rd 8 (sx_now_quiet S) v8)), none]) dX11_tenant_73 (Nat.le_of_ble_eq_true rfl) rfl rfl rfl ?_
      refine am_aload_n (pc' := 76) 0 dX11_tenant_75 rfl rfl rfl ?_
      refine am_iload (pc' := 78) dX11_tenant_76 rfl rfl ?_
      refine am_iconst (pc' := 79) (v := 1) dX11_tenant_78 kc_1 rfl ?_
      obtain ⟨q7, hq8, hres⟩ := am_let_s hres
      refine am_cV (pc' := 82) (st' := []) [] [.int v8, .int (1 : Int32)] dX11_tenant_79 cs_X11_161 (tx_X11_letCome r v8 (1 : Int32) S _ hq8) rfl rfl rfl (sx_c0 S r) rfl rfl rfl rfl rfl ?_
      refine am_aload_n (pc' := 83) 0 dX11_tenant_82 rfl rfl rfl ?_
      refine am_get (pc' := 86) (v := .ref 34) dX11_tenant_83 fl_X11_78 (sx_c0 q7 r) rfl rfl ?_
      obtain ⟨q9, hq10, hres⟩ := am_bd_s hres
      refine am_cV (pc' := 89) (st' := [.int q9.1]) [] [] dX11_tenant_86 cs_X11_185 (tx_X10_offer r q7 _ hq10) rfl rfl rfl (sx_c34 q7 r) rfl rfl rfl rfl rfl ?_
      refine am_istore (pc' := 91) (ls' := [some (.ref 0), none, some (.int v2), some (.int v3), none, some (.int v5), some (.int v6), some (.int v7), some (.int v8), some (.int (am_rd 8 (sx_now_quiet S) v8)), some (.int q9.1)]) dX11_tenant_89 (Nat.le_of_ble_eq_true rfl) rfl rfl rfl ?_
      refine am_iload (pc' := 93) dX11_tenant_91 rfl rfl ?_
      refine am_iload_n (pc' := 94) 2 dX11_tenant_93 rfl rfl rfl ?_
      refine am_icmp_lt (pc' := 97) 145 dX11_tenant_94 rfl rfl (fun hc11 => ?_) (fun hc11 => ?_)
      · rw [if_pos hc11] at hres
        refine am_iinc (pc' := 148) (ls' := [some (.ref 0), none, some (.int v2), some (.int v3), none, some (.int v5), some (.int v6), some (.int v7), some (.int (v8 + (1 : Int32))), some (.int (am_rd 8 (sx_now_quiet S) v8)), some (.int q9.1)]) dX11_tenant_145 rfl (show v8 + Int32.ofInt 1 = (v8 + (1 : Int32)) from congrArg (fun z => v8 + z) kc_1) (Nat.le_of_ble_eq_true rfl) rfl rfl rfl ?_
        refine am_goto 49 dX11_tenant_148 rfl ?_
        refine am_weak (ls' := [some (.ref 0), none, some (.int v2), some (.int v3), none, some (.int v5), some (.int v6), some (.int v7), some (.int (v8 + (1 : Int32))), none, none]) [false, false, false, false, false, false, false, false, false, true, true] rfl ?_
        exact ih _ _ _ _ _ _ _ _ hres
      · rw [if_neg hc11] at hres
        refine am_iload (pc' := 99) dX11_tenant_97 rfl rfl ?_
        refine am_iload_n (pc' := 100) 3 dX11_tenant_99 rfl rfl rfl ?_
        refine am_icmp_ge (pc' := 103) 106 dX11_tenant_100 rfl rfl (fun hc12 => ?_) (fun hc12 => ?_)
        · rw [if_pos hc12] at hres
          refine am_iload (pc' := 108) dX11_tenant_106 rfl rfl ?_
          refine am_iconst (pc' := 109) (v := (-1)) dX11_tenant_108 kc_m1 rfl ?_
          refine am_icmp_eq (pc' := 112) 133 dX11_tenant_109 rfl rfl (fun hc13 => ?_) (fun hc13 => ?_)
          · rw [if_pos hc13] at hres
            refine am_iload (pc' := 135) dX11_tenant_133 rfl rfl ?_
            refine am_istore (pc' := 137) (ls' := [some (.ref 0), none, some (.int v2), some (.int v3), none, some (.int v8), some (.int v6), some (.int v7), some (.int v8), some (.int (am_rd 8 (sx_now_quiet S) v8)), some (.int q9.1)]) dX11_tenant_135 (Nat.le_of_ble_eq_true rfl) rfl rfl rfl ?_
            refine am_iload (pc' := 139) dX11_tenant_137 rfl rfl ?_
            refine am_istore (pc' := 141) (ls' := [some (.ref 0), none, some (.int v2), some (.int v3), none, some (.int v8), some (.int q9.1), some (.int v7), some (.int v8), some (.int (am_rd 8 (sx_now_quiet S) v8)), some (.int q9.1)]) dX11_tenant_139 (Nat.le_of_ble_eq_true rfl) rfl rfl rfl ?_
            refine am_iload (pc' := 143) dX11_tenant_141 rfl rfl ?_
            refine am_istore (pc' := 145) (ls' := [some (.ref 0), none, some (.int v2), some (.int v3), none, some (.int v8), some (.int q9.1), some (.int (am_rd 8 (sx_now_quiet S) v8)), some (.int v8), some (.int (am_rd 8 (sx_now_quiet S) v8)), some (.int q9.1)]) dX11_tenant_143 (Nat.le_of_ble_eq_true rfl) rfl rfl rfl ?_
            refine am_iinc (pc' := 148) (ls' := [some (.ref 0), none, some (.int v2), some (.int v3), none, some (.int v8), some (.int q9.1), some (.int (am_rd 8 (sx_now_quiet S) v8)), some (.int (v8 + (1 : Int32))), some (.int (am_rd 8 (sx_now_quiet S) v8)), some (.int q9.1)]) dX11_tenant_145 rfl (show v8 + Int32.ofInt 1 = (v8 + (1 : Int32)) from congrArg (fun z => v8 + z) kc_1) (Nat.le_of_ble_eq_true rfl) rfl rfl rfl ?_
            refine am_goto 49 dX11_tenant_148 rfl ?_
            refine am_weak (ls' := [some (.ref 0), none, some (.int v2), some (.int v3), none, some (.int v8), some (.int q9.1), some (.int (am_rd 8 (sx_now_quiet S) v8)), some (.int (v8 + (1 : Int32))), none, none]) [false, false, false, false, false, false, false, false, false, true, true] rfl ?_
            exact ih _ _ _ _ _ _ _ _ hres
          · rw [if_neg hc13] at hres
            refine am_iload (pc' := 114) dX11_tenant_112 rfl rfl ?_
            refine am_iload (pc' := 116) dX11_tenant_114 rfl rfl ?_
            refine am_icmp_gt (pc' := 119) 133 dX11_tenant_116 rfl rfl (fun hc14 => ?_) (fun hc14 => ?_)
            · rw [if_pos hc14] at hres
              refine am_iload (pc' := 135) dX11_tenant_133 rfl rfl ?_
              refine am_istore (pc' := 137) (ls' := [some (.ref 0), none, some (.int v2), some (.int v3), none, some (.int v8), some (.int v6), some (.int v7), some (.int v8), some (.int (am_rd 8 (sx_now_quiet S) v8)), some (.int q9.1)]) dX11_tenant_135 (Nat.le_of_ble_eq_true rfl) rfl rfl rfl ?_
              refine am_iload (pc' := 139) dX11_tenant_137 rfl rfl ?_
              refine am_istore (pc' := 141) (ls' := [some (.ref 0), none, some (.int v2), some (.int v3), none, some (.int v8), some (.int q9.1), some (.int v7), some (.int v8), some (.int (am_rd 8 (sx_now_quiet S) v8)), some (.int q9.1)]) dX11_tenant_139 (Nat.le_of_ble_eq_true rfl) rfl rfl rfl ?_
              refine am_iload (pc' := 143) dX11_tenant_141 rfl rfl ?_
              refine am_istore (pc' := 145) (ls' := [some (.ref 0), none, some (.int v2), some (.int v3), none, some (.int v8), some (.int q9.1), some (.int (am_rd 8 (sx_now_quiet S) v8)), some (.int v8), some (.int (am_rd 8 (sx_now_quiet S) v8)), some (.int q9.1)]) dX11_tenant_143 (Nat.le_of_ble_eq_true rfl) rfl rfl rfl ?_
              refine am_iinc (pc' := 148) (ls' := [some (.ref 0), none, some (.int v2), some (.int v3), none, some (.int v8), some (.int q9.1), some (.int (am_rd 8 (sx_now_quiet S) v8)), some (.int (v8 + (1 : Int32))), some (.int (am_rd 8 (sx_now_quiet S) v8)), some (.int q9.1)]) dX11_tenant_145 rfl (show v8 + Int32.ofInt 1 = (v8 + (1 : Int32)) from congrArg (fun z => v8 + z) kc_1) (Nat.le_of_ble_eq_true rfl) rfl rfl rfl ?_
              refine am_goto 49 dX11_tenant_148 rfl ?_
              refine am_weak (ls' := [some (.ref 0), none, some (.int v2), some (.int v3), none, some (.int v8), some (.int q9.1), some (.int (am_rd 8 (sx_now_quiet S) v8)), some (.int (v8 + (1 : Int32))), none, none]) [false, false, false, false, false, false, false, false, false, true, true] rfl ?_
              exact ih _ _ _ _ _ _ _ _ hres
            · rw [if_neg hc14] at hres
              refine am_iload (pc' := 121) dX11_tenant_119 rfl rfl ?_
              refine am_iload (pc' := 123) dX11_tenant_121 rfl rfl ?_
              refine am_icmp_ne (pc' := 126) 145 dX11_tenant_123 rfl rfl (fun hc15 => ?_) (fun hc15 => ?_)
              · rw [if_neg hc15] at hres
                refine am_iinc (pc' := 148) (ls' := [some (.ref 0), none, some (.int v2), some (.int v3), none, some (.int v5), some (.int v6), some (.int v7), some (.int (v8 + (1 : Int32))), some (.int (am_rd 8 (sx_now_quiet S) v8)), some (.int q9.1)]) dX11_tenant_145 rfl (show v8 + Int32.ofInt 1 = (v8 + (1 : Int32)) from congrArg (fun z => v8 + z) kc_1) (Nat.le_of_ble_eq_true rfl) rfl rfl rfl ?_
                refine am_goto 49 dX11_tenant_148 rfl ?_
                refine am_weak (ls' := [some (.ref 0), none, some (.int v2), some (.int v3), none, some (.int v5), some (.int v6), some (.int v7), some (.int (v8 + (1 : Int32))), none, none]) [false, false, false, false, false, false, false, false, false, true, true] rfl ?_
                exact ih _ _ _ _ _ _ _ _ hres
              · rw [if_pos hc15] at hres
                refine am_iload (pc' := 128) dX11_tenant_126 rfl rfl ?_
                refine am_iload (pc' := 130) dX11_tenant_128 rfl rfl ?_
                refine am_icmp_le (pc' := 133) 145 dX11_tenant_130 rfl rfl (fun hc16 => ?_) (fun hc16 => ?_)
                · rw [if_pos hc16] at hres
                  refine am_iinc (pc' := 148) (ls' := [some (.ref 0), none, some (.int v2), some (.int v3), none, some (.int v5), some (.int v6), some (.int v7), some (.int (v8 + (1 : Int32))), some (.int (am_rd 8 (sx_now_quiet S) v8)), some (.int q9.1)]) dX11_tenant_145 rfl (show v8 + Int32.ofInt 1 = (v8 + (1 : Int32)) from congrArg (fun z => v8 + z) kc_1) (Nat.le_of_ble_eq_true rfl) rfl rfl rfl ?_
                  refine am_goto 49 dX11_tenant_148 rfl ?_
                  refine am_weak (ls' := [some (.ref 0), none, some (.int v2), some (.int v3), none, some (.int v5), some (.int v6), some (.int v7), some (.int (v8 + (1 : Int32))), none, none]) [false, false, false, false, false, false, false, false, false, true, true] rfl ?_
                  exact ih _ _ _ _ _ _ _ _ hres
                · rw [if_neg hc16] at hres
                  refine am_iload (pc' := 135) dX11_tenant_133 rfl rfl ?_
                  refine am_istore (pc' := 137) (ls' := [some (.ref 0), none, some (.int v2), some (.int v3), none, some (.int v8), some (.int v6), some (.int v7), some (.int v8), some (.int (am_rd 8 (sx_now_quiet S) v8)), some (.int q9.1)]) dX11_tenant_135 (Nat.le_of_ble_eq_true rfl) rfl rfl rfl ?_
                  refine am_iload (pc' := 139) dX11_tenant_137 rfl rfl ?_
                  refine am_istore (pc' := 141) (ls' := [some (.ref 0), none, some (.int v2), some (.int v3), none, some (.int v8), some (.int q9.1), some (.int v7), some (.int v8), some (.int (am_rd 8 (sx_now_quiet S) v8)), some (.int q9.1)]) dX11_tenant_139 (Nat.le_of_ble_eq_true rfl) rfl rfl rfl ?_
                  refine am_iload (pc' := 143) dX11_tenant_141 rfl rfl ?_
                  refine am_istore (pc' := 145) (ls' := [some (.ref 0), none, some (.int v2), some (.int v3), none, some (.int v8), some (.int q9.1), some (.int (am_rd 8 (sx_now_quiet S) v8)), some (.int v8), some (.int (am_rd 8 (sx_now_quiet S) v8)), some (.int q9.1)]) dX11_tenant_143 (Nat.le_of_ble_eq_true rfl) rfl rfl rfl ?_
                  refine am_iinc (pc' := 148) (ls' := [some (.ref 0), none, some (.int v2), some (.int v3), none, some (.int v8), some (.int q9.1), some (.int (am_rd 8 (sx_now_quiet S) v8)), some (.int (v8 + (1 : Int32))), some (.int (am_rd 8 (sx_now_quiet S) v8)), some (.int q9.1)]) dX11_tenant_145 rfl (show v8 + Int32.ofInt 1 = (v8 + (1 : Int32)) from congrArg (fun z => v8 + z) kc_1) (Nat.le_of_ble_eq_true rfl) rfl rfl rfl ?_
                  refine am_goto 49 dX11_tenant_148 rfl ?_
                  refine am_weak (ls' := [some (.ref 0), none, some (.int v2), some (.int v3), none, some (.int v8), some (.int q9.1), some (.int (am_rd 8 (sx_now_quiet S) v8)), some (.int (v8 + (1 : Int32))), none, none]) [false, false, false, false, false, false, false, false, false, true, true] rfl ?_
                  exact ih _ _ _ _ _ _ _ _ hres
        · rw [if_neg hc12] at hres
          refine am_goto 145 dX11_tenant_103 rfl ?_
          refine am_iinc (pc' := 148) (ls' := [some (.ref 0), none, some (.int v2), some (.int v3), none, some (.int v5), some (.int v6), some (.int v7), some (.int (v8 + (1 : Int32))), some (.int (am_rd 8 (sx_now_quiet S) v8)), some (.int q9.1)]) dX11_tenant_145 rfl (show v8 + Int32.ofInt 1 = (v8 + (1 : Int32)) from congrArg (fun z => v8 + z) kc_1) (Nat.le_of_ble_eq_true rfl) rfl rfl rfl ?_
          refine am_goto 49 dX11_tenant_148 rfl ?_
          refine am_weak (ls' := [some (.ref 0), none, some (.int v2), some (.int v3), none, some (.int v5), some (.int v6), some (.int v7), some (.int (v8 + (1 : Int32))), none, none]) [false, false, false, false, false, false, false, false, false, true, true] rfl ?_
          exact ih _ _ _ _ _ _ _ _ hres

set_option maxRecDepth 100000 in
set_option maxHeartbeats 4000000 in
theorem tx_X11_tenant (r : am_W) (a1 : Int32) (a2 : Int32) (a3 : Int32) (S : sx_T) (res : Int32 × sx_T) (hres : fx_X11_tenant a1 a2 a3 S = some res) : am_T mX11_tenant 7 0 0 [.ref 0, .int a1, .int a2, .int a3] (sx_w S r) (some (.int res.1)) (sx_w res.2 r) := by
  refine am_meth (ls := [some (.ref 0), some (.int a1), some (.int a2), some (.int a3), none, none, none, none, none, none, none]) (by decide +kernel) rfl (Nat.le_of_ble_eq_true rfl) (sx_len _ _ _) ?_
  rw [fx_X11_tenant] at hres
  refine am_aload_n (pc' := 1) 0 dX11_tenant_0 rfl rfl rfl ?_
  refine am_iload_n (pc' := 2) 1 dX11_tenant_1 rfl rfl rfl ?_
  obtain ⟨q1, hq2, hres⟩ := am_bd_s hres
  refine am_cV (pc' := 5) (st' := [.int q1.1]) [] [.int a1] dX11_tenant_2 cs_X11_176 (tx_X11_startTour r a1 S _ hq2) rfl rfl rfl (sx_c0 S r) rfl rfl rfl rfl rfl ?_
  refine am_istore (pc' := 7) (ls' := [some (.ref 0), some (.int a1), some (.int a2), some (.int a3), some (.int q1.1), none, none, none, none, none, none]) dX11_tenant_5 (Nat.le_of_ble_eq_true rfl) rfl rfl rfl ?_
  refine am_iload (pc' := 9) dX11_tenant_7 rfl rfl ?_
  refine am_if_eq (pc' := 12) 15 dX11_tenant_9 rfl rfl (fun hc3 => ?_) (fun hc3 => ?_)
  · rw [if_pos hc3] at hres
    refine am_iload_n (pc' := 16) 2 dX11_tenant_15 rfl rfl rfl ?_
    refine am_bipush (pc' := 18) (v := 100) dX11_tenant_16 kb_100 rfl ?_
    refine am_cS (pc' := 21) (st' := [.int (fx_X11_within a2 (100 : Int32))]) [] [.int a2, .int (100 : Int32)] dX11_tenant_18 cs_X11_129 (tx_X11_within (sx_w q1.2 r) a2 (100 : Int32) _ rfl) rfl rfl rfl rfl rfl rfl ?_
    refine am_if_eq (pc' := 24) 34 dX11_tenant_21 rfl rfl (fun hc4 => ?_) (fun hc4 => ?_)
    · rw [if_pos hc4] at hres
      refine am_bipush (pc' := 36) (v := (-7)) dX11_tenant_34 kb_m7 rfl ?_
      obtain rfl := Option.some.inj hres
      exact am_iret dX11_tenant_36 rfl rfl rfl
    · rw [if_neg hc4] at hres
      refine am_iload_n (pc' := 25) 3 dX11_tenant_24 rfl rfl rfl ?_
      refine am_sipush (pc' := 28) (v := 10000) dX11_tenant_25 ks_10000 rfl ?_
      refine am_cS (pc' := 31) (st' := [.int (fx_X11_within a3 (10000 : Int32))]) [] [.int a3, .int (10000 : Int32)] dX11_tenant_28 cs_X11_129 (tx_X11_within (sx_w q1.2 r) a3 (10000 : Int32) _ rfl) rfl rfl rfl rfl rfl rfl ?_
      refine am_if_ne (pc' := 34) 37 dX11_tenant_31 rfl rfl (fun hc5 => ?_) (fun hc5 => ?_)
      · rw [if_neg hc5] at hres
        refine am_iconst (pc' := 38) (v := (-1)) dX11_tenant_37 kc_m1 rfl ?_
        refine am_istore (pc' := 40) (ls' := [some (.ref 0), some (.int a1), some (.int a2), some (.int a3), some (.int q1.1), some (.int (-1 : Int32)), none, none, none, none, none]) dX11_tenant_38 (Nat.le_of_ble_eq_true rfl) rfl rfl rfl ?_
        refine am_iconst (pc' := 41) (v := 0) dX11_tenant_40 kc_0 rfl ?_
        refine am_istore (pc' := 43) (ls' := [some (.ref 0), some (.int a1), some (.int a2), some (.int a3), some (.int q1.1), some (.int (-1 : Int32)), some (.int (0 : Int32)), none, none, none, none]) dX11_tenant_41 (Nat.le_of_ble_eq_true rfl) rfl rfl rfl ?_
        refine am_iconst (pc' := 44) (v := 0) dX11_tenant_43 kc_0 rfl ?_
        refine am_istore (pc' := 46) (ls' := [some (.ref 0), some (.int a1), some (.int a2), some (.int a3), some (.int q1.1), some (.int (-1 : Int32)), some (.int (0 : Int32)), some (.int (0 : Int32)), none, none, none]) dX11_tenant_44 (Nat.le_of_ble_eq_true rfl) rfl rfl rfl ?_
        refine am_iconst (pc' := 47) (v := 0) dX11_tenant_46 kc_0 rfl ?_
        refine am_istore (pc' := 49) (ls' := [some (.ref 0), some (.int a1), some (.int a2), some (.int a3), some (.int q1.1), some (.int (-1 : Int32)), some (.int (0 : Int32)), some (.int (0 : Int32)), some (.int (0 : Int32)), none, none]) dX11_tenant_47 (Nat.le_of_ble_eq_true rfl) rfl rfl rfl ?_
        refine am_weak (ls' := [some (.ref 0), none, some (.int a2), some (.int a3), none, some (.int (-1 : Int32)), some (.int (0 : Int32)), some (.int (0 : Int32)), some (.int (0 : Int32)), none, none]) [false, true, false, false, true, false, false, false, false, false, false] rfl ?_
        exact wx_X11_tenant_49 r am_fu _ _ _ _ _ _ _ _ hres
      · rw [if_pos hc5] at hres
        refine am_bipush (pc' := 36) (v := (-7)) dX11_tenant_34 kb_m7 rfl ?_
        obtain rfl := Option.some.inj hres
        exact am_iret dX11_tenant_36 rfl rfl rfl
  · rw [if_neg hc3] at hres
    refine am_iload (pc' := 14) dX11_tenant_12 rfl rfl ?_
    obtain rfl := Option.some.inj hres
    exact am_iret dX11_tenant_14 rfl rfl rfl
set_option maxRecDepth 100000 in
set_option maxHeartbeats 4000000 in
theorem tx_X4_isLetter (ws : am_W) (a1 : Int32) (res : Int32) (hres : fx_X4_isLetter a1 = res) : am_T mX4_isLetter 0 0 0 [.int a1] ws (some (.int res)) ws := by
  refine am_meth (ls := [some (.int a1)]) (by decide +kernel) rfl (Nat.le_of_ble_eq_true rfl) ⟨rfl, Or.inl rfl⟩ ?_
  rw [fx_X4_isLetter] at hres
  refine am_iload_n (pc' := 1) 0 dX4_isLetter_0 rfl rfl rfl ?_
  refine am_bipush (pc' := 3) (v := 97) dX4_isLetter_1 kb_97 rfl ?_
  refine am_icmp_lt (pc' := 6) 16 dX4_isLetter_3 rfl rfl (fun hc1 => ?_) (fun hc1 => ?_)
  · rw [if_pos hc1] at hres
    refine am_iconst (pc' := 17) (v := 0) dX4_isLetter_16 kc_0 rfl ?_
    subst hres
    exact am_zret dX4_isLetter_17 rfl rfl rfl rfl
  · rw [if_neg hc1] at hres
    refine am_iload_n (pc' := 7) 0 dX4_isLetter_6 rfl rfl rfl ?_
    refine am_bipush (pc' := 9) (v := 122) dX4_isLetter_7 kb_122 rfl ?_
    refine am_icmp_gt (pc' := 12) 16 dX4_isLetter_9 rfl rfl (fun hc2 => ?_) (fun hc2 => ?_)
    · rw [if_pos hc2] at hres
      refine am_iconst (pc' := 17) (v := 0) dX4_isLetter_16 kc_0 rfl ?_
      subst hres
      exact am_zret dX4_isLetter_17 rfl rfl rfl rfl
    · rw [if_neg hc2] at hres
      refine am_iconst (pc' := 13) (v := 1) dX4_isLetter_12 kc_1 rfl ?_
      refine am_goto 17 dX4_isLetter_13 rfl ?_
      subst hres
      exact am_zret dX4_isLetter_17 rfl rfl rfl rfl
theorem bz_X4_isLetter (a1 : Int32) : narrow .boolean (.int (fx_X4_isLetter a1)) = .int (fx_X4_isLetter a1) := by
  rw [fx_X4_isLetter]
  repeat' (first | refine nb_ite ?_ ?_ | rfl)
set_option maxRecDepth 100000 in
set_option maxHeartbeats 4000000 in
theorem wx_X4_spells_15 (r : am_W) (S : sx_T) : ∀ (n : Nat) (v1 : Nat) (v2 : Int32) (v4 : Int32) (res : Int32) (hres : fx_X4_spells_15 S n v1 v2 v4 = some res), am_G mX4_spells (none, 4, 0, 0, (some (.int res)), (sx_w S r)) (0, 0) 15 [some (.ref 26), some (.ref (1000 + v1)), some (.int v2), none, some (.int v4)] [] (sx_w S r) := by
  intro n
  induction n with
  | zero =>
    intro v1 v2 v4 res hres
    cases hres
  | succ n ih =>
    intro v1 v2 v4 res hres
    rw [fx_X4_spells_15] at hres
    refine am_iload (pc' := 17) dX4_spells_15 rfl rfl ?_
    refine am_aload_n (pc' := 18) 1 dX4_spells_17 rfl rfl rfl ?_
    obtain ⟨hg3, hres⟩ := am_rg hres
    refine am_cVs (pc' := 21) (st' := [.int (nI (am_len.getD v1 0)), .int v4]) [.int v4] [] dX4_spells_18 cs_X4_110 (tj_length (sx_w S r) v1 (Nat.lt_of_not_le hg3)) rfl rfl rfl (Nat.lt_of_not_le hg3) rfl rfl rfl rfl ?_
    refine am_icmp_ge (pc' := 24) 52 dX4_spells_21 rfl rfl (fun hc4 => ?_) (fun hc4 => ?_)
    · rw [if_pos hc4] at hres
      refine am_iconst (pc' := 53) (v := 1) dX4_spells_52 kc_1 rfl ?_
      obtain rfl := Option.some.inj hres
      exact am_zret dX4_spells_53 rfl rfl rfl rfl
    · rw [if_neg hc4] at hres
      refine am_aload_n (pc' := 25) 0 dX4_spells_24 rfl rfl rfl ?_
      refine am_get (pc' := 28) (v := .ref 27) dX4_spells_25 fl_X4_9 (sx_c26 S r) rfl rfl ?_
      refine am_iload_n (pc' := 29) 2 dX4_spells_28 rfl rfl rfl ?_
      refine am_iload (pc' := 31) dX4_spells_29 rfl rfl ?_
      refine am_iadd (pc' := 32) dX4_spells_31 rfl ?_
      refine am_cSN (pc' := 35) (st' := [.int (am_rd 160 (sx_rd_tape S) (v2 + v4))]) [] [.ref 27, .int (v2 + v4)] dX4_spells_32 cs_X4_54 (tx_at (f := (sx_rd_tape S)) (sx_c27 S r) rfl (v2 + v4)) rfl rfl rfl rfl rfl rfl ?_
      refine am_aload_n (pc' := 36) 1 dX4_spells_35 rfl rfl rfl ?_
      refine am_iload (pc' := 38) dX4_spells_36 rfl rfl ?_
      obtain ⟨hg5, hres⟩ := am_rg hres
      obtain ⟨hg6, hres⟩ := am_rg hres
      obtain ⟨hg7, hres⟩ := am_rg hres
      refine am_cVs (pc' := 41) (st' := [.int (am_ch v1 v4), .int (am_rd 160 (sx_rd_tape S) (v2 + v4))]) [.int (am_rd 160 (sx_rd_tape S) (v2 + v4))] [.int v4] dX4_spells_38 cs_X4_116 (tj_charAt (sx_w S r) v1 v4 (Nat.lt_of_not_le hg5) hg6 hg7) rfl rfl rfl (Nat.lt_of_not_le hg5) rfl rfl rfl rfl ?_
      refine am_icmp_eq (pc' := 44) 46 dX4_spells_41 rfl rfl (fun hc8 => ?_) (fun hc8 => ?_)
      · rw [if_pos hc8] at hres
        refine am_iinc (pc' := 49) (ls' := [some (.ref 26), some (.ref (1000 + v1)), some (.int v2), none, some (.int (v4 + (1 : Int32)))]) dX4_spells_46 rfl (show v4 + Int32.ofInt 1 = (v4 + (1 : Int32)) from congrArg (fun z => v4 + z) kc_1) (Nat.le_of_ble_eq_true rfl) rfl rfl rfl ?_
        refine am_goto 15 dX4_spells_49 rfl ?_
        exact ih _ _ _ _ hres
      · rw [if_neg hc8] at hres
        refine am_iconst (pc' := 45) (v := 0) dX4_spells_44 kc_0 rfl ?_
        obtain rfl := Option.some.inj hres
        exact am_zret dX4_spells_45 rfl rfl rfl rfl

set_option maxRecDepth 100000 in
set_option maxHeartbeats 4000000 in
theorem tx_X4_spells (r : am_W) (a1 : Nat) (a2 : Int32) (a3 : Int32) (S : sx_T) (res : Int32) (hres : fx_X4_spells a1 a2 a3 S = some res) : am_T mX4_spells 4 0 0 [.ref 26, .ref (1000 + a1), .int a2, .int a3] (sx_w S r) (some (.int res)) (sx_w S r) := by
  refine am_meth (ls := [some (.ref 26), some (.ref (1000 + a1)), some (.int a2), some (.int a3), none]) (by decide +kernel) rfl (Nat.le_of_ble_eq_true rfl) (sx_len _ _ _) ?_
  rw [fx_X4_spells] at hres
  refine am_iload_n (pc' := 1) 3 dX4_spells_0 rfl rfl rfl ?_
  refine am_iload_n (pc' := 2) 2 dX4_spells_1 rfl rfl rfl ?_
  refine am_isub (pc' := 3) dX4_spells_2 rfl ?_
  refine am_aload_n (pc' := 4) 1 dX4_spells_3 rfl rfl rfl ?_
  obtain ⟨hg1, hres⟩ := am_rg hres
  refine am_cVs (pc' := 7) (st' := [.int (nI (am_len.getD a1 0)), .int (a3 - a2)]) [.int (a3 - a2)] [] dX4_spells_4 cs_X4_110 (tj_length (sx_w S r) a1 (Nat.lt_of_not_le hg1)) rfl rfl rfl (Nat.lt_of_not_le hg1) rfl rfl rfl rfl ?_
  refine am_icmp_eq (pc' := 10) 12 dX4_spells_7 rfl rfl (fun hc2 => ?_) (fun hc2 => ?_)
  · rw [if_pos hc2] at hres
    refine am_iconst (pc' := 13) (v := 0) dX4_spells_12 kc_0 rfl ?_
    refine am_istore (pc' := 15) (ls' := [some (.ref 26), some (.ref (1000 + a1)), some (.int a2), some (.int a3), some (.int (0 : Int32))]) dX4_spells_13 (Nat.le_of_ble_eq_true rfl) rfl rfl rfl ?_
    refine am_weak (ls' := [some (.ref 26), some (.ref (1000 + a1)), some (.int a2), none, some (.int (0 : Int32))]) [false, false, false, true, false] rfl ?_
    exact wx_X4_spells_15 r S am_fu _ _ _ _ hres
  · rw [if_neg hc2] at hres
    refine am_iconst (pc' := 11) (v := 0) dX4_spells_10 kc_0 rfl ?_
    obtain rfl := Option.some.inj hres
    exact am_zret dX4_spells_11 rfl rfl rfl rfl
set_option maxRecDepth 100000 in
set_option maxHeartbeats 4000000 in
theorem tx_X4_word (r : am_W) (a1 : Int32) (a2 : Int32) (S : sx_T) (res : Int32) (hres : fx_X4_word a1 a2 S = some res) : am_T mX4_word 5 0 0 [.ref 26, .int a1, .int a2] (sx_w S r) (some (.int res)) (sx_w S r) := by
  refine am_meth (ls := [some (.ref 26), some (.int a1), some (.int a2)]) (by decide +kernel) rfl (Nat.le_of_ble_eq_true rfl) (sx_len _ _ _) ?_
  rw [fx_X4_word] at hres
  refine am_aload_n (pc' := 1) 0 dX4_word_0 rfl rfl rfl ?_
  refine am_ldcS (pc' := 3) (j := 1) dX4_word_1 (List.mem_of_getElem? (i := 1) rfl) rfl ?_
  refine am_iload_n (pc' := 4) 1 dX4_word_3 rfl rfl rfl ?_
  refine am_iload_n (pc' := 5) 2 dX4_word_4 rfl rfl rfl ?_
  obtain ⟨q1, hq2, hres⟩ := am_bd_s hres
  refine am_cV (pc' := 8) (st' := [.int q1]) [] [.ref (1000 + 1), .int a1, .int a2] dX4_word_5 cs_X4_84 (tx_X4_spells r 1 a1 a2 S _ hq2) rfl rfl rfl (sx_c26 S r) rfl rfl rfl rfl rfl ?_
  refine am_if_eq (pc' := 11) 14 dX4_word_8 rfl rfl (fun hc3 => ?_) (fun hc3 => ?_)
  · rw [if_pos hc3] at hres
    refine am_aload_n (pc' := 15) 0 dX4_word_14 rfl rfl rfl ?_
    refine am_ldcS (pc' := 17) (j := 2) dX4_word_15 (List.mem_of_getElem? (i := 2) rfl) rfl ?_
    refine am_iload_n (pc' := 18) 1 dX4_word_17 rfl rfl rfl ?_
    refine am_iload_n (pc' := 19) 2 dX4_word_18 rfl rfl rfl ?_
    obtain ⟨q4, hq5, hres⟩ := am_bd_s hres
    refine am_cV (pc' := 22) (st' := [.int q4]) [] [.ref (1000 + 2), .int a1, .int a2] dX4_word_19 cs_X4_84 (tx_X4_spells r 2 a1 a2 S _ hq5) rfl rfl rfl (sx_c26 S r) rfl rfl rfl rfl rfl ?_
    refine am_if_eq (pc' := 25) 28 dX4_word_22 rfl rfl (fun hc6 => ?_) (fun hc6 => ?_)
    · rw [if_pos hc6] at hres
      refine am_aload_n (pc' := 29) 0 dX4_word_28 rfl rfl rfl ?_
      refine am_ldcS (pc' := 31) (j := 3) dX4_word_29 (List.mem_of_getElem? (i := 3) rfl) rfl ?_
      refine am_iload_n (pc' := 32) 1 dX4_word_31 rfl rfl rfl ?_
      refine am_iload_n (pc' := 33) 2 dX4_word_32 rfl rfl rfl ?_
      obtain ⟨q7, hq8, hres⟩ := am_bd_s hres
      refine am_cV (pc' := 36) (st' := [.int q7]) [] [.ref (1000 + 3), .int a1, .int a2] dX4_word_33 cs_X4_84 (tx_X4_spells r 3 a1 a2 S _ hq8) rfl rfl rfl (sx_c26 S r) rfl rfl rfl rfl rfl ?_
      refine am_if_eq (pc' := 39) 42 dX4_word_36 rfl rfl (fun hc9 => ?_) (fun hc9 => ?_)
      · rw [if_pos hc9] at hres
        refine am_aload_n (pc' := 43) 0 dX4_word_42 rfl rfl rfl ?_
        refine am_ldcS (pc' := 45) (j := 4) dX4_word_43 (List.mem_of_getElem? (i := 4) rfl) rfl ?_
        refine am_iload_n (pc' := 46) 1 dX4_word_45 rfl rfl rfl ?_
        refine am_iload_n (pc' := 47) 2 dX4_word_46 rfl rfl rfl ?_
        obtain ⟨q10, hq11, hres⟩ := am_bd_s hres
        refine am_cV (pc' := 50) (st' := [.int q10]) [] [.ref (1000 + 4), .int a1, .int a2] dX4_word_47 cs_X4_84 (tx_X4_spells r 4 a1 a2 S _ hq11) rfl rfl rfl (sx_c26 S r) rfl rfl rfl rfl rfl ?_
        refine am_if_eq (pc' := 53) 56 dX4_word_50 rfl rfl (fun hc12 => ?_) (fun hc12 => ?_)
        · rw [if_pos hc12] at hres
          refine am_aload_n (pc' := 57) 0 dX4_word_56 rfl rfl rfl ?_
          refine am_ldcS (pc' := 59) (j := 5) dX4_word_57 (List.mem_of_getElem? (i := 5) rfl) rfl ?_
          refine am_iload_n (pc' := 60) 1 dX4_word_59 rfl rfl rfl ?_
          refine am_iload_n (pc' := 61) 2 dX4_word_60 rfl rfl rfl ?_
          obtain ⟨q13, hq14, hres⟩ := am_bd_s hres
          refine am_cV (pc' := 64) (st' := [.int q13]) [] [.ref (1000 + 5), .int a1, .int a2] dX4_word_61 cs_X4_84 (tx_X4_spells r 5 a1 a2 S _ hq14) rfl rfl rfl (sx_c26 S r) rfl rfl rfl rfl rfl ?_
          refine am_if_eq (pc' := 67) 70 dX4_word_64 rfl rfl (fun hc15 => ?_) (fun hc15 => ?_)
          · rw [if_pos hc15] at hres
            refine am_aload_n (pc' := 71) 0 dX4_word_70 rfl rfl rfl ?_
            refine am_ldcS (pc' := 73) (j := 6) dX4_word_71 (List.mem_of_getElem? (i := 6) rfl) rfl ?_
            refine am_iload_n (pc' := 74) 1 dX4_word_73 rfl rfl rfl ?_
            refine am_iload_n (pc' := 75) 2 dX4_word_74 rfl rfl rfl ?_
            obtain ⟨q16, hq17, hres⟩ := am_bd_s hres
            refine am_cV (pc' := 78) (st' := [.int q16]) [] [.ref (1000 + 6), .int a1, .int a2] dX4_word_75 cs_X4_84 (tx_X4_spells r 6 a1 a2 S _ hq17) rfl rfl rfl (sx_c26 S r) rfl rfl rfl rfl rfl ?_
            refine am_if_eq (pc' := 81) 84 dX4_word_78 rfl rfl (fun hc18 => ?_) (fun hc18 => ?_)
            · rw [if_pos hc18] at hres
              refine am_aload_n (pc' := 85) 0 dX4_word_84 rfl rfl rfl ?_
              refine am_ldcS (pc' := 87) (j := 7) dX4_word_85 (List.mem_of_getElem? (i := 7) rfl) rfl ?_
              refine am_iload_n (pc' := 88) 1 dX4_word_87 rfl rfl rfl ?_
              refine am_iload_n (pc' := 89) 2 dX4_word_88 rfl rfl rfl ?_
              obtain ⟨q19, hq20, hres⟩ := am_bd_s hres
              refine am_cV (pc' := 92) (st' := [.int q19]) [] [.ref (1000 + 7), .int a1, .int a2] dX4_word_89 cs_X4_84 (tx_X4_spells r 7 a1 a2 S _ hq20) rfl rfl rfl (sx_c26 S r) rfl rfl rfl rfl rfl ?_
              refine am_if_eq (pc' := 95) 98 dX4_word_92 rfl rfl (fun hc21 => ?_) (fun hc21 => ?_)
              · rw [if_pos hc21] at hres
                refine am_aload_n (pc' := 99) 0 dX4_word_98 rfl rfl rfl ?_
                refine am_ldcS (pc' := 101) (j := 8) dX4_word_99 (List.mem_of_getElem? (i := 8) rfl) rfl ?_
                refine am_iload_n (pc' := 102) 1 dX4_word_101 rfl rfl rfl ?_
                refine am_iload_n (pc' := 103) 2 dX4_word_102 rfl rfl rfl ?_
                obtain ⟨q22, hq23, hres⟩ := am_bd_s hres
                refine am_cV (pc' := 106) (st' := [.int q22]) [] [.ref (1000 + 8), .int a1, .int a2] dX4_word_103 cs_X4_84 (tx_X4_spells r 8 a1 a2 S _ hq23) rfl rfl rfl (sx_c26 S r) rfl rfl rfl rfl rfl ?_
                refine am_if_eq (pc' := 109) 112 dX4_word_106 rfl rfl (fun hc24 => ?_) (fun hc24 => ?_)
                · rw [if_pos hc24] at hres
                  refine am_aload_n (pc' := 113) 0 dX4_word_112 rfl rfl rfl ?_
                  refine am_ldcS (pc' := 115) (j := 9) dX4_word_113 (List.mem_of_getElem? (i := 9) rfl) rfl ?_
                  refine am_iload_n (pc' := 116) 1 dX4_word_115 rfl rfl rfl ?_
                  refine am_iload_n (pc' := 117) 2 dX4_word_116 rfl rfl rfl ?_
                  obtain ⟨q25, hq26, hres⟩ := am_bd_s hres
                  refine am_cV (pc' := 120) (st' := [.int q25]) [] [.ref (1000 + 9), .int a1, .int a2] dX4_word_117 cs_X4_84 (tx_X4_spells r 9 a1 a2 S _ hq26) rfl rfl rfl (sx_c26 S r) rfl rfl rfl rfl rfl ?_
                  refine am_if_eq (pc' := 123) 126 dX4_word_120 rfl rfl (fun hc27 => ?_) (fun hc27 => ?_)
                  · rw [if_pos hc27] at hres
                    refine am_aload_n (pc' := 127) 0 dX4_word_126 rfl rfl rfl ?_
                    refine am_ldcS (pc' := 129) (j := 10) dX4_word_127 (List.mem_of_getElem? (i := 10) rfl) rfl ?_
                    refine am_iload_n (pc' := 130) 1 dX4_word_129 rfl rfl rfl ?_
                    refine am_iload_n (pc' := 131) 2 dX4_word_130 rfl rfl rfl ?_
                    obtain ⟨q28, hq29, hres⟩ := am_bd_s hres
                    refine am_cV (pc' := 134) (st' := [.int q28]) [] [.ref (1000 + 10), .int a1, .int a2] dX4_word_131 cs_X4_84 (tx_X4_spells r 10 a1 a2 S _ hq29) rfl rfl rfl (sx_c26 S r) rfl rfl rfl rfl rfl ?_
                    refine am_if_eq (pc' := 137) 140 dX4_word_134 rfl rfl (fun hc30 => ?_) (fun hc30 => ?_)
                    · rw [if_pos hc30] at hres
                      refine am_aload_n (pc' := 141) 0 dX4_word_140 rfl rfl rfl ?_
                      refine am_ldcS (pc' := 143) (j := 11) dX4_word_141 (List.mem_of_getElem? (i := 11) rfl) rfl ?_
                      refine am_iload_n (pc' := 144) 1 dX4_word_143 rfl rfl rfl ?_
                      refine am_iload_n (pc' := 145) 2 dX4_word_144 rfl rfl rfl ?_
                      obtain ⟨q31, hq32, hres⟩ := am_bd_s hres
                      refine am_cV (pc' := 148) (st' := [.int q31]) [] [.ref (1000 + 11), .int a1, .int a2] dX4_word_145 cs_X4_84 (tx_X4_spells r 11 a1 a2 S _ hq32) rfl rfl rfl (sx_c26 S r) rfl rfl rfl rfl rfl ?_
                      refine am_if_eq (pc' := 151) 154 dX4_word_148 rfl rfl (fun hc33 => ?_) (fun hc33 => ?_)
                      · rw [if_pos hc33] at hres
                        refine am_aload_n (pc' := 155) 0 dX4_word_154 rfl rfl rfl ?_
                        refine am_ldcS (pc' := 157) (j := 12) dX4_word_155 (List.mem_of_getElem? (i := 12) rfl) rfl ?_
                        refine am_iload_n (pc' := 158) 1 dX4_word_157 rfl rfl rfl ?_
                        refine am_iload_n (pc' := 159) 2 dX4_word_158 rfl rfl rfl ?_
                        obtain ⟨q34, hq35, hres⟩ := am_bd_s hres
                        refine am_cV (pc' := 162) (st' := [.int q34]) [] [.ref (1000 + 12), .int a1, .int a2] dX4_word_159 cs_X4_84 (tx_X4_spells r 12 a1 a2 S _ hq35) rfl rfl rfl (sx_c26 S r) rfl rfl rfl rfl rfl ?_
                        refine am_if_eq (pc' := 165) 170 dX4_word_162 rfl rfl (fun hc36 => ?_) (fun hc36 => ?_)
                        · rw [if_pos hc36] at hres
                          refine am_bipush (pc' := 172) (v := (-2)) dX4_word_170 kb_m2 rfl ?_
                          obtain rfl := Option.some.inj hres
                          exact am_iret dX4_word_172 rfl rfl rfl
                        · rw [if_neg hc36] at hres
                          refine am_bipush (pc' := 167) (v := (-15)) dX4_word_165 kb_m15 rfl ?_
                          refine am_goto 172 dX4_word_167 rfl ?_
                          obtain rfl := Option.some.inj hres
                          exact am_iret dX4_word_172 rfl rfl rfl
                      · rw [if_neg hc33] at hres
                        refine am_bipush (pc' := 153) (v := (-14)) dX4_word_151 kb_m14 rfl ?_
                        obtain rfl := Option.some.inj hres
                        exact am_iret dX4_word_153 rfl rfl rfl
                    · rw [if_neg hc30] at hres
                      refine am_bipush (pc' := 139) (v := (-13)) dX4_word_137 kb_m13 rfl ?_
                      obtain rfl := Option.some.inj hres
                      exact am_iret dX4_word_139 rfl rfl rfl
                  · rw [if_neg hc27] at hres
                    refine am_bipush (pc' := 125) (v := (-12)) dX4_word_123 kb_m12 rfl ?_
                    obtain rfl := Option.some.inj hres
                    exact am_iret dX4_word_125 rfl rfl rfl
                · rw [if_neg hc24] at hres
                  refine am_bipush (pc' := 111) (v := (-11)) dX4_word_109 kb_m11 rfl ?_
                  obtain rfl := Option.some.inj hres
                  exact am_iret dX4_word_111 rfl rfl rfl
              · rw [if_neg hc21] at hres
                refine am_bipush (pc' := 97) (v := (-10)) dX4_word_95 kb_m10 rfl ?_
                obtain rfl := Option.some.inj hres
                exact am_iret dX4_word_97 rfl rfl rfl
            · rw [if_neg hc18] at hres
              refine am_bipush (pc' := 83) (v := (-8)) dX4_word_81 kb_m8 rfl ?_
              obtain rfl := Option.some.inj hres
              exact am_iret dX4_word_83 rfl rfl rfl
          · rw [if_neg hc15] at hres
            refine am_bipush (pc' := 69) (v := (-7)) dX4_word_67 kb_m7 rfl ?_
            obtain rfl := Option.some.inj hres
            exact am_iret dX4_word_69 rfl rfl rfl
        · rw [if_neg hc12] at hres
          refine am_bipush (pc' := 55) (v := (-6)) dX4_word_53 kb_m6 rfl ?_
          obtain rfl := Option.some.inj hres
          exact am_iret dX4_word_55 rfl rfl rfl
      · rw [if_neg hc9] at hres
        refine am_bipush (pc' := 41) (v := (-5)) dX4_word_39 kb_m5 rfl ?_
        obtain rfl := Option.some.inj hres
        exact am_iret dX4_word_41 rfl rfl rfl
    · rw [if_neg hc6] at hres
      refine am_bipush (pc' := 27) (v := (-4)) dX4_word_25 kb_m4 rfl ?_
      obtain rfl := Option.some.inj hres
      exact am_iret dX4_word_27 rfl rfl rfl
  · rw [if_neg hc3] at hres
    refine am_bipush (pc' := 13) (v := (-3)) dX4_word_11 kb_m3 rfl ?_
    obtain rfl := Option.some.inj hres
    exact am_iret dX4_word_13 rfl rfl rfl
set_option maxRecDepth 100000 in
set_option maxHeartbeats 4000000 in
theorem tx_X4_note (r : am_W) (a1 : Int32) (a2 : Int32) (S : sx_T) (res : sx_T) (hres : fx_X4_note a1 a2 S = res) : am_T mX4_note 1 0 0 [.ref 26, .int a1, .int a2] (sx_w S r) none (sx_w res r) := by
  refine am_meth (ls := [some (.ref 26), some (.int a1), some (.int a2)]) (by decide +kernel) rfl (Nat.le_of_ble_eq_true rfl) (sx_len _ _ _) ?_
  rw [fx_X4_note] at hres
  refine am_aload_n (pc' := 1) 0 dX4_note_0 rfl rfl rfl ?_
  refine am_get (pc' := 4) (v := .ref 28) dX4_note_1 fl_X4_15 (sx_c26 S r) rfl rfl ?_
  refine am_aload_n (pc' := 5) 0 dX4_note_4 rfl rfl rfl ?_
  refine am_get (pc' := 8) (v := .int (sx_rd_known S)) dX4_note_5 fl_X4_58 (sx_c26 S r) rfl rfl ?_
  refine am_iload_n (pc' := 9) 1 dX4_note_8 rfl rfl rfl ?_
  refine am_cSN (pc' := 12) (st' := []) [] [.ref 28, .int (sx_rd_known S), .int a1] dX4_note_9 cs_X4_29 (tx_set (f := (sx_rd_tokens S)) (w1 := (sx_w (ux_rd_tokens S (am_up 161 (sx_rd_tokens S) (sx_rd_known S) a1)) r)) (sx_c28 S r) rfl (sx_rd_known S) a1 (sx_p_rd_tokens S r _)) rfl rfl rfl rfl rfl rfl ?_
  refine am_aload_n (pc' := 13) 0 dX4_note_12 rfl rfl rfl ?_
  refine am_get (pc' := 16) (v := .ref 29) dX4_note_13 fl_X4_18 (sx_c26 (ux_rd_tokens S (am_up 161 (sx_rd_tokens S) (sx_rd_known S) a1)) r) rfl rfl ?_
  refine am_aload_n (pc' := 17) 0 dX4_note_16 rfl rfl rfl ?_
  refine am_get (pc' := 20) (v := .int (sx_rd_known S)) dX4_note_17 fl_X4_58 (sx_c26 (ux_rd_tokens S (am_up 161 (sx_rd_tokens S) (sx_rd_known S) a1)) r) rfl rfl ?_
  refine am_iload_n (pc' := 21) 2 dX4_note_20 rfl rfl rfl ?_
  refine am_cSN (pc' := 24) (st' := []) [] [.ref 29, .int (sx_rd_known S), .int a2] dX4_note_21 cs_X4_29 (tx_set (f := (sx_rd_places S)) (w1 := (sx_w (ux_rd_places (ux_rd_tokens S (am_up 161 (sx_rd_tokens S) (sx_rd_known S) a1)) (am_up 161 (sx_rd_places S) (sx_rd_known S) a2)) r)) (sx_c29 (ux_rd_tokens S (am_up 161 (sx_rd_tokens S) (sx_rd_known S) a1)) r) rfl (sx_rd_known S) a2 (sx_p_rd_places (ux_rd_tokens S (am_up 161 (sx_rd_tokens S) (sx_rd_known S) a1)) r _)) rfl rfl rfl rfl rfl rfl ?_
  refine am_aload_n (pc' := 25) 0 dX4_note_24 rfl rfl rfl ?_
  refine am_dupa (pc' := 26) dX4_note_25 rfl ?_
  refine am_get (pc' := 29) (v := .int (sx_rd_known S)) dX4_note_26 fl_X4_58 (sx_c26 (ux_rd_places (ux_rd_tokens S (am_up 161 (sx_rd_tokens S) (sx_rd_known S) a1)) (am_up 161 (sx_rd_places S) (sx_rd_known S) a2)) r) rfl rfl ?_
  refine am_iconst (pc' := 30) (v := 1) dX4_note_29 kc_1 rfl ?_
  refine am_iadd (pc' := 31) dX4_note_30 rfl ?_
  refine am_put (pc' := 34) (ws' := (sx_w (ux_rd_known (ux_rd_places (ux_rd_tokens S (am_up 161 (sx_rd_tokens S) (sx_rd_known S) a1)) (am_up 161 (sx_rd_places S) (sx_rd_known S) a2)) ((sx_rd_known S) + (1 : Int32))) r)) (v := .int ((sx_rd_known S) + (1 : Int32))) dX4_note_31 fp_X4_58 (sx_c26 (ux_rd_places (ux_rd_tokens S (am_up 161 (sx_rd_tokens S) (sx_rd_known S) a1)) (am_up 161 (sx_rd_places S) (sx_rd_known S) a2)) r) (fun _ => ⟨rfl, rfl⟩) (Nat.le_of_ble_eq_true rfl) (sx_p_rd_known (ux_rd_places (ux_rd_tokens S (am_up 161 (sx_rd_tokens S) (sx_rd_known S) a1)) (am_up 161 (sx_rd_places S) (sx_rd_known S) a2)) r _) rfl ?_
  subst hres
  exact am_vret dX4_note_34 rfl rfl rfl
set_option maxRecDepth 100000 in
set_option maxHeartbeats 4000000 in
theorem tx_X4_isDigit (ws : am_W) (a1 : Int32) (res : Int32) (hres : fx_X4_isDigit a1 = res) : am_T mX4_isDigit 0 0 0 [.int a1] ws (some (.int res)) ws := by
  refine am_meth (ls := [some (.int a1)]) (by decide +kernel) rfl (Nat.le_of_ble_eq_true rfl) ⟨rfl, Or.inl rfl⟩ ?_
  rw [fx_X4_isDigit] at hres
  refine am_iload_n (pc' := 1) 0 dX4_isDigit_0 rfl rfl rfl ?_
  refine am_bipush (pc' := 3) (v := 48) dX4_isDigit_1 kb_48 rfl ?_
  refine am_icmp_lt (pc' := 6) 16 dX4_isDigit_3 rfl rfl (fun hc1 => ?_) (fun hc1 => ?_)
  · rw [if_pos hc1] at hres
    refine am_iconst (pc' := 17) (v := 0) dX4_isDigit_16 kc_0 rfl ?_
    subst hres
    exact am_zret dX4_isDigit_17 rfl rfl rfl rfl
  · rw [if_neg hc1] at hres
    refine am_iload_n (pc' := 7) 0 dX4_isDigit_6 rfl rfl rfl ?_
    refine am_bipush (pc' := 9) (v := 57) dX4_isDigit_7 kb_57 rfl ?_
    refine am_icmp_gt (pc' := 12) 16 dX4_isDigit_9 rfl rfl (fun hc2 => ?_) (fun hc2 => ?_)
    · rw [if_pos hc2] at hres
      refine am_iconst (pc' := 17) (v := 0) dX4_isDigit_16 kc_0 rfl ?_
      subst hres
      exact am_zret dX4_isDigit_17 rfl rfl rfl rfl
    · rw [if_neg hc2] at hres
      refine am_iconst (pc' := 13) (v := 1) dX4_isDigit_12 kc_1 rfl ?_
      refine am_goto 17 dX4_isDigit_13 rfl ?_
      subst hres
      exact am_zret dX4_isDigit_17 rfl rfl rfl rfl
theorem bz_X4_isDigit (a1 : Int32) : narrow .boolean (.int (fx_X4_isDigit a1)) = .int (fx_X4_isDigit a1) := by
  rw [fx_X4_isDigit]
  repeat' (first | refine nb_ite ?_ ?_ | rfl)
set_option maxRecDepth 100000 in
set_option maxHeartbeats 4000000 in
theorem wx_X4_number_15 (r : am_W) (S : sx_T) : ∀ (n : Nat) (v2 : Int32) (v3 : Int32) (v4 : Int32) (res : Int32) (hres : fx_X4_number_15 S n v2 v3 v4 = some res), am_G mX4_number (none, 1, 0, 0, (some (.int res)), (sx_w S r)) (0, 0) 15 [some (.ref 26), none, some (.int v2), some (.int v3), some (.int v4)] [] (sx_w S r) := by
  intro n
  induction n with
  | zero =>
    intro v2 v3 v4 res hres
    cases hres
  | succ n ih =>
    intro v2 v3 v4 res hres
    rw [fx_X4_number_15] at hres
    refine am_iload (pc' := 17) dX4_number_15 rfl rfl ?_
    refine am_iload_n (pc' := 18) 2 dX4_number_17 rfl rfl rfl ?_
    refine am_icmp_ge (pc' := 21) 45 dX4_number_18 rfl rfl (fun hc2 => ?_) (fun hc2 => ?_)
    · rw [if_pos hc2] at hres
      refine am_iload_n (pc' := 46) 3 dX4_number_45 rfl rfl rfl ?_
      obtain rfl := Option.some.inj hres
      exact am_iret dX4_number_46 rfl rfl rfl
    · rw [if_neg hc2] at hres
      refine am_bipush (pc' := 23) (v := 10) dX4_number_21 kb_10 rfl ?_
      refine am_iload_n (pc' := 24) 3 dX4_number_23 rfl rfl rfl ?_
      refine am_imul (pc' := 25) dX4_number_24 rfl ?_
      refine am_aload_n (pc' := 26) 0 dX4_number_25 rfl rfl rfl ?_
      refine am_get (pc' := 29) (v := .ref 27) dX4_number_26 fl_X4_9 (sx_c26 S r) rfl rfl ?_
      refine am_iload (pc' := 31) dX4_number_29 rfl rfl ?_
      refine am_cSN (pc' := 34) (st' := [.int (am_rd 160 (sx_rd_tape S) v4), .int ((10 : Int32) * v3)]) [.int ((10 : Int32) * v3)] [.ref 27, .int v4] dX4_number_31 cs_X4_54 (tx_at (f := (sx_rd_tape S)) (sx_c27 S r) rfl v4) rfl rfl rfl rfl rfl rfl ?_
      refine am_iadd (pc' := 35) dX4_number_34 rfl ?_
      refine am_bipush (pc' := 37) (v := 48) dX4_number_35 kb_48 rfl ?_
      refine am_isub (pc' := 38) dX4_number_37 rfl ?_
      refine am_istore_n (pc' := 39) (ls' := [some (.ref 26), none, some (.int v2), some (.int ((((10 : Int32) * v3) + (am_rd 160 (sx_rd_tape S) v4)) - (48 : Int32))), some (.int v4)]) 3 dX4_number_38 rfl (Nat.le_of_ble_eq_true rfl) rfl rfl rfl ?_
      refine am_iinc (pc' := 42) (ls' := [some (.ref 26), none, some (.int v2), some (.int ((((10 : Int32) * v3) + (am_rd 160 (sx_rd_tape S) v4)) - (48 : Int32))), some (.int (v4 + (1 : Int32)))]) dX4_number_39 rfl (show v4 + Int32.ofInt 1 = (v4 + (1 : Int32)) from congrArg (fun z => v4 + z) kc_1) (Nat.le_of_ble_eq_true rfl) rfl rfl rfl ?_
      refine am_goto 15 dX4_number_42 rfl ?_
      exact ih _ _ _ _ hres

set_option maxRecDepth 100000 in
set_option maxHeartbeats 4000000 in
theorem tx_X4_number (r : am_W) (a1 : Int32) (a2 : Int32) (S : sx_T) (res : Int32) (hres : fx_X4_number a1 a2 S = some res) : am_T mX4_number 1 0 0 [.ref 26, .int a1, .int a2] (sx_w S r) (some (.int res)) (sx_w S r) := by
  refine am_meth (ls := [some (.ref 26), some (.int a1), some (.int a2), none, none]) (by decide +kernel) rfl (Nat.le_of_ble_eq_true rfl) (sx_len _ _ _) ?_
  rw [fx_X4_number] at hres
  refine am_iload_n (pc' := 1) 2 dX4_number_0 rfl rfl rfl ?_
  refine am_iload_n (pc' := 2) 1 dX4_number_1 rfl rfl rfl ?_
  refine am_isub (pc' := 3) dX4_number_2 rfl ?_
  refine am_iconst (pc' := 4) (v := 4) dX4_number_3 kc_4 rfl ?_
  refine am_icmp_le (pc' := 7) 10 dX4_number_4 rfl rfl (fun hc1 => ?_) (fun hc1 => ?_)
  · rw [if_pos hc1] at hres
    refine am_iconst (pc' := 11) (v := 0) dX4_number_10 kc_0 rfl ?_
    refine am_istore_n (pc' := 12) (ls' := [some (.ref 26), some (.int a1), some (.int a2), some (.int (0 : Int32)), none]) 3 dX4_number_11 rfl (Nat.le_of_ble_eq_true rfl) rfl rfl rfl ?_
    refine am_iload_n (pc' := 13) 1 dX4_number_12 rfl rfl rfl ?_
    refine am_istore (pc' := 15) (ls' := [some (.ref 26), some (.int a1), some (.int a2), some (.int (0 : Int32)), some (.int a1)]) dX4_number_13 (Nat.le_of_ble_eq_true rfl) rfl rfl rfl ?_
    refine am_weak (ls' := [some (.ref 26), none, some (.int a2), some (.int (0 : Int32)), some (.int a1)]) [false, true, false, false, false] rfl ?_
    exact wx_X4_number_15 r S am_fu _ _ _ _ hres
  · rw [if_neg hc1] at hres
    refine am_bipush (pc' := 9) (v := (-2)) dX4_number_7 kb_m2 rfl ?_
    obtain rfl := Option.some.inj hres
    exact am_iret dX4_number_9 rfl rfl rfl
set_option maxRecDepth 100000 in
set_option maxHeartbeats 4000000 in
theorem tx_X4_isSign (ws : am_W) (a1 : Int32) (res : Int32) (hres : fx_X4_isSign a1 = res) : am_T mX4_isSign 0 0 0 [.int a1] ws (some (.int res)) ws := by
  refine am_meth (ls := [some (.int a1)]) (by decide +kernel) rfl (Nat.le_of_ble_eq_true rfl) ⟨rfl, Or.inl rfl⟩ ?_
  rw [fx_X4_isSign] at hres
  refine am_iload_n (pc' := 1) 0 dX4_isSign_0 rfl rfl rfl ?_
  rcases Classical.em (a1 = (40 : Int32)) with hs1 | hs1
  · rw [if_pos hs1] at hres
    refine am_tsAt (40 : Int32) 104 dX4_isSign_1 hs1 (by decide) (by decide) rfl rfl ?_
    refine am_iconst (pc' := 105) (v := 1) dX4_isSign_104 kc_1 rfl ?_
    subst hres
    exact am_zret dX4_isSign_105 rfl rfl rfl rfl
  · rw [if_neg hs1] at hres
    rcases Classical.em (a1 = (41 : Int32)) with hs2 | hs2
    · rw [if_pos hs2] at hres
      refine am_tsAt (41 : Int32) 104 dX4_isSign_1 hs2 (by decide) (by decide) rfl rfl ?_
      refine am_iconst (pc' := 105) (v := 1) dX4_isSign_104 kc_1 rfl ?_
      subst hres
      exact am_zret dX4_isSign_105 rfl rfl rfl rfl
    · rw [if_neg hs2] at hres
      rcases Classical.em (a1 = (42 : Int32)) with hs3 | hs3
      · rw [if_pos hs3] at hres
        refine am_tsAt (42 : Int32) 104 dX4_isSign_1 hs3 (by decide) (by decide) rfl rfl ?_
        refine am_iconst (pc' := 105) (v := 1) dX4_isSign_104 kc_1 rfl ?_
        subst hres
        exact am_zret dX4_isSign_105 rfl rfl rfl rfl
      · rw [if_neg hs3] at hres
        rcases Classical.em (a1 = (43 : Int32)) with hs4 | hs4
        · rw [if_pos hs4] at hres
          refine am_tsAt (43 : Int32) 104 dX4_isSign_1 hs4 (by decide) (by decide) rfl rfl ?_
          refine am_iconst (pc' := 105) (v := 1) dX4_isSign_104 kc_1 rfl ?_
          subst hres
          exact am_zret dX4_isSign_105 rfl rfl rfl rfl
        · rw [if_neg hs4] at hres
          rcases Classical.em (a1 = (44 : Int32)) with hs5 | hs5
          · rw [if_pos hs5] at hres
            refine am_tsAt (44 : Int32) 106 dX4_isSign_1 hs5 (by decide) (by decide) rfl rfl ?_
            refine am_iconst (pc' := 107) (v := 0) dX4_isSign_106 kc_0 rfl ?_
            subst hres
            exact am_zret dX4_isSign_107 rfl rfl rfl rfl
          · rw [if_neg hs5] at hres
            rcases Classical.em (a1 = (45 : Int32)) with hs6 | hs6
            · rw [if_pos hs6] at hres
              refine am_tsAt (45 : Int32) 104 dX4_isSign_1 hs6 (by decide) (by decide) rfl rfl ?_
              refine am_iconst (pc' := 105) (v := 1) dX4_isSign_104 kc_1 rfl ?_
              subst hres
              exact am_zret dX4_isSign_105 rfl rfl rfl rfl
            · rw [if_neg hs6] at hres
              rcases Classical.em (a1 = (46 : Int32)) with hs7 | hs7
              · rw [if_pos hs7] at hres
                refine am_tsAt (46 : Int32) 106 dX4_isSign_1 hs7 (by decide) (by decide) rfl rfl ?_
                refine am_iconst (pc' := 107) (v := 0) dX4_isSign_106 kc_0 rfl ?_
                subst hres
                exact am_zret dX4_isSign_107 rfl rfl rfl rfl
              · rw [if_neg hs7] at hres
                rcases Classical.em (a1 = (47 : Int32)) with hs8 | hs8
                · rw [if_pos hs8] at hres
                  refine am_tsAt (47 : Int32) 106 dX4_isSign_1 hs8 (by decide) (by decide) rfl rfl ?_
                  refine am_iconst (pc' := 107) (v := 0) dX4_isSign_106 kc_0 rfl ?_
                  subst hres
                  exact am_zret dX4_isSign_107 rfl rfl rfl rfl
                · rw [if_neg hs8] at hres
                  rcases Classical.em (a1 = (48 : Int32)) with hs9 | hs9
                  · rw [if_pos hs9] at hres
                    refine am_tsAt (48 : Int32) 106 dX4_isSign_1 hs9 (by decide) (by decide) rfl rfl ?_
                    refine am_iconst (pc' := 107) (v := 0) dX4_isSign_106 kc_0 rfl ?_
                    subst hres
                    exact am_zret dX4_isSign_107 rfl rfl rfl rfl
                  · rw [if_neg hs9] at hres
                    rcases Classical.em (a1 = (49 : Int32)) with hs10 | hs10
                    · rw [if_pos hs10] at hres
                      refine am_tsAt (49 : Int32) 106 dX4_isSign_1 hs10 (by decide) (by decide) rfl rfl ?_
                      refine am_iconst (pc' := 107) (v := 0) dX4_isSign_106 kc_0 rfl ?_
                      subst hres
                      exact am_zret dX4_isSign_107 rfl rfl rfl rfl
                    · rw [if_neg hs10] at hres
                      rcases Classical.em (a1 = (50 : Int32)) with hs11 | hs11
                      · rw [if_pos hs11] at hres
                        refine am_tsAt (50 : Int32) 106 dX4_isSign_1 hs11 (by decide) (by decide) rfl rfl ?_
                        refine am_iconst (pc' := 107) (v := 0) dX4_isSign_106 kc_0 rfl ?_
                        subst hres
                        exact am_zret dX4_isSign_107 rfl rfl rfl rfl
                      · rw [if_neg hs11] at hres
                        rcases Classical.em (a1 = (51 : Int32)) with hs12 | hs12
                        · rw [if_pos hs12] at hres
                          refine am_tsAt (51 : Int32) 106 dX4_isSign_1 hs12 (by decide) (by decide) rfl rfl ?_
                          refine am_iconst (pc' := 107) (v := 0) dX4_isSign_106 kc_0 rfl ?_
                          subst hres
                          exact am_zret dX4_isSign_107 rfl rfl rfl rfl
                        · rw [if_neg hs12] at hres
                          rcases Classical.em (a1 = (52 : Int32)) with hs13 | hs13
                          · rw [if_pos hs13] at hres
                            refine am_tsAt (52 : Int32) 106 dX4_isSign_1 hs13 (by decide) (by decide) rfl rfl ?_
                            refine am_iconst (pc' := 107) (v := 0) dX4_isSign_106 kc_0 rfl ?_
                            subst hres
                            exact am_zret dX4_isSign_107 rfl rfl rfl rfl
                          · rw [if_neg hs13] at hres
                            rcases Classical.em (a1 = (53 : Int32)) with hs14 | hs14
                            · rw [if_pos hs14] at hres
                              refine am_tsAt (53 : Int32) 106 dX4_isSign_1 hs14 (by decide) (by decide) rfl rfl ?_
                              refine am_iconst (pc' := 107) (v := 0) dX4_isSign_106 kc_0 rfl ?_
                              subst hres
                              exact am_zret dX4_isSign_107 rfl rfl rfl rfl
                            · rw [if_neg hs14] at hres
                              rcases Classical.em (a1 = (54 : Int32)) with hs15 | hs15
                              · rw [if_pos hs15] at hres
                                refine am_tsAt (54 : Int32) 106 dX4_isSign_1 hs15 (by decide) (by decide) rfl rfl ?_
                                refine am_iconst (pc' := 107) (v := 0) dX4_isSign_106 kc_0 rfl ?_
                                subst hres
                                exact am_zret dX4_isSign_107 rfl rfl rfl rfl
                              · rw [if_neg hs15] at hres
                                rcases Classical.em (a1 = (55 : Int32)) with hs16 | hs16
                                · rw [if_pos hs16] at hres
                                  refine am_tsAt (55 : Int32) 106 dX4_isSign_1 hs16 (by decide) (by decide) rfl rfl ?_
                                  refine am_iconst (pc' := 107) (v := 0) dX4_isSign_106 kc_0 rfl ?_
                                  subst hres
                                  exact am_zret dX4_isSign_107 rfl rfl rfl rfl
                                · rw [if_neg hs16] at hres
                                  rcases Classical.em (a1 = (56 : Int32)) with hs17 | hs17
                                  · rw [if_pos hs17] at hres
                                    refine am_tsAt (56 : Int32) 106 dX4_isSign_1 hs17 (by decide) (by decide) rfl rfl ?_
                                    refine am_iconst (pc' := 107) (v := 0) dX4_isSign_106 kc_0 rfl ?_
                                    subst hres
                                    exact am_zret dX4_isSign_107 rfl rfl rfl rfl
                                  · rw [if_neg hs17] at hres
                                    rcases Classical.em (a1 = (57 : Int32)) with hs18 | hs18
                                    · rw [if_pos hs18] at hres
                                      refine am_tsAt (57 : Int32) 106 dX4_isSign_1 hs18 (by decide) (by decide) rfl rfl ?_
                                      refine am_iconst (pc' := 107) (v := 0) dX4_isSign_106 kc_0 rfl ?_
                                      subst hres
                                      exact am_zret dX4_isSign_107 rfl rfl rfl rfl
                                    · rw [if_neg hs18] at hres
                                      rcases Classical.em (a1 = (58 : Int32)) with hs19 | hs19
                                      · rw [if_pos hs19] at hres
                                        refine am_tsAt (58 : Int32) 106 dX4_isSign_1 hs19 (by decide) (by decide) rfl rfl ?_
                                        refine am_iconst (pc' := 107) (v := 0) dX4_isSign_106 kc_0 rfl ?_
                                        subst hres
                                        exact am_zret dX4_isSign_107 rfl rfl rfl rfl
                                      · rw [if_neg hs19] at hres
                                        rcases Classical.em (a1 = (59 : Int32)) with hs20 | hs20
                                        · rw [if_pos hs20] at hres
                                          refine am_tsAt (59 : Int32) 104 dX4_isSign_1 hs20 (by decide) (by decide) rfl rfl ?_
                                          refine am_iconst (pc' := 105) (v := 1) dX4_isSign_104 kc_1 rfl ?_
                                          subst hres
                                          exact am_zret dX4_isSign_105 rfl rfl rfl rfl
                                        · rw [if_neg hs20] at hres
                                          rcases Classical.em (a1 = (60 : Int32)) with hs21 | hs21
                                          · rw [if_pos hs21] at hres
                                            refine am_tsAt (60 : Int32) 104 dX4_isSign_1 hs21 (by decide) (by decide) rfl rfl ?_
                                            refine am_iconst (pc' := 105) (v := 1) dX4_isSign_104 kc_1 rfl ?_
                                            subst hres
                                            exact am_zret dX4_isSign_105 rfl rfl rfl rfl
                                          · rw [if_neg hs21] at hres
                                            rcases Classical.em (a1 = (61 : Int32)) with hs22 | hs22
                                            · rw [if_pos hs22] at hres
                                              refine am_tsAt (61 : Int32) 104 dX4_isSign_1 hs22 (by decide) (by decide) rfl rfl ?_
                                              refine am_iconst (pc' := 105) (v := 1) dX4_isSign_104 kc_1 rfl ?_
                                              subst hres
                                              exact am_zret dX4_isSign_105 rfl rfl rfl rfl
                                            · rw [if_neg hs22] at hres
                                              refine am_tsOff 22 106 dX4_isSign_1 rfl (fun i hi => by match i, hi with | 0, _ => exact hs1 | 1, _ => exact hs2 | 2, _ => exact hs3 | 3, _ => exact hs4 | 4, _ => exact hs5 | 5, _ => exact hs6 | 6, _ => exact hs7 | 7, _ => exact hs8 | 8, _ => exact hs9 | 9, _ => exact hs10 | 10, _ => exact hs11 | 11, _ => exact hs12 | 12, _ => exact hs13 | 13, _ => exact hs14 | 14, _ => exact hs15 | 15, _ => exact hs16 | 16, _ => exact hs17 | 17, _ => exact hs18 | 18, _ => exact hs19 | 19, _ => exact hs20 | 20, _ => exact hs21 | 21, _ => exact hs22 | n + 22, h => exact absurd h (by omega)) rfl ?_
                                              refine am_iconst (pc' := 107) (v := 0) dX4_isSign_106 kc_0 rfl ?_
                                              subst hres
                                              exact am_zret dX4_isSign_107 rfl rfl rfl rfl
theorem bz_X4_isSign (a1 : Int32) : narrow .boolean (.int (fx_X4_isSign a1)) = .int (fx_X4_isSign a1) := by
  rw [fx_X4_isSign]
  repeat' (first | refine nb_ite ?_ ?_ | rfl)
