set_option maxRecDepth 100000 in
set_option maxHeartbeats 4000000 in
theorem wx_X4_findTokens_85 (r : am_W) (k7 : Int32 → sx_T → Option (sx_T)) (hk7 : ∀ (v1 : Int32) (S : sx_T) (res : sx_T), k7 v1 S = some res → am_G mX4_findTokens (none, 6, 0, 0, none, (sx_w res r)) (0, 0) 7 [some (.ref 26), some (.int v1), none, none] [] (sx_w S r)) : ∀ (n : Nat) (v1 : Int32) (v2 : Int32) (S : sx_T) (res : sx_T) (hres : fx_X4_findTokens_85 k7 n v1 v2 S = some res), am_G mX4_findTokens (none, 6, 0, 0, none, (sx_w res r)) (0, 0) 85 [some (.ref 26), some (.int v1), some (.int v2), none] [] (sx_w S r) := by
  intro n
  induction n with
  | zero =>
    intro v1 v2 S res hres
    cases hres
  | succ n ih =>
    intro v1 v2 S res hres
    rw [fx_X4_findTokens_85] at hres
    refine am_iload_n (pc' := 86) 1 dX4_findTokens_85 rfl rfl rfl ?_
    refine am_aload_n (pc' := 87) 0 dX4_findTokens_86 rfl rfl rfl ?_
    refine am_get (pc' := 90) (v := .int (sx_rd_size S)) dX4_findTokens_87 fl_X4_25 (sx_c26 S r) rfl rfl ?_
    refine am_icmp_ge (pc' := 93) 113 dX4_findTokens_90 rfl rfl (fun hc13 => ?_) (fun hc13 => ?_)
    · rw [if_pos hc13] at hres
      refine am_aload_n (pc' := 114) 0 dX4_findTokens_113 rfl rfl rfl ?_
      refine am_aload_n (pc' := 115) 0 dX4_findTokens_114 rfl rfl rfl ?_
      refine am_iload_n (pc' := 116) 2 dX4_findTokens_115 rfl rfl rfl ?_
      refine am_iload_n (pc' := 117) 1 dX4_findTokens_116 rfl rfl rfl ?_
      obtain ⟨q14, hq15, hres⟩ := am_bd_s hres
      refine am_cV (pc' := 120) (st' := [.int q14, .ref 26]) [.ref 26] [.int v2, .int v1] dX4_findTokens_117 cs_X4_76 (tx_X4_number r v2 v1 S _ hq15) rfl rfl rfl (sx_c26 S r) rfl rfl rfl rfl rfl ?_
      refine am_iload_n (pc' := 121) 2 dX4_findTokens_120 rfl rfl rfl ?_
      obtain ⟨q16, hq17, hres⟩ := am_let_s hres
      refine am_cV (pc' := 124) (st' := []) [] [.int q14, .int v2] dX4_findTokens_121 cs_X4_69 (tx_X4_note r q14 v2 S _ hq17) rfl rfl rfl (sx_c26 S r) rfl rfl rfl rfl rfl ?_
      refine am_goto 158 dX4_findTokens_124 rfl ?_
      refine am_goto 7 dX4_findTokens_158 rfl ?_
      refine am_weak (ls' := [some (.ref 26), some (.int v1), none, none]) [false, false, true, false] rfl ?_
      exact hk7 _ _ _ hres
    · rw [if_neg hc13] at hres
      refine am_aload_n (pc' := 94) 0 dX4_findTokens_93 rfl rfl rfl ?_
      refine am_get (pc' := 97) (v := .ref 27) dX4_findTokens_94 fl_X4_9 (sx_c26 S r) rfl rfl ?_
      refine am_iload_n (pc' := 98) 1 dX4_findTokens_97 rfl rfl rfl ?_
      refine am_cSN (pc' := 101) (st' := [.int (am_rd 160 (sx_rd_tape S) v1)]) [] [.ref 27, .int v1] dX4_findTokens_98 cs_X4_54 (tx_at (f := (sx_rd_tape S)) (sx_c27 S r) rfl v1) rfl rfl rfl rfl rfl rfl ?_
      refine am_cS (pc' := 104) (st' := [.int (fx_X4_isDigit (am_rd 160 (sx_rd_tape S) v1))]) [] [.int (am_rd 160 (sx_rd_tape S) v1)] dX4_findTokens_101 cs_X4_73 (tx_X4_isDigit (sx_w S r) (am_rd 160 (sx_rd_tape S) v1) _ rfl) rfl rfl rfl rfl rfl rfl ?_
      refine am_if_eq (pc' := 107) 113 dX4_findTokens_104 rfl rfl (fun hc18 => ?_) (fun hc18 => ?_)
      · rw [if_pos hc18] at hres
        refine am_aload_n (pc' := 114) 0 dX4_findTokens_113 rfl rfl rfl ?_
        refine am_aload_n (pc' := 115) 0 dX4_findTokens_114 rfl rfl rfl ?_
        refine am_iload_n (pc' := 116) 2 dX4_findTokens_115 rfl rfl rfl ?_
        refine am_iload_n (pc' := 117) 1 dX4_findTokens_116 rfl rfl rfl ?_
        obtain ⟨q19, hq20, hres⟩ := am_bd_s hres
        refine am_cV (pc' := 120) (st' := [.int q19, .ref 26]) [.ref 26] [.int v2, .int v1] dX4_findTokens_117 cs_X4_76 (tx_X4_number r v2 v1 S _ hq20) rfl rfl rfl (sx_c26 S r) rfl rfl rfl rfl rfl ?_
        refine am_iload_n (pc' := 121) 2 dX4_findTokens_120 rfl rfl rfl ?_
        obtain ⟨q21, hq22, hres⟩ := am_let_s hres
        refine am_cV (pc' := 124) (st' := []) [] [.int q19, .int v2] dX4_findTokens_121 cs_X4_69 (tx_X4_note r q19 v2 S _ hq22) rfl rfl rfl (sx_c26 S r) rfl rfl rfl rfl rfl ?_
        refine am_goto 158 dX4_findTokens_124 rfl ?_
        refine am_goto 7 dX4_findTokens_158 rfl ?_
        refine am_weak (ls' := [some (.ref 26), some (.int v1), none, none]) [false, false, true, false] rfl ?_
        exact hk7 _ _ _ hres
      · rw [if_neg hc18] at hres
        refine am_iinc (pc' := 110) (ls' := [some (.ref 26), some (.int (v1 + (1 : Int32))), some (.int v2), none]) dX4_findTokens_107 rfl (show v1 + Int32.ofInt 1 = (v1 + (1 : Int32)) from congrArg (fun z => v1 + z) kc_1) (Nat.le_of_ble_eq_true rfl) rfl rfl rfl ?_
        refine am_goto 85 dX4_findTokens_110 rfl ?_
        exact ih _ _ _ _ hres

set_option maxRecDepth 100000 in
set_option maxHeartbeats 4000000 in
theorem wx_X4_findTokens_36 (r : am_W) (k7 : Int32 → sx_T → Option (sx_T)) (hk7 : ∀ (v1 : Int32) (S : sx_T) (res : sx_T), k7 v1 S = some res → am_G mX4_findTokens (none, 6, 0, 0, none, (sx_w res r)) (0, 0) 7 [some (.ref 26), some (.int v1), none, none] [] (sx_w S r)) : ∀ (n : Nat) (v1 : Int32) (v2 : Int32) (S : sx_T) (res : sx_T) (hres : fx_X4_findTokens_36 k7 n v1 v2 S = some res), am_G mX4_findTokens (none, 6, 0, 0, none, (sx_w res r)) (0, 0) 36 [some (.ref 26), some (.int v1), some (.int v2), none] [] (sx_w S r) := by
  intro n
  induction n with
  | zero =>
    intro v1 v2 S res hres
    cases hres
  | succ n ih =>
    intro v1 v2 S res hres
    rw [fx_X4_findTokens_36] at hres
    refine am_iload_n (pc' := 37) 1 dX4_findTokens_36 rfl rfl rfl ?_
    refine am_aload_n (pc' := 38) 0 dX4_findTokens_37 rfl rfl rfl ?_
    refine am_get (pc' := 41) (v := .int (sx_rd_size S)) dX4_findTokens_38 fl_X4_25 (sx_c26 S r) rfl rfl ?_
    refine am_icmp_ge (pc' := 44) 64 dX4_findTokens_41 rfl rfl (fun hc23 => ?_) (fun hc23 => ?_)
    · rw [if_pos hc23] at hres
      refine am_aload_n (pc' := 65) 0 dX4_findTokens_64 rfl rfl rfl ?_
      refine am_aload_n (pc' := 66) 0 dX4_findTokens_65 rfl rfl rfl ?_
      refine am_iload_n (pc' := 67) 2 dX4_findTokens_66 rfl rfl rfl ?_
      refine am_iload_n (pc' := 68) 1 dX4_findTokens_67 rfl rfl rfl ?_
      obtain ⟨q24, hq25, hres⟩ := am_bd_s hres
      refine am_cV (pc' := 71) (st' := [.int q24, .ref 26]) [.ref 26] [.int v2, .int v1] dX4_findTokens_68 cs_X4_65 (tx_X4_word r v2 v1 S _ hq25) rfl rfl rfl (sx_c26 S r) rfl rfl rfl rfl rfl ?_
      refine am_iload_n (pc' := 72) 2 dX4_findTokens_71 rfl rfl rfl ?_
      obtain ⟨q26, hq27, hres⟩ := am_let_s hres
      refine am_cV (pc' := 75) (st' := []) [] [.int q24, .int v2] dX4_findTokens_72 cs_X4_69 (tx_X4_note r q24 v2 S _ hq27) rfl rfl rfl (sx_c26 S r) rfl rfl rfl rfl rfl ?_
      refine am_goto 158 dX4_findTokens_75 rfl ?_
      refine am_goto 7 dX4_findTokens_158 rfl ?_
      refine am_weak (ls' := [some (.ref 26), some (.int v1), none, none]) [false, false, true, false] rfl ?_
      exact hk7 _ _ _ hres
    · rw [if_neg hc23] at hres
      refine am_aload_n (pc' := 45) 0 dX4_findTokens_44 rfl rfl rfl ?_
      refine am_get (pc' := 48) (v := .ref 27) dX4_findTokens_45 fl_X4_9 (sx_c26 S r) rfl rfl ?_
      refine am_iload_n (pc' := 49) 1 dX4_findTokens_48 rfl rfl rfl ?_
      refine am_cSN (pc' := 52) (st' := [.int (am_rd 160 (sx_rd_tape S) v1)]) [] [.ref 27, .int v1] dX4_findTokens_49 cs_X4_54 (tx_at (f := (sx_rd_tape S)) (sx_c27 S r) rfl v1) rfl rfl rfl rfl rfl rfl ?_
      refine am_cS (pc' := 55) (st' := [.int (fx_X4_isLetter (am_rd 160 (sx_rd_tape S) v1))]) [] [.int (am_rd 160 (sx_rd_tape S) v1)] dX4_findTokens_52 cs_X4_61 (tx_X4_isLetter (sx_w S r) (am_rd 160 (sx_rd_tape S) v1) _ rfl) rfl rfl rfl rfl rfl rfl ?_
      refine am_if_eq (pc' := 58) 64 dX4_findTokens_55 rfl rfl (fun hc28 => ?_) (fun hc28 => ?_)
      · rw [if_pos hc28] at hres
        refine am_aload_n (pc' := 65) 0 dX4_findTokens_64 rfl rfl rfl ?_
        refine am_aload_n (pc' := 66) 0 dX4_findTokens_65 rfl rfl rfl ?_
        refine am_iload_n (pc' := 67) 2 dX4_findTokens_66 rfl rfl rfl ?_
        refine am_iload_n (pc' := 68) 1 dX4_findTokens_67 rfl rfl rfl ?_
        obtain ⟨q29, hq30, hres⟩ := am_bd_s hres
        refine am_cV (pc' := 71) (st' := [.int q29, .ref 26]) [.ref 26] [.int v2, .int v1] dX4_findTokens_68 cs_X4_65 (tx_X4_word r v2 v1 S _ hq30) rfl rfl rfl (sx_c26 S r) rfl rfl rfl rfl rfl ?_
        refine am_iload_n (pc' := 72) 2 dX4_findTokens_71 rfl rfl rfl ?_
        obtain ⟨q31, hq32, hres⟩ := am_let_s hres
        refine am_cV (pc' := 75) (st' := []) [] [.int q29, .int v2] dX4_findTokens_72 cs_X4_69 (tx_X4_note r q29 v2 S _ hq32) rfl rfl rfl (sx_c26 S r) rfl rfl rfl rfl rfl ?_
        refine am_goto 158 dX4_findTokens_75 rfl ?_
        refine am_goto 7 dX4_findTokens_158 rfl ?_
        refine am_weak (ls' := [some (.ref 26), some (.int v1), none, none]) [false, false, true, false] rfl ?_
        exact hk7 _ _ _ hres
      · rw [if_neg hc28] at hres
        refine am_iinc (pc' := 61) (ls' := [some (.ref 26), some (.int (v1 + (1 : Int32))), some (.int v2), none]) dX4_findTokens_58 rfl (show v1 + Int32.ofInt 1 = (v1 + (1 : Int32)) from congrArg (fun z => v1 + z) kc_1) (Nat.le_of_ble_eq_true rfl) rfl rfl rfl ?_
        refine am_goto 36 dX4_findTokens_61 rfl ?_
        exact ih _ _ _ _ hres

set_option maxRecDepth 100000 in
set_option maxHeartbeats 4000000 in
theorem wx_X4_findTokens_7 (r : am_W) : ∀ (n : Nat) (v1 : Int32) (S : sx_T) (res : sx_T) (hres : fx_X4_findTokens_7 n v1 S = some res), am_G mX4_findTokens (none, 6, 0, 0, none, (sx_w res r)) (0, 0) 7 [some (.ref 26), some (.int v1), none, none] [] (sx_w S r) := by
  intro n
  induction n with
  | zero =>
    intro v1 S res hres
    cases hres
  | succ n ih =>
    intro v1 S res hres
    rw [fx_X4_findTokens_7] at hres
    refine am_iload_n (pc' := 8) 1 dX4_findTokens_7 rfl rfl rfl ?_
    refine am_aload_n (pc' := 9) 0 dX4_findTokens_8 rfl rfl rfl ?_
    refine am_get (pc' := 12) (v := .int (sx_rd_size S)) dX4_findTokens_9 fl_X4_25 (sx_c26 S r) rfl rfl ?_
    refine am_icmp_ge (pc' := 15) 161 dX4_findTokens_12 rfl rfl (fun hc1 => ?_) (fun hc1 => ?_)
    · rw [if_pos hc1] at hres
      refine am_aload_n (pc' := 162) 0 dX4_findTokens_161 rfl rfl rfl ?_
      refine am_iconst (pc' := 163) (v := (-1)) dX4_findTokens_162 kc_m1 rfl ?_
      refine am_aload_n (pc' := 164) 0 dX4_findTokens_163 rfl rfl rfl ?_
      refine am_get (pc' := 167) (v := .int (sx_rd_size S)) dX4_findTokens_164 fl_X4_25 (sx_c26 S r) rfl rfl ?_
      obtain ⟨q2, hq3, hres⟩ := am_let_s hres
      refine am_cV (pc' := 170) (st' := []) [] [.int (-1 : Int32), .int (sx_rd_size S)] dX4_findTokens_167 cs_X4_69 (tx_X4_note r (-1 : Int32) (sx_rd_size S) S _ hq3) rfl rfl rfl (sx_c26 S r) rfl rfl rfl rfl rfl ?_
      obtain rfl := Option.some.inj hres
      exact am_vret dX4_findTokens_170 rfl rfl rfl
    · rw [if_neg hc1] at hres
      refine am_iload_n (pc' := 16) 1 dX4_findTokens_15 rfl rfl rfl ?_
      refine am_istore_n (pc' := 17) (ls' := [some (.ref 26), some (.int v1), some (.int v1), none]) 2 dX4_findTokens_16 rfl (Nat.le_of_ble_eq_true rfl) rfl rfl rfl ?_
      refine am_aload_n (pc' := 18) 0 dX4_findTokens_17 rfl rfl rfl ?_
      refine am_get (pc' := 21) (v := .ref 27) dX4_findTokens_18 fl_X4_9 (sx_c26 S r) rfl rfl ?_
      refine am_iload_n (pc' := 22) 2 dX4_findTokens_21 rfl rfl rfl ?_
      refine am_cSN (pc' := 25) (st' := [.int (am_rd 160 (sx_rd_tape S) v1)]) [] [.ref 27, .int v1] dX4_findTokens_22 cs_X4_54 (tx_at (f := (sx_rd_tape S)) (sx_c27 S r) rfl v1) rfl rfl rfl rfl rfl rfl ?_
      refine am_istore_n (pc' := 26) (ls' := [some (.ref 26), some (.int v1), some (.int v1), some (.int (am_rd 160 (sx_rd_tape S) v1))]) 3 dX4_findTokens_25 rfl (Nat.le_of_ble_eq_true rfl) rfl rfl rfl ?_
      refine am_iinc (pc' := 29) (ls' := [some (.ref 26), some (.int (v1 + (1 : Int32))), some (.int v1), some (.int (am_rd 160 (sx_rd_tape S) v1))]) dX4_findTokens_26 rfl (show v1 + Int32.ofInt 1 = (v1 + (1 : Int32)) from congrArg (fun z => v1 + z) kc_1) (Nat.le_of_ble_eq_true rfl) rfl rfl rfl ?_
      refine am_iload_n (pc' := 30) 3 dX4_findTokens_29 rfl rfl rfl ?_
      refine am_cS (pc' := 33) (st' := [.int (fx_X4_isLetter (am_rd 160 (sx_rd_tape S) v1))]) [] [.int (am_rd 160 (sx_rd_tape S) v1)] dX4_findTokens_30 cs_X4_61 (tx_X4_isLetter (sx_w S r) (am_rd 160 (sx_rd_tape S) v1) _ rfl) rfl rfl rfl rfl rfl rfl ?_
      refine am_if_eq (pc' := 36) 78 dX4_findTokens_33 rfl rfl (fun hc4 => ?_) (fun hc4 => ?_)
      · rw [if_pos hc4] at hres
        refine am_iload_n (pc' := 79) 3 dX4_findTokens_78 rfl rfl rfl ?_
        refine am_cS (pc' := 82) (st' := [.int (fx_X4_isDigit (am_rd 160 (sx_rd_tape S) v1))]) [] [.int (am_rd 160 (sx_rd_tape S) v1)] dX4_findTokens_79 cs_X4_73 (tx_X4_isDigit (sx_w S r) (am_rd 160 (sx_rd_tape S) v1) _ rfl) rfl rfl rfl rfl rfl rfl ?_
        refine am_if_eq (pc' := 85) 127 dX4_findTokens_82 rfl rfl (fun hc5 => ?_) (fun hc5 => ?_)
        · rw [if_pos hc5] at hres
          refine am_iload_n (pc' := 128) 3 dX4_findTokens_127 rfl rfl rfl ?_
          refine am_bipush (pc' := 130) (v := 32) dX4_findTokens_128 kb_32 rfl ?_
          refine am_icmp_eq (pc' := 133) 158 dX4_findTokens_130 rfl rfl (fun hc6 => ?_) (fun hc6 => ?_)
          · rw [if_pos hc6] at hres
            refine am_goto 7 dX4_findTokens_158 rfl ?_
            refine am_weak (ls' := [some (.ref 26), some (.int (v1 + (1 : Int32))), none, none]) [false, false, true, true] rfl ?_
            exact ih _ _ _ hres
          · rw [if_neg hc6] at hres
            refine am_iload_n (pc' := 134) 3 dX4_findTokens_133 rfl rfl rfl ?_
            refine am_bipush (pc' := 136) (v := 10) dX4_findTokens_134 kb_10 rfl ?_
            refine am_icmp_eq (pc' := 139) 158 dX4_findTokens_136 rfl rfl (fun hc7 => ?_) (fun hc7 => ?_)
            · rw [if_pos hc7] at hres
              refine am_goto 7 dX4_findTokens_158 rfl ?_
              refine am_weak (ls' := [some (.ref 26), some (.int (v1 + (1 : Int32))), none, none]) [false, false, true, true] rfl ?_
              exact ih _ _ _ hres
            · rw [if_neg hc7] at hres
              refine am_aload_n (pc' := 140) 0 dX4_findTokens_139 rfl rfl rfl ?_
              refine am_iload_n (pc' := 141) 3 dX4_findTokens_140 rfl rfl rfl ?_
              refine am_cS (pc' := 144) (st' := [.int (fx_X4_isSign (am_rd 160 (sx_rd_tape S) v1)), .ref 26]) [.ref 26] [.int (am_rd 160 (sx_rd_tape S) v1)] dX4_findTokens_141 cs_X4_79 (tx_X4_isSign (sx_w S r) (am_rd 160 (sx_rd_tape S) v1) _ rfl) rfl rfl rfl rfl rfl rfl ?_
              refine am_if_eq (pc' := 147) 152 dX4_findTokens_144 rfl rfl (fun hc8 => ?_) (fun hc8 => ?_)
              · rw [if_pos hc8] at hres
                refine am_bipush (pc' := 154) (v := (-2)) dX4_findTokens_152 kb_m2 rfl ?_
                refine am_iload_n (pc' := 155) 2 dX4_findTokens_154 rfl rfl rfl ?_
                obtain ⟨q9, hq10, hres⟩ := am_let_s hres
                refine am_cV (pc' := 158) (st' := []) [] [.int (-2 : Int32), .int v1] dX4_findTokens_155 cs_X4_69 (tx_X4_note r (-2 : Int32) v1 S _ hq10) rfl rfl rfl (sx_c26 S r) rfl rfl rfl rfl rfl ?_
                refine am_goto 7 dX4_findTokens_158 rfl ?_
                refine am_weak (ls' := [some (.ref 26), some (.int (v1 + (1 : Int32))), none, none]) [false, false, true, true] rfl ?_
                exact ih _ _ _ hres
              · rw [if_neg hc8] at hres
                refine am_iload_n (pc' := 148) 3 dX4_findTokens_147 rfl rfl rfl ?_
                refine am_ineg (pc' := 149) dX4_findTokens_148 rfl ?_
                refine am_goto 154 dX4_findTokens_149 rfl ?_
                refine am_iload_n (pc' := 155) 2 dX4_findTokens_154 rfl rfl rfl ?_
                obtain ⟨q11, hq12, hres⟩ := am_let_s hres
                refine am_cV (pc' := 158) (st' := []) [] [.int (-(am_rd 160 (sx_rd_tape S) v1)), .int v1] dX4_findTokens_155 cs_X4_69 (tx_X4_note r (-(am_rd 160 (sx_rd_tape S) v1)) v1 S _ hq12) rfl rfl rfl (sx_c26 S r) rfl rfl rfl rfl rfl ?_
                refine am_goto 7 dX4_findTokens_158 rfl ?_
                refine am_weak (ls' := [some (.ref 26), some (.int (v1 + (1 : Int32))), none, none]) [false, false, true, true] rfl ?_
                exact ih _ _ _ hres
        · rw [if_neg hc5] at hres
          refine am_weak (ls' := [some (.ref 26), some (.int (v1 + (1 : Int32))), some (.int v1), none]) [false, false, false, true] rfl ?_
          exact wx_X4_findTokens_85 r _ (fun a0 a1 => ih a0 a1) am_fu _ _ _ _ hres
      · rw [if_neg hc4] at hres
        refine am_weak (ls' := [some (.ref 26), some (.int (v1 + (1 : Int32))), some (.int v1), none]) [false, false, false, true] rfl ?_
        exact wx_X4_findTokens_36 r _ (fun a0 a1 => ih a0 a1) am_fu _ _ _ _ hres

set_option maxRecDepth 100000 in
set_option maxHeartbeats 4000000 in
theorem tx_X4_findTokens (r : am_W) (S : sx_T) (res : sx_T) (hres : fx_X4_findTokens S = some res) : am_T mX4_findTokens 6 0 0 [.ref 26] (sx_w S r) none (sx_w res r) := by
  refine am_meth (ls := [some (.ref 26), none, none, none]) (by decide +kernel) rfl (Nat.le_of_ble_eq_true rfl) (sx_len _ _ _) ?_
  rw [fx_X4_findTokens] at hres
  refine am_aload_n (pc' := 1) 0 dX4_findTokens_0 rfl rfl rfl ?_
  refine am_iconst (pc' := 2) (v := 0) dX4_findTokens_1 kc_0 rfl ?_
  refine am_put (pc' := 5) (ws' := (sx_w (ux_rd_known S (0 : Int32)) r)) (v := .int (0 : Int32)) dX4_findTokens_2 fp_X4_58 (sx_c26 S r) (fun _ => ⟨rfl, rfl⟩) (Nat.le_of_ble_eq_true rfl) (sx_p_rd_known S r _) rfl ?_
  refine am_iconst (pc' := 6) (v := 0) dX4_findTokens_5 kc_0 rfl ?_
  refine am_istore_n (pc' := 7) (ls' := [some (.ref 26), some (.int (0 : Int32)), none, none]) 1 dX4_findTokens_6 rfl (Nat.le_of_ble_eq_true rfl) rfl rfl rfl ?_
  exact wx_X4_findTokens_7 r am_fu _ _ _ hres
set_option maxRecDepth 100000 in
set_option maxHeartbeats 4000000 in
theorem tx_X8_start (r : am_W) (S : sx_T) (res : sx_T) (hres : fx_X8_start S = res) : am_T mX8_start 0 0 0 [.ref 21] (sx_w S r) none (sx_w res r) := by
  refine am_meth (ls := [some (.ref 21)]) (by decide +kernel) rfl (Nat.le_of_ble_eq_true rfl) (sx_len _ _ _) ?_
  rw [fx_X8_start] at hres
  refine am_aload_n (pc' := 1) 0 dX8_start_0 rfl rfl rfl ?_
  refine am_aload_n (pc' := 2) 0 dX8_start_1 rfl rfl rfl ?_
  refine am_get (pc' := 5) (v := .int (sx_tx_count S)) dX8_start_2 fl_X8_24 (sx_c21 S r) rfl rfl ?_
  refine am_sipush (pc' := 8) (v := 160) dX8_start_5 ks_160 rfl ?_
  refine am_imul (pc' := 9) dX8_start_8 rfl ?_
  refine am_put (pc' := 12) (ws' := (sx_w (ux_tx_written S ((sx_tx_count S) * (160 : Int32))) r)) (v := .int ((sx_tx_count S) * (160 : Int32))) dX8_start_9 fp_X8_28 (sx_c21 S r) (fun _ => ⟨rfl, rfl⟩) (Nat.le_of_ble_eq_true rfl) (sx_p_tx_written S r _) rfl ?_
  refine am_aload_n (pc' := 13) 0 dX8_start_12 rfl rfl rfl ?_
  refine am_iconst (pc' := 14) (v := 0) dX8_start_13 kc_0 rfl ?_
  refine am_put (pc' := 17) (ws' := (sx_w (ux_tx_names (ux_tx_written S ((sx_tx_count S) * (160 : Int32))) (0 : Int32)) r)) (v := .int (0 : Int32)) dX8_start_14 fp_X8_31 (sx_c21 (ux_tx_written S ((sx_tx_count S) * (160 : Int32))) r) (fun _ => ⟨rfl, rfl⟩) (Nat.le_of_ble_eq_true rfl) (sx_p_tx_names (ux_tx_written S ((sx_tx_count S) * (160 : Int32))) r _) rfl ?_
  subst hres
  exact am_vret dX8_start_17 rfl rfl rfl
set_option maxRecDepth 100000 in
set_option maxHeartbeats 4000000 in
theorem tx_X8_endPart (r : am_W) (a1 : Int32) (S : sx_T) (res : sx_T) (hres : fx_X8_endPart a1 S = res) : am_T mX8_endPart 1 0 0 [.ref 21, .int a1] (sx_w S r) none (sx_w res r) := by
  refine am_meth (ls := [some (.ref 21), some (.int a1)]) (by decide +kernel) rfl (Nat.le_of_ble_eq_true rfl) (sx_len _ _ _) ?_
  rw [fx_X8_endPart] at hres
  refine am_aload_n (pc' := 1) 0 dX8_endPart_0 rfl rfl rfl ?_
  refine am_get (pc' := 4) (v := .ref 23) dX8_endPart_1 fl_X8_15 (sx_c21 S r) rfl rfl ?_
  refine am_aload_n (pc' := 5) 0 dX8_endPart_4 rfl rfl rfl ?_
  refine am_get (pc' := 8) (v := .int (sx_tx_count S)) dX8_endPart_5 fl_X8_24 (sx_c21 S r) rfl rfl ?_
  refine am_iconst (pc' := 9) (v := 3) dX8_endPart_8 kc_3 rfl ?_
  refine am_imul (pc' := 10) dX8_endPart_9 rfl ?_
  refine am_iload_n (pc' := 11) 1 dX8_endPart_10 rfl rfl rfl ?_
  refine am_iadd (pc' := 12) dX8_endPart_11 rfl ?_
  refine am_aload_n (pc' := 13) 0 dX8_endPart_12 rfl rfl rfl ?_
  refine am_get (pc' := 16) (v := .int (sx_tx_written S)) dX8_endPart_13 fl_X8_28 (sx_c21 S r) rfl rfl ?_
  refine am_cSN (pc' := 19) (st' := []) [] [.ref 23, .int (((sx_tx_count S) * (3 : Int32)) + a1), .int (sx_tx_written S)] dX8_endPart_16 cs_X8_38 (tx_set (f := (sx_tx_ends S)) (w1 := (sx_w (ux_tx_ends S (am_up 18 (sx_tx_ends S) (((sx_tx_count S) * (3 : Int32)) + a1) (sx_tx_written S))) r)) (sx_c23 S r) rfl (((sx_tx_count S) * (3 : Int32)) + a1) (sx_tx_written S) (sx_p_tx_ends S r _)) rfl rfl rfl rfl rfl rfl ?_
  refine am_aload_n (pc' := 20) 0 dX8_endPart_19 rfl rfl rfl ?_
  refine am_get (pc' := 23) (v := .ref 24) dX8_endPart_20 fl_X8_18 (sx_c21 (ux_tx_ends S (am_up 18 (sx_tx_ends S) (((sx_tx_count S) * (3 : Int32)) + a1) (sx_tx_written S))) r) rfl rfl ?_
  refine am_aload_n (pc' := 24) 0 dX8_endPart_23 rfl rfl rfl ?_
  refine am_get (pc' := 27) (v := .int (sx_tx_count S)) dX8_endPart_24 fl_X8_24 (sx_c21 (ux_tx_ends S (am_up 18 (sx_tx_ends S) (((sx_tx_count S) * (3 : Int32)) + a1) (sx_tx_written S))) r) rfl rfl ?_
  refine am_iconst (pc' := 28) (v := 3) dX8_endPart_27 kc_3 rfl ?_
  refine am_imul (pc' := 29) dX8_endPart_28 rfl ?_
  refine am_iload_n (pc' := 30) 1 dX8_endPart_29 rfl rfl rfl ?_
  refine am_iadd (pc' := 31) dX8_endPart_30 rfl ?_
  refine am_aload_n (pc' := 32) 0 dX8_endPart_31 rfl rfl rfl ?_
  refine am_get (pc' := 35) (v := .int (sx_tx_names S)) dX8_endPart_32 fl_X8_31 (sx_c21 (ux_tx_ends S (am_up 18 (sx_tx_ends S) (((sx_tx_count S) * (3 : Int32)) + a1) (sx_tx_written S))) r) rfl rfl ?_
  refine am_cSN (pc' := 38) (st' := []) [] [.ref 24, .int (((sx_tx_count S) * (3 : Int32)) + a1), .int (sx_tx_names S)] dX8_endPart_35 cs_X8_38 (tx_set (f := (sx_tx_named S)) (w1 := (sx_w (ux_tx_named (ux_tx_ends S (am_up 18 (sx_tx_ends S) (((sx_tx_count S) * (3 : Int32)) + a1) (sx_tx_written S))) (am_up 18 (sx_tx_named S) (((sx_tx_count S) * (3 : Int32)) + a1) (sx_tx_names S))) r)) (sx_c24 (ux_tx_ends S (am_up 18 (sx_tx_ends S) (((sx_tx_count S) * (3 : Int32)) + a1) (sx_tx_written S))) r) rfl (((sx_tx_count S) * (3 : Int32)) + a1) (sx_tx_names S) (sx_p_tx_named (ux_tx_ends S (am_up 18 (sx_tx_ends S) (((sx_tx_count S) * (3 : Int32)) + a1) (sx_tx_written S))) r _)) rfl rfl rfl rfl rfl rfl ?_
  refine am_aload_n (pc' := 39) 0 dX8_endPart_38 rfl rfl rfl ?_
  refine am_iconst (pc' := 40) (v := 0) dX8_endPart_39 kc_0 rfl ?_
  refine am_put (pc' := 43) (ws' := (sx_w (ux_tx_names (ux_tx_named (ux_tx_ends S (am_up 18 (sx_tx_ends S) (((sx_tx_count S) * (3 : Int32)) + a1) (sx_tx_written S))) (am_up 18 (sx_tx_named S) (((sx_tx_count S) * (3 : Int32)) + a1) (sx_tx_names S))) (0 : Int32)) r)) (v := .int (0 : Int32)) dX8_endPart_40 fp_X8_31 (sx_c21 (ux_tx_named (ux_tx_ends S (am_up 18 (sx_tx_ends S) (((sx_tx_count S) * (3 : Int32)) + a1) (sx_tx_written S))) (am_up 18 (sx_tx_named S) (((sx_tx_count S) * (3 : Int32)) + a1) (sx_tx_names S))) r) (fun _ => ⟨rfl, rfl⟩) (Nat.le_of_ble_eq_true rfl) (sx_p_tx_names (ux_tx_named (ux_tx_ends S (am_up 18 (sx_tx_ends S) (((sx_tx_count S) * (3 : Int32)) + a1) (sx_tx_written S))) (am_up 18 (sx_tx_named S) (((sx_tx_count S) * (3 : Int32)) + a1) (sx_tx_names S))) r _) rfl ?_
  subst hres
  exact am_vret dX8_endPart_43 rfl rfl rfl
set_option maxRecDepth 100000 in
set_option maxHeartbeats 4000000 in
theorem tx_X4_readPart (r : am_W) (a1 : Int32) (a2 : Int32) (S : sx_T) (res : Int32 × sx_T) (hres : fx_X4_readPart a1 a2 S = some res) : am_T mX4_readPart 317 0 0 [.ref 26, .int a1, .int a2] (sx_w S r) (some (.int res.1)) (sx_w res.2 r) := by
  refine am_meth (ls := [some (.ref 26), some (.int a1), some (.int a2)]) (by decide +kernel) rfl (Nat.le_of_ble_eq_true rfl) (sx_len _ _ _) ?_
  rw [fx_X4_readPart] at hres
  refine am_aload_n (pc' := 1) 0 dX4_readPart_0 rfl rfl rfl ?_
  refine am_iload_n (pc' := 2) 1 dX4_readPart_1 rfl rfl rfl ?_
  obtain ⟨q1, hq2, hres⟩ := am_let_s hres
  refine am_cV (pc' := 5) (st' := [.int q1.1]) [] [.int a1] dX4_readPart_2 cs_X4_120 (tx_X4_passed r a1 S _ hq2) rfl rfl rfl (sx_c26 S r) rfl rfl rfl rfl rfl ?_
  refine am_if_eq (pc' := 8) 25 dX4_readPart_5 rfl rfl (fun hc3 => ?_) (fun hc3 => ?_)
  · rw [if_pos hc3] at hres
    refine am_iconst (pc' := 26) (v := 0) dX4_readPart_25 kc_0 rfl ?_
    obtain rfl := Option.some.inj hres
    exact am_zret dX4_readPart_26 rfl rfl rfl rfl
  · rw [if_neg hc3] at hres
    refine am_aload_n (pc' := 9) 0 dX4_readPart_8 rfl rfl rfl ?_
    refine am_iconst (pc' := 10) (v := 0) dX4_readPart_9 kc_0 rfl ?_
    obtain ⟨q4, hq5, hres⟩ := am_bd_s hres
    refine am_cV (pc' := 13) (st' := [.int q4.1]) [] [.int (0 : Int32)] dX4_readPart_10 cs_X4_123 (tr_Or r (0 : Int32) q1.2 _ hq5) rfl rfl rfl (sx_c26 q1.2 r) rfl rfl rfl rfl rfl ?_
    refine am_if_eq (pc' := 16) 25 dX4_readPart_13 rfl rfl (fun hc6 => ?_) (fun hc6 => ?_)
    · rw [if_pos hc6] at hres
      refine am_iconst (pc' := 26) (v := 0) dX4_readPart_25 kc_0 rfl ?_
      obtain rfl := Option.some.inj hres
      exact am_zret dX4_readPart_26 rfl rfl rfl rfl
    · rw [if_neg hc6] at hres
      refine am_aload_n (pc' := 17) 0 dX4_readPart_16 rfl rfl rfl ?_
      refine am_bipush (pc' := 19) (v := (-59)) dX4_readPart_17 kb_m59 rfl ?_
      obtain ⟨q7, hq8, hres⟩ := am_let_s hres
      refine am_cV (pc' := 22) (st' := [.int q7.1]) [] [.int (-59 : Int32)] dX4_readPart_19 cs_X4_120 (tx_X4_passed r (-59 : Int32) q4.2 _ hq8) rfl rfl rfl (sx_c26 q4.2 r) rfl rfl rfl rfl rfl ?_
      refine am_if_ne (pc' := 25) 27 dX4_readPart_22 rfl rfl (fun hc9 => ?_) (fun hc9 => ?_)
      · rw [if_neg hc9] at hres
        refine am_aload_n (pc' := 28) 0 dX4_readPart_27 rfl rfl rfl ?_
        refine am_get (pc' := 31) (v := .ref 21) dX4_readPart_28 fl_X4_21 (sx_c26 q7.2 r) rfl rfl ?_
        refine am_iload_n (pc' := 32) 2 dX4_readPart_31 rfl rfl rfl ?_
        obtain ⟨q10, hq11, hres⟩ := am_let_s hres
        refine am_cV (pc' := 35) (st' := []) [] [.int a2] dX4_readPart_32 cs_X4_126 (tx_X8_endPart r a2 q7.2 _ hq11) rfl rfl rfl (sx_c21 q7.2 r) rfl rfl rfl rfl rfl ?_
        refine am_iconst (pc' := 36) (v := 1) dX4_readPart_35 kc_1 rfl ?_
        obtain rfl := Option.some.inj hres
        exact am_zret dX4_readPart_36 rfl rfl rfl rfl
      · rw [if_pos hc9] at hres
        refine am_iconst (pc' := 26) (v := 0) dX4_readPart_25 kc_0 rfl ?_
        obtain rfl := Option.some.inj hres
        exact am_zret dX4_readPart_26 rfl rfl rfl rfl
set_option maxRecDepth 100000 in
set_option maxHeartbeats 4000000 in
theorem tx_X4_fault (r : am_W) (S : sx_T) (res : Int32 × sx_T) (hres : fx_X4_fault S = some res) : am_T mX4_fault 318 0 0 [.ref 26] (sx_w S r) (some (.int res.1)) (sx_w res.2 r) := by
  refine am_meth (ls := [some (.ref 26), none]) (by decide +kernel) rfl (Nat.le_of_ble_eq_true rfl) (sx_len _ _ _) ?_
  rw [fx_X4_fault] at hres
  refine am_aload_n (pc' := 1) 0 dX4_fault_0 rfl rfl rfl ?_
  obtain ⟨q1, hq2, hres⟩ := am_bd_s hres
  refine am_cV (pc' := 4) (st' := []) [] [] dX4_fault_1 cs_X4_33 (tx_X4_findTokens r S _ hq2) rfl rfl rfl (sx_c26 S r) rfl rfl rfl rfl rfl ?_
  refine am_aload_n (pc' := 5) 0 dX4_fault_4 rfl rfl rfl ?_
  refine am_iconst (pc' := 6) (v := (-1)) dX4_fault_5 kc_m1 rfl ?_
  refine am_put (pc' := 9) (ws' := (sx_w (ux_rd_seen q1 (-1 : Int32)) r)) (v := .int (-1 : Int32)) dX4_fault_6 fp_X4_36 (sx_c26 q1 r) (fun _ => ⟨rfl, rfl⟩) (Nat.le_of_ble_eq_true rfl) (sx_p_rd_seen q1 r _) rfl ?_
  refine am_aload_n (pc' := 10) 0 dX4_fault_9 rfl rfl rfl ?_
  obtain ⟨q3, hq4, hres⟩ := am_let_s hres
  refine am_cV (pc' := 13) (st' := []) [] [] dX4_fault_10 cs_X4_39 (tx_X4_advance r (ux_rd_seen q1 (-1 : Int32)) _ hq4) rfl rfl rfl (sx_c26 (ux_rd_seen q1 (-1 : Int32)) r) rfl rfl rfl rfl rfl ?_
  refine am_aload_n (pc' := 14) 0 dX4_fault_13 rfl rfl rfl ?_
  refine am_get (pc' := 17) (v := .ref 21) dX4_fault_14 fl_X4_21 (sx_c26 q3 r) rfl rfl ?_
  obtain ⟨q5, hq6, hres⟩ := am_let_s hres
  refine am_cV (pc' := 20) (st' := []) [] [] dX4_fault_17 cs_X4_42 (tx_X8_start r q3 _ hq6) rfl rfl rfl (sx_c21 q3 r) rfl rfl rfl rfl rfl ?_
  refine am_aload_n (pc' := 21) 0 dX4_fault_20 rfl rfl rfl ?_
  refine am_bipush (pc' := 23) (v := (-3)) dX4_fault_21 kb_m3 rfl ?_
  refine am_iconst (pc' := 24) (v := 0) dX4_fault_23 kc_0 rfl ?_
  obtain ⟨q7, hq8, hres⟩ := am_bd_s hres
  refine am_cV (pc' := 27) (st' := [.int q7.1]) [] [.int (-3 : Int32), .int (0 : Int32)] dX4_fault_24 cs_X4_47 (tx_X4_readPart r (-3 : Int32) (0 : Int32) q5 _ hq8) rfl rfl rfl (sx_c26 q5 r) rfl rfl rfl rfl rfl ?_
  refine am_if_eq (pc' := 30) 62 dX4_fault_27 rfl rfl (fun hc9 => ?_) (fun hc9 => ?_)
  · rw [if_pos hc9] at hres
    refine am_iconst (pc' := 63) (v := 0) dX4_fault_62 kc_0 rfl ?_
    refine am_istore_n (pc' := 64) (ls' := [some (.ref 26), some (.int (0 : Int32))]) 1 dX4_fault_63 rfl (Nat.le_of_ble_eq_true rfl) rfl rfl rfl ?_
    refine am_iload_n (pc' := 65) 1 dX4_fault_64 rfl rfl rfl ?_
    refine am_if_eq (pc' := 68) 72 dX4_fault_65 rfl rfl (fun hc10 => ?_) (fun hc10 => ?_)
    · rw [if_pos hc10] at hres
      refine am_aload_n (pc' := 73) 0 dX4_fault_72 rfl rfl rfl ?_
      refine am_get (pc' := 76) (v := .ref 29) dX4_fault_73 fl_X4_18 (sx_c26 q7.2 r) rfl rfl ?_
      refine am_aload_n (pc' := 77) 0 dX4_fault_76 rfl rfl rfl ?_
      refine am_get (pc' := 80) (v := .int (sx_rd_seen q7.2)) dX4_fault_77 fl_X4_36 (sx_c26 q7.2 r) rfl rfl ?_
      refine am_cSN (pc' := 83) (st' := [.int (am_rd 161 (sx_rd_places q7.2) (sx_rd_seen q7.2))]) [] [.ref 29, .int (sx_rd_seen q7.2)] dX4_fault_80 cs_X4_54 (tx_at (f := (sx_rd_places q7.2)) (sx_c29 q7.2 r) rfl (sx_rd_seen q7.2)) rfl rfl rfl rfl rfl rfl ?_
      obtain rfl := Option.some.inj hres
      exact am_iret dX4_fault_83 rfl rfl rfl
    · rw [if_neg hc10] at hres
      refine am_iconst (pc' := 69) (v := (-1)) dX4_fault_68 kc_m1 rfl ?_
      refine am_goto 83 dX4_fault_69 rfl ?_
      obtain rfl := Option.some.inj hres
      exact am_iret dX4_fault_83 rfl rfl rfl
  · rw [if_neg hc9] at hres
    refine am_aload_n (pc' := 31) 0 dX4_fault_30 rfl rfl rfl ?_
    refine am_bipush (pc' := 33) (v := (-4)) dX4_fault_31 kb_m4 rfl ?_
    refine am_iconst (pc' := 34) (v := 1) dX4_fault_33 kc_1 rfl ?_
    obtain ⟨q11, hq12, hres⟩ := am_bd_s hres
    refine am_cV (pc' := 37) (st' := [.int q11.1]) [] [.int (-4 : Int32), .int (1 : Int32)] dX4_fault_34 cs_X4_47 (tx_X4_readPart r (-4 : Int32) (1 : Int32) q7.2 _ hq12) rfl rfl rfl (sx_c26 q7.2 r) rfl rfl rfl rfl rfl ?_
    refine am_if_eq (pc' := 40) 62 dX4_fault_37 rfl rfl (fun hc13 => ?_) (fun hc13 => ?_)
    · rw [if_pos hc13] at hres
      refine am_iconst (pc' := 63) (v := 0) dX4_fault_62 kc_0 rfl ?_
      refine am_istore_n (pc' := 64) (ls' := [some (.ref 26), some (.int (0 : Int32))]) 1 dX4_fault_63 rfl (Nat.le_of_ble_eq_true rfl) rfl rfl rfl ?_
      refine am_iload_n (pc' := 65) 1 dX4_fault_64 rfl rfl rfl ?_
      refine am_if_eq (pc' := 68) 72 dX4_fault_65 rfl rfl (fun hc14 => ?_) (fun hc14 => ?_)
      · rw [if_pos hc14] at hres
        refine am_aload_n (pc' := 73) 0 dX4_fault_72 rfl rfl rfl ?_
        refine am_get (pc' := 76) (v := .ref 29) dX4_fault_73 fl_X4_18 (sx_c26 q11.2 r) rfl rfl ?_
        refine am_aload_n (pc' := 77) 0 dX4_fault_76 rfl rfl rfl ?_
        refine am_get (pc' := 80) (v := .int (sx_rd_seen q11.2)) dX4_fault_77 fl_X4_36 (sx_c26 q11.2 r) rfl rfl ?_
        refine am_cSN (pc' := 83) (st' := [.int (am_rd 161 (sx_rd_places q11.2) (sx_rd_seen q11.2))]) [] [.ref 29, .int (sx_rd_seen q11.2)] dX4_fault_80 cs_X4_54 (tx_at (f := (sx_rd_places q11.2)) (sx_c29 q11.2 r) rfl (sx_rd_seen q11.2)) rfl rfl rfl rfl rfl rfl ?_
        obtain rfl := Option.some.inj hres
        exact am_iret dX4_fault_83 rfl rfl rfl
      · rw [if_neg hc14] at hres
        refine am_iconst (pc' := 69) (v := (-1)) dX4_fault_68 kc_m1 rfl ?_
        refine am_goto 83 dX4_fault_69 rfl ?_
        obtain rfl := Option.some.inj hres
        exact am_iret dX4_fault_83 rfl rfl rfl
    · rw [if_neg hc13] at hres
      refine am_aload_n (pc' := 41) 0 dX4_fault_40 rfl rfl rfl ?_
      refine am_bipush (pc' := 43) (v := (-5)) dX4_fault_41 kb_m5 rfl ?_
      refine am_iconst (pc' := 44) (v := 2) dX4_fault_43 kc_2 rfl ?_
      obtain ⟨q15, hq16, hres⟩ := am_bd_s hres
      refine am_cV (pc' := 47) (st' := [.int q15.1]) [] [.int (-5 : Int32), .int (2 : Int32)] dX4_fault_44 cs_X4_47 (tx_X4_readPart r (-5 : Int32) (2 : Int32) q11.2 _ hq16) rfl rfl rfl (sx_c26 q11.2 r) rfl rfl rfl rfl rfl ?_
      refine am_if_eq (pc' := 50) 62 dX4_fault_47 rfl rfl (fun hc17 => ?_) (fun hc17 => ?_)
      · rw [if_pos hc17] at hres
        refine am_iconst (pc' := 63) (v := 0) dX4_fault_62 kc_0 rfl ?_
        refine am_istore_n (pc' := 64) (ls' := [some (.ref 26), some (.int (0 : Int32))]) 1 dX4_fault_63 rfl (Nat.le_of_ble_eq_true rfl) rfl rfl rfl ?_
        refine am_iload_n (pc' := 65) 1 dX4_fault_64 rfl rfl rfl ?_
        refine am_if_eq (pc' := 68) 72 dX4_fault_65 rfl rfl (fun hc18 => ?_) (fun hc18 => ?_)
        · rw [if_pos hc18] at hres
          refine am_aload_n (pc' := 73) 0 dX4_fault_72 rfl rfl rfl ?_
          refine am_get (pc' := 76) (v := .ref 29) dX4_fault_73 fl_X4_18 (sx_c26 q15.2 r) rfl rfl ?_
          refine am_aload_n (pc' := 77) 0 dX4_fault_76 rfl rfl rfl ?_
          refine am_get (pc' := 80) (v := .int (sx_rd_seen q15.2)) dX4_fault_77 fl_X4_36 (sx_c26 q15.2 r) rfl rfl ?_
          refine am_cSN (pc' := 83) (st' := [.int (am_rd 161 (sx_rd_places q15.2) (sx_rd_seen q15.2))]) [] [.ref 29, .int (sx_rd_seen q15.2)] dX4_fault_80 cs_X4_54 (tx_at (f := (sx_rd_places q15.2)) (sx_c29 q15.2 r) rfl (sx_rd_seen q15.2)) rfl rfl rfl rfl rfl rfl ?_
          obtain rfl := Option.some.inj hres
          exact am_iret dX4_fault_83 rfl rfl rfl
        · rw [if_neg hc18] at hres
          refine am_iconst (pc' := 69) (v := (-1)) dX4_fault_68 kc_m1 rfl ?_
          refine am_goto 83 dX4_fault_69 rfl ?_
          obtain rfl := Option.some.inj hres
          exact am_iret dX4_fault_83 rfl rfl rfl
      · rw [if_neg hc17] at hres
        refine am_aload_n (pc' := 51) 0 dX4_fault_50 rfl rfl rfl ?_
        refine am_get (pc' := 54) (v := .int (sx_rd_token q15.2)) dX4_fault_51 fl_X4_51 (sx_c26 q15.2 r) rfl rfl ?_
        refine am_iconst (pc' := 55) (v := (-1)) dX4_fault_54 kc_m1 rfl ?_
        refine am_icmp_ne (pc' := 58) 62 dX4_fault_55 rfl rfl (fun hc19 => ?_) (fun hc19 => ?_)
        · rw [if_neg hc19] at hres
          refine am_iconst (pc' := 63) (v := 0) dX4_fault_62 kc_0 rfl ?_
          refine am_istore_n (pc' := 64) (ls' := [some (.ref 26), some (.int (0 : Int32))]) 1 dX4_fault_63 rfl (Nat.le_of_ble_eq_true rfl) rfl rfl rfl ?_
          refine am_iload_n (pc' := 65) 1 dX4_fault_64 rfl rfl rfl ?_
          refine am_if_eq (pc' := 68) 72 dX4_fault_65 rfl rfl (fun hc20 => ?_) (fun hc20 => ?_)
          · rw [if_pos hc20] at hres
            refine am_aload_n (pc' := 73) 0 dX4_fault_72 rfl rfl rfl ?_
            refine am_get (pc' := 76) (v := .ref 29) dX4_fault_73 fl_X4_18 (sx_c26 q15.2 r) rfl rfl ?_
            refine am_aload_n (pc' := 77) 0 dX4_fault_76 rfl rfl rfl ?_
            refine am_get (pc' := 80) (v := .int (sx_rd_seen q15.2)) dX4_fault_77 fl_X4_36 (sx_c26 q15.2 r) rfl rfl ?_
            refine am_cSN (pc' := 83) (st' := [.int (am_rd 161 (sx_rd_places q15.2) (sx_rd_seen q15.2))]) [] [.ref 29, .int (sx_rd_seen q15.2)] dX4_fault_80 cs_X4_54 (tx_at (f := (sx_rd_places q15.2)) (sx_c29 q15.2 r) rfl (sx_rd_seen q15.2)) rfl rfl rfl rfl rfl rfl ?_
            obtain rfl := Option.some.inj hres
            exact am_iret dX4_fault_83 rfl rfl rfl
          · rw [if_neg hc20] at hres
            refine am_iconst (pc' := 69) (v := (-1)) dX4_fault_68 kc_m1 rfl ?_
            refine am_goto 83 dX4_fault_69 rfl ?_
            obtain rfl := Option.some.inj hres
            exact am_iret dX4_fault_83 rfl rfl rfl
        · rw [if_pos hc19] at hres
          refine am_iconst (pc' := 59) (v := 1) dX4_fault_58 kc_1 rfl ?_
          refine am_goto 63 dX4_fault_59 rfl ?_
          refine am_istore_n (pc' := 64) (ls' := [some (.ref 26), some (.int (1 : Int32))]) 1 dX4_fault_63 rfl (Nat.le_of_ble_eq_true rfl) rfl rfl rfl ?_
          refine am_iload_n (pc' := 65) 1 dX4_fault_64 rfl rfl rfl ?_
          refine am_if_eq (pc' := 68) 72 dX4_fault_65 rfl rfl (fun hc21 => ?_) (fun hc21 => ?_)
          · rw [if_pos hc21] at hres
            refine am_aload_n (pc' := 73) 0 dX4_fault_72 rfl rfl rfl ?_
            refine am_get (pc' := 76) (v := .ref 29) dX4_fault_73 fl_X4_18 (sx_c26 q15.2 r) rfl rfl ?_
            refine am_aload_n (pc' := 77) 0 dX4_fault_76 rfl rfl rfl ?_
            refine am_get (pc' := 80) (v := .int (sx_rd_seen q15.2)) dX4_fault_77 fl_X4_36 (sx_c26 q15.2 r) rfl rfl ?_
            refine am_cSN (pc' := 83) (st' := [.int (am_rd 161 (sx_rd_places q15.2) (sx_rd_seen q15.2))]) [] [.ref 29, .int (sx_rd_seen q15.2)] dX4_fault_80 cs_X4_54 (tx_at (f := (sx_rd_places q15.2)) (sx_c29 q15.2 r) rfl (sx_rd_seen q15.2)) rfl rfl rfl rfl rfl rfl ?_
            obtain rfl := Option.some.inj hres
            exact am_iret dX4_fault_83 rfl rfl rfl
          · rw [if_neg hc21] at hres
            refine am_iconst (pc' := 69) (v := (-1)) dX4_fault_68 kc_m1 rfl ?_
            refine am_goto 83 dX4_fault_69 rfl ?_
            obtain rfl := Option.some.inj hres
            exact am_iret dX4_fault_83 rfl rfl rfl
set_option maxRecDepth 100000 in
set_option maxHeartbeats 4000000 in
theorem tx_X11_text (r : am_W) (S : sx_T) (res : Int32 × sx_T) (hres : fx_X11_text S = some res) : am_T mX11_text 319 0 0 [.ref 0] (sx_w S r) (some (.int res.1)) (sx_w res.2 r) := by
  refine am_meth (ls := [some (.ref 0), none, none]) (by decide +kernel) rfl (Nat.le_of_ble_eq_true rfl) (sx_len _ _ _) ?_
  rw [fx_X11_text] at hres
  refine am_aload_n (pc' := 1) 0 dX11_text_0 rfl rfl rfl ?_
  refine am_get (pc' := 4) (v := .ref 21) dX11_text_1 fl_X11_55 (sx_c0 S r) rfl rfl ?_
  refine am_get (pc' := 7) (v := .int (sx_tx_count S)) dX11_text_4 fl_X11_117 (sx_c21 S r) rfl rfl ?_
  refine am_bipush (pc' := 9) (v := 6) dX11_text_7 kb_6 rfl ?_
  refine am_icmp_lt (pc' := 12) 15 dX11_text_9 rfl rfl (fun hc1 => ?_) (fun hc1 => ?_)
  · rw [if_pos hc1] at hres
    refine am_aload_n (pc' := 16) 0 dX11_text_15 rfl rfl rfl ?_
    refine am_get (pc' := 19) (v := .ref 26) dX11_text_16 fl_X11_64 (sx_c0 S r) rfl rfl ?_
    obtain ⟨q2, hq3, hres⟩ := am_bd_s hres
    refine am_cV (pc' := 22) (st' := [.int q2.1]) [] [] dX11_text_19 cs_X11_110 (tx_X4_fault r S _ hq3) rfl rfl rfl (sx_c26 S r) rfl rfl rfl rfl rfl ?_
    refine am_istore_n (pc' := 23) (ls' := [some (.ref 0), some (.int q2.1), none]) 1 dX11_text_22 rfl (Nat.le_of_ble_eq_true rfl) rfl rfl rfl ?_
    refine am_aload_n (pc' := 24) 0 dX11_text_23 rfl rfl rfl ?_
    refine am_get (pc' := 27) (v := .ref 26) dX11_text_24 fl_X11_64 (sx_c0 q2.2 r) rfl rfl ?_
    refine am_iconst (pc' := 28) (v := 0) dX11_text_27 kc_0 rfl ?_
    refine am_put (pc' := 31) (ws' := (sx_w (ux_rd_size q2.2 (0 : Int32)) r)) (v := .int (0 : Int32)) dX11_text_28 fp_X11_113 (sx_c26 q2.2 r) (fun _ => ⟨rfl, rfl⟩) (Nat.le_of_ble_eq_true rfl) (sx_p_rd_size q2.2 r _) rfl ?_
    refine am_iload_n (pc' := 32) 1 dX11_text_31 rfl rfl rfl ?_
    refine am_if_lt (pc' := 35) 40 dX11_text_32 rfl rfl (fun hc4 => ?_) (fun hc4 => ?_)
    · rw [if_pos hc4] at hres
      refine am_aload_n (pc' := 41) 0 dX11_text_40 rfl rfl rfl ?_
      refine am_get (pc' := 44) (v := .ref 21) dX11_text_41 fl_X11_55 (sx_c0 (ux_rd_size q2.2 (0 : Int32)) r) rfl rfl ?_
      refine am_get (pc' := 47) (v := .int (sx_tx_count q2.2)) dX11_text_44 fl_X11_117 (sx_c21 (ux_rd_size q2.2 (0 : Int32)) r) rfl rfl ?_
      refine am_istore_n (pc' := 48) (ls' := [some (.ref 0), some (.int q2.1), some (.int (sx_tx_count q2.2))]) 2 dX11_text_47 rfl (Nat.le_of_ble_eq_true rfl) rfl rfl rfl ?_
      refine am_aload_n (pc' := 49) 0 dX11_text_48 rfl rfl rfl ?_
      refine am_get (pc' := 52) (v := .ref 21) dX11_text_49 fl_X11_55 (sx_c0 (ux_rd_size q2.2 (0 : Int32)) r) rfl rfl ?_
      refine am_iload_n (pc' := 53) 2 dX11_text_52 rfl rfl rfl ?_
      refine am_iconst (pc' := 54) (v := 1) dX11_text_53 kc_1 rfl ?_
      refine am_iadd (pc' := 55) dX11_text_54 rfl ?_
      refine am_put (pc' := 58) (ws' := (sx_w (ux_tx_count (ux_rd_size q2.2 (0 : Int32)) ((sx_tx_count q2.2) + (1 : Int32))) r)) (v := .int ((sx_tx_count q2.2) + (1 : Int32))) dX11_text_55 fp_X11_117 (sx_c21 (ux_rd_size q2.2 (0 : Int32)) r) (fun _ => ⟨rfl, rfl⟩) (Nat.le_of_ble_eq_true rfl) (sx_p_tx_count (ux_rd_size q2.2 (0 : Int32)) r _) rfl ?_
      refine am_iload_n (pc' := 59) 2 dX11_text_58 rfl rfl rfl ?_
      obtain rfl := Option.some.inj hres
      exact am_iret dX11_text_59 rfl rfl rfl
    · rw [if_neg hc4] at hres
      refine am_bipush (pc' := 37) (v := (-100)) dX11_text_35 kb_m100 rfl ?_
      refine am_iload_n (pc' := 38) 1 dX11_text_37 rfl rfl rfl ?_
      refine am_isub (pc' := 39) dX11_text_38 rfl ?_
      obtain rfl := Option.some.inj hres
      exact am_iret dX11_text_39 rfl rfl rfl
  · rw [if_neg hc1] at hres
    refine am_bipush (pc' := 14) (v := (-4)) dX11_text_12 kb_m4 rfl ?_
    obtain rfl := Option.some.inj hres
    exact am_iret dX11_text_14 rfl rfl rfl
set_option maxRecDepth 100000 in
set_option maxHeartbeats 4000000 in
theorem wx_X11_together_68 (r : am_W) (k45 : Int32 → Int32 → Int32 → Int32 → Int32 → sx_T → Option (Int32 × sx_T)) (hk45 : ∀ (v2 : Int32) (v4 : Int32) (v5 : Int32) (v6 : Int32) (v7 : Int32) (S : sx_T) (res : Int32 × sx_T), k45 v2 v4 v5 v6 v7 S = some res → am_G mX11_together (none, 8, 0, 0, (some (.int res.1)), (sx_w res.2 r)) (0, 0) 45 [some (.ref 0), none, some (.int v2), none, some (.int v4), some (.int v5), some (.int v6), some (.int v7), none, none] [] (sx_w S r)) : ∀ (n : Nat) (v2 : Int32) (v4 : Int32) (v5 : Int32) (v6 : Int32) (v7 : Int32) (v8 : Int32) (S : sx_T) (res : Int32 × sx_T) (hres : fx_X11_together_68 k45 n v2 v4 v5 v6 v7 v8 S = some res), am_G mX11_together (none, 8, 0, 0, (some (.int res.1)), (sx_w res.2 r)) (0, 0) 68 [some (.ref 0), none, some (.int v2), none, some (.int v4), some (.int v5), some (.int v6), some (.int v7), some (.int v8), none] [] (sx_w S r) := by
  intro n
  induction n with
  | zero =>
    intro v2 v4 v5 v6 v7 v8 S res hres
    cases hres
  | succ n ih =>
    intro v2 v4 v5 v6 v7 v8 S res hres
    rw [fx_X11_together_68] at hres
    refine am_iload (pc' := 70) dX11_together_68 rfl rfl ?_
    refine am_iload (pc' := 72) dX11_together_70 rfl rfl ?_
    refine am_icmp_gt (pc' := 75) 117 dX11_together_72 rfl rfl (fun hc9 => ?_) (fun hc9 => ?_)
    · rw [if_pos hc9] at hres
      refine am_iinc (pc' := 120) (ls' := [some (.ref 0), none, some (.int v2), none, some (.int v4), some (.int v5), some (.int v6), some (.int (v7 + (1 : Int32))), some (.int v8), none]) dX11_together_117 rfl (show v7 + Int32.ofInt 1 = (v7 + (1 : Int32)) from congrArg (fun z => v7 + z) kc_1) (Nat.le_of_ble_eq_true rfl) rfl rfl rfl ?_
      refine am_goto 45 dX11_together_120 rfl ?_
      refine am_weak (ls' := [some (.ref 0), none, some (.int v2), none, some (.int v4), some (.int v5), some (.int v6), some (.int (v7 + (1 : Int32))), none, none]) [false, false, false, false, false, false, false, false, true, false] rfl ?_
      exact hk45 _ _ _ _ _ _ _ hres
    · rw [if_neg hc9] at hres
      refine am_iload (pc' := 77) dX11_together_75 rfl rfl ?_
      refine am_cS (pc' := 80) (st' := [.int (fx_J6_bitCount_0f7a4 v8)]) [] [.int v8] dX11_together_77 cs_X11_197 (tx_J6_bitCount_0f7a4 (sx_w S r) v8 _ rfl) rfl rfl rfl rfl rfl rfl ?_
      refine am_iload (pc' := 82) dX11_together_80 rfl rfl ?_
      refine am_icmp_eq (pc' := 85) 88 dX11_together_82 rfl rfl (fun hc10 => ?_) (fun hc10 => ?_)
      · rw [if_pos hc10] at hres
        refine am_aload_n (pc' := 89) 0 dX11_together_88 rfl rfl rfl ?_
        refine am_iload (pc' := 91) dX11_together_89 rfl rfl ?_
        obtain ⟨q11, hq12, hres⟩ := am_bd_s hres
        refine am_cV (pc' := 94) (st' := [.int q11]) [] [.int v8] dX11_together_91 cs_X11_208 (tx_X11_mostOffered r v8 S _ hq12) rfl rfl rfl (sx_c0 S r) rfl rfl rfl rfl rfl ?_
        refine am_istore (pc' := 96) (ls' := [some (.ref 0), none, some (.int v2), none, some (.int v4), some (.int v5), some (.int v6), some (.int v7), some (.int v8), some (.int q11)]) dX11_together_94 (Nat.le_of_ble_eq_true rfl) rfl rfl rfl ?_
        refine am_iload (pc' := 98) dX11_together_96 rfl rfl ?_
        refine am_iload (pc' := 100) dX11_together_98 rfl rfl ?_
        refine am_icmp_le (pc' := 103) 111 dX11_together_100 rfl rfl (fun hc13 => ?_) (fun hc13 => ?_)
        · rw [if_pos hc13] at hres
          refine am_iinc (pc' := 114) (ls' := [some (.ref 0), none, some (.int v2), none, some (.int v4), some (.int v5), some (.int v6), some (.int v7), some (.int (v8 + (1 : Int32))), some (.int q11)]) dX11_together_111 rfl (show v8 + Int32.ofInt 1 = (v8 + (1 : Int32)) from congrArg (fun z => v8 + z) kc_1) (Nat.le_of_ble_eq_true rfl) rfl rfl rfl ?_
          refine am_goto 68 dX11_together_114 rfl ?_
          refine am_weak (ls' := [some (.ref 0), none, some (.int v2), none, some (.int v4), some (.int v5), some (.int v6), some (.int v7), some (.int (v8 + (1 : Int32))), none]) [false, false, false, false, false, false, false, false, false, true] rfl ?_
          exact ih _ _ _ _ _ _ _ _ hres
        · rw [if_neg hc13] at hres
          refine am_iload (pc' := 105) dX11_together_103 rfl rfl ?_
          refine am_istore (pc' := 107) (ls' := [some (.ref 0), none, some (.int v2), none, some (.int v4), some (.int q11), some (.int v6), some (.int v7), some (.int v8), some (.int q11)]) dX11_together_105 (Nat.le_of_ble_eq_true rfl) rfl rfl rfl ?_
          refine am_iload (pc' := 109) dX11_together_107 rfl rfl ?_
          refine am_istore (pc' := 111) (ls' := [some (.ref 0), none, some (.int v2), none, some (.int v4), some (.int q11), some (.int v8), some (.int v7), some (.int v8), some (.int q11)]) dX11_together_109 (Nat.le_of_ble_eq_true rfl) rfl rfl rfl ?_
          refine am_iinc (pc' := 114) (ls' := [some (.ref 0), none, some (.int v2), none, some (.int v4), some (.int q11), some (.int v8), some (.int v7), some (.int (v8 + (1 : Int32))), some (.int q11)]) dX11_together_111 rfl (show v8 + Int32.ofInt 1 = (v8 + (1 : Int32)) from congrArg (fun z => v8 + z) kc_1) (Nat.le_of_ble_eq_true rfl) rfl rfl rfl ?_
          refine am_goto 68 dX11_together_114 rfl ?_
          refine am_weak (ls' := [some (.ref 0), none, some (.int v2), none, some (.int v4), some (.int q11), some (.int v8), some (.int v7), some (.int (v8 + (1 : Int32))), none]) [false, false, false, false, false, false, false, false, false, true] rfl ?_
          exact ih _ _ _ _ _ _ _ _ hres
      · rw [if_neg hc10] at hres
        refine am_goto 111 dX11_together_85 rfl ?_
        refine am_iinc (pc' := 114) (ls' := [some (.ref 0), none, some (.int v2), none, some (.int v4), some (.int v5), some (.int v6), some (.int v7), some (.int (v8 + (1 : Int32))), none]) dX11_together_111 rfl (show v8 + Int32.ofInt 1 = (v8 + (1 : Int32)) from congrArg (fun z => v8 + z) kc_1) (Nat.le_of_ble_eq_true rfl) rfl rfl rfl ?_
        refine am_goto 68 dX11_together_114 rfl ?_
        exact ih _ _ _ _ _ _ _ _ hres

set_option maxRecDepth 100000 in
set_option maxHeartbeats 4000000 in
theorem wx_X11_together_45 (r : am_W) : ∀ (n : Nat) (v2 : Int32) (v4 : Int32) (v5 : Int32) (v6 : Int32) (v7 : Int32) (S : sx_T) (res : Int32 × sx_T) (hres : fx_X11_together_45 n v2 v4 v5 v6 v7 S = some res), am_G mX11_together (none, 8, 0, 0, (some (.int res.1)), (sx_w res.2 r)) (0, 0) 45 [some (.ref 0), none, some (.int v2), none, some (.int v4), some (.int v5), some (.int v6), some (.int v7), none, none] [] (sx_w S r) := by
  intro n
  induction n with
  | zero =>
    intro v2 v4 v5 v6 v7 S res hres
    cases hres
  | succ n ih =>
    intro v2 v4 v5 v6 v7 S res hres
    rw [fx_X11_together_45] at hres
    refine am_iload (pc' := 47) dX11_together_45 rfl rfl ?_
    refine am_aload_n (pc' := 48) 0 dX11_together_47 rfl rfl rfl ?_
    refine am_get (pc' := 51) (v := .ref 1) dX11_together_48 fl_X11_10 (sx_c0 S r) rfl rfl ?_
    refine am_get (pc' := 54) (v := .int (sx_now_viewers S)) dX11_together_51 fl_X11_120 (sx_c1 S r) rfl rfl ?_
    refine am_icmp_gt (pc' := 57) 123 dX11_together_54 rfl rfl (fun hc5 => ?_) (fun hc5 => ?_)
    · rw [if_pos hc5] at hres
      refine am_iload_n (pc' := 124) 2 dX11_together_123 rfl rfl rfl ?_
      refine am_if_ne (pc' := 127) 132 dX11_together_124 rfl rfl (fun hc6 => ?_) (fun hc6 => ?_)
      · rw [if_neg hc6] at hres
        refine am_iload (pc' := 134) dX11_together_132 rfl rfl ?_
        obtain rfl := Option.some.inj hres
        exact am_iret dX11_together_134 rfl rfl rfl
      · rw [if_pos hc6] at hres
        refine am_iload (pc' := 129) dX11_together_127 rfl rfl ?_
        refine am_goto 134 dX11_together_129 rfl ?_
        obtain rfl := Option.some.inj hres
        exact am_iret dX11_together_134 rfl rfl rfl
    · rw [if_neg hc5] at hres
      refine am_aload_n (pc' := 58) 0 dX11_together_57 rfl rfl rfl ?_
      refine am_iload (pc' := 60) dX11_together_58 rfl rfl ?_
      refine am_iload (pc' := 62) dX11_together_60 rfl rfl ?_
      obtain ⟨q7, hq8, hres⟩ := am_bd_s hres
      refine am_cV (pc' := 65) (st' := []) [] [.int v4, .int v7] dX11_together_62 cs_X11_202 (tx_X11_fillOffers r v4 v7 S _ hq8) rfl rfl rfl (sx_c0 S r) rfl rfl rfl rfl rfl ?_
      refine am_iconst (pc' := 66) (v := 1) dX11_together_65 kc_1 rfl ?_
      refine am_istore (pc' := 68) (ls' := [some (.ref 0), none, some (.int v2), none, some (.int v4), some (.int v5), some (.int v6), some (.int v7), some (.int (1 : Int32)), none]) dX11_together_66 (Nat.le_of_ble_eq_true rfl) rfl rfl rfl ?_
      exact wx_X11_together_68 r _ (fun a0 a1 a2 a3 a4 a5 => ih a0 a1 a2 a3 a4 a5) am_fu _ _ _ _ _ _ _ _ hres

set_option maxRecDepth 100000 in
set_option maxHeartbeats 4000000 in
theorem tx_X11_together (r : am_W) (a1 : Int32) (a2 : Int32) (S : sx_T) (res : Int32 × sx_T) (hres : fx_X11_together a1 a2 S = some res) : am_T mX11_together 8 0 0 [.ref 0, .int a1, .int a2] (sx_w S r) (some (.int res.1)) (sx_w res.2 r) := by
  refine am_meth (ls := [some (.ref 0), some (.int a1), some (.int a2), none, none, none, none, none, none, none]) (by decide +kernel) rfl (Nat.le_of_ble_eq_true rfl) (sx_len _ _ _) ?_
  rw [fx_X11_together] at hres
  refine am_aload_n (pc' := 1) 0 dX11_together_0 rfl rfl rfl ?_
  refine am_iload_n (pc' := 2) 1 dX11_together_1 rfl rfl rfl ?_
  obtain ⟨q1, hq2, hres⟩ := am_bd_s hres
  refine am_cV (pc' := 5) (st' := [.int q1.1]) [] [.int a1] dX11_together_2 cs_X11_176 (tx_X11_startTour r a1 S _ hq2) rfl rfl rfl (sx_c0 S r) rfl rfl rfl rfl rfl ?_
  refine am_istore_n (pc' := 6) (ls' := [some (.ref 0), some (.int a1), some (.int a2), some (.int q1.1), none, none, none, none, none, none]) 3 dX11_together_5 rfl (Nat.le_of_ble_eq_true rfl) rfl rfl rfl ?_
  refine am_iload_n (pc' := 7) 3 dX11_together_6 rfl rfl rfl ?_
  refine am_if_eq (pc' := 10) 12 dX11_together_7 rfl rfl (fun hc3 => ?_) (fun hc3 => ?_)
  · rw [if_pos hc3] at hres
    refine am_iload_n (pc' := 13) 2 dX11_together_12 rfl rfl rfl ?_
    refine am_iconst (pc' := 14) (v := 2) dX11_together_13 kc_2 rfl ?_
    refine am_cS (pc' := 17) (st' := [.int (fx_X11_within a2 (2 : Int32))]) [] [.int a2, .int (2 : Int32)] dX11_together_14 cs_X11_129 (tx_X11_within (sx_w q1.2 r) a2 (2 : Int32) _ rfl) rfl rfl rfl rfl rfl rfl ?_
    refine am_if_ne (pc' := 20) 23 dX11_together_17 rfl rfl (fun hc4 => ?_) (fun hc4 => ?_)
    · rw [if_neg hc4] at hres
      refine am_iconst (pc' := 24) (v := 1) dX11_together_23 kc_1 rfl ?_
      refine am_aload_n (pc' := 25) 0 dX11_together_24 rfl rfl rfl ?_
      refine am_get (pc' := 28) (v := .ref 1) dX11_together_25 fl_X11_10 (sx_c0 q1.2 r) rfl rfl ?_
      refine am_get (pc' := 31) (v := .int (sx_now_viewers q1.2)) dX11_together_28 fl_X11_120 (sx_c1 q1.2 r) rfl rfl ?_
      refine am_ishl (pc' := 32) dX11_together_31 rfl ?_
      refine am_iconst (pc' := 33) (v := 1) dX11_together_32 kc_1 rfl ?_
      refine am_isub (pc' := 34) dX11_together_33 rfl ?_
      refine am_istore (pc' := 36) (ls' := [some (.ref 0), some (.int a1), some (.int a2), some (.int q1.1), some (.int (((1 : Int32) <<< ((sx_now_viewers q1.2) &&& 31)) - (1 : Int32))), none, none, none, none, none]) dX11_together_34 (Nat.le_of_ble_eq_true rfl) rfl rfl rfl ?_
      refine am_iconst (pc' := 37) (v := 0) dX11_together_36 kc_0 rfl ?_
      refine am_istore (pc' := 39) (ls' := [some (.ref 0), some (.int a1), some (.int a2), some (.int q1.1), some (.int (((1 : Int32) <<< ((sx_now_viewers q1.2) &&& 31)) - (1 : Int32))), some (.int (0 : Int32)), none, none, none, none]) dX11_together_37 (Nat.le_of_ble_eq_true rfl) rfl rfl rfl ?_
      refine am_iconst (pc' := 40) (v := 0) dX11_together_39 kc_0 rfl ?_
      refine am_istore (pc' := 42) (ls' := [some (.ref 0), some (.int a1), some (.int a2), some (.int q1.1), some (.int (((1 : Int32) <<< ((sx_now_viewers q1.2) &&& 31)) - (1 : Int32))), some (.int (0 : Int32)), some (.int (0 : Int32)), none, none, none]) dX11_together_40 (Nat.le_of_ble_eq_true rfl) rfl rfl rfl ?_
      refine am_iconst (pc' := 43) (v := 1) dX11_together_42 kc_1 rfl ?_
      refine am_istore (pc' := 45) (ls' := [some (.ref 0), some (.int a1), some (.int a2), some (.int q1.1), some (.int (((1 : Int32) <<< ((sx_now_viewers q1.2) &&& 31)) - (1 : Int32))), some (.int (0 : Int32)), some (.int (0 : Int32)), some (.int (1 : Int32)), none, none]) dX11_together_43 (Nat.le_of_ble_eq_true rfl) rfl rfl rfl ?_
      refine am_weak (ls' := [some (.ref 0), none, some (.int a2), none, some (.int (((1 : Int32) <<< ((sx_now_viewers q1.2) &&& 31)) - (1 : Int32))), some (.int (0 : Int32)), some (.int (0 : Int32)), some (.int (1 : Int32)), none, none]) [false, true, false, true, false, false, false, false, false, false] rfl ?_
      exact wx_X11_together_45 r am_fu _ _ _ _ _ _ _ hres
    · rw [if_pos hc4] at hres
      refine am_bipush (pc' := 22) (v := (-7)) dX11_together_20 kb_m7 rfl ?_
      obtain rfl := Option.some.inj hres
      exact am_iret dX11_together_22 rfl rfl rfl
  · rw [if_neg hc3] at hres
    refine am_iload_n (pc' := 11) 3 dX11_together_10 rfl rfl rfl ?_
    obtain rfl := Option.some.inj hres
    exact am_iret dX11_together_11 rfl rfl rfl
set_option maxRecDepth 100000 in
set_option maxHeartbeats 4000000 in
theorem tx_X11_told (r : am_W) (a1 : Int32) (a2 : Int32) (S : sx_T) (res : Int32) (hres : fx_X11_told a1 a2 S = res) : am_T mX11_told 1 0 0 [.ref 0, .int a1, .int a2] (sx_w S r) (some (.int res)) (sx_w S r) := by
  refine am_meth (ls := [some (.ref 0), some (.int a1), some (.int a2)]) (by decide +kernel) rfl (Nat.le_of_ble_eq_true rfl) (sx_len _ _ _) ?_
  rw [fx_X11_told] at hres
  refine am_iload_n (pc' := 1) 1 dX11_told_0 rfl rfl rfl ?_
  refine am_bipush (pc' := 3) (v := 6) dX11_told_1 kb_6 rfl ?_
  refine am_cS (pc' := 6) (st' := [.int (fx_X11_within a1 (6 : Int32))]) [] [.int a1, .int (6 : Int32)] dX11_told_3 cs_X11_129 (tx_X11_within (sx_w S r) a1 (6 : Int32) _ rfl) rfl rfl rfl rfl rfl rfl ?_
  refine am_if_ne (pc' := 9) 12 dX11_told_6 rfl rfl (fun hc1 => ?_) (fun hc1 => ?_)
  · rw [if_neg hc1] at hres
    refine am_iload_n (pc' := 13) 2 dX11_told_12 rfl rfl rfl ?_
    refine am_iconst (pc' := 14) (v := 2) dX11_told_13 kc_2 rfl ?_
    refine am_cS (pc' := 17) (st' := [.int (fx_X11_within a2 (2 : Int32))]) [] [.int a2, .int (2 : Int32)] dX11_told_14 cs_X11_129 (tx_X11_within (sx_w S r) a2 (2 : Int32) _ rfl) rfl rfl rfl rfl rfl rfl ?_
    refine am_if_ne (pc' := 20) 23 dX11_told_17 rfl rfl (fun hc2 => ?_) (fun hc2 => ?_)
    · rw [if_neg hc2] at hres
      refine am_iload_n (pc' := 24) 2 dX11_told_23 rfl rfl rfl ?_
      refine am_if_ne (pc' := 27) 37 dX11_told_24 rfl rfl (fun hc3 => ?_) (fun hc3 => ?_)
      · rw [if_neg hc3] at hres
        refine am_aload_n (pc' := 38) 0 dX11_told_37 rfl rfl rfl ?_
        refine am_get (pc' := 41) (v := .ref 1) dX11_told_38 fl_X11_10 (sx_c0 S r) rfl rfl ?_
        refine am_get (pc' := 44) (v := .ref 3) dX11_told_41 fl_X11_136 (sx_c1 S r) rfl rfl ?_
        refine am_iload_n (pc' := 45) 1 dX11_told_44 rfl rfl rfl ?_
        refine am_cS (pc' := 48) (st' := [.int (am_rd 6 (sx_now_damp S) a1)]) [] [.ref 3, .int a1] dX11_told_45 cs_X11_139 (tx_at (f := (sx_now_damp S)) (sx_c3 S r) rfl a1) rfl rfl rfl rfl rfl rfl ?_
        subst hres
        exact am_iret dX11_told_48 rfl rfl rfl
      · rw [if_pos hc3] at hres
        refine am_aload_n (pc' := 28) 0 dX11_told_27 rfl rfl rfl ?_
        refine am_get (pc' := 31) (v := .ref 1) dX11_told_28 fl_X11_10 (sx_c0 S r) rfl rfl ?_
        refine am_get (pc' := 34) (v := .ref 2) dX11_told_31 fl_X11_133 (sx_c1 S r) rfl rfl ?_
        refine am_goto 44 dX11_told_34 rfl ?_
        refine am_iload_n (pc' := 45) 1 dX11_told_44 rfl rfl rfl ?_
        refine am_cS (pc' := 48) (st' := [.int (am_rd 6 (sx_now_light S) a1)]) [] [.ref 2, .int a1] dX11_told_45 cs_X11_139 (tx_at (f := (sx_now_light S)) (sx_c2 S r) rfl a1) rfl rfl rfl rfl rfl rfl ?_
        subst hres
        exact am_iret dX11_told_48 rfl rfl rfl
    · rw [if_pos hc2] at hres
      refine am_bipush (pc' := 22) (v := (-7)) dX11_told_20 kb_m7 rfl ?_
      subst hres
      exact am_iret dX11_told_22 rfl rfl rfl
  · rw [if_pos hc1] at hres
    refine am_bipush (pc' := 11) (v := (-5)) dX11_told_9 kb_m5 rfl ?_
    subst hres
    exact am_iret dX11_told_11 rfl rfl rfl
set_option maxRecDepth 100000 in
set_option maxHeartbeats 4000000 in
theorem tx_X11_tour (r : am_W) (a1 : Int32) (a2 : Int32) (a3 : Int32) (a4 : Int32) (S : sx_T) (res : Int32 × sx_T) (hres : fx_X11_tour a1 a2 a3 a4 S = some res) : am_T mX11_tour 7 0 0 [.ref 0, .int a1, .int a2, .int a3, .int a4] (sx_w S r) (some (.int res.1)) (sx_w res.2 r) := by
  refine am_meth (ls := [some (.ref 0), some (.int a1), some (.int a2), some (.int a3), some (.int a4), none]) (by decide +kernel) rfl (Nat.le_of_ble_eq_true rfl) (sx_len _ _ _) ?_
  rw [fx_X11_tour] at hres
  refine am_aload_n (pc' := 1) 0 dX11_tour_0 rfl rfl rfl ?_
  refine am_iload_n (pc' := 2) 1 dX11_tour_1 rfl rfl rfl ?_
  obtain ⟨q1, hq2, hres⟩ := am_bd_s hres
  refine am_cV (pc' := 5) (st' := [.int q1.1]) [] [.int a1] dX11_tour_2 cs_X11_176 (tx_X11_startTour r a1 S _ hq2) rfl rfl rfl (sx_c0 S r) rfl rfl rfl rfl rfl ?_
  refine am_istore (pc' := 7) (ls' := [some (.ref 0), some (.int a1), some (.int a2), some (.int a3), some (.int a4), some (.int q1.1)]) dX11_tour_5 (Nat.le_of_ble_eq_true rfl) rfl rfl rfl ?_
  refine am_iload (pc' := 9) dX11_tour_7 rfl rfl ?_
  refine am_if_eq (pc' := 12) 18 dX11_tour_9 rfl rfl (fun hc3 => ?_) (fun hc3 => ?_)
  · rw [if_pos hc3] at hres
    refine am_aload_n (pc' := 19) 0 dX11_tour_18 rfl rfl rfl ?_
    refine am_iload_n (pc' := 20) 2 dX11_tour_19 rfl rfl rfl ?_
    refine am_cV (pc' := 23) (st' := [.int (fx_X11_isViewer a2 q1.2)]) [] [.int a2] dX11_tour_20 cs_X11_151 (tx_X11_isViewer r a2 q1.2 _ rfl) rfl rfl rfl (sx_c0 q1.2 r) rfl rfl rfl rfl rfl ?_
    refine am_if_eq (pc' := 26) 42 dX11_tour_23 rfl rfl (fun hc4 => ?_) (fun hc4 => ?_)
    · rw [if_pos hc4] at hres
      refine am_ldc (pc' := 44) dX11_tour_42 ck_X11_181 rfl ?_
      obtain rfl := Option.some.inj hres
      exact am_iret dX11_tour_44 rfl rfl rfl
    · rw [if_neg hc4] at hres
      refine am_iload_n (pc' := 27) 3 dX11_tour_26 rfl rfl rfl ?_
      refine am_cS (pc' := 30) (st' := [.int (fx_X11_isCrowd a3)]) [] [.int a3] dX11_tour_27 cs_X11_154 (tx_X11_isCrowd (sx_w q1.2 r) a3 _ rfl) rfl rfl rfl rfl rfl rfl ?_
      refine am_if_eq (pc' := 33) 42 dX11_tour_30 rfl rfl (fun hc5 => ?_) (fun hc5 => ?_)
      · rw [if_pos hc5] at hres
        refine am_ldc (pc' := 44) dX11_tour_42 ck_X11_181 rfl ?_
        obtain rfl := Option.some.inj hres
        exact am_iret dX11_tour_44 rfl rfl rfl
      · rw [if_neg hc5] at hres
        refine am_iload (pc' := 35) dX11_tour_33 rfl rfl ?_
        refine am_iconst (pc' := 36) (v := 3) dX11_tour_35 kc_3 rfl ?_
        refine am_cS (pc' := 39) (st' := [.int (fx_X11_within a4 (3 : Int32))]) [] [.int a4, .int (3 : Int32)] dX11_tour_36 cs_X11_129 (tx_X11_within (sx_w q1.2 r) a4 (3 : Int32) _ rfl) rfl rfl rfl rfl rfl rfl ?_
        refine am_if_ne (pc' := 42) 45 dX11_tour_39 rfl rfl (fun hc6 => ?_) (fun hc6 => ?_)
        · rw [if_neg hc6] at hres
          refine am_aload_n (pc' := 46) 0 dX11_tour_45 rfl rfl rfl ?_
          refine am_iload_n (pc' := 47) 2 dX11_tour_46 rfl rfl rfl ?_
          refine am_iload_n (pc' := 48) 3 dX11_tour_47 rfl rfl rfl ?_
          obtain ⟨q7, hq8, hres⟩ := am_let_s hres
          refine am_cV (pc' := 51) (st' := []) [] [.int a2, .int a3] dX11_tour_48 cs_X11_161 (tx_X11_letCome r a2 a3 q1.2 _ hq8) rfl rfl rfl (sx_c0 q1.2 r) rfl rfl rfl rfl rfl ?_
          refine am_iload (pc' := 53) dX11_tour_51 rfl rfl ?_
          refine am_if_ne (pc' := 56) 64 dX11_tour_53 rfl rfl (fun hc9 => ?_) (fun hc9 => ?_)
          · rw [if_neg hc9] at hres
            refine am_iload (pc' := 66) dX11_tour_64 rfl rfl ?_
            refine am_iconst (pc' := 67) (v := 1) dX11_tour_66 kc_1 rfl ?_
            refine am_icmp_ne (pc' := 70) 78 dX11_tour_67 rfl rfl (fun hc10 => ?_) (fun hc10 => ?_)
            · rw [if_neg hc10] at hres
              refine am_aload_n (pc' := 79) 0 dX11_tour_78 rfl rfl rfl ?_
              refine am_get (pc' := 82) (v := .int (sx_wayLength q7)) dX11_tour_79 fl_X11_188 (sx_c0 q7 r) rfl rfl ?_
              refine am_if_le (pc' := 85) 108 dX11_tour_82 rfl rfl (fun hc11 => ?_) (fun hc11 => ?_)
              · rw [if_pos hc11] at hres
                refine am_iconst (pc' := 109) (v := 0) dX11_tour_108 kc_0 rfl ?_
                obtain rfl := Option.some.inj hres
                exact am_iret dX11_tour_109 rfl rfl rfl
              · rw [if_neg hc11] at hres
                refine am_aload_n (pc' := 86) 0 dX11_tour_85 rfl rfl rfl ?_
                refine am_get (pc' := 89) (v := .ref 34) dX11_tour_86 fl_X11_78 (sx_c0 q7 r) rfl rfl ?_
                refine am_aload_n (pc' := 90) 0 dX11_tour_89 rfl rfl rfl ?_
                refine am_get (pc' := 93) (v := .ref 42) dX11_tour_90 fl_X11_85 (sx_c0 q7 r) rfl rfl ?_
                refine am_aload_n (pc' := 94) 0 dX11_tour_93 rfl rfl rfl ?_
                refine am_get (pc' := 97) (v := .int (sx_wayLength q7)) dX11_tour_94 fl_X11_188 (sx_c0 q7 r) rfl rfl ?_
                refine am_iconst (pc' := 98) (v := 1) dX11_tour_97 kc_1 rfl ?_
                refine am_isub (pc' := 99) dX11_tour_98 rfl ?_
                refine am_cS (pc' := 102) (st' := [.int (am_rd 6 (sx_way q7) ((sx_wayLength q7) - (1 : Int32))), .ref 34]) [.ref 34] [.ref 42, .int ((sx_wayLength q7) - (1 : Int32))] dX11_tour_99 cs_X11_139 (tx_at (f := (sx_way q7)) (sx_c42 q7 r) rfl ((sx_wayLength q7) - (1 : Int32))) rfl rfl rfl rfl rfl rfl ?_
                obtain ⟨q12, hq13, hres⟩ := am_bd_s hres
                refine am_cV (pc' := 105) (st' := [.int q12.1]) [] [.int (am_rd 6 (sx_way q7) ((sx_wayLength q7) - (1 : Int32)))] dX11_tour_102 cs_X11_191 (tx_X10_liked r (am_rd 6 (sx_way q7) ((sx_wayLength q7) - (1 : Int32))) q7 _ hq13) rfl rfl rfl (sx_c34 q7 r) rfl rfl rfl rfl rfl ?_
                refine am_goto 109 dX11_tour_105 rfl ?_
                obtain rfl := Option.some.inj hres
                exact am_iret dX11_tour_109 rfl rfl rfl
            · rw [if_pos hc10] at hres
              refine am_aload_n (pc' := 71) 0 dX11_tour_70 rfl rfl rfl ?_
              refine am_get (pc' := 74) (v := .ref 34) dX11_tour_71 fl_X11_78 (sx_c0 q7 r) rfl rfl ?_
              obtain ⟨q14, hq15, hres⟩ := am_bd_s hres
              refine am_cV (pc' := 77) (st' := [.int q14.1]) [] [] dX11_tour_74 cs_X11_185 (tx_X10_offer r q7 _ hq15) rfl rfl rfl (sx_c34 q7 r) rfl rfl rfl rfl rfl ?_
              obtain rfl := Option.some.inj hres
              exact am_iret dX11_tour_77 rfl rfl rfl
          · rw [if_pos hc9] at hres
            refine am_aload_n (pc' := 57) 0 dX11_tour_56 rfl rfl rfl ?_
            refine am_get (pc' := 60) (v := .ref 34) dX11_tour_57 fl_X11_78 (sx_c0 q7 r) rfl rfl ?_
            obtain ⟨q16, hq17, hres⟩ := am_bd_s hres
            refine am_cV (pc' := 63) (st' := [.int q16.1]) [] [] dX11_tour_60 cs_X11_182 (tx_X10_mind r q7 _ hq17) rfl rfl rfl (sx_c34 q7 r) rfl rfl rfl rfl rfl ?_
            obtain rfl := Option.some.inj hres
            exact am_iret dX11_tour_63 rfl rfl rfl
        · rw [if_pos hc6] at hres
          refine am_ldc (pc' := 44) dX11_tour_42 ck_X11_181 rfl ?_
          obtain rfl := Option.some.inj hres
          exact am_iret dX11_tour_44 rfl rfl rfl
  · rw [if_neg hc3] at hres
    refine am_ldc (pc' := 14) dX11_tour_12 ck_X11_180 rfl ?_
    refine am_iload (pc' := 16) dX11_tour_14 rfl rfl ?_
    refine am_iadd (pc' := 17) dX11_tour_16 rfl ?_
    obtain rfl := Option.some.inj hres
    exact am_iret dX11_tour_17 rfl rfl rfl
set_option maxRecDepth 100000 in
set_option maxHeartbeats 4000000 in
theorem tx_X11_viewer (r : am_W) (a1 : Int32) (a2 : Int32) (S : sx_T) (res : Int32 × sx_T) (hres : fx_X11_viewer a1 a2 S = res) : am_T mX11_viewer 1 0 0 [.ref 0, .int a1, .int a2] (sx_w S r) (some (.int res.1)) (sx_w res.2 r) := by
  refine am_meth (ls := [some (.ref 0), some (.int a1), some (.int a2), none]) (by decide +kernel) rfl (Nat.le_of_ble_eq_true rfl) (sx_len _ _ _) ?_
  rw [fx_X11_viewer] at hres
  refine am_iload_n (pc' := 1) 1 dX11_viewer_0 rfl rfl rfl ?_
  refine am_bipush (pc' := 3) (v := 60) dX11_viewer_1 kb_60 rfl ?_
  refine am_cS (pc' := 6) (st' := [.int (fx_X11_within a1 (60 : Int32))]) [] [.int a1, .int (60 : Int32)] dX11_viewer_3 cs_X11_129 (tx_X11_within (sx_w S r) a1 (60 : Int32) _ rfl) rfl rfl rfl rfl rfl rfl ?_
  refine am_if_eq (pc' := 9) 18 dX11_viewer_6 rfl rfl (fun hc1 => ?_) (fun hc1 => ?_)
  · rw [if_pos hc1] at hres
    refine am_bipush (pc' := 20) (v := (-2)) dX11_viewer_18 kb_m2 rfl ?_
    subst hres
    exact am_iret dX11_viewer_20 rfl rfl rfl
  · rw [if_neg hc1] at hres
    refine am_iload_n (pc' := 10) 2 dX11_viewer_9 rfl rfl rfl ?_
    refine am_ldc (pc' := 12) dX11_viewer_10 ck_X11_169 rfl ?_
    refine am_cS (pc' := 15) (st' := [.int (fx_X11_within a2 (100000 : Int32))]) [] [.int a2, .int (100000 : Int32)] dX11_viewer_12 cs_X11_129 (tx_X11_within (sx_w S r) a2 (100000 : Int32) _ rfl) rfl rfl rfl rfl rfl rfl ?_
    refine am_if_ne (pc' := 18) 21 dX11_viewer_15 rfl rfl (fun hc2 => ?_) (fun hc2 => ?_)
    · rw [if_neg hc2] at hres
      refine am_aload_n (pc' := 22) 0 dX11_viewer_21 rfl rfl rfl ?_
      refine am_get (pc' := 25) (v := .ref 1) dX11_viewer_22 fl_X11_10 (sx_c0 S r) rfl rfl ?_
      refine am_get (pc' := 28) (v := .int (sx_now_viewers S)) dX11_viewer_25 fl_X11_120 (sx_c1 S r) rfl rfl ?_
      refine am_istore_n (pc' := 29) (ls' := [some (.ref 0), some (.int a1), some (.int a2), some (.int (sx_now_viewers S))]) 3 dX11_viewer_28 rfl (Nat.le_of_ble_eq_true rfl) rfl rfl rfl ?_
      refine am_iload_n (pc' := 30) 3 dX11_viewer_29 rfl rfl rfl ?_
      refine am_bipush (pc' := 32) (v := 8) dX11_viewer_30 kb_8 rfl ?_
      refine am_icmp_lt (pc' := 35) 38 dX11_viewer_32 rfl rfl (fun hc3 => ?_) (fun hc3 => ?_)
      · rw [if_pos hc3] at hres
        refine am_aload_n (pc' := 39) 0 dX11_viewer_38 rfl rfl rfl ?_
        refine am_get (pc' := 42) (v := .ref 19) dX11_viewer_39 fl_X11_45 (sx_c0 S r) rfl rfl ?_
        refine am_iload_n (pc' := 43) 3 dX11_viewer_42 rfl rfl rfl ?_
        refine am_iload_n (pc' := 44) 1 dX11_viewer_43 rfl rfl rfl ?_
        refine am_bipush (pc' := 46) (v := 10) dX11_viewer_44 kb_10 rfl ?_
        refine am_idiv (pc' := 47) dX11_viewer_46 (by decide) rfl ?_
        refine am_cS (pc' := 50) (st' := []) [] [.ref 19, .int (sx_now_viewers S), .int (a1 / (10 : Int32))] dX11_viewer_47 cs_X11_143 (tx_set (f := (sx_kindOf S)) (w1 := (sx_w (ux_kindOf S (am_up 8 (sx_kindOf S) (sx_now_viewers S) (a1 / (10 : Int32)))) r)) (sx_c19 S r) rfl (sx_now_viewers S) (a1 / (10 : Int32)) (sx_p_kindOf S r _)) rfl rfl rfl rfl rfl rfl ?_
        refine am_aload_n (pc' := 51) 0 dX11_viewer_50 rfl rfl rfl ?_
        refine am_get (pc' := 54) (v := .ref 20) dX11_viewer_51 fl_X11_49 (sx_c0 (ux_kindOf S (am_up 8 (sx_kindOf S) (sx_now_viewers S) (a1 / (10 : Int32)))) r) rfl rfl ?_
        refine am_iload_n (pc' := 55) 3 dX11_viewer_54 rfl rfl rfl ?_
        refine am_iload_n (pc' := 56) 1 dX11_viewer_55 rfl rfl rfl ?_
        refine am_bipush (pc' := 58) (v := 10) dX11_viewer_56 kb_10 rfl ?_
        refine am_irem (pc' := 59) dX11_viewer_58 (by decide) rfl ?_
        refine am_cS (pc' := 62) (st' := []) [] [.ref 20, .int (sx_now_viewers S), .int (a1 - a1 / (10 : Int32) * (10 : Int32))] dX11_viewer_59 cs_X11_143 (tx_set (f := (sx_moreOf S)) (w1 := (sx_w (ux_moreOf (ux_kindOf S (am_up 8 (sx_kindOf S) (sx_now_viewers S) (a1 / (10 : Int32)))) (am_up 8 (sx_moreOf S) (sx_now_viewers S) (a1 - a1 / (10 : Int32) * (10 : Int32)))) r)) (sx_c20 (ux_kindOf S (am_up 8 (sx_kindOf S) (sx_now_viewers S) (a1 / (10 : Int32)))) r) rfl (sx_now_viewers S) (a1 - a1 / (10 : Int32) * (10 : Int32)) (sx_p_moreOf (ux_kindOf S (am_up 8 (sx_kindOf S) (sx_now_viewers S) (a1 / (10 : Int32)))) r _)) rfl rfl rfl rfl rfl rfl ?_
        refine am_aload_n (pc' := 63) 0 dX11_viewer_62 rfl rfl rfl ?_
        refine am_get (pc' := 66) (v := .ref 1) dX11_viewer_63 fl_X11_10 (sx_c0 (ux_moreOf (ux_kindOf S (am_up 8 (sx_kindOf S) (sx_now_viewers S) (a1 / (10 : Int32)))) (am_up 8 (sx_moreOf S) (sx_now_viewers S) (a1 - a1 / (10 : Int32) * (10 : Int32)))) r) rfl rfl ?_
        refine am_get (pc' := 69) (v := .ref 4) dX11_viewer_66 fl_X11_170 (sx_c1 (ux_moreOf (ux_kindOf S (am_up 8 (sx_kindOf S) (sx_now_viewers S) (a1 / (10 : Int32)))) (am_up 8 (sx_moreOf S) (sx_now_viewers S) (a1 - a1 / (10 : Int32) * (10 : Int32)))) r) rfl rfl ?_
        refine am_iload_n (pc' := 70) 3 dX11_viewer_69 rfl rfl rfl ?_
        refine am_iload_n (pc' := 71) 2 dX11_viewer_70 rfl rfl rfl ?_
        refine am_bipush (pc' := 73) (v := 100) dX11_viewer_71 kb_100 rfl ?_
        refine am_idiv (pc' := 74) dX11_viewer_73 (by decide) rfl ?_
        refine am_cS (pc' := 77) (st' := []) [] [.ref 4, .int (sx_now_viewers S), .int (a2 / (100 : Int32))] dX11_viewer_74 cs_X11_143 (tx_set (f := (sx_now_rich S)) (w1 := (sx_w (ux_now_rich (ux_moreOf (ux_kindOf S (am_up 8 (sx_kindOf S) (sx_now_viewers S) (a1 / (10 : Int32)))) (am_up 8 (sx_moreOf S) (sx_now_viewers S) (a1 - a1 / (10 : Int32) * (10 : Int32)))) (am_up 8 (sx_now_rich S) (sx_now_viewers S) (a2 / (100 : Int32)))) r)) (sx_c4 (ux_moreOf (ux_kindOf S (am_up 8 (sx_kindOf S) (sx_now_viewers S) (a1 / (10 : Int32)))) (am_up 8 (sx_moreOf S) (sx_now_viewers S) (a1 - a1 / (10 : Int32) * (10 : Int32)))) r) rfl (sx_now_viewers S) (a2 / (100 : Int32)) (sx_p_now_rich (ux_moreOf (ux_kindOf S (am_up 8 (sx_kindOf S) (sx_now_viewers S) (a1 / (10 : Int32)))) (am_up 8 (sx_moreOf S) (sx_now_viewers S) (a1 - a1 / (10 : Int32) * (10 : Int32)))) r _)) rfl rfl rfl rfl rfl rfl ?_
        refine am_aload_n (pc' := 78) 0 dX11_viewer_77 rfl rfl rfl ?_
        refine am_get (pc' := 81) (v := .ref 1) dX11_viewer_78 fl_X11_10 (sx_c0 (ux_now_rich (ux_moreOf (ux_kindOf S (am_up 8 (sx_kindOf S) (sx_now_viewers S) (a1 / (10 : Int32)))) (am_up 8 (sx_moreOf S) (sx_now_viewers S) (a1 - a1 / (10 : Int32) * (10 : Int32)))) (am_up 8 (sx_now_rich S) (sx_now_viewers S) (a2 / (100 : Int32)))) r) rfl rfl ?_
        refine am_get (pc' := 84) (v := .ref 5) dX11_viewer_81 fl_X11_173 (sx_c1 (ux_now_rich (ux_moreOf (ux_kindOf S (am_up 8 (sx_kindOf S) (sx_now_viewers S) (a1 / (10 : Int32)))) (am_up 8 (sx_moreOf S) (sx_now_viewers S) (a1 - a1 / (10 : Int32) * (10 : Int32)))) (am_up 8 (sx_now_rich S) (sx_now_viewers S) (a2 / (100 : Int32)))) r) rfl rfl ?_
        refine am_iload_n (pc' := 85) 3 dX11_viewer_84 rfl rfl rfl ?_
        refine am_iload_n (pc' := 86) 2 dX11_viewer_85 rfl rfl rfl ?_
        refine am_bipush (pc' := 88) (v := 100) dX11_viewer_86 kb_100 rfl ?_
        refine am_irem (pc' := 89) dX11_viewer_88 (by decide) rfl ?_
        refine am_cS (pc' := 92) (st' := []) [] [.ref 5, .int (sx_now_viewers S), .int (a2 - a2 / (100 : Int32) * (100 : Int32))] dX11_viewer_89 cs_X11_143 (tx_set (f := (sx_now_quiet S)) (w1 := (sx_w (ux_now_quiet (ux_now_rich (ux_moreOf (ux_kindOf S (am_up 8 (sx_kindOf S) (sx_now_viewers S) (a1 / (10 : Int32)))) (am_up 8 (sx_moreOf S) (sx_now_viewers S) (a1 - a1 / (10 : Int32) * (10 : Int32)))) (am_up 8 (sx_now_rich S) (sx_now_viewers S) (a2 / (100 : Int32)))) (am_up 8 (sx_now_quiet S) (sx_now_viewers S) (a2 - a2 / (100 : Int32) * (100 : Int32)))) r)) (sx_c5 (ux_now_rich (ux_moreOf (ux_kindOf S (am_up 8 (sx_kindOf S) (sx_now_viewers S) (a1 / (10 : Int32)))) (am_up 8 (sx_moreOf S) (sx_now_viewers S) (a1 - a1 / (10 : Int32) * (10 : Int32)))) (am_up 8 (sx_now_rich S) (sx_now_viewers S) (a2 / (100 : Int32)))) r) rfl (sx_now_viewers S) (a2 - a2 / (100 : Int32) * (100 : Int32)) (sx_p_now_quiet (ux_now_rich (ux_moreOf (ux_kindOf S (am_up 8 (sx_kindOf S) (sx_now_viewers S) (a1 / (10 : Int32)))) (am_up 8 (sx_moreOf S) (sx_now_viewers S) (a1 - a1 / (10 : Int32) * (10 : Int32)))) (am_up 8 (sx_now_rich S) (sx_now_viewers S) (a2 / (100 : Int32)))) r _)) rfl rfl rfl rfl rfl rfl ?_
        refine am_aload_n (pc' := 93) 0 dX11_viewer_92 rfl rfl rfl ?_
        refine am_get (pc' := 96) (v := .ref 1) dX11_viewer_93 fl_X11_10 (sx_c0 (ux_now_quiet (ux_now_rich (ux_moreOf (ux_kindOf S (am_up 8 (sx_kindOf S) (sx_now_viewers S) (a1 / (10 : Int32)))) (am_up 8 (sx_moreOf S) (sx_now_viewers S) (a1 - a1 / (10 : Int32) * (10 : Int32)))) (am_up 8 (sx_now_rich S) (sx_now_viewers S) (a2 / (100 : Int32)))) (am_up 8 (sx_now_quiet S) (sx_now_viewers S) (a2 - a2 / (100 : Int32) * (100 : Int32)))) r) rfl rfl ?_
        refine am_iload_n (pc' := 97) 3 dX11_viewer_96 rfl rfl rfl ?_
        refine am_iconst (pc' := 98) (v := 1) dX11_viewer_97 kc_1 rfl ?_
        refine am_iadd (pc' := 99) dX11_viewer_98 rfl ?_
        refine am_put (pc' := 102) (ws' := (sx_w (ux_now_viewers (ux_now_quiet (ux_now_rich (ux_moreOf (ux_kindOf S (am_up 8 (sx_kindOf S) (sx_now_viewers S) (a1 / (10 : Int32)))) (am_up 8 (sx_moreOf S) (sx_now_viewers S) (a1 - a1 / (10 : Int32) * (10 : Int32)))) (am_up 8 (sx_now_rich S) (sx_now_viewers S) (a2 / (100 : Int32)))) (am_up 8 (sx_now_quiet S) (sx_now_viewers S) (a2 - a2 / (100 : Int32) * (100 : Int32)))) ((sx_now_viewers S) + (1 : Int32))) r)) (v := .int ((sx_now_viewers S) + (1 : Int32))) dX11_viewer_99 fp_X11_120 (sx_c1 (ux_now_quiet (ux_now_rich (ux_moreOf (ux_kindOf S (am_up 8 (sx_kindOf S) (sx_now_viewers S) (a1 / (10 : Int32)))) (am_up 8 (sx_moreOf S) (sx_now_viewers S) (a1 - a1 / (10 : Int32) * (10 : Int32)))) (am_up 8 (sx_now_rich S) (sx_now_viewers S) (a2 / (100 : Int32)))) (am_up 8 (sx_now_quiet S) (sx_now_viewers S) (a2 - a2 / (100 : Int32) * (100 : Int32)))) r) (fun _ => ⟨rfl, rfl⟩) (Nat.le_of_ble_eq_true rfl) (sx_p_now_viewers (ux_now_quiet (ux_now_rich (ux_moreOf (ux_kindOf S (am_up 8 (sx_kindOf S) (sx_now_viewers S) (a1 / (10 : Int32)))) (am_up 8 (sx_moreOf S) (sx_now_viewers S) (a1 - a1 / (10 : Int32) * (10 : Int32)))) (am_up 8 (sx_now_rich S) (sx_now_viewers S) (a2 / (100 : Int32)))) (am_up 8 (sx_now_quiet S) (sx_now_viewers S) (a2 - a2 / (100 : Int32) * (100 : Int32)))) r _) rfl ?_
        refine am_iload_n (pc' := 103) 3 dX11_viewer_102 rfl rfl rfl ?_
        subst hres
        exact am_iret dX11_viewer_103 rfl rfl rfl
      · rw [if_neg hc3] at hres
        refine am_bipush (pc' := 37) (v := (-4)) dX11_viewer_35 kb_m4 rfl ?_
        subst hres
        exact am_iret dX11_viewer_37 rfl rfl rfl
    · rw [if_pos hc2] at hres
      refine am_bipush (pc' := 20) (v := (-2)) dX11_viewer_18 kb_m2 rfl ?_
      subst hres
      exact am_iret dX11_viewer_20 rfl rfl rfl
set_option maxRecDepth 100000 in
set_option maxHeartbeats 4000000 in
theorem wx_X11_viewersBy_66 (r : am_W) : ∀ (n : Nat) (v1 : Int32) (v3 : Int32) (v4 : Int32) (v5 : Int32) (v6 : Int32) (S : sx_T) (res : Int32 × sx_T) (hres : fx_X11_viewersBy_66 n v1 v3 v4 v5 v6 S = some res), am_G mX11_viewersBy (none, 3, 0, 0, (some (.int res.1)), (sx_w res.2 r)) (0, 0) 66 [some (.ref 0), some (.int v1), none, some (.int v3), some (.int v4), some (.int v5), some (.int v6), none] [] (sx_w S r) := by
  intro n
  induction n with
  | zero =>
    intro v1 v3 v4 v5 v6 S res hres
    cases hres
  | succ n ih =>
    intro v1 v3 v4 v5 v6 S res hres
    rw [fx_X11_viewersBy_66] at hres
    refine am_iload (pc' := 68) dX11_viewersBy_66 rfl rfl ?_
    refine am_iload (pc' := 70) dX11_viewersBy_68 rfl rfl ?_
    refine am_icmp_ge (pc' := 73) 140 dX11_viewersBy_70 rfl rfl (fun hc7 => ?_) (fun hc7 => ?_)
    · rw [if_pos hc7] at hres
      refine am_iload (pc' := 142) dX11_viewersBy_140 rfl rfl ?_
      obtain rfl := Option.some.inj hres
      exact am_iret dX11_viewersBy_142 rfl rfl rfl
    · rw [if_neg hc7] at hres
      refine am_aload_n (pc' := 74) 0 dX11_viewersBy_73 rfl rfl rfl ?_
      refine am_get (pc' := 77) (v := .ref 30) dX11_viewersBy_74 fl_X11_71 (sx_c0 S r) rfl rfl ?_
      refine am_iload_n (pc' := 78) 1 dX11_viewersBy_77 rfl rfl rfl ?_
      refine am_iload_n (pc' := 79) 3 dX11_viewersBy_78 rfl rfl rfl ?_
      refine am_iconst (pc' := 80) (v := 2) dX11_viewersBy_79 kc_2 rfl ?_
      refine am_iload (pc' := 82) dX11_viewersBy_80 rfl rfl ?_
      refine am_imul (pc' := 83) dX11_viewersBy_82 rfl ?_
      refine am_iconst (pc' := 84) (v := 2) dX11_viewersBy_83 kc_2 rfl ?_
      refine am_iadd (pc' := 85) dX11_viewersBy_84 rfl ?_
      refine am_cV (pc' := 88) (st' := [.int (fx_X5_has v1 v3 (((2 : Int32) * v6) + (2 : Int32)) S)]) [] [.int v1, .int v3, .int (((2 : Int32) * v6) + (2 : Int32))] dX11_viewersBy_85 cs_X11_300 (tx_X5_has r v1 v3 (((2 : Int32) * v6) + (2 : Int32)) S _ rfl) rfl rfl rfl (sx_c30 S r) rfl rfl rfl rfl rfl ?_
      refine am_if_ne (pc' := 91) 94 dX11_viewersBy_88 rfl rfl (fun hc8 => ?_) (fun hc8 => ?_)
      · rw [if_neg hc8] at hres
        refine am_iload_n (pc' := 95) 3 dX11_viewersBy_94 rfl rfl rfl ?_
        refine am_iconst (pc' := 96) (v := 2) dX11_viewersBy_95 kc_2 rfl ?_
        refine am_iload (pc' := 98) dX11_viewersBy_96 rfl rfl ?_
        refine am_imul (pc' := 99) dX11_viewersBy_98 rfl ?_
        refine am_iadd (pc' := 100) dX11_viewersBy_99 rfl ?_
        refine am_istore (pc' := 102) (ls' := [some (.ref 0), some (.int v1), none, some (.int v3), some (.int v4), some (.int v5), some (.int v6), some (.int (v3 + ((2 : Int32) * v6)))]) dX11_viewersBy_100 (Nat.le_of_ble_eq_true rfl) rfl rfl rfl ?_
        refine am_aload_n (pc' := 103) 0 dX11_viewersBy_102 rfl rfl rfl ?_
        refine am_aload_n (pc' := 104) 0 dX11_viewersBy_103 rfl rfl rfl ?_
        refine am_get (pc' := 107) (v := .ref 30) dX11_viewersBy_104 fl_X11_71 (sx_c0 S r) rfl rfl ?_
        refine am_iload_n (pc' := 108) 1 dX11_viewersBy_107 rfl rfl rfl ?_
        refine am_iload (pc' := 110) dX11_viewersBy_108 rfl rfl ?_
        refine am_cV (pc' := 113) (st' := [.int (fx_X5_read v1 (v3 + ((2 : Int32) * v6)) S), .ref 0]) [.ref 0] [.int v1, .int (v3 + ((2 : Int32) * v6))] dX11_viewersBy_110 cs_X11_279 (tx_X5_read r v1 (v3 + ((2 : Int32) * v6)) S _ rfl) rfl rfl rfl (sx_c30 S r) rfl rfl rfl rfl rfl ?_
        refine am_aload_n (pc' := 114) 0 dX11_viewersBy_113 rfl rfl rfl ?_
        refine am_get (pc' := 117) (v := .ref 30) dX11_viewersBy_114 fl_X11_71 (sx_c0 S r) rfl rfl ?_
        refine am_iload_n (pc' := 118) 1 dX11_viewersBy_117 rfl rfl rfl ?_
        refine am_iload (pc' := 120) dX11_viewersBy_118 rfl rfl ?_
        refine am_iconst (pc' := 121) (v := 1) dX11_viewersBy_120 kc_1 rfl ?_
        refine am_iadd (pc' := 122) dX11_viewersBy_121 rfl ?_
        refine am_cV (pc' := 125) (st' := [.int (fx_X5_read v1 ((v3 + ((2 : Int32) * v6)) + (1 : Int32)) S), .int (fx_X5_read v1 (v3 + ((2 : Int32) * v6)) S), .ref 0]) [.int (fx_X5_read v1 (v3 + ((2 : Int32) * v6)) S), .ref 0] [.int v1, .int ((v3 + ((2 : Int32) * v6)) + (1 : Int32))] dX11_viewersBy_122 cs_X11_279 (tx_X5_read r v1 ((v3 + ((2 : Int32) * v6)) + (1 : Int32)) S _ rfl) rfl rfl rfl (sx_c30 S r) rfl rfl rfl rfl rfl ?_
        obtain ⟨q9, hq10, hres⟩ := am_let_s hres
        refine am_cV (pc' := 128) (st' := [.int q9.1]) [] [.int (fx_X5_read v1 (v3 + ((2 : Int32) * v6)) S), .int (fx_X5_read v1 ((v3 + ((2 : Int32) * v6)) + (1 : Int32)) S)] dX11_viewersBy_125 cs_X11_308 (tx_X11_viewer r (fx_X5_read v1 (v3 + ((2 : Int32) * v6)) S) (fx_X5_read v1 ((v3 + ((2 : Int32) * v6)) + (1 : Int32)) S) S _ hq10) rfl rfl rfl (sx_c0 S r) rfl rfl rfl rfl rfl ?_
        refine am_if_lt (pc' := 131) 134 dX11_viewersBy_128 rfl rfl (fun hc11 => ?_) (fun hc11 => ?_)
        · rw [if_pos hc11] at hres
          refine am_iinc (pc' := 137) (ls' := [some (.ref 0), some (.int v1), none, some (.int v3), some (.int v4), some (.int v5), some (.int (v6 + (1 : Int32))), some (.int (v3 + ((2 : Int32) * v6)))]) dX11_viewersBy_134 rfl (show v6 + Int32.ofInt 1 = (v6 + (1 : Int32)) from congrArg (fun z => v6 + z) kc_1) (Nat.le_of_ble_eq_true rfl) rfl rfl rfl ?_
          refine am_goto 66 dX11_viewersBy_137 rfl ?_
          refine am_weak (ls' := [some (.ref 0), some (.int v1), none, some (.int v3), some (.int v4), some (.int v5), some (.int (v6 + (1 : Int32))), none]) [false, false, false, false, false, false, false, true] rfl ?_
          exact ih _ _ _ _ _ _ _ hres
        · rw [if_neg hc11] at hres
          refine am_iinc (pc' := 134) (ls' := [some (.ref 0), some (.int v1), none, some (.int v3), some (.int v4), some (.int (v5 + (1 : Int32))), some (.int v6), some (.int (v3 + ((2 : Int32) * v6)))]) dX11_viewersBy_131 rfl (show v5 + Int32.ofInt 1 = (v5 + (1 : Int32)) from congrArg (fun z => v5 + z) kc_1) (Nat.le_of_ble_eq_true rfl) rfl rfl rfl ?_
          refine am_iinc (pc' := 137) (ls' := [some (.ref 0), some (.int v1), none, some (.int v3), some (.int v4), some (.int (v5 + (1 : Int32))), some (.int (v6 + (1 : Int32))), some (.int (v3 + ((2 : Int32) * v6)))]) dX11_viewersBy_134 rfl (show v6 + Int32.ofInt 1 = (v6 + (1 : Int32)) from congrArg (fun z => v6 + z) kc_1) (Nat.le_of_ble_eq_true rfl) rfl rfl rfl ?_
          refine am_goto 66 dX11_viewersBy_137 rfl ?_
          refine am_weak (ls' := [some (.ref 0), some (.int v1), none, some (.int v3), some (.int v4), some (.int (v5 + (1 : Int32))), some (.int (v6 + (1 : Int32))), none]) [false, false, false, false, false, false, false, true] rfl ?_
          exact ih _ _ _ _ _ _ _ hres
      · rw [if_pos hc8] at hres
        refine am_bipush (pc' := 93) (v := (-12)) dX11_viewersBy_91 kb_m12 rfl ?_
        obtain rfl := Option.some.inj hres
        exact am_iret dX11_viewersBy_93 rfl rfl rfl

set_option maxRecDepth 100000 in
set_option maxHeartbeats 4000000 in
theorem tx_X11_viewersBy (r : am_W) (a1 : Int32) (a2 : Int32) (a3 : Int32) (a4 : Int32) (S : sx_T) (res : Int32 × sx_T) (hres : fx_X11_viewersBy a1 a2 a3 a4 S = some res) : am_T mX11_viewersBy 3 0 0 [.ref 0, .int a1, .int a2, .int a3, .int a4] (sx_w S r) (some (.int res.1)) (sx_w res.2 r) := by
  refine am_meth (ls := [some (.ref 0), some (.int a1), some (.int a2), some (.int a3), some (.int a4), none, none, none]) (by decide +kernel) rfl (Nat.le_of_ble_eq_true rfl) (sx_len _ _ _) ?_
  rw [fx_X11_viewersBy] at hres
  refine am_iload_n (pc' := 1) 1 dX11_viewersBy_0 rfl rfl rfl ?_
  refine am_iconst (pc' := 2) (v := 4) dX11_viewersBy_1 kc_4 rfl ?_
  refine am_cS (pc' := 5) (st' := [.int (fx_X11_within a1 (4 : Int32))]) [] [.int a1, .int (4 : Int32)] dX11_viewersBy_2 cs_X11_129 (tx_X11_within (sx_w S r) a1 (4 : Int32) _ rfl) rfl rfl rfl rfl rfl rfl ?_
  refine am_if_eq (pc' := 8) 28 dX11_viewersBy_5 rfl rfl (fun hc1 => ?_) (fun hc1 => ?_)
  · rw [if_pos hc1] at hres
    refine am_bipush (pc' := 30) (v := (-2)) dX11_viewersBy_28 kb_m2 rfl ?_
    obtain rfl := Option.some.inj hres
    exact am_iret dX11_viewersBy_30 rfl rfl rfl
  · rw [if_neg hc1] at hres
    refine am_iload_n (pc' := 9) 2 dX11_viewersBy_8 rfl rfl rfl ?_
    refine am_iconst (pc' := 10) (v := 3) dX11_viewersBy_9 kc_3 rfl ?_
    refine am_cS (pc' := 13) (st' := [.int (fx_X11_within a2 (3 : Int32))]) [] [.int a2, .int (3 : Int32)] dX11_viewersBy_10 cs_X11_129 (tx_X11_within (sx_w S r) a2 (3 : Int32) _ rfl) rfl rfl rfl rfl rfl rfl ?_
    refine am_if_eq (pc' := 16) 28 dX11_viewersBy_13 rfl rfl (fun hc2 => ?_) (fun hc2 => ?_)
    · rw [if_pos hc2] at hres
      refine am_bipush (pc' := 30) (v := (-2)) dX11_viewersBy_28 kb_m2 rfl ?_
      obtain rfl := Option.some.inj hres
      exact am_iret dX11_viewersBy_30 rfl rfl rfl
    · rw [if_neg hc2] at hres
      refine am_iload (pc' := 18) dX11_viewersBy_16 rfl rfl ?_
      refine am_if_lt (pc' := 21) 28 dX11_viewersBy_18 rfl rfl (fun hc3 => ?_) (fun hc3 => ?_)
      · rw [if_pos hc3] at hres
        refine am_bipush (pc' := 30) (v := (-2)) dX11_viewersBy_28 kb_m2 rfl ?_
        obtain rfl := Option.some.inj hres
        exact am_iret dX11_viewersBy_30 rfl rfl rfl
      · rw [if_neg hc3] at hres
        refine am_iload (pc' := 23) dX11_viewersBy_21 rfl rfl ?_
        refine am_bipush (pc' := 25) (v := 8) dX11_viewersBy_23 kb_8 rfl ?_
        refine am_icmp_le (pc' := 28) 31 dX11_viewersBy_25 rfl rfl (fun hc4 => ?_) (fun hc4 => ?_)
        · rw [if_pos hc4] at hres
          refine am_aload_n (pc' := 32) 0 dX11_viewersBy_31 rfl rfl rfl ?_
          refine am_get (pc' := 35) (v := .ref 30) dX11_viewersBy_32 fl_X11_71 (sx_c0 S r) rfl rfl ?_
          refine am_iload_n (pc' := 36) 1 dX11_viewersBy_35 rfl rfl rfl ?_
          refine am_cV (pc' := 39) (st' := [.int (fx_X5_isMissing a1 S)]) [] [.int a1] dX11_viewersBy_36 cs_X11_292 (tx_X5_isMissing r a1 S _ rfl) rfl rfl rfl (sx_c30 S r) rfl rfl rfl rfl rfl ?_
          refine am_if_eq (pc' := 42) 45 dX11_viewersBy_39 rfl rfl (fun hc5 => ?_) (fun hc5 => ?_)
          · rw [if_pos hc5] at hres
            refine am_aload_n (pc' := 46) 0 dX11_viewersBy_45 rfl rfl rfl ?_
            refine am_get (pc' := 49) (v := .ref 30) dX11_viewersBy_46 fl_X11_71 (sx_c0 S r) rfl rfl ?_
            refine am_iload_n (pc' := 50) 1 dX11_viewersBy_49 rfl rfl rfl ?_
            refine am_cV (pc' := 53) (st' := [.int (fx_X5_sort a1 S)]) [] [.int a1] dX11_viewersBy_50 cs_X11_297 (tx_X5_sort r a1 S _ rfl) rfl rfl rfl (sx_c30 S r) rfl rfl rfl rfl rfl ?_
            refine am_iload_n (pc' := 54) 2 dX11_viewersBy_53 rfl rfl rfl ?_
            refine am_icmp_eq (pc' := 57) 60 dX11_viewersBy_54 rfl rfl (fun hc6 => ?_) (fun hc6 => ?_)
            · rw [if_pos hc6] at hres
              refine am_iconst (pc' := 61) (v := 0) dX11_viewersBy_60 kc_0 rfl ?_
              refine am_istore (pc' := 63) (ls' := [some (.ref 0), some (.int a1), some (.int a2), some (.int a3), some (.int a4), some (.int (0 : Int32)), none, none]) dX11_viewersBy_61 (Nat.le_of_ble_eq_true rfl) rfl rfl rfl ?_
              refine am_iconst (pc' := 64) (v := 0) dX11_viewersBy_63 kc_0 rfl ?_
              refine am_istore (pc' := 66) (ls' := [some (.ref 0), some (.int a1), some (.int a2), some (.int a3), some (.int a4), some (.int (0 : Int32)), some (.int (0 : Int32)), none]) dX11_viewersBy_64 (Nat.le_of_ble_eq_true rfl) rfl rfl rfl ?_
              refine am_weak (ls' := [some (.ref 0), some (.int a1), none, some (.int a3), some (.int a4), some (.int (0 : Int32)), some (.int (0 : Int32)), none]) [false, false, true, false, false, false, false, false] rfl ?_
              exact wx_X11_viewersBy_66 r am_fu _ _ _ _ _ _ _ hres
            · rw [if_neg hc6] at hres
              refine am_bipush (pc' := 59) (v := (-13)) dX11_viewersBy_57 kb_m13 rfl ?_
              obtain rfl := Option.some.inj hres
              exact am_iret dX11_viewersBy_59 rfl rfl rfl
          · rw [if_neg hc5] at hres
            refine am_bipush (pc' := 44) (v := (-11)) dX11_viewersBy_42 kb_m11 rfl ?_
            obtain rfl := Option.some.inj hres
            exact am_iret dX11_viewersBy_44 rfl rfl rfl
        · rw [if_neg hc4] at hres
          refine am_bipush (pc' := 30) (v := (-2)) dX11_viewersBy_28 kb_m2 rfl ?_
          obtain rfl := Option.some.inj hres
          exact am_iret dX11_viewersBy_30 rfl rfl rfl
set_option maxRecDepth 100000 in
set_option maxHeartbeats 4000000 in
theorem wx_X11_waits_98 (r : am_W) : ∀ (n : Nat) (v2 : Int32) (v3 : Int32) (v4 : Int32) (v6 : Int32) (v7 : Int32) (v8 : Int32) (v9 : Int32) (v10 : Int32) (S : sx_T) (res : Int64 × sx_T) (hres : fx_X11_waits_98 n v2 v3 v4 v6 v7 v8 v9 v10 S = some res), am_G mX11_waits (none, 8, 0, 0, (some (.long res.1)), (sx_w res.2 r)) (0, 0) 98 [some (.ref 0), none, some (.int v2), some (.int v3), some (.int v4), none, some (.int v6), some (.int v7), some (.int v8), some (.int v9), some (.int v10)] [] (sx_w S r) := by
  intro n
  induction n with
  | zero =>
    intro v2 v3 v4 v6 v7 v8 v9 v10 S res hres
    cases hres
  | succ n ih =>
    intro v2 v3 v4 v6 v7 v8 v9 v10 S res hres
    rw [fx_X11_waits_98] at hres
    refine am_iload (pc' := 100) dX11_waits_98 rfl rfl ?_
    refine am_sipush (pc' := 103) (v := 720) dX11_waits_100 ks_720 rfl ?_
    refine am_icmp_ge (pc' := 106) 148 dX11_waits_103 rfl rfl (fun hc15 => ?_) (fun hc15 => ?_)
    · rw [if_pos hc15] at hres
      refine am_iload (pc' := 150) dX11_waits_148 rfl rfl ?_
      refine am_iload (pc' := 152) dX11_waits_150 rfl rfl ?_
      refine am_iload (pc' := 154) dX11_waits_152 rfl rfl ?_
      obtain ⟨q16, hq17, hres⟩ := am_bd_s hres
      refine am_cS (pc' := 157) (st' := [.long q16]) [] [.int v7, .int v8, .int v4] dX11_waits_154 cs_X11_241 (tx_X11_inLowestTerms (sx_w S r) v7 v8 v4 _ hq17) rfl rfl rfl rfl rfl rfl ?_
      obtain rfl := Option.some.inj hres
      exact am_lret dX11_waits_157 rfl rfl rfl
    · rw [if_neg hc15] at hres
      refine am_iload (pc' := 108) dX11_waits_106 rfl rfl ?_
      refine am_if_eq (pc' := 111) 148 dX11_waits_108 rfl rfl (fun hc18 => ?_) (fun hc18 => ?_)
      · rw [if_pos hc18] at hres
        refine am_iload (pc' := 150) dX11_waits_148 rfl rfl ?_
        refine am_iload (pc' := 152) dX11_waits_150 rfl rfl ?_
        refine am_iload (pc' := 154) dX11_waits_152 rfl rfl ?_
        obtain ⟨q19, hq20, hres⟩ := am_bd_s hres
        refine am_cS (pc' := 157) (st' := [.long q19]) [] [.int v7, .int v8, .int v4] dX11_waits_154 cs_X11_241 (tx_X11_inLowestTerms (sx_w S r) v7 v8 v4 _ hq20) rfl rfl rfl rfl rfl rfl ?_
        obtain rfl := Option.some.inj hres
        exact am_lret dX11_waits_157 rfl rfl rfl
      · rw [if_neg hc18] at hres
        refine am_aload_n (pc' := 112) 0 dX11_waits_111 rfl rfl rfl ?_
        refine am_get (pc' := 115) (v := .ref 44) dX11_waits_112 fl_X11_91 (sx_c0 S r) rfl rfl ?_
        refine am_aload_n (pc' := 116) 0 dX11_waits_115 rfl rfl rfl ?_
        refine am_iload_n (pc' := 117) 2 dX11_waits_116 rfl rfl rfl ?_
        refine am_iload_n (pc' := 118) 3 dX11_waits_117 rfl rfl rfl ?_
        obtain ⟨q21, hq22, hres⟩ := am_bd_s hres
        refine am_cV (pc' := 121) (st' := [.int q21, .ref 44]) [.ref 44] [.int v2, .int v3] dX11_waits_118 cs_X11_238 (tx_X11_takenOfOrder r v2 v3 S _ hq22) rfl rfl rfl (sx_c0 S r) rfl rfl rfl rfl rfl ?_
        refine am_cS (pc' := 124) (st' := [.int (am_rd 8 (sx_offered S) q21)]) [] [.ref 44, .int q21] dX11_waits_121 cs_X11_139 (tx_at (f := (sx_offered S)) (sx_c44 S r) rfl q21) rfl rfl rfl rfl rfl rfl ?_
        refine am_iload (pc' := 126) dX11_waits_124 rfl rfl ?_
        refine am_icmp_ne (pc' := 129) 132 dX11_waits_126 rfl rfl (fun hc23 => ?_) (fun hc23 => ?_)
        · rw [if_neg hc23] at hres
          refine am_iinc (pc' := 135) (ls' := [some (.ref 0), none, some (.int v2), some (.int v3), some (.int v4), none, some (.int v6), some (.int v7), some (.int (v8 + (1 : Int32))), some (.int v9), some (.int v10)]) dX11_waits_132 rfl (show v8 + Int32.ofInt 1 = (v8 + (1 : Int32)) from congrArg (fun z => v8 + z) kc_1) (Nat.le_of_ble_eq_true rfl) rfl rfl rfl ?_
          refine am_aload_n (pc' := 136) 0 dX11_waits_135 rfl rfl rfl ?_
          refine am_iload_n (pc' := 137) 2 dX11_waits_136 rfl rfl rfl ?_
          obtain ⟨q24, hq25, hres⟩ := am_bd_s hres
          refine am_cV (pc' := 140) (st' := [.int q24.1]) [] [.int v2] dX11_waits_137 cs_X11_224 (tx_X11_nextOrder r v2 S _ hq25) rfl rfl rfl (sx_c0 S r) rfl rfl rfl rfl rfl ?_
          refine am_istore (pc' := 142) (ls' := [some (.ref 0), none, some (.int v2), some (.int v3), some (.int v4), none, some (.int v6), some (.int v7), some (.int (v8 + (1 : Int32))), some (.int q24.1), some (.int v10)]) dX11_waits_140 (Nat.le_of_ble_eq_true rfl) rfl rfl rfl ?_
          refine am_iinc (pc' := 145) (ls' := [some (.ref 0), none, some (.int v2), some (.int v3), some (.int v4), none, some (.int v6), some (.int v7), some (.int (v8 + (1 : Int32))), some (.int q24.1), some (.int (v10 + (1 : Int32)))]) dX11_waits_142 rfl (show v10 + Int32.ofInt 1 = (v10 + (1 : Int32)) from congrArg (fun z => v10 + z) kc_1) (Nat.le_of_ble_eq_true rfl) rfl rfl rfl ?_
          refine am_goto 98 dX11_waits_145 rfl ?_
          exact ih _ _ _ _ _ _ _ _ _ _ hres
        · rw [if_pos hc23] at hres
          refine am_iinc (pc' := 132) (ls' := [some (.ref 0), none, some (.int v2), some (.int v3), some (.int v4), none, some (.int v6), some (.int (v7 + (1 : Int32))), some (.int v8), some (.int v9), some (.int v10)]) dX11_waits_129 rfl (show v7 + Int32.ofInt 1 = (v7 + (1 : Int32)) from congrArg (fun z => v7 + z) kc_1) (Nat.le_of_ble_eq_true rfl) rfl rfl rfl ?_
          refine am_iinc (pc' := 135) (ls' := [some (.ref 0), none, some (.int v2), some (.int v3), some (.int v4), none, some (.int v6), some (.int (v7 + (1 : Int32))), some (.int (v8 + (1 : Int32))), some (.int v9), some (.int v10)]) dX11_waits_132 rfl (show v8 + Int32.ofInt 1 = (v8 + (1 : Int32)) from congrArg (fun z => v8 + z) kc_1) (Nat.le_of_ble_eq_true rfl) rfl rfl rfl ?_
          refine am_aload_n (pc' := 136) 0 dX11_waits_135 rfl rfl rfl ?_
          refine am_iload_n (pc' := 137) 2 dX11_waits_136 rfl rfl rfl ?_
          obtain ⟨q26, hq27, hres⟩ := am_bd_s hres
          refine am_cV (pc' := 140) (st' := [.int q26.1]) [] [.int v2] dX11_waits_137 cs_X11_224 (tx_X11_nextOrder r v2 S _ hq27) rfl rfl rfl (sx_c0 S r) rfl rfl rfl rfl rfl ?_
          refine am_istore (pc' := 142) (ls' := [some (.ref 0), none, some (.int v2), some (.int v3), some (.int v4), none, some (.int v6), some (.int (v7 + (1 : Int32))), some (.int (v8 + (1 : Int32))), some (.int q26.1), some (.int v10)]) dX11_waits_140 (Nat.le_of_ble_eq_true rfl) rfl rfl rfl ?_
          refine am_iinc (pc' := 145) (ls' := [some (.ref 0), none, some (.int v2), some (.int v3), some (.int v4), none, some (.int v6), some (.int (v7 + (1 : Int32))), some (.int (v8 + (1 : Int32))), some (.int q26.1), some (.int (v10 + (1 : Int32)))]) dX11_waits_142 rfl (show v10 + Int32.ofInt 1 = (v10 + (1 : Int32)) from congrArg (fun z => v10 + z) kc_1) (Nat.le_of_ble_eq_true rfl) rfl rfl rfl ?_
          refine am_goto 98 dX11_waits_145 rfl ?_
          exact ih _ _ _ _ _ _ _ _ _ _ hres

set_option maxRecDepth 100000 in
set_option maxHeartbeats 4000000 in
theorem tx_X11_waits (r : am_W) (a1 : Int32) (a2 : Int32) (a3 : Int32) (a4 : Int32) (S : sx_T) (res : Int64 × sx_T) (hres : fx_X11_waits a1 a2 a3 a4 S = some res) : am_T mX11_waits 8 0 0 [.ref 0, .int a1, .int a2, .int a3, .int a4] (sx_w S r) (some (.long res.1)) (sx_w res.2 r) := by
  refine am_meth (ls := [some (.ref 0), some (.int a1), some (.int a2), some (.int a3), some (.int a4), none, none, none, none, none, none]) (by decide +kernel) rfl (Nat.le_of_ble_eq_true rfl) (sx_len _ _ _) ?_
  rw [fx_X11_waits] at hres
  refine am_aload_n (pc' := 1) 0 dX11_waits_0 rfl rfl rfl ?_
  refine am_iload_n (pc' := 2) 1 dX11_waits_1 rfl rfl rfl ?_
  obtain ⟨q1, hq2, hres⟩ := am_bd_s hres
  refine am_cV (pc' := 5) (st' := [.int q1.1]) [] [.int a1] dX11_waits_2 cs_X11_176 (tx_X11_startTour r a1 S _ hq2) rfl rfl rfl (sx_c0 S r) rfl rfl rfl rfl rfl ?_
  refine am_if_eq (pc' := 8) 12 dX11_waits_5 rfl rfl (fun hc3 => ?_) (fun hc3 => ?_)
  · rw [if_pos hc3] at hres
    refine am_iload_n (pc' := 13) 2 dX11_waits_12 rfl rfl rfl ?_
    refine am_iconst (pc' := 14) (v := 1) dX11_waits_13 kc_1 rfl ?_
    refine am_icmp_lt (pc' := 17) 34 dX11_waits_14 rfl rfl (fun hc4 => ?_) (fun hc4 => ?_)
    · rw [if_pos hc4] at hres
      refine am_ldc2 (pc' := 37) dX11_waits_34 ck_X11_236 rfl ?_
      obtain rfl := Option.some.inj hres
      exact am_lret dX11_waits_37 rfl rfl rfl
    · rw [if_neg hc4] at hres
      refine am_iload_n (pc' := 18) 2 dX11_waits_17 rfl rfl rfl ?_
      refine am_bipush (pc' := 20) (v := 6) dX11_waits_18 kb_6 rfl ?_
      refine am_icmp_gt (pc' := 23) 34 dX11_waits_20 rfl rfl (fun hc5 => ?_) (fun hc5 => ?_)
      · rw [if_pos hc5] at hres
        refine am_ldc2 (pc' := 37) dX11_waits_34 ck_X11_236 rfl ?_
        obtain rfl := Option.some.inj hres
        exact am_lret dX11_waits_37 rfl rfl rfl
      · rw [if_neg hc5] at hres
        refine am_iload_n (pc' := 24) 2 dX11_waits_23 rfl rfl rfl ?_
        refine am_aload_n (pc' := 25) 0 dX11_waits_24 rfl rfl rfl ?_
        refine am_get (pc' := 28) (v := .ref 1) dX11_waits_25 fl_X11_10 (sx_c0 q1.2 r) rfl rfl ?_
        refine am_get (pc' := 31) (v := .int (sx_now_viewers q1.2)) dX11_waits_28 fl_X11_120 (sx_c1 q1.2 r) rfl rfl ?_
        refine am_icmp_le (pc' := 34) 38 dX11_waits_31 rfl rfl (fun hc6 => ?_) (fun hc6 => ?_)
        · rw [if_pos hc6] at hres
          refine am_iload_n (pc' := 39) 3 dX11_waits_38 rfl rfl rfl ?_
          refine am_iload_n (pc' := 40) 2 dX11_waits_39 rfl rfl rfl ?_
          refine am_cS (pc' := 43) (st' := [.int (fx_X11_within a3 a2)]) [] [.int a3, .int a2] dX11_waits_40 cs_X11_129 (tx_X11_within (sx_w q1.2 r) a3 a2 _ rfl) rfl rfl rfl rfl rfl rfl ?_
          refine am_if_eq (pc' := 46) 55 dX11_waits_43 rfl rfl (fun hc7 => ?_) (fun hc7 => ?_)
          · rw [if_pos hc7] at hres
            refine am_ldc2 (pc' := 58) dX11_waits_55 ck_X11_236 rfl ?_
            obtain rfl := Option.some.inj hres
            exact am_lret dX11_waits_58 rfl rfl rfl
          · rw [if_neg hc7] at hres
            refine am_iload (pc' := 48) dX11_waits_46 rfl rfl ?_
            refine am_iconst (pc' := 49) (v := 2) dX11_waits_48 kc_2 rfl ?_
            refine am_cS (pc' := 52) (st' := [.int (fx_X11_within a4 (2 : Int32))]) [] [.int a4, .int (2 : Int32)] dX11_waits_49 cs_X11_129 (tx_X11_within (sx_w q1.2 r) a4 (2 : Int32) _ rfl) rfl rfl rfl rfl rfl rfl ?_
            refine am_if_ne (pc' := 55) 59 dX11_waits_52 rfl rfl (fun hc8 => ?_) (fun hc8 => ?_)
            · rw [if_neg hc8] at hres
              refine am_iconst (pc' := 60) (v := 1) dX11_waits_59 kc_1 rfl ?_
              refine am_iload_n (pc' := 61) 2 dX11_waits_60 rfl rfl rfl ?_
              refine am_ishl (pc' := 62) dX11_waits_61 rfl ?_
              refine am_iconst (pc' := 63) (v := 1) dX11_waits_62 kc_1 rfl ?_
              refine am_isub (pc' := 64) dX11_waits_63 rfl ?_
              refine am_istore (pc' := 66) (ls' := [some (.ref 0), some (.int a1), some (.int a2), some (.int a3), some (.int a4), some (.int (((1 : Int32) <<< (a2 &&& 31)) - (1 : Int32))), none, none, none, none, none]) dX11_waits_64 (Nat.le_of_ble_eq_true rfl) rfl rfl rfl ?_
              refine am_aload_n (pc' := 67) 0 dX11_waits_66 rfl rfl rfl ?_
              refine am_iload (pc' := 69) dX11_waits_67 rfl rfl ?_
              refine am_iconst (pc' := 70) (v := 1) dX11_waits_69 kc_1 rfl ?_
              obtain ⟨q9, hq10, hres⟩ := am_bd_s hres
              refine am_cV (pc' := 73) (st' := []) [] [.int (((1 : Int32) <<< (a2 &&& 31)) - (1 : Int32)), .int (1 : Int32)] dX11_waits_70 cs_X11_202 (tx_X11_fillOffers r (((1 : Int32) <<< (a2 &&& 31)) - (1 : Int32)) (1 : Int32) q1.2 _ hq10) rfl rfl rfl (sx_c0 q1.2 r) rfl rfl rfl rfl rfl ?_
              refine am_aload_n (pc' := 74) 0 dX11_waits_73 rfl rfl rfl ?_
              refine am_iload (pc' := 76) dX11_waits_74 rfl rfl ?_
              obtain ⟨q11, hq12, hres⟩ := am_bd_s hres
              refine am_cV (pc' := 79) (st' := [.int q11]) [] [.int (((1 : Int32) <<< (a2 &&& 31)) - (1 : Int32))] dX11_waits_76 cs_X11_208 (tx_X11_mostOffered r (((1 : Int32) <<< (a2 &&& 31)) - (1 : Int32)) q9 _ hq12) rfl rfl rfl (sx_c0 q9 r) rfl rfl rfl rfl rfl ?_
              refine am_istore (pc' := 81) (ls' := [some (.ref 0), some (.int a1), some (.int a2), some (.int a3), some (.int a4), some (.int (((1 : Int32) <<< (a2 &&& 31)) - (1 : Int32))), some (.int q11), none, none, none, none]) dX11_waits_79 (Nat.le_of_ble_eq_true rfl) rfl rfl rfl ?_
              refine am_iconst (pc' := 82) (v := 0) dX11_waits_81 kc_0 rfl ?_
              refine am_istore (pc' := 84) (ls' := [some (.ref 0), some (.int a1), some (.int a2), some (.int a3), some (.int a4), some (.int (((1 : Int32) <<< (a2 &&& 31)) - (1 : Int32))), some (.int q11), some (.int (0 : Int32)), none, none, none]) dX11_waits_82 (Nat.le_of_ble_eq_true rfl) rfl rfl rfl ?_
              refine am_iconst (pc' := 85) (v := 0) dX11_waits_84 kc_0 rfl ?_
              refine am_istore (pc' := 87) (ls' := [some (.ref 0), some (.int a1), some (.int a2), some (.int a3), some (.int a4), some (.int (((1 : Int32) <<< (a2 &&& 31)) - (1 : Int32))), some (.int q11), some (.int (0 : Int32)), some (.int (0 : Int32)), none, none]) dX11_waits_85 (Nat.le_of_ble_eq_true rfl) rfl rfl rfl ?_
              refine am_aload_n (pc' := 88) 0 dX11_waits_87 rfl rfl rfl ?_
              refine am_iload_n (pc' := 89) 2 dX11_waits_88 rfl rfl rfl ?_
              obtain ⟨q13, hq14, hres⟩ := am_bd_s hres
              refine am_cV (pc' := 92) (st' := []) [] [.int a2] dX11_waits_89 cs_X11_215 (tx_X11_firstOrder r a2 q9 _ hq14) rfl rfl rfl (sx_c0 q9 r) rfl rfl rfl rfl rfl ?_
              refine am_iconst (pc' := 93) (v := 1) dX11_waits_92 kc_1 rfl ?_
              refine am_istore (pc' := 95) (ls' := [some (.ref 0), some (.int a1), some (.int a2), some (.int a3), some (.int a4), some (.int (((1 : Int32) <<< (a2 &&& 31)) - (1 : Int32))), some (.int q11), some (.int (0 : Int32)), some (.int (0 : Int32)), some (.int (1 : Int32)), none]) dX11_waits_93 (Nat.le_of_ble_eq_true rfl) rfl rfl rfl ?_
              refine am_iconst (pc' := 96) (v := 0) dX11_waits_95 kc_0 rfl ?_
              refine am_istore (pc' := 98) (ls' := [some (.ref 0), some (.int a1), some (.int a2), some (.int a3), some (.int a4), some (.int (((1 : Int32) <<< (a2 &&& 31)) - (1 : Int32))), some (.int q11), some (.int (0 : Int32)), some (.int (0 : Int32)), some (.int (1 : Int32)), some (.int (0 : Int32))]) dX11_waits_96 (Nat.le_of_ble_eq_true rfl) rfl rfl rfl ?_
              refine am_weak (ls' := [some (.ref 0), none, some (.int a2), some (.int a3), some (.int a4), none, some (.int q11), some (.int (0 : Int32)), some (.int (0 : Int32)), some (.int (1 : Int32)), some (.int (0 : Int32))]) [false, true, false, false, false, true, false, false, false, false, false] rfl ?_
              exact wx_X11_waits_98 r am_fu _ _ _ _ _ _ _ _ _ _ hres
            · rw [if_pos hc8] at hres
              refine am_ldc2 (pc' := 58) dX11_waits_55 ck_X11_236 rfl ?_
              obtain rfl := Option.some.inj hres
              exact am_lret dX11_waits_58 rfl rfl rfl
        · rw [if_neg hc6] at hres
          refine am_ldc2 (pc' := 37) dX11_waits_34 ck_X11_236 rfl ?_
          obtain rfl := Option.some.inj hres
          exact am_lret dX11_waits_37 rfl rfl rfl
  · rw [if_neg hc3] at hres
    refine am_ldc2 (pc' := 11) dX11_waits_8 ck_X11_236 rfl ?_
    obtain rfl := Option.some.inj hres
    exact am_lret dX11_waits_11 rfl rfl rfl
set_option maxRecDepth 100000 in
set_option maxHeartbeats 4000000 in
theorem wx_X11_when_43 (r : am_W) : ∀ (n : Nat) (v2 : Int32) (v3 : Int32) (v5 : Int32) (v6 : Int32) (v7 : Int32) (S : sx_T) (res : Int32 × sx_T) (hres : fx_X11_when_43 n v2 v3 v5 v6 v7 S = some res), am_G mX11_when (none, 8, 0, 0, (some (.int res.1)), (sx_w res.2 r)) (0, 0) 43 [some (.ref 0), none, some (.int v2), some (.int v3), none, some (.int v5), some (.int v6), some (.int v7), none] [] (sx_w S r) := by
  intro n
  induction n with
  | zero =>
    intro v2 v3 v5 v6 v7 S res hres
    cases hres
  | succ n ih =>
    intro v2 v3 v5 v6 v7 S res hres
    rw [fx_X11_when_43] at hres
    refine am_iload (pc' := 45) dX11_when_43 rfl rfl ?_
    refine am_bipush (pc' := 47) (v := 12) dX11_when_45 kb_12 rfl ?_
    refine am_icmp_ge (pc' := 50) 96 dX11_when_47 rfl rfl (fun hc6 => ?_) (fun hc6 => ?_)
    · rw [if_pos hc6] at hres
      refine am_iload_n (pc' := 97) 3 dX11_when_96 rfl rfl rfl ?_
      refine am_if_ne (pc' := 100) 105 dX11_when_97 rfl rfl (fun hc7 => ?_) (fun hc7 => ?_)
      · rw [if_neg hc7] at hres
        refine am_iload (pc' := 107) dX11_when_105 rfl rfl ?_
        obtain rfl := Option.some.inj hres
        exact am_iret dX11_when_107 rfl rfl rfl
      · rw [if_pos hc7] at hres
        refine am_iload (pc' := 102) dX11_when_100 rfl rfl ?_
        refine am_goto 107 dX11_when_102 rfl ?_
        obtain rfl := Option.some.inj hres
        exact am_iret dX11_when_107 rfl rfl rfl
    · rw [if_neg hc6] at hres
      refine am_aload_n (pc' := 51) 0 dX11_when_50 rfl rfl rfl ?_
      refine am_get (pc' := 54) (v := .ref 34) dX11_when_51 fl_X11_78 (sx_c0 S r) rfl rfl ?_
      refine am_iload (pc' := 56) dX11_when_54 rfl rfl ?_
      obtain ⟨q8, hq9, hres⟩ := am_let_s hres
      refine am_cV (pc' := 59) (st' := []) [] [.int v7] dX11_when_56 cs_X11_227 (tx_X10_setHour r v7 S _ hq9) rfl rfl rfl (sx_c34 S r) rfl rfl rfl rfl rfl ?_
      refine am_aload_n (pc' := 60) 0 dX11_when_59 rfl rfl rfl ?_
      refine am_iload_n (pc' := 61) 2 dX11_when_60 rfl rfl rfl ?_
      refine am_iload_n (pc' := 62) 2 dX11_when_61 rfl rfl rfl ?_
      refine am_cS (pc' := 65) (st' := [.int (fx_J6_bitCount_0f7a4 v2), .int v2, .ref 0]) [.int v2, .ref 0] [.int v2] dX11_when_62 cs_X11_197 (tx_J6_bitCount_0f7a4 (sx_w q8 r) v2 _ rfl) rfl rfl rfl rfl rfl rfl ?_
      obtain ⟨q10, hq11, hres⟩ := am_bd_s hres
      refine am_cV (pc' := 68) (st' := []) [] [.int v2, .int (fx_J6_bitCount_0f7a4 v2)] dX11_when_65 cs_X11_202 (tx_X11_fillOffers r v2 (fx_J6_bitCount_0f7a4 v2) q8 _ hq11) rfl rfl rfl (sx_c0 q8 r) rfl rfl rfl rfl rfl ?_
      refine am_aload_n (pc' := 69) 0 dX11_when_68 rfl rfl rfl ?_
      refine am_iload_n (pc' := 70) 2 dX11_when_69 rfl rfl rfl ?_
      obtain ⟨q12, hq13, hres⟩ := am_bd_s hres
      refine am_cV (pc' := 73) (st' := [.int q12]) [] [.int v2] dX11_when_70 cs_X11_208 (tx_X11_mostOffered r v2 q10 _ hq13) rfl rfl rfl (sx_c0 q10 r) rfl rfl rfl rfl rfl ?_
      refine am_istore (pc' := 75) (ls' := [some (.ref 0), none, some (.int v2), some (.int v3), none, some (.int v5), some (.int v6), some (.int v7), some (.int q12)]) dX11_when_73 (Nat.le_of_ble_eq_true rfl) rfl rfl rfl ?_
      refine am_iload (pc' := 77) dX11_when_75 rfl rfl ?_
      refine am_iload (pc' := 79) dX11_when_77 rfl rfl ?_
      refine am_icmp_le (pc' := 82) 90 dX11_when_79 rfl rfl (fun hc14 => ?_) (fun hc14 => ?_)
      · rw [if_pos hc14] at hres
        refine am_iinc (pc' := 93) (ls' := [some (.ref 0), none, some (.int v2), some (.int v3), none, some (.int v5), some (.int v6), some (.int (v7 + (1 : Int32))), some (.int q12)]) dX11_when_90 rfl (show v7 + Int32.ofInt 1 = (v7 + (1 : Int32)) from congrArg (fun z => v7 + z) kc_1) (Nat.le_of_ble_eq_true rfl) rfl rfl rfl ?_
        refine am_goto 43 dX11_when_93 rfl ?_
        refine am_weak (ls' := [some (.ref 0), none, some (.int v2), some (.int v3), none, some (.int v5), some (.int v6), some (.int (v7 + (1 : Int32))), none]) [false, false, false, false, false, false, false, false, true] rfl ?_
        exact ih _ _ _ _ _ _ _ hres
      · rw [if_neg hc14] at hres
        refine am_iload (pc' := 84) dX11_when_82 rfl rfl ?_
        refine am_istore (pc' := 86) (ls' := [some (.ref 0), none, some (.int v2), some (.int v3), none, some (.int q12), some (.int v6), some (.int v7), some (.int q12)]) dX11_when_84 (Nat.le_of_ble_eq_true rfl) rfl rfl rfl ?_
        refine am_iload (pc' := 88) dX11_when_86 rfl rfl ?_
        refine am_istore (pc' := 90) (ls' := [some (.ref 0), none, some (.int v2), some (.int v3), none, some (.int q12), some (.int v7), some (.int v7), some (.int q12)]) dX11_when_88 (Nat.le_of_ble_eq_true rfl) rfl rfl rfl ?_
        refine am_iinc (pc' := 93) (ls' := [some (.ref 0), none, some (.int v2), some (.int v3), none, some (.int q12), some (.int v7), some (.int (v7 + (1 : Int32))), some (.int q12)]) dX11_when_90 rfl (show v7 + Int32.ofInt 1 = (v7 + (1 : Int32)) from congrArg (fun z => v7 + z) kc_1) (Nat.le_of_ble_eq_true rfl) rfl rfl rfl ?_
        refine am_goto 43 dX11_when_93 rfl ?_
        refine am_weak (ls' := [some (.ref 0), none, some (.int v2), some (.int v3), none, some (.int q12), some (.int v7), some (.int (v7 + (1 : Int32))), none]) [false, false, false, false, false, false, false, false, true] rfl ?_
        exact ih _ _ _ _ _ _ _ hres

set_option maxRecDepth 100000 in
set_option maxHeartbeats 4000000 in
theorem tx_X11_when (r : am_W) (a1 : Int32) (a2 : Int32) (a3 : Int32) (S : sx_T) (res : Int32 × sx_T) (hres : fx_X11_when a1 a2 a3 S = some res) : am_T mX11_when 8 0 0 [.ref 0, .int a1, .int a2, .int a3] (sx_w S r) (some (.int res.1)) (sx_w res.2 r) := by
  refine am_meth (ls := [some (.ref 0), some (.int a1), some (.int a2), some (.int a3), none, none, none, none, none]) (by decide +kernel) rfl (Nat.le_of_ble_eq_true rfl) (sx_len _ _ _) ?_
  rw [fx_X11_when] at hres
  refine am_aload_n (pc' := 1) 0 dX11_when_0 rfl rfl rfl ?_
  refine am_iload_n (pc' := 2) 1 dX11_when_1 rfl rfl rfl ?_
  obtain ⟨q1, hq2, hres⟩ := am_bd_s hres
  refine am_cV (pc' := 5) (st' := [.int q1.1]) [] [.int a1] dX11_when_2 cs_X11_176 (tx_X11_startTour r a1 S _ hq2) rfl rfl rfl (sx_c0 S r) rfl rfl rfl rfl rfl ?_
  refine am_istore (pc' := 7) (ls' := [some (.ref 0), some (.int a1), some (.int a2), some (.int a3), some (.int q1.1), none, none, none, none]) dX11_when_5 (Nat.le_of_ble_eq_true rfl) rfl rfl rfl ?_
  refine am_iload (pc' := 9) dX11_when_7 rfl rfl ?_
  refine am_if_eq (pc' := 12) 15 dX11_when_9 rfl rfl (fun hc3 => ?_) (fun hc3 => ?_)
  · rw [if_pos hc3] at hres
    refine am_aload_n (pc' := 16) 0 dX11_when_15 rfl rfl rfl ?_
    refine am_iload_n (pc' := 17) 2 dX11_when_16 rfl rfl rfl ?_
    refine am_cV (pc' := 20) (st' := [.int (fx_X11_areViewers a2 q1.2)]) [] [.int a2] dX11_when_17 cs_X11_194 (tx_X11_areViewers r a2 q1.2 _ rfl) rfl rfl rfl (sx_c0 q1.2 r) rfl rfl rfl rfl rfl ?_
    refine am_if_eq (pc' := 23) 31 dX11_when_20 rfl rfl (fun hc4 => ?_) (fun hc4 => ?_)
    · rw [if_pos hc4] at hres
      refine am_bipush (pc' := 33) (v := (-7)) dX11_when_31 kb_m7 rfl ?_
      obtain rfl := Option.some.inj hres
      exact am_iret dX11_when_33 rfl rfl rfl
    · rw [if_neg hc4] at hres
      refine am_iload_n (pc' := 24) 3 dX11_when_23 rfl rfl rfl ?_
      refine am_iconst (pc' := 25) (v := 2) dX11_when_24 kc_2 rfl ?_
      refine am_cS (pc' := 28) (st' := [.int (fx_X11_within a3 (2 : Int32))]) [] [.int a3, .int (2 : Int32)] dX11_when_25 cs_X11_129 (tx_X11_within (sx_w q1.2 r) a3 (2 : Int32) _ rfl) rfl rfl rfl rfl rfl rfl ?_
      refine am_if_ne (pc' := 31) 34 dX11_when_28 rfl rfl (fun hc5 => ?_) (fun hc5 => ?_)
      · rw [if_neg hc5] at hres
        refine am_iconst (pc' := 35) (v := 0) dX11_when_34 kc_0 rfl ?_
        refine am_istore (pc' := 37) (ls' := [some (.ref 0), some (.int a1), some (.int a2), some (.int a3), some (.int q1.1), some (.int (0 : Int32)), none, none, none]) dX11_when_35 (Nat.le_of_ble_eq_true rfl) rfl rfl rfl ?_
        refine am_iconst (pc' := 38) (v := 0) dX11_when_37 kc_0 rfl ?_
        refine am_istore (pc' := 40) (ls' := [some (.ref 0), some (.int a1), some (.int a2), some (.int a3), some (.int q1.1), some (.int (0 : Int32)), some (.int (0 : Int32)), none, none]) dX11_when_38 (Nat.le_of_ble_eq_true rfl) rfl rfl rfl ?_
        refine am_iconst (pc' := 41) (v := 0) dX11_when_40 kc_0 rfl ?_
        refine am_istore (pc' := 43) (ls' := [some (.ref 0), some (.int a1), some (.int a2), some (.int a3), some (.int q1.1), some (.int (0 : Int32)), some (.int (0 : Int32)), some (.int (0 : Int32)), none]) dX11_when_41 (Nat.le_of_ble_eq_true rfl) rfl rfl rfl ?_
        refine am_weak (ls' := [some (.ref 0), none, some (.int a2), some (.int a3), none, some (.int (0 : Int32)), some (.int (0 : Int32)), some (.int (0 : Int32)), none]) [false, true, false, false, true, false, false, false, false] rfl ?_
        exact wx_X11_when_43 r am_fu _ _ _ _ _ _ _ hres
      · rw [if_pos hc5] at hres
        refine am_bipush (pc' := 33) (v := (-7)) dX11_when_31 kb_m7 rfl ?_
        obtain rfl := Option.some.inj hres
        exact am_iret dX11_when_33 rfl rfl rfl
  · rw [if_neg hc3] at hres
    refine am_iload (pc' := 14) dX11_when_12 rfl rfl ?_
    obtain rfl := Option.some.inj hres
    exact am_iret dX11_when_14 rfl rfl rfl
set_option maxRecDepth 100000 in
set_option maxHeartbeats 4000000 in
theorem wx_X11_without_58 (r : am_W) : ∀ (n : Nat) (v3 : Int32) (v5 : Int32) (v6 : Int32) (v7 : Int32) (S : sx_T) (res : Int32 × sx_T) (hres : fx_X11_without_58 n v3 v5 v6 v7 S = some res), am_G mX11_without (none, 6, 0, 0, (some (.int res.1)), (sx_w res.2 r)) (0, 0) 58 [some (.ref 0), none, none, some (.int v3), none, some (.int v5), some (.int v6), some (.int v7)] [] (sx_w S r) := by
  intro n
  induction n with
  | zero =>
    intro v3 v5 v6 v7 S res hres
    cases hres
  | succ n ih =>
    intro v3 v5 v6 v7 S res hres
    rw [fx_X11_without_58] at hres
    refine am_iload (pc' := 60) dX11_without_58 rfl rfl ?_
    refine am_aload_n (pc' := 61) 0 dX11_without_60 rfl rfl rfl ?_
    refine am_get (pc' := 64) (v := .int (sx_wayLength S)) dX11_without_61 fl_X11_188 (sx_c0 S r) rfl rfl ?_
    refine am_icmp_ge (pc' := 67) 122 dX11_without_64 rfl rfl (fun hc10 => ?_) (fun hc10 => ?_)
    · rw [if_pos hc10] at hres
      refine am_iload_n (pc' := 123) 3 dX11_without_122 rfl rfl rfl ?_
      refine am_if_ne (pc' := 126) 131 dX11_without_123 rfl rfl (fun hc11 => ?_) (fun hc11 => ?_)
      · rw [if_neg hc11] at hres
        refine am_iload (pc' := 133) dX11_without_131 rfl rfl ?_
        obtain rfl := Option.some.inj hres
        exact am_iret dX11_without_133 rfl rfl rfl
      · rw [if_pos hc11] at hres
        refine am_iload (pc' := 128) dX11_without_126 rfl rfl ?_
        refine am_goto 133 dX11_without_128 rfl ?_
        obtain rfl := Option.some.inj hres
        exact am_iret dX11_without_133 rfl rfl rfl
    · rw [if_neg hc10] at hres
      refine am_aload_n (pc' := 68) 0 dX11_without_67 rfl rfl rfl ?_
      refine am_get (pc' := 71) (v := .ref 34) dX11_without_68 fl_X11_78 (sx_c0 S r) rfl rfl ?_
      refine am_aload_n (pc' := 72) 0 dX11_without_71 rfl rfl rfl ?_
      refine am_get (pc' := 75) (v := .ref 42) dX11_without_72 fl_X11_85 (sx_c0 S r) rfl rfl ?_
      refine am_aload_n (pc' := 76) 0 dX11_without_75 rfl rfl rfl ?_
      refine am_get (pc' := 79) (v := .int (sx_wayLength S)) dX11_without_76 fl_X11_188 (sx_c0 S r) rfl rfl ?_
      refine am_iload (pc' := 81) dX11_without_79 rfl rfl ?_
      obtain ⟨q12, hq13, hres⟩ := am_bd_s hres
      refine am_cV (pc' := 84) (st' := []) [] [.ref 42, .int (sx_wayLength S), .int v7] dX11_without_81 cs_X11_230 (tx_X10_walk_r42 r (sx_wayLength S) v7 S _ hq13) rfl rfl rfl (sx_c34 S r) rfl rfl rfl rfl rfl ?_
      refine am_aload_n (pc' := 85) 0 dX11_without_84 rfl rfl rfl ?_
      refine am_get (pc' := 88) (v := .ref 34) dX11_without_85 fl_X11_78 (sx_c0 q12 r) rfl rfl ?_
      obtain ⟨q14, hq15, hres⟩ := am_bd_s hres
      refine am_cV (pc' := 91) (st' := [.int q14.1]) [] [] dX11_without_88 cs_X11_182 (tx_X10_mind r q12 _ hq15) rfl rfl rfl (sx_c34 q12 r) rfl rfl rfl rfl rfl ?_
      refine am_iload (pc' := 93) dX11_without_91 rfl rfl ?_
      refine am_icmp_le (pc' := 96) 116 dX11_without_93 rfl rfl (fun hc16 => ?_) (fun hc16 => ?_)
      · rw [if_pos hc16] at hres
        refine am_iinc (pc' := 119) (ls' := [some (.ref 0), none, none, some (.int v3), none, some (.int v5), some (.int v6), some (.int (v7 + (1 : Int32)))]) dX11_without_116 rfl (show v7 + Int32.ofInt 1 = (v7 + (1 : Int32)) from congrArg (fun z => v7 + z) kc_1) (Nat.le_of_ble_eq_true rfl) rfl rfl rfl ?_
        refine am_goto 58 dX11_without_119 rfl ?_
        exact ih _ _ _ _ _ _ hres
      · rw [if_neg hc16] at hres
        refine am_aload_n (pc' := 97) 0 dX11_without_96 rfl rfl rfl ?_
        refine am_get (pc' := 100) (v := .ref 34) dX11_without_97 fl_X11_78 (sx_c0 q14.2 r) rfl rfl ?_
        obtain ⟨q17, hq18, hres⟩ := am_bd_s hres
        refine am_cV (pc' := 103) (st' := [.int q17.1]) [] [] dX11_without_100 cs_X11_182 (tx_X10_mind r q14.2 _ hq18) rfl rfl rfl (sx_c34 q14.2 r) rfl rfl rfl rfl rfl ?_
        refine am_istore (pc' := 105) (ls' := [some (.ref 0), none, none, some (.int v3), none, some (.int q17.1), some (.int v6), some (.int v7)]) dX11_without_103 (Nat.le_of_ble_eq_true rfl) rfl rfl rfl ?_
        refine am_aload_n (pc' := 106) 0 dX11_without_105 rfl rfl rfl ?_
        refine am_get (pc' := 109) (v := .ref 42) dX11_without_106 fl_X11_85 (sx_c0 q17.2 r) rfl rfl ?_
        refine am_iload (pc' := 111) dX11_without_109 rfl rfl ?_
        refine am_cS (pc' := 114) (st' := [.int (am_rd 6 (sx_way q17.2) v7)]) [] [.ref 42, .int v7] dX11_without_111 cs_X11_139 (tx_at (f := (sx_way q17.2)) (sx_c42 q17.2 r) rfl v7) rfl rfl rfl rfl rfl rfl ?_
        refine am_istore (pc' := 116) (ls' := [some (.ref 0), none, none, some (.int v3), none, some (.int q17.1), some (.int (am_rd 6 (sx_way q17.2) v7)), some (.int v7)]) dX11_without_114 (Nat.le_of_ble_eq_true rfl) rfl rfl rfl ?_
        refine am_iinc (pc' := 119) (ls' := [some (.ref 0), none, none, some (.int v3), none, some (.int q17.1), some (.int (am_rd 6 (sx_way q17.2) v7)), some (.int (v7 + (1 : Int32)))]) dX11_without_116 rfl (show v7 + Int32.ofInt 1 = (v7 + (1 : Int32)) from congrArg (fun z => v7 + z) kc_1) (Nat.le_of_ble_eq_true rfl) rfl rfl rfl ?_
        refine am_goto 58 dX11_without_119 rfl ?_
        exact ih _ _ _ _ _ _ hres

set_option maxRecDepth 100000 in
set_option maxHeartbeats 4000000 in
theorem tx_X11_without (r : am_W) (a1 : Int32) (a2 : Int32) (a3 : Int32) (S : sx_T) (res : Int32 × sx_T) (hres : fx_X11_without a1 a2 a3 S = some res) : am_T mX11_without 6 0 0 [.ref 0, .int a1, .int a2, .int a3] (sx_w S r) (some (.int res.1)) (sx_w res.2 r) := by
  refine am_meth (ls := [some (.ref 0), some (.int a1), some (.int a2), some (.int a3), none, none, none, none]) (by decide +kernel) rfl (Nat.le_of_ble_eq_true rfl) (sx_len _ _ _) ?_
  rw [fx_X11_without] at hres
  refine am_aload_n (pc' := 1) 0 dX11_without_0 rfl rfl rfl ?_
  refine am_iload_n (pc' := 2) 1 dX11_without_1 rfl rfl rfl ?_
  obtain ⟨q1, hq2, hres⟩ := am_bd_s hres
  refine am_cV (pc' := 5) (st' := [.int q1.1]) [] [.int a1] dX11_without_2 cs_X11_176 (tx_X11_startTour r a1 S _ hq2) rfl rfl rfl (sx_c0 S r) rfl rfl rfl rfl rfl ?_
  refine am_istore (pc' := 7) (ls' := [some (.ref 0), some (.int a1), some (.int a2), some (.int a3), some (.int q1.1), none, none, none]) dX11_without_5 (Nat.le_of_ble_eq_true rfl) rfl rfl rfl ?_
  refine am_iload (pc' := 9) dX11_without_7 rfl rfl ?_
  refine am_if_eq (pc' := 12) 18 dX11_without_9 rfl rfl (fun hc3 => ?_) (fun hc3 => ?_)
  · rw [if_pos hc3] at hres
    refine am_aload_n (pc' := 19) 0 dX11_without_18 rfl rfl rfl ?_
    refine am_iload_n (pc' := 20) 2 dX11_without_19 rfl rfl rfl ?_
    refine am_cV (pc' := 23) (st' := [.int (fx_X11_isViewer a2 q1.2)]) [] [.int a2] dX11_without_20 cs_X11_151 (tx_X11_isViewer r a2 q1.2 _ rfl) rfl rfl rfl (sx_c0 q1.2 r) rfl rfl rfl rfl rfl ?_
    refine am_if_eq (pc' := 26) 34 dX11_without_23 rfl rfl (fun hc4 => ?_) (fun hc4 => ?_)
    · rw [if_pos hc4] at hres
      refine am_ldc (pc' := 36) dX11_without_34 ck_X11_181 rfl ?_
      obtain rfl := Option.some.inj hres
      exact am_iret dX11_without_36 rfl rfl rfl
    · rw [if_neg hc4] at hres
      refine am_iload_n (pc' := 27) 3 dX11_without_26 rfl rfl rfl ?_
      refine am_iconst (pc' := 28) (v := 2) dX11_without_27 kc_2 rfl ?_
      refine am_cS (pc' := 31) (st' := [.int (fx_X11_within a3 (2 : Int32))]) [] [.int a3, .int (2 : Int32)] dX11_without_28 cs_X11_129 (tx_X11_within (sx_w q1.2 r) a3 (2 : Int32) _ rfl) rfl rfl rfl rfl rfl rfl ?_
      refine am_if_ne (pc' := 34) 37 dX11_without_31 rfl rfl (fun hc5 => ?_) (fun hc5 => ?_)
      · rw [if_neg hc5] at hres
        refine am_aload_n (pc' := 38) 0 dX11_without_37 rfl rfl rfl ?_
        refine am_iload_n (pc' := 39) 2 dX11_without_38 rfl rfl rfl ?_
        refine am_iconst (pc' := 40) (v := 1) dX11_without_39 kc_1 rfl ?_
        obtain ⟨q6, hq7, hres⟩ := am_let_s hres
        refine am_cV (pc' := 43) (st' := []) [] [.int a2, .int (1 : Int32)] dX11_without_40 cs_X11_161 (tx_X11_letCome r a2 (1 : Int32) q1.2 _ hq7) rfl rfl rfl (sx_c0 q1.2 r) rfl rfl rfl rfl rfl ?_
        refine am_aload_n (pc' := 44) 0 dX11_without_43 rfl rfl rfl ?_
        refine am_get (pc' := 47) (v := .ref 34) dX11_without_44 fl_X11_78 (sx_c0 q6 r) rfl rfl ?_
        obtain ⟨q8, hq9, hres⟩ := am_bd_s hres
        refine am_cV (pc' := 50) (st' := [.int q8.1]) [] [] dX11_without_47 cs_X11_182 (tx_X10_mind r q6 _ hq9) rfl rfl rfl (sx_c34 q6 r) rfl rfl rfl rfl rfl ?_
        refine am_istore (pc' := 52) (ls' := [some (.ref 0), some (.int a1), some (.int a2), some (.int a3), some (.int q1.1), some (.int q8.1), none, none]) dX11_without_50 (Nat.le_of_ble_eq_true rfl) rfl rfl rfl ?_
        refine am_iconst (pc' := 53) (v := (-1)) dX11_without_52 kc_m1 rfl ?_
        refine am_istore (pc' := 55) (ls' := [some (.ref 0), some (.int a1), some (.int a2), some (.int a3), some (.int q1.1), some (.int q8.1), some (.int (-1 : Int32)), none]) dX11_without_53 (Nat.le_of_ble_eq_true rfl) rfl rfl rfl ?_
        refine am_iconst (pc' := 56) (v := 0) dX11_without_55 kc_0 rfl ?_
        refine am_istore (pc' := 58) (ls' := [some (.ref 0), some (.int a1), some (.int a2), some (.int a3), some (.int q1.1), some (.int q8.1), some (.int (-1 : Int32)), some (.int (0 : Int32))]) dX11_without_56 (Nat.le_of_ble_eq_true rfl) rfl rfl rfl ?_
        refine am_weak (ls' := [some (.ref 0), none, none, some (.int a3), none, some (.int q8.1), some (.int (-1 : Int32)), some (.int (0 : Int32))]) [false, true, true, false, true, false, false, false] rfl ?_
        exact wx_X11_without_58 r am_fu _ _ _ _ _ _ hres
      · rw [if_pos hc5] at hres
        refine am_ldc (pc' := 36) dX11_without_34 ck_X11_181 rfl ?_
        obtain rfl := Option.some.inj hres
        exact am_iret dX11_without_36 rfl rfl rfl
  · rw [if_neg hc3] at hres
    refine am_ldc (pc' := 14) dX11_without_12 ck_X11_180 rfl ?_
    refine am_iload (pc' := 16) dX11_without_14 rfl rfl ?_
    refine am_iadd (pc' := 17) dX11_without_16 rfl ?_
    obtain rfl := Option.some.inj hres
    exact am_iret dX11_without_17 rfl rfl rfl
