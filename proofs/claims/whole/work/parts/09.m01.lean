set_option maxRecDepth 100000 in
set_option maxHeartbeats 4000000 in
theorem wx_X12_best_148 (S0 : sx_T) (k107 : Int32 → Int32 → Int32 → Int32 → sm_T → Option (Int32 × sm_T)) (hk107 : ∀ (v3 : Int32) (v4 : Int32) (v5 : Int32) (v6 : Int32) (S : sm_T) (res : Int32 × sm_T), k107 v3 v4 v5 v6 S = some res → am_G mX12_best (none, 5, 0, 0, (some (.int res.1)), (sx_w S0 (sm_w res.2))) (0, 0) 107 [some (.ref 45), none, none, some (.int v3), some (.int v4), some (.int v5), some (.int v6), none, none] [] (sx_w S0 (sm_w S))) : ∀ (v3 : Int32) (v4 : Int32) (v5 : Int32) (v6 : Int32) (v7 : Int32) (S : sm_T) (res : Int32 × sm_T) (hres : fx_X12_best_148 k107 v3 v4 v5 v6 v7 S = some res), am_G mX12_best (none, 5, 0, 0, (some (.int res.1)), (sx_w S0 (sm_w res.2))) (0, 0) 148 [some (.ref 45), none, none, some (.int v3), some (.int v4), some (.int v5), some (.int v6), some (.int v7), none] [] (sx_w S0 (sm_w S)) := by
  intro v3 v4 v5 v6 v7 S res hres
  rw [fx_X12_best_148] at hres
  refine am_aload_n (pc' := 149) 0 dX12_best_148 rfl rfl rfl ?_
  refine am_iload (pc' := 151) dX12_best_149 rfl rfl ?_
  obtain ⟨q10, hq11, hres⟩ := am_bd_s hres
  refine am_cV (pc' := 154) (st' := [.int q10]) [] [.int v6] dX12_best_151 cs_X12_229 (tx_X12_digitsOf S0 v6 S _ hq11) rfl rfl rfl (sm_c45 S0 S) rfl rfl rfl rfl rfl ?_
  refine am_istore (pc' := 156) (ls' := [some (.ref 45), none, none, some (.int v3), some (.int v4), some (.int v5), some (.int v6), some (.int v7), some (.int q10)]) dX12_best_154 (Nat.le_of_ble_eq_true rfl) rfl rfl rfl ?_
  refine am_iload (pc' := 158) dX12_best_156 rfl rfl ?_
  refine am_if_ne (pc' := 161) 166 dX12_best_158 rfl rfl (fun hc12 => ?_) (fun hc12 => ?_)
  · rw [if_neg hc12] at hres
    refine am_iload (pc' := 168) dX12_best_166 rfl rfl ?_
    refine am_istore (pc' := 170) (ls' := [some (.ref 45), none, none, some (.int v3), some (.int q10), some (.int v5), some (.int v6), some (.int v7), some (.int q10)]) dX12_best_168 (Nat.le_of_ble_eq_true rfl) rfl rfl rfl ?_
    refine am_iload (pc' := 172) dX12_best_170 rfl rfl ?_
    refine am_if_ne (pc' := 175) 180 dX12_best_172 rfl rfl (fun hc13 => ?_) (fun hc13 => ?_)
    · rw [if_neg hc13] at hres
      refine am_iload (pc' := 182) dX12_best_180 rfl rfl ?_
      refine am_istore (pc' := 184) (ls' := [some (.ref 45), none, none, some (.int v3), some (.int q10), some (.int v7), some (.int v6), some (.int v7), some (.int q10)]) dX12_best_182 (Nat.le_of_ble_eq_true rfl) rfl rfl rfl ?_
      refine am_iinc (pc' := 187) (ls' := [some (.ref 45), none, none, some (.int v3), some (.int q10), some (.int v7), some (.int (v6 + (1 : Int32))), some (.int v7), some (.int q10)]) dX12_best_184 rfl (show v6 + Int32.ofInt 1 = (v6 + (1 : Int32)) from congrArg (fun z => v6 + z) kc_1) (Nat.le_of_ble_eq_true rfl) rfl rfl rfl ?_
      refine am_goto 107 dX12_best_187 rfl ?_
      refine am_weak (ls' := [some (.ref 45), none, none, some (.int v3), some (.int q10), some (.int v7), some (.int (v6 + (1 : Int32))), none, none]) [false, false, false, false, false, false, false, true, true] rfl ?_
      exact hk107 _ _ _ _ _ _ hres
    · rw [if_pos hc13] at hres
      refine am_iload (pc' := 177) dX12_best_175 rfl rfl ?_
      refine am_goto 182 dX12_best_177 rfl ?_
      refine am_istore (pc' := 184) (ls' := [some (.ref 45), none, none, some (.int v3), some (.int q10), some (.int v5), some (.int v6), some (.int v7), some (.int q10)]) dX12_best_182 (Nat.le_of_ble_eq_true rfl) rfl rfl rfl ?_
      refine am_iinc (pc' := 187) (ls' := [some (.ref 45), none, none, some (.int v3), some (.int q10), some (.int v5), some (.int (v6 + (1 : Int32))), some (.int v7), some (.int q10)]) dX12_best_184 rfl (show v6 + Int32.ofInt 1 = (v6 + (1 : Int32)) from congrArg (fun z => v6 + z) kc_1) (Nat.le_of_ble_eq_true rfl) rfl rfl rfl ?_
      refine am_goto 107 dX12_best_187 rfl ?_
      refine am_weak (ls' := [some (.ref 45), none, none, some (.int v3), some (.int q10), some (.int v5), some (.int (v6 + (1 : Int32))), none, none]) [false, false, false, false, false, false, false, true, true] rfl ?_
      exact hk107 _ _ _ _ _ _ hres
  · rw [if_pos hc12] at hres
    refine am_iload (pc' := 163) dX12_best_161 rfl rfl ?_
    refine am_goto 168 dX12_best_163 rfl ?_
    refine am_istore (pc' := 170) (ls' := [some (.ref 45), none, none, some (.int v3), some (.int v4), some (.int v5), some (.int v6), some (.int v7), some (.int q10)]) dX12_best_168 (Nat.le_of_ble_eq_true rfl) rfl rfl rfl ?_
    refine am_iload (pc' := 172) dX12_best_170 rfl rfl ?_
    refine am_if_ne (pc' := 175) 180 dX12_best_172 rfl rfl (fun hc14 => ?_) (fun hc14 => ?_)
    · rw [if_neg hc14] at hres
      refine am_iload (pc' := 182) dX12_best_180 rfl rfl ?_
      refine am_istore (pc' := 184) (ls' := [some (.ref 45), none, none, some (.int v3), some (.int v4), some (.int v7), some (.int v6), some (.int v7), some (.int q10)]) dX12_best_182 (Nat.le_of_ble_eq_true rfl) rfl rfl rfl ?_
      refine am_iinc (pc' := 187) (ls' := [some (.ref 45), none, none, some (.int v3), some (.int v4), some (.int v7), some (.int (v6 + (1 : Int32))), some (.int v7), some (.int q10)]) dX12_best_184 rfl (show v6 + Int32.ofInt 1 = (v6 + (1 : Int32)) from congrArg (fun z => v6 + z) kc_1) (Nat.le_of_ble_eq_true rfl) rfl rfl rfl ?_
      refine am_goto 107 dX12_best_187 rfl ?_
      refine am_weak (ls' := [some (.ref 45), none, none, some (.int v3), some (.int v4), some (.int v7), some (.int (v6 + (1 : Int32))), none, none]) [false, false, false, false, false, false, false, true, true] rfl ?_
      exact hk107 _ _ _ _ _ _ hres
    · rw [if_pos hc14] at hres
      refine am_iload (pc' := 177) dX12_best_175 rfl rfl ?_
      refine am_goto 182 dX12_best_177 rfl ?_
      refine am_istore (pc' := 184) (ls' := [some (.ref 45), none, none, some (.int v3), some (.int v4), some (.int v5), some (.int v6), some (.int v7), some (.int q10)]) dX12_best_182 (Nat.le_of_ble_eq_true rfl) rfl rfl rfl ?_
      refine am_iinc (pc' := 187) (ls' := [some (.ref 45), none, none, some (.int v3), some (.int v4), some (.int v5), some (.int (v6 + (1 : Int32))), some (.int v7), some (.int q10)]) dX12_best_184 rfl (show v6 + Int32.ofInt 1 = (v6 + (1 : Int32)) from congrArg (fun z => v6 + z) kc_1) (Nat.le_of_ble_eq_true rfl) rfl rfl rfl ?_
      refine am_goto 107 dX12_best_187 rfl ?_
      refine am_weak (ls' := [some (.ref 45), none, none, some (.int v3), some (.int v4), some (.int v5), some (.int (v6 + (1 : Int32))), none, none]) [false, false, false, false, false, false, false, true, true] rfl ?_
      exact hk107 _ _ _ _ _ _ hres

set_option maxRecDepth 100000 in
set_option maxHeartbeats 4000000 in
theorem wx_X12_best_107 (S0 : sx_T) : ∀ (n : Nat) (v3 : Int32) (v4 : Int32) (v5 : Int32) (v6 : Int32) (S : sm_T) (res : Int32 × sm_T) (hres : fx_X12_best_107 n v3 v4 v5 v6 S = some res), am_G mX12_best (none, 5, 0, 0, (some (.int res.1)), (sx_w S0 (sm_w res.2))) (0, 0) 107 [some (.ref 45), none, none, some (.int v3), some (.int v4), some (.int v5), some (.int v6), none, none] [] (sx_w S0 (sm_w S)) := by
  intro n
  induction n with
  | zero =>
    intro v3 v4 v5 v6 S res hres
    cases hres
  | succ n ih =>
    intro v3 v4 v5 v6 S res hres
    rw [fx_X12_best_107] at hres
    refine am_iload (pc' := 109) dX12_best_107 rfl rfl ?_
    refine am_ldc (pc' := 111) dX12_best_109 ck_X12_228 rfl ?_
    refine am_icmp_ge (pc' := 114) 190 dX12_best_111 rfl rfl (fun hc6 => ?_) (fun hc6 => ?_)
    · rw [if_pos hc6] at hres
      refine am_iload_n (pc' := 191) 3 dX12_best_190 rfl rfl rfl ?_
      refine am_if_ne (pc' := 194) 199 dX12_best_191 rfl rfl (fun hc7 => ?_) (fun hc7 => ?_)
      · rw [if_neg hc7] at hres
        refine am_iload (pc' := 201) dX12_best_199 rfl rfl ?_
        obtain rfl := Option.some.inj hres
        exact am_iret dX12_best_201 rfl rfl rfl
      · rw [if_pos hc7] at hres
        refine am_iload (pc' := 196) dX12_best_194 rfl rfl ?_
        refine am_goto 201 dX12_best_196 rfl ?_
        obtain rfl := Option.some.inj hres
        exact am_iret dX12_best_201 rfl rfl rfl
    · rw [if_neg hc6] at hres
      refine am_aload_n (pc' := 115) 0 dX12_best_114 rfl rfl rfl ?_
      refine am_get (pc' := 118) (v := .ref 64) dX12_best_115 fl_X12_68 (sm_c45 S0 S) rfl rfl ?_
      refine am_bipush (pc' := 120) (v := 6) dX12_best_118 kb_6 rfl ?_
      refine am_iload (pc' := 122) dX12_best_120 rfl rfl ?_
      refine am_sipush (pc' := 125) (v := 7776) dX12_best_122 ks_7776 rfl ?_
      refine am_idiv (pc' := 126) dX12_best_125 (by decide) rfl ?_
      refine am_imul (pc' := 127) dX12_best_126 rfl ?_
      refine am_iload (pc' := 129) dX12_best_127 rfl rfl ?_
      refine am_bipush (pc' := 131) (v := 6) dX12_best_129 kb_6 rfl ?_
      refine am_irem (pc' := 132) dX12_best_131 (by decide) rfl ?_
      refine am_iadd (pc' := 133) dX12_best_132 rfl ?_
      obtain ⟨hr8, hres⟩ := am_rg hres
      refine am_iald (pc' := 134) (f := (sm_mindBy S)) dX12_best_133 (sm_c64 S0 S) hr8 rfl ?_
      refine am_istore (pc' := 136) (ls' := [some (.ref 45), none, none, some (.int v3), some (.int v4), some (.int v5), some (.int v6), some (.int ((sm_mindBy S) (((6 : Int32) * (v6 / (7776 : Int32))) + (v6 - v6 / (6 : Int32) * (6 : Int32))).toNatClampNeg)), none]) dX12_best_134 (Nat.le_of_ble_eq_true rfl) rfl rfl rfl ?_
      refine am_iload (pc' := 138) dX12_best_136 rfl rfl ?_
      refine am_if_eq (pc' := 141) 148 dX12_best_138 rfl rfl (fun hc9 => ?_) (fun hc9 => ?_)
      · rw [if_pos hc9] at hres
        exact wx_X12_best_148 S0 _ (fun a0 a1 a2 a3 a4 => ih a0 a1 a2 a3 a4) _ _ _ _ _ _ _ hres
      · rw [if_neg hc9] at hres
        refine am_iload (pc' := 143) dX12_best_141 rfl rfl ?_
        refine am_iload (pc' := 145) dX12_best_143 rfl rfl ?_
        refine am_icmp_le (pc' := 148) 184 dX12_best_145 rfl rfl (fun hc15 => ?_) (fun hc15 => ?_)
        · rw [if_pos hc15] at hres
          refine am_iinc (pc' := 187) (ls' := [some (.ref 45), none, none, some (.int v3), some (.int v4), some (.int v5), some (.int (v6 + (1 : Int32))), some (.int ((sm_mindBy S) (((6 : Int32) * (v6 / (7776 : Int32))) + (v6 - v6 / (6 : Int32) * (6 : Int32))).toNatClampNeg)), none]) dX12_best_184 rfl (show v6 + Int32.ofInt 1 = (v6 + (1 : Int32)) from congrArg (fun z => v6 + z) kc_1) (Nat.le_of_ble_eq_true rfl) rfl rfl rfl ?_
          refine am_goto 107 dX12_best_187 rfl ?_
          refine am_weak (ls' := [some (.ref 45), none, none, some (.int v3), some (.int v4), some (.int v5), some (.int (v6 + (1 : Int32))), none, none]) [false, false, false, false, false, false, false, true, false] rfl ?_
          exact ih _ _ _ _ _ _ hres
        · rw [if_neg hc15] at hres
          exact wx_X12_best_148 S0 _ (fun a0 a1 a2 a3 a4 => ih a0 a1 a2 a3 a4) _ _ _ _ _ _ _ hres

set_option maxRecDepth 100000 in
set_option maxHeartbeats 4000000 in
theorem wx_X12_best_65 (S0 : sx_T) : ∀ (n : Nat) (v1 : Int32) (v2 : Int32) (v3 : Int32) (v4 : Int32) (S : sm_T) (res : Int32 × sm_T) (hres : fx_X12_best_65 n v1 v2 v3 v4 S = some res), am_G mX12_best (none, 5, 0, 0, (some (.int res.1)), (sx_w S0 (sm_w res.2))) (0, 0) 65 [some (.ref 45), some (.int v1), some (.int v2), some (.int v3), some (.int v4), none, none, none, none] [] (sx_w S0 (sm_w S)) := by
  intro n
  induction n with
  | zero =>
    intro v1 v2 v3 v4 S res hres
    cases hres
  | succ n ih =>
    intro v1 v2 v3 v4 S res hres
    rw [fx_X12_best_65] at hres
    refine am_iload (pc' := 67) dX12_best_65 rfl rfl ?_
    refine am_aload_n (pc' := 68) 0 dX12_best_67 rfl rfl rfl ?_
    refine am_get (pc' := 71) (v := .int (sm_viewers S)) dX12_best_68 fl_X12_87 (sm_c45 S0 S) rfl rfl ?_
    refine am_icmp_ge (pc' := 74) 98 dX12_best_71 rfl rfl (fun hc5 => ?_) (fun hc5 => ?_)
    · rw [if_pos hc5] at hres
      refine am_iconst (pc' := 99) (v := 0) dX12_best_98 kc_0 rfl ?_
      refine am_istore (pc' := 101) (ls' := [some (.ref 45), some (.int v1), some (.int v2), some (.int v3), some (.int (0 : Int32)), none, none, none, none]) dX12_best_99 (Nat.le_of_ble_eq_true rfl) rfl rfl rfl ?_
      refine am_iconst (pc' := 102) (v := 0) dX12_best_101 kc_0 rfl ?_
      refine am_istore (pc' := 104) (ls' := [some (.ref 45), some (.int v1), some (.int v2), some (.int v3), some (.int (0 : Int32)), some (.int (0 : Int32)), none, none, none]) dX12_best_102 (Nat.le_of_ble_eq_true rfl) rfl rfl rfl ?_
      refine am_iconst (pc' := 105) (v := 0) dX12_best_104 kc_0 rfl ?_
      refine am_istore (pc' := 107) (ls' := [some (.ref 45), some (.int v1), some (.int v2), some (.int v3), some (.int (0 : Int32)), some (.int (0 : Int32)), some (.int (0 : Int32)), none, none]) dX12_best_105 (Nat.le_of_ble_eq_true rfl) rfl rfl rfl ?_
      refine am_weak (ls' := [some (.ref 45), none, none, some (.int v3), some (.int (0 : Int32)), some (.int (0 : Int32)), some (.int (0 : Int32)), none, none]) [false, true, true, false, false, false, false, false, false] rfl ?_
      exact wx_X12_best_107 S0 am_fu _ _ _ _ _ _ hres
    · rw [if_neg hc5] at hres
      refine am_iload_n (pc' := 75) 1 dX12_best_74 rfl rfl rfl ?_
      refine am_iconst (pc' := 76) (v := (-1)) dX12_best_75 kc_m1 rfl ?_
      refine am_icmp_eq (pc' := 79) 85 dX12_best_76 rfl rfl (fun hc16 => ?_) (fun hc16 => ?_)
      · rw [if_pos hc16] at hres
        refine am_aload_n (pc' := 86) 0 dX12_best_85 rfl rfl rfl ?_
        refine am_iload (pc' := 88) dX12_best_86 rfl rfl ?_
        refine am_iload_n (pc' := 89) 2 dX12_best_88 rfl rfl rfl ?_
        obtain ⟨q17, hq18, hres⟩ := am_bd_s hres
        refine am_cV (pc' := 92) (st' := []) [] [.int v4, .int v2] dX12_best_89 cs_X12_224 (tx_X12_addsMinds S0 v4 v2 S _ hq18) rfl rfl rfl (sm_c45 S0 S) rfl rfl rfl rfl rfl ?_
        refine am_iinc (pc' := 95) (ls' := [some (.ref 45), some (.int v1), some (.int v2), some (.int v3), some (.int (v4 + (1 : Int32))), none, none, none, none]) dX12_best_92 rfl (show v4 + Int32.ofInt 1 = (v4 + (1 : Int32)) from congrArg (fun z => v4 + z) kc_1) (Nat.le_of_ble_eq_true rfl) rfl rfl rfl ?_
        refine am_goto 65 dX12_best_95 rfl ?_
        exact ih _ _ _ _ _ _ hres
      · rw [if_neg hc16] at hres
        refine am_iload_n (pc' := 80) 1 dX12_best_79 rfl rfl rfl ?_
        refine am_iload (pc' := 82) dX12_best_80 rfl rfl ?_
        refine am_icmp_ne (pc' := 85) 92 dX12_best_82 rfl rfl (fun hc19 => ?_) (fun hc19 => ?_)
        · rw [if_neg hc19] at hres
          refine am_iinc (pc' := 95) (ls' := [some (.ref 45), some (.int v1), some (.int v2), some (.int v3), some (.int (v4 + (1 : Int32))), none, none, none, none]) dX12_best_92 rfl (show v4 + Int32.ofInt 1 = (v4 + (1 : Int32)) from congrArg (fun z => v4 + z) kc_1) (Nat.le_of_ble_eq_true rfl) rfl rfl rfl ?_
          refine am_goto 65 dX12_best_95 rfl ?_
          exact ih _ _ _ _ _ _ hres
        · rw [if_pos hc19] at hres
          refine am_aload_n (pc' := 86) 0 dX12_best_85 rfl rfl rfl ?_
          refine am_iload (pc' := 88) dX12_best_86 rfl rfl ?_
          refine am_iload_n (pc' := 89) 2 dX12_best_88 rfl rfl rfl ?_
          obtain ⟨q20, hq21, hres⟩ := am_bd_s hres
          refine am_cV (pc' := 92) (st' := []) [] [.int v4, .int v2] dX12_best_89 cs_X12_224 (tx_X12_addsMinds S0 v4 v2 S _ hq21) rfl rfl rfl (sm_c45 S0 S) rfl rfl rfl rfl rfl ?_
          refine am_iinc (pc' := 95) (ls' := [some (.ref 45), some (.int v1), some (.int v2), some (.int v3), some (.int (v4 + (1 : Int32))), none, none, none, none]) dX12_best_92 rfl (show v4 + Int32.ofInt 1 = (v4 + (1 : Int32)) from congrArg (fun z => v4 + z) kc_1) (Nat.le_of_ble_eq_true rfl) rfl rfl rfl ?_
          refine am_goto 65 dX12_best_95 rfl ?_
          exact ih _ _ _ _ _ _ hres

set_option maxRecDepth 100000 in
set_option maxHeartbeats 4000000 in
theorem wx_X12_best_41 (S0 : sx_T) : ∀ (n : Nat) (v1 : Int32) (v2 : Int32) (v3 : Int32) (v4 : Int32) (S : sm_T) (res : Int32 × sm_T) (hres : fx_X12_best_41 n v1 v2 v3 v4 S = some res), am_G mX12_best (none, 5, 0, 0, (some (.int res.1)), (sx_w S0 (sm_w res.2))) (0, 0) 41 [some (.ref 45), some (.int v1), some (.int v2), some (.int v3), some (.int v4), none, none, none, none] [] (sx_w S0 (sm_w S)) := by
  intro n
  induction n with
  | zero =>
    intro v1 v2 v3 v4 S res hres
    cases hres
  | succ n ih =>
    intro v1 v2 v3 v4 S res hres
    rw [fx_X12_best_41] at hres
    refine am_iload (pc' := 43) dX12_best_41 rfl rfl ?_
    refine am_bipush (pc' := 45) (v := 36) dX12_best_43 kb_36 rfl ?_
    refine am_icmp_ge (pc' := 48) 62 dX12_best_45 rfl rfl (fun hc4 => ?_) (fun hc4 => ?_)
    · rw [if_pos hc4] at hres
      refine am_iconst (pc' := 63) (v := 0) dX12_best_62 kc_0 rfl ?_
      refine am_istore (pc' := 65) (ls' := [some (.ref 45), some (.int v1), some (.int v2), some (.int v3), some (.int (0 : Int32)), none, none, none, none]) dX12_best_63 (Nat.le_of_ble_eq_true rfl) rfl rfl rfl ?_
      exact wx_X12_best_65 S0 am_fu _ _ _ _ _ _ hres
    · rw [if_neg hc4] at hres
      refine am_aload_n (pc' := 49) 0 dX12_best_48 rfl rfl rfl ?_
      refine am_get (pc' := 52) (v := .ref 64) dX12_best_49 fl_X12_68 (sm_c45 S0 S) rfl rfl ?_
      refine am_iload (pc' := 54) dX12_best_52 rfl rfl ?_
      refine am_iconst (pc' := 55) (v := 0) dX12_best_54 kc_0 rfl ?_
      obtain ⟨hr22, hres⟩ := am_rg hres
      refine am_iast (pc' := 56) (f := (sm_mindBy S)) (ws' := (sx_w S0 (sm_w (um_mindBy S (upd (sm_mindBy S) v4.toNatClampNeg (0 : Int32)))))) dX12_best_55 (sm_c64 S0 S) hr22 (sm_p_mindBy S0 S _) rfl ?_
      refine am_iinc (pc' := 59) (ls' := [some (.ref 45), some (.int v1), some (.int v2), some (.int v3), some (.int (v4 + (1 : Int32))), none, none, none, none]) dX12_best_56 rfl (show v4 + Int32.ofInt 1 = (v4 + (1 : Int32)) from congrArg (fun z => v4 + z) kc_1) (Nat.le_of_ble_eq_true rfl) rfl rfl rfl ?_
      refine am_goto 41 dX12_best_59 rfl ?_
      exact ih _ _ _ _ _ _ hres

set_option maxRecDepth 100000 in
set_option maxHeartbeats 4000000 in
theorem tx_X12_best (S0 : sx_T) (a1 : Int32) (a2 : Int32) (a3 : Int32) (S : sm_T) (res : Int32 × sm_T) (hres : fx_X12_best a1 a2 a3 S = some res) : am_T mX12_best 5 0 0 [.ref 45, .int a1, .int a2, .int a3] (sx_w S0 (sm_w S)) (some (.int res.1)) (sx_w S0 (sm_w res.2)) := by
  refine am_meth (ls := [some (.ref 45), some (.int a1), some (.int a2), some (.int a3), none, none, none, none, none]) (by decide +kernel) rfl (Nat.le_of_ble_eq_true rfl) (sm_len _ _ _ _) ?_
  rw [fx_X12_best] at hres
  refine am_iload_n (pc' := 1) 1 dX12_best_0 rfl rfl rfl ?_
  refine am_iconst (pc' := 2) (v := (-1)) dX12_best_1 kc_m1 rfl ?_
  refine am_icmp_eq (pc' := 5) 16 dX12_best_2 rfl rfl (fun hc1 => ?_) (fun hc1 => ?_)
  · rw [if_pos hc1] at hres
    refine am_iload_n (pc' := 17) 2 dX12_best_16 rfl rfl rfl ?_
    refine am_iconst (pc' := 18) (v := 1) dX12_best_17 kc_1 rfl ?_
    refine am_bipush (pc' := 20) (v := 8) dX12_best_18 kb_8 rfl ?_
    refine am_cS (pc' := 23) (st' := [.int (fx_X12_in a2 (1 : Int32) (8 : Int32))]) [] [.int a2, .int (1 : Int32), .int (8 : Int32)] dX12_best_20 cs_X12_90 (tx_X12_in (sx_w S0 (sm_w S)) a2 (1 : Int32) (8 : Int32) _ rfl) rfl rfl rfl rfl rfl rfl ?_
    refine am_if_eq (pc' := 26) 35 dX12_best_23 rfl rfl (fun hc2 => ?_) (fun hc2 => ?_)
    · rw [if_pos hc2] at hres
      refine am_ldc (pc' := 37) dX12_best_35 ck_X12_201 rfl ?_
      obtain rfl := Option.some.inj hres
      exact am_iret dX12_best_37 rfl rfl rfl
    · rw [if_neg hc2] at hres
      refine am_iload_n (pc' := 27) 3 dX12_best_26 rfl rfl rfl ?_
      refine am_iconst (pc' := 28) (v := 0) dX12_best_27 kc_0 rfl ?_
      refine am_iconst (pc' := 29) (v := 1) dX12_best_28 kc_1 rfl ?_
      refine am_cS (pc' := 32) (st' := [.int (fx_X12_in a3 (0 : Int32) (1 : Int32))]) [] [.int a3, .int (0 : Int32), .int (1 : Int32)] dX12_best_29 cs_X12_90 (tx_X12_in (sx_w S0 (sm_w S)) a3 (0 : Int32) (1 : Int32) _ rfl) rfl rfl rfl rfl rfl rfl ?_
      refine am_if_ne (pc' := 35) 38 dX12_best_32 rfl rfl (fun hc3 => ?_) (fun hc3 => ?_)
      · rw [if_neg hc3] at hres
        refine am_iconst (pc' := 39) (v := 0) dX12_best_38 kc_0 rfl ?_
        refine am_istore (pc' := 41) (ls' := [some (.ref 45), some (.int a1), some (.int a2), some (.int a3), some (.int (0 : Int32)), none, none, none, none]) dX12_best_39 (Nat.le_of_ble_eq_true rfl) rfl rfl rfl ?_
        exact wx_X12_best_41 S0 am_fu _ _ _ _ _ _ hres
      · rw [if_pos hc3] at hres
        refine am_ldc (pc' := 37) dX12_best_35 ck_X12_201 rfl ?_
        obtain rfl := Option.some.inj hres
        exact am_iret dX12_best_37 rfl rfl rfl
  · rw [if_neg hc1] at hres
    refine am_aload_n (pc' := 6) 0 dX12_best_5 rfl rfl rfl ?_
    refine am_iload_n (pc' := 7) 1 dX12_best_6 rfl rfl rfl ?_
    refine am_cV (pc' := 10) (st' := [.int (fx_X12_isViewer a1 S)]) [] [.int a1] dX12_best_7 cs_X12_173 (tx_X12_isViewer S0 a1 S _ rfl) rfl rfl rfl (sm_c45 S0 S) rfl rfl rfl rfl rfl ?_
    refine am_if_ne (pc' := 13) 16 dX12_best_10 rfl rfl (fun hc23 => ?_) (fun hc23 => ?_)
    · rw [if_neg hc23] at hres
      refine am_iload_n (pc' := 17) 2 dX12_best_16 rfl rfl rfl ?_
      refine am_iconst (pc' := 18) (v := 1) dX12_best_17 kc_1 rfl ?_
      refine am_bipush (pc' := 20) (v := 8) dX12_best_18 kb_8 rfl ?_
      refine am_cS (pc' := 23) (st' := [.int (fx_X12_in a2 (1 : Int32) (8 : Int32))]) [] [.int a2, .int (1 : Int32), .int (8 : Int32)] dX12_best_20 cs_X12_90 (tx_X12_in (sx_w S0 (sm_w S)) a2 (1 : Int32) (8 : Int32) _ rfl) rfl rfl rfl rfl rfl rfl ?_
      refine am_if_eq (pc' := 26) 35 dX12_best_23 rfl rfl (fun hc24 => ?_) (fun hc24 => ?_)
      · rw [if_pos hc24] at hres
        refine am_ldc (pc' := 37) dX12_best_35 ck_X12_201 rfl ?_
        obtain rfl := Option.some.inj hres
        exact am_iret dX12_best_37 rfl rfl rfl
      · rw [if_neg hc24] at hres
        refine am_iload_n (pc' := 27) 3 dX12_best_26 rfl rfl rfl ?_
        refine am_iconst (pc' := 28) (v := 0) dX12_best_27 kc_0 rfl ?_
        refine am_iconst (pc' := 29) (v := 1) dX12_best_28 kc_1 rfl ?_
        refine am_cS (pc' := 32) (st' := [.int (fx_X12_in a3 (0 : Int32) (1 : Int32))]) [] [.int a3, .int (0 : Int32), .int (1 : Int32)] dX12_best_29 cs_X12_90 (tx_X12_in (sx_w S0 (sm_w S)) a3 (0 : Int32) (1 : Int32) _ rfl) rfl rfl rfl rfl rfl rfl ?_
        refine am_if_ne (pc' := 35) 38 dX12_best_32 rfl rfl (fun hc25 => ?_) (fun hc25 => ?_)
        · rw [if_neg hc25] at hres
          refine am_iconst (pc' := 39) (v := 0) dX12_best_38 kc_0 rfl ?_
          refine am_istore (pc' := 41) (ls' := [some (.ref 45), some (.int a1), some (.int a2), some (.int a3), some (.int (0 : Int32)), none, none, none, none]) dX12_best_39 (Nat.le_of_ble_eq_true rfl) rfl rfl rfl ?_
          exact wx_X12_best_41 S0 am_fu _ _ _ _ _ _ hres
        · rw [if_pos hc25] at hres
          refine am_ldc (pc' := 37) dX12_best_35 ck_X12_201 rfl ?_
          obtain rfl := Option.some.inj hres
          exact am_iret dX12_best_37 rfl rfl rfl
    · rw [if_pos hc23] at hres
      refine am_ldc (pc' := 15) dX12_best_13 ck_X12_223 rfl ?_
      obtain rfl := Option.some.inj hres
      exact am_iret dX12_best_15 rfl rfl rfl
set_option maxRecDepth 100000 in
set_option maxHeartbeats 4000000 in
theorem tx_X12_rank (ws : am_W) (a1 : Int32) (res : Int32) (hres : fx_X12_rank a1 = res) : am_T mX12_rank 0 0 0 [.int a1] ws (some (.int res)) ws := by
  refine am_meth (ls := [some (.int a1)]) (by decide +kernel) rfl (Nat.le_of_ble_eq_true rfl) ⟨rfl, Or.inl rfl⟩ ?_
  rw [fx_X12_rank] at hres
  refine am_iload_n (pc' := 1) 0 dX12_rank_0 rfl rfl rfl ?_
  refine am_if_ne (pc' := 4) 8 dX12_rank_1 rfl rfl (fun hc1 => ?_) (fun hc1 => ?_)
  · rw [if_neg hc1] at hres
    refine am_iload_n (pc' := 9) 0 dX12_rank_8 rfl rfl rfl ?_
    refine am_bipush (pc' := 11) (v := 11) dX12_rank_9 kb_11 rfl ?_
    refine am_icmp_ne (pc' := 14) 18 dX12_rank_11 rfl rfl (fun hc2 => ?_) (fun hc2 => ?_)
    · rw [if_neg hc2] at hres
      refine am_iload_n (pc' := 19) 0 dX12_rank_18 rfl rfl rfl ?_
      refine am_bipush (pc' := 21) (v := 12) dX12_rank_19 kb_12 rfl ?_
      refine am_icmp_ne (pc' := 24) 28 dX12_rank_21 rfl rfl (fun hc3 => ?_) (fun hc3 => ?_)
      · rw [if_neg hc3] at hres
        refine am_iload_n (pc' := 29) 0 dX12_rank_28 rfl rfl rfl ?_
        refine am_bipush (pc' := 31) (v := 13) dX12_rank_29 kb_13 rfl ?_
        refine am_icmp_ne (pc' := 34) 38 dX12_rank_31 rfl rfl (fun hc4 => ?_) (fun hc4 => ?_)
        · rw [if_neg hc4] at hres
          refine am_iload_n (pc' := 39) 0 dX12_rank_38 rfl rfl rfl ?_
          refine am_bipush (pc' := 41) (v := 15) dX12_rank_39 kb_15 rfl ?_
          refine am_icmp_gt (pc' := 44) 48 dX12_rank_41 rfl rfl (fun hc5 => ?_) (fun hc5 => ?_)
          · rw [if_pos hc5] at hres
            refine am_iload_n (pc' := 49) 0 dX12_rank_48 rfl rfl rfl ?_
            refine am_bipush (pc' := 51) (v := 17) dX12_rank_49 kb_17 rfl ?_
            refine am_icmp_gt (pc' := 54) 58 dX12_rank_51 rfl rfl (fun hc6 => ?_) (fun hc6 => ?_)
            · rw [if_pos hc6] at hres
              refine am_iload_n (pc' := 59) 0 dX12_rank_58 rfl rfl rfl ?_
              refine am_bipush (pc' := 61) (v := 18) dX12_rank_59 kb_18 rfl ?_
              refine am_icmp_ne (pc' := 64) 69 dX12_rank_61 rfl rfl (fun hc7 => ?_) (fun hc7 => ?_)
              · rw [if_neg hc7] at hres
                refine am_bipush (pc' := 71) (v := 7) dX12_rank_69 kb_7 rfl ?_
                subst hres
                exact am_iret dX12_rank_71 rfl rfl rfl
              · rw [if_pos hc7] at hres
                refine am_bipush (pc' := 66) (v := 6) dX12_rank_64 kb_6 rfl ?_
                refine am_goto 71 dX12_rank_66 rfl ?_
                subst hres
                exact am_iret dX12_rank_71 rfl rfl rfl
            · rw [if_neg hc6] at hres
              refine am_iconst (pc' := 55) (v := 5) dX12_rank_54 kc_5 rfl ?_
              refine am_goto 71 dX12_rank_55 rfl ?_
              subst hres
              exact am_iret dX12_rank_71 rfl rfl rfl
          · rw [if_neg hc5] at hres
            refine am_iconst (pc' := 45) (v := 4) dX12_rank_44 kc_4 rfl ?_
            refine am_goto 71 dX12_rank_45 rfl ?_
            subst hres
            exact am_iret dX12_rank_71 rfl rfl rfl
        · rw [if_pos hc4] at hres
          refine am_iconst (pc' := 35) (v := 3) dX12_rank_34 kc_3 rfl ?_
          refine am_goto 71 dX12_rank_35 rfl ?_
          subst hres
          exact am_iret dX12_rank_71 rfl rfl rfl
      · rw [if_pos hc3] at hres
        refine am_iconst (pc' := 25) (v := 2) dX12_rank_24 kc_2 rfl ?_
        refine am_goto 71 dX12_rank_25 rfl ?_
        subst hres
        exact am_iret dX12_rank_71 rfl rfl rfl
    · rw [if_pos hc2] at hres
      refine am_iconst (pc' := 15) (v := 1) dX12_rank_14 kc_1 rfl ?_
      refine am_goto 71 dX12_rank_15 rfl ?_
      subst hres
      exact am_iret dX12_rank_71 rfl rfl rfl
  · rw [if_pos hc1] at hres
    refine am_iconst (pc' := 5) (v := 0) dX12_rank_4 kc_0 rfl ?_
    refine am_goto 71 dX12_rank_5 rfl ?_
    subst hres
    exact am_iret dX12_rank_71 rfl rfl rfl
set_option maxRecDepth 100000 in
set_option maxHeartbeats 4000000 in
theorem tx_X12_puts (S0 : sx_T) (a1 : Int32) (S : sm_T) (res : sm_T) (hres : fx_X12_puts a1 S = some res) : am_T mX12_puts 0 0 0 [.ref 45, .int a1] (sx_w S0 (sm_w S)) none (sx_w S0 (sm_w res)) := by
  refine am_meth (ls := [some (.ref 45), some (.int a1)]) (by decide +kernel) rfl (Nat.le_of_ble_eq_true rfl) (sm_len _ _ _ _) ?_
  rw [fx_X12_puts] at hres
  refine am_aload_n (pc' := 1) 0 dX12_puts_0 rfl rfl rfl ?_
  refine am_get (pc' := 4) (v := .ref 51) dX12_puts_1 fl_X12_29 (sm_c45 S0 S) rfl rfl ?_
  refine am_sipush (pc' := 7) (v := 200) dX12_puts_4 ks_200 rfl ?_
  refine am_aload_n (pc' := 8) 0 dX12_puts_7 rfl rfl rfl ?_
  refine am_get (pc' := 11) (v := .int (sm_texts S)) dX12_puts_8 fl_X12_94 (sm_c45 S0 S) rfl rfl ?_
  refine am_imul (pc' := 12) dX12_puts_11 rfl ?_
  refine am_aload_n (pc' := 13) 0 dX12_puts_12 rfl rfl rfl ?_
  refine am_get (pc' := 16) (v := .int (sm_out S)) dX12_puts_13 fl_X12_123 (sm_c45 S0 S) rfl rfl ?_
  refine am_iadd (pc' := 17) dX12_puts_16 rfl ?_
  refine am_iload_n (pc' := 18) 1 dX12_puts_17 rfl rfl rfl ?_
  obtain ⟨hr1, hres⟩ := am_rg hres
  refine am_iast (pc' := 19) (f := (sm_codes S)) (ws' := (sx_w S0 (sm_w (um_codes S (upd (sm_codes S) (((200 : Int32) * (sm_texts S)) + (sm_out S)).toNatClampNeg a1))))) dX12_puts_18 (sm_c51 S0 S) hr1 (sm_p_codes S0 S _) rfl ?_
  refine am_aload_n (pc' := 20) 0 dX12_puts_19 rfl rfl rfl ?_
  refine am_dupa (pc' := 21) dX12_puts_20 rfl ?_
  refine am_get (pc' := 24) (v := .int (sm_out S)) dX12_puts_21 fl_X12_123 (sm_c45 S0 (um_codes S (upd (sm_codes S) (((200 : Int32) * (sm_texts S)) + (sm_out S)).toNatClampNeg a1))) rfl rfl ?_
  refine am_iconst (pc' := 25) (v := 1) dX12_puts_24 kc_1 rfl ?_
  refine am_iadd (pc' := 26) dX12_puts_25 rfl ?_
  refine am_put (pc' := 29) (ws' := (sx_w S0 (sm_w (um_out (um_codes S (upd (sm_codes S) (((200 : Int32) * (sm_texts S)) + (sm_out S)).toNatClampNeg a1)) ((sm_out S) + (1 : Int32)))))) (v := .int ((sm_out S) + (1 : Int32))) dX12_puts_26 fp_X12_123 (sm_c45 S0 (um_codes S (upd (sm_codes S) (((200 : Int32) * (sm_texts S)) + (sm_out S)).toNatClampNeg a1))) (fun _ => ⟨rfl, rfl⟩) (Nat.le_of_ble_eq_true rfl) (sm_p_out S0 (um_codes S (upd (sm_codes S) (((200 : Int32) * (sm_texts S)) + (sm_out S)).toNatClampNeg a1)) _) rfl ?_
  obtain rfl := Option.some.inj hres
  exact am_vret dX12_puts_29 rfl rfl rfl
set_option maxRecDepth 100000 in
set_option maxHeartbeats 4000000 in
theorem wx_X12_unwinds_0 (S0 : sx_T) : ∀ (n : Nat) (v1 : Int32) (S : sm_T) (res : sm_T) (hres : fx_X12_unwinds_0 n v1 S = some res), am_G mX12_unwinds (none, 1, 0, 0, none, (sx_w S0 (sm_w res))) (0, 0) 0 [some (.ref 45), some (.int v1), none] [] (sx_w S0 (sm_w S)) := by
  intro n
  induction n with
  | zero =>
    intro v1 S res hres
    cases hres
  | succ n ih =>
    intro v1 S res hres
    rw [fx_X12_unwinds_0] at hres
    refine am_aload_n (pc' := 1) 0 dX12_unwinds_0 rfl rfl rfl ?_
    refine am_get (pc' := 4) (v := .int (sm_heldMany S)) dX12_unwinds_1 fl_X12_126 (sm_c45 S0 S) rfl rfl ?_
    refine am_if_le (pc' := 7) 79 dX12_unwinds_4 rfl rfl (fun hc1 => ?_) (fun hc1 => ?_)
    · rw [if_pos hc1] at hres
      obtain rfl := Option.some.inj hres
      exact am_vret dX12_unwinds_79 rfl rfl rfl
    · rw [if_neg hc1] at hres
      refine am_aload_n (pc' := 8) 0 dX12_unwinds_7 rfl rfl rfl ?_
      refine am_get (pc' := 11) (v := .ref 60) dX12_unwinds_8 fl_X12_56 (sm_c45 S0 S) rfl rfl ?_
      refine am_aload_n (pc' := 12) 0 dX12_unwinds_11 rfl rfl rfl ?_
      refine am_get (pc' := 15) (v := .int (sm_heldMany S)) dX12_unwinds_12 fl_X12_126 (sm_c45 S0 S) rfl rfl ?_
      refine am_iconst (pc' := 16) (v := 1) dX12_unwinds_15 kc_1 rfl ?_
      refine am_isub (pc' := 17) dX12_unwinds_16 rfl ?_
      obtain ⟨hr2, hres⟩ := am_rg hres
      refine am_iald (pc' := 18) (f := (sm_held S)) dX12_unwinds_17 (sm_c60 S0 S) hr2 rfl ?_
      refine am_cS (pc' := 21) (st' := [.int (fx_X12_rank ((sm_held S) ((sm_heldMany S) - (1 : Int32)).toNatClampNeg))]) [] [.int ((sm_held S) ((sm_heldMany S) - (1 : Int32)).toNatClampNeg)] dX12_unwinds_18 cs_X12_129 (tx_X12_rank (sx_w S0 (sm_w S)) ((sm_held S) ((sm_heldMany S) - (1 : Int32)).toNatClampNeg) _ rfl) rfl rfl rfl rfl rfl rfl ?_
      refine am_iload_n (pc' := 22) 1 dX12_unwinds_21 rfl rfl rfl ?_
      refine am_icmp_lt (pc' := 25) 79 dX12_unwinds_22 rfl rfl (fun hc3 => ?_) (fun hc3 => ?_)
      · rw [if_pos hc3] at hres
        obtain rfl := Option.some.inj hres
        exact am_vret dX12_unwinds_79 rfl rfl rfl
      · rw [if_neg hc3] at hres
        refine am_aload_n (pc' := 26) 0 dX12_unwinds_25 rfl rfl rfl ?_
        refine am_dupa (pc' := 27) dX12_unwinds_26 rfl ?_
        refine am_get (pc' := 30) (v := .int (sm_heldMany S)) dX12_unwinds_27 fl_X12_126 (sm_c45 S0 S) rfl rfl ?_
        refine am_iconst (pc' := 31) (v := 1) dX12_unwinds_30 kc_1 rfl ?_
        refine am_isub (pc' := 32) dX12_unwinds_31 rfl ?_
        refine am_put (pc' := 35) (ws' := (sx_w S0 (sm_w (um_heldMany S ((sm_heldMany S) - (1 : Int32)))))) (v := .int ((sm_heldMany S) - (1 : Int32))) dX12_unwinds_32 fp_X12_126 (sm_c45 S0 S) (fun _ => ⟨rfl, rfl⟩) (Nat.le_of_ble_eq_true rfl) (sm_p_heldMany S0 S _) rfl ?_
        refine am_aload_n (pc' := 36) 0 dX12_unwinds_35 rfl rfl rfl ?_
        refine am_get (pc' := 39) (v := .ref 60) dX12_unwinds_36 fl_X12_56 (sm_c45 S0 (um_heldMany S ((sm_heldMany S) - (1 : Int32)))) rfl rfl ?_
        refine am_aload_n (pc' := 40) 0 dX12_unwinds_39 rfl rfl rfl ?_
        refine am_get (pc' := 43) (v := .int ((sm_heldMany S) - (1 : Int32))) dX12_unwinds_40 fl_X12_126 (sm_c45 S0 (um_heldMany S ((sm_heldMany S) - (1 : Int32)))) rfl rfl ?_
        obtain ⟨hr4, hres⟩ := am_rg hres
        refine am_iald (pc' := 44) (f := (sm_held S)) dX12_unwinds_43 (sm_c60 S0 (um_heldMany S ((sm_heldMany S) - (1 : Int32)))) hr4 rfl ?_
        refine am_istore_n (pc' := 45) (ls' := [some (.ref 45), some (.int v1), some (.int ((sm_held S) ((sm_heldMany S) - (1 : Int32)).toNatClampNeg))]) 2 dX12_unwinds_44 rfl (Nat.le_of_ble_eq_true rfl) rfl rfl rfl ?_
        refine am_aload_n (pc' := 46) 0 dX12_unwinds_45 rfl rfl rfl ?_
        refine am_dupa (pc' := 47) dX12_unwinds_46 rfl ?_
        refine am_get (pc' := 50) (v := .int (sm_opens S)) dX12_unwinds_47 fl_X12_133 (sm_c45 S0 (um_heldMany S ((sm_heldMany S) - (1 : Int32)))) rfl rfl ?_
        refine am_iload_n (pc' := 51) 2 dX12_unwinds_50 rfl rfl rfl ?_
        refine am_bipush (pc' := 53) (v := 13) dX12_unwinds_51 kb_13 rfl ?_
        refine am_icmp_eq (pc' := 56) 62 dX12_unwinds_53 rfl rfl (fun hc5 => ?_) (fun hc5 => ?_)
        · rw [if_pos hc5] at hres
          refine am_iconst (pc' := 63) (v := 1) dX12_unwinds_62 kc_1 rfl ?_
          refine am_goto 67 dX12_unwinds_63 rfl ?_
          refine am_isub (pc' := 68) dX12_unwinds_67 rfl ?_
          refine am_put (pc' := 71) (ws' := (sx_w S0 (sm_w (um_opens (um_heldMany S ((sm_heldMany S) - (1 : Int32))) ((sm_opens S) - (1 : Int32)))))) (v := .int ((sm_opens S) - (1 : Int32))) dX12_unwinds_68 fp_X12_133 (sm_c45 S0 (um_heldMany S ((sm_heldMany S) - (1 : Int32)))) (fun _ => ⟨rfl, rfl⟩) (Nat.le_of_ble_eq_true rfl) (sm_p_opens S0 (um_heldMany S ((sm_heldMany S) - (1 : Int32))) _) rfl ?_
          refine am_aload_n (pc' := 72) 0 dX12_unwinds_71 rfl rfl rfl ?_
          refine am_iload_n (pc' := 73) 2 dX12_unwinds_72 rfl rfl rfl ?_
          obtain ⟨q6, hq7, hres⟩ := am_bd_s hres
          refine am_cV (pc' := 76) (st' := []) [] [.int ((sm_held S) ((sm_heldMany S) - (1 : Int32)).toNatClampNeg)] dX12_unwinds_73 cs_X12_136 (tx_X12_puts S0 ((sm_held S) ((sm_heldMany S) - (1 : Int32)).toNatClampNeg) (um_opens (um_heldMany S ((sm_heldMany S) - (1 : Int32))) ((sm_opens S) - (1 : Int32))) _ hq7) rfl rfl rfl (sm_c45 S0 (um_opens (um_heldMany S ((sm_heldMany S) - (1 : Int32))) ((sm_opens S) - (1 : Int32)))) rfl rfl rfl rfl rfl ?_
          refine am_goto 0 dX12_unwinds_76 rfl ?_
          refine am_weak (ls' := [some (.ref 45), some (.int v1), none]) [false, false, true] rfl ?_
          exact ih _ _ _ hres
        · rw [if_neg hc5] at hres
          refine am_iload_n (pc' := 57) 2 dX12_unwinds_56 rfl rfl rfl ?_
          refine am_bipush (pc' := 59) (v := 19) dX12_unwinds_57 kb_19 rfl ?_
          refine am_icmp_ne (pc' := 62) 66 dX12_unwinds_59 rfl rfl (fun hc8 => ?_) (fun hc8 => ?_)
          · rw [if_neg hc8] at hres
            refine am_iconst (pc' := 67) (v := 0) dX12_unwinds_66 kc_0 rfl ?_
            refine am_isub (pc' := 68) dX12_unwinds_67 rfl ?_
            refine am_put (pc' := 71) (ws' := (sx_w S0 (sm_w (um_opens (um_heldMany S ((sm_heldMany S) - (1 : Int32))) ((sm_opens S) - (0 : Int32)))))) (v := .int ((sm_opens S) - (0 : Int32))) dX12_unwinds_68 fp_X12_133 (sm_c45 S0 (um_heldMany S ((sm_heldMany S) - (1 : Int32)))) (fun _ => ⟨rfl, rfl⟩) (Nat.le_of_ble_eq_true rfl) (sm_p_opens S0 (um_heldMany S ((sm_heldMany S) - (1 : Int32))) _) rfl ?_
            refine am_aload_n (pc' := 72) 0 dX12_unwinds_71 rfl rfl rfl ?_
            refine am_iload_n (pc' := 73) 2 dX12_unwinds_72 rfl rfl rfl ?_
            obtain ⟨q9, hq10, hres⟩ := am_bd_s hres
            refine am_cV (pc' := 76) (st' := []) [] [.int ((sm_held S) ((sm_heldMany S) - (1 : Int32)).toNatClampNeg)] dX12_unwinds_73 cs_X12_136 (tx_X12_puts S0 ((sm_held S) ((sm_heldMany S) - (1 : Int32)).toNatClampNeg) (um_opens (um_heldMany S ((sm_heldMany S) - (1 : Int32))) ((sm_opens S) - (0 : Int32))) _ hq10) rfl rfl rfl (sm_c45 S0 (um_opens (um_heldMany S ((sm_heldMany S) - (1 : Int32))) ((sm_opens S) - (0 : Int32)))) rfl rfl rfl rfl rfl ?_
            refine am_goto 0 dX12_unwinds_76 rfl ?_
            refine am_weak (ls' := [some (.ref 45), some (.int v1), none]) [false, false, true] rfl ?_
            exact ih _ _ _ hres
          · rw [if_pos hc8] at hres
            refine am_iconst (pc' := 63) (v := 1) dX12_unwinds_62 kc_1 rfl ?_
            refine am_goto 67 dX12_unwinds_63 rfl ?_
            refine am_isub (pc' := 68) dX12_unwinds_67 rfl ?_
            refine am_put (pc' := 71) (ws' := (sx_w S0 (sm_w (um_opens (um_heldMany S ((sm_heldMany S) - (1 : Int32))) ((sm_opens S) - (1 : Int32)))))) (v := .int ((sm_opens S) - (1 : Int32))) dX12_unwinds_68 fp_X12_133 (sm_c45 S0 (um_heldMany S ((sm_heldMany S) - (1 : Int32)))) (fun _ => ⟨rfl, rfl⟩) (Nat.le_of_ble_eq_true rfl) (sm_p_opens S0 (um_heldMany S ((sm_heldMany S) - (1 : Int32))) _) rfl ?_
            refine am_aload_n (pc' := 72) 0 dX12_unwinds_71 rfl rfl rfl ?_
            refine am_iload_n (pc' := 73) 2 dX12_unwinds_72 rfl rfl rfl ?_
            obtain ⟨q11, hq12, hres⟩ := am_bd_s hres
            refine am_cV (pc' := 76) (st' := []) [] [.int ((sm_held S) ((sm_heldMany S) - (1 : Int32)).toNatClampNeg)] dX12_unwinds_73 cs_X12_136 (tx_X12_puts S0 ((sm_held S) ((sm_heldMany S) - (1 : Int32)).toNatClampNeg) (um_opens (um_heldMany S ((sm_heldMany S) - (1 : Int32))) ((sm_opens S) - (1 : Int32))) _ hq12) rfl rfl rfl (sm_c45 S0 (um_opens (um_heldMany S ((sm_heldMany S) - (1 : Int32))) ((sm_opens S) - (1 : Int32)))) rfl rfl rfl rfl rfl ?_
            refine am_goto 0 dX12_unwinds_76 rfl ?_
            refine am_weak (ls' := [some (.ref 45), some (.int v1), none]) [false, false, true] rfl ?_
            exact ih _ _ _ hres

set_option maxRecDepth 100000 in
set_option maxHeartbeats 4000000 in
theorem tx_X12_unwinds (S0 : sx_T) (a1 : Int32) (S : sm_T) (res : sm_T) (hres : fx_X12_unwinds a1 S = some res) : am_T mX12_unwinds 1 0 0 [.ref 45, .int a1] (sx_w S0 (sm_w S)) none (sx_w S0 (sm_w res)) := by
  refine am_meth (ls := [some (.ref 45), some (.int a1), none]) (by decide +kernel) rfl (Nat.le_of_ble_eq_true rfl) (sm_len _ _ _ _) ?_
  rw [fx_X12_unwinds] at hres
  exact wx_X12_unwinds_0 S0 am_fu _ _ _ hres
set_option maxRecDepth 100000 in
set_option maxHeartbeats 4000000 in
theorem tx_X12_holds (S0 : sx_T) (a1 : Int32) (S : sm_T) (res : sm_T) (hres : fx_X12_holds a1 S = some res) : am_T mX12_holds 0 0 0 [.ref 45, .int a1] (sx_w S0 (sm_w S)) none (sx_w S0 (sm_w res)) := by
  refine am_meth (ls := [some (.ref 45), some (.int a1)]) (by decide +kernel) rfl (Nat.le_of_ble_eq_true rfl) (sm_len _ _ _ _) ?_
  rw [fx_X12_holds] at hres
  refine am_aload_n (pc' := 1) 0 dX12_holds_0 rfl rfl rfl ?_
  refine am_get (pc' := 4) (v := .ref 60) dX12_holds_1 fl_X12_56 (sm_c45 S0 S) rfl rfl ?_
  refine am_aload_n (pc' := 5) 0 dX12_holds_4 rfl rfl rfl ?_
  refine am_get (pc' := 8) (v := .int (sm_heldMany S)) dX12_holds_5 fl_X12_126 (sm_c45 S0 S) rfl rfl ?_
  refine am_iload_n (pc' := 9) 1 dX12_holds_8 rfl rfl rfl ?_
  obtain ⟨hr1, hres⟩ := am_rg hres
  refine am_iast (pc' := 10) (f := (sm_held S)) (ws' := (sx_w S0 (sm_w (um_held S (upd (sm_held S) (sm_heldMany S).toNatClampNeg a1))))) dX12_holds_9 (sm_c60 S0 S) hr1 (sm_p_held S0 S _) rfl ?_
  refine am_aload_n (pc' := 11) 0 dX12_holds_10 rfl rfl rfl ?_
  refine am_dupa (pc' := 12) dX12_holds_11 rfl ?_
  refine am_get (pc' := 15) (v := .int (sm_heldMany S)) dX12_holds_12 fl_X12_126 (sm_c45 S0 (um_held S (upd (sm_held S) (sm_heldMany S).toNatClampNeg a1))) rfl rfl ?_
  refine am_iconst (pc' := 16) (v := 1) dX12_holds_15 kc_1 rfl ?_
  refine am_iadd (pc' := 17) dX12_holds_16 rfl ?_
  refine am_put (pc' := 20) (ws' := (sx_w S0 (sm_w (um_heldMany (um_held S (upd (sm_held S) (sm_heldMany S).toNatClampNeg a1)) ((sm_heldMany S) + (1 : Int32)))))) (v := .int ((sm_heldMany S) + (1 : Int32))) dX12_holds_17 fp_X12_126 (sm_c45 S0 (um_held S (upd (sm_held S) (sm_heldMany S).toNatClampNeg a1))) (fun _ => ⟨rfl, rfl⟩) (Nat.le_of_ble_eq_true rfl) (sm_p_heldMany S0 (um_held S (upd (sm_held S) (sm_heldMany S).toNatClampNeg a1)) _) rfl ?_
  obtain rfl := Option.some.inj hres
  exact am_vret dX12_holds_20 rfl rfl rfl
set_option maxRecDepth 100000 in
set_option maxHeartbeats 4000000 in
theorem wx_X12_between_17 (S0 : sx_T) : ∀ (v1 : Int32) (w1 : Int32) (S : sm_T) (res : Int32 × sm_T) (hres : fx_X12_between_17 v1 w1 S = some res), am_G mX12_between (none, 2, 0, 0, (some (.int res.1)), (sx_w S0 (sm_w res.2))) (0, 0) 17 [some (.ref 45), some (.int v1)] [.int w1, .ref 45] (sx_w S0 (sm_w S)) := by
  intro v1 w1 S res hres
  rw [fx_X12_between_17] at hres
  obtain ⟨q2, hq3, hres⟩ := am_bd_s hres
  refine am_cV (pc' := 20) (st' := []) [] [.int w1] dX12_between_17 cs_X12_143 (tx_X12_unwinds S0 w1 S _ hq3) rfl rfl rfl (sm_c45 S0 S) rfl rfl rfl rfl rfl ?_
  refine am_iload_n (pc' := 21) 1 dX12_between_20 rfl rfl rfl ?_
  refine am_cS (pc' := 24) (st' := [.int (fx_X12_rank v1)]) [] [.int v1] dX12_between_21 cs_X12_129 (tx_X12_rank (sx_w S0 (sm_w q2)) v1 _ rfl) rfl rfl rfl rfl rfl rfl ?_
  refine am_iconst (pc' := 25) (v := 4) dX12_between_24 kc_4 rfl ?_
  refine am_icmp_ne (pc' := 28) 55 dX12_between_25 rfl rfl (fun hc4 => ?_) (fun hc4 => ?_)
  · rw [if_neg hc4] at hres
    refine am_aload_n (pc' := 56) 0 dX12_between_55 rfl rfl rfl ?_
    refine am_iload_n (pc' := 57) 1 dX12_between_56 rfl rfl rfl ?_
    obtain ⟨q5, hq6, hres⟩ := am_bd_s hres
    refine am_cV (pc' := 60) (st' := []) [] [.int v1] dX12_between_57 cs_X12_140 (tx_X12_holds S0 v1 q2 _ hq6) rfl rfl rfl (sm_c45 S0 q2) rfl rfl rfl rfl rfl ?_
    refine am_iconst (pc' := 61) (v := 1) dX12_between_60 kc_1 rfl ?_
    obtain rfl := Option.some.inj hres
    exact am_zret dX12_between_61 rfl rfl rfl rfl
  · rw [if_pos hc4] at hres
    refine am_aload_n (pc' := 29) 0 dX12_between_28 rfl rfl rfl ?_
    refine am_get (pc' := 32) (v := .int (sm_heldMany q2)) dX12_between_29 fl_X12_126 (sm_c45 S0 q2) rfl rfl ?_
    refine am_if_le (pc' := 35) 55 dX12_between_32 rfl rfl (fun hc7 => ?_) (fun hc7 => ?_)
    · rw [if_pos hc7] at hres
      refine am_aload_n (pc' := 56) 0 dX12_between_55 rfl rfl rfl ?_
      refine am_iload_n (pc' := 57) 1 dX12_between_56 rfl rfl rfl ?_
      obtain ⟨q8, hq9, hres⟩ := am_bd_s hres
      refine am_cV (pc' := 60) (st' := []) [] [.int v1] dX12_between_57 cs_X12_140 (tx_X12_holds S0 v1 q2 _ hq9) rfl rfl rfl (sm_c45 S0 q2) rfl rfl rfl rfl rfl ?_
      refine am_iconst (pc' := 61) (v := 1) dX12_between_60 kc_1 rfl ?_
      obtain rfl := Option.some.inj hres
      exact am_zret dX12_between_61 rfl rfl rfl rfl
    · rw [if_neg hc7] at hres
      refine am_aload_n (pc' := 36) 0 dX12_between_35 rfl rfl rfl ?_
      refine am_get (pc' := 39) (v := .ref 60) dX12_between_36 fl_X12_56 (sm_c45 S0 q2) rfl rfl ?_
      refine am_aload_n (pc' := 40) 0 dX12_between_39 rfl rfl rfl ?_
      refine am_get (pc' := 43) (v := .int (sm_heldMany q2)) dX12_between_40 fl_X12_126 (sm_c45 S0 q2) rfl rfl ?_
      refine am_iconst (pc' := 44) (v := 1) dX12_between_43 kc_1 rfl ?_
      refine am_isub (pc' := 45) dX12_between_44 rfl ?_
      obtain ⟨hr10, hres⟩ := am_rg hres
      refine am_iald (pc' := 46) (f := (sm_held q2)) dX12_between_45 (sm_c60 S0 q2) hr10 rfl ?_
      refine am_cS (pc' := 49) (st' := [.int (fx_X12_rank ((sm_held q2) ((sm_heldMany q2) - (1 : Int32)).toNatClampNeg))]) [] [.int ((sm_held q2) ((sm_heldMany q2) - (1 : Int32)).toNatClampNeg)] dX12_between_46 cs_X12_129 (tx_X12_rank (sx_w S0 (sm_w q2)) ((sm_held q2) ((sm_heldMany q2) - (1 : Int32)).toNatClampNeg) _ rfl) rfl rfl rfl rfl rfl rfl ?_
      refine am_iconst (pc' := 50) (v := 4) dX12_between_49 kc_4 rfl ?_
      refine am_icmp_ne (pc' := 53) 55 dX12_between_50 rfl rfl (fun hc11 => ?_) (fun hc11 => ?_)
      · rw [if_neg hc11] at hres
        refine am_aload_n (pc' := 56) 0 dX12_between_55 rfl rfl rfl ?_
        refine am_iload_n (pc' := 57) 1 dX12_between_56 rfl rfl rfl ?_
        obtain ⟨q12, hq13, hres⟩ := am_bd_s hres
        refine am_cV (pc' := 60) (st' := []) [] [.int v1] dX12_between_57 cs_X12_140 (tx_X12_holds S0 v1 q2 _ hq13) rfl rfl rfl (sm_c45 S0 q2) rfl rfl rfl rfl rfl ?_
        refine am_iconst (pc' := 61) (v := 1) dX12_between_60 kc_1 rfl ?_
        obtain rfl := Option.some.inj hres
        exact am_zret dX12_between_61 rfl rfl rfl rfl
      · rw [if_pos hc11] at hres
        refine am_iconst (pc' := 54) (v := 0) dX12_between_53 kc_0 rfl ?_
        obtain rfl := Option.some.inj hres
        exact am_zret dX12_between_54 rfl rfl rfl rfl

set_option maxRecDepth 100000 in
set_option maxHeartbeats 4000000 in
theorem tx_X12_between (S0 : sx_T) (a1 : Int32) (S : sm_T) (res : Int32 × sm_T) (hres : fx_X12_between a1 S = some res) : am_T mX12_between 2 0 0 [.ref 45, .int a1] (sx_w S0 (sm_w S)) (some (.int res.1)) (sx_w S0 (sm_w res.2)) := by
  refine am_meth (ls := [some (.ref 45), some (.int a1)]) (by decide +kernel) rfl (Nat.le_of_ble_eq_true rfl) (sm_len _ _ _ _) ?_
  rw [fx_X12_between] at hres
  refine am_aload_n (pc' := 1) 0 dX12_between_0 rfl rfl rfl ?_
  refine am_iload_n (pc' := 2) 1 dX12_between_1 rfl rfl rfl ?_
  refine am_cS (pc' := 5) (st' := [.int (fx_X12_rank a1), .ref 45]) [.ref 45] [.int a1] dX12_between_2 cs_X12_129 (tx_X12_rank (sx_w S0 (sm_w S)) a1 _ rfl) rfl rfl rfl rfl rfl rfl ?_
  refine am_iconst (pc' := 6) (v := 4) dX12_between_5 kc_4 rfl ?_
  refine am_icmp_ne (pc' := 9) 13 dX12_between_6 rfl rfl (fun hc1 => ?_) (fun hc1 => ?_)
  · rw [if_neg hc1] at hres
    refine am_iload_n (pc' := 14) 1 dX12_between_13 rfl rfl rfl ?_
    refine am_cS (pc' := 17) (st' := [.int (fx_X12_rank a1), .ref 45]) [.ref 45] [.int a1] dX12_between_14 cs_X12_129 (tx_X12_rank (sx_w S0 (sm_w S)) a1 _ rfl) rfl rfl rfl rfl rfl rfl ?_
    exact wx_X12_between_17 S0 _ _ _ _ hres
  · rw [if_pos hc1] at hres
    refine am_iconst (pc' := 10) (v := 5) dX12_between_9 kc_5 rfl ?_
    refine am_goto 17 dX12_between_10 rfl ?_
    exact wx_X12_between_17 S0 _ _ _ _ hres
set_option maxRecDepth 100000 in
set_option maxHeartbeats 4000000 in
theorem tx_X12_cell (S0 : sx_T) (a1 : Int32) (a2 : Int32) (a3 : Int32) (S : sm_T) (res : Int32 × sm_T) (hres : fx_X12_cell a1 a2 a3 S = some res) : am_T mX12_cell 1 0 0 [.ref 45, .int a1, .int a2, .int a3] (sx_w S0 (sm_w S)) (some (.int res.1)) (sx_w S0 (sm_w res.2)) := by
  refine am_meth (ls := [some (.ref 45), some (.int a1), some (.int a2), some (.int a3)]) (by decide +kernel) rfl (Nat.le_of_ble_eq_true rfl) (sm_len _ _ _ _) ?_
  rw [fx_X12_cell] at hres
  refine am_iload_n (pc' := 1) 1 dX12_cell_0 rfl rfl rfl ?_
  refine am_iconst (pc' := 2) (v := 0) dX12_cell_1 kc_0 rfl ?_
  refine am_iconst (pc' := 3) (v := 3) dX12_cell_2 kc_3 rfl ?_
  refine am_cS (pc' := 6) (st' := [.int (fx_X12_in a1 (0 : Int32) (3 : Int32))]) [] [.int a1, .int (0 : Int32), .int (3 : Int32)] dX12_cell_3 cs_X12_90 (tx_X12_in (sx_w S0 (sm_w S)) a1 (0 : Int32) (3 : Int32) _ rfl) rfl rfl rfl rfl rfl rfl ?_
  refine am_if_ne (pc' := 9) 12 dX12_cell_6 rfl rfl (fun hc1 => ?_) (fun hc1 => ?_)
  · rw [if_neg hc1] at hres
    refine am_aload_n (pc' := 13) 0 dX12_cell_12 rfl rfl rfl ?_
    refine am_get (pc' := 16) (v := .ref 55) dX12_cell_13 fl_X12_41 (sm_c45 S0 S) rfl rfl ?_
    refine am_iload_n (pc' := 17) 1 dX12_cell_16 rfl rfl rfl ?_
    obtain ⟨hr2, hres⟩ := am_rg hres
    refine am_iald (pc' := 18) (f := (sm_sheetSort S)) dX12_cell_17 (sm_c55 S0 S) hr2 rfl ?_
    refine am_iconst (pc' := 19) (v := (-1)) dX12_cell_18 kc_m1 rfl ?_
    refine am_icmp_ne (pc' := 22) 25 dX12_cell_19 rfl rfl (fun hc3 => ?_) (fun hc3 => ?_)
    · rw [if_neg hc3] at hres
      refine am_iload_n (pc' := 26) 2 dX12_cell_25 rfl rfl rfl ?_
      refine am_iconst (pc' := 27) (v := 0) dX12_cell_26 kc_0 rfl ?_
      refine am_aload_n (pc' := 28) 0 dX12_cell_27 rfl rfl rfl ?_
      refine am_get (pc' := 31) (v := .ref 56) dX12_cell_28 fl_X12_44 (sm_c45 S0 S) rfl rfl ?_
      refine am_iload_n (pc' := 32) 1 dX12_cell_31 rfl rfl rfl ?_
      obtain ⟨hr4, hres⟩ := am_rg hres
      refine am_iald (pc' := 33) (f := (sm_sheetSize S)) dX12_cell_32 (sm_c56 S0 S) hr4 rfl ?_
      refine am_iconst (pc' := 34) (v := 1) dX12_cell_33 kc_1 rfl ?_
      refine am_isub (pc' := 35) dX12_cell_34 rfl ?_
      refine am_cS (pc' := 38) (st' := [.int (fx_X12_in a2 (0 : Int32) (((sm_sheetSize S) a1.toNatClampNeg) - (1 : Int32)))]) [] [.int a2, .int (0 : Int32), .int (((sm_sheetSize S) a1.toNatClampNeg) - (1 : Int32))] dX12_cell_35 cs_X12_90 (tx_X12_in (sx_w S0 (sm_w S)) a2 (0 : Int32) (((sm_sheetSize S) a1.toNatClampNeg) - (1 : Int32)) _ rfl) rfl rfl rfl rfl rfl rfl ?_
      refine am_if_ne (pc' := 41) 44 dX12_cell_38 rfl rfl (fun hc5 => ?_) (fun hc5 => ?_)
      · rw [if_neg hc5] at hres
        refine am_aload_n (pc' := 45) 0 dX12_cell_44 rfl rfl rfl ?_
        refine am_get (pc' := 48) (v := .ref 57) dX12_cell_45 fl_X12_47 (sm_c45 S0 S) rfl rfl ?_
        refine am_bipush (pc' := 50) (v := 40) dX12_cell_48 kb_40 rfl ?_
        refine am_iload_n (pc' := 51) 1 dX12_cell_50 rfl rfl rfl ?_
        refine am_imul (pc' := 52) dX12_cell_51 rfl ?_
        refine am_iload_n (pc' := 53) 2 dX12_cell_52 rfl rfl rfl ?_
        refine am_iadd (pc' := 54) dX12_cell_53 rfl ?_
        refine am_aload_n (pc' := 55) 0 dX12_cell_54 rfl rfl rfl ?_
        refine am_get (pc' := 58) (v := .ref 55) dX12_cell_55 fl_X12_41 (sm_c45 S0 S) rfl rfl ?_
        refine am_iload_n (pc' := 59) 1 dX12_cell_58 rfl rfl rfl ?_
        obtain ⟨hr6, hres⟩ := am_rg hres
        refine am_iald (pc' := 60) (f := (sm_sheetSort S)) dX12_cell_59 (sm_c55 S0 S) hr6 rfl ?_
        refine am_if_ne (pc' := 63) 68 dX12_cell_60 rfl rfl (fun hc7 => ?_) (fun hc7 => ?_)
        · rw [if_neg hc7] at hres
          refine am_aload_n (pc' := 69) 0 dX12_cell_68 rfl rfl rfl ?_
          refine am_get (pc' := 72) (v := .ref 55) dX12_cell_69 fl_X12_41 (sm_c45 S0 S) rfl rfl ?_
          refine am_iload_n (pc' := 73) 1 dX12_cell_72 rfl rfl rfl ?_
          obtain ⟨hr8, hres⟩ := am_rg hres
          refine am_iald (pc' := 74) (f := (sm_sheetSort S)) dX12_cell_73 (sm_c55 S0 S) hr8 rfl ?_
          refine am_iconst (pc' := 75) (v := 1) dX12_cell_74 kc_1 rfl ?_
          refine am_icmp_ne (pc' := 78) 83 dX12_cell_75 rfl rfl (fun hc9 => ?_) (fun hc9 => ?_)
          · rw [if_neg hc9] at hres
            refine am_iload_n (pc' := 84) 3 dX12_cell_83 rfl rfl rfl ?_
            obtain ⟨hr10, hres⟩ := am_rg hres
            refine am_iast (pc' := 85) (f := (sm_cells S)) (ws' := (sx_w S0 (sm_w (um_cells S (upd (sm_cells S) (((40 : Int32) * a1) + a2).toNatClampNeg a3))))) dX12_cell_84 (sm_c57 S0 S) hr10 (sm_p_cells S0 S _) rfl ?_
            refine am_iconst (pc' := 86) (v := 1) dX12_cell_85 kc_1 rfl ?_
            obtain rfl := Option.some.inj hres
            exact am_iret dX12_cell_86 rfl rfl rfl
          · rw [if_pos hc9] at hres
            refine am_iload_n (pc' := 79) 3 dX12_cell_78 rfl rfl rfl ?_
            refine am_i2s (pc' := 80) dX12_cell_79 rfl ?_
            refine am_goto 84 dX12_cell_80 rfl ?_
            obtain ⟨hr11, hres⟩ := am_rg hres
            refine am_iast (pc' := 85) (f := (sm_cells S)) (ws' := (sx_w S0 (sm_w (um_cells S (upd (sm_cells S) (((40 : Int32) * a1) + a2).toNatClampNeg (a3.toInt16.toInt32)))))) dX12_cell_84 (sm_c57 S0 S) hr11 (sm_p_cells S0 S _) rfl ?_
            refine am_iconst (pc' := 86) (v := 1) dX12_cell_85 kc_1 rfl ?_
            obtain rfl := Option.some.inj hres
            exact am_iret dX12_cell_86 rfl rfl rfl
        · rw [if_pos hc7] at hres
          refine am_iload_n (pc' := 64) 3 dX12_cell_63 rfl rfl rfl ?_
          refine am_i2b (pc' := 65) dX12_cell_64 rfl ?_
          refine am_goto 84 dX12_cell_65 rfl ?_
          obtain ⟨hr12, hres⟩ := am_rg hres
          refine am_iast (pc' := 85) (f := (sm_cells S)) (ws' := (sx_w S0 (sm_w (um_cells S (upd (sm_cells S) (((40 : Int32) * a1) + a2).toNatClampNeg (a3.toInt8.toInt32)))))) dX12_cell_84 (sm_c57 S0 S) hr12 (sm_p_cells S0 S _) rfl ?_
          refine am_iconst (pc' := 86) (v := 1) dX12_cell_85 kc_1 rfl ?_
          obtain rfl := Option.some.inj hres
          exact am_iret dX12_cell_86 rfl rfl rfl
      · rw [if_pos hc5] at hres
        refine am_bipush (pc' := 43) (v := (-12)) dX12_cell_41 kb_m12 rfl ?_
        obtain rfl := Option.some.inj hres
        exact am_iret dX12_cell_43 rfl rfl rfl
    · rw [if_pos hc3] at hres
      refine am_bipush (pc' := 24) (v := (-11)) dX12_cell_22 kb_m11 rfl ?_
      obtain rfl := Option.some.inj hres
      exact am_iret dX12_cell_24 rfl rfl rfl
  · rw [if_pos hc1] at hres
    refine am_bipush (pc' := 11) (v := (-2)) dX12_cell_9 kb_m2 rfl ?_
    obtain rfl := Option.some.inj hres
    exact am_iret dX12_cell_11 rfl rfl rfl
set_option maxRecDepth 100000 in
set_option maxHeartbeats 4000000 in
theorem wx_X12_copy_173 (S0 : sx_T) (k147 : Int32 → Int32 → Int32 → Int32 → sm_T → Option (Int32 × sm_T)) (hk147 : ∀ (v5 : Int32) (v6 : Int32) (v7 : Int32) (v8 : Int32) (S : sm_T) (res : Int32 × sm_T), k147 v5 v6 v7 v8 S = some res → am_G mX12_copy (none, 1, 0, 0, (some (.int res.1)), (sx_w S0 (sm_w res.2))) (0, 0) 147 [some (.ref 45), none, none, none, none, some (.int v5), some (.int v6), some (.int v7), some (.int v8), none] [] (sx_w S0 (sm_w S))) : ∀ (v5 : Int32) (v6 : Int32) (v7 : Int32) (v8 : Int32) (w0 : Int32) (S : sm_T) (res : Int32 × sm_T) (hres : fx_X12_copy_173 k147 v5 v6 v7 v8 w0 S = some res), am_G mX12_copy (none, 1, 0, 0, (some (.int res.1)), (sx_w S0 (sm_w res.2))) (0, 0) 173 [some (.ref 45), none, none, none, none, some (.int v5), some (.int v6), some (.int v7), some (.int v8), none] [.int w0] (sx_w S0 (sm_w S)) := by
  intro v5 v6 v7 v8 w0 S res hres
  rw [fx_X12_copy_173] at hres
  refine am_istore (pc' := 175) (ls' := [some (.ref 45), none, none, none, none, some (.int v5), some (.int v6), some (.int v7), some (.int v8), some (.int w0)]) dX12_copy_173 (Nat.le_of_ble_eq_true rfl) rfl rfl rfl ?_
  refine am_aload_n (pc' := 176) 0 dX12_copy_175 rfl rfl rfl ?_
  refine am_get (pc' := 179) (v := .ref 57) dX12_copy_176 fl_X12_47 (sm_c45 S0 S) rfl rfl ?_
  refine am_iload (pc' := 181) dX12_copy_179 rfl rfl ?_
  refine am_iload (pc' := 183) dX12_copy_181 rfl rfl ?_
  refine am_iadd (pc' := 184) dX12_copy_183 rfl ?_
  refine am_aload_n (pc' := 185) 0 dX12_copy_184 rfl rfl rfl ?_
  refine am_get (pc' := 188) (v := .ref 57) dX12_copy_185 fl_X12_47 (sm_c45 S0 S) rfl rfl ?_
  refine am_iload (pc' := 190) dX12_copy_188 rfl rfl ?_
  refine am_iload (pc' := 192) dX12_copy_190 rfl rfl ?_
  refine am_iadd (pc' := 193) dX12_copy_192 rfl ?_
  obtain ⟨hr23, hres⟩ := am_rg hres
  refine am_iald (pc' := 194) (f := (sm_cells S)) dX12_copy_193 (sm_c57 S0 S) hr23 rfl ?_
  obtain ⟨hr24, hres⟩ := am_rg hres
  refine am_iast (pc' := 195) (f := (sm_cells S)) (ws' := (sx_w S0 (sm_w (um_cells S (upd (sm_cells S) (v7 + w0).toNatClampNeg ((sm_cells S) (v6 + w0).toNatClampNeg)))))) dX12_copy_194 (sm_c57 S0 S) hr24 (sm_p_cells S0 S _) rfl ?_
  refine am_iinc (pc' := 198) (ls' := [some (.ref 45), none, none, none, none, some (.int v5), some (.int v6), some (.int v7), some (.int (v8 + (1 : Int32))), some (.int w0)]) dX12_copy_195 rfl (show v8 + Int32.ofInt 1 = (v8 + (1 : Int32)) from congrArg (fun z => v8 + z) kc_1) (Nat.le_of_ble_eq_true rfl) rfl rfl rfl ?_
  refine am_goto 147 dX12_copy_198 rfl ?_
  refine am_weak (ls' := [some (.ref 45), none, none, none, none, some (.int v5), some (.int v6), some (.int v7), some (.int (v8 + (1 : Int32))), none]) [false, false, false, false, false, false, false, false, false, true] rfl ?_
  exact hk147 _ _ _ _ _ _ hres

set_option maxRecDepth 100000 in
set_option maxHeartbeats 4000000 in
theorem wx_X12_copy_147 (S0 : sx_T) : ∀ (n : Nat) (v5 : Int32) (v6 : Int32) (v7 : Int32) (v8 : Int32) (S : sm_T) (res : Int32 × sm_T) (hres : fx_X12_copy_147 n v5 v6 v7 v8 S = some res), am_G mX12_copy (none, 1, 0, 0, (some (.int res.1)), (sx_w S0 (sm_w res.2))) (0, 0) 147 [some (.ref 45), none, none, none, none, some (.int v5), some (.int v6), some (.int v7), some (.int v8), none] [] (sx_w S0 (sm_w S)) := by
  intro n
  induction n with
  | zero =>
    intro v5 v6 v7 v8 S res hres
    cases hres
  | succ n ih =>
    intro v5 v6 v7 v8 S res hres
    rw [fx_X12_copy_147] at hres
    refine am_iload (pc' := 149) dX12_copy_147 rfl rfl ?_
    refine am_iload (pc' := 151) dX12_copy_149 rfl rfl ?_
    refine am_icmp_ge (pc' := 154) 201 dX12_copy_151 rfl rfl (fun hc21 => ?_) (fun hc21 => ?_)
    · rw [if_pos hc21] at hres
      refine am_iload (pc' := 203) dX12_copy_201 rfl rfl ?_
      obtain rfl := Option.some.inj hres
      exact am_iret dX12_copy_203 rfl rfl rfl
    · rw [if_neg hc21] at hres
      refine am_iload (pc' := 156) dX12_copy_154 rfl rfl ?_
      refine am_iload (pc' := 158) dX12_copy_156 rfl rfl ?_
      refine am_icmp_ge (pc' := 161) 171 dX12_copy_158 rfl rfl (fun hc22 => ?_) (fun hc22 => ?_)
      · rw [if_pos hc22] at hres
        refine am_iload (pc' := 173) dX12_copy_171 rfl rfl ?_
        exact wx_X12_copy_173 S0 _ (fun a0 a1 a2 a3 a4 => ih a0 a1 a2 a3 a4) _ _ _ _ _ _ _ hres
      · rw [if_neg hc22] at hres
        refine am_iload (pc' := 163) dX12_copy_161 rfl rfl ?_
        refine am_iconst (pc' := 164) (v := 1) dX12_copy_163 kc_1 rfl ?_
        refine am_isub (pc' := 165) dX12_copy_164 rfl ?_
        refine am_iload (pc' := 167) dX12_copy_165 rfl rfl ?_
        refine am_isub (pc' := 168) dX12_copy_167 rfl ?_
        refine am_goto 173 dX12_copy_168 rfl ?_
        exact wx_X12_copy_173 S0 _ (fun a0 a1 a2 a3 a4 => ih a0 a1 a2 a3 a4) _ _ _ _ _ _ _ hres

set_option maxRecDepth 100000 in
set_option maxHeartbeats 4000000 in
theorem tx_X12_copy (S0 : sx_T) (a1 : Int32) (a2 : Int32) (a3 : Int32) (a4 : Int32) (a5 : Int32) (S : sm_T) (res : Int32 × sm_T) (hres : fx_X12_copy a1 a2 a3 a4 a5 S = some res) : am_T mX12_copy 1 0 0 [.ref 45, .int a1, .int a2, .int a3, .int a4, .int a5] (sx_w S0 (sm_w S)) (some (.int res.1)) (sx_w S0 (sm_w res.2)) := by
  refine am_meth (ls := [some (.ref 45), some (.int a1), some (.int a2), some (.int a3), some (.int a4), some (.int a5), none, none, none, none]) (by decide +kernel) rfl (Nat.le_of_ble_eq_true rfl) (sm_len _ _ _ _) ?_
  rw [fx_X12_copy] at hres
  refine am_iload_n (pc' := 1) 1 dX12_copy_0 rfl rfl rfl ?_
  refine am_iconst (pc' := 2) (v := 0) dX12_copy_1 kc_0 rfl ?_
  refine am_iconst (pc' := 3) (v := 3) dX12_copy_2 kc_3 rfl ?_
  refine am_cS (pc' := 6) (st' := [.int (fx_X12_in a1 (0 : Int32) (3 : Int32))]) [] [.int a1, .int (0 : Int32), .int (3 : Int32)] dX12_copy_3 cs_X12_90 (tx_X12_in (sx_w S0 (sm_w S)) a1 (0 : Int32) (3 : Int32) _ rfl) rfl rfl rfl rfl rfl rfl ?_
  refine am_if_eq (pc' := 9) 18 dX12_copy_6 rfl rfl (fun hc1 => ?_) (fun hc1 => ?_)
  · rw [if_pos hc1] at hres
    refine am_bipush (pc' := 20) (v := (-2)) dX12_copy_18 kb_m2 rfl ?_
    obtain rfl := Option.some.inj hres
    exact am_iret dX12_copy_20 rfl rfl rfl
  · rw [if_neg hc1] at hres
    refine am_iload_n (pc' := 10) 3 dX12_copy_9 rfl rfl rfl ?_
    refine am_iconst (pc' := 11) (v := 0) dX12_copy_10 kc_0 rfl ?_
    refine am_iconst (pc' := 12) (v := 3) dX12_copy_11 kc_3 rfl ?_
    refine am_cS (pc' := 15) (st' := [.int (fx_X12_in a3 (0 : Int32) (3 : Int32))]) [] [.int a3, .int (0 : Int32), .int (3 : Int32)] dX12_copy_12 cs_X12_90 (tx_X12_in (sx_w S0 (sm_w S)) a3 (0 : Int32) (3 : Int32) _ rfl) rfl rfl rfl rfl rfl rfl ?_
    refine am_if_ne (pc' := 18) 21 dX12_copy_15 rfl rfl (fun hc2 => ?_) (fun hc2 => ?_)
    · rw [if_neg hc2] at hres
      refine am_aload_n (pc' := 22) 0 dX12_copy_21 rfl rfl rfl ?_
      refine am_get (pc' := 25) (v := .ref 55) dX12_copy_22 fl_X12_41 (sm_c45 S0 S) rfl rfl ?_
      refine am_iload_n (pc' := 26) 1 dX12_copy_25 rfl rfl rfl ?_
      obtain ⟨hr3, hres⟩ := am_rg hres
      refine am_iald (pc' := 27) (f := (sm_sheetSort S)) dX12_copy_26 (sm_c55 S0 S) hr3 rfl ?_
      refine am_iconst (pc' := 28) (v := (-1)) dX12_copy_27 kc_m1 rfl ?_
      refine am_icmp_eq (pc' := 31) 41 dX12_copy_28 rfl rfl (fun hc4 => ?_) (fun hc4 => ?_)
      · rw [if_pos hc4] at hres
        refine am_bipush (pc' := 43) (v := (-11)) dX12_copy_41 kb_m11 rfl ?_
        obtain rfl := Option.some.inj hres
        exact am_iret dX12_copy_43 rfl rfl rfl
      · rw [if_neg hc4] at hres
        refine am_aload_n (pc' := 32) 0 dX12_copy_31 rfl rfl rfl ?_
        refine am_get (pc' := 35) (v := .ref 55) dX12_copy_32 fl_X12_41 (sm_c45 S0 S) rfl rfl ?_
        refine am_iload_n (pc' := 36) 3 dX12_copy_35 rfl rfl rfl ?_
        obtain ⟨hr5, hres⟩ := am_rg hres
        refine am_iald (pc' := 37) (f := (sm_sheetSort S)) dX12_copy_36 (sm_c55 S0 S) hr5 rfl ?_
        refine am_iconst (pc' := 38) (v := (-1)) dX12_copy_37 kc_m1 rfl ?_
        refine am_icmp_ne (pc' := 41) 44 dX12_copy_38 rfl rfl (fun hc6 => ?_) (fun hc6 => ?_)
        · rw [if_neg hc6] at hres
          refine am_aload_n (pc' := 45) 0 dX12_copy_44 rfl rfl rfl ?_
          refine am_get (pc' := 48) (v := .ref 55) dX12_copy_45 fl_X12_41 (sm_c45 S0 S) rfl rfl ?_
          refine am_iload_n (pc' := 49) 1 dX12_copy_48 rfl rfl rfl ?_
          obtain ⟨hr7, hres⟩ := am_rg hres
          refine am_iald (pc' := 50) (f := (sm_sheetSort S)) dX12_copy_49 (sm_c55 S0 S) hr7 rfl ?_
          refine am_aload_n (pc' := 51) 0 dX12_copy_50 rfl rfl rfl ?_
          refine am_get (pc' := 54) (v := .ref 55) dX12_copy_51 fl_X12_41 (sm_c45 S0 S) rfl rfl ?_
          refine am_iload_n (pc' := 55) 3 dX12_copy_54 rfl rfl rfl ?_
          obtain ⟨hr8, hres⟩ := am_rg hres
          refine am_iald (pc' := 56) (f := (sm_sheetSort S)) dX12_copy_55 (sm_c55 S0 S) hr8 rfl ?_
          refine am_icmp_eq (pc' := 59) 62 dX12_copy_56 rfl rfl (fun hc9 => ?_) (fun hc9 => ?_)
          · rw [if_pos hc9] at hres
            refine am_iload (pc' := 64) dX12_copy_62 rfl rfl ?_
            refine am_if_lt (pc' := 67) 124 dX12_copy_64 rfl rfl (fun hc10 => ?_) (fun hc10 => ?_)
            · rw [if_pos hc10] at hres
              refine am_bipush (pc' := 126) (v := (-12)) dX12_copy_124 kb_m12 rfl ?_
              obtain rfl := Option.some.inj hres
              exact am_iret dX12_copy_126 rfl rfl rfl
            · rw [if_neg hc10] at hres
              refine am_iload_n (pc' := 68) 2 dX12_copy_67 rfl rfl rfl ?_
              refine am_if_lt (pc' := 71) 124 dX12_copy_68 rfl rfl (fun hc11 => ?_) (fun hc11 => ?_)
              · rw [if_pos hc11] at hres
                refine am_bipush (pc' := 126) (v := (-12)) dX12_copy_124 kb_m12 rfl ?_
                obtain rfl := Option.some.inj hres
                exact am_iret dX12_copy_126 rfl rfl rfl
              · rw [if_neg hc11] at hres
                refine am_iload (pc' := 73) dX12_copy_71 rfl rfl ?_
                refine am_if_lt (pc' := 76) 124 dX12_copy_73 rfl rfl (fun hc12 => ?_) (fun hc12 => ?_)
                · rw [if_pos hc12] at hres
                  refine am_bipush (pc' := 126) (v := (-12)) dX12_copy_124 kb_m12 rfl ?_
                  obtain rfl := Option.some.inj hres
                  exact am_iret dX12_copy_126 rfl rfl rfl
                · rw [if_neg hc12] at hres
                  refine am_iload_n (pc' := 77) 2 dX12_copy_76 rfl rfl rfl ?_
                  refine am_aload_n (pc' := 78) 0 dX12_copy_77 rfl rfl rfl ?_
                  refine am_get (pc' := 81) (v := .ref 56) dX12_copy_78 fl_X12_44 (sm_c45 S0 S) rfl rfl ?_
                  refine am_iload_n (pc' := 82) 1 dX12_copy_81 rfl rfl rfl ?_
                  obtain ⟨hr13, hres⟩ := am_rg hres
                  refine am_iald (pc' := 83) (f := (sm_sheetSize S)) dX12_copy_82 (sm_c56 S0 S) hr13 rfl ?_
                  refine am_icmp_gt (pc' := 86) 124 dX12_copy_83 rfl rfl (fun hc14 => ?_) (fun hc14 => ?_)
                  · rw [if_pos hc14] at hres
                    refine am_bipush (pc' := 126) (v := (-12)) dX12_copy_124 kb_m12 rfl ?_
                    obtain rfl := Option.some.inj hres
                    exact am_iret dX12_copy_126 rfl rfl rfl
                  · rw [if_neg hc14] at hres
                    refine am_iload (pc' := 88) dX12_copy_86 rfl rfl ?_
                    refine am_aload_n (pc' := 89) 0 dX12_copy_88 rfl rfl rfl ?_
                    refine am_get (pc' := 92) (v := .ref 56) dX12_copy_89 fl_X12_44 (sm_c45 S0 S) rfl rfl ?_
                    refine am_iload_n (pc' := 93) 3 dX12_copy_92 rfl rfl rfl ?_
                    obtain ⟨hr15, hres⟩ := am_rg hres
                    refine am_iald (pc' := 94) (f := (sm_sheetSize S)) dX12_copy_93 (sm_c56 S0 S) hr15 rfl ?_
                    refine am_icmp_gt (pc' := 97) 124 dX12_copy_94 rfl rfl (fun hc16 => ?_) (fun hc16 => ?_)
                    · rw [if_pos hc16] at hres
                      refine am_bipush (pc' := 126) (v := (-12)) dX12_copy_124 kb_m12 rfl ?_
                      obtain rfl := Option.some.inj hres
                      exact am_iret dX12_copy_126 rfl rfl rfl
                    · rw [if_neg hc16] at hres
                      refine am_iload (pc' := 99) dX12_copy_97 rfl rfl ?_
                      refine am_aload_n (pc' := 100) 0 dX12_copy_99 rfl rfl rfl ?_
                      refine am_get (pc' := 103) (v := .ref 56) dX12_copy_100 fl_X12_44 (sm_c45 S0 S) rfl rfl ?_
                      refine am_iload_n (pc' := 104) 1 dX12_copy_103 rfl rfl rfl ?_
                      obtain ⟨hr17, hres⟩ := am_rg hres
                      refine am_iald (pc' := 105) (f := (sm_sheetSize S)) dX12_copy_104 (sm_c56 S0 S) hr17 rfl ?_
                      refine am_iload_n (pc' := 106) 2 dX12_copy_105 rfl rfl rfl ?_
                      refine am_isub (pc' := 107) dX12_copy_106 rfl ?_
                      refine am_icmp_gt (pc' := 110) 124 dX12_copy_107 rfl rfl (fun hc18 => ?_) (fun hc18 => ?_)
                      · rw [if_pos hc18] at hres
                        refine am_bipush (pc' := 126) (v := (-12)) dX12_copy_124 kb_m12 rfl ?_
                        obtain rfl := Option.some.inj hres
                        exact am_iret dX12_copy_126 rfl rfl rfl
                      · rw [if_neg hc18] at hres
                        refine am_iload (pc' := 112) dX12_copy_110 rfl rfl ?_
                        refine am_aload_n (pc' := 113) 0 dX12_copy_112 rfl rfl rfl ?_
                        refine am_get (pc' := 116) (v := .ref 56) dX12_copy_113 fl_X12_44 (sm_c45 S0 S) rfl rfl ?_
                        refine am_iload_n (pc' := 117) 3 dX12_copy_116 rfl rfl rfl ?_
                        obtain ⟨hr19, hres⟩ := am_rg hres
                        refine am_iald (pc' := 118) (f := (sm_sheetSize S)) dX12_copy_117 (sm_c56 S0 S) hr19 rfl ?_
                        refine am_iload (pc' := 120) dX12_copy_118 rfl rfl ?_
                        refine am_isub (pc' := 121) dX12_copy_120 rfl ?_
                        refine am_icmp_le (pc' := 124) 127 dX12_copy_121 rfl rfl (fun hc20 => ?_) (fun hc20 => ?_)
                        · rw [if_pos hc20] at hres
                          refine am_bipush (pc' := 129) (v := 40) dX12_copy_127 kb_40 rfl ?_
                          refine am_iload_n (pc' := 130) 1 dX12_copy_129 rfl rfl rfl ?_
                          refine am_imul (pc' := 131) dX12_copy_130 rfl ?_
                          refine am_iload_n (pc' := 132) 2 dX12_copy_131 rfl rfl rfl ?_
                          refine am_iadd (pc' := 133) dX12_copy_132 rfl ?_
                          refine am_istore (pc' := 135) (ls' := [some (.ref 45), some (.int a1), some (.int a2), some (.int a3), some (.int a4), some (.int a5), some (.int (((40 : Int32) * a1) + a2)), none, none, none]) dX12_copy_133 (Nat.le_of_ble_eq_true rfl) rfl rfl rfl ?_
                          refine am_bipush (pc' := 137) (v := 40) dX12_copy_135 kb_40 rfl ?_
                          refine am_iload_n (pc' := 138) 3 dX12_copy_137 rfl rfl rfl ?_
                          refine am_imul (pc' := 139) dX12_copy_138 rfl ?_
                          refine am_iload (pc' := 141) dX12_copy_139 rfl rfl ?_
                          refine am_iadd (pc' := 142) dX12_copy_141 rfl ?_
                          refine am_istore (pc' := 144) (ls' := [some (.ref 45), some (.int a1), some (.int a2), some (.int a3), some (.int a4), some (.int a5), some (.int (((40 : Int32) * a1) + a2)), some (.int (((40 : Int32) * a3) + a4)), none, none]) dX12_copy_142 (Nat.le_of_ble_eq_true rfl) rfl rfl rfl ?_
                          refine am_iconst (pc' := 145) (v := 0) dX12_copy_144 kc_0 rfl ?_
                          refine am_istore (pc' := 147) (ls' := [some (.ref 45), some (.int a1), some (.int a2), some (.int a3), some (.int a4), some (.int a5), some (.int (((40 : Int32) * a1) + a2)), some (.int (((40 : Int32) * a3) + a4)), some (.int (0 : Int32)), none]) dX12_copy_145 (Nat.le_of_ble_eq_true rfl) rfl rfl rfl ?_
                          refine am_weak (ls' := [some (.ref 45), none, none, none, none, some (.int a5), some (.int (((40 : Int32) * a1) + a2)), some (.int (((40 : Int32) * a3) + a4)), some (.int (0 : Int32)), none]) [false, true, true, true, true, false, false, false, false, false] rfl ?_
                          exact wx_X12_copy_147 S0 am_fu _ _ _ _ _ _ hres
                        · rw [if_neg hc20] at hres
                          refine am_bipush (pc' := 126) (v := (-12)) dX12_copy_124 kb_m12 rfl ?_
                          obtain rfl := Option.some.inj hres
                          exact am_iret dX12_copy_126 rfl rfl rfl
          · rw [if_neg hc9] at hres
            refine am_bipush (pc' := 61) (v := (-13)) dX12_copy_59 kb_m13 rfl ?_
            obtain rfl := Option.some.inj hres
            exact am_iret dX12_copy_61 rfl rfl rfl
        · rw [if_pos hc6] at hres
          refine am_bipush (pc' := 43) (v := (-11)) dX12_copy_41 kb_m11 rfl ?_
          obtain rfl := Option.some.inj hres
          exact am_iret dX12_copy_43 rfl rfl rfl
    · rw [if_pos hc2] at hres
      refine am_bipush (pc' := 20) (v := (-2)) dX12_copy_18 kb_m2 rfl ?_
      obtain rfl := Option.some.inj hres
      exact am_iret dX12_copy_20 rfl rfl rfl
set_option maxRecDepth 100000 in
set_option maxHeartbeats 4000000 in
theorem tx_X12_count (S0 : sx_T) (a1 : Int32) (S : sm_T) (res : Int32) (hres : fx_X12_count a1 S = res) : am_T mX12_count 0 0 0 [.ref 45, .int a1] (sx_w S0 (sm_w S)) (some (.int res)) (sx_w S0 (sm_w S)) := by
  refine am_meth (ls := [some (.ref 45), some (.int a1)]) (by decide +kernel) rfl (Nat.le_of_ble_eq_true rfl) (sm_len _ _ _ _) ?_
  rw [fx_X12_count] at hres
  refine am_iload_n (pc' := 1) 1 dX12_count_0 rfl rfl rfl ?_
  rcases Classical.em (a1 = (0 : Int32)) with hs1 | hs1
  · rw [if_pos hs1] at hres
    refine am_tsAt (0 : Int32) 36 dX12_count_1 hs1 (by decide) (by decide) rfl rfl ?_
    refine am_aload_n (pc' := 37) 0 dX12_count_36 rfl rfl rfl ?_
    refine am_get (pc' := 40) (v := .int (sm_viewers S)) dX12_count_37 fl_X12_87 (sm_c45 S0 S) rfl rfl ?_
    subst hres
    exact am_iret dX12_count_40 rfl rfl rfl
  · rw [if_neg hs1] at hres
    rcases Classical.em (a1 = (1 : Int32)) with hs2 | hs2
    · rw [if_pos hs2] at hres
      refine am_tsAt (1 : Int32) 41 dX12_count_1 hs2 (by decide) (by decide) rfl rfl ?_
      refine am_aload_n (pc' := 42) 0 dX12_count_41 rfl rfl rfl ?_
      refine am_get (pc' := 45) (v := .int (sm_hour S)) dX12_count_42 fl_X12_22 (sm_c45 S0 S) rfl rfl ?_
      subst hres
      exact am_iret dX12_count_45 rfl rfl rfl
    · rw [if_neg hs2] at hres
      rcases Classical.em (a1 = (2 : Int32)) with hs3 | hs3
      · rw [if_pos hs3] at hres
        refine am_tsAt (2 : Int32) 46 dX12_count_1 hs3 (by decide) (by decide) rfl rfl ?_
        refine am_aload_n (pc' := 47) 0 dX12_count_46 rfl rfl rfl ?_
        refine am_get (pc' := 50) (v := .int (sm_texts S)) dX12_count_47 fl_X12_94 (sm_c45 S0 S) rfl rfl ?_
        subst hres
        exact am_iret dX12_count_50 rfl rfl rfl
      · rw [if_neg hs3] at hres
        rcases Classical.em (a1 = (3 : Int32)) with hs4 | hs4
        · rw [if_pos hs4] at hres
          refine am_tsAt (3 : Int32) 51 dX12_count_1 hs4 (by decide) (by decide) rfl rfl ?_
          refine am_aload_n (pc' := 52) 0 dX12_count_51 rfl rfl rfl ?_
          refine am_get (pc' := 55) (v := .int (sm_rule S)) dX12_count_52 fl_X12_97 (sm_c45 S0 S) rfl rfl ?_
          subst hres
          exact am_iret dX12_count_55 rfl rfl rfl
        · rw [if_neg hs4] at hres
          rcases Classical.em (a1 = (4 : Int32)) with hs5 | hs5
          · rw [if_pos hs5] at hres
            refine am_tsAt (4 : Int32) 56 dX12_count_1 hs5 (by decide) (by decide) rfl rfl ?_
            refine am_aload_n (pc' := 57) 0 dX12_count_56 rfl rfl rfl ?_
            refine am_get (pc' := 60) (v := .int (sm_taped S)) dX12_count_57 fl_X12_80 (sm_c45 S0 S) rfl rfl ?_
            subst hres
            exact am_iret dX12_count_60 rfl rfl rfl
          · rw [if_neg hs5] at hres
            refine am_tsOff 5 61 dX12_count_1 rfl (fun i hi => by match i, hi with | 0, _ => exact hs1 | 1, _ => exact hs2 | 2, _ => exact hs3 | 3, _ => exact hs4 | 4, _ => exact hs5) rfl ?_
            refine am_bipush (pc' := 63) (v := (-2)) dX12_count_61 kb_m2 rfl ?_
            subst hres
            exact am_iret dX12_count_63 rfl rfl rfl
set_option maxRecDepth 100000 in
set_option maxHeartbeats 4000000 in
theorem wx_X12_crowdOf_4 (S0 : sx_T) (S : sm_T) : ∀ (n : Nat) (v1 : Int32) (v2 : Int32) (v3 : Int32) (res : Int32) (hres : fx_X12_crowdOf_4 S n v1 v2 v3 = some res), am_G mX12_crowdOf (none, 0, 0, 0, (some (.int res)), (sx_w S0 (sm_w S))) (0, 0) 4 [none, some (.int v1), some (.int v2), some (.int v3)] [] (sx_w S0 (sm_w S)) := by
  intro n
  induction n with
  | zero =>
    intro v1 v2 v3 res hres
    cases hres
  | succ n ih =>
    intro v1 v2 v3 res hres
    rw [fx_X12_crowdOf_4] at hres
    refine am_iload_n (pc' := 5) 3 dX12_crowdOf_4 rfl rfl rfl ?_
    refine am_bipush (pc' := 7) (v := 8) dX12_crowdOf_5 kb_8 rfl ?_
    refine am_icmp_ge (pc' := 10) 24 dX12_crowdOf_7 rfl rfl (fun hc1 => ?_) (fun hc1 => ?_)
    · rw [if_pos hc1] at hres
      refine am_iload_n (pc' := 25) 2 dX12_crowdOf_24 rfl rfl rfl ?_
      obtain rfl := Option.some.inj hres
      exact am_iret dX12_crowdOf_25 rfl rfl rfl
    · rw [if_neg hc1] at hres
      refine am_iload_n (pc' := 11) 2 dX12_crowdOf_10 rfl rfl rfl ?_
      refine am_iload_n (pc' := 12) 1 dX12_crowdOf_11 rfl rfl rfl ?_
      refine am_iload_n (pc' := 13) 3 dX12_crowdOf_12 rfl rfl rfl ?_
      refine am_ishr (pc' := 14) dX12_crowdOf_13 rfl ?_
      refine am_iconst (pc' := 15) (v := 1) dX12_crowdOf_14 kc_1 rfl ?_
      refine am_iand (pc' := 16) dX12_crowdOf_15 rfl ?_
      refine am_iadd (pc' := 17) dX12_crowdOf_16 rfl ?_
      refine am_istore_n (pc' := 18) (ls' := [none, some (.int v1), some (.int (v2 + ((v1 >>> (v3 &&& 31)) &&& (1 : Int32)))), some (.int v3)]) 2 dX12_crowdOf_17 rfl (Nat.le_of_ble_eq_true rfl) rfl rfl rfl ?_
      refine am_iinc (pc' := 21) (ls' := [none, some (.int v1), some (.int (v2 + ((v1 >>> (v3 &&& 31)) &&& (1 : Int32)))), some (.int (v3 + (1 : Int32)))]) dX12_crowdOf_18 rfl (show v3 + Int32.ofInt 1 = (v3 + (1 : Int32)) from congrArg (fun z => v3 + z) kc_1) (Nat.le_of_ble_eq_true rfl) rfl rfl rfl ?_
      refine am_goto 4 dX12_crowdOf_21 rfl ?_
      exact ih _ _ _ _ hres

set_option maxRecDepth 100000 in
set_option maxHeartbeats 4000000 in
theorem tx_X12_crowdOf (S0 : sx_T) (a1 : Int32) (S : sm_T) (res : Int32) (hres : fx_X12_crowdOf a1 S = some res) : am_T mX12_crowdOf 0 0 0 [.ref 45, .int a1] (sx_w S0 (sm_w S)) (some (.int res)) (sx_w S0 (sm_w S)) := by
  refine am_meth (ls := [some (.ref 45), some (.int a1), none, none]) (by decide +kernel) rfl (Nat.le_of_ble_eq_true rfl) (sm_len _ _ _ _) ?_
  rw [fx_X12_crowdOf] at hres
  refine am_iconst (pc' := 1) (v := 0) dX12_crowdOf_0 kc_0 rfl ?_
  refine am_istore_n (pc' := 2) (ls' := [some (.ref 45), some (.int a1), some (.int (0 : Int32)), none]) 2 dX12_crowdOf_1 rfl (Nat.le_of_ble_eq_true rfl) rfl rfl rfl ?_
  refine am_iconst (pc' := 3) (v := 0) dX12_crowdOf_2 kc_0 rfl ?_
  refine am_istore_n (pc' := 4) (ls' := [some (.ref 45), some (.int a1), some (.int (0 : Int32)), some (.int (0 : Int32))]) 3 dX12_crowdOf_3 rfl (Nat.le_of_ble_eq_true rfl) rfl rfl rfl ?_
  refine am_weak (ls' := [none, some (.int a1), some (.int (0 : Int32)), some (.int (0 : Int32))]) [true, false, false, false] rfl ?_
  exact wx_X12_crowdOf_4 S0 S am_fu _ _ _ _ hres
set_option maxRecDepth 100000 in
set_option maxHeartbeats 4000000 in
theorem wx_X12_orders_39 (S0 : sx_T) : ∀ (n : Nat) (v2 : Int64) (v4 : Int32) (S : sm_T) (res : sm_T) (hres : fx_X12_orders_39 n v2 v4 S = some res), am_G mX12_orders (none, 1, 0, 0, none, (sx_w S0 (sm_w res))) (0, 0) 39 [some (.ref 45), none, some (.long v2), none, some (.int v4), none, none] [] (sx_w S0 (sm_w S)) := by
  intro n
  induction n with
  | zero =>
    intro v2 v4 S res hres
    cases hres
  | succ n ih =>
    intro v2 v4 S res hres
    rw [fx_X12_orders_39] at hres
    refine am_iload (pc' := 41) dX12_orders_39 rfl rfl ?_
    refine am_if_le (pc' := 44) 107 dX12_orders_41 rfl rfl (fun hc2 => ?_) (fun hc2 => ?_)
    · rw [if_pos hc2] at hres
      obtain rfl := Option.some.inj hres
      exact am_vret dX12_orders_107 rfl rfl rfl
    · rw [if_neg hc2] at hres
      refine am_lload_n (pc' := 45) 2 dX12_orders_44 rfl rfl rfl ?_
      refine am_ldc2 (pc' := 48) dX12_orders_45 ck_X12_251 rfl ?_
      refine am_lmul (pc' := 49) dX12_orders_48 rfl ?_
      refine am_ldc2 (pc' := 52) dX12_orders_49 ck_X12_253 rfl ?_
      refine am_lrem (pc' := 53) dX12_orders_52 (by decide) rfl ?_
      refine am_lstore_n (pc' := 54) (ls' := [some (.ref 45), none, some (.long ((v2 * (48271 : Int64)) - (v2 * (48271 : Int64)) / (2147483647 : Int64) * (2147483647 : Int64))), none, some (.int v4), none, none]) 2 dX12_orders_53 rfl (Nat.le_of_ble_eq_true rfl) rfl rfl rfl ?_
      refine am_lload_n (pc' := 55) 2 dX12_orders_54 rfl rfl rfl ?_
      refine am_iload (pc' := 57) dX12_orders_55 rfl rfl ?_
      refine am_i2l (pc' := 58) dX12_orders_57 rfl ?_
      refine am_lconst (pc' := 59) (v := 1) dX12_orders_58 kl_1 rfl ?_
      refine am_ladd (pc' := 60) dX12_orders_59 rfl ?_
      obtain ⟨hz3, hres⟩ := am_rg hres
      refine am_lrem (pc' := 61) dX12_orders_60 hz3 rfl ?_
      refine am_l2i (pc' := 62) dX12_orders_61 rfl ?_
      refine am_iconst (pc' := 63) (v := 0) dX12_orders_62 kc_0 rfl ?_
      refine am_iconst (pc' := 64) (v := 5) dX12_orders_63 kc_5 rfl ?_
      refine am_cS (pc' := 67) (st' := [.int (fx_X12_within ((((v2 * (48271 : Int64)) - (v2 * (48271 : Int64)) / (2147483647 : Int64) * (2147483647 : Int64)) - ((v2 * (48271 : Int64)) - (v2 * (48271 : Int64)) / (2147483647 : Int64) * (2147483647 : Int64)) / (((v4).toInt64) + (1 : Int64)) * (((v4).toInt64) + (1 : Int64))).toInt32) (0 : Int32) (5 : Int32))]) [] [.int ((((v2 * (48271 : Int64)) - (v2 * (48271 : Int64)) / (2147483647 : Int64) * (2147483647 : Int64)) - ((v2 * (48271 : Int64)) - (v2 * (48271 : Int64)) / (2147483647 : Int64) * (2147483647 : Int64)) / (((v4).toInt64) + (1 : Int64)) * (((v4).toInt64) + (1 : Int64))).toInt32), .int (0 : Int32), .int (5 : Int32)] dX12_orders_64 cs_X12_170 (tx_X12_within (sx_w S0 (sm_w S)) ((((v2 * (48271 : Int64)) - (v2 * (48271 : Int64)) / (2147483647 : Int64) * (2147483647 : Int64)) - ((v2 * (48271 : Int64)) - (v2 * (48271 : Int64)) / (2147483647 : Int64) * (2147483647 : Int64)) / (((v4).toInt64) + (1 : Int64)) * (((v4).toInt64) + (1 : Int64))).toInt32) (0 : Int32) (5 : Int32) _ rfl) rfl rfl rfl rfl rfl rfl ?_
      refine am_istore (pc' := 69) (ls' := [some (.ref 45), none, some (.long ((v2 * (48271 : Int64)) - (v2 * (48271 : Int64)) / (2147483647 : Int64) * (2147483647 : Int64))), none, some (.int v4), some (.int (fx_X12_within ((((v2 * (48271 : Int64)) - (v2 * (48271 : Int64)) / (2147483647 : Int64) * (2147483647 : Int64)) - ((v2 * (48271 : Int64)) - (v2 * (48271 : Int64)) / (2147483647 : Int64) * (2147483647 : Int64)) / (((v4).toInt64) + (1 : Int64)) * (((v4).toInt64) + (1 : Int64))).toInt32) (0 : Int32) (5 : Int32))), none]) dX12_orders_67 (Nat.le_of_ble_eq_true rfl) rfl rfl rfl ?_
      refine am_aload_n (pc' := 70) 0 dX12_orders_69 rfl rfl rfl ?_
      refine am_get (pc' := 73) (v := .ref 63) dX12_orders_70 fl_X12_65 (sm_c45 S0 S) rfl rfl ?_
      refine am_iload (pc' := 75) dX12_orders_73 rfl rfl ?_
      obtain ⟨hr4, hres⟩ := am_rg hres
      refine am_iald (pc' := 76) (f := (sm_row S)) dX12_orders_75 (sm_c63 S0 S) hr4 rfl ?_
      refine am_istore (pc' := 78) (ls' := [some (.ref 45), none, some (.long ((v2 * (48271 : Int64)) - (v2 * (48271 : Int64)) / (2147483647 : Int64) * (2147483647 : Int64))), none, some (.int v4), some (.int (fx_X12_within ((((v2 * (48271 : Int64)) - (v2 * (48271 : Int64)) / (2147483647 : Int64) * (2147483647 : Int64)) - ((v2 * (48271 : Int64)) - (v2 * (48271 : Int64)) / (2147483647 : Int64) * (2147483647 : Int64)) / (((v4).toInt64) + (1 : Int64)) * (((v4).toInt64) + (1 : Int64))).toInt32) (0 : Int32) (5 : Int32))), some (.int ((sm_row S) (fx_X12_within ((((v2 * (48271 : Int64)) - (v2 * (48271 : Int64)) / (2147483647 : Int64) * (2147483647 : Int64)) - ((v2 * (48271 : Int64)) - (v2 * (48271 : Int64)) / (2147483647 : Int64) * (2147483647 : Int64)) / (((v4).toInt64) + (1 : Int64)) * (((v4).toInt64) + (1 : Int64))).toInt32) (0 : Int32) (5 : Int32)).toNatClampNeg))]) dX12_orders_76 (Nat.le_of_ble_eq_true rfl) rfl rfl rfl ?_
      refine am_aload_n (pc' := 79) 0 dX12_orders_78 rfl rfl rfl ?_
      refine am_get (pc' := 82) (v := .ref 63) dX12_orders_79 fl_X12_65 (sm_c45 S0 S) rfl rfl ?_
      refine am_iload (pc' := 84) dX12_orders_82 rfl rfl ?_
      refine am_aload_n (pc' := 85) 0 dX12_orders_84 rfl rfl rfl ?_
      refine am_get (pc' := 88) (v := .ref 63) dX12_orders_85 fl_X12_65 (sm_c45 S0 S) rfl rfl ?_
      refine am_iload (pc' := 90) dX12_orders_88 rfl rfl ?_
      obtain ⟨hr5, hres⟩ := am_rg hres
      refine am_iald (pc' := 91) (f := (sm_row S)) dX12_orders_90 (sm_c63 S0 S) hr5 rfl ?_
      obtain ⟨hr6, hres⟩ := am_rg hres
      refine am_iast (pc' := 92) (f := (sm_row S)) (ws' := (sx_w S0 (sm_w (um_row S (upd (sm_row S) (fx_X12_within ((((v2 * (48271 : Int64)) - (v2 * (48271 : Int64)) / (2147483647 : Int64) * (2147483647 : Int64)) - ((v2 * (48271 : Int64)) - (v2 * (48271 : Int64)) / (2147483647 : Int64) * (2147483647 : Int64)) / (((v4).toInt64) + (1 : Int64)) * (((v4).toInt64) + (1 : Int64))).toInt32) (0 : Int32) (5 : Int32)).toNatClampNeg ((sm_row S) v4.toNatClampNeg)))))) dX12_orders_91 (sm_c63 S0 S) hr6 (sm_p_row S0 S _) rfl ?_
      refine am_aload_n (pc' := 93) 0 dX12_orders_92 rfl rfl rfl ?_
      refine am_get (pc' := 96) (v := .ref 63) dX12_orders_93 fl_X12_65 (sm_c45 S0 (um_row S (upd (sm_row S) (fx_X12_within ((((v2 * (48271 : Int64)) - (v2 * (48271 : Int64)) / (2147483647 : Int64) * (2147483647 : Int64)) - ((v2 * (48271 : Int64)) - (v2 * (48271 : Int64)) / (2147483647 : Int64) * (2147483647 : Int64)) / (((v4).toInt64) + (1 : Int64)) * (((v4).toInt64) + (1 : Int64))).toInt32) (0 : Int32) (5 : Int32)).toNatClampNeg ((sm_row S) v4.toNatClampNeg)))) rfl rfl ?_
      refine am_iload (pc' := 98) dX12_orders_96 rfl rfl ?_
      refine am_iload (pc' := 100) dX12_orders_98 rfl rfl ?_
      obtain ⟨hr7, hres⟩ := am_rg hres
      refine am_iast (pc' := 101) (f := (upd (sm_row S) (fx_X12_within ((((v2 * (48271 : Int64)) - (v2 * (48271 : Int64)) / (2147483647 : Int64) * (2147483647 : Int64)) - ((v2 * (48271 : Int64)) - (v2 * (48271 : Int64)) / (2147483647 : Int64) * (2147483647 : Int64)) / (((v4).toInt64) + (1 : Int64)) * (((v4).toInt64) + (1 : Int64))).toInt32) (0 : Int32) (5 : Int32)).toNatClampNeg ((sm_row S) v4.toNatClampNeg))) (ws' := (sx_w S0 (sm_w (um_row (um_row S (upd (sm_row S) (fx_X12_within ((((v2 * (48271 : Int64)) - (v2 * (48271 : Int64)) / (2147483647 : Int64) * (2147483647 : Int64)) - ((v2 * (48271 : Int64)) - (v2 * (48271 : Int64)) / (2147483647 : Int64) * (2147483647 : Int64)) / (((v4).toInt64) + (1 : Int64)) * (((v4).toInt64) + (1 : Int64))).toInt32) (0 : Int32) (5 : Int32)).toNatClampNeg ((sm_row S) v4.toNatClampNeg))) (upd (upd (sm_row S) (fx_X12_within ((((v2 * (48271 : Int64)) - (v2 * (48271 : Int64)) / (2147483647 : Int64) * (2147483647 : Int64)) - ((v2 * (48271 : Int64)) - (v2 * (48271 : Int64)) / (2147483647 : Int64) * (2147483647 : Int64)) / (((v4).toInt64) + (1 : Int64)) * (((v4).toInt64) + (1 : Int64))).toInt32) (0 : Int32) (5 : Int32)).toNatClampNeg ((sm_row S) v4.toNatClampNeg)) v4.toNatClampNeg ((sm_row S) (fx_X12_within ((((v2 * (48271 : Int64)) - (v2 * (48271 : Int64)) / (2147483647 : Int64) * (2147483647 : Int64)) - ((v2 * (48271 : Int64)) - (v2 * (48271 : Int64)) / (2147483647 : Int64) * (2147483647 : Int64)) / (((v4).toInt64) + (1 : Int64)) * (((v4).toInt64) + (1 : Int64))).toInt32) (0 : Int32) (5 : Int32)).toNatClampNeg)))))) dX12_orders_100 (sm_c63 S0 (um_row S (upd (sm_row S) (fx_X12_within ((((v2 * (48271 : Int64)) - (v2 * (48271 : Int64)) / (2147483647 : Int64) * (2147483647 : Int64)) - ((v2 * (48271 : Int64)) - (v2 * (48271 : Int64)) / (2147483647 : Int64) * (2147483647 : Int64)) / (((v4).toInt64) + (1 : Int64)) * (((v4).toInt64) + (1 : Int64))).toInt32) (0 : Int32) (5 : Int32)).toNatClampNeg ((sm_row S) v4.toNatClampNeg)))) hr7 (sm_p_row S0 (um_row S (upd (sm_row S) (fx_X12_within ((((v2 * (48271 : Int64)) - (v2 * (48271 : Int64)) / (2147483647 : Int64) * (2147483647 : Int64)) - ((v2 * (48271 : Int64)) - (v2 * (48271 : Int64)) / (2147483647 : Int64) * (2147483647 : Int64)) / (((v4).toInt64) + (1 : Int64)) * (((v4).toInt64) + (1 : Int64))).toInt32) (0 : Int32) (5 : Int32)).toNatClampNeg ((sm_row S) v4.toNatClampNeg))) _) rfl ?_
      refine am_iinc (pc' := 104) (ls' := [some (.ref 45), none, some (.long ((v2 * (48271 : Int64)) - (v2 * (48271 : Int64)) / (2147483647 : Int64) * (2147483647 : Int64))), none, some (.int (v4 + (-1 : Int32))), some (.int (fx_X12_within ((((v2 * (48271 : Int64)) - (v2 * (48271 : Int64)) / (2147483647 : Int64) * (2147483647 : Int64)) - ((v2 * (48271 : Int64)) - (v2 * (48271 : Int64)) / (2147483647 : Int64) * (2147483647 : Int64)) / (((v4).toInt64) + (1 : Int64)) * (((v4).toInt64) + (1 : Int64))).toInt32) (0 : Int32) (5 : Int32))), some (.int ((sm_row S) (fx_X12_within ((((v2 * (48271 : Int64)) - (v2 * (48271 : Int64)) / (2147483647 : Int64) * (2147483647 : Int64)) - ((v2 * (48271 : Int64)) - (v2 * (48271 : Int64)) / (2147483647 : Int64) * (2147483647 : Int64)) / (((v4).toInt64) + (1 : Int64)) * (((v4).toInt64) + (1 : Int64))).toInt32) (0 : Int32) (5 : Int32)).toNatClampNeg))]) dX12_orders_101 rfl (show v4 + Int32.ofInt (-1) = (v4 + (-1 : Int32)) from congrArg (fun z => v4 + z) kc_m1) (Nat.le_of_ble_eq_true rfl) rfl rfl rfl ?_
      refine am_goto 39 dX12_orders_104 rfl ?_
      refine am_weak (ls' := [some (.ref 45), none, some (.long ((v2 * (48271 : Int64)) - (v2 * (48271 : Int64)) / (2147483647 : Int64) * (2147483647 : Int64))), none, some (.int (v4 + (-1 : Int32))), none, none]) [false, false, false, false, false, true, true] rfl ?_
      exact ih _ _ _ _ hres

set_option maxRecDepth 100000 in
set_option maxHeartbeats 4000000 in
theorem wx_X12_orders_14 (S0 : sx_T) : ∀ (n : Nat) (v2 : Int64) (v4 : Int32) (S : sm_T) (res : sm_T) (hres : fx_X12_orders_14 n v2 v4 S = some res), am_G mX12_orders (none, 1, 0, 0, none, (sx_w S0 (sm_w res))) (0, 0) 14 [some (.ref 45), none, some (.long v2), none, some (.int v4), none, none] [] (sx_w S0 (sm_w S)) := by
  intro n
  induction n with
  | zero =>
    intro v2 v4 S res hres
    cases hres
  | succ n ih =>
    intro v2 v4 S res hres
    rw [fx_X12_orders_14] at hres
    refine am_iload (pc' := 16) dX12_orders_14 rfl rfl ?_
    refine am_bipush (pc' := 18) (v := 6) dX12_orders_16 kb_6 rfl ?_
    refine am_icmp_ge (pc' := 21) 36 dX12_orders_18 rfl rfl (fun hc1 => ?_) (fun hc1 => ?_)
    · rw [if_pos hc1] at hres
      refine am_iconst (pc' := 37) (v := 5) dX12_orders_36 kc_5 rfl ?_
      refine am_istore (pc' := 39) (ls' := [some (.ref 45), none, some (.long v2), none, some (.int (5 : Int32)), none, none]) dX12_orders_37 (Nat.le_of_ble_eq_true rfl) rfl rfl rfl ?_
      exact wx_X12_orders_39 S0 am_fu _ _ _ _ hres
    · rw [if_neg hc1] at hres
      refine am_aload_n (pc' := 22) 0 dX12_orders_21 rfl rfl rfl ?_
      refine am_get (pc' := 25) (v := .ref 63) dX12_orders_22 fl_X12_65 (sm_c45 S0 S) rfl rfl ?_
      refine am_iload (pc' := 27) dX12_orders_25 rfl rfl ?_
      refine am_iload (pc' := 29) dX12_orders_27 rfl rfl ?_
      obtain ⟨hr8, hres⟩ := am_rg hres
      refine am_iast (pc' := 30) (f := (sm_row S)) (ws' := (sx_w S0 (sm_w (um_row S (upd (sm_row S) v4.toNatClampNeg v4))))) dX12_orders_29 (sm_c63 S0 S) hr8 (sm_p_row S0 S _) rfl ?_
      refine am_iinc (pc' := 33) (ls' := [some (.ref 45), none, some (.long v2), none, some (.int (v4 + (1 : Int32))), none, none]) dX12_orders_30 rfl (show v4 + Int32.ofInt 1 = (v4 + (1 : Int32)) from congrArg (fun z => v4 + z) kc_1) (Nat.le_of_ble_eq_true rfl) rfl rfl rfl ?_
      refine am_goto 14 dX12_orders_33 rfl ?_
      exact ih _ _ _ _ hres

set_option maxRecDepth 100000 in
set_option maxHeartbeats 4000000 in
theorem tx_X12_orders (S0 : sx_T) (a1 : Int32) (S : sm_T) (res : sm_T) (hres : fx_X12_orders a1 S = some res) : am_T mX12_orders 1 0 0 [.ref 45, .int a1] (sx_w S0 (sm_w S)) none (sx_w S0 (sm_w res)) := by
  refine am_meth (ls := [some (.ref 45), some (.int a1), none, none, none, none, none]) (by decide +kernel) rfl (Nat.le_of_ble_eq_true rfl) (sm_len _ _ _ _) ?_
  rw [fx_X12_orders] at hres
  refine am_iload_n (pc' := 1) 1 dX12_orders_0 rfl rfl rfl ?_
  refine am_i2l (pc' := 2) dX12_orders_1 rfl ?_
  refine am_lconst (pc' := 3) (v := 1) dX12_orders_2 kl_1 rfl ?_
  refine am_ladd (pc' := 4) dX12_orders_3 rfl ?_
  refine am_lstore_n (pc' := 5) (ls' := [some (.ref 45), some (.int a1), some (.long (((a1).toInt64) + (1 : Int64))), none, none, none, none]) 2 dX12_orders_4 rfl (Nat.le_of_ble_eq_true rfl) rfl rfl rfl ?_
  refine am_aload_n (pc' := 6) 0 dX12_orders_5 rfl rfl rfl ?_
  refine am_bipush (pc' := 8) (v := 6) dX12_orders_6 kb_6 rfl ?_
  refine am_put (pc' := 11) (ws' := (sx_w S0 (sm_w (um_rooms0 S (6 : Int32))))) (v := .int (6 : Int32)) dX12_orders_8 fp_X12_181 (sm_c45 S0 S) (fun _ => ⟨rfl, rfl⟩) (Nat.le_of_ble_eq_true rfl) (sm_p_rooms0 S0 S _) rfl ?_
  refine am_iconst (pc' := 12) (v := 0) dX12_orders_11 kc_0 rfl ?_
  refine am_istore (pc' := 14) (ls' := [some (.ref 45), some (.int a1), some (.long (((a1).toInt64) + (1 : Int64))), none, some (.int (0 : Int32)), none, none]) dX12_orders_12 (Nat.le_of_ble_eq_true rfl) rfl rfl rfl ?_
  refine am_weak (ls' := [some (.ref 45), none, some (.long (((a1).toInt64) + (1 : Int64))), none, some (.int (0 : Int32)), none, none]) [false, true, false, false, false, false, false] rfl ?_
  exact wx_X12_orders_14 S0 am_fu _ _ _ _ hres
set_option maxRecDepth 100000 in
set_option maxHeartbeats 4000000 in
theorem wx_X12_mindOf_54 (S0 : sx_T) (k5 : Int32 → Int32 → Int32 → Int32 → sm_T → Option (Int32 × sm_T)) (hk5 : ∀ (v1 : Int32) (v2 : Int32) (v3 : Int32) (v4 : Int32) (S : sm_T) (res : Int32 × sm_T), k5 v1 v2 v3 v4 S = some res → am_G mX12_mindOf (none, 4, 0, 0, (some (.int res.1)), (sx_w S0 (sm_w res.2))) (0, 0) 5 [some (.ref 45), some (.int v1), some (.int v2), some (.int v3), some (.int v4), none] [] (sx_w S0 (sm_w S))) : ∀ (v1 : Int32) (v2 : Int32) (v4 : Int32) (w0 : Int32) (w1 : Int32) (w3 : Int32) (w4 : Int32) (w5 : Int32) (w6 : Int32) (w7 : Int32) (S : sm_T) (res : Int32 × sm_T) (hres : fx_X12_mindOf_54 k5 v1 v2 v4 w0 w1 w3 w4 w5 w6 w7 S = some res), am_G mX12_mindOf (none, 4, 0, 0, (some (.int res.1)), (sx_w S0 (sm_w res.2))) (0, 0) 54 [some (.ref 45), some (.int v1), some (.int v2), none, some (.int v4), none] [.int w7, .int w6, .int w5, .int w4, .int w3, .ref 45, .int w1, .int w0] (sx_w S0 (sm_w S)) := by
  intro v1 v2 v4 w0 w1 w3 w4 w5 w6 w7 S res hres
  rw [fx_X12_mindOf_54] at hres
  refine am_iload (pc' := 56) dX12_mindOf_54 rfl rfl ?_
  refine am_aload_n (pc' := 57) 0 dX12_mindOf_56 rfl rfl rfl ?_
  refine am_get (pc' := 60) (v := .int (sm_rooms0 S)) dX12_mindOf_57 fl_X12_181 (sm_c45 S0 S) rfl rfl ?_
  refine am_iconst (pc' := 61) (v := 1) dX12_mindOf_60 kc_1 rfl ?_
  refine am_isub (pc' := 62) dX12_mindOf_61 rfl ?_
  refine am_icmp_ne (pc' := 65) 69 dX12_mindOf_62 rfl rfl (fun hc7 => ?_) (fun hc7 => ?_)
  · rw [if_neg hc7] at hres
    refine am_iconst (pc' := 70) (v := 0) dX12_mindOf_69 kc_0 rfl ?_
    obtain ⟨q8, hq9, hres⟩ := am_bd_s hres
    refine am_cV (pc' := 73) (st' := [.int q8.1, .int w1, .int w0]) [.int w1, .int w0] [.int w3, .int w4, .int w5, .int w6, .int w7, .int (0 : Int32)] dX12_mindOf_70 cs_X12_187 (tx_X12_keepsOf S0 w3 w4 w5 w6 w7 (0 : Int32) S _ hq9) rfl rfl rfl (sm_c45 S0 S) rfl rfl rfl rfl rfl ?_
    refine am_imul (pc' := 74) dX12_mindOf_73 rfl ?_
    refine am_iadd (pc' := 75) dX12_mindOf_74 rfl ?_
    refine am_istore_n (pc' := 76) (ls' := [some (.ref 45), some (.int v1), some (.int v2), some (.int (w0 + (w1 * q8.1))), some (.int v4), none]) 3 dX12_mindOf_75 rfl (Nat.le_of_ble_eq_true rfl) rfl rfl rfl ?_
    refine am_iinc (pc' := 79) (ls' := [some (.ref 45), some (.int v1), some (.int v2), some (.int (w0 + (w1 * q8.1))), some (.int (v4 + (1 : Int32))), none]) dX12_mindOf_76 rfl (show v4 + Int32.ofInt 1 = (v4 + (1 : Int32)) from congrArg (fun z => v4 + z) kc_1) (Nat.le_of_ble_eq_true rfl) rfl rfl rfl ?_
    refine am_goto 5 dX12_mindOf_79 rfl ?_
    exact hk5 _ _ _ _ _ _ hres
  · rw [if_pos hc7] at hres
    refine am_iconst (pc' := 66) (v := 1) dX12_mindOf_65 kc_1 rfl ?_
    refine am_goto 70 dX12_mindOf_66 rfl ?_
    obtain ⟨q10, hq11, hres⟩ := am_bd_s hres
    refine am_cV (pc' := 73) (st' := [.int q10.1, .int w1, .int w0]) [.int w1, .int w0] [.int w3, .int w4, .int w5, .int w6, .int w7, .int (1 : Int32)] dX12_mindOf_70 cs_X12_187 (tx_X12_keepsOf S0 w3 w4 w5 w6 w7 (1 : Int32) S _ hq11) rfl rfl rfl (sm_c45 S0 S) rfl rfl rfl rfl rfl ?_
    refine am_imul (pc' := 74) dX12_mindOf_73 rfl ?_
    refine am_iadd (pc' := 75) dX12_mindOf_74 rfl ?_
    refine am_istore_n (pc' := 76) (ls' := [some (.ref 45), some (.int v1), some (.int v2), some (.int (w0 + (w1 * q10.1))), some (.int v4), none]) 3 dX12_mindOf_75 rfl (Nat.le_of_ble_eq_true rfl) rfl rfl rfl ?_
    refine am_iinc (pc' := 79) (ls' := [some (.ref 45), some (.int v1), some (.int v2), some (.int (w0 + (w1 * q10.1))), some (.int (v4 + (1 : Int32))), none]) dX12_mindOf_76 rfl (show v4 + Int32.ofInt 1 = (v4 + (1 : Int32)) from congrArg (fun z => v4 + z) kc_1) (Nat.le_of_ble_eq_true rfl) rfl rfl rfl ?_
    refine am_goto 5 dX12_mindOf_79 rfl ?_
    exact hk5 _ _ _ _ _ _ hres

set_option maxRecDepth 100000 in
set_option maxHeartbeats 4000000 in
theorem wx_X12_mindOf_5 (S0 : sx_T) : ∀ (n : Nat) (v1 : Int32) (v2 : Int32) (v3 : Int32) (v4 : Int32) (S : sm_T) (res : Int32 × sm_T) (hres : fx_X12_mindOf_5 n v1 v2 v3 v4 S = some res), am_G mX12_mindOf (none, 4, 0, 0, (some (.int res.1)), (sx_w S0 (sm_w res.2))) (0, 0) 5 [some (.ref 45), some (.int v1), some (.int v2), some (.int v3), some (.int v4), none] [] (sx_w S0 (sm_w S)) := by
  intro n
  induction n with
  | zero =>
    intro v1 v2 v3 v4 S res hres
    cases hres
  | succ n ih =>
    intro v1 v2 v3 v4 S res hres
    rw [fx_X12_mindOf_5] at hres
    refine am_iload (pc' := 7) dX12_mindOf_5 rfl rfl ?_
    refine am_aload_n (pc' := 8) 0 dX12_mindOf_7 rfl rfl rfl ?_
    refine am_get (pc' := 11) (v := .int (sm_rooms0 S)) dX12_mindOf_8 fl_X12_181 (sm_c45 S0 S) rfl rfl ?_
    refine am_icmp_ge (pc' := 14) 82 dX12_mindOf_11 rfl rfl (fun hc1 => ?_) (fun hc1 => ?_)
    · rw [if_pos hc1] at hres
      refine am_iload_n (pc' := 83) 3 dX12_mindOf_82 rfl rfl rfl ?_
      obtain rfl := Option.some.inj hres
      exact am_iret dX12_mindOf_83 rfl rfl rfl
    · rw [if_neg hc1] at hres
      refine am_aload_n (pc' := 15) 0 dX12_mindOf_14 rfl rfl rfl ?_
      refine am_iload_n (pc' := 16) 1 dX12_mindOf_15 rfl rfl rfl ?_
      refine am_aload_n (pc' := 17) 0 dX12_mindOf_16 rfl rfl rfl ?_
      refine am_get (pc' := 20) (v := .ref 63) dX12_mindOf_17 fl_X12_65 (sm_c45 S0 S) rfl rfl ?_
      refine am_iload (pc' := 22) dX12_mindOf_20 rfl rfl ?_
      obtain ⟨hr2, hres⟩ := am_rg hres
      refine am_iald (pc' := 23) (f := (sm_row S)) dX12_mindOf_22 (sm_c63 S0 S) hr2 rfl ?_
      refine am_iload_n (pc' := 24) 2 dX12_mindOf_23 rfl rfl rfl ?_
      obtain ⟨q3, hq4, hres⟩ := am_bd_s hres
      refine am_cV (pc' := 27) (st' := [.int q3.1]) [] [.int v1, .int ((sm_row S) v4.toNatClampNeg), .int v2] dX12_mindOf_24 cs_X12_184 (tx_X12_likesOf S0 v1 ((sm_row S) v4.toNatClampNeg) v2 S _ hq4) rfl rfl rfl (sm_c45 S0 S) rfl rfl rfl rfl rfl ?_
      refine am_istore (pc' := 29) (ls' := [some (.ref 45), some (.int v1), some (.int v2), some (.int v3), some (.int v4), some (.int q3.1)]) dX12_mindOf_27 (Nat.le_of_ble_eq_true rfl) rfl rfl rfl ?_
      refine am_iload_n (pc' := 30) 3 dX12_mindOf_29 rfl rfl rfl ?_
      refine am_iload (pc' := 32) dX12_mindOf_30 rfl rfl ?_
      refine am_aload_n (pc' := 33) 0 dX12_mindOf_32 rfl rfl rfl ?_
      refine am_iload_n (pc' := 34) 1 dX12_mindOf_33 rfl rfl rfl ?_
      refine am_aload_n (pc' := 35) 0 dX12_mindOf_34 rfl rfl rfl ?_
      refine am_get (pc' := 38) (v := .ref 63) dX12_mindOf_35 fl_X12_65 (sm_c45 S0 q3.2) rfl rfl ?_
      refine am_iload (pc' := 40) dX12_mindOf_38 rfl rfl ?_
      obtain ⟨hr5, hres⟩ := am_rg hres
      refine am_iald (pc' := 41) (f := (sm_row q3.2)) dX12_mindOf_40 (sm_c63 S0 q3.2) hr5 rfl ?_
      refine am_iload_n (pc' := 42) 2 dX12_mindOf_41 rfl rfl rfl ?_
      refine am_iload (pc' := 44) dX12_mindOf_42 rfl rfl ?_
      refine am_iload (pc' := 46) dX12_mindOf_44 rfl rfl ?_
      refine am_if_ne (pc' := 49) 53 dX12_mindOf_46 rfl rfl (fun hc6 => ?_) (fun hc6 => ?_)
      · rw [if_neg hc6] at hres
        refine am_iconst (pc' := 54) (v := 0) dX12_mindOf_53 kc_0 rfl ?_
        refine am_weak (ls' := [some (.ref 45), some (.int v1), some (.int v2), none, some (.int v4), none]) [false, false, false, true, false, true] rfl ?_
        exact wx_X12_mindOf_54 S0 _ (fun a0 a1 a2 a3 a4 => ih a0 a1 a2 a3 a4) _ _ _ _ _ _ _ _ _ _ _ _ hres
      · rw [if_pos hc6] at hres
        refine am_iconst (pc' := 50) (v := 1) dX12_mindOf_49 kc_1 rfl ?_
        refine am_goto 54 dX12_mindOf_50 rfl ?_
        refine am_weak (ls' := [some (.ref 45), some (.int v1), some (.int v2), none, some (.int v4), none]) [false, false, false, true, false, true] rfl ?_
        exact wx_X12_mindOf_54 S0 _ (fun a0 a1 a2 a3 a4 => ih a0 a1 a2 a3 a4) _ _ _ _ _ _ _ _ _ _ _ _ hres

set_option maxRecDepth 100000 in
set_option maxHeartbeats 4000000 in
theorem tx_X12_mindOf (S0 : sx_T) (a1 : Int32) (a2 : Int32) (S : sm_T) (res : Int32 × sm_T) (hres : fx_X12_mindOf a1 a2 S = some res) : am_T mX12_mindOf 4 0 0 [.ref 45, .int a1, .int a2] (sx_w S0 (sm_w S)) (some (.int res.1)) (sx_w S0 (sm_w res.2)) := by
  refine am_meth (ls := [some (.ref 45), some (.int a1), some (.int a2), none, none, none]) (by decide +kernel) rfl (Nat.le_of_ble_eq_true rfl) (sm_len _ _ _ _) ?_
  rw [fx_X12_mindOf] at hres
  refine am_iconst (pc' := 1) (v := 0) dX12_mindOf_0 kc_0 rfl ?_
  refine am_istore_n (pc' := 2) (ls' := [some (.ref 45), some (.int a1), some (.int a2), some (.int (0 : Int32)), none, none]) 3 dX12_mindOf_1 rfl (Nat.le_of_ble_eq_true rfl) rfl rfl rfl ?_
  refine am_iconst (pc' := 3) (v := 0) dX12_mindOf_2 kc_0 rfl ?_
  refine am_istore (pc' := 5) (ls' := [some (.ref 45), some (.int a1), some (.int a2), some (.int (0 : Int32)), some (.int (0 : Int32)), none]) dX12_mindOf_3 (Nat.le_of_ble_eq_true rfl) rfl rfl rfl ?_
  exact wx_X12_mindOf_5 S0 am_fu _ _ _ _ _ _ hres
set_option maxRecDepth 100000 in
set_option maxHeartbeats 4000000 in
theorem wx_X12_offersOf_47 (S0 : sx_T) : ∀ (v1 : Int32) (v3 : Int32) (v4 : Int32) (w0 : Int32) (S : sm_T) (res : Int32 × sm_T) (hres : fx_X12_offersOf_47 v1 v3 v4 w0 S = some res), am_G mX12_offersOf (none, 3, 0, 0, (some (.int res.1)), (sx_w S0 (sm_w res.2))) (0, 0) 47 [some (.ref 45), some (.int v1), none, some (.int v3), some (.int v4), none] [.int w0] (sx_w S0 (sm_w S)) := by
  intro v1 v3 v4 w0 S res hres
  rw [fx_X12_offersOf_47] at hres
  refine am_istore (pc' := 49) (ls' := [some (.ref 45), some (.int v1), none, some (.int v3), some (.int v4), some (.int w0)]) dX12_offersOf_47 (Nat.le_of_ble_eq_true rfl) rfl rfl rfl ?_
  refine am_aload_n (pc' := 50) 0 dX12_offersOf_49 rfl rfl rfl ?_
  refine am_get (pc' := 53) (v := .ref 46) dX12_offersOf_50 fl_X12_7 (sm_c45 S0 S) rfl rfl ?_
  refine am_iload_n (pc' := 54) 1 dX12_offersOf_53 rfl rfl rfl ?_
  obtain ⟨hr5, hres⟩ := am_rg hres
  refine am_iald (pc' := 55) (f := (sm_kind S)) dX12_offersOf_54 (sm_c46 S0 S) hr5 rfl ?_
  rcases Classical.em (((sm_kind S) v1.toNatClampNeg) = (2 : Int32)) with hs6 | hs6
  · rw [if_pos hs6] at hres
    refine am_tsAt (2 : Int32) 80 dX12_offersOf_55 hs6 (by decide) (by decide) rfl rfl ?_
    refine am_iload (pc' := 82) dX12_offersOf_80 rfl rfl ?_
    obtain rfl := Option.some.inj hres
    exact am_iret dX12_offersOf_82 rfl rfl rfl
  · rw [if_neg hs6] at hres
    rcases Classical.em (((sm_kind S) v1.toNatClampNeg) = (3 : Int32)) with hs7 | hs7
    · rw [if_pos hs7] at hres
      refine am_tsAt (3 : Int32) 83 dX12_offersOf_55 hs7 (by decide) (by decide) rfl rfl ?_
      refine am_iload (pc' := 85) dX12_offersOf_83 rfl rfl ?_
      refine am_iload_n (pc' := 86) 3 dX12_offersOf_85 rfl rfl rfl ?_
      refine am_iadd (pc' := 87) dX12_offersOf_86 rfl ?_
      refine am_if_ge (pc' := 90) 94 dX12_offersOf_87 rfl rfl (fun hc9 => ?_) (fun hc9 => ?_)
      · rw [if_pos hc9] at hres
        refine am_iload (pc' := 96) dX12_offersOf_94 rfl rfl ?_
        refine am_iload_n (pc' := 97) 3 dX12_offersOf_96 rfl rfl rfl ?_
        refine am_iadd (pc' := 98) dX12_offersOf_97 rfl ?_
        obtain rfl := Option.some.inj hres
        exact am_iret dX12_offersOf_98 rfl rfl rfl
      · rw [if_neg hc9] at hres
        refine am_iconst (pc' := 91) (v := 0) dX12_offersOf_90 kc_0 rfl ?_
        refine am_goto 98 dX12_offersOf_91 rfl ?_
        obtain rfl := Option.some.inj hres
        exact am_iret dX12_offersOf_98 rfl rfl rfl
    · rw [if_neg hs7] at hres
      rcases Classical.em (((sm_kind S) v1.toNatClampNeg) = (4 : Int32)) with hs8 | hs8
      · rw [if_pos hs8] at hres
        refine am_tsAt (4 : Int32) 99 dX12_offersOf_55 hs8 (by decide) (by decide) rfl rfl ?_
        refine am_iload (pc' := 101) dX12_offersOf_99 rfl rfl ?_
        refine am_iconst (pc' := 102) (v := 2) dX12_offersOf_101 kc_2 rfl ?_
        refine am_idiv (pc' := 103) dX12_offersOf_102 (by decide) rfl ?_
        obtain rfl := Option.some.inj hres
        exact am_iret dX12_offersOf_103 rfl rfl rfl
      · rw [if_neg hs8] at hres
        refine am_tsOff 3 104 dX12_offersOf_55 rfl (fun i hi => by match i, hi with | 0, _ => exact hs6 | 1, _ => exact hs7 | 2, _ => exact hs8) rfl ?_
        refine am_iload (pc' := 106) dX12_offersOf_104 rfl rfl ?_
        obtain rfl := Option.some.inj hres
        exact am_iret dX12_offersOf_106 rfl rfl rfl

set_option maxRecDepth 100000 in
set_option maxHeartbeats 4000000 in
theorem wx_X12_offersOf_28 (S0 : sx_T) : ∀ (v1 : Int32) (v2 : Int32) (v3 : Int32) (w0 : Int32) (S : sm_T) (res : Int32 × sm_T) (hres : fx_X12_offersOf_28 v1 v2 v3 w0 S = some res), am_G mX12_offersOf (none, 3, 0, 0, (some (.int res.1)), (sx_w S0 (sm_w res.2))) (0, 0) 28 [some (.ref 45), some (.int v1), some (.int v2), some (.int v3), none, none] [.int w0] (sx_w S0 (sm_w S)) := by
  intro v1 v2 v3 w0 S res hres
  rw [fx_X12_offersOf_28] at hres
  refine am_istore (pc' := 30) (ls' := [some (.ref 45), some (.int v1), some (.int v2), some (.int v3), some (.int w0), none]) dX12_offersOf_28 (Nat.le_of_ble_eq_true rfl) rfl rfl rfl ?_
  refine am_iload_n (pc' := 31) 2 dX12_offersOf_30 rfl rfl rfl ?_
  refine am_iconst (pc' := 32) (v := 2) dX12_offersOf_31 kc_2 rfl ?_
  refine am_icmp_le (pc' := 35) 45 dX12_offersOf_32 rfl rfl (fun hc4 => ?_) (fun hc4 => ?_)
  · rw [if_pos hc4] at hres
    refine am_iload (pc' := 47) dX12_offersOf_45 rfl rfl ?_
    refine am_weak (ls' := [some (.ref 45), some (.int v1), none, some (.int v3), some (.int w0), none]) [false, false, true, false, false, false] rfl ?_
    exact wx_X12_offersOf_47 S0 _ _ _ _ _ _ hres
  · rw [if_neg hc4] at hres
    refine am_iload (pc' := 37) dX12_offersOf_35 rfl rfl ?_
    refine am_bipush (pc' := 39) (v := 10) dX12_offersOf_37 kb_10 rfl ?_
    refine am_iload_n (pc' := 40) 2 dX12_offersOf_39 rfl rfl rfl ?_
    refine am_imul (pc' := 41) dX12_offersOf_40 rfl ?_
    refine am_iadd (pc' := 42) dX12_offersOf_41 rfl ?_
    refine am_goto 47 dX12_offersOf_42 rfl ?_
    refine am_weak (ls' := [some (.ref 45), some (.int v1), none, some (.int v3), some (.int w0), none]) [false, false, true, false, false, false] rfl ?_
    exact wx_X12_offersOf_47 S0 _ _ _ _ _ _ hres

set_option maxRecDepth 100000 in
set_option maxHeartbeats 4000000 in
theorem tx_X12_offersOf (S0 : sx_T) (a1 : Int32) (a2 : Int32) (a3 : Int32) (S : sm_T) (res : Int32 × sm_T) (hres : fx_X12_offersOf a1 a2 a3 S = some res) : am_T mX12_offersOf 3 0 0 [.ref 45, .int a1, .int a2, .int a3] (sx_w S0 (sm_w S)) (some (.int res.1)) (sx_w S0 (sm_w res.2)) := by
  refine am_meth (ls := [some (.ref 45), some (.int a1), some (.int a2), some (.int a3), none, none]) (by decide +kernel) rfl (Nat.le_of_ble_eq_true rfl) (sm_len _ _ _ _) ?_
  rw [fx_X12_offersOf] at hres
  refine am_aload_n (pc' := 1) 0 dX12_offersOf_0 rfl rfl rfl ?_
  refine am_get (pc' := 4) (v := .ref 46) dX12_offersOf_1 fl_X12_7 (sm_c45 S0 S) rfl rfl ?_
  refine am_iload_n (pc' := 5) 1 dX12_offersOf_4 rfl rfl rfl ?_
  obtain ⟨hr1, hres⟩ := am_rg hres
  refine am_iald (pc' := 6) (f := (sm_kind S)) dX12_offersOf_5 (sm_c46 S0 S) hr1 rfl ?_
  refine am_iconst (pc' := 7) (v := 5) dX12_offersOf_6 kc_5 rfl ?_
  refine am_icmp_ne (pc' := 10) 12 dX12_offersOf_7 rfl rfl (fun hc2 => ?_) (fun hc2 => ?_)
  · rw [if_neg hc2] at hres
    refine am_iload_n (pc' := 13) 3 dX12_offersOf_12 rfl rfl rfl ?_
    refine am_if_le (pc' := 16) 27 dX12_offersOf_13 rfl rfl (fun hc3 => ?_) (fun hc3 => ?_)
    · rw [if_pos hc3] at hres
      refine am_iconst (pc' := 28) (v := 0) dX12_offersOf_27 kc_0 rfl ?_
      exact wx_X12_offersOf_28 S0 _ _ _ _ _ _ hres
    · rw [if_neg hc3] at hres
      refine am_aload_n (pc' := 17) 0 dX12_offersOf_16 rfl rfl rfl ?_
      refine am_iconst (pc' := 18) (v := 2) dX12_offersOf_17 kc_2 rfl ?_
      refine am_iload_n (pc' := 19) 1 dX12_offersOf_18 rfl rfl rfl ?_
      refine am_iconst (pc' := 20) (v := 0) dX12_offersOf_19 kc_0 rfl ?_
      refine am_iload_n (pc' := 21) 2 dX12_offersOf_20 rfl rfl rfl ?_
      obtain ⟨q10, hq11, hres⟩ := am_bd_s hres
      refine am_cV (pc' := 24) (st' := [.int q10.1]) [] [.int (2 : Int32), .int a1, .int (0 : Int32), .int a2] dX12_offersOf_21 cs_X12_176 (tx_X12_asksOf S0 (2 : Int32) a1 (0 : Int32) a2 S _ hq11) rfl rfl rfl (sm_c45 S0 S) rfl rfl rfl rfl rfl ?_
      refine am_goto 28 dX12_offersOf_24 rfl ?_
      exact wx_X12_offersOf_28 S0 _ _ _ _ _ _ hres
  · rw [if_pos hc2] at hres
    refine am_iconst (pc' := 11) (v := 0) dX12_offersOf_10 kc_0 rfl ?_
    obtain rfl := Option.some.inj hres
    exact am_iret dX12_offersOf_11 rfl rfl rfl
set_option maxRecDepth 100000 in
set_option maxHeartbeats 4000000 in
theorem tx_X12_offerOf (S0 : sx_T) (a1 : Int32) (a2 : Int32) (S : sm_T) (res : Int32 × sm_T) (hres : fx_X12_offerOf a1 a2 S = some res) : am_T mX12_offerOf 5 0 0 [.ref 45, .int a1, .int a2] (sx_w S0 (sm_w S)) (some (.int res.1)) (sx_w S0 (sm_w res.2)) := by
  refine am_meth (ls := [some (.ref 45), some (.int a1), some (.int a2)]) (by decide +kernel) rfl (Nat.le_of_ble_eq_true rfl) (sm_len _ _ _ _) ?_
  rw [fx_X12_offerOf] at hres
  refine am_aload_n (pc' := 1) 0 dX12_offerOf_0 rfl rfl rfl ?_
  refine am_iload_n (pc' := 2) 1 dX12_offerOf_1 rfl rfl rfl ?_
  refine am_iload_n (pc' := 3) 2 dX12_offerOf_2 rfl rfl rfl ?_
  refine am_aload_n (pc' := 4) 0 dX12_offerOf_3 rfl rfl rfl ?_
  refine am_iload_n (pc' := 5) 1 dX12_offerOf_4 rfl rfl rfl ?_
  refine am_iload_n (pc' := 6) 2 dX12_offerOf_5 rfl rfl rfl ?_
  obtain ⟨q1, hq2, hres⟩ := am_bd_s hres
  refine am_cV (pc' := 9) (st' := [.int q1.1, .int a2, .int a1, .ref 45]) [.int a2, .int a1, .ref 45] [.int a1, .int a2] dX12_offerOf_6 cs_X12_191 (tx_X12_mindOf S0 a1 a2 S _ hq2) rfl rfl rfl (sm_c45 S0 S) rfl rfl rfl rfl rfl ?_
  obtain ⟨q3, hq4, hres⟩ := am_bd_s hres
  refine am_cV (pc' := 12) (st' := [.int q3.1]) [] [.int a1, .int a2, .int q1.1] dX12_offerOf_9 cs_X12_194 (tx_X12_offersOf S0 a1 a2 q1.1 q1.2 _ hq4) rfl rfl rfl (sm_c45 S0 q1.2) rfl rfl rfl rfl rfl ?_
  obtain rfl := Option.some.inj hres
  exact am_iret dX12_offerOf_12 rfl rfl rfl
set_option maxRecDepth 100000 in
set_option maxHeartbeats 4000000 in
theorem wx_X12_drawn_66 (S0 : sx_T) : ∀ (n : Nat) (v4 : Int32) (v5 : Int32) (S : sm_T) (res : Int32 × sm_T) (hres : fx_X12_drawn_66 n v4 v5 S = some res), am_G mX12_drawn (none, 6, 0, 0, (some (.int res.1)), (sx_w S0 (sm_w res.2))) (0, 0) 66 [some (.ref 45), none, none, none, some (.int v4), some (.int v5)] [] (sx_w S0 (sm_w S)) := by
  intro n
  induction n with
  | zero =>
    intro v4 v5 S res hres
    cases hres
  | succ n ih =>
    intro v4 v5 S res hres
    rw [fx_X12_drawn_66] at hres
    refine am_iload (pc' := 68) dX12_drawn_66 rfl rfl ?_
    refine am_bipush (pc' := 70) (v := 6) dX12_drawn_68 kb_6 rfl ?_
    refine am_icmp_ge (pc' := 73) 96 dX12_drawn_70 rfl rfl (fun hc7 => ?_) (fun hc7 => ?_)
    · rw [if_pos hc7] at hres
      refine am_iload (pc' := 98) dX12_drawn_96 rfl rfl ?_
      obtain rfl := Option.some.inj hres
      exact am_iret dX12_drawn_98 rfl rfl rfl
    · rw [if_neg hc7] at hres
      refine am_bipush (pc' := 75) (v := 10) dX12_drawn_73 kb_10 rfl ?_
      refine am_iload (pc' := 77) dX12_drawn_75 rfl rfl ?_
      refine am_imul (pc' := 78) dX12_drawn_77 rfl ?_
      refine am_aload_n (pc' := 79) 0 dX12_drawn_78 rfl rfl rfl ?_
      refine am_get (pc' := 82) (v := .ref 63) dX12_drawn_79 fl_X12_65 (sm_c45 S0 S) rfl rfl ?_
      refine am_iload (pc' := 84) dX12_drawn_82 rfl rfl ?_
      obtain ⟨hr8, hres⟩ := am_rg hres
      refine am_iald (pc' := 85) (f := (sm_row S)) dX12_drawn_84 (sm_c63 S0 S) hr8 rfl ?_
      refine am_iadd (pc' := 86) dX12_drawn_85 rfl ?_
      refine am_iconst (pc' := 87) (v := 1) dX12_drawn_86 kc_1 rfl ?_
      refine am_iadd (pc' := 88) dX12_drawn_87 rfl ?_
      refine am_istore (pc' := 90) (ls' := [some (.ref 45), none, none, none, some (.int ((((10 : Int32) * v4) + ((sm_row S) v5.toNatClampNeg)) + (1 : Int32))), some (.int v5)]) dX12_drawn_88 (Nat.le_of_ble_eq_true rfl) rfl rfl rfl ?_
      refine am_iinc (pc' := 93) (ls' := [some (.ref 45), none, none, none, some (.int ((((10 : Int32) * v4) + ((sm_row S) v5.toNatClampNeg)) + (1 : Int32))), some (.int (v5 + (1 : Int32)))]) dX12_drawn_90 rfl (show v5 + Int32.ofInt 1 = (v5 + (1 : Int32)) from congrArg (fun z => v5 + z) kc_1) (Nat.le_of_ble_eq_true rfl) rfl rfl rfl ?_
      refine am_goto 66 dX12_drawn_93 rfl ?_
      exact ih _ _ _ _ hres

set_option maxRecDepth 100000 in
set_option maxHeartbeats 4000000 in
theorem tx_X12_drawn (S0 : sx_T) (a1 : Int32) (a2 : Int32) (a3 : Int32) (S : sm_T) (res : Int32 × sm_T) (hres : fx_X12_drawn a1 a2 a3 S = some res) : am_T mX12_drawn 6 0 0 [.ref 45, .int a1, .int a2, .int a3] (sx_w S0 (sm_w S)) (some (.int res.1)) (sx_w S0 (sm_w res.2)) := by
  refine am_meth (ls := [some (.ref 45), some (.int a1), some (.int a2), some (.int a3), none, none]) (by decide +kernel) rfl (Nat.le_of_ble_eq_true rfl) (sm_len _ _ _ _) ?_
  rw [fx_X12_drawn] at hres
  refine am_iload_n (pc' := 1) 1 dX12_drawn_0 rfl rfl rfl ?_
  refine am_iconst (pc' := 2) (v := 0) dX12_drawn_1 kc_0 rfl ?_
  refine am_ldc (pc' := 4) dX12_drawn_2 ck_X12_180 rfl ?_
  refine am_cS (pc' := 7) (st' := [.int (fx_X12_in a1 (0 : Int32) (99999 : Int32))]) [] [.int a1, .int (0 : Int32), .int (99999 : Int32)] dX12_drawn_4 cs_X12_90 (tx_X12_in (sx_w S0 (sm_w S)) a1 (0 : Int32) (99999 : Int32) _ rfl) rfl rfl rfl rfl rfl rfl ?_
  refine am_if_eq (pc' := 10) 27 dX12_drawn_7 rfl rfl (fun hc1 => ?_) (fun hc1 => ?_)
  · rw [if_pos hc1] at hres
    refine am_ldc (pc' := 29) dX12_drawn_27 ck_X12_201 rfl ?_
    obtain rfl := Option.some.inj hres
    exact am_iret dX12_drawn_29 rfl rfl rfl
  · rw [if_neg hc1] at hres
    refine am_aload_n (pc' := 11) 0 dX12_drawn_10 rfl rfl rfl ?_
    refine am_iload_n (pc' := 12) 2 dX12_drawn_11 rfl rfl rfl ?_
    refine am_cV (pc' := 15) (st' := [.int (fx_X12_isViewer a2 S)]) [] [.int a2] dX12_drawn_12 cs_X12_173 (tx_X12_isViewer S0 a2 S _ rfl) rfl rfl rfl (sm_c45 S0 S) rfl rfl rfl rfl rfl ?_
    refine am_if_eq (pc' := 18) 27 dX12_drawn_15 rfl rfl (fun hc2 => ?_) (fun hc2 => ?_)
    · rw [if_pos hc2] at hres
      refine am_ldc (pc' := 29) dX12_drawn_27 ck_X12_201 rfl ?_
      obtain rfl := Option.some.inj hres
      exact am_iret dX12_drawn_29 rfl rfl rfl
    · rw [if_neg hc2] at hres
      refine am_iload_n (pc' := 19) 3 dX12_drawn_18 rfl rfl rfl ?_
      refine am_iconst (pc' := 20) (v := 0) dX12_drawn_19 kc_0 rfl ?_
      refine am_iconst (pc' := 21) (v := 2) dX12_drawn_20 kc_2 rfl ?_
      refine am_cS (pc' := 24) (st' := [.int (fx_X12_in a3 (0 : Int32) (2 : Int32))]) [] [.int a3, .int (0 : Int32), .int (2 : Int32)] dX12_drawn_21 cs_X12_90 (tx_X12_in (sx_w S0 (sm_w S)) a3 (0 : Int32) (2 : Int32) _ rfl) rfl rfl rfl rfl rfl rfl ?_
      refine am_if_ne (pc' := 27) 30 dX12_drawn_24 rfl rfl (fun hc3 => ?_) (fun hc3 => ?_)
      · rw [if_neg hc3] at hres
        refine am_aload_n (pc' := 31) 0 dX12_drawn_30 rfl rfl rfl ?_
        refine am_iload_n (pc' := 32) 1 dX12_drawn_31 rfl rfl rfl ?_
        obtain ⟨q4, hq5, hres⟩ := am_bd_s hres
        refine am_cV (pc' := 35) (st' := []) [] [.int a1] dX12_drawn_32 cs_X12_255 (tx_X12_orders S0 a1 S _ hq5) rfl rfl rfl (sm_c45 S0 S) rfl rfl rfl rfl rfl ?_
        refine am_iload_n (pc' := 36) 3 dX12_drawn_35 rfl rfl rfl ?_
        refine am_if_le (pc' := 39) 60 dX12_drawn_36 rfl rfl (fun hc6 => ?_) (fun hc6 => ?_)
        · rw [if_pos hc6] at hres
          refine am_iconst (pc' := 61) (v := 0) dX12_drawn_60 kc_0 rfl ?_
          refine am_istore (pc' := 63) (ls' := [some (.ref 45), some (.int a1), some (.int a2), some (.int a3), some (.int (0 : Int32)), none]) dX12_drawn_61 (Nat.le_of_ble_eq_true rfl) rfl rfl rfl ?_
          refine am_iconst (pc' := 64) (v := 0) dX12_drawn_63 kc_0 rfl ?_
          refine am_istore (pc' := 66) (ls' := [some (.ref 45), some (.int a1), some (.int a2), some (.int a3), some (.int (0 : Int32)), some (.int (0 : Int32))]) dX12_drawn_64 (Nat.le_of_ble_eq_true rfl) rfl rfl rfl ?_
          refine am_weak (ls' := [some (.ref 45), none, none, none, some (.int (0 : Int32)), some (.int (0 : Int32))]) [false, true, true, true, false, false] rfl ?_
          exact wx_X12_drawn_66 S0 am_fu _ _ _ _ hres
        · rw [if_neg hc6] at hres
          refine am_iload_n (pc' := 40) 3 dX12_drawn_39 rfl rfl rfl ?_
          refine am_iconst (pc' := 41) (v := 1) dX12_drawn_40 kc_1 rfl ?_
          refine am_icmp_ne (pc' := 44) 53 dX12_drawn_41 rfl rfl (fun hc9 => ?_) (fun hc9 => ?_)
          · rw [if_neg hc9] at hres
            refine am_aload_n (pc' := 54) 0 dX12_drawn_53 rfl rfl rfl ?_
            refine am_iload_n (pc' := 55) 2 dX12_drawn_54 rfl rfl rfl ?_
            refine am_iconst (pc' := 56) (v := 1) dX12_drawn_55 kc_1 rfl ?_
            obtain ⟨q10, hq11, hres⟩ := am_bd_s hres
            refine am_cV (pc' := 59) (st' := [.int q10.1]) [] [.int a2, .int (1 : Int32)] dX12_drawn_56 cs_X12_202 (tx_X12_offerOf S0 a2 (1 : Int32) q4 _ hq11) rfl rfl rfl (sm_c45 S0 q4) rfl rfl rfl rfl rfl ?_
            obtain rfl := Option.some.inj hres
            exact am_iret dX12_drawn_59 rfl rfl rfl
          · rw [if_pos hc9] at hres
            refine am_aload_n (pc' := 45) 0 dX12_drawn_44 rfl rfl rfl ?_
            refine am_iload_n (pc' := 46) 2 dX12_drawn_45 rfl rfl rfl ?_
            refine am_iconst (pc' := 47) (v := 1) dX12_drawn_46 kc_1 rfl ?_
            obtain ⟨q12, hq13, hres⟩ := am_bd_s hres
            refine am_cV (pc' := 50) (st' := [.int q12.1]) [] [.int a2, .int (1 : Int32)] dX12_drawn_47 cs_X12_191 (tx_X12_mindOf S0 a2 (1 : Int32) q4 _ hq13) rfl rfl rfl (sm_c45 S0 q4) rfl rfl rfl rfl rfl ?_
            refine am_goto 59 dX12_drawn_50 rfl ?_
            obtain rfl := Option.some.inj hres
            exact am_iret dX12_drawn_59 rfl rfl rfl
      · rw [if_pos hc3] at hres
        refine am_ldc (pc' := 29) dX12_drawn_27 ck_X12_201 rfl ?_
        obtain rfl := Option.some.inj hres
        exact am_iret dX12_drawn_29 rfl rfl rfl
set_option maxRecDepth 100000 in
set_option maxHeartbeats 4000000 in
theorem wx_X12_wordFrom_26 (S0 : sx_T) (S : sm_T) (k2 : Int32 → Int32 → Int32 → Option (Int32)) (hk2 : ∀ (v1 : Int32) (v2 : Int32) (v3 : Int32) (res : Int32), k2 v1 v2 v3 = some res → am_G mX12_wordFrom (none, 0, 0, 0, (some (.int res)), (sx_w S0 (sm_w S))) (0, 0) 2 [some (.ref 45), some (.int v1), some (.int v2), some (.int v3), none, none] [] (sx_w S0 (sm_w S))) : ∀ (n : Nat) (v1 : Int32) (v2 : Int32) (v3 : Int32) (v4 : Int32) (v5 : Int32) (res : Int32) (hres : fx_X12_wordFrom_26 S k2 n v1 v2 v3 v4 v5 = some res), am_G mX12_wordFrom (none, 0, 0, 0, (some (.int res)), (sx_w S0 (sm_w S))) (0, 0) 26 [some (.ref 45), some (.int v1), some (.int v2), some (.int v3), some (.int v4), some (.int v5)] [] (sx_w S0 (sm_w S)) := by
  intro n
  induction n with
  | zero =>
    intro v1 v2 v3 v4 v5 res hres
    cases hres
  | succ n ih =>
    intro v1 v2 v3 v4 v5 res hres
    rw [fx_X12_wordFrom_26] at hres
    refine am_iload (pc' := 28) dX12_wordFrom_26 rfl rfl ?_
    refine am_bipush (pc' := 30) (v := 8) dX12_wordFrom_28 kb_8 rfl ?_
    refine am_icmp_ge (pc' := 33) 88 dX12_wordFrom_30 rfl rfl (fun hc3 => ?_) (fun hc3 => ?_)
    · rw [if_pos hc3] at hres
      refine am_iload (pc' := 90) dX12_wordFrom_88 rfl rfl ?_
      refine am_if_eq (pc' := 93) 95 dX12_wordFrom_90 rfl rfl (fun hc4 => ?_) (fun hc4 => ?_)
      · rw [if_pos hc4] at hres
        refine am_iinc (pc' := 98) (ls' := [some (.ref 45), some (.int v1), some (.int v2), some (.int (v3 + (1 : Int32))), some (.int v4), some (.int v5)]) dX12_wordFrom_95 rfl (show v3 + Int32.ofInt 1 = (v3 + (1 : Int32)) from congrArg (fun z => v3 + z) kc_1) (Nat.le_of_ble_eq_true rfl) rfl rfl rfl ?_
        refine am_goto 2 dX12_wordFrom_98 rfl ?_
        refine am_weak (ls' := [some (.ref 45), some (.int v1), some (.int v2), some (.int (v3 + (1 : Int32))), none, none]) [false, false, false, false, true, true] rfl ?_
        exact hk2 _ _ _ _ hres
      · rw [if_neg hc4] at hres
        refine am_iload_n (pc' := 94) 3 dX12_wordFrom_93 rfl rfl rfl ?_
        obtain rfl := Option.some.inj hres
        exact am_iret dX12_wordFrom_94 rfl rfl rfl
    · rw [if_neg hc3] at hres
      refine am_iload (pc' := 35) dX12_wordFrom_33 rfl rfl ?_
      refine am_if_eq (pc' := 38) 88 dX12_wordFrom_35 rfl rfl (fun hc5 => ?_) (fun hc5 => ?_)
      · rw [if_pos hc5] at hres
        refine am_iload (pc' := 90) dX12_wordFrom_88 rfl rfl ?_
        refine am_if_eq (pc' := 93) 95 dX12_wordFrom_90 rfl rfl (fun hc6 => ?_) (fun hc6 => ?_)
        · rw [if_pos hc6] at hres
          refine am_iinc (pc' := 98) (ls' := [some (.ref 45), some (.int v1), some (.int v2), some (.int (v3 + (1 : Int32))), some (.int v4), some (.int v5)]) dX12_wordFrom_95 rfl (show v3 + Int32.ofInt 1 = (v3 + (1 : Int32)) from congrArg (fun z => v3 + z) kc_1) (Nat.le_of_ble_eq_true rfl) rfl rfl rfl ?_
          refine am_goto 2 dX12_wordFrom_98 rfl ?_
          refine am_weak (ls' := [some (.ref 45), some (.int v1), some (.int v2), some (.int (v3 + (1 : Int32))), none, none]) [false, false, false, false, true, true] rfl ?_
          exact hk2 _ _ _ _ hres
        · rw [if_neg hc6] at hres
          refine am_iload_n (pc' := 94) 3 dX12_wordFrom_93 rfl rfl rfl ?_
          obtain rfl := Option.some.inj hres
          exact am_iret dX12_wordFrom_94 rfl rfl rfl
      · rw [if_neg hc5] at hres
        refine am_aload_n (pc' := 39) 0 dX12_wordFrom_38 rfl rfl rfl ?_
        refine am_get (pc' := 42) (v := .ref 59) dX12_wordFrom_39 fl_X12_53 (sm_c45 S0 S) rfl rfl ?_
        refine am_bipush (pc' := 44) (v := 8) dX12_wordFrom_42 kb_8 rfl ?_
        refine am_iload_n (pc' := 45) 3 dX12_wordFrom_44 rfl rfl rfl ?_
        refine am_imul (pc' := 46) dX12_wordFrom_45 rfl ?_
        refine am_iload (pc' := 48) dX12_wordFrom_46 rfl rfl ?_
        refine am_iadd (pc' := 49) dX12_wordFrom_48 rfl ?_
        obtain ⟨hr7, hres⟩ := am_rg hres
        refine am_iald (pc' := 50) (f := am_words) dX12_wordFrom_49 (sm_c59 S0 S) hr7 rfl ?_
        refine am_iload_n (pc' := 51) 1 dX12_wordFrom_50 rfl rfl rfl ?_
        refine am_iload (pc' := 53) dX12_wordFrom_51 rfl rfl ?_
        refine am_iadd (pc' := 54) dX12_wordFrom_53 rfl ?_
        refine am_iload_n (pc' := 55) 2 dX12_wordFrom_54 rfl rfl rfl ?_
        refine am_icmp_ge (pc' := 58) 70 dX12_wordFrom_55 rfl rfl (fun hc8 => ?_) (fun hc8 => ?_)
        · rw [if_pos hc8] at hres
          refine am_bipush (pc' := 72) (v := 32) dX12_wordFrom_70 kb_32 rfl ?_
          refine am_icmp_ne (pc' := 75) 79 dX12_wordFrom_72 rfl rfl (fun hc9 => ?_) (fun hc9 => ?_)
          · rw [if_neg hc9] at hres
            refine am_iconst (pc' := 80) (v := 0) dX12_wordFrom_79 kc_0 rfl ?_
            refine am_istore (pc' := 82) (ls' := [some (.ref 45), some (.int v1), some (.int v2), some (.int v3), some (.int (0 : Int32)), some (.int v5)]) dX12_wordFrom_80 (Nat.le_of_ble_eq_true rfl) rfl rfl rfl ?_
            refine am_iinc (pc' := 85) (ls' := [some (.ref 45), some (.int v1), some (.int v2), some (.int v3), some (.int (0 : Int32)), some (.int (v5 + (1 : Int32)))]) dX12_wordFrom_82 rfl (show v5 + Int32.ofInt 1 = (v5 + (1 : Int32)) from congrArg (fun z => v5 + z) kc_1) (Nat.le_of_ble_eq_true rfl) rfl rfl rfl ?_
            refine am_goto 26 dX12_wordFrom_85 rfl ?_
            exact ih _ _ _ _ _ _ hres
          · rw [if_pos hc9] at hres
            refine am_iconst (pc' := 76) (v := 1) dX12_wordFrom_75 kc_1 rfl ?_
            refine am_goto 80 dX12_wordFrom_76 rfl ?_
            refine am_istore (pc' := 82) (ls' := [some (.ref 45), some (.int v1), some (.int v2), some (.int v3), some (.int (1 : Int32)), some (.int v5)]) dX12_wordFrom_80 (Nat.le_of_ble_eq_true rfl) rfl rfl rfl ?_
            refine am_iinc (pc' := 85) (ls' := [some (.ref 45), some (.int v1), some (.int v2), some (.int v3), some (.int (1 : Int32)), some (.int (v5 + (1 : Int32)))]) dX12_wordFrom_82 rfl (show v5 + Int32.ofInt 1 = (v5 + (1 : Int32)) from congrArg (fun z => v5 + z) kc_1) (Nat.le_of_ble_eq_true rfl) rfl rfl rfl ?_
            refine am_goto 26 dX12_wordFrom_85 rfl ?_
            exact ih _ _ _ _ _ _ hres
        · rw [if_neg hc8] at hres
          refine am_aload_n (pc' := 59) 0 dX12_wordFrom_58 rfl rfl rfl ?_
          refine am_get (pc' := 62) (v := .ref 50) dX12_wordFrom_59 fl_X12_26 (sm_c45 S0 S) rfl rfl ?_
          refine am_iload_n (pc' := 63) 1 dX12_wordFrom_62 rfl rfl rfl ?_
          refine am_iload (pc' := 65) dX12_wordFrom_63 rfl rfl ?_
          refine am_iadd (pc' := 66) dX12_wordFrom_65 rfl ?_
          obtain ⟨hr10, hres⟩ := am_rg hres
          refine am_iald (pc' := 67) (f := (sm_tape S)) dX12_wordFrom_66 (sm_c50 S0 S) hr10 rfl ?_
          refine am_goto 72 dX12_wordFrom_67 rfl ?_
          refine am_icmp_ne (pc' := 75) 79 dX12_wordFrom_72 rfl rfl (fun hc11 => ?_) (fun hc11 => ?_)
          · rw [if_neg hc11] at hres
            refine am_iconst (pc' := 80) (v := 0) dX12_wordFrom_79 kc_0 rfl ?_
            refine am_istore (pc' := 82) (ls' := [some (.ref 45), some (.int v1), some (.int v2), some (.int v3), some (.int (0 : Int32)), some (.int v5)]) dX12_wordFrom_80 (Nat.le_of_ble_eq_true rfl) rfl rfl rfl ?_
            refine am_iinc (pc' := 85) (ls' := [some (.ref 45), some (.int v1), some (.int v2), some (.int v3), some (.int (0 : Int32)), some (.int (v5 + (1 : Int32)))]) dX12_wordFrom_82 rfl (show v5 + Int32.ofInt 1 = (v5 + (1 : Int32)) from congrArg (fun z => v5 + z) kc_1) (Nat.le_of_ble_eq_true rfl) rfl rfl rfl ?_
            refine am_goto 26 dX12_wordFrom_85 rfl ?_
            exact ih _ _ _ _ _ _ hres
          · rw [if_pos hc11] at hres
            refine am_iconst (pc' := 76) (v := 1) dX12_wordFrom_75 kc_1 rfl ?_
            refine am_goto 80 dX12_wordFrom_76 rfl ?_
            refine am_istore (pc' := 82) (ls' := [some (.ref 45), some (.int v1), some (.int v2), some (.int v3), some (.int (1 : Int32)), some (.int v5)]) dX12_wordFrom_80 (Nat.le_of_ble_eq_true rfl) rfl rfl rfl ?_
            refine am_iinc (pc' := 85) (ls' := [some (.ref 45), some (.int v1), some (.int v2), some (.int v3), some (.int (1 : Int32)), some (.int (v5 + (1 : Int32)))]) dX12_wordFrom_82 rfl (show v5 + Int32.ofInt 1 = (v5 + (1 : Int32)) from congrArg (fun z => v5 + z) kc_1) (Nat.le_of_ble_eq_true rfl) rfl rfl rfl ?_
            refine am_goto 26 dX12_wordFrom_85 rfl ?_
            exact ih _ _ _ _ _ _ hres

set_option maxRecDepth 100000 in
set_option maxHeartbeats 4000000 in
theorem wx_X12_wordFrom_2 (S0 : sx_T) (S : sm_T) : ∀ (n : Nat) (v1 : Int32) (v2 : Int32) (v3 : Int32) (res : Int32) (hres : fx_X12_wordFrom_2 S n v1 v2 v3 = some res), am_G mX12_wordFrom (none, 0, 0, 0, (some (.int res)), (sx_w S0 (sm_w S))) (0, 0) 2 [some (.ref 45), some (.int v1), some (.int v2), some (.int v3), none, none] [] (sx_w S0 (sm_w S)) := by
  intro n
  induction n with
  | zero =>
    intro v1 v2 v3 res hres
    cases hres
  | succ n ih =>
    intro v1 v2 v3 res hres
    rw [fx_X12_wordFrom_2] at hres
    refine am_iload_n (pc' := 3) 3 dX12_wordFrom_2 rfl rfl rfl ?_
    refine am_bipush (pc' := 5) (v := 12) dX12_wordFrom_3 kb_12 rfl ?_
    refine am_icmp_ge (pc' := 8) 101 dX12_wordFrom_5 rfl rfl (fun hc1 => ?_) (fun hc1 => ?_)
    · rw [if_pos hc1] at hres
      refine am_bipush (pc' := 103) (v := 12) dX12_wordFrom_101 kb_12 rfl ?_
      obtain rfl := Option.some.inj hres
      exact am_iret dX12_wordFrom_103 rfl rfl rfl
    · rw [if_neg hc1] at hres
      refine am_iload_n (pc' := 9) 2 dX12_wordFrom_8 rfl rfl rfl ?_
      refine am_iload_n (pc' := 10) 1 dX12_wordFrom_9 rfl rfl rfl ?_
      refine am_isub (pc' := 11) dX12_wordFrom_10 rfl ?_
      refine am_bipush (pc' := 13) (v := 8) dX12_wordFrom_11 kb_8 rfl ?_
      refine am_icmp_gt (pc' := 16) 20 dX12_wordFrom_13 rfl rfl (fun hc2 => ?_) (fun hc2 => ?_)
      · rw [if_pos hc2] at hres
        refine am_iconst (pc' := 21) (v := 0) dX12_wordFrom_20 kc_0 rfl ?_
        refine am_istore (pc' := 23) (ls' := [some (.ref 45), some (.int v1), some (.int v2), some (.int v3), some (.int (0 : Int32)), none]) dX12_wordFrom_21 (Nat.le_of_ble_eq_true rfl) rfl rfl rfl ?_
        refine am_iconst (pc' := 24) (v := 0) dX12_wordFrom_23 kc_0 rfl ?_
        refine am_istore (pc' := 26) (ls' := [some (.ref 45), some (.int v1), some (.int v2), some (.int v3), some (.int (0 : Int32)), some (.int (0 : Int32))]) dX12_wordFrom_24 (Nat.le_of_ble_eq_true rfl) rfl rfl rfl ?_
        exact wx_X12_wordFrom_26 S0 S _ (fun a0 a1 a2 => ih a0 a1 a2) am_fu _ _ _ _ _ _ hres
      · rw [if_neg hc2] at hres
        refine am_iconst (pc' := 17) (v := 1) dX12_wordFrom_16 kc_1 rfl ?_
        refine am_goto 21 dX12_wordFrom_17 rfl ?_
        refine am_istore (pc' := 23) (ls' := [some (.ref 45), some (.int v1), some (.int v2), some (.int v3), some (.int (1 : Int32)), none]) dX12_wordFrom_21 (Nat.le_of_ble_eq_true rfl) rfl rfl rfl ?_
        refine am_iconst (pc' := 24) (v := 0) dX12_wordFrom_23 kc_0 rfl ?_
        refine am_istore (pc' := 26) (ls' := [some (.ref 45), some (.int v1), some (.int v2), some (.int v3), some (.int (1 : Int32)), some (.int (0 : Int32))]) dX12_wordFrom_24 (Nat.le_of_ble_eq_true rfl) rfl rfl rfl ?_
        exact wx_X12_wordFrom_26 S0 S _ (fun a0 a1 a2 => ih a0 a1 a2) am_fu _ _ _ _ _ _ hres

set_option maxRecDepth 100000 in
set_option maxHeartbeats 4000000 in
theorem tx_X12_wordFrom (S0 : sx_T) (a1 : Int32) (a2 : Int32) (S : sm_T) (res : Int32) (hres : fx_X12_wordFrom a1 a2 S = some res) : am_T mX12_wordFrom 0 0 0 [.ref 45, .int a1, .int a2] (sx_w S0 (sm_w S)) (some (.int res)) (sx_w S0 (sm_w S)) := by
  refine am_meth (ls := [some (.ref 45), some (.int a1), some (.int a2), none, none, none]) (by decide +kernel) rfl (Nat.le_of_ble_eq_true rfl) (sm_len _ _ _ _) ?_
  rw [fx_X12_wordFrom] at hres
  refine am_iconst (pc' := 1) (v := 0) dX12_wordFrom_0 kc_0 rfl ?_
  refine am_istore_n (pc' := 2) (ls' := [some (.ref 45), some (.int a1), some (.int a2), some (.int (0 : Int32)), none, none]) 3 dX12_wordFrom_1 rfl (Nat.le_of_ble_eq_true rfl) rfl rfl rfl ?_
  exact wx_X12_wordFrom_2 S0 S am_fu _ _ _ _ hres
