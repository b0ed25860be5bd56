set_option maxRecDepth 100000 in
set_option maxHeartbeats 4000000 in
theorem tx_X12_two (ws : am_W) (a1 : Int32) (a2 : Int32) (a3 : Int32) (res : Int32) (hres : fx_X12_two a1 a2 a3 = res) : am_T mX12_two 0 0 0 [.int a1, .int a2, .int a3] ws (some (.int res)) ws := by
  refine am_meth (ls := [some (.int a1), some (.int a2), some (.int a3)]) (by decide +kernel) rfl (Nat.le_of_ble_eq_true rfl) ⟨rfl, Or.inl rfl⟩ ?_
  rw [fx_X12_two] at hres
  refine am_iload_n (pc' := 1) 0 dX12_two_0 rfl rfl rfl ?_
  rcases Classical.em (a1 = (11 : Int32)) with hs1 | hs1
  · rw [if_pos hs1] at hres
    refine am_tsAt (11 : Int32) 44 dX12_two_1 hs1 (by decide) (by decide) rfl rfl ?_
    refine am_iload_n (pc' := 45) 1 dX12_two_44 rfl rfl rfl ?_
    refine am_if_ne (pc' := 48) 52 dX12_two_45 rfl rfl (fun hc8 => ?_) (fun hc8 => ?_)
    · rw [if_neg hc8] at hres
      refine am_iconst (pc' := 53) (v := 1) dX12_two_52 kc_1 rfl ?_
      refine am_goto 57 dX12_two_53 rfl ?_
      subst hres
      exact am_iret dX12_two_57 rfl rfl rfl
    · rw [if_pos hc8] at hres
      refine am_iload_n (pc' := 49) 2 dX12_two_48 rfl rfl rfl ?_
      refine am_if_eq (pc' := 52) 56 dX12_two_49 rfl rfl (fun hc9 => ?_) (fun hc9 => ?_)
      · rw [if_pos hc9] at hres
        refine am_iconst (pc' := 57) (v := 0) dX12_two_56 kc_0 rfl ?_
        subst hres
        exact am_iret dX12_two_57 rfl rfl rfl
      · rw [if_neg hc9] at hres
        refine am_iconst (pc' := 53) (v := 1) dX12_two_52 kc_1 rfl ?_
        refine am_goto 57 dX12_two_53 rfl ?_
        subst hres
        exact am_iret dX12_two_57 rfl rfl rfl
  · rw [if_neg hs1] at hres
    rcases Classical.em (a1 = (12 : Int32)) with hs2 | hs2
    · rw [if_pos hs2] at hres
      refine am_tsAt (12 : Int32) 58 dX12_two_1 hs2 (by decide) (by decide) rfl rfl ?_
      refine am_iload_n (pc' := 59) 1 dX12_two_58 rfl rfl rfl ?_
      refine am_if_eq (pc' := 62) 70 dX12_two_59 rfl rfl (fun hc10 => ?_) (fun hc10 => ?_)
      · rw [if_pos hc10] at hres
        refine am_iconst (pc' := 71) (v := 0) dX12_two_70 kc_0 rfl ?_
        subst hres
        exact am_iret dX12_two_71 rfl rfl rfl
      · rw [if_neg hc10] at hres
        refine am_iload_n (pc' := 63) 2 dX12_two_62 rfl rfl rfl ?_
        refine am_if_eq (pc' := 66) 70 dX12_two_63 rfl rfl (fun hc11 => ?_) (fun hc11 => ?_)
        · rw [if_pos hc11] at hres
          refine am_iconst (pc' := 71) (v := 0) dX12_two_70 kc_0 rfl ?_
          subst hres
          exact am_iret dX12_two_71 rfl rfl rfl
        · rw [if_neg hc11] at hres
          refine am_iconst (pc' := 67) (v := 1) dX12_two_66 kc_1 rfl ?_
          refine am_goto 71 dX12_two_67 rfl ?_
          subst hres
          exact am_iret dX12_two_71 rfl rfl rfl
    · rw [if_neg hs2] at hres
      rcases Classical.em (a1 = (13 : Int32)) with hs3 | hs3
      · rw [if_pos hs3] at hres
        refine am_tsAt (13 : Int32) 102 dX12_two_1 hs3 (by decide) (by decide) rfl rfl ?_
        refine am_iload_n (pc' := 103) 1 dX12_two_102 rfl rfl rfl ?_
        refine am_iload_n (pc' := 104) 2 dX12_two_103 rfl rfl rfl ?_
        refine am_imul (pc' := 105) dX12_two_104 rfl ?_
        subst hres
        exact am_iret dX12_two_105 rfl rfl rfl
      · rw [if_neg hs3] at hres
        rcases Classical.em (a1 = (14 : Int32)) with hs4 | hs4
        · rw [if_pos hs4] at hres
          refine am_tsAt (14 : Int32) 72 dX12_two_1 hs4 (by decide) (by decide) rfl rfl ?_
          refine am_iload_n (pc' := 73) 1 dX12_two_72 rfl rfl rfl ?_
          refine am_iload_n (pc' := 74) 2 dX12_two_73 rfl rfl rfl ?_
          refine am_icmp_ge (pc' := 77) 81 dX12_two_74 rfl rfl (fun hc12 => ?_) (fun hc12 => ?_)
          · rw [if_pos hc12] at hres
            refine am_iconst (pc' := 82) (v := 0) dX12_two_81 kc_0 rfl ?_
            subst hres
            exact am_iret dX12_two_82 rfl rfl rfl
          · rw [if_neg hc12] at hres
            refine am_iconst (pc' := 78) (v := 1) dX12_two_77 kc_1 rfl ?_
            refine am_goto 82 dX12_two_78 rfl ?_
            subst hres
            exact am_iret dX12_two_82 rfl rfl rfl
        · rw [if_neg hs4] at hres
          rcases Classical.em (a1 = (15 : Int32)) with hs5 | hs5
          · rw [if_pos hs5] at hres
            refine am_tsAt (15 : Int32) 83 dX12_two_1 hs5 (by decide) (by decide) rfl rfl ?_
            refine am_iload_n (pc' := 84) 1 dX12_two_83 rfl rfl rfl ?_
            refine am_iload_n (pc' := 85) 2 dX12_two_84 rfl rfl rfl ?_
            refine am_icmp_ne (pc' := 88) 92 dX12_two_85 rfl rfl (fun hc13 => ?_) (fun hc13 => ?_)
            · rw [if_neg hc13] at hres
              refine am_iconst (pc' := 93) (v := 0) dX12_two_92 kc_0 rfl ?_
              subst hres
              exact am_iret dX12_two_93 rfl rfl rfl
            · rw [if_pos hc13] at hres
              refine am_iconst (pc' := 89) (v := 1) dX12_two_88 kc_1 rfl ?_
              refine am_goto 93 dX12_two_89 rfl ?_
              subst hres
              exact am_iret dX12_two_93 rfl rfl rfl
          · rw [if_neg hs5] at hres
            rcases Classical.em (a1 = (16 : Int32)) with hs6 | hs6
            · rw [if_pos hs6] at hres
              refine am_tsAt (16 : Int32) 94 dX12_two_1 hs6 (by decide) (by decide) rfl rfl ?_
              refine am_iload_n (pc' := 95) 1 dX12_two_94 rfl rfl rfl ?_
              refine am_iload_n (pc' := 96) 2 dX12_two_95 rfl rfl rfl ?_
              refine am_iadd (pc' := 97) dX12_two_96 rfl ?_
              subst hres
              exact am_iret dX12_two_97 rfl rfl rfl
            · rw [if_neg hs6] at hres
              rcases Classical.em (a1 = (17 : Int32)) with hs7 | hs7
              · rw [if_pos hs7] at hres
                refine am_tsAt (17 : Int32) 98 dX12_two_1 hs7 (by decide) (by decide) rfl rfl ?_
                refine am_iload_n (pc' := 99) 1 dX12_two_98 rfl rfl rfl ?_
                refine am_iload_n (pc' := 100) 2 dX12_two_99 rfl rfl rfl ?_
                refine am_isub (pc' := 101) dX12_two_100 rfl ?_
                subst hres
                exact am_iret dX12_two_101 rfl rfl rfl
              · rw [if_neg hs7] at hres
                refine am_tsOff 7 102 dX12_two_1 rfl (fun i hi => by match i, hi with | 0, _ => exact hs1 | 1, _ => exact hs2 | 2, _ => exact hs3 | 3, _ => exact hs4 | 4, _ => exact hs5 | 5, _ => exact hs6 | 6, _ => exact hs7) rfl ?_
                refine am_iload_n (pc' := 103) 1 dX12_two_102 rfl rfl rfl ?_
                refine am_iload_n (pc' := 104) 2 dX12_two_103 rfl rfl rfl ?_
                refine am_imul (pc' := 105) dX12_two_104 rfl ?_
                subst hres
                exact am_iret dX12_two_105 rfl rfl rfl
set_option maxRecDepth 100000 in
set_option maxHeartbeats 4000000 in
theorem wx_X12_says_66 (S0 : sx_T) (k16 : Int32 → Int32 → Int32 → sm_T → Option (Int32 × sm_T)) (hk16 : ∀ (v1 : Int32) (v2 : Int32) (v3 : Int32) (S : sm_T) (res : Int32 × sm_T), k16 v1 v2 v3 S = some res → am_G mX12_says (none, 1, 0, 0, (some (.int res.1)), (sx_w S0 (sm_w res.2))) (0, 0) 16 [some (.ref 45), some (.int v1), some (.int v2), some (.int v3), none] [] (sx_w S0 (sm_w S))) : ∀ (v1 : Int32) (v2 : Int32) (v3 : Int32) (v4 : Int32) (S : sm_T) (res : Int32 × sm_T) (hres : fx_X12_says_66 k16 v1 v2 v3 v4 S = some res), am_G mX12_says (none, 1, 0, 0, (some (.int res.1)), (sx_w S0 (sm_w res.2))) (0, 0) 66 [some (.ref 45), some (.int v1), some (.int v2), some (.int v3), some (.int v4)] [] (sx_w S0 (sm_w S)) := by
  intro v1 v2 v3 v4 S res hres
  rw [fx_X12_says_66] at hres
  refine am_aload_n (pc' := 67) 0 dX12_says_66 rfl rfl rfl ?_
  refine am_get (pc' := 70) (v := .ref 61) dX12_says_67 fl_X12_59 (sm_c45 S0 S) rfl rfl ?_
  refine am_iload_n (pc' := 71) 2 dX12_says_70 rfl rfl rfl ?_
  refine am_iload (pc' := 73) dX12_says_71 rfl rfl ?_
  refine am_bipush (pc' := 75) (v := 11) dX12_says_73 kb_11 rfl ?_
  refine am_icmp_ge (pc' := 78) 88 dX12_says_75 rfl rfl (fun hc7 => ?_) (fun hc7 => ?_)
  · rw [if_pos hc7] at hres
    refine am_iload (pc' := 90) dX12_says_88 rfl rfl ?_
    refine am_ldc (pc' := 92) dX12_says_90 ck_X12_149 rfl ?_
    refine am_isub (pc' := 93) dX12_says_92 rfl ?_
    obtain ⟨hr8, hres⟩ := am_rg hres
    refine am_iast (pc' := 94) (f := (sm_stack S)) (ws' := (sx_w S0 (sm_w (um_stack S (upd (sm_stack S) v2.toNatClampNeg (v4 - (100000 : Int32))))))) dX12_says_93 (sm_c61 S0 S) hr8 (sm_p_stack S0 S _) rfl ?_
    refine am_iinc (pc' := 97) (ls' := [some (.ref 45), some (.int v1), some (.int (v2 + (1 : Int32))), some (.int v3), some (.int v4)]) dX12_says_94 rfl (show v2 + Int32.ofInt 1 = (v2 + (1 : Int32)) from congrArg (fun z => v2 + z) kc_1) (Nat.le_of_ble_eq_true rfl) rfl rfl rfl ?_
    refine am_goto 191 dX12_says_97 rfl ?_
    refine am_iinc (pc' := 194) (ls' := [some (.ref 45), some (.int v1), some (.int (v2 + (1 : Int32))), some (.int (v3 + (1 : Int32))), some (.int v4)]) dX12_says_191 rfl (show v3 + Int32.ofInt 1 = (v3 + (1 : Int32)) from congrArg (fun z => v3 + z) kc_1) (Nat.le_of_ble_eq_true rfl) rfl rfl rfl ?_
    refine am_goto 16 dX12_says_194 rfl ?_
    refine am_weak (ls' := [some (.ref 45), some (.int v1), some (.int (v2 + (1 : Int32))), some (.int (v3 + (1 : Int32))), none]) [false, false, false, false, true] rfl ?_
    exact hk16 _ _ _ _ _ hres
  · rw [if_neg hc7] at hres
    refine am_aload_n (pc' := 79) 0 dX12_says_78 rfl rfl rfl ?_
    refine am_get (pc' := 82) (v := .ref 62) dX12_says_79 fl_X12_62 (sm_c45 S0 S) rfl rfl ?_
    refine am_iload (pc' := 84) dX12_says_82 rfl rfl ?_
    obtain ⟨hr9, hres⟩ := am_rg hres
    refine am_iald (pc' := 85) (f := (sm_named S)) dX12_says_84 (sm_c62 S0 S) hr9 rfl ?_
    refine am_goto 93 dX12_says_85 rfl ?_
    obtain ⟨hr10, hres⟩ := am_rg hres
    refine am_iast (pc' := 94) (f := (sm_stack S)) (ws' := (sx_w S0 (sm_w (um_stack S (upd (sm_stack S) v2.toNatClampNeg ((sm_named S) v4.toNatClampNeg)))))) dX12_says_93 (sm_c61 S0 S) hr10 (sm_p_stack S0 S _) rfl ?_
    refine am_iinc (pc' := 97) (ls' := [some (.ref 45), some (.int v1), some (.int (v2 + (1 : Int32))), some (.int v3), some (.int v4)]) dX12_says_94 rfl (show v2 + Int32.ofInt 1 = (v2 + (1 : Int32)) from congrArg (fun z => v2 + z) kc_1) (Nat.le_of_ble_eq_true rfl) rfl rfl rfl ?_
    refine am_goto 191 dX12_says_97 rfl ?_
    refine am_iinc (pc' := 194) (ls' := [some (.ref 45), some (.int v1), some (.int (v2 + (1 : Int32))), some (.int (v3 + (1 : Int32))), some (.int v4)]) dX12_says_191 rfl (show v3 + Int32.ofInt 1 = (v3 + (1 : Int32)) from congrArg (fun z => v3 + z) kc_1) (Nat.le_of_ble_eq_true rfl) rfl rfl rfl ?_
    refine am_goto 16 dX12_says_194 rfl ?_
    refine am_weak (ls' := [some (.ref 45), some (.int v1), some (.int (v2 + (1 : Int32))), some (.int (v3 + (1 : Int32))), none]) [false, false, false, false, true] rfl ?_
    exact hk16 _ _ _ _ _ hres

set_option maxRecDepth 100000 in
set_option maxHeartbeats 4000000 in
theorem wx_X12_says_16 (S0 : sx_T) : ∀ (n : Nat) (v1 : Int32) (v2 : Int32) (v3 : Int32) (S : sm_T) (res : Int32 × sm_T) (hres : fx_X12_says_16 n v1 v2 v3 S = some res), am_G mX12_says (none, 1, 0, 0, (some (.int res.1)), (sx_w S0 (sm_w res.2))) (0, 0) 16 [some (.ref 45), some (.int v1), some (.int v2), some (.int v3), none] [] (sx_w S0 (sm_w S)) := by
  intro n
  induction n with
  | zero =>
    intro v1 v2 v3 S res hres
    cases hres
  | succ n ih =>
    intro v1 v2 v3 S res hres
    rw [fx_X12_says_16] at hres
    refine am_iload_n (pc' := 17) 3 dX12_says_16 rfl rfl rfl ?_
    refine am_aload_n (pc' := 18) 0 dX12_says_17 rfl rfl rfl ?_
    refine am_get (pc' := 21) (v := .ref 52) dX12_says_18 fl_X12_32 (sm_c45 S0 S) rfl rfl ?_
    refine am_iconst (pc' := 22) (v := 4) dX12_says_21 kc_4 rfl ?_
    refine am_aload_n (pc' := 23) 0 dX12_says_22 rfl rfl rfl ?_
    refine am_get (pc' := 26) (v := .int (sm_rule S)) dX12_says_23 fl_X12_97 (sm_c45 S0 S) rfl rfl ?_
    refine am_imul (pc' := 27) dX12_says_26 rfl ?_
    refine am_iload_n (pc' := 28) 1 dX12_says_27 rfl rfl rfl ?_
    refine am_iadd (pc' := 29) dX12_says_28 rfl ?_
    refine am_iconst (pc' := 30) (v := 1) dX12_says_29 kc_1 rfl ?_
    refine am_iadd (pc' := 31) dX12_says_30 rfl ?_
    obtain ⟨hr2, hres⟩ := am_rg hres
    refine am_iald (pc' := 32) (f := (sm_starts S)) dX12_says_31 (sm_c52 S0 S) hr2 rfl ?_
    refine am_icmp_ge (pc' := 35) 197 dX12_says_32 rfl rfl (fun hc3 => ?_) (fun hc3 => ?_)
    · rw [if_pos hc3] at hres
      refine am_aload_n (pc' := 198) 0 dX12_says_197 rfl rfl rfl ?_
      refine am_get (pc' := 201) (v := .ref 61) dX12_says_198 fl_X12_59 (sm_c45 S0 S) rfl rfl ?_
      refine am_iconst (pc' := 202) (v := 0) dX12_says_201 kc_0 rfl ?_
      obtain ⟨hr4, hres⟩ := am_rg hres
      refine am_iald (pc' := 203) (f := (sm_stack S)) dX12_says_202 (sm_c61 S0 S) hr4 rfl ?_
      obtain rfl := Option.some.inj hres
      exact am_iret dX12_says_203 rfl rfl rfl
    · rw [if_neg hc3] at hres
      refine am_aload_n (pc' := 36) 0 dX12_says_35 rfl rfl rfl ?_
      refine am_get (pc' := 39) (v := .ref 51) dX12_says_36 fl_X12_29 (sm_c45 S0 S) rfl rfl ?_
      refine am_sipush (pc' := 42) (v := 200) dX12_says_39 ks_200 rfl ?_
      refine am_aload_n (pc' := 43) 0 dX12_says_42 rfl rfl rfl ?_
      refine am_get (pc' := 46) (v := .int (sm_rule S)) dX12_says_43 fl_X12_97 (sm_c45 S0 S) rfl rfl ?_
      refine am_imul (pc' := 47) dX12_says_46 rfl ?_
      refine am_iload_n (pc' := 48) 3 dX12_says_47 rfl rfl rfl ?_
      refine am_iadd (pc' := 49) dX12_says_48 rfl ?_
      obtain ⟨hr5, hres⟩ := am_rg hres
      refine am_iald (pc' := 50) (f := (sm_codes S)) dX12_says_49 (sm_c51 S0 S) hr5 rfl ?_
      refine am_istore (pc' := 52) (ls' := [some (.ref 45), some (.int v1), some (.int v2), some (.int v3), some (.int ((sm_codes S) (((200 : Int32) * (sm_rule S)) + v3).toNatClampNeg))]) dX12_says_50 (Nat.le_of_ble_eq_true rfl) rfl rfl rfl ?_
      refine am_iload (pc' := 54) dX12_says_52 rfl rfl ?_
      refine am_ldc (pc' := 56) dX12_says_54 ck_X12_149 rfl ?_
      refine am_icmp_ge (pc' := 59) 66 dX12_says_56 rfl rfl (fun hc6 => ?_) (fun hc6 => ?_)
      · rw [if_pos hc6] at hres
        exact wx_X12_says_66 S0 _ (fun a0 a1 a2 a3 => ih a0 a1 a2 a3) _ _ _ _ _ _ hres
      · rw [if_neg hc6] at hres
        refine am_iload (pc' := 61) dX12_says_59 rfl rfl ?_
        refine am_bipush (pc' := 63) (v := 11) dX12_says_61 kb_11 rfl ?_
        refine am_icmp_ge (pc' := 66) 100 dX12_says_63 rfl rfl (fun hc11 => ?_) (fun hc11 => ?_)
        · rw [if_pos hc11] at hres
          refine am_iload (pc' := 102) dX12_says_100 rfl rfl ?_
          refine am_bipush (pc' := 104) (v := 13) dX12_says_102 kb_13 rfl ?_
          refine am_icmp_ne (pc' := 107) 134 dX12_says_104 rfl rfl (fun hc12 => ?_) (fun hc12 => ?_)
          · rw [if_neg hc12] at hres
            refine am_iload (pc' := 136) dX12_says_134 rfl rfl ?_
            refine am_bipush (pc' := 138) (v := 19) dX12_says_136 kb_19 rfl ?_
            refine am_icmp_ne (pc' := 141) 161 dX12_says_138 rfl rfl (fun hc13 => ?_) (fun hc13 => ?_)
            · rw [if_neg hc13] at hres
              refine am_iinc (pc' := 164) (ls' := [some (.ref 45), some (.int v1), some (.int (v2 + (-1 : Int32))), some (.int v3), some (.int ((sm_codes S) (((200 : Int32) * (sm_rule S)) + v3).toNatClampNeg))]) dX12_says_161 rfl (show v2 + Int32.ofInt (-1) = (v2 + (-1 : Int32)) from congrArg (fun z => v2 + z) kc_m1) (Nat.le_of_ble_eq_true rfl) rfl rfl rfl ?_
              refine am_aload_n (pc' := 165) 0 dX12_says_164 rfl rfl rfl ?_
              refine am_get (pc' := 168) (v := .ref 61) dX12_says_165 fl_X12_59 (sm_c45 S0 S) rfl rfl ?_
              refine am_iload_n (pc' := 169) 2 dX12_says_168 rfl rfl rfl ?_
              refine am_iconst (pc' := 170) (v := 1) dX12_says_169 kc_1 rfl ?_
              refine am_isub (pc' := 171) dX12_says_170 rfl ?_
              refine am_iload (pc' := 173) dX12_says_171 rfl rfl ?_
              refine am_aload_n (pc' := 174) 0 dX12_says_173 rfl rfl rfl ?_
              refine am_get (pc' := 177) (v := .ref 61) dX12_says_174 fl_X12_59 (sm_c45 S0 S) rfl rfl ?_
              refine am_iload_n (pc' := 178) 2 dX12_says_177 rfl rfl rfl ?_
              refine am_iconst (pc' := 179) (v := 1) dX12_says_178 kc_1 rfl ?_
              refine am_isub (pc' := 180) dX12_says_179 rfl ?_
              obtain ⟨hr14, hres⟩ := am_rg hres
              refine am_iald (pc' := 181) (f := (sm_stack S)) dX12_says_180 (sm_c61 S0 S) hr14 rfl ?_
              refine am_aload_n (pc' := 182) 0 dX12_says_181 rfl rfl rfl ?_
              refine am_get (pc' := 185) (v := .ref 61) dX12_says_182 fl_X12_59 (sm_c45 S0 S) rfl rfl ?_
              refine am_iload_n (pc' := 186) 2 dX12_says_185 rfl rfl rfl ?_
              obtain ⟨hr15, hres⟩ := am_rg hres
              refine am_iald (pc' := 187) (f := (sm_stack S)) dX12_says_186 (sm_c61 S0 S) hr15 rfl ?_
              refine am_cS (pc' := 190) (st' := [.int (fx_X12_two ((sm_codes S) (((200 : Int32) * (sm_rule S)) + v3).toNatClampNeg) ((sm_stack S) ((v2 + (-1 : Int32)) - (1 : Int32)).toNatClampNeg) ((sm_stack S) (v2 + (-1 : Int32)).toNatClampNeg)), .int ((v2 + (-1 : Int32)) - (1 : Int32)), .ref 61]) [.int ((v2 + (-1 : Int32)) - (1 : Int32)), .ref 61] [.int ((sm_codes S) (((200 : Int32) * (sm_rule S)) + v3).toNatClampNeg), .int ((sm_stack S) ((v2 + (-1 : Int32)) - (1 : Int32)).toNatClampNeg), .int ((sm_stack S) (v2 + (-1 : Int32)).toNatClampNeg)] dX12_says_187 cs_X12_163 (tx_X12_two (sx_w S0 (sm_w S)) ((sm_codes S) (((200 : Int32) * (sm_rule S)) + v3).toNatClampNeg) ((sm_stack S) ((v2 + (-1 : Int32)) - (1 : Int32)).toNatClampNeg) ((sm_stack S) (v2 + (-1 : Int32)).toNatClampNeg) _ rfl) rfl rfl rfl rfl rfl rfl ?_
              obtain ⟨hr16, hres⟩ := am_rg hres
              refine am_iast (pc' := 191) (f := (sm_stack S)) (ws' := (sx_w S0 (sm_w (um_stack S (upd (sm_stack S) ((v2 + (-1 : Int32)) - (1 : Int32)).toNatClampNeg (fx_X12_two ((sm_codes S) (((200 : Int32) * (sm_rule S)) + v3).toNatClampNeg) ((sm_stack S) ((v2 + (-1 : Int32)) - (1 : Int32)).toNatClampNeg) ((sm_stack S) (v2 + (-1 : Int32)).toNatClampNeg))))))) dX12_says_190 (sm_c61 S0 S) hr16 (sm_p_stack S0 S _) rfl ?_
              refine am_iinc (pc' := 194) (ls' := [some (.ref 45), some (.int v1), some (.int (v2 + (-1 : Int32))), some (.int (v3 + (1 : Int32))), some (.int ((sm_codes S) (((200 : Int32) * (sm_rule S)) + v3).toNatClampNeg))]) dX12_says_191 rfl (show v3 + Int32.ofInt 1 = (v3 + (1 : Int32)) from congrArg (fun z => v3 + z) kc_1) (Nat.le_of_ble_eq_true rfl) rfl rfl rfl ?_
              refine am_goto 16 dX12_says_194 rfl ?_
              refine am_weak (ls' := [some (.ref 45), some (.int v1), some (.int (v2 + (-1 : Int32))), some (.int (v3 + (1 : Int32))), none]) [false, false, false, false, true] rfl ?_
              exact ih _ _ _ _ _ hres
            · rw [if_pos hc13] at hres
              refine am_aload_n (pc' := 142) 0 dX12_says_141 rfl rfl rfl ?_
              refine am_get (pc' := 145) (v := .ref 61) dX12_says_142 fl_X12_59 (sm_c45 S0 S) rfl rfl ?_
              refine am_iload_n (pc' := 146) 2 dX12_says_145 rfl rfl rfl ?_
              refine am_iconst (pc' := 147) (v := 1) dX12_says_146 kc_1 rfl ?_
              refine am_isub (pc' := 148) dX12_says_147 rfl ?_
              refine am_aload_n (pc' := 149) 0 dX12_says_148 rfl rfl rfl ?_
              refine am_get (pc' := 152) (v := .ref 61) dX12_says_149 fl_X12_59 (sm_c45 S0 S) rfl rfl ?_
              refine am_iload_n (pc' := 153) 2 dX12_says_152 rfl rfl rfl ?_
              refine am_iconst (pc' := 154) (v := 1) dX12_says_153 kc_1 rfl ?_
              refine am_isub (pc' := 155) dX12_says_154 rfl ?_
              obtain ⟨hr17, hres⟩ := am_rg hres
              refine am_iald (pc' := 156) (f := (sm_stack S)) dX12_says_155 (sm_c61 S0 S) hr17 rfl ?_
              refine am_ineg (pc' := 157) dX12_says_156 rfl ?_
              obtain ⟨hr18, hres⟩ := am_rg hres
              refine am_iast (pc' := 158) (f := (sm_stack S)) (ws' := (sx_w S0 (sm_w (um_stack S (upd (sm_stack S) (v2 - (1 : Int32)).toNatClampNeg (-((sm_stack S) (v2 - (1 : Int32)).toNatClampNeg))))))) dX12_says_157 (sm_c61 S0 S) hr18 (sm_p_stack S0 S _) rfl ?_
              refine am_goto 191 dX12_says_158 rfl ?_
              refine am_iinc (pc' := 194) (ls' := [some (.ref 45), some (.int v1), some (.int v2), some (.int (v3 + (1 : Int32))), some (.int ((sm_codes S) (((200 : Int32) * (sm_rule S)) + v3).toNatClampNeg))]) dX12_says_191 rfl (show v3 + Int32.ofInt 1 = (v3 + (1 : Int32)) from congrArg (fun z => v3 + z) kc_1) (Nat.le_of_ble_eq_true rfl) rfl rfl rfl ?_
              refine am_goto 16 dX12_says_194 rfl ?_
              refine am_weak (ls' := [some (.ref 45), some (.int v1), some (.int v2), some (.int (v3 + (1 : Int32))), none]) [false, false, false, false, true] rfl ?_
              exact ih _ _ _ _ _ hres
          · rw [if_pos hc12] at hres
            refine am_aload_n (pc' := 108) 0 dX12_says_107 rfl rfl rfl ?_
            refine am_get (pc' := 111) (v := .ref 61) dX12_says_108 fl_X12_59 (sm_c45 S0 S) rfl rfl ?_
            refine am_iload_n (pc' := 112) 2 dX12_says_111 rfl rfl rfl ?_
            refine am_iconst (pc' := 113) (v := 1) dX12_says_112 kc_1 rfl ?_
            refine am_isub (pc' := 114) dX12_says_113 rfl ?_
            refine am_aload_n (pc' := 115) 0 dX12_says_114 rfl rfl rfl ?_
            refine am_get (pc' := 118) (v := .ref 61) dX12_says_115 fl_X12_59 (sm_c45 S0 S) rfl rfl ?_
            refine am_iload_n (pc' := 119) 2 dX12_says_118 rfl rfl rfl ?_
            refine am_iconst (pc' := 120) (v := 1) dX12_says_119 kc_1 rfl ?_
            refine am_isub (pc' := 121) dX12_says_120 rfl ?_
            obtain ⟨hr19, hres⟩ := am_rg hres
            refine am_iald (pc' := 122) (f := (sm_stack S)) dX12_says_121 (sm_c61 S0 S) hr19 rfl ?_
            refine am_if_ne (pc' := 125) 129 dX12_says_122 rfl rfl (fun hc20 => ?_) (fun hc20 => ?_)
            · rw [if_neg hc20] at hres
              refine am_iconst (pc' := 130) (v := 0) dX12_says_129 kc_0 rfl ?_
              obtain ⟨hr21, hres⟩ := am_rg hres
              refine am_iast (pc' := 131) (f := (sm_stack S)) (ws' := (sx_w S0 (sm_w (um_stack S (upd (sm_stack S) (v2 - (1 : Int32)).toNatClampNeg (0 : Int32)))))) dX12_says_130 (sm_c61 S0 S) hr21 (sm_p_stack S0 S _) rfl ?_
              refine am_goto 191 dX12_says_131 rfl ?_
              refine am_iinc (pc' := 194) (ls' := [some (.ref 45), some (.int v1), some (.int v2), some (.int (v3 + (1 : Int32))), some (.int ((sm_codes S) (((200 : Int32) * (sm_rule S)) + v3).toNatClampNeg))]) dX12_says_191 rfl (show v3 + Int32.ofInt 1 = (v3 + (1 : Int32)) from congrArg (fun z => v3 + z) kc_1) (Nat.le_of_ble_eq_true rfl) rfl rfl rfl ?_
              refine am_goto 16 dX12_says_194 rfl ?_
              refine am_weak (ls' := [some (.ref 45), some (.int v1), some (.int v2), some (.int (v3 + (1 : Int32))), none]) [false, false, false, false, true] rfl ?_
              exact ih _ _ _ _ _ hres
            · rw [if_pos hc20] at hres
              refine am_iconst (pc' := 126) (v := 1) dX12_says_125 kc_1 rfl ?_
              refine am_goto 130 dX12_says_126 rfl ?_
              obtain ⟨hr22, hres⟩ := am_rg hres
              refine am_iast (pc' := 131) (f := (sm_stack S)) (ws' := (sx_w S0 (sm_w (um_stack S (upd (sm_stack S) (v2 - (1 : Int32)).toNatClampNeg (1 : Int32)))))) dX12_says_130 (sm_c61 S0 S) hr22 (sm_p_stack S0 S _) rfl ?_
              refine am_goto 191 dX12_says_131 rfl ?_
              refine am_iinc (pc' := 194) (ls' := [some (.ref 45), some (.int v1), some (.int v2), some (.int (v3 + (1 : Int32))), some (.int ((sm_codes S) (((200 : Int32) * (sm_rule S)) + v3).toNatClampNeg))]) dX12_says_191 rfl (show v3 + Int32.ofInt 1 = (v3 + (1 : Int32)) from congrArg (fun z => v3 + z) kc_1) (Nat.le_of_ble_eq_true rfl) rfl rfl rfl ?_
              refine am_goto 16 dX12_says_194 rfl ?_
              refine am_weak (ls' := [some (.ref 45), some (.int v1), some (.int v2), some (.int (v3 + (1 : Int32))), none]) [false, false, false, false, true] rfl ?_
              exact ih _ _ _ _ _ hres
        · rw [if_neg hc11] at hres
          exact wx_X12_says_66 S0 _ (fun a0 a1 a2 a3 => ih a0 a1 a2 a3) _ _ _ _ _ _ hres

set_option maxRecDepth 100000 in
set_option maxHeartbeats 4000000 in
theorem tx_X12_says (S0 : sx_T) (a1 : Int32) (S : sm_T) (res : Int32 × sm_T) (hres : fx_X12_says a1 S = some res) : am_T mX12_says 1 0 0 [.ref 45, .int a1] (sx_w S0 (sm_w S)) (some (.int res.1)) (sx_w S0 (sm_w res.2)) := by
  refine am_meth (ls := [some (.ref 45), some (.int a1), none, none, none]) (by decide +kernel) rfl (Nat.le_of_ble_eq_true rfl) (sm_len _ _ _ _) ?_
  rw [fx_X12_says] at hres
  refine am_iconst (pc' := 1) (v := 0) dX12_says_0 kc_0 rfl ?_
  refine am_istore_n (pc' := 2) (ls' := [some (.ref 45), some (.int a1), some (.int (0 : Int32)), none, none]) 2 dX12_says_1 rfl (Nat.le_of_ble_eq_true rfl) rfl rfl rfl ?_
  refine am_aload_n (pc' := 3) 0 dX12_says_2 rfl rfl rfl ?_
  refine am_get (pc' := 6) (v := .ref 52) dX12_says_3 fl_X12_32 (sm_c45 S0 S) rfl rfl ?_
  refine am_iconst (pc' := 7) (v := 4) dX12_says_6 kc_4 rfl ?_
  refine am_aload_n (pc' := 8) 0 dX12_says_7 rfl rfl rfl ?_
  refine am_get (pc' := 11) (v := .int (sm_rule S)) dX12_says_8 fl_X12_97 (sm_c45 S0 S) rfl rfl ?_
  refine am_imul (pc' := 12) dX12_says_11 rfl ?_
  refine am_iload_n (pc' := 13) 1 dX12_says_12 rfl rfl rfl ?_
  refine am_iadd (pc' := 14) dX12_says_13 rfl ?_
  obtain ⟨hr1, hres⟩ := am_rg hres
  refine am_iald (pc' := 15) (f := (sm_starts S)) dX12_says_14 (sm_c52 S0 S) hr1 rfl ?_
  refine am_istore_n (pc' := 16) (ls' := [some (.ref 45), some (.int a1), some (.int (0 : Int32)), some (.int ((sm_starts S) (((4 : Int32) * (sm_rule S)) + a1).toNatClampNeg)), none]) 3 dX12_says_15 rfl (Nat.le_of_ble_eq_true rfl) rfl rfl rfl ?_
  exact wx_X12_says_16 S0 am_fu _ _ _ _ _ hres
set_option maxRecDepth 100000 in
set_option maxHeartbeats 4000000 in
theorem tx_X12_within (ws : am_W) (a1 : Int32) (a2 : Int32) (a3 : Int32) (res : Int32) (hres : fx_X12_within a1 a2 a3 = res) : am_T mX12_within 0 0 0 [.int a1, .int a2, .int a3] ws (some (.int res)) ws := by
  refine am_meth (ls := [some (.int a1), some (.int a2), some (.int a3)]) (by decide +kernel) rfl (Nat.le_of_ble_eq_true rfl) ⟨rfl, Or.inl rfl⟩ ?_
  rw [fx_X12_within] at hres
  refine am_iload_n (pc' := 1) 0 dX12_within_0 rfl rfl rfl ?_
  refine am_iload_n (pc' := 2) 1 dX12_within_1 rfl rfl rfl ?_
  refine am_icmp_ge (pc' := 5) 9 dX12_within_2 rfl rfl (fun hc1 => ?_) (fun hc1 => ?_)
  · rw [if_pos hc1] at hres
    refine am_iload_n (pc' := 10) 0 dX12_within_9 rfl rfl rfl ?_
    refine am_iload_n (pc' := 11) 2 dX12_within_10 rfl rfl rfl ?_
    refine am_icmp_le (pc' := 14) 18 dX12_within_11 rfl rfl (fun hc2 => ?_) (fun hc2 => ?_)
    · rw [if_pos hc2] at hres
      refine am_iload_n (pc' := 19) 0 dX12_within_18 rfl rfl rfl ?_
      subst hres
      exact am_iret dX12_within_19 rfl rfl rfl
    · rw [if_neg hc2] at hres
      refine am_iload_n (pc' := 15) 2 dX12_within_14 rfl rfl rfl ?_
      refine am_goto 19 dX12_within_15 rfl ?_
      subst hres
      exact am_iret dX12_within_19 rfl rfl rfl
  · rw [if_neg hc1] at hres
    refine am_iload_n (pc' := 6) 1 dX12_within_5 rfl rfl rfl ?_
    refine am_goto 19 dX12_within_6 rfl ?_
    subst hres
    exact am_iret dX12_within_19 rfl rfl rfl
set_option maxRecDepth 100000 in
set_option maxHeartbeats 4000000 in
theorem wx_X12_asksOf_63 (S0 : sx_T) : ∀ (v1 : Int32) (v2 : Int32) (v4 : Int32) (w1 : Int32) (w2 : Int32) (S : sm_T) (res : Int32 × sm_T) (hres : fx_X12_asksOf_63 v1 v2 v4 w1 w2 S = some res), am_G mX12_asksOf (none, 2, 0, 0, (some (.int res.1)), (sx_w S0 (sm_w res.2))) (0, 0) 63 [some (.ref 45), some (.int v1), some (.int v2), none, some (.int v4)] [.int w2, .int w1, .ref 62] (sx_w S0 (sm_w S)) := by
  intro v1 v2 v4 w1 w2 S res hres
  rw [fx_X12_asksOf_63] at hres
  obtain ⟨hr8, hres⟩ := am_rg hres
  refine am_iast (pc' := 64) (f := (sm_named S)) (ws' := (sx_w S0 (sm_w (um_named S (upd (sm_named S) w1.toNatClampNeg w2))))) dX12_asksOf_63 (sm_c62 S0 S) hr8 (sm_p_named S0 S _) rfl ?_
  refine am_aload_n (pc' := 65) 0 dX12_asksOf_64 rfl rfl rfl ?_
  refine am_get (pc' := 68) (v := .ref 62) dX12_asksOf_65 fl_X12_62 (sm_c45 S0 (um_named S (upd (sm_named S) w1.toNatClampNeg w2))) rfl rfl ?_
  refine am_iconst (pc' := 69) (v := 3) dX12_asksOf_68 kc_3 rfl ?_
  refine am_aload_n (pc' := 70) 0 dX12_asksOf_69 rfl rfl rfl ?_
  refine am_get (pc' := 73) (v := .int (sm_hour S)) dX12_asksOf_70 fl_X12_22 (sm_c45 S0 (um_named S (upd (sm_named S) w1.toNatClampNeg w2))) rfl rfl ?_
  obtain ⟨hr9, hres⟩ := am_rg hres
  refine am_iast (pc' := 74) (f := (upd (sm_named S) w1.toNatClampNeg w2)) (ws' := (sx_w S0 (sm_w (um_named (um_named S (upd (sm_named S) w1.toNatClampNeg w2)) (upd (upd (sm_named S) w1.toNatClampNeg w2) (3 : Int32).toNatClampNeg (sm_hour S)))))) dX12_asksOf_73 (sm_c62 S0 (um_named S (upd (sm_named S) w1.toNatClampNeg w2))) hr9 (sm_p_named S0 (um_named S (upd (sm_named S) w1.toNatClampNeg w2)) _) rfl ?_
  refine am_aload_n (pc' := 75) 0 dX12_asksOf_74 rfl rfl rfl ?_
  refine am_get (pc' := 78) (v := .ref 62) dX12_asksOf_75 fl_X12_62 (sm_c45 S0 (um_named (um_named S (upd (sm_named S) w1.toNatClampNeg w2)) (upd (upd (sm_named S) w1.toNatClampNeg w2) (3 : Int32).toNatClampNeg (sm_hour S)))) rfl rfl ?_
  refine am_iconst (pc' := 79) (v := 4) dX12_asksOf_78 kc_4 rfl ?_
  refine am_iload (pc' := 81) dX12_asksOf_79 rfl rfl ?_
  obtain ⟨hr10, hres⟩ := am_rg hres
  refine am_iast (pc' := 82) (f := (upd (upd (sm_named S) w1.toNatClampNeg w2) (3 : Int32).toNatClampNeg (sm_hour S))) (ws' := (sx_w S0 (sm_w (um_named (um_named (um_named S (upd (sm_named S) w1.toNatClampNeg w2)) (upd (upd (sm_named S) w1.toNatClampNeg w2) (3 : Int32).toNatClampNeg (sm_hour S))) (upd (upd (upd (sm_named S) w1.toNatClampNeg w2) (3 : Int32).toNatClampNeg (sm_hour S)) (4 : Int32).toNatClampNeg v4))))) dX12_asksOf_81 (sm_c62 S0 (um_named (um_named S (upd (sm_named S) w1.toNatClampNeg w2)) (upd (upd (sm_named S) w1.toNatClampNeg w2) (3 : Int32).toNatClampNeg (sm_hour S)))) hr10 (sm_p_named S0 (um_named (um_named S (upd (sm_named S) w1.toNatClampNeg w2)) (upd (upd (sm_named S) w1.toNatClampNeg w2) (3 : Int32).toNatClampNeg (sm_hour S))) _) rfl ?_
  refine am_aload_n (pc' := 83) 0 dX12_asksOf_82 rfl rfl rfl ?_
  refine am_get (pc' := 86) (v := .ref 62) dX12_asksOf_83 fl_X12_62 (sm_c45 S0 (um_named (um_named (um_named S (upd (sm_named S) w1.toNatClampNeg w2)) (upd (upd (sm_named S) w1.toNatClampNeg w2) (3 : Int32).toNatClampNeg (sm_hour S))) (upd (upd (upd (sm_named S) w1.toNatClampNeg w2) (3 : Int32).toNatClampNeg (sm_hour S)) (4 : Int32).toNatClampNeg v4))) rfl rfl ?_
  refine am_iconst (pc' := 87) (v := 5) dX12_asksOf_86 kc_5 rfl ?_
  refine am_aload_n (pc' := 88) 0 dX12_asksOf_87 rfl rfl rfl ?_
  refine am_get (pc' := 91) (v := .ref 48) dX12_asksOf_88 fl_X12_16 (sm_c45 S0 (um_named (um_named (um_named S (upd (sm_named S) w1.toNatClampNeg w2)) (upd (upd (sm_named S) w1.toNatClampNeg w2) (3 : Int32).toNatClampNeg (sm_hour S))) (upd (upd (upd (sm_named S) w1.toNatClampNeg w2) (3 : Int32).toNatClampNeg (sm_hour S)) (4 : Int32).toNatClampNeg v4))) rfl rfl ?_
  refine am_iconst (pc' := 92) (v := 2) dX12_asksOf_91 kc_2 rfl ?_
  refine am_iload_n (pc' := 93) 2 dX12_asksOf_92 rfl rfl rfl ?_
  refine am_imul (pc' := 94) dX12_asksOf_93 rfl ?_
  obtain ⟨hr11, hres⟩ := am_rg hres
  refine am_iald (pc' := 95) (f := (sm_ones S)) dX12_asksOf_94 (sm_c48 S0 (um_named (um_named (um_named S (upd (sm_named S) w1.toNatClampNeg w2)) (upd (upd (sm_named S) w1.toNatClampNeg w2) (3 : Int32).toNatClampNeg (sm_hour S))) (upd (upd (upd (sm_named S) w1.toNatClampNeg w2) (3 : Int32).toNatClampNeg (sm_hour S)) (4 : Int32).toNatClampNeg v4))) hr11 rfl ?_
  obtain ⟨hr12, hres⟩ := am_rg hres
  refine am_iast (pc' := 96) (f := (upd (upd (upd (sm_named S) w1.toNatClampNeg w2) (3 : Int32).toNatClampNeg (sm_hour S)) (4 : Int32).toNatClampNeg v4)) (ws' := (sx_w S0 (sm_w (um_named (um_named (um_named (um_named S (upd (sm_named S) w1.toNatClampNeg w2)) (upd (upd (sm_named S) w1.toNatClampNeg w2) (3 : Int32).toNatClampNeg (sm_hour S))) (upd (upd (upd (sm_named S) w1.toNatClampNeg w2) (3 : Int32).toNatClampNeg (sm_hour S)) (4 : Int32).toNatClampNeg v4)) (upd (upd (upd (upd (sm_named S) w1.toNatClampNeg w2) (3 : Int32).toNatClampNeg (sm_hour S)) (4 : Int32).toNatClampNeg v4) (5 : Int32).toNatClampNeg ((sm_ones S) ((2 : Int32) * v2).toNatClampNeg)))))) dX12_asksOf_95 (sm_c62 S0 (um_named (um_named (um_named S (upd (sm_named S) w1.toNatClampNeg w2)) (upd (upd (sm_named S) w1.toNatClampNeg w2) (3 : Int32).toNatClampNeg (sm_hour S))) (upd (upd (upd (sm_named S) w1.toNatClampNeg w2) (3 : Int32).toNatClampNeg (sm_hour S)) (4 : Int32).toNatClampNeg v4))) hr12 (sm_p_named S0 (um_named (um_named (um_named S (upd (sm_named S) w1.toNatClampNeg w2)) (upd (upd (sm_named S) w1.toNatClampNeg w2) (3 : Int32).toNatClampNeg (sm_hour S))) (upd (upd (upd (sm_named S) w1.toNatClampNeg w2) (3 : Int32).toNatClampNeg (sm_hour S)) (4 : Int32).toNatClampNeg v4)) _) rfl ?_
  refine am_aload_n (pc' := 97) 0 dX12_asksOf_96 rfl rfl rfl ?_
  refine am_iload_n (pc' := 98) 1 dX12_asksOf_97 rfl rfl rfl ?_
  obtain ⟨q13, hq14, hres⟩ := am_bd_s hres
  refine am_cV (pc' := 101) (st' := [.int q13.1]) [] [.int v1] dX12_asksOf_98 cs_X12_167 (tx_X12_says S0 v1 (um_named (um_named (um_named (um_named S (upd (sm_named S) w1.toNatClampNeg w2)) (upd (upd (sm_named S) w1.toNatClampNeg w2) (3 : Int32).toNatClampNeg (sm_hour S))) (upd (upd (upd (sm_named S) w1.toNatClampNeg w2) (3 : Int32).toNatClampNeg (sm_hour S)) (4 : Int32).toNatClampNeg v4)) (upd (upd (upd (upd (sm_named S) w1.toNatClampNeg w2) (3 : Int32).toNatClampNeg (sm_hour S)) (4 : Int32).toNatClampNeg v4) (5 : Int32).toNatClampNeg ((sm_ones S) ((2 : Int32) * v2).toNatClampNeg))) _ hq14) rfl rfl rfl (sm_c45 S0 (um_named (um_named (um_named (um_named S (upd (sm_named S) w1.toNatClampNeg w2)) (upd (upd (sm_named S) w1.toNatClampNeg w2) (3 : Int32).toNatClampNeg (sm_hour S))) (upd (upd (upd (sm_named S) w1.toNatClampNeg w2) (3 : Int32).toNatClampNeg (sm_hour S)) (4 : Int32).toNatClampNeg v4)) (upd (upd (upd (upd (sm_named S) w1.toNatClampNeg w2) (3 : Int32).toNatClampNeg (sm_hour S)) (4 : Int32).toNatClampNeg v4) (5 : Int32).toNatClampNeg ((sm_ones S) ((2 : Int32) * v2).toNatClampNeg)))) rfl rfl rfl rfl rfl ?_
  refine am_iload_n (pc' := 102) 1 dX12_asksOf_101 rfl rfl rfl ?_
  refine am_if_ne (pc' := 105) 110 dX12_asksOf_102 rfl rfl (fun hc15 => ?_) (fun hc15 => ?_)
  · rw [if_neg hc15] at hres
    refine am_iconst (pc' := 111) (v := 0) dX12_asksOf_110 kc_0 rfl ?_
    refine am_iload_n (pc' := 112) 1 dX12_asksOf_111 rfl rfl rfl ?_
    refine am_if_ne (pc' := 115) 120 dX12_asksOf_112 rfl rfl (fun hc16 => ?_) (fun hc16 => ?_)
    · rw [if_neg hc16] at hres
      refine am_iload_n (pc' := 121) 1 dX12_asksOf_120 rfl rfl rfl ?_
      refine am_iconst (pc' := 122) (v := 1) dX12_asksOf_121 kc_1 rfl ?_
      refine am_icmp_ne (pc' := 125) 130 dX12_asksOf_122 rfl rfl (fun hc17 => ?_) (fun hc17 => ?_)
      · rw [if_neg hc17] at hres
        refine am_sipush (pc' := 133) (v := 999) dX12_asksOf_130 ks_999 rfl ?_
        refine am_cS (pc' := 136) (st' := [.int (fx_X12_within q13.1 (0 : Int32) (999 : Int32))]) [] [.int q13.1, .int (0 : Int32), .int (999 : Int32)] dX12_asksOf_133 cs_X12_170 (tx_X12_within (sx_w S0 (sm_w q13.2)) q13.1 (0 : Int32) (999 : Int32) _ rfl) rfl rfl rfl rfl rfl rfl ?_
        obtain rfl := Option.some.inj hres
        exact am_iret dX12_asksOf_136 rfl rfl rfl
      · rw [if_pos hc17] at hres
        refine am_bipush (pc' := 127) (v := 9) dX12_asksOf_125 kb_9 rfl ?_
        refine am_goto 133 dX12_asksOf_127 rfl ?_
        refine am_cS (pc' := 136) (st' := [.int (fx_X12_within q13.1 (0 : Int32) (9 : Int32))]) [] [.int q13.1, .int (0 : Int32), .int (9 : Int32)] dX12_asksOf_133 cs_X12_170 (tx_X12_within (sx_w S0 (sm_w q13.2)) q13.1 (0 : Int32) (9 : Int32) _ rfl) rfl rfl rfl rfl rfl rfl ?_
        obtain rfl := Option.some.inj hres
        exact am_iret dX12_asksOf_136 rfl rfl rfl
    · rw [if_pos hc16] at hres
      refine am_bipush (pc' := 117) (v := 99) dX12_asksOf_115 kb_99 rfl ?_
      refine am_goto 133 dX12_asksOf_117 rfl ?_
      refine am_cS (pc' := 136) (st' := [.int (fx_X12_within q13.1 (0 : Int32) (99 : Int32))]) [] [.int q13.1, .int (0 : Int32), .int (99 : Int32)] dX12_asksOf_133 cs_X12_170 (tx_X12_within (sx_w S0 (sm_w q13.2)) q13.1 (0 : Int32) (99 : Int32) _ rfl) rfl rfl rfl rfl rfl rfl ?_
      obtain rfl := Option.some.inj hres
      exact am_iret dX12_asksOf_136 rfl rfl rfl
  · rw [if_pos hc15] at hres
    refine am_bipush (pc' := 107) (v := (-99)) dX12_asksOf_105 kb_m99 rfl ?_
    refine am_goto 111 dX12_asksOf_107 rfl ?_
    refine am_iload_n (pc' := 112) 1 dX12_asksOf_111 rfl rfl rfl ?_
    refine am_if_ne (pc' := 115) 120 dX12_asksOf_112 rfl rfl (fun hc18 => ?_) (fun hc18 => ?_)
    · rw [if_neg hc18] at hres
      refine am_iload_n (pc' := 121) 1 dX12_asksOf_120 rfl rfl rfl ?_
      refine am_iconst (pc' := 122) (v := 1) dX12_asksOf_121 kc_1 rfl ?_
      refine am_icmp_ne (pc' := 125) 130 dX12_asksOf_122 rfl rfl (fun hc19 => ?_) (fun hc19 => ?_)
      · rw [if_neg hc19] at hres
        refine am_sipush (pc' := 133) (v := 999) dX12_asksOf_130 ks_999 rfl ?_
        refine am_cS (pc' := 136) (st' := [.int (fx_X12_within q13.1 (-99 : Int32) (999 : Int32))]) [] [.int q13.1, .int (-99 : Int32), .int (999 : Int32)] dX12_asksOf_133 cs_X12_170 (tx_X12_within (sx_w S0 (sm_w q13.2)) q13.1 (-99 : Int32) (999 : Int32) _ rfl) rfl rfl rfl rfl rfl rfl ?_
        obtain rfl := Option.some.inj hres
        exact am_iret dX12_asksOf_136 rfl rfl rfl
      · rw [if_pos hc19] at hres
        refine am_bipush (pc' := 127) (v := 9) dX12_asksOf_125 kb_9 rfl ?_
        refine am_goto 133 dX12_asksOf_127 rfl ?_
        refine am_cS (pc' := 136) (st' := [.int (fx_X12_within q13.1 (-99 : Int32) (9 : Int32))]) [] [.int q13.1, .int (-99 : Int32), .int (9 : Int32)] dX12_asksOf_133 cs_X12_170 (tx_X12_within (sx_w S0 (sm_w q13.2)) q13.1 (-99 : Int32) (9 : Int32) _ rfl) rfl rfl rfl rfl rfl rfl ?_
        obtain rfl := Option.some.inj hres
        exact am_iret dX12_asksOf_136 rfl rfl rfl
    · rw [if_pos hc18] at hres
      refine am_bipush (pc' := 117) (v := 99) dX12_asksOf_115 kb_99 rfl ?_
      refine am_goto 133 dX12_asksOf_117 rfl ?_
      refine am_cS (pc' := 136) (st' := [.int (fx_X12_within q13.1 (-99 : Int32) (99 : Int32))]) [] [.int q13.1, .int (-99 : Int32), .int (99 : Int32)] dX12_asksOf_133 cs_X12_170 (tx_X12_within (sx_w S0 (sm_w q13.2)) q13.1 (-99 : Int32) (99 : Int32) _ rfl) rfl rfl rfl rfl rfl rfl ?_
      obtain rfl := Option.some.inj hres
      exact am_iret dX12_asksOf_136 rfl rfl rfl

set_option maxRecDepth 100000 in
set_option maxHeartbeats 4000000 in
theorem wx_X12_asksOf_47 (S0 : sx_T) : ∀ (v1 : Int32) (v2 : Int32) (v3 : Int32) (v4 : Int32) (w1 : Int32) (w2 : Int32) (S : sm_T) (res : Int32 × sm_T) (hres : fx_X12_asksOf_47 v1 v2 v3 v4 w1 w2 S = some res), am_G mX12_asksOf (none, 2, 0, 0, (some (.int res.1)), (sx_w S0 (sm_w res.2))) (0, 0) 47 [some (.ref 45), some (.int v1), some (.int v2), some (.int v3), some (.int v4)] [.int w2, .int w1, .ref 62] (sx_w S0 (sm_w S)) := by
  intro v1 v2 v3 v4 w1 w2 S res hres
  rw [fx_X12_asksOf_47] at hres
  obtain ⟨hr6, hres⟩ := am_rg hres
  refine am_iast (pc' := 48) (f := (sm_named S)) (ws' := (sx_w S0 (sm_w (um_named S (upd (sm_named S) w1.toNatClampNeg w2))))) dX12_asksOf_47 (sm_c62 S0 S) hr6 (sm_p_named S0 S _) rfl ?_
  refine am_aload_n (pc' := 49) 0 dX12_asksOf_48 rfl rfl rfl ?_
  refine am_get (pc' := 52) (v := .ref 62) dX12_asksOf_49 fl_X12_62 (sm_c45 S0 (um_named S (upd (sm_named S) w1.toNatClampNeg w2))) rfl rfl ?_
  refine am_iconst (pc' := 53) (v := 2) dX12_asksOf_52 kc_2 rfl ?_
  refine am_iload_n (pc' := 54) 1 dX12_asksOf_53 rfl rfl rfl ?_
  refine am_iconst (pc' := 55) (v := 2) dX12_asksOf_54 kc_2 rfl ?_
  refine am_icmp_ne (pc' := 58) 62 dX12_asksOf_55 rfl rfl (fun hc7 => ?_) (fun hc7 => ?_)
  · rw [if_neg hc7] at hres
    refine am_iload_n (pc' := 63) 3 dX12_asksOf_62 rfl rfl rfl ?_
    refine am_weak (ls' := [some (.ref 45), some (.int v1), some (.int v2), none, some (.int v4)]) [false, false, false, true, false] rfl ?_
    exact wx_X12_asksOf_63 S0 _ _ _ _ _ _ _ hres
  · rw [if_pos hc7] at hres
    refine am_iconst (pc' := 59) (v := 0) dX12_asksOf_58 kc_0 rfl ?_
    refine am_goto 63 dX12_asksOf_59 rfl ?_
    refine am_weak (ls' := [some (.ref 45), some (.int v1), some (.int v2), none, some (.int v4)]) [false, false, false, true, false] rfl ?_
    exact wx_X12_asksOf_63 S0 _ _ _ _ _ _ _ hres

set_option maxRecDepth 100000 in
set_option maxHeartbeats 4000000 in
theorem wx_X12_asksOf_22 (S0 : sx_T) : ∀ (v1 : Int32) (v2 : Int32) (v3 : Int32) (v4 : Int32) (w1 : Int32) (w2 : Int32) (S : sm_T) (res : Int32 × sm_T) (hres : fx_X12_asksOf_22 v1 v2 v3 v4 w1 w2 S = some res), am_G mX12_asksOf (none, 2, 0, 0, (some (.int res.1)), (sx_w S0 (sm_w res.2))) (0, 0) 22 [some (.ref 45), some (.int v1), some (.int v2), some (.int v3), some (.int v4)] [.int w2, .int w1, .ref 62] (sx_w S0 (sm_w S)) := by
  intro v1 v2 v3 v4 w1 w2 S res hres
  rw [fx_X12_asksOf_22] at hres
  obtain ⟨hr3, hres⟩ := am_rg hres
  refine am_iast (pc' := 23) (f := (sm_named S)) (ws' := (sx_w S0 (sm_w (um_named S (upd (sm_named S) w1.toNatClampNeg w2))))) dX12_asksOf_22 (sm_c62 S0 S) hr3 (sm_p_named S0 S _) rfl ?_
  refine am_aload_n (pc' := 24) 0 dX12_asksOf_23 rfl rfl rfl ?_
  refine am_get (pc' := 27) (v := .ref 62) dX12_asksOf_24 fl_X12_62 (sm_c45 S0 (um_named S (upd (sm_named S) w1.toNatClampNeg w2))) rfl rfl ?_
  refine am_iconst (pc' := 28) (v := 1) dX12_asksOf_27 kc_1 rfl ?_
  refine am_iload_n (pc' := 29) 1 dX12_asksOf_28 rfl rfl rfl ?_
  refine am_iconst (pc' := 30) (v := 2) dX12_asksOf_29 kc_2 rfl ?_
  refine am_icmp_ne (pc' := 33) 37 dX12_asksOf_30 rfl rfl (fun hc4 => ?_) (fun hc4 => ?_)
  · rw [if_neg hc4] at hres
    refine am_aload_n (pc' := 38) 0 dX12_asksOf_37 rfl rfl rfl ?_
    refine am_get (pc' := 41) (v := .ref 49) dX12_asksOf_38 fl_X12_19 (sm_c45 S0 (um_named S (upd (sm_named S) w1.toNatClampNeg w2))) rfl rfl ?_
    refine am_iconst (pc' := 42) (v := 2) dX12_asksOf_41 kc_2 rfl ?_
    refine am_iload_n (pc' := 43) 3 dX12_asksOf_42 rfl rfl rfl ?_
    refine am_imul (pc' := 44) dX12_asksOf_43 rfl ?_
    refine am_iconst (pc' := 45) (v := 1) dX12_asksOf_44 kc_1 rfl ?_
    refine am_iadd (pc' := 46) dX12_asksOf_45 rfl ?_
    obtain ⟨hr5, hres⟩ := am_rg hres
    refine am_iald (pc' := 47) (f := (sm_flat S)) dX12_asksOf_46 (sm_c49 S0 (um_named S (upd (sm_named S) w1.toNatClampNeg w2))) hr5 rfl ?_
    exact wx_X12_asksOf_47 S0 _ _ _ _ _ _ _ _ hres
  · rw [if_pos hc4] at hres
    refine am_iconst (pc' := 34) (v := 0) dX12_asksOf_33 kc_0 rfl ?_
    refine am_goto 47 dX12_asksOf_34 rfl ?_
    exact wx_X12_asksOf_47 S0 _ _ _ _ _ _ _ _ hres

set_option maxRecDepth 100000 in
set_option maxHeartbeats 4000000 in
theorem tx_X12_asksOf (S0 : sx_T) (a1 : Int32) (a2 : Int32) (a3 : Int32) (a4 : Int32) (S : sm_T) (res : Int32 × sm_T) (hres : fx_X12_asksOf a1 a2 a3 a4 S = some res) : am_T mX12_asksOf 2 0 0 [.ref 45, .int a1, .int a2, .int a3, .int a4] (sx_w S0 (sm_w S)) (some (.int res.1)) (sx_w S0 (sm_w res.2)) := by
  refine am_meth (ls := [some (.ref 45), some (.int a1), some (.int a2), some (.int a3), some (.int a4)]) (by decide +kernel) rfl (Nat.le_of_ble_eq_true rfl) (sm_len _ _ _ _) ?_
  rw [fx_X12_asksOf] at hres
  refine am_aload_n (pc' := 1) 0 dX12_asksOf_0 rfl rfl rfl ?_
  refine am_get (pc' := 4) (v := .ref 62) dX12_asksOf_1 fl_X12_62 (sm_c45 S0 S) rfl rfl ?_
  refine am_iconst (pc' := 5) (v := 0) dX12_asksOf_4 kc_0 rfl ?_
  refine am_iload_n (pc' := 6) 1 dX12_asksOf_5 rfl rfl rfl ?_
  refine am_iconst (pc' := 7) (v := 2) dX12_asksOf_6 kc_2 rfl ?_
  refine am_icmp_ne (pc' := 10) 14 dX12_asksOf_7 rfl rfl (fun hc1 => ?_) (fun hc1 => ?_)
  · rw [if_neg hc1] at hres
    refine am_aload_n (pc' := 15) 0 dX12_asksOf_14 rfl rfl rfl ?_
    refine am_get (pc' := 18) (v := .ref 49) dX12_asksOf_15 fl_X12_19 (sm_c45 S0 S) rfl rfl ?_
    refine am_iconst (pc' := 19) (v := 2) dX12_asksOf_18 kc_2 rfl ?_
    refine am_iload_n (pc' := 20) 3 dX12_asksOf_19 rfl rfl rfl ?_
    refine am_imul (pc' := 21) dX12_asksOf_20 rfl ?_
    obtain ⟨hr2, hres⟩ := am_rg hres
    refine am_iald (pc' := 22) (f := (sm_flat S)) dX12_asksOf_21 (sm_c49 S0 S) hr2 rfl ?_
    exact wx_X12_asksOf_22 S0 _ _ _ _ _ _ _ _ hres
  · rw [if_pos hc1] at hres
    refine am_iconst (pc' := 11) (v := 0) dX12_asksOf_10 kc_0 rfl ?_
    refine am_goto 22 dX12_asksOf_11 rfl ?_
    exact wx_X12_asksOf_22 S0 _ _ _ _ _ _ _ _ hres
set_option maxRecDepth 100000 in
set_option maxHeartbeats 4000000 in
theorem wx_X12_likesOf_81 (S0 : sx_T) : ∀ (v1 : Int32) (v4 : Int32) (v5 : Int32) (S : sm_T) (res : Int32 × sm_T) (hres : fx_X12_likesOf_81 v1 v4 v5 S = some res), am_G mX12_likesOf (none, 3, 0, 0, (some (.int res.1)), (sx_w S0 (sm_w res.2))) (0, 0) 81 [some (.ref 45), some (.int v1), none, none, some (.int v4), some (.int v5)] [] (sx_w S0 (sm_w S)) := by
  intro v1 v4 v5 S res hres
  rw [fx_X12_likesOf_81] at hres
  refine am_aload_n (pc' := 82) 0 dX12_likesOf_81 rfl rfl rfl ?_
  refine am_get (pc' := 85) (v := .ref 46) dX12_likesOf_82 fl_X12_7 (sm_c45 S0 S) rfl rfl ?_
  refine am_iload_n (pc' := 86) 1 dX12_likesOf_85 rfl rfl rfl ?_
  obtain ⟨hr8, hres⟩ := am_rg hres
  refine am_iald (pc' := 87) (f := (sm_kind S)) dX12_likesOf_86 (sm_c46 S0 S) hr8 rfl ?_
  refine am_iconst (pc' := 88) (v := 3) dX12_likesOf_87 kc_3 rfl ?_
  refine am_icmp_ne (pc' := 91) 102 dX12_likesOf_88 rfl rfl (fun hc9 => ?_) (fun hc9 => ?_)
  · rw [if_neg hc9] at hres
    refine am_iload (pc' := 104) dX12_likesOf_102 rfl rfl ?_
    refine am_bipush (pc' := 106) (v := (-99)) dX12_likesOf_104 kb_m99 rfl ?_
    refine am_bipush (pc' := 108) (v := 99) dX12_likesOf_106 kb_99 rfl ?_
    refine am_cS (pc' := 111) (st' := [.int (fx_X12_within v5 (-99 : Int32) (99 : Int32))]) [] [.int v5, .int (-99 : Int32), .int (99 : Int32)] dX12_likesOf_108 cs_X12_170 (tx_X12_within (sx_w S0 (sm_w S)) v5 (-99 : Int32) (99 : Int32) _ rfl) rfl rfl rfl rfl rfl rfl ?_
    obtain rfl := Option.some.inj hres
    exact am_iret dX12_likesOf_111 rfl rfl rfl
  · rw [if_pos hc9] at hres
    refine am_iload (pc' := 93) dX12_likesOf_91 rfl rfl ?_
    refine am_if_ge (pc' := 96) 102 dX12_likesOf_93 rfl rfl (fun hc10 => ?_) (fun hc10 => ?_)
    · rw [if_pos hc10] at hres
      refine am_iload (pc' := 104) dX12_likesOf_102 rfl rfl ?_
      refine am_bipush (pc' := 106) (v := (-99)) dX12_likesOf_104 kb_m99 rfl ?_
      refine am_bipush (pc' := 108) (v := 99) dX12_likesOf_106 kb_99 rfl ?_
      refine am_cS (pc' := 111) (st' := [.int (fx_X12_within v5 (-99 : Int32) (99 : Int32))]) [] [.int v5, .int (-99 : Int32), .int (99 : Int32)] dX12_likesOf_108 cs_X12_170 (tx_X12_within (sx_w S0 (sm_w S)) v5 (-99 : Int32) (99 : Int32) _ rfl) rfl rfl rfl rfl rfl rfl ?_
      obtain rfl := Option.some.inj hres
      exact am_iret dX12_likesOf_111 rfl rfl rfl
    · rw [if_neg hc10] at hres
      refine am_iload (pc' := 98) dX12_likesOf_96 rfl rfl ?_
      refine am_iconst (pc' := 99) (v := 2) dX12_likesOf_98 kc_2 rfl ?_
      refine am_imul (pc' := 100) dX12_likesOf_99 rfl ?_
      refine am_istore (pc' := 102) (ls' := [some (.ref 45), some (.int v1), none, none, some (.int v4), some (.int (v5 * (2 : Int32)))]) dX12_likesOf_100 (Nat.le_of_ble_eq_true rfl) rfl rfl rfl ?_
      refine am_iload (pc' := 104) dX12_likesOf_102 rfl rfl ?_
      refine am_bipush (pc' := 106) (v := (-99)) dX12_likesOf_104 kb_m99 rfl ?_
      refine am_bipush (pc' := 108) (v := 99) dX12_likesOf_106 kb_99 rfl ?_
      refine am_cS (pc' := 111) (st' := [.int (fx_X12_within (v5 * (2 : Int32)) (-99 : Int32) (99 : Int32))]) [] [.int (v5 * (2 : Int32)), .int (-99 : Int32), .int (99 : Int32)] dX12_likesOf_108 cs_X12_170 (tx_X12_within (sx_w S0 (sm_w S)) (v5 * (2 : Int32)) (-99 : Int32) (99 : Int32) _ rfl) rfl rfl rfl rfl rfl rfl ?_
      obtain rfl := Option.some.inj hres
      exact am_iret dX12_likesOf_111 rfl rfl rfl

set_option maxRecDepth 100000 in
set_option maxHeartbeats 4000000 in
theorem wx_X12_likesOf_64 (S0 : sx_T) : ∀ (v1 : Int32) (v2 : Int32) (v4 : Int32) (v5 : Int32) (S : sm_T) (res : Int32 × sm_T) (hres : fx_X12_likesOf_64 v1 v2 v4 v5 S = some res), am_G mX12_likesOf (none, 3, 0, 0, (some (.int res.1)), (sx_w S0 (sm_w res.2))) (0, 0) 64 [some (.ref 45), some (.int v1), some (.int v2), none, some (.int v4), some (.int v5)] [] (sx_w S0 (sm_w S)) := by
  intro v1 v2 v4 v5 S res hres
  rw [fx_X12_likesOf_64] at hres
  refine am_iload_n (pc' := 65) 2 dX12_likesOf_64 rfl rfl rfl ?_
  refine am_if_ne (pc' := 68) 81 dX12_likesOf_65 rfl rfl (fun hc7 => ?_) (fun hc7 => ?_)
  · rw [if_neg hc7] at hres
    refine am_weak (ls' := [some (.ref 45), some (.int v1), none, none, some (.int v4), some (.int v5)]) [false, false, true, false, false, false] rfl ?_
    exact wx_X12_likesOf_81 S0 _ _ _ _ _ hres
  · rw [if_pos hc7] at hres
    refine am_iload (pc' := 70) dX12_likesOf_68 rfl rfl ?_
    refine am_iconst (pc' := 71) (v := 2) dX12_likesOf_70 kc_2 rfl ?_
    refine am_aload_n (pc' := 72) 0 dX12_likesOf_71 rfl rfl rfl ?_
    refine am_get (pc' := 75) (v := .ref 47) dX12_likesOf_72 fl_X12_13 (sm_c45 S0 S) rfl rfl ?_
    refine am_iload_n (pc' := 76) 1 dX12_likesOf_75 rfl rfl rfl ?_
    obtain ⟨hr11, hres⟩ := am_rg hres
    refine am_iald (pc' := 77) (f := (sm_moreOf S)) dX12_likesOf_76 (sm_c47 S0 S) hr11 rfl ?_
    refine am_imul (pc' := 78) dX12_likesOf_77 rfl ?_
    refine am_isub (pc' := 79) dX12_likesOf_78 rfl ?_
    refine am_istore (pc' := 81) (ls' := [some (.ref 45), some (.int v1), some (.int v2), none, some (.int v4), some (.int (v5 - ((2 : Int32) * ((sm_moreOf S) v1.toNatClampNeg))))]) dX12_likesOf_79 (Nat.le_of_ble_eq_true rfl) rfl rfl rfl ?_
    refine am_weak (ls' := [some (.ref 45), some (.int v1), none, none, some (.int v4), some (.int (v5 - ((2 : Int32) * ((sm_moreOf S) v1.toNatClampNeg))))]) [false, false, true, false, false, false] rfl ?_
    exact wx_X12_likesOf_81 S0 _ _ _ _ _ hres

set_option maxRecDepth 100000 in
set_option maxHeartbeats 4000000 in
theorem tx_X12_likesOf (S0 : sx_T) (a1 : Int32) (a2 : Int32) (a3 : Int32) (S : sm_T) (res : Int32 × sm_T) (hres : fx_X12_likesOf a1 a2 a3 S = some res) : am_T mX12_likesOf 3 0 0 [.ref 45, .int a1, .int a2, .int a3] (sx_w S0 (sm_w S)) (some (.int res.1)) (sx_w S0 (sm_w res.2)) := by
  refine am_meth (ls := [some (.ref 45), some (.int a1), some (.int a2), some (.int a3), none, none]) (by decide +kernel) rfl (Nat.le_of_ble_eq_true rfl) (sm_len _ _ _ _) ?_
  rw [fx_X12_likesOf] at hres
  refine am_aload_n (pc' := 1) 0 dX12_likesOf_0 rfl rfl rfl ?_
  refine am_get (pc' := 4) (v := .ref 46) dX12_likesOf_1 fl_X12_7 (sm_c45 S0 S) rfl rfl ?_
  refine am_iload_n (pc' := 5) 1 dX12_likesOf_4 rfl rfl rfl ?_
  obtain ⟨hr1, hres⟩ := am_rg hres
  refine am_iald (pc' := 6) (f := (sm_kind S)) dX12_likesOf_5 (sm_c46 S0 S) hr1 rfl ?_
  refine am_iconst (pc' := 7) (v := 5) dX12_likesOf_6 kc_5 rfl ?_
  refine am_icmp_ne (pc' := 10) 30 dX12_likesOf_7 rfl rfl (fun hc2 => ?_) (fun hc2 => ?_)
  · rw [if_neg hc2] at hres
    refine am_aload_n (pc' := 31) 0 dX12_likesOf_30 rfl rfl rfl ?_
    refine am_iconst (pc' := 32) (v := 0) dX12_likesOf_31 kc_0 rfl ?_
    refine am_iload_n (pc' := 33) 1 dX12_likesOf_32 rfl rfl rfl ?_
    refine am_iload_n (pc' := 34) 2 dX12_likesOf_33 rfl rfl rfl ?_
    refine am_iload_n (pc' := 35) 3 dX12_likesOf_34 rfl rfl rfl ?_
    obtain ⟨q3, hq4, hres⟩ := am_bd_s hres
    refine am_cV (pc' := 38) (st' := [.int q3.1]) [] [.int (0 : Int32), .int a1, .int a2, .int a3] dX12_likesOf_35 cs_X12_176 (tx_X12_asksOf S0 (0 : Int32) a1 a2 a3 S _ hq4) rfl rfl rfl (sm_c45 S0 S) rfl rfl rfl rfl rfl ?_
    refine am_istore (pc' := 40) (ls' := [some (.ref 45), some (.int a1), some (.int a2), some (.int a3), some (.int q3.1), none]) dX12_likesOf_38 (Nat.le_of_ble_eq_true rfl) rfl rfl rfl ?_
    refine am_iload (pc' := 42) dX12_likesOf_40 rfl rfl ?_
    refine am_istore (pc' := 44) (ls' := [some (.ref 45), some (.int a1), some (.int a2), some (.int a3), some (.int q3.1), some (.int q3.1)]) dX12_likesOf_42 (Nat.le_of_ble_eq_true rfl) rfl rfl rfl ?_
    refine am_aload_n (pc' := 45) 0 dX12_likesOf_44 rfl rfl rfl ?_
    refine am_get (pc' := 48) (v := .ref 46) dX12_likesOf_45 fl_X12_7 (sm_c45 S0 q3.2) rfl rfl ?_
    refine am_iload_n (pc' := 49) 1 dX12_likesOf_48 rfl rfl rfl ?_
    obtain ⟨hr5, hres⟩ := am_rg hres
    refine am_iald (pc' := 50) (f := (sm_kind q3.2)) dX12_likesOf_49 (sm_c46 S0 q3.2) hr5 rfl ?_
    refine am_iconst (pc' := 51) (v := 1) dX12_likesOf_50 kc_1 rfl ?_
    refine am_icmp_eq (pc' := 54) 64 dX12_likesOf_51 rfl rfl (fun hc6 => ?_) (fun hc6 => ?_)
    · rw [if_pos hc6] at hres
      refine am_weak (ls' := [some (.ref 45), some (.int a1), some (.int a2), none, some (.int q3.1), some (.int q3.1)]) [false, false, false, true, false, false] rfl ?_
      exact wx_X12_likesOf_64 S0 _ _ _ _ _ _ hres
    · rw [if_neg hc6] at hres
      refine am_aload_n (pc' := 55) 0 dX12_likesOf_54 rfl rfl rfl ?_
      refine am_get (pc' := 58) (v := .ref 46) dX12_likesOf_55 fl_X12_7 (sm_c45 S0 q3.2) rfl rfl ?_
      refine am_iload_n (pc' := 59) 1 dX12_likesOf_58 rfl rfl rfl ?_
      obtain ⟨hr12, hres⟩ := am_rg hres
      refine am_iald (pc' := 60) (f := (sm_kind q3.2)) dX12_likesOf_59 (sm_c46 S0 q3.2) hr12 rfl ?_
      refine am_iconst (pc' := 61) (v := 3) dX12_likesOf_60 kc_3 rfl ?_
      refine am_icmp_ne (pc' := 64) 81 dX12_likesOf_61 rfl rfl (fun hc13 => ?_) (fun hc13 => ?_)
      · rw [if_neg hc13] at hres
        refine am_weak (ls' := [some (.ref 45), some (.int a1), none, none, some (.int q3.1), some (.int q3.1)]) [false, false, true, true, false, false] rfl ?_
        exact wx_X12_likesOf_81 S0 _ _ _ _ _ hres
      · rw [if_pos hc13] at hres
        refine am_weak (ls' := [some (.ref 45), some (.int a1), some (.int a2), none, some (.int q3.1), some (.int q3.1)]) [false, false, false, true, false, false] rfl ?_
        exact wx_X12_likesOf_64 S0 _ _ _ _ _ _ hres
  · rw [if_pos hc2] at hres
    refine am_iload_n (pc' := 11) 2 dX12_likesOf_10 rfl rfl rfl ?_
    refine am_aload_n (pc' := 12) 0 dX12_likesOf_11 rfl rfl rfl ?_
    refine am_get (pc' := 15) (v := .ref 47) dX12_likesOf_12 fl_X12_13 (sm_c45 S0 S) rfl rfl ?_
    refine am_iload_n (pc' := 16) 1 dX12_likesOf_15 rfl rfl rfl ?_
    obtain ⟨hr14, hres⟩ := am_rg hres
    refine am_iald (pc' := 17) (f := (sm_moreOf S)) dX12_likesOf_16 (sm_c47 S0 S) hr14 rfl ?_
    refine am_bipush (pc' := 19) (v := 6) dX12_likesOf_17 kb_6 rfl ?_
    refine am_irem (pc' := 20) dX12_likesOf_19 (by decide) rfl ?_
    refine am_icmp_ne (pc' := 23) 28 dX12_likesOf_20 rfl rfl (fun hc15 => ?_) (fun hc15 => ?_)
    · rw [if_neg hc15] at hres
      refine am_iconst (pc' := 29) (v := 0) dX12_likesOf_28 kc_0 rfl ?_
      obtain rfl := Option.some.inj hres
      exact am_iret dX12_likesOf_29 rfl rfl rfl
    · rw [if_pos hc15] at hres
      refine am_bipush (pc' := 25) (v := 99) dX12_likesOf_23 kb_99 rfl ?_
      refine am_goto 29 dX12_likesOf_25 rfl ?_
      obtain rfl := Option.some.inj hres
      exact am_iret dX12_likesOf_29 rfl rfl rfl
set_option maxRecDepth 100000 in
set_option maxHeartbeats 4000000 in
theorem tx_X12_keepsOf (S0 : sx_T) (a1 : Int32) (a2 : Int32) (a3 : Int32) (a4 : Int32) (a5 : Int32) (a6 : Int32) (S : sm_T) (res : Int32 × sm_T) (hres : fx_X12_keepsOf a1 a2 a3 a4 a5 a6 S = some res) : am_T mX12_keepsOf 3 0 0 [.ref 45, .int a1, .int a2, .int a3, .int a4, .int a5, .int a6] (sx_w S0 (sm_w S)) (some (.int res.1)) (sx_w S0 (sm_w res.2)) := by
  refine am_meth (ls := [some (.ref 45), some (.int a1), some (.int a2), some (.int a3), some (.int a4), some (.int a5), some (.int a6), none]) (by decide +kernel) rfl (Nat.le_of_ble_eq_true rfl) (sm_len _ _ _ _) ?_
  rw [fx_X12_keepsOf] at hres
  refine am_aload_n (pc' := 1) 0 dX12_keepsOf_0 rfl rfl rfl ?_
  refine am_iconst (pc' := 2) (v := 1) dX12_keepsOf_1 kc_1 rfl ?_
  refine am_iload_n (pc' := 3) 1 dX12_keepsOf_2 rfl rfl rfl ?_
  refine am_iload_n (pc' := 4) 2 dX12_keepsOf_3 rfl rfl rfl ?_
  refine am_iload_n (pc' := 5) 3 dX12_keepsOf_4 rfl rfl rfl ?_
  obtain ⟨q1, hq2, hres⟩ := am_bd_s hres
  refine am_cV (pc' := 8) (st' := [.int q1.1]) [] [.int (1 : Int32), .int a1, .int a2, .int a3] dX12_keepsOf_5 cs_X12_176 (tx_X12_asksOf S0 (1 : Int32) a1 a2 a3 S _ hq2) rfl rfl rfl (sm_c45 S0 S) rfl rfl rfl rfl rfl ?_
  refine am_istore (pc' := 10) (ls' := [some (.ref 45), some (.int a1), some (.int a2), some (.int a3), some (.int a4), some (.int a5), some (.int a6), some (.int q1.1)]) dX12_keepsOf_8 (Nat.le_of_ble_eq_true rfl) rfl rfl rfl ?_
  refine am_aload_n (pc' := 11) 0 dX12_keepsOf_10 rfl rfl rfl ?_
  refine am_get (pc' := 14) (v := .ref 46) dX12_keepsOf_11 fl_X12_7 (sm_c45 S0 q1.2) rfl rfl ?_
  refine am_iload_n (pc' := 15) 1 dX12_keepsOf_14 rfl rfl rfl ?_
  obtain ⟨hr3, hres⟩ := am_rg hres
  refine am_iald (pc' := 16) (f := (sm_kind q1.2)) dX12_keepsOf_15 (sm_c46 S0 q1.2) hr3 rfl ?_
  rcases Classical.em (((sm_kind q1.2) a1.toNatClampNeg) = (1 : Int32)) with hs4 | hs4
  · rw [if_pos hs4] at hres
    refine am_tsAt (1 : Int32) 48 dX12_keepsOf_16 hs4 (by decide) (by decide) rfl rfl ?_
    refine am_iload (pc' := 50) dX12_keepsOf_48 rfl rfl ?_
    refine am_if_eq (pc' := 53) 60 dX12_keepsOf_50 rfl rfl (fun hc8 => ?_) (fun hc8 => ?_)
    · rw [if_pos hc8] at hres
      refine am_iload (pc' := 62) dX12_keepsOf_60 rfl rfl ?_
      obtain rfl := Option.some.inj hres
      exact am_iret dX12_keepsOf_62 rfl rfl rfl
    · rw [if_neg hc8] at hres
      refine am_iconst (pc' := 54) (v := 2) dX12_keepsOf_53 kc_2 rfl ?_
      refine am_iload (pc' := 56) dX12_keepsOf_54 rfl rfl ?_
      refine am_imul (pc' := 57) dX12_keepsOf_56 rfl ?_
      refine am_goto 62 dX12_keepsOf_57 rfl ?_
      obtain rfl := Option.some.inj hres
      exact am_iret dX12_keepsOf_62 rfl rfl rfl
  · rw [if_neg hs4] at hres
    rcases Classical.em (((sm_kind q1.2) a1.toNatClampNeg) = (2 : Int32)) with hs5 | hs5
    · rw [if_pos hs5] at hres
      refine am_tsAt (2 : Int32) 63 dX12_keepsOf_16 hs5 (by decide) (by decide) rfl rfl ?_
      refine am_iload (pc' := 65) dX12_keepsOf_63 rfl rfl ?_
      refine am_if_eq (pc' := 68) 80 dX12_keepsOf_65 rfl rfl (fun hc9 => ?_) (fun hc9 => ?_)
      · rw [if_pos hc9] at hres
        refine am_iload (pc' := 82) dX12_keepsOf_80 rfl rfl ?_
        obtain rfl := Option.some.inj hres
        exact am_iret dX12_keepsOf_82 rfl rfl rfl
      · rw [if_neg hc9] at hres
        refine am_iload (pc' := 70) dX12_keepsOf_68 rfl rfl ?_
        refine am_aload_n (pc' := 71) 0 dX12_keepsOf_70 rfl rfl rfl ?_
        refine am_get (pc' := 74) (v := .ref 47) dX12_keepsOf_71 fl_X12_13 (sm_c45 S0 q1.2) rfl rfl ?_
        refine am_iload_n (pc' := 75) 1 dX12_keepsOf_74 rfl rfl rfl ?_
        obtain ⟨hr10, hres⟩ := am_rg hres
        refine am_iald (pc' := 76) (f := (sm_moreOf q1.2)) dX12_keepsOf_75 (sm_c47 S0 q1.2) hr10 rfl ?_
        refine am_iadd (pc' := 77) dX12_keepsOf_76 rfl ?_
        refine am_goto 82 dX12_keepsOf_77 rfl ?_
        obtain rfl := Option.some.inj hres
        exact am_iret dX12_keepsOf_82 rfl rfl rfl
    · rw [if_neg hs5] at hres
      rcases Classical.em (((sm_kind q1.2) a1.toNatClampNeg) = (3 : Int32)) with hs6 | hs6
      · rw [if_pos hs6] at hres
        refine am_tsAt (3 : Int32) 48 dX12_keepsOf_16 hs6 (by decide) (by decide) rfl rfl ?_
        refine am_iload (pc' := 50) dX12_keepsOf_48 rfl rfl ?_
        refine am_if_eq (pc' := 53) 60 dX12_keepsOf_50 rfl rfl (fun hc11 => ?_) (fun hc11 => ?_)
        · rw [if_pos hc11] at hres
          refine am_iload (pc' := 62) dX12_keepsOf_60 rfl rfl ?_
          obtain rfl := Option.some.inj hres
          exact am_iret dX12_keepsOf_62 rfl rfl rfl
        · rw [if_neg hc11] at hres
          refine am_iconst (pc' := 54) (v := 2) dX12_keepsOf_53 kc_2 rfl ?_
          refine am_iload (pc' := 56) dX12_keepsOf_54 rfl rfl ?_
          refine am_imul (pc' := 57) dX12_keepsOf_56 rfl ?_
          refine am_goto 62 dX12_keepsOf_57 rfl ?_
          obtain rfl := Option.some.inj hres
          exact am_iret dX12_keepsOf_62 rfl rfl rfl
      · rw [if_neg hs6] at hres
        rcases Classical.em (((sm_kind q1.2) a1.toNatClampNeg) = (4 : Int32)) with hs7 | hs7
        · rw [if_pos hs7] at hres
          refine am_tsAt (4 : Int32) 83 dX12_keepsOf_16 hs7 (by decide) (by decide) rfl rfl ?_
          refine am_iload (pc' := 85) dX12_keepsOf_83 rfl rfl ?_
          refine am_if_ge (pc' := 88) 95 dX12_keepsOf_85 rfl rfl (fun hc12 => ?_) (fun hc12 => ?_)
          · rw [if_pos hc12] at hres
            refine am_iload (pc' := 97) dX12_keepsOf_95 rfl rfl ?_
            refine am_if_eq (pc' := 100) 112 dX12_keepsOf_97 rfl rfl (fun hc13 => ?_) (fun hc13 => ?_)
            · rw [if_pos hc13] at hres
              refine am_iload (pc' := 114) dX12_keepsOf_112 rfl rfl ?_
              obtain rfl := Option.some.inj hres
              exact am_iret dX12_keepsOf_114 rfl rfl rfl
            · rw [if_neg hc13] at hres
              refine am_iload (pc' := 102) dX12_keepsOf_100 rfl rfl ?_
              refine am_aload_n (pc' := 103) 0 dX12_keepsOf_102 rfl rfl rfl ?_
              refine am_get (pc' := 106) (v := .ref 47) dX12_keepsOf_103 fl_X12_13 (sm_c45 S0 q1.2) rfl rfl ?_
              refine am_iload_n (pc' := 107) 1 dX12_keepsOf_106 rfl rfl rfl ?_
              obtain ⟨hr14, hres⟩ := am_rg hres
              refine am_iald (pc' := 108) (f := (sm_moreOf q1.2)) dX12_keepsOf_107 (sm_c47 S0 q1.2) hr14 rfl ?_
              refine am_iadd (pc' := 109) dX12_keepsOf_108 rfl ?_
              refine am_goto 114 dX12_keepsOf_109 rfl ?_
              obtain rfl := Option.some.inj hres
              exact am_iret dX12_keepsOf_114 rfl rfl rfl
          · rw [if_neg hc12] at hres
            refine am_iload (pc' := 90) dX12_keepsOf_88 rfl rfl ?_
            refine am_iconst (pc' := 91) (v := 3) dX12_keepsOf_90 kc_3 rfl ?_
            refine am_iadd (pc' := 92) dX12_keepsOf_91 rfl ?_
            refine am_goto 114 dX12_keepsOf_92 rfl ?_
            obtain rfl := Option.some.inj hres
            exact am_iret dX12_keepsOf_114 rfl rfl rfl
        · rw [if_neg hs7] at hres
          refine am_tsOff 4 115 dX12_keepsOf_16 rfl (fun i hi => by match i, hi with | 0, _ => exact hs4 | 1, _ => exact hs5 | 2, _ => exact hs6 | 3, _ => exact hs7) rfl ?_
          refine am_iload (pc' := 117) dX12_keepsOf_115 rfl rfl ?_
          obtain rfl := Option.some.inj hres
          exact am_iret dX12_keepsOf_117 rfl rfl rfl
set_option maxRecDepth 100000 in
set_option maxHeartbeats 4000000 in
theorem wx_X12_addsMinds_96 (S0 : sx_T) (k49 : Int32 → Int32 → Int32 → Int32 → sm_T → Option (sm_T)) (hk49 : ∀ (v1 : Int32) (v2 : Int32) (v3 : Int32) (v4 : Int32) (S : sm_T) (res : sm_T), k49 v1 v2 v3 v4 S = some res → am_G mX12_addsMinds (none, 4, 0, 0, none, (sx_w S0 (sm_w res))) (0, 0) 49 [some (.ref 45), some (.int v1), some (.int v2), some (.int v3), some (.int v4), none, none, none, none, none] [] (sx_w S0 (sm_w S))) : ∀ (n : Nat) (v1 : Int32) (v2 : Int32) (v3 : Int32) (v4 : Int32) (v5 : Int32) (v6 : Int32) (v7 : Int32) (S : sm_T) (res : sm_T) (hres : fx_X12_addsMinds_96 k49 n v1 v2 v3 v4 v5 v6 v7 S = some res), am_G mX12_addsMinds (none, 4, 0, 0, none, (sx_w S0 (sm_w res))) (0, 0) 96 [some (.ref 45), some (.int v1), some (.int v2), some (.int v3), some (.int v4), some (.int v5), some (.int v6), some (.int v7), none, none] [] (sx_w S0 (sm_w S)) := by
  intro n
  induction n with
  | zero =>
    intro v1 v2 v3 v4 v5 v6 v7 S res hres
    cases hres
  | succ n ih =>
    intro v1 v2 v3 v4 v5 v6 v7 S res hres
    rw [fx_X12_addsMinds_96] at hres
    refine am_iload (pc' := 98) dX12_addsMinds_96 rfl rfl ?_
    refine am_bipush (pc' := 100) (v := 6) dX12_addsMinds_98 kb_6 rfl ?_
    refine am_icmp_ge (pc' := 103) 175 dX12_addsMinds_100 rfl rfl (fun hc9 => ?_) (fun hc9 => ?_)
    · rw [if_pos hc9] at hres
      refine am_iinc (pc' := 178) (ls' := [some (.ref 45), some (.int v1), some (.int v2), some (.int v3), some (.int (v4 + (1 : Int32))), some (.int v5), some (.int v6), some (.int v7), none, none]) dX12_addsMinds_175 rfl (show v4 + Int32.ofInt 1 = (v4 + (1 : Int32)) from congrArg (fun z => v4 + z) kc_1) (Nat.le_of_ble_eq_true rfl) rfl rfl rfl ?_
      refine am_goto 49 dX12_addsMinds_178 rfl ?_
      refine am_weak (ls' := [some (.ref 45), some (.int v1), some (.int v2), some (.int v3), some (.int (v4 + (1 : Int32))), none, none, none, none, none]) [false, false, false, false, false, true, true, true, false, false] rfl ?_
      exact hk49 _ _ _ _ _ _ hres
    · rw [if_neg hc9] at hres
      refine am_aload_n (pc' := 104) 0 dX12_addsMinds_103 rfl rfl rfl ?_
      refine am_iload_n (pc' := 105) 1 dX12_addsMinds_104 rfl rfl rfl ?_
      refine am_iload (pc' := 107) dX12_addsMinds_105 rfl rfl ?_
      refine am_iload_n (pc' := 108) 2 dX12_addsMinds_107 rfl rfl rfl ?_
      obtain ⟨q10, hq11, hres⟩ := am_bd_s hres
      refine am_cV (pc' := 111) (st' := [.int q10.1]) [] [.int v1, .int v7, .int v2] dX12_addsMinds_108 cs_X12_184 (tx_X12_likesOf S0 v1 v7 v2 S _ hq11) rfl rfl rfl (sm_c45 S0 S) rfl rfl rfl rfl rfl ?_
      refine am_istore (pc' := 113) (ls' := [some (.ref 45), some (.int v1), some (.int v2), some (.int v3), some (.int v4), some (.int v5), some (.int v6), some (.int v7), some (.int q10.1), none]) dX12_addsMinds_111 (Nat.le_of_ble_eq_true rfl) rfl rfl rfl ?_
      refine am_aload_n (pc' := 114) 0 dX12_addsMinds_113 rfl rfl rfl ?_
      refine am_iload_n (pc' := 115) 1 dX12_addsMinds_114 rfl rfl rfl ?_
      refine am_iload (pc' := 117) dX12_addsMinds_115 rfl rfl ?_
      refine am_iload_n (pc' := 118) 2 dX12_addsMinds_117 rfl rfl rfl ?_
      refine am_iload (pc' := 120) dX12_addsMinds_118 rfl rfl ?_
      refine am_iconst (pc' := 121) (v := 0) dX12_addsMinds_120 kc_0 rfl ?_
      refine am_iconst (pc' := 122) (v := 1) dX12_addsMinds_121 kc_1 rfl ?_
      obtain ⟨q12, hq13, hres⟩ := am_bd_s hres
      refine am_cV (pc' := 125) (st' := [.int q12.1]) [] [.int v1, .int v7, .int v2, .int q10.1, .int (0 : Int32), .int (1 : Int32)] dX12_addsMinds_122 cs_X12_187 (tx_X12_keepsOf S0 v1 v7 v2 q10.1 (0 : Int32) (1 : Int32) q10.2 _ hq13) rfl rfl rfl (sm_c45 S0 q10.2) rfl rfl rfl rfl rfl ?_
      refine am_aload_n (pc' := 126) 0 dX12_addsMinds_125 rfl rfl rfl ?_
      refine am_iload_n (pc' := 127) 1 dX12_addsMinds_126 rfl rfl rfl ?_
      refine am_iload (pc' := 129) dX12_addsMinds_127 rfl rfl ?_
      refine am_iload_n (pc' := 130) 2 dX12_addsMinds_129 rfl rfl rfl ?_
      refine am_iload (pc' := 132) dX12_addsMinds_130 rfl rfl ?_
      refine am_iconst (pc' := 133) (v := 0) dX12_addsMinds_132 kc_0 rfl ?_
      refine am_iconst (pc' := 134) (v := 0) dX12_addsMinds_133 kc_0 rfl ?_
      obtain ⟨q14, hq15, hres⟩ := am_bd_s hres
      refine am_cV (pc' := 137) (st' := [.int q14.1, .int q12.1]) [.int q12.1] [.int v1, .int v7, .int v2, .int q10.1, .int (0 : Int32), .int (0 : Int32)] dX12_addsMinds_134 cs_X12_187 (tx_X12_keepsOf S0 v1 v7 v2 q10.1 (0 : Int32) (0 : Int32) q12.2 _ hq15) rfl rfl rfl (sm_c45 S0 q12.2) rfl rfl rfl rfl rfl ?_
      refine am_isub (pc' := 138) dX12_addsMinds_137 rfl ?_
      refine am_istore (pc' := 140) (ls' := [some (.ref 45), some (.int v1), some (.int v2), some (.int v3), some (.int v4), some (.int v5), some (.int v6), some (.int v7), some (.int q10.1), some (.int (q12.1 - q14.1))]) dX12_addsMinds_138 (Nat.le_of_ble_eq_true rfl) rfl rfl rfl ?_
      refine am_aload_n (pc' := 141) 0 dX12_addsMinds_140 rfl rfl rfl ?_
      refine am_get (pc' := 144) (v := .ref 64) dX12_addsMinds_141 fl_X12_68 (sm_c45 S0 q14.2) rfl rfl ?_
      refine am_bipush (pc' := 146) (v := 6) dX12_addsMinds_144 kb_6 rfl ?_
      refine am_iload (pc' := 148) dX12_addsMinds_146 rfl rfl ?_
      refine am_imul (pc' := 149) dX12_addsMinds_148 rfl ?_
      refine am_iload (pc' := 151) dX12_addsMinds_149 rfl rfl ?_
      refine am_iadd (pc' := 152) dX12_addsMinds_151 rfl ?_
      refine am_dup2 (x := 0) (pc' := 153) dX12_addsMinds_152 rfl ?_
      obtain ⟨hr16, hres⟩ := am_rg hres
      refine am_iald (pc' := 154) (f := (sm_mindBy q14.2)) dX12_addsMinds_153 (sm_c64 S0 q14.2) hr16 rfl ?_
      refine am_iload_n (pc' := 155) 3 dX12_addsMinds_154 rfl rfl rfl ?_
      refine am_iload (pc' := 157) dX12_addsMinds_155 rfl rfl ?_
      refine am_iload (pc' := 159) dX12_addsMinds_157 rfl rfl ?_
      refine am_imul (pc' := 160) dX12_addsMinds_159 rfl ?_
      refine am_iadd (pc' := 161) dX12_addsMinds_160 rfl ?_
      refine am_iload (pc' := 163) dX12_addsMinds_161 rfl rfl ?_
      refine am_iload (pc' := 165) dX12_addsMinds_163 rfl rfl ?_
      refine am_imul (pc' := 166) dX12_addsMinds_165 rfl ?_
      refine am_iadd (pc' := 167) dX12_addsMinds_166 rfl ?_
      refine am_iadd (pc' := 168) dX12_addsMinds_167 rfl ?_
      obtain ⟨hr17, hres⟩ := am_rg hres
      refine am_iast (pc' := 169) (f := (sm_mindBy q14.2)) (ws' := (sx_w S0 (sm_w (um_mindBy q14.2 (upd (sm_mindBy q14.2) (((6 : Int32) * v4) + v7).toNatClampNeg (((sm_mindBy q14.2) (((6 : Int32) * v4) + v7).toNatClampNeg) + ((v3 + (v5 * v6)) + (q10.1 * (q12.1 - q14.1))))))))) dX12_addsMinds_168 (sm_c64 S0 q14.2) hr17 (sm_p_mindBy S0 q14.2 _) rfl ?_
      refine am_iinc (pc' := 172) (ls' := [some (.ref 45), some (.int v1), some (.int v2), some (.int v3), some (.int v4), some (.int v5), some (.int v6), some (.int (v7 + (1 : Int32))), some (.int q10.1), some (.int (q12.1 - q14.1))]) dX12_addsMinds_169 rfl (show v7 + Int32.ofInt 1 = (v7 + (1 : Int32)) from congrArg (fun z => v7 + z) kc_1) (Nat.le_of_ble_eq_true rfl) rfl rfl rfl ?_
      refine am_goto 96 dX12_addsMinds_172 rfl ?_
      refine am_weak (ls' := [some (.ref 45), some (.int v1), some (.int v2), some (.int v3), some (.int v4), some (.int v5), some (.int v6), some (.int (v7 + (1 : Int32))), none, none]) [false, false, false, false, false, false, false, false, true, true] rfl ?_
      exact ih _ _ _ _ _ _ _ _ _ hres

set_option maxRecDepth 100000 in
set_option maxHeartbeats 4000000 in
theorem wx_X12_addsMinds_49 (S0 : sx_T) : ∀ (n : Nat) (v1 : Int32) (v2 : Int32) (v3 : Int32) (v4 : Int32) (S : sm_T) (res : sm_T) (hres : fx_X12_addsMinds_49 n v1 v2 v3 v4 S = some res), am_G mX12_addsMinds (none, 4, 0, 0, none, (sx_w S0 (sm_w res))) (0, 0) 49 [some (.ref 45), some (.int v1), some (.int v2), some (.int v3), some (.int v4), none, none, none, none, none] [] (sx_w S0 (sm_w S)) := by
  intro n
  induction n with
  | zero =>
    intro v1 v2 v3 v4 S res hres
    cases hres
  | succ n ih =>
    intro v1 v2 v3 v4 S res hres
    rw [fx_X12_addsMinds_49] at hres
    refine am_iload (pc' := 51) dX12_addsMinds_49 rfl rfl ?_
    refine am_bipush (pc' := 53) (v := 6) dX12_addsMinds_51 kb_6 rfl ?_
    refine am_icmp_ge (pc' := 56) 181 dX12_addsMinds_53 rfl rfl (fun hc2 => ?_) (fun hc2 => ?_)
    · rw [if_pos hc2] at hres
      obtain rfl := Option.some.inj hres
      exact am_vret dX12_addsMinds_181 rfl rfl rfl
    · rw [if_neg hc2] at hres
      refine am_aload_n (pc' := 57) 0 dX12_addsMinds_56 rfl rfl rfl ?_
      refine am_iload_n (pc' := 58) 1 dX12_addsMinds_57 rfl rfl rfl ?_
      refine am_iload (pc' := 60) dX12_addsMinds_58 rfl rfl ?_
      refine am_iload_n (pc' := 61) 2 dX12_addsMinds_60 rfl rfl rfl ?_
      obtain ⟨q3, hq4, hres⟩ := am_bd_s hres
      refine am_cV (pc' := 64) (st' := [.int q3.1]) [] [.int v1, .int v4, .int v2] dX12_addsMinds_61 cs_X12_184 (tx_X12_likesOf S0 v1 v4 v2 S _ hq4) rfl rfl rfl (sm_c45 S0 S) rfl rfl rfl rfl rfl ?_
      refine am_istore (pc' := 66) (ls' := [some (.ref 45), some (.int v1), some (.int v2), some (.int v3), some (.int v4), some (.int q3.1), none, none, none, none]) dX12_addsMinds_64 (Nat.le_of_ble_eq_true rfl) rfl rfl rfl ?_
      refine am_aload_n (pc' := 67) 0 dX12_addsMinds_66 rfl rfl rfl ?_
      refine am_iload_n (pc' := 68) 1 dX12_addsMinds_67 rfl rfl rfl ?_
      refine am_iload (pc' := 70) dX12_addsMinds_68 rfl rfl ?_
      refine am_iload_n (pc' := 71) 2 dX12_addsMinds_70 rfl rfl rfl ?_
      refine am_iload (pc' := 73) dX12_addsMinds_71 rfl rfl ?_
      refine am_iconst (pc' := 74) (v := 1) dX12_addsMinds_73 kc_1 rfl ?_
      refine am_iconst (pc' := 75) (v := 0) dX12_addsMinds_74 kc_0 rfl ?_
      obtain ⟨q5, hq6, hres⟩ := am_bd_s hres
      refine am_cV (pc' := 78) (st' := [.int q5.1]) [] [.int v1, .int v4, .int v2, .int q3.1, .int (1 : Int32), .int (0 : Int32)] dX12_addsMinds_75 cs_X12_187 (tx_X12_keepsOf S0 v1 v4 v2 q3.1 (1 : Int32) (0 : Int32) q3.2 _ hq6) rfl rfl rfl (sm_c45 S0 q3.2) rfl rfl rfl rfl rfl ?_
      refine am_aload_n (pc' := 79) 0 dX12_addsMinds_78 rfl rfl rfl ?_
      refine am_iload_n (pc' := 80) 1 dX12_addsMinds_79 rfl rfl rfl ?_
      refine am_iload (pc' := 82) dX12_addsMinds_80 rfl rfl ?_
      refine am_iload_n (pc' := 83) 2 dX12_addsMinds_82 rfl rfl rfl ?_
      refine am_iload (pc' := 85) dX12_addsMinds_83 rfl rfl ?_
      refine am_iconst (pc' := 86) (v := 0) dX12_addsMinds_85 kc_0 rfl ?_
      refine am_iconst (pc' := 87) (v := 0) dX12_addsMinds_86 kc_0 rfl ?_
      obtain ⟨q7, hq8, hres⟩ := am_bd_s hres
      refine am_cV (pc' := 90) (st' := [.int q7.1, .int q5.1]) [.int q5.1] [.int v1, .int v4, .int v2, .int q3.1, .int (0 : Int32), .int (0 : Int32)] dX12_addsMinds_87 cs_X12_187 (tx_X12_keepsOf S0 v1 v4 v2 q3.1 (0 : Int32) (0 : Int32) q5.2 _ hq8) rfl rfl rfl (sm_c45 S0 q5.2) rfl rfl rfl rfl rfl ?_
      refine am_isub (pc' := 91) dX12_addsMinds_90 rfl ?_
      refine am_istore (pc' := 93) (ls' := [some (.ref 45), some (.int v1), some (.int v2), some (.int v3), some (.int v4), some (.int q3.1), some (.int (q5.1 - q7.1)), none, none, none]) dX12_addsMinds_91 (Nat.le_of_ble_eq_true rfl) rfl rfl rfl ?_
      refine am_iconst (pc' := 94) (v := 0) dX12_addsMinds_93 kc_0 rfl ?_
      refine am_istore (pc' := 96) (ls' := [some (.ref 45), some (.int v1), some (.int v2), some (.int v3), some (.int v4), some (.int q3.1), some (.int (q5.1 - q7.1)), some (.int (0 : Int32)), none, none]) dX12_addsMinds_94 (Nat.le_of_ble_eq_true rfl) rfl rfl rfl ?_
      exact wx_X12_addsMinds_96 S0 _ (fun a0 a1 a2 a3 a4 => ih a0 a1 a2 a3 a4) am_fu _ _ _ _ _ _ _ _ _ hres

set_option maxRecDepth 100000 in
set_option maxHeartbeats 4000000 in
theorem wx_X12_addsMinds_5 (S0 : sx_T) : ∀ (n : Nat) (v1 : Int32) (v2 : Int32) (v3 : Int32) (v4 : Int32) (S : sm_T) (res : sm_T) (hres : fx_X12_addsMinds_5 n v1 v2 v3 v4 S = some res), am_G mX12_addsMinds (none, 4, 0, 0, none, (sx_w S0 (sm_w res))) (0, 0) 5 [some (.ref 45), some (.int v1), some (.int v2), some (.int v3), some (.int v4), none, none, none, none, none] [] (sx_w S0 (sm_w S)) := by
  intro n
  induction n with
  | zero =>
    intro v1 v2 v3 v4 S res hres
    cases hres
  | succ n ih =>
    intro v1 v2 v3 v4 S res hres
    rw [fx_X12_addsMinds_5] at hres
    refine am_iload (pc' := 7) dX12_addsMinds_5 rfl rfl ?_
    refine am_bipush (pc' := 9) (v := 6) dX12_addsMinds_7 kb_6 rfl ?_
    refine am_icmp_ge (pc' := 12) 46 dX12_addsMinds_9 rfl rfl (fun hc1 => ?_) (fun hc1 => ?_)
    · rw [if_pos hc1] at hres
      refine am_iconst (pc' := 47) (v := 0) dX12_addsMinds_46 kc_0 rfl ?_
      refine am_istore (pc' := 49) (ls' := [some (.ref 45), some (.int v1), some (.int v2), some (.int v3), some (.int (0 : Int32)), none, none, none, none, none]) dX12_addsMinds_47 (Nat.le_of_ble_eq_true rfl) rfl rfl rfl ?_
      exact wx_X12_addsMinds_49 S0 am_fu _ _ _ _ _ _ hres
    · rw [if_neg hc1] at hres
      refine am_aload_n (pc' := 13) 0 dX12_addsMinds_12 rfl rfl rfl ?_
      refine am_iload_n (pc' := 14) 1 dX12_addsMinds_13 rfl rfl rfl ?_
      refine am_iload (pc' := 16) dX12_addsMinds_14 rfl rfl ?_
      refine am_iload_n (pc' := 17) 2 dX12_addsMinds_16 rfl rfl rfl ?_
      obtain ⟨q18, hq19, hres⟩ := am_bd_s hres
      refine am_cV (pc' := 20) (st' := [.int q18.1]) [] [.int v1, .int v4, .int v2] dX12_addsMinds_17 cs_X12_184 (tx_X12_likesOf S0 v1 v4 v2 S _ hq19) rfl rfl rfl (sm_c45 S0 S) rfl rfl rfl rfl rfl ?_
      refine am_istore (pc' := 22) (ls' := [some (.ref 45), some (.int v1), some (.int v2), some (.int v3), some (.int v4), some (.int q18.1), none, none, none, none]) dX12_addsMinds_20 (Nat.le_of_ble_eq_true rfl) rfl rfl rfl ?_
      refine am_iload_n (pc' := 23) 3 dX12_addsMinds_22 rfl rfl rfl ?_
      refine am_iload (pc' := 25) dX12_addsMinds_23 rfl rfl ?_
      refine am_aload_n (pc' := 26) 0 dX12_addsMinds_25 rfl rfl rfl ?_
      refine am_iload_n (pc' := 27) 1 dX12_addsMinds_26 rfl rfl rfl ?_
      refine am_iload (pc' := 29) dX12_addsMinds_27 rfl rfl ?_
      refine am_iload_n (pc' := 30) 2 dX12_addsMinds_29 rfl rfl rfl ?_
      refine am_iload (pc' := 32) dX12_addsMinds_30 rfl rfl ?_
      refine am_iconst (pc' := 33) (v := 0) dX12_addsMinds_32 kc_0 rfl ?_
      refine am_iconst (pc' := 34) (v := 0) dX12_addsMinds_33 kc_0 rfl ?_
      obtain ⟨q20, hq21, hres⟩ := am_bd_s hres
      refine am_cV (pc' := 37) (st' := [.int q20.1, .int q18.1, .int v3]) [.int q18.1, .int v3] [.int v1, .int v4, .int v2, .int q18.1, .int (0 : Int32), .int (0 : Int32)] dX12_addsMinds_34 cs_X12_187 (tx_X12_keepsOf S0 v1 v4 v2 q18.1 (0 : Int32) (0 : Int32) q18.2 _ hq21) rfl rfl rfl (sm_c45 S0 q18.2) rfl rfl rfl rfl rfl ?_
      refine am_imul (pc' := 38) dX12_addsMinds_37 rfl ?_
      refine am_iadd (pc' := 39) dX12_addsMinds_38 rfl ?_
      refine am_istore_n (pc' := 40) (ls' := [some (.ref 45), some (.int v1), some (.int v2), some (.int (v3 + (q18.1 * q20.1))), some (.int v4), some (.int q18.1), none, none, none, none]) 3 dX12_addsMinds_39 rfl (Nat.le_of_ble_eq_true rfl) rfl rfl rfl ?_
      refine am_iinc (pc' := 43) (ls' := [some (.ref 45), some (.int v1), some (.int v2), some (.int (v3 + (q18.1 * q20.1))), some (.int (v4 + (1 : Int32))), some (.int q18.1), none, none, none, none]) dX12_addsMinds_40 rfl (show v4 + Int32.ofInt 1 = (v4 + (1 : Int32)) from congrArg (fun z => v4 + z) kc_1) (Nat.le_of_ble_eq_true rfl) rfl rfl rfl ?_
      refine am_goto 5 dX12_addsMinds_43 rfl ?_
      refine am_weak (ls' := [some (.ref 45), some (.int v1), some (.int v2), some (.int (v3 + (q18.1 * q20.1))), some (.int (v4 + (1 : Int32))), none, none, none, none, none]) [false, false, false, false, false, true, false, false, false, false] rfl ?_
      exact ih _ _ _ _ _ _ hres

set_option maxRecDepth 100000 in
set_option maxHeartbeats 4000000 in
theorem tx_X12_addsMinds (S0 : sx_T) (a1 : Int32) (a2 : Int32) (S : sm_T) (res : sm_T) (hres : fx_X12_addsMinds a1 a2 S = some res) : am_T mX12_addsMinds 4 0 0 [.ref 45, .int a1, .int a2] (sx_w S0 (sm_w S)) none (sx_w S0 (sm_w res)) := by
  refine am_meth (ls := [some (.ref 45), some (.int a1), some (.int a2), none, none, none, none, none, none, none]) (by decide +kernel) rfl (Nat.le_of_ble_eq_true rfl) (sm_len _ _ _ _) ?_
  rw [fx_X12_addsMinds] at hres
  refine am_iconst (pc' := 1) (v := 0) dX12_addsMinds_0 kc_0 rfl ?_
  refine am_istore_n (pc' := 2) (ls' := [some (.ref 45), some (.int a1), some (.int a2), some (.int (0 : Int32)), none, none, none, none, none, none]) 3 dX12_addsMinds_1 rfl (Nat.le_of_ble_eq_true rfl) rfl rfl rfl ?_
  refine am_iconst (pc' := 3) (v := 0) dX12_addsMinds_2 kc_0 rfl ?_
  refine am_istore (pc' := 5) (ls' := [some (.ref 45), some (.int a1), some (.int a2), some (.int (0 : Int32)), some (.int (0 : Int32)), none, none, none, none, none]) dX12_addsMinds_3 (Nat.le_of_ble_eq_true rfl) rfl rfl rfl ?_
  exact wx_X12_addsMinds_5 S0 am_fu _ _ _ _ _ _ hres
set_option maxRecDepth 100000 in
set_option maxHeartbeats 4000000 in
theorem tx_X12_in (ws : am_W) (a1 : Int32) (a2 : Int32) (a3 : Int32) (res : Int32) (hres : fx_X12_in a1 a2 a3 = res) : am_T mX12_in 0 0 0 [.int a1, .int a2, .int a3] ws (some (.int res)) ws := by
  refine am_meth (ls := [some (.int a1), some (.int a2), some (.int a3)]) (by decide +kernel) rfl (Nat.le_of_ble_eq_true rfl) ⟨rfl, Or.inl rfl⟩ ?_
  rw [fx_X12_in] at hres
  refine am_iload_n (pc' := 1) 0 dX12_in_0 rfl rfl rfl ?_
  refine am_iload_n (pc' := 2) 1 dX12_in_1 rfl rfl rfl ?_
  refine am_icmp_lt (pc' := 5) 14 dX12_in_2 rfl rfl (fun hc1 => ?_) (fun hc1 => ?_)
  · rw [if_pos hc1] at hres
    refine am_iconst (pc' := 15) (v := 0) dX12_in_14 kc_0 rfl ?_
    subst hres
    exact am_zret dX12_in_15 rfl rfl rfl rfl
  · rw [if_neg hc1] at hres
    refine am_iload_n (pc' := 6) 0 dX12_in_5 rfl rfl rfl ?_
    refine am_iload_n (pc' := 7) 2 dX12_in_6 rfl rfl rfl ?_
    refine am_icmp_gt (pc' := 10) 14 dX12_in_7 rfl rfl (fun hc2 => ?_) (fun hc2 => ?_)
    · rw [if_pos hc2] at hres
      refine am_iconst (pc' := 15) (v := 0) dX12_in_14 kc_0 rfl ?_
      subst hres
      exact am_zret dX12_in_15 rfl rfl rfl rfl
    · rw [if_neg hc2] at hres
      refine am_iconst (pc' := 11) (v := 1) dX12_in_10 kc_1 rfl ?_
      refine am_goto 15 dX12_in_11 rfl ?_
      subst hres
      exact am_zret dX12_in_15 rfl rfl rfl rfl
theorem bz_X12_in (a1 : Int32) (a2 : Int32) (a3 : Int32) : narrow .boolean (.int (fx_X12_in a1 a2 a3)) = .int (fx_X12_in a1 a2 a3) := by
  rw [fx_X12_in]
  repeat' (first | refine nb_ite ?_ ?_ | rfl)
set_option maxRecDepth 100000 in
set_option maxHeartbeats 4000000 in
theorem tx_X12_isViewer (S0 : sx_T) (a1 : Int32) (S : sm_T) (res : Int32) (hres : fx_X12_isViewer a1 S = res) : am_T mX12_isViewer 1 0 0 [.ref 45, .int a1] (sx_w S0 (sm_w S)) (some (.int res)) (sx_w S0 (sm_w S)) := by
  refine am_meth (ls := [some (.ref 45), some (.int a1)]) (by decide +kernel) rfl (Nat.le_of_ble_eq_true rfl) (sm_len _ _ _ _) ?_
  rw [fx_X12_isViewer] at hres
  refine am_iload_n (pc' := 1) 1 dX12_isViewer_0 rfl rfl rfl ?_
  refine am_iconst (pc' := 2) (v := 0) dX12_isViewer_1 kc_0 rfl ?_
  refine am_aload_n (pc' := 3) 0 dX12_isViewer_2 rfl rfl rfl ?_
  refine am_get (pc' := 6) (v := .int (sm_viewers S)) dX12_isViewer_3 fl_X12_87 (sm_c45 S0 S) rfl rfl ?_
  refine am_iconst (pc' := 7) (v := 1) dX12_isViewer_6 kc_1 rfl ?_
  refine am_isub (pc' := 8) dX12_isViewer_7 rfl ?_
  refine am_cS (pc' := 11) (st' := [.int (fx_X12_in a1 (0 : Int32) ((sm_viewers S) - (1 : Int32)))]) [] [.int a1, .int (0 : Int32), .int ((sm_viewers S) - (1 : Int32))] dX12_isViewer_8 cs_X12_90 (tx_X12_in (sx_w S0 (sm_w S)) a1 (0 : Int32) ((sm_viewers S) - (1 : Int32)) _ rfl) rfl rfl rfl rfl rfl rfl ?_
  subst hres
  exact am_zret dX12_isViewer_11 rfl (bz_X12_in a1 (0 : Int32) ((sm_viewers S) - (1 : Int32))) rfl rfl
theorem bz_X12_isViewer (a1 : Int32) (S : sm_T) : narrow .boolean (.int (fx_X12_isViewer a1 S)) = .int (fx_X12_isViewer a1 S) := by
  rw [fx_X12_isViewer]
  repeat' (first | refine nb_ite ?_ ?_ | rfl | exact bz_X12_in _ _ _ | exact bz_X12_in _ _ _)
set_option maxRecDepth 100000 in
set_option maxHeartbeats 4000000 in
theorem tx_X12_isRoom (ws : am_W) (a1 : Int32) (res : Int32) (hres : fx_X12_isRoom a1 = res) : am_T mX12_isRoom 1 0 0 [.int a1] ws (some (.int res)) ws := by
  refine am_meth (ls := [some (.int a1)]) (by decide +kernel) rfl (Nat.le_of_ble_eq_true rfl) ⟨rfl, Or.inl rfl⟩ ?_
  rw [fx_X12_isRoom] at hres
  refine am_iload_n (pc' := 1) 0 dX12_isRoom_0 rfl rfl rfl ?_
  refine am_iconst (pc' := 2) (v := 0) dX12_isRoom_1 kc_0 rfl ?_
  refine am_iconst (pc' := 3) (v := 5) dX12_isRoom_2 kc_5 rfl ?_
  refine am_cS (pc' := 6) (st' := [.int (fx_X12_in a1 (0 : Int32) (5 : Int32))]) [] [.int a1, .int (0 : Int32), .int (5 : Int32)] dX12_isRoom_3 cs_X12_90 (tx_X12_in ws a1 (0 : Int32) (5 : Int32) _ rfl) rfl rfl rfl rfl rfl rfl ?_
  subst hres
  exact am_zret dX12_isRoom_6 rfl (bz_X12_in a1 (0 : Int32) (5 : Int32)) rfl rfl
theorem bz_X12_isRoom (a1 : Int32) : narrow .boolean (.int (fx_X12_isRoom a1)) = .int (fx_X12_isRoom a1) := by
  rw [fx_X12_isRoom]
  repeat' (first | refine nb_ite ?_ ?_ | rfl | exact bz_X12_in _ _ _ | exact bz_X12_in _ _ _)
set_option maxRecDepth 100000 in
set_option maxHeartbeats 4000000 in
theorem tx_X12_asks (S0 : sx_T) (a1 : Int32) (a2 : Int32) (a3 : Int32) (a4 : Int32) (S : sm_T) (res : Int32 × sm_T) (hres : fx_X12_asks a1 a2 a3 a4 S = some res) : am_T mX12_asks 3 0 0 [.ref 45, .int a1, .int a2, .int a3, .int a4] (sx_w S0 (sm_w S)) (some (.int res.1)) (sx_w S0 (sm_w res.2)) := by
  refine am_meth (ls := [some (.ref 45), some (.int a1), some (.int a2), some (.int a3), some (.int a4), none]) (by decide +kernel) rfl (Nat.le_of_ble_eq_true rfl) (sm_len _ _ _ _) ?_
  rw [fx_X12_asks] at hres
  refine am_iload_n (pc' := 1) 1 dX12_asks_0 rfl rfl rfl ?_
  refine am_iconst (pc' := 2) (v := 0) dX12_asks_1 kc_0 rfl ?_
  refine am_iconst (pc' := 3) (v := 2) dX12_asks_2 kc_2 rfl ?_
  refine am_cS (pc' := 6) (st' := [.int (fx_X12_in a1 (0 : Int32) (2 : Int32))]) [] [.int a1, .int (0 : Int32), .int (2 : Int32)] dX12_asks_3 cs_X12_90 (tx_X12_in (sx_w S0 (sm_w S)) a1 (0 : Int32) (2 : Int32) _ rfl) rfl rfl rfl rfl rfl rfl ?_
  refine am_if_eq (pc' := 9) 39 dX12_asks_6 rfl rfl (fun hc1 => ?_) (fun hc1 => ?_)
  · rw [if_pos hc1] at hres
    refine am_iconst (pc' := 40) (v := 0) dX12_asks_39 kc_0 rfl ?_
    refine am_istore (pc' := 42) (ls' := [some (.ref 45), some (.int a1), some (.int a2), some (.int a3), some (.int a4), some (.int (0 : Int32))]) dX12_asks_40 (Nat.le_of_ble_eq_true rfl) rfl rfl rfl ?_
    refine am_iload (pc' := 44) dX12_asks_42 rfl rfl ?_
    refine am_if_eq (pc' := 47) 59 dX12_asks_44 rfl rfl (fun hc2 => ?_) (fun hc2 => ?_)
    · rw [if_pos hc2] at hres
      refine am_sipush (pc' := 62) (v := (-1000)) dX12_asks_59 ks_m1000 rfl ?_
      obtain rfl := Option.some.inj hres
      exact am_iret dX12_asks_62 rfl rfl rfl
    · rw [if_neg hc2] at hres
      refine am_aload_n (pc' := 48) 0 dX12_asks_47 rfl rfl rfl ?_
      refine am_iload_n (pc' := 49) 1 dX12_asks_48 rfl rfl rfl ?_
      refine am_iload_n (pc' := 50) 2 dX12_asks_49 rfl rfl rfl ?_
      refine am_iload_n (pc' := 51) 3 dX12_asks_50 rfl rfl rfl ?_
      refine am_iload (pc' := 53) dX12_asks_51 rfl rfl ?_
      obtain ⟨q3, hq4, hres⟩ := am_bd_s hres
      refine am_cV (pc' := 56) (st' := [.int q3.1]) [] [.int a1, .int a2, .int a3, .int a4] dX12_asks_53 cs_X12_176 (tx_X12_asksOf S0 a1 a2 a3 a4 S _ hq4) rfl rfl rfl (sm_c45 S0 S) rfl rfl rfl rfl rfl ?_
      refine am_goto 62 dX12_asks_56 rfl ?_
      obtain rfl := Option.some.inj hres
      exact am_iret dX12_asks_62 rfl rfl rfl
  · rw [if_neg hc1] at hres
    refine am_aload_n (pc' := 10) 0 dX12_asks_9 rfl rfl rfl ?_
    refine am_iload_n (pc' := 11) 2 dX12_asks_10 rfl rfl rfl ?_
    refine am_cV (pc' := 14) (st' := [.int (fx_X12_isViewer a2 S)]) [] [.int a2] dX12_asks_11 cs_X12_173 (tx_X12_isViewer S0 a2 S _ rfl) rfl rfl rfl (sm_c45 S0 S) rfl rfl rfl rfl rfl ?_
    refine am_if_eq (pc' := 17) 39 dX12_asks_14 rfl rfl (fun hc5 => ?_) (fun hc5 => ?_)
    · rw [if_pos hc5] at hres
      refine am_iconst (pc' := 40) (v := 0) dX12_asks_39 kc_0 rfl ?_
      refine am_istore (pc' := 42) (ls' := [some (.ref 45), some (.int a1), some (.int a2), some (.int a3), some (.int a4), some (.int (0 : Int32))]) dX12_asks_40 (Nat.le_of_ble_eq_true rfl) rfl rfl rfl ?_
      refine am_iload (pc' := 44) dX12_asks_42 rfl rfl ?_
      refine am_if_eq (pc' := 47) 59 dX12_asks_44 rfl rfl (fun hc6 => ?_) (fun hc6 => ?_)
      · rw [if_pos hc6] at hres
        refine am_sipush (pc' := 62) (v := (-1000)) dX12_asks_59 ks_m1000 rfl ?_
        obtain rfl := Option.some.inj hres
        exact am_iret dX12_asks_62 rfl rfl rfl
      · rw [if_neg hc6] at hres
        refine am_aload_n (pc' := 48) 0 dX12_asks_47 rfl rfl rfl ?_
        refine am_iload_n (pc' := 49) 1 dX12_asks_48 rfl rfl rfl ?_
        refine am_iload_n (pc' := 50) 2 dX12_asks_49 rfl rfl rfl ?_
        refine am_iload_n (pc' := 51) 3 dX12_asks_50 rfl rfl rfl ?_
        refine am_iload (pc' := 53) dX12_asks_51 rfl rfl ?_
        obtain ⟨q7, hq8, hres⟩ := am_bd_s hres
        refine am_cV (pc' := 56) (st' := [.int q7.1]) [] [.int a1, .int a2, .int a3, .int a4] dX12_asks_53 cs_X12_176 (tx_X12_asksOf S0 a1 a2 a3 a4 S _ hq8) rfl rfl rfl (sm_c45 S0 S) rfl rfl rfl rfl rfl ?_
        refine am_goto 62 dX12_asks_56 rfl ?_
        obtain rfl := Option.some.inj hres
        exact am_iret dX12_asks_62 rfl rfl rfl
    · rw [if_neg hc5] at hres
      refine am_iload_n (pc' := 18) 3 dX12_asks_17 rfl rfl rfl ?_
      refine am_cS (pc' := 21) (st' := [.int (fx_X12_isRoom a3)]) [] [.int a3] dX12_asks_18 cs_X12_100 (tx_X12_isRoom (sx_w S0 (sm_w S)) a3 _ rfl) rfl rfl rfl rfl rfl rfl ?_
      refine am_if_eq (pc' := 24) 39 dX12_asks_21 rfl rfl (fun hc9 => ?_) (fun hc9 => ?_)
      · rw [if_pos hc9] at hres
        refine am_iconst (pc' := 40) (v := 0) dX12_asks_39 kc_0 rfl ?_
        refine am_istore (pc' := 42) (ls' := [some (.ref 45), some (.int a1), some (.int a2), some (.int a3), some (.int a4), some (.int (0 : Int32))]) dX12_asks_40 (Nat.le_of_ble_eq_true rfl) rfl rfl rfl ?_
        refine am_iload (pc' := 44) dX12_asks_42 rfl rfl ?_
        refine am_if_eq (pc' := 47) 59 dX12_asks_44 rfl rfl (fun hc10 => ?_) (fun hc10 => ?_)
        · rw [if_pos hc10] at hres
          refine am_sipush (pc' := 62) (v := (-1000)) dX12_asks_59 ks_m1000 rfl ?_
          obtain rfl := Option.some.inj hres
          exact am_iret dX12_asks_62 rfl rfl rfl
        · rw [if_neg hc10] at hres
          refine am_aload_n (pc' := 48) 0 dX12_asks_47 rfl rfl rfl ?_
          refine am_iload_n (pc' := 49) 1 dX12_asks_48 rfl rfl rfl ?_
          refine am_iload_n (pc' := 50) 2 dX12_asks_49 rfl rfl rfl ?_
          refine am_iload_n (pc' := 51) 3 dX12_asks_50 rfl rfl rfl ?_
          refine am_iload (pc' := 53) dX12_asks_51 rfl rfl ?_
          obtain ⟨q11, hq12, hres⟩ := am_bd_s hres
          refine am_cV (pc' := 56) (st' := [.int q11.1]) [] [.int a1, .int a2, .int a3, .int a4] dX12_asks_53 cs_X12_176 (tx_X12_asksOf S0 a1 a2 a3 a4 S _ hq12) rfl rfl rfl (sm_c45 S0 S) rfl rfl rfl rfl rfl ?_
          refine am_goto 62 dX12_asks_56 rfl ?_
          obtain rfl := Option.some.inj hres
          exact am_iret dX12_asks_62 rfl rfl rfl
      · rw [if_neg hc9] at hres
        refine am_iload (pc' := 26) dX12_asks_24 rfl rfl ?_
        refine am_iconst (pc' := 27) (v := 1) dX12_asks_26 kc_1 rfl ?_
        refine am_bipush (pc' := 29) (v := 8) dX12_asks_27 kb_8 rfl ?_
        refine am_cS (pc' := 32) (st' := [.int (fx_X12_in a4 (1 : Int32) (8 : Int32))]) [] [.int a4, .int (1 : Int32), .int (8 : Int32)] dX12_asks_29 cs_X12_90 (tx_X12_in (sx_w S0 (sm_w S)) a4 (1 : Int32) (8 : Int32) _ rfl) rfl rfl rfl rfl rfl rfl ?_
        refine am_if_eq (pc' := 35) 39 dX12_asks_32 rfl rfl (fun hc13 => ?_) (fun hc13 => ?_)
        · rw [if_pos hc13] at hres
          refine am_iconst (pc' := 40) (v := 0) dX12_asks_39 kc_0 rfl ?_
          refine am_istore (pc' := 42) (ls' := [some (.ref 45), some (.int a1), some (.int a2), some (.int a3), some (.int a4), some (.int (0 : Int32))]) dX12_asks_40 (Nat.le_of_ble_eq_true rfl) rfl rfl rfl ?_
          refine am_iload (pc' := 44) dX12_asks_42 rfl rfl ?_
          refine am_if_eq (pc' := 47) 59 dX12_asks_44 rfl rfl (fun hc14 => ?_) (fun hc14 => ?_)
          · rw [if_pos hc14] at hres
            refine am_sipush (pc' := 62) (v := (-1000)) dX12_asks_59 ks_m1000 rfl ?_
            obtain rfl := Option.some.inj hres
            exact am_iret dX12_asks_62 rfl rfl rfl
          · rw [if_neg hc14] at hres
            refine am_aload_n (pc' := 48) 0 dX12_asks_47 rfl rfl rfl ?_
            refine am_iload_n (pc' := 49) 1 dX12_asks_48 rfl rfl rfl ?_
            refine am_iload_n (pc' := 50) 2 dX12_asks_49 rfl rfl rfl ?_
            refine am_iload_n (pc' := 51) 3 dX12_asks_50 rfl rfl rfl ?_
            refine am_iload (pc' := 53) dX12_asks_51 rfl rfl ?_
            obtain ⟨q15, hq16, hres⟩ := am_bd_s hres
            refine am_cV (pc' := 56) (st' := [.int q15.1]) [] [.int a1, .int a2, .int a3, .int a4] dX12_asks_53 cs_X12_176 (tx_X12_asksOf S0 a1 a2 a3 a4 S _ hq16) rfl rfl rfl (sm_c45 S0 S) rfl rfl rfl rfl rfl ?_
            refine am_goto 62 dX12_asks_56 rfl ?_
            obtain rfl := Option.some.inj hres
            exact am_iret dX12_asks_62 rfl rfl rfl
        · rw [if_neg hc13] at hres
          refine am_iconst (pc' := 36) (v := 1) dX12_asks_35 kc_1 rfl ?_
          refine am_goto 40 dX12_asks_36 rfl ?_
          refine am_istore (pc' := 42) (ls' := [some (.ref 45), some (.int a1), some (.int a2), some (.int a3), some (.int a4), some (.int (1 : Int32))]) dX12_asks_40 (Nat.le_of_ble_eq_true rfl) rfl rfl rfl ?_
          refine am_iload (pc' := 44) dX12_asks_42 rfl rfl ?_
          refine am_if_eq (pc' := 47) 59 dX12_asks_44 rfl rfl (fun hc17 => ?_) (fun hc17 => ?_)
          · rw [if_pos hc17] at hres
            refine am_sipush (pc' := 62) (v := (-1000)) dX12_asks_59 ks_m1000 rfl ?_
            obtain rfl := Option.some.inj hres
            exact am_iret dX12_asks_62 rfl rfl rfl
          · rw [if_neg hc17] at hres
            refine am_aload_n (pc' := 48) 0 dX12_asks_47 rfl rfl rfl ?_
            refine am_iload_n (pc' := 49) 1 dX12_asks_48 rfl rfl rfl ?_
            refine am_iload_n (pc' := 50) 2 dX12_asks_49 rfl rfl rfl ?_
            refine am_iload_n (pc' := 51) 3 dX12_asks_50 rfl rfl rfl ?_
            refine am_iload (pc' := 53) dX12_asks_51 rfl rfl ?_
            obtain ⟨q18, hq19, hres⟩ := am_bd_s hres
            refine am_cV (pc' := 56) (st' := [.int q18.1]) [] [.int a1, .int a2, .int a3, .int a4] dX12_asks_53 cs_X12_176 (tx_X12_asksOf S0 a1 a2 a3 a4 S _ hq19) rfl rfl rfl (sm_c45 S0 S) rfl rfl rfl rfl rfl ?_
            refine am_goto 62 dX12_asks_56 rfl ?_
            obtain rfl := Option.some.inj hres
            exact am_iret dX12_asks_62 rfl rfl rfl
set_option maxRecDepth 100000 in
set_option maxHeartbeats 4000000 in
theorem wx_X12_back_38 (S0 : sx_T) : ∀ (n : Nat) (v1 : Int32) (S : sm_T) (res : Int32 × sm_T) (hres : fx_X12_back_38 n v1 S = some res), am_G mX12_back (none, 0, 0, 0, (some (.int res.1)), (sx_w S0 (sm_w res.2))) (0, 0) 38 [some (.ref 45), some (.int v1)] [] (sx_w S0 (sm_w S)) := by
  intro n
  induction n with
  | zero =>
    intro v1 S res hres
    cases hres
  | succ n ih =>
    intro v1 S res hres
    rw [fx_X12_back_38] at hres
    refine am_iload_n (pc' := 39) 1 dX12_back_38 rfl rfl rfl ?_
    refine am_bipush (pc' := 41) (v := 16) dX12_back_39 kb_16 rfl ?_
    refine am_icmp_ge (pc' := 44) 65 dX12_back_41 rfl rfl (fun hc3 => ?_) (fun hc3 => ?_)
    · rw [if_pos hc3] at hres
      refine am_aload_n (pc' := 66) 0 dX12_back_65 rfl rfl rfl ?_
      refine am_aload_n (pc' := 67) 0 dX12_back_66 rfl rfl rfl ?_
      refine am_get (pc' := 70) (v := .ref 54) dX12_back_67 fl_X12_38 (sm_c45 S0 S) rfl rfl ?_
      refine am_iconst (pc' := 71) (v := 0) dX12_back_70 kc_0 rfl ?_
      obtain ⟨hr4, hres⟩ := am_rg hres
      refine am_iald (pc' := 72) (f := (sm_imageHeld S)) dX12_back_71 (sm_c54 S0 S) hr4 rfl ?_
      refine am_put (pc' := 75) (ws' := (sx_w S0 (sm_w (um_viewers S ((sm_imageHeld S) (0 : Int32).toNatClampNeg))))) (v := .int ((sm_imageHeld S) (0 : Int32).toNatClampNeg)) dX12_back_72 fp_X12_87 (sm_c45 S0 S) (fun _ => ⟨rfl, rfl⟩) (Nat.le_of_ble_eq_true rfl) (sm_p_viewers S0 S _) rfl ?_
      refine am_aload_n (pc' := 76) 0 dX12_back_75 rfl rfl rfl ?_
      refine am_aload_n (pc' := 77) 0 dX12_back_76 rfl rfl rfl ?_
      refine am_get (pc' := 80) (v := .ref 54) dX12_back_77 fl_X12_38 (sm_c45 S0 (um_viewers S ((sm_imageHeld S) (0 : Int32).toNatClampNeg))) rfl rfl ?_
      refine am_iconst (pc' := 81) (v := 1) dX12_back_80 kc_1 rfl ?_
      obtain ⟨hr5, hres⟩ := am_rg hres
      refine am_iald (pc' := 82) (f := (sm_imageHeld S)) dX12_back_81 (sm_c54 S0 (um_viewers S ((sm_imageHeld S) (0 : Int32).toNatClampNeg))) hr5 rfl ?_
      refine am_put (pc' := 85) (ws' := (sx_w S0 (sm_w (um_hour (um_viewers S ((sm_imageHeld S) (0 : Int32).toNatClampNeg)) ((sm_imageHeld S) (1 : Int32).toNatClampNeg))))) (v := .int ((sm_imageHeld S) (1 : Int32).toNatClampNeg)) dX12_back_82 fp_X12_22 (sm_c45 S0 (um_viewers S ((sm_imageHeld S) (0 : Int32).toNatClampNeg))) (fun _ => ⟨rfl, rfl⟩) (Nat.le_of_ble_eq_true rfl) (sm_p_hour S0 (um_viewers S ((sm_imageHeld S) (0 : Int32).toNatClampNeg)) _) rfl ?_
      refine am_aload_n (pc' := 86) 0 dX12_back_85 rfl rfl rfl ?_
      refine am_aload_n (pc' := 87) 0 dX12_back_86 rfl rfl rfl ?_
      refine am_get (pc' := 90) (v := .ref 54) dX12_back_87 fl_X12_38 (sm_c45 S0 (um_hour (um_viewers S ((sm_imageHeld S) (0 : Int32).toNatClampNeg)) ((sm_imageHeld S) (1 : Int32).toNatClampNeg))) rfl rfl ?_
      refine am_iconst (pc' := 91) (v := 2) dX12_back_90 kc_2 rfl ?_
      obtain ⟨hr6, hres⟩ := am_rg hres
      refine am_iald (pc' := 92) (f := (sm_imageHeld S)) dX12_back_91 (sm_c54 S0 (um_hour (um_viewers S ((sm_imageHeld S) (0 : Int32).toNatClampNeg)) ((sm_imageHeld S) (1 : Int32).toNatClampNeg))) hr6 rfl ?_
      refine am_put (pc' := 95) (ws' := (sx_w S0 (sm_w (um_rule (um_hour (um_viewers S ((sm_imageHeld S) (0 : Int32).toNatClampNeg)) ((sm_imageHeld S) (1 : Int32).toNatClampNeg)) ((sm_imageHeld S) (2 : Int32).toNatClampNeg))))) (v := .int ((sm_imageHeld S) (2 : Int32).toNatClampNeg)) dX12_back_92 fp_X12_97 (sm_c45 S0 (um_hour (um_viewers S ((sm_imageHeld S) (0 : Int32).toNatClampNeg)) ((sm_imageHeld S) (1 : Int32).toNatClampNeg))) (fun _ => ⟨rfl, rfl⟩) (Nat.le_of_ble_eq_true rfl) (sm_p_rule S0 (um_hour (um_viewers S ((sm_imageHeld S) (0 : Int32).toNatClampNeg)) ((sm_imageHeld S) (1 : Int32).toNatClampNeg)) _) rfl ?_
      refine am_aload_n (pc' := 96) 0 dX12_back_95 rfl rfl rfl ?_
      refine am_get (pc' := 99) (v := .int ((sm_imageHeld S) (0 : Int32).toNatClampNeg)) dX12_back_96 fl_X12_87 (sm_c45 S0 (um_rule (um_hour (um_viewers S ((sm_imageHeld S) (0 : Int32).toNatClampNeg)) ((sm_imageHeld S) (1 : Int32).toNatClampNeg)) ((sm_imageHeld S) (2 : Int32).toNatClampNeg))) rfl rfl ?_
      obtain rfl := Option.some.inj hres
      exact am_iret dX12_back_99 rfl rfl rfl
    · rw [if_neg hc3] at hres
      refine am_aload_n (pc' := 45) 0 dX12_back_44 rfl rfl rfl ?_
      refine am_get (pc' := 48) (v := .ref 48) dX12_back_45 fl_X12_16 (sm_c45 S0 S) rfl rfl ?_
      refine am_iload_n (pc' := 49) 1 dX12_back_48 rfl rfl rfl ?_
      refine am_aload_n (pc' := 50) 0 dX12_back_49 rfl rfl rfl ?_
      refine am_get (pc' := 53) (v := .ref 53) dX12_back_50 fl_X12_35 (sm_c45 S0 S) rfl rfl ?_
      refine am_bipush (pc' := 55) (v := 12) dX12_back_53 kb_12 rfl ?_
      refine am_iload_n (pc' := 56) 1 dX12_back_55 rfl rfl rfl ?_
      refine am_iadd (pc' := 57) dX12_back_56 rfl ?_
      obtain ⟨hr7, hres⟩ := am_rg hres
      refine am_iald (pc' := 58) (f := (sm_imageRows S)) dX12_back_57 (sm_c53 S0 S) hr7 rfl ?_
      obtain ⟨hr8, hres⟩ := am_rg hres
      refine am_iast (pc' := 59) (f := (sm_ones S)) (ws' := (sx_w S0 (sm_w (um_ones S (upd (sm_ones S) v1.toNatClampNeg ((sm_imageRows S) ((12 : Int32) + v1).toNatClampNeg)))))) dX12_back_58 (sm_c48 S0 S) hr8 (sm_p_ones S0 S _) rfl ?_
      refine am_iinc (pc' := 62) (ls' := [some (.ref 45), some (.int (v1 + (1 : Int32)))]) dX12_back_59 rfl (show v1 + Int32.ofInt 1 = (v1 + (1 : Int32)) from congrArg (fun z => v1 + z) kc_1) (Nat.le_of_ble_eq_true rfl) rfl rfl rfl ?_
      refine am_goto 38 dX12_back_62 rfl ?_
      exact ih _ _ _ hres

set_option maxRecDepth 100000 in
set_option maxHeartbeats 4000000 in
theorem wx_X12_back_12 (S0 : sx_T) : ∀ (n : Nat) (v1 : Int32) (S : sm_T) (res : Int32 × sm_T) (hres : fx_X12_back_12 n v1 S = some res), am_G mX12_back (none, 0, 0, 0, (some (.int res.1)), (sx_w S0 (sm_w res.2))) (0, 0) 12 [some (.ref 45), some (.int v1)] [] (sx_w S0 (sm_w S)) := by
  intro n
  induction n with
  | zero =>
    intro v1 S res hres
    cases hres
  | succ n ih =>
    intro v1 S res hres
    rw [fx_X12_back_12] at hres
    refine am_iload_n (pc' := 13) 1 dX12_back_12 rfl rfl rfl ?_
    refine am_bipush (pc' := 15) (v := 12) dX12_back_13 kb_12 rfl ?_
    refine am_icmp_ge (pc' := 18) 36 dX12_back_15 rfl rfl (fun hc2 => ?_) (fun hc2 => ?_)
    · rw [if_pos hc2] at hres
      refine am_iconst (pc' := 37) (v := 0) dX12_back_36 kc_0 rfl ?_
      refine am_istore_n (pc' := 38) (ls' := [some (.ref 45), some (.int (0 : Int32))]) 1 dX12_back_37 rfl (Nat.le_of_ble_eq_true rfl) rfl rfl rfl ?_
      exact wx_X12_back_38 S0 am_fu _ _ _ hres
    · rw [if_neg hc2] at hres
      refine am_aload_n (pc' := 19) 0 dX12_back_18 rfl rfl rfl ?_
      refine am_get (pc' := 22) (v := .ref 49) dX12_back_19 fl_X12_19 (sm_c45 S0 S) rfl rfl ?_
      refine am_iload_n (pc' := 23) 1 dX12_back_22 rfl rfl rfl ?_
      refine am_aload_n (pc' := 24) 0 dX12_back_23 rfl rfl rfl ?_
      refine am_get (pc' := 27) (v := .ref 53) dX12_back_24 fl_X12_35 (sm_c45 S0 S) rfl rfl ?_
      refine am_iload_n (pc' := 28) 1 dX12_back_27 rfl rfl rfl ?_
      obtain ⟨hr9, hres⟩ := am_rg hres
      refine am_iald (pc' := 29) (f := (sm_imageRows S)) dX12_back_28 (sm_c53 S0 S) hr9 rfl ?_
      obtain ⟨hr10, hres⟩ := am_rg hres
      refine am_iast (pc' := 30) (f := (sm_flat S)) (ws' := (sx_w S0 (sm_w (um_flat S (upd (sm_flat S) v1.toNatClampNeg ((sm_imageRows S) v1.toNatClampNeg)))))) dX12_back_29 (sm_c49 S0 S) hr10 (sm_p_flat S0 S _) rfl ?_
      refine am_iinc (pc' := 33) (ls' := [some (.ref 45), some (.int (v1 + (1 : Int32)))]) dX12_back_30 rfl (show v1 + Int32.ofInt 1 = (v1 + (1 : Int32)) from congrArg (fun z => v1 + z) kc_1) (Nat.le_of_ble_eq_true rfl) rfl rfl rfl ?_
      refine am_goto 12 dX12_back_33 rfl ?_
      exact ih _ _ _ hres

set_option maxRecDepth 100000 in
set_option maxHeartbeats 4000000 in
theorem tx_X12_back (S0 : sx_T) (S : sm_T) (res : Int32 × sm_T) (hres : fx_X12_back S = some res) : am_T mX12_back 0 0 0 [.ref 45] (sx_w S0 (sm_w S)) (some (.int res.1)) (sx_w S0 (sm_w res.2)) := by
  refine am_meth (ls := [some (.ref 45), none]) (by decide +kernel) rfl (Nat.le_of_ble_eq_true rfl) (sm_len _ _ _ _) ?_
  rw [fx_X12_back] at hres
  refine am_aload_n (pc' := 1) 0 dX12_back_0 rfl rfl rfl ?_
  refine am_get (pc' := 4) (v := .int (sm_hasImage S)) dX12_back_1 fl_X12_259 (sm_c45 S0 S) rfl rfl ?_
  refine am_if_ne (pc' := 7) 10 dX12_back_4 rfl rfl (fun hc1 => ?_) (fun hc1 => ?_)
  · rw [if_neg hc1] at hres
    refine am_iconst (pc' := 11) (v := 0) dX12_back_10 kc_0 rfl ?_
    refine am_istore_n (pc' := 12) (ls' := [some (.ref 45), some (.int (0 : Int32))]) 1 dX12_back_11 rfl (Nat.le_of_ble_eq_true rfl) rfl rfl rfl ?_
    exact wx_X12_back_12 S0 am_fu _ _ _ hres
  · rw [if_pos hc1] at hres
    refine am_bipush (pc' := 9) (v := (-3)) dX12_back_7 kb_m3 rfl ?_
    obtain rfl := Option.some.inj hres
    exact am_iret dX12_back_9 rfl rfl rfl
set_option maxRecDepth 100000 in
set_option maxHeartbeats 4000000 in
theorem wx_X12_digitsOf_13 (S0 : sx_T) (S : sm_T) : ∀ (n : Nat) (v2 : Int32) (v3 : Int32) (v4 : Int32) (v5 : Int32) (v6 : Int32) (res : Int32) (hres : fx_X12_digitsOf_13 S n v2 v3 v4 v5 v6 = some res), am_G mX12_digitsOf (none, 0, 0, 0, (some (.int res)), (sx_w S0 (sm_w S))) (0, 0) 13 [none, none, some (.int v2), some (.int v3), some (.int v4), some (.int v5), some (.int v6), none] [] (sx_w S0 (sm_w S)) := by
  intro n
  induction n with
  | zero =>
    intro v2 v3 v4 v5 v6 res hres
    cases hres
  | succ n ih =>
    intro v2 v3 v4 v5 v6 res hres
    rw [fx_X12_digitsOf_13] at hres
    refine am_iload (pc' := 15) dX12_digitsOf_13 rfl rfl ?_
    refine am_bipush (pc' := 17) (v := 6) dX12_digitsOf_15 kb_6 rfl ?_
    refine am_icmp_ge (pc' := 20) 76 dX12_digitsOf_17 rfl rfl (fun hc1 => ?_) (fun hc1 => ?_)
    · rw [if_pos hc1] at hres
      refine am_iload_n (pc' := 77) 3 dX12_digitsOf_76 rfl rfl rfl ?_
      obtain rfl := Option.some.inj hres
      exact am_iret dX12_digitsOf_77 rfl rfl rfl
    · rw [if_neg hc1] at hres
      refine am_iload (pc' := 22) dX12_digitsOf_20 rfl rfl ?_
      refine am_bipush (pc' := 24) (v := 6) dX12_digitsOf_22 kb_6 rfl ?_
      refine am_irem (pc' := 25) dX12_digitsOf_24 (by decide) rfl ?_
      refine am_istore (pc' := 27) (ls' := [none, none, some (.int v2), some (.int v3), some (.int v4), some (.int v5), some (.int v6), some (.int (v5 - v5 / (6 : Int32) * (6 : Int32)))]) dX12_digitsOf_25 (Nat.le_of_ble_eq_true rfl) rfl rfl rfl ?_
      refine am_iload (pc' := 29) dX12_digitsOf_27 rfl rfl ?_
      refine am_bipush (pc' := 31) (v := 6) dX12_digitsOf_29 kb_6 rfl ?_
      refine am_idiv (pc' := 32) dX12_digitsOf_31 (by decide) rfl ?_
      refine am_istore (pc' := 34) (ls' := [none, none, some (.int v2), some (.int v3), some (.int v4), some (.int (v5 / (6 : Int32))), some (.int v6), some (.int (v5 - v5 / (6 : Int32) * (6 : Int32)))]) dX12_digitsOf_32 (Nat.le_of_ble_eq_true rfl) rfl rfl rfl ?_
      refine am_iload_n (pc' := 35) 2 dX12_digitsOf_34 rfl rfl rfl ?_
      refine am_iload (pc' := 37) dX12_digitsOf_35 rfl rfl ?_
      refine am_ishr (pc' := 38) dX12_digitsOf_37 rfl ?_
      refine am_iconst (pc' := 39) (v := 1) dX12_digitsOf_38 kc_1 rfl ?_
      refine am_iand (pc' := 40) dX12_digitsOf_39 rfl ?_
      refine am_iconst (pc' := 41) (v := 1) dX12_digitsOf_40 kc_1 rfl ?_
      refine am_icmp_ne (pc' := 44) 46 dX12_digitsOf_41 rfl rfl (fun hc2 => ?_) (fun hc2 => ?_)
      · rw [if_neg hc2] at hres
        refine am_iload_n (pc' := 47) 2 dX12_digitsOf_46 rfl rfl rfl ?_
        refine am_iconst (pc' := 48) (v := 1) dX12_digitsOf_47 kc_1 rfl ?_
        refine am_iload (pc' := 50) dX12_digitsOf_48 rfl rfl ?_
        refine am_ishl (pc' := 51) dX12_digitsOf_50 rfl ?_
        refine am_ior (pc' := 52) dX12_digitsOf_51 rfl ?_
        refine am_istore_n (pc' := 53) (ls' := [none, none, some (.int (v2 ||| ((1 : Int32) <<< ((v5 - v5 / (6 : Int32) * (6 : Int32)) &&& 31)))), some (.int v3), some (.int v4), some (.int (v5 / (6 : Int32))), some (.int v6), some (.int (v5 - v5 / (6 : Int32) * (6 : Int32)))]) 2 dX12_digitsOf_52 rfl (Nat.le_of_ble_eq_true rfl) rfl rfl rfl ?_
        refine am_iload_n (pc' := 54) 3 dX12_digitsOf_53 rfl rfl rfl ?_
        refine am_iload (pc' := 56) dX12_digitsOf_54 rfl rfl ?_
        refine am_iload (pc' := 58) dX12_digitsOf_56 rfl rfl ?_
        refine am_iconst (pc' := 59) (v := 1) dX12_digitsOf_58 kc_1 rfl ?_
        refine am_iadd (pc' := 60) dX12_digitsOf_59 rfl ?_
        refine am_imul (pc' := 61) dX12_digitsOf_60 rfl ?_
        refine am_iadd (pc' := 62) dX12_digitsOf_61 rfl ?_
        refine am_istore_n (pc' := 63) (ls' := [none, none, some (.int (v2 ||| ((1 : Int32) <<< ((v5 - v5 / (6 : Int32) * (6 : Int32)) &&& 31)))), some (.int (v3 + (v4 * ((v5 - v5 / (6 : Int32) * (6 : Int32)) + (1 : Int32))))), some (.int v4), some (.int (v5 / (6 : Int32))), some (.int v6), some (.int (v5 - v5 / (6 : Int32) * (6 : Int32)))]) 3 dX12_digitsOf_62 rfl (Nat.le_of_ble_eq_true rfl) rfl rfl rfl ?_
        refine am_iload (pc' := 65) dX12_digitsOf_63 rfl rfl ?_
        refine am_bipush (pc' := 67) (v := 10) dX12_digitsOf_65 kb_10 rfl ?_
        refine am_imul (pc' := 68) dX12_digitsOf_67 rfl ?_
        refine am_istore (pc' := 70) (ls' := [none, none, some (.int (v2 ||| ((1 : Int32) <<< ((v5 - v5 / (6 : Int32) * (6 : Int32)) &&& 31)))), some (.int (v3 + (v4 * ((v5 - v5 / (6 : Int32) * (6 : Int32)) + (1 : Int32))))), some (.int (v4 * (10 : Int32))), some (.int (v5 / (6 : Int32))), some (.int v6), some (.int (v5 - v5 / (6 : Int32) * (6 : Int32)))]) dX12_digitsOf_68 (Nat.le_of_ble_eq_true rfl) rfl rfl rfl ?_
        refine am_iinc (pc' := 73) (ls' := [none, none, some (.int (v2 ||| ((1 : Int32) <<< ((v5 - v5 / (6 : Int32) * (6 : Int32)) &&& 31)))), some (.int (v3 + (v4 * ((v5 - v5 / (6 : Int32) * (6 : Int32)) + (1 : Int32))))), some (.int (v4 * (10 : Int32))), some (.int (v5 / (6 : Int32))), some (.int (v6 + (1 : Int32))), some (.int (v5 - v5 / (6 : Int32) * (6 : Int32)))]) dX12_digitsOf_70 rfl (show v6 + Int32.ofInt 1 = (v6 + (1 : Int32)) from congrArg (fun z => v6 + z) kc_1) (Nat.le_of_ble_eq_true rfl) rfl rfl rfl ?_
        refine am_goto 13 dX12_digitsOf_73 rfl ?_
        refine am_weak (ls' := [none, none, some (.int (v2 ||| ((1 : Int32) <<< ((v5 - v5 / (6 : Int32) * (6 : Int32)) &&& 31)))), some (.int (v3 + (v4 * ((v5 - v5 / (6 : Int32) * (6 : Int32)) + (1 : Int32))))), some (.int (v4 * (10 : Int32))), some (.int (v5 / (6 : Int32))), some (.int (v6 + (1 : Int32))), none]) [false, false, false, false, false, false, false, true] rfl ?_
        exact ih _ _ _ _ _ _ hres
      · rw [if_pos hc2] at hres
        refine am_iconst (pc' := 45) (v := 0) dX12_digitsOf_44 kc_0 rfl ?_
        obtain rfl := Option.some.inj hres
        exact am_iret dX12_digitsOf_45 rfl rfl rfl

set_option maxRecDepth 100000 in
set_option maxHeartbeats 4000000 in
theorem tx_X12_digitsOf (S0 : sx_T) (a1 : Int32) (S : sm_T) (res : Int32) (hres : fx_X12_digitsOf a1 S = some res) : am_T mX12_digitsOf 0 0 0 [.ref 45, .int a1] (sx_w S0 (sm_w S)) (some (.int res)) (sx_w S0 (sm_w S)) := by
  refine am_meth (ls := [some (.ref 45), some (.int a1), none, none, none, none, none, none]) (by decide +kernel) rfl (Nat.le_of_ble_eq_true rfl) (sm_len _ _ _ _) ?_
  rw [fx_X12_digitsOf] at hres
  refine am_iconst (pc' := 1) (v := 0) dX12_digitsOf_0 kc_0 rfl ?_
  refine am_istore_n (pc' := 2) (ls' := [some (.ref 45), some (.int a1), some (.int (0 : Int32)), none, none, none, none, none]) 2 dX12_digitsOf_1 rfl (Nat.le_of_ble_eq_true rfl) rfl rfl rfl ?_
  refine am_iconst (pc' := 3) (v := 0) dX12_digitsOf_2 kc_0 rfl ?_
  refine am_istore_n (pc' := 4) (ls' := [some (.ref 45), some (.int a1), some (.int (0 : Int32)), some (.int (0 : Int32)), none, none, none, none]) 3 dX12_digitsOf_3 rfl (Nat.le_of_ble_eq_true rfl) rfl rfl rfl ?_
  refine am_iconst (pc' := 5) (v := 1) dX12_digitsOf_4 kc_1 rfl ?_
  refine am_istore (pc' := 7) (ls' := [some (.ref 45), some (.int a1), some (.int (0 : Int32)), some (.int (0 : Int32)), some (.int (1 : Int32)), none, none, none]) dX12_digitsOf_5 (Nat.le_of_ble_eq_true rfl) rfl rfl rfl ?_
  refine am_iload_n (pc' := 8) 1 dX12_digitsOf_7 rfl rfl rfl ?_
  refine am_istore (pc' := 10) (ls' := [some (.ref 45), some (.int a1), some (.int (0 : Int32)), some (.int (0 : Int32)), some (.int (1 : Int32)), some (.int a1), none, none]) dX12_digitsOf_8 (Nat.le_of_ble_eq_true rfl) rfl rfl rfl ?_
  refine am_iconst (pc' := 11) (v := 0) dX12_digitsOf_10 kc_0 rfl ?_
  refine am_istore (pc' := 13) (ls' := [some (.ref 45), some (.int a1), some (.int (0 : Int32)), some (.int (0 : Int32)), some (.int (1 : Int32)), some (.int a1), some (.int (0 : Int32)), none]) dX12_digitsOf_11 (Nat.le_of_ble_eq_true rfl) rfl rfl rfl ?_
  refine am_weak (ls' := [none, none, some (.int (0 : Int32)), some (.int (0 : Int32)), some (.int (1 : Int32)), some (.int a1), some (.int (0 : Int32)), none]) [true, true, false, false, false, false, false, false] rfl ?_
  exact wx_X12_digitsOf_13 S0 S am_fu _ _ _ _ _ _ hres
