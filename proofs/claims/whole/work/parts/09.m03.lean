set_option maxRecDepth 100000 in
set_option maxHeartbeats 4000000 in
theorem tx_X12_isSome (S0 : sx_T) (a1 : Int32) (S : sm_T) (res : Int32) (hres : fx_X12_isSome a1 S = res) : am_T mX12_isSome 1 0 0 [.ref 45, .int a1] (sx_w S0 (sm_w S)) (some (.int res)) (sx_w S0 (sm_w S)) := by
  refine am_meth (ls := [some (.ref 45), some (.int a1)]) (by decide +kernel) rfl (Nat.le_of_ble_eq_true rfl) (sm_len _ _ _ _) ?_
  rw [fx_X12_isSome] at hres
  refine am_iload_n (pc' := 1) 1 dX12_isSome_0 rfl rfl rfl ?_
  refine am_iconst (pc' := 2) (v := 0) dX12_isSome_1 kc_0 rfl ?_
  refine am_iconst (pc' := 3) (v := 1) dX12_isSome_2 kc_1 rfl ?_
  refine am_aload_n (pc' := 4) 0 dX12_isSome_3 rfl rfl rfl ?_
  refine am_get (pc' := 7) (v := .int (sm_viewers S)) dX12_isSome_4 fl_X12_87 (sm_c45 S0 S) rfl rfl ?_
  refine am_ishl (pc' := 8) dX12_isSome_7 rfl ?_
  refine am_iconst (pc' := 9) (v := 1) dX12_isSome_8 kc_1 rfl ?_
  refine am_isub (pc' := 10) dX12_isSome_9 rfl ?_
  refine am_cS (pc' := 13) (st' := [.int (fx_X12_in a1 (0 : Int32) (((1 : Int32) <<< ((sm_viewers S) &&& 31)) - (1 : Int32)))]) [] [.int a1, .int (0 : Int32), .int (((1 : Int32) <<< ((sm_viewers S) &&& 31)) - (1 : Int32))] dX12_isSome_10 cs_X12_90 (tx_X12_in (sx_w S0 (sm_w S)) a1 (0 : Int32) (((1 : Int32) <<< ((sm_viewers S) &&& 31)) - (1 : Int32)) _ rfl) rfl rfl rfl rfl rfl rfl ?_
  subst hres
  exact am_zret dX12_isSome_13 rfl (bz_X12_in a1 (0 : Int32) (((1 : Int32) <<< ((sm_viewers S) &&& 31)) - (1 : Int32))) rfl rfl
theorem bz_X12_isSome (a1 : Int32) (S : sm_T) : narrow .boolean (.int (fx_X12_isSome a1 S)) = .int (fx_X12_isSome a1 S) := by
  rw [fx_X12_isSome]
  repeat' (first | refine nb_ite ?_ ?_ | rfl | exact bz_X12_in _ _ _ | exact bz_X12_in _ _ _)
set_option maxRecDepth 100000 in
set_option maxHeartbeats 4000000 in
theorem tx_X12_isUnder (ws : am_W) (a1 : Int32) (a2 : Int32) (res : Int32) (hres : fx_X12_isUnder a1 a2 = res) : am_T mX12_isUnder 0 0 0 [.int a1, .int a2] ws (some (.int res)) ws := by
  refine am_meth (ls := [some (.int a1), some (.int a2)]) (by decide +kernel) rfl (Nat.le_of_ble_eq_true rfl) ⟨rfl, Or.inl rfl⟩ ?_
  rw [fx_X12_isUnder] at hres
  refine am_iload_n (pc' := 1) 1 dX12_isUnder_0 rfl rfl rfl ?_
  refine am_if_eq (pc' := 4) 29 dX12_isUnder_1 rfl rfl (fun hc1 => ?_) (fun hc1 => ?_)
  · rw [if_pos hc1] at hres
    refine am_iconst (pc' := 30) (v := 1) dX12_isUnder_29 kc_1 rfl ?_
    refine am_goto 34 dX12_isUnder_30 rfl ?_
    subst hres
    exact am_zret dX12_isUnder_34 rfl rfl rfl rfl
  · rw [if_neg hc1] at hres
    refine am_iload_n (pc' := 5) 0 dX12_isUnder_4 rfl rfl rfl ?_
    refine am_iload_n (pc' := 6) 1 dX12_isUnder_5 rfl rfl rfl ?_
    refine am_icmp_eq (pc' := 9) 29 dX12_isUnder_6 rfl rfl (fun hc2 => ?_) (fun hc2 => ?_)
    · rw [if_pos hc2] at hres
      refine am_iconst (pc' := 30) (v := 1) dX12_isUnder_29 kc_1 rfl ?_
      refine am_goto 34 dX12_isUnder_30 rfl ?_
      subst hres
      exact am_zret dX12_isUnder_34 rfl rfl rfl rfl
    · rw [if_neg hc2] at hres
      refine am_iload_n (pc' := 10) 1 dX12_isUnder_9 rfl rfl rfl ?_
      refine am_iconst (pc' := 11) (v := 1) dX12_isUnder_10 kc_1 rfl ?_
      refine am_icmp_ne (pc' := 14) 19 dX12_isUnder_11 rfl rfl (fun hc3 => ?_) (fun hc3 => ?_)
      · rw [if_neg hc3] at hres
        refine am_iload_n (pc' := 20) 1 dX12_isUnder_19 rfl rfl rfl ?_
        refine am_iconst (pc' := 21) (v := 2) dX12_isUnder_20 kc_2 rfl ?_
        refine am_icmp_ne (pc' := 24) 33 dX12_isUnder_21 rfl rfl (fun hc4 => ?_) (fun hc4 => ?_)
        · rw [if_neg hc4] at hres
          refine am_iconst (pc' := 34) (v := 0) dX12_isUnder_33 kc_0 rfl ?_
          subst hres
          exact am_zret dX12_isUnder_34 rfl rfl rfl rfl
        · rw [if_pos hc4] at hres
          refine am_iload_n (pc' := 25) 0 dX12_isUnder_24 rfl rfl rfl ?_
          refine am_iconst (pc' := 26) (v := 4) dX12_isUnder_25 kc_4 rfl ?_
          refine am_icmp_ne (pc' := 29) 33 dX12_isUnder_26 rfl rfl (fun hc5 => ?_) (fun hc5 => ?_)
          · rw [if_neg hc5] at hres
            refine am_iconst (pc' := 34) (v := 0) dX12_isUnder_33 kc_0 rfl ?_
            subst hres
            exact am_zret dX12_isUnder_34 rfl rfl rfl rfl
          · rw [if_pos hc5] at hres
            refine am_iconst (pc' := 30) (v := 1) dX12_isUnder_29 kc_1 rfl ?_
            refine am_goto 34 dX12_isUnder_30 rfl ?_
            subst hres
            exact am_zret dX12_isUnder_34 rfl rfl rfl rfl
      · rw [if_pos hc3] at hres
        refine am_iload_n (pc' := 15) 0 dX12_isUnder_14 rfl rfl rfl ?_
        refine am_iconst (pc' := 16) (v := 3) dX12_isUnder_15 kc_3 rfl ?_
        refine am_icmp_eq (pc' := 19) 29 dX12_isUnder_16 rfl rfl (fun hc6 => ?_) (fun hc6 => ?_)
        · rw [if_pos hc6] at hres
          refine am_iconst (pc' := 30) (v := 1) dX12_isUnder_29 kc_1 rfl ?_
          refine am_goto 34 dX12_isUnder_30 rfl ?_
          subst hres
          exact am_zret dX12_isUnder_34 rfl rfl rfl rfl
        · rw [if_neg hc6] at hres
          refine am_iload_n (pc' := 20) 1 dX12_isUnder_19 rfl rfl rfl ?_
          refine am_iconst (pc' := 21) (v := 2) dX12_isUnder_20 kc_2 rfl ?_
          refine am_icmp_ne (pc' := 24) 33 dX12_isUnder_21 rfl rfl (fun hc7 => ?_) (fun hc7 => ?_)
          · rw [if_neg hc7] at hres
            refine am_iconst (pc' := 34) (v := 0) dX12_isUnder_33 kc_0 rfl ?_
            subst hres
            exact am_zret dX12_isUnder_34 rfl rfl rfl rfl
          · rw [if_pos hc7] at hres
            refine am_iload_n (pc' := 25) 0 dX12_isUnder_24 rfl rfl rfl ?_
            refine am_iconst (pc' := 26) (v := 4) dX12_isUnder_25 kc_4 rfl ?_
            refine am_icmp_ne (pc' := 29) 33 dX12_isUnder_26 rfl rfl (fun hc8 => ?_) (fun hc8 => ?_)
            · rw [if_neg hc8] at hres
              refine am_iconst (pc' := 34) (v := 0) dX12_isUnder_33 kc_0 rfl ?_
              subst hres
              exact am_zret dX12_isUnder_34 rfl rfl rfl rfl
            · rw [if_pos hc8] at hres
              refine am_iconst (pc' := 30) (v := 1) dX12_isUnder_29 kc_1 rfl ?_
              refine am_goto 34 dX12_isUnder_30 rfl ?_
              subst hres
              exact am_zret dX12_isUnder_34 rfl rfl rfl rfl
theorem bz_X12_isUnder (a1 : Int32) (a2 : Int32) : narrow .boolean (.int (fx_X12_isUnder a1 a2)) = .int (fx_X12_isUnder a1 a2) := by
  rw [fx_X12_isUnder]
  repeat' (first | refine nb_ite ?_ ?_ | rfl)
set_option maxRecDepth 100000 in
set_option maxHeartbeats 4000000 in
theorem tx_X12_toldWrong (S0 : sx_T) (a1 : Int32) (a2 : Int32) (a3 : Int32) (S : sm_T) (res : Int32 × sm_T) (hres : fx_X12_toldWrong a1 a2 a3 S = some res) : am_T mX12_toldWrong 3 0 0 [.ref 45, .int a1, .int a2, .int a3] (sx_w S0 (sm_w S)) (some (.int res.1)) (sx_w S0 (sm_w res.2)) := by
  refine am_meth (ls := [some (.ref 45), some (.int a1), some (.int a2), some (.int a3)]) (by decide +kernel) rfl (Nat.le_of_ble_eq_true rfl) (sm_len _ _ _ _) ?_
  rw [fx_X12_toldWrong] at hres
  refine am_iload_n (pc' := 1) 1 dX12_toldWrong_0 rfl rfl rfl ?_
  refine am_iconst (pc' := 2) (v := 0) dX12_toldWrong_1 kc_0 rfl ?_
  refine am_iconst (pc' := 3) (v := 3) dX12_toldWrong_2 kc_3 rfl ?_
  refine am_cS (pc' := 6) (st' := [.int (fx_X12_in a1 (0 : Int32) (3 : Int32))]) [] [.int a1, .int (0 : Int32), .int (3 : Int32)] dX12_toldWrong_3 cs_X12_90 (tx_X12_in (sx_w S0 (sm_w S)) a1 (0 : Int32) (3 : Int32) _ rfl) rfl rfl rfl rfl rfl rfl ?_
  refine am_if_eq (pc' := 9) 18 dX12_toldWrong_6 rfl rfl (fun hc1 => ?_) (fun hc1 => ?_)
  · rw [if_pos hc1] at hres
    refine am_bipush (pc' := 20) (v := (-2)) dX12_toldWrong_18 kb_m2 rfl ?_
    obtain rfl := Option.some.inj hres
    exact am_iret dX12_toldWrong_20 rfl rfl rfl
  · rw [if_neg hc1] at hres
    refine am_iload_n (pc' := 10) 2 dX12_toldWrong_9 rfl rfl rfl ?_
    refine am_iconst (pc' := 11) (v := 0) dX12_toldWrong_10 kc_0 rfl ?_
    refine am_iconst (pc' := 12) (v := 3) dX12_toldWrong_11 kc_3 rfl ?_
    refine am_cS (pc' := 15) (st' := [.int (fx_X12_in a2 (0 : Int32) (3 : Int32))]) [] [.int a2, .int (0 : Int32), .int (3 : Int32)] dX12_toldWrong_12 cs_X12_90 (tx_X12_in (sx_w S0 (sm_w S)) a2 (0 : Int32) (3 : Int32) _ rfl) rfl rfl rfl rfl rfl rfl ?_
    refine am_if_ne (pc' := 18) 21 dX12_toldWrong_15 rfl rfl (fun hc2 => ?_) (fun hc2 => ?_)
    · rw [if_neg hc2] at hres
      refine am_aload_n (pc' := 22) 0 dX12_toldWrong_21 rfl rfl rfl ?_
      refine am_get (pc' := 25) (v := .ref 55) dX12_toldWrong_22 fl_X12_41 (sm_c45 S0 S) rfl rfl ?_
      refine am_iload_n (pc' := 26) 1 dX12_toldWrong_25 rfl rfl rfl ?_
      obtain ⟨hr3, hres⟩ := am_rg hres
      refine am_iald (pc' := 27) (f := (sm_sheetSort S)) dX12_toldWrong_26 (sm_c55 S0 S) hr3 rfl ?_
      refine am_iconst (pc' := 28) (v := (-1)) dX12_toldWrong_27 kc_m1 rfl ?_
      refine am_icmp_eq (pc' := 31) 41 dX12_toldWrong_28 rfl rfl (fun hc4 => ?_) (fun hc4 => ?_)
      · rw [if_pos hc4] at hres
        refine am_bipush (pc' := 43) (v := (-11)) dX12_toldWrong_41 kb_m11 rfl ?_
        obtain rfl := Option.some.inj hres
        exact am_iret dX12_toldWrong_43 rfl rfl rfl
      · rw [if_neg hc4] at hres
        refine am_aload_n (pc' := 32) 0 dX12_toldWrong_31 rfl rfl rfl ?_
        refine am_get (pc' := 35) (v := .ref 55) dX12_toldWrong_32 fl_X12_41 (sm_c45 S0 S) rfl rfl ?_
        refine am_iload_n (pc' := 36) 2 dX12_toldWrong_35 rfl rfl rfl ?_
        obtain ⟨hr5, hres⟩ := am_rg hres
        refine am_iald (pc' := 37) (f := (sm_sheetSort S)) dX12_toldWrong_36 (sm_c55 S0 S) hr5 rfl ?_
        refine am_iconst (pc' := 38) (v := (-1)) dX12_toldWrong_37 kc_m1 rfl ?_
        refine am_icmp_ne (pc' := 41) 44 dX12_toldWrong_38 rfl rfl (fun hc6 => ?_) (fun hc6 => ?_)
        · rw [if_neg hc6] at hres
          refine am_aload_n (pc' := 45) 0 dX12_toldWrong_44 rfl rfl rfl ?_
          refine am_iload_n (pc' := 46) 1 dX12_toldWrong_45 rfl rfl rfl ?_
          obtain ⟨q7, hq8, hres⟩ := am_bd_s hres
          refine am_cV (pc' := 49) (st' := [.int q7.1]) [] [.int a1] dX12_toldWrong_46 cs_X12_197 (tx_X12_reads S0 a1 S _ hq8) rfl rfl rfl (sm_c45 S0 S) rfl rfl rfl rfl rfl ?_
          refine am_if_ne (pc' := 52) 63 dX12_toldWrong_49 rfl rfl (fun hc9 => ?_) (fun hc9 => ?_)
          · rw [if_neg hc9] at hres
            refine am_bipush (pc' := 65) (v := (-2)) dX12_toldWrong_63 kb_m2 rfl ?_
            obtain rfl := Option.some.inj hres
            exact am_iret dX12_toldWrong_65 rfl rfl rfl
          · rw [if_pos hc9] at hres
            refine am_aload_n (pc' := 53) 0 dX12_toldWrong_52 rfl rfl rfl ?_
            refine am_get (pc' := 56) (v := .ref 56) dX12_toldWrong_53 fl_X12_44 (sm_c45 S0 q7.2) rfl rfl ?_
            refine am_iload_n (pc' := 57) 2 dX12_toldWrong_56 rfl rfl rfl ?_
            obtain ⟨hr10, hres⟩ := am_rg hres
            refine am_iald (pc' := 58) (f := (sm_sheetSize q7.2)) dX12_toldWrong_57 (sm_c56 S0 q7.2) hr10 rfl ?_
            refine am_bipush (pc' := 60) (v := 12) dX12_toldWrong_58 kb_12 rfl ?_
            refine am_icmp_le (pc' := 63) 66 dX12_toldWrong_60 rfl rfl (fun hc11 => ?_) (fun hc11 => ?_)
            · rw [if_pos hc11] at hres
              refine am_aload_n (pc' := 67) 0 dX12_toldWrong_66 rfl rfl rfl ?_
              refine am_iload_n (pc' := 68) 3 dX12_toldWrong_67 rfl rfl rfl ?_
              refine am_cV (pc' := 71) (st' := [.int (fx_X12_isViewer a3 q7.2)]) [] [.int a3] dX12_toldWrong_68 cs_X12_173 (tx_X12_isViewer S0 a3 q7.2 _ rfl) rfl rfl rfl (sm_c45 S0 q7.2) rfl rfl rfl rfl rfl ?_
              refine am_if_eq (pc' := 74) 78 dX12_toldWrong_71 rfl rfl (fun hc12 => ?_) (fun hc12 => ?_)
              · rw [if_pos hc12] at hres
                refine am_bipush (pc' := 80) (v := (-5)) dX12_toldWrong_78 kb_m5 rfl ?_
                obtain rfl := Option.some.inj hres
                exact am_iret dX12_toldWrong_80 rfl rfl rfl
              · rw [if_neg hc12] at hres
                refine am_iconst (pc' := 75) (v := 0) dX12_toldWrong_74 kc_0 rfl ?_
                refine am_goto 80 dX12_toldWrong_75 rfl ?_
                obtain rfl := Option.some.inj hres
                exact am_iret dX12_toldWrong_80 rfl rfl rfl
            · rw [if_neg hc11] at hres
              refine am_bipush (pc' := 65) (v := (-2)) dX12_toldWrong_63 kb_m2 rfl ?_
              obtain rfl := Option.some.inj hres
              exact am_iret dX12_toldWrong_65 rfl rfl rfl
        · rw [if_pos hc6] at hres
          refine am_bipush (pc' := 43) (v := (-11)) dX12_toldWrong_41 kb_m11 rfl ?_
          obtain rfl := Option.some.inj hres
          exact am_iret dX12_toldWrong_43 rfl rfl rfl
    · rw [if_pos hc2] at hres
      refine am_bipush (pc' := 20) (v := (-2)) dX12_toldWrong_18 kb_m2 rfl ?_
      obtain rfl := Option.some.inj hres
      exact am_iret dX12_toldWrong_20 rfl rfl rfl
set_option maxRecDepth 100000 in
set_option maxHeartbeats 4000000 in
theorem wx_X12_unlike_11 (S0 : sx_T) : ∀ (n : Nat) (v1 : Int32) (v2 : Int32) (v3 : Int32) (v4 : Int32) (v5 : Int32) (S : sm_T) (res : Int32 × sm_T) (hres : fx_X12_unlike_11 n v1 v2 v3 v4 v5 S = some res), am_G mX12_unlike (none, 6, 0, 0, (some (.int res.1)), (sx_w S0 (sm_w res.2))) (0, 0) 11 [some (.ref 45), some (.int v1), some (.int v2), some (.int v3), some (.int v4), some (.int v5)] [] (sx_w S0 (sm_w S)) := by
  intro n
  induction n with
  | zero =>
    intro v1 v2 v3 v4 v5 S res hres
    cases hres
  | succ n ih =>
    intro v1 v2 v3 v4 v5 S res hres
    rw [fx_X12_unlike_11] at hres
    refine am_iload (pc' := 13) dX12_unlike_11 rfl rfl ?_
    refine am_aload_n (pc' := 14) 0 dX12_unlike_13 rfl rfl rfl ?_
    refine am_get (pc' := 17) (v := .ref 56) dX12_unlike_14 fl_X12_44 (sm_c45 S0 S) rfl rfl ?_
    refine am_iload_n (pc' := 18) 1 dX12_unlike_17 rfl rfl rfl ?_
    obtain ⟨hr1, hres⟩ := am_rg hres
    refine am_iald (pc' := 19) (f := (sm_sheetSize S)) dX12_unlike_18 (sm_c56 S0 S) hr1 rfl ?_
    refine am_icmp_ge (pc' := 22) 69 dX12_unlike_19 rfl rfl (fun hc2 => ?_) (fun hc2 => ?_)
    · rw [if_pos hc2] at hres
      refine am_aload_n (pc' := 70) 0 dX12_unlike_69 rfl rfl rfl ?_
      refine am_iload_n (pc' := 71) 3 dX12_unlike_70 rfl rfl rfl ?_
      refine am_put (pc' := 74) (ws' := (sx_w S0 (sm_w (um_hour S v3)))) (v := .int v3) dX12_unlike_71 fp_X12_22 (sm_c45 S0 S) (fun _ => ⟨rfl, rfl⟩) (Nat.le_of_ble_eq_true rfl) (sm_p_hour S0 S _) rfl ?_
      refine am_iload (pc' := 76) dX12_unlike_74 rfl rfl ?_
      obtain rfl := Option.some.inj hres
      exact am_iret dX12_unlike_76 rfl rfl rfl
    · rw [if_neg hc2] at hres
      refine am_iload (pc' := 24) dX12_unlike_22 rfl rfl ?_
      refine am_iconst (pc' := 25) (v := (-1)) dX12_unlike_24 kc_m1 rfl ?_
      refine am_icmp_ne (pc' := 28) 69 dX12_unlike_25 rfl rfl (fun hc3 => ?_) (fun hc3 => ?_)
      · rw [if_neg hc3] at hres
        refine am_aload_n (pc' := 70) 0 dX12_unlike_69 rfl rfl rfl ?_
        refine am_iload_n (pc' := 71) 3 dX12_unlike_70 rfl rfl rfl ?_
        refine am_put (pc' := 74) (ws' := (sx_w S0 (sm_w (um_hour S v3)))) (v := .int v3) dX12_unlike_71 fp_X12_22 (sm_c45 S0 S) (fun _ => ⟨rfl, rfl⟩) (Nat.le_of_ble_eq_true rfl) (sm_p_hour S0 S _) rfl ?_
        refine am_iload (pc' := 76) dX12_unlike_74 rfl rfl ?_
        obtain rfl := Option.some.inj hres
        exact am_iret dX12_unlike_76 rfl rfl rfl
      · rw [if_pos hc3] at hres
        refine am_aload_n (pc' := 29) 0 dX12_unlike_28 rfl rfl rfl ?_
        refine am_iload (pc' := 31) dX12_unlike_29 rfl rfl ?_
        refine am_put (pc' := 34) (ws' := (sx_w S0 (sm_w (um_hour S v5)))) (v := .int v5) dX12_unlike_31 fp_X12_22 (sm_c45 S0 S) (fun _ => ⟨rfl, rfl⟩) (Nat.le_of_ble_eq_true rfl) (sm_p_hour S0 S _) rfl ?_
        refine am_aload_n (pc' := 35) 0 dX12_unlike_34 rfl rfl rfl ?_
        refine am_get (pc' := 38) (v := .ref 57) dX12_unlike_35 fl_X12_47 (sm_c45 S0 (um_hour S v5)) rfl rfl ?_
        refine am_bipush (pc' := 40) (v := 40) dX12_unlike_38 kb_40 rfl ?_
        refine am_iload_n (pc' := 41) 1 dX12_unlike_40 rfl rfl rfl ?_
        refine am_imul (pc' := 42) dX12_unlike_41 rfl ?_
        refine am_iload (pc' := 44) dX12_unlike_42 rfl rfl ?_
        refine am_iadd (pc' := 45) dX12_unlike_44 rfl ?_
        obtain ⟨hr4, hres⟩ := am_rg hres
        refine am_iald (pc' := 46) (f := (sm_cells S)) dX12_unlike_45 (sm_c57 S0 (um_hour S v5)) hr4 rfl ?_
        refine am_aload_n (pc' := 47) 0 dX12_unlike_46 rfl rfl rfl ?_
        refine am_iload_n (pc' := 48) 2 dX12_unlike_47 rfl rfl rfl ?_
        refine am_iconst (pc' := 49) (v := 1) dX12_unlike_48 kc_1 rfl ?_
        obtain ⟨q5, hq6, hres⟩ := am_bd_s hres
        refine am_cV (pc' := 52) (st' := [.int q5.1, .int ((sm_cells S) (((40 : Int32) * v1) + v5).toNatClampNeg)]) [.int ((sm_cells S) (((40 : Int32) * v1) + v5).toNatClampNeg)] [.int v2, .int (1 : Int32)] dX12_unlike_49 cs_X12_202 (tx_X12_offerOf S0 v2 (1 : Int32) (um_hour S v5) _ hq6) rfl rfl rfl (sm_c45 S0 (um_hour S v5)) rfl rfl rfl rfl rfl ?_
        refine am_icmp_ne (pc' := 55) 59 dX12_unlike_52 rfl rfl (fun hc7 => ?_) (fun hc7 => ?_)
        · rw [if_neg hc7] at hres
          refine am_iload (pc' := 61) dX12_unlike_59 rfl rfl ?_
          refine am_istore (pc' := 63) (ls' := [some (.ref 45), some (.int v1), some (.int v2), some (.int v3), some (.int v5), some (.int v5)]) dX12_unlike_61 (Nat.le_of_ble_eq_true rfl) rfl rfl rfl ?_
          refine am_iinc (pc' := 66) (ls' := [some (.ref 45), some (.int v1), some (.int v2), some (.int v3), some (.int v5), some (.int (v5 + (1 : Int32)))]) dX12_unlike_63 rfl (show v5 + Int32.ofInt 1 = (v5 + (1 : Int32)) from congrArg (fun z => v5 + z) kc_1) (Nat.le_of_ble_eq_true rfl) rfl rfl rfl ?_
          refine am_goto 11 dX12_unlike_66 rfl ?_
          exact ih _ _ _ _ _ _ _ hres
        · rw [if_pos hc7] at hres
          refine am_iconst (pc' := 56) (v := (-1)) dX12_unlike_55 kc_m1 rfl ?_
          refine am_goto 61 dX12_unlike_56 rfl ?_
          refine am_istore (pc' := 63) (ls' := [some (.ref 45), some (.int v1), some (.int v2), some (.int v3), some (.int (-1 : Int32)), some (.int v5)]) dX12_unlike_61 (Nat.le_of_ble_eq_true rfl) rfl rfl rfl ?_
          refine am_iinc (pc' := 66) (ls' := [some (.ref 45), some (.int v1), some (.int v2), some (.int v3), some (.int (-1 : Int32)), some (.int (v5 + (1 : Int32)))]) dX12_unlike_63 rfl (show v5 + Int32.ofInt 1 = (v5 + (1 : Int32)) from congrArg (fun z => v5 + z) kc_1) (Nat.le_of_ble_eq_true rfl) rfl rfl rfl ?_
          refine am_goto 11 dX12_unlike_66 rfl ?_
          exact ih _ _ _ _ _ _ _ hres

set_option maxRecDepth 100000 in
set_option maxHeartbeats 4000000 in
theorem tx_X12_unlike (S0 : sx_T) (a1 : Int32) (a2 : Int32) (S : sm_T) (res : Int32 × sm_T) (hres : fx_X12_unlike a1 a2 S = some res) : am_T mX12_unlike 6 0 0 [.ref 45, .int a1, .int a2] (sx_w S0 (sm_w S)) (some (.int res.1)) (sx_w S0 (sm_w res.2)) := by
  refine am_meth (ls := [some (.ref 45), some (.int a1), some (.int a2), none, none, none]) (by decide +kernel) rfl (Nat.le_of_ble_eq_true rfl) (sm_len _ _ _ _) ?_
  rw [fx_X12_unlike] at hres
  refine am_aload_n (pc' := 1) 0 dX12_unlike_0 rfl rfl rfl ?_
  refine am_get (pc' := 4) (v := .int (sm_hour S)) dX12_unlike_1 fl_X12_22 (sm_c45 S0 S) rfl rfl ?_
  refine am_istore_n (pc' := 5) (ls' := [some (.ref 45), some (.int a1), some (.int a2), some (.int (sm_hour S)), none, none]) 3 dX12_unlike_4 rfl (Nat.le_of_ble_eq_true rfl) rfl rfl rfl ?_
  refine am_iconst (pc' := 6) (v := (-1)) dX12_unlike_5 kc_m1 rfl ?_
  refine am_istore (pc' := 8) (ls' := [some (.ref 45), some (.int a1), some (.int a2), some (.int (sm_hour S)), some (.int (-1 : Int32)), none]) dX12_unlike_6 (Nat.le_of_ble_eq_true rfl) rfl rfl rfl ?_
  refine am_iconst (pc' := 9) (v := 0) dX12_unlike_8 kc_0 rfl ?_
  refine am_istore (pc' := 11) (ls' := [some (.ref 45), some (.int a1), some (.int a2), some (.int (sm_hour S)), some (.int (-1 : Int32)), some (.int (0 : Int32))]) dX12_unlike_9 (Nat.le_of_ble_eq_true rfl) rfl rfl rfl ?_
  exact wx_X12_unlike_11 S0 am_fu _ _ _ _ _ _ _ hres
set_option maxRecDepth 100000 in
set_option maxHeartbeats 4000000 in
theorem tx_X12_judge (S0 : sx_T) (a1 : Int32) (a2 : Int32) (a3 : Int32) (S : sm_T) (res : Int32 × sm_T) (hres : fx_X12_judge a1 a2 a3 S = some res) : am_T mX12_judge 7 0 0 [.ref 45, .int a1, .int a2, .int a3] (sx_w S0 (sm_w S)) (some (.int res.1)) (sx_w S0 (sm_w res.2)) := by
  refine am_meth (ls := [some (.ref 45), some (.int a1), some (.int a2), some (.int a3), none]) (by decide +kernel) rfl (Nat.le_of_ble_eq_true rfl) (sm_len _ _ _ _) ?_
  rw [fx_X12_judge] at hres
  refine am_aload_n (pc' := 1) 0 dX12_judge_0 rfl rfl rfl ?_
  refine am_iload_n (pc' := 2) 1 dX12_judge_1 rfl rfl rfl ?_
  refine am_iload_n (pc' := 3) 2 dX12_judge_2 rfl rfl rfl ?_
  refine am_iload_n (pc' := 4) 3 dX12_judge_3 rfl rfl rfl ?_
  obtain ⟨q1, hq2, hres⟩ := am_bd_s hres
  refine am_cV (pc' := 7) (st' := [.int q1.1]) [] [.int a1, .int a2, .int a3] dX12_judge_4 cs_X12_245 (tx_X12_toldWrong S0 a1 a2 a3 S _ hq2) rfl rfl rfl (sm_c45 S0 S) rfl rfl rfl rfl rfl ?_
  refine am_istore (pc' := 9) (ls' := [some (.ref 45), some (.int a1), some (.int a2), some (.int a3), some (.int q1.1)]) dX12_judge_7 (Nat.le_of_ble_eq_true rfl) rfl rfl rfl ?_
  refine am_iload (pc' := 11) dX12_judge_9 rfl rfl ?_
  refine am_if_ne (pc' := 14) 23 dX12_judge_11 rfl rfl (fun hc3 => ?_) (fun hc3 => ?_)
  · rw [if_neg hc3] at hres
    refine am_iload (pc' := 25) dX12_judge_23 rfl rfl ?_
    obtain rfl := Option.some.inj hres
    exact am_iret dX12_judge_25 rfl rfl rfl
  · rw [if_pos hc3] at hres
    refine am_aload_n (pc' := 15) 0 dX12_judge_14 rfl rfl rfl ?_
    refine am_iload_n (pc' := 16) 2 dX12_judge_15 rfl rfl rfl ?_
    refine am_iload_n (pc' := 17) 3 dX12_judge_16 rfl rfl rfl ?_
    obtain ⟨q4, hq5, hres⟩ := am_bd_s hres
    refine am_cV (pc' := 20) (st' := [.int q4.1]) [] [.int a2, .int a3] dX12_judge_17 cs_X12_248 (tx_X12_unlike S0 a2 a3 q1.2 _ hq5) rfl rfl rfl (sm_c45 S0 q1.2) rfl rfl rfl rfl rfl ?_
    refine am_goto 25 dX12_judge_20 rfl ?_
    obtain rfl := Option.some.inj hres
    exact am_iret dX12_judge_25 rfl rfl rfl
set_option maxRecDepth 100000 in
set_option maxHeartbeats 4000000 in
theorem wx_X12_kinds_105 (S0 : sx_T) (k52 : Int32 → Int32 → Int32 → Int32 → Int32 → Int32 → Int32 → sm_T → Option (Int32 × sm_T)) (hk52 : ∀ (v2 : Int32) (v3 : Int32) (v4 : Int32) (v6 : Int32) (v7 : Int32) (v8 : Int32) (v9 : Int32) (S : sm_T) (res : Int32 × sm_T), k52 v2 v3 v4 v6 v7 v8 v9 S = some res → am_G mX12_kinds (none, 7, 0, 0, (some (.int res.1)), (sx_w S0 (sm_w res.2))) (0, 0) 52 [some (.ref 45), none, some (.int v2), some (.int v3), some (.int v4), none, some (.int v6), some (.int v7), some (.int v8), some (.int v9)] [] (sx_w S0 (sm_w S))) : ∀ (v2 : Int32) (v3 : Int32) (v4 : Int32) (v6 : Int32) (v7 : Int32) (v8 : Int32) (v9 : Int32) (w1 : Int32) (w2 : Int32) (S : sm_T) (res : Int32 × sm_T) (hres : fx_X12_kinds_105 k52 v2 v3 v4 v6 v7 v8 v9 w1 w2 S = some res), am_G mX12_kinds (none, 7, 0, 0, (some (.int res.1)), (sx_w S0 (sm_w res.2))) (0, 0) 105 [some (.ref 45), none, some (.int v2), some (.int v3), some (.int v4), none, some (.int v6), some (.int v7), some (.int v8), some (.int v9)] [.int w2, .int w1, .ref 47] (sx_w S0 (sm_w S)) := by
  intro v2 v3 v4 v6 v7 v8 v9 w1 w2 S res hres
  rw [fx_X12_kinds_105] at hres
  obtain ⟨hr14, hres⟩ := am_rg hres
  refine am_iast (pc' := 106) (f := (sm_moreOf S)) (ws' := (sx_w S0 (sm_w (um_moreOf S (upd (sm_moreOf S) w1.toNatClampNeg w2))))) dX12_kinds_105 (sm_c47 S0 S) hr14 (sm_p_moreOf S0 S _) rfl ?_
  refine am_iload (pc' := 108) dX12_kinds_106 rfl rfl ?_
  refine am_aload_n (pc' := 109) 0 dX12_kinds_108 rfl rfl rfl ?_
  refine am_iload_n (pc' := 110) 2 dX12_kinds_109 rfl rfl rfl ?_
  refine am_iload_n (pc' := 111) 3 dX12_kinds_110 rfl rfl rfl ?_
  obtain ⟨q15, hq16, hres⟩ := am_bd_s hres
  refine am_cV (pc' := 114) (st' := [.int q15.1, .int v8]) [.int v8] [.int v2, .int v3] dX12_kinds_111 cs_X12_248 (tx_X12_unlike S0 v2 v3 (um_moreOf S (upd (sm_moreOf S) w1.toNatClampNeg w2)) _ hq16) rfl rfl rfl (sm_c45 S0 (um_moreOf S (upd (sm_moreOf S) w1.toNatClampNeg w2))) rfl rfl rfl rfl rfl ?_
  refine am_iconst (pc' := 115) (v := (-1)) dX12_kinds_114 kc_m1 rfl ?_
  refine am_icmp_ne (pc' := 118) 125 dX12_kinds_115 rfl rfl (fun hc17 => ?_) (fun hc17 => ?_)
  · rw [if_neg hc17] at hres
    refine am_iconst (pc' := 126) (v := 0) dX12_kinds_125 kc_0 rfl ?_
    refine am_ior (pc' := 127) dX12_kinds_126 rfl ?_
    refine am_istore (pc' := 129) (ls' := [some (.ref 45), none, some (.int v2), some (.int v3), some (.int v4), none, some (.int v6), some (.int v7), some (.int (v8 ||| (0 : Int32))), some (.int v9)]) dX12_kinds_127 (Nat.le_of_ble_eq_true rfl) rfl rfl rfl ?_
    refine am_iinc (pc' := 132) (ls' := [some (.ref 45), none, some (.int v2), some (.int v3), some (.int v4), none, some (.int v6), some (.int v7), some (.int (v8 ||| (0 : Int32))), some (.int (v9 + (1 : Int32)))]) dX12_kinds_129 rfl (show v9 + Int32.ofInt 1 = (v9 + (1 : Int32)) from congrArg (fun z => v9 + z) kc_1) (Nat.le_of_ble_eq_true rfl) rfl rfl rfl ?_
    refine am_goto 52 dX12_kinds_132 rfl ?_
    exact hk52 _ _ _ _ _ _ _ _ _ hres
  · rw [if_pos hc17] at hres
    refine am_iconst (pc' := 119) (v := 1) dX12_kinds_118 kc_1 rfl ?_
    refine am_iload (pc' := 121) dX12_kinds_119 rfl rfl ?_
    refine am_ishl (pc' := 122) dX12_kinds_121 rfl ?_
    refine am_goto 126 dX12_kinds_122 rfl ?_
    refine am_ior (pc' := 127) dX12_kinds_126 rfl ?_
    refine am_istore (pc' := 129) (ls' := [some (.ref 45), none, some (.int v2), some (.int v3), some (.int v4), none, some (.int v6), some (.int v7), some (.int (v8 ||| ((1 : Int32) <<< (v9 &&& 31)))), some (.int v9)]) dX12_kinds_127 (Nat.le_of_ble_eq_true rfl) rfl rfl rfl ?_
    refine am_iinc (pc' := 132) (ls' := [some (.ref 45), none, some (.int v2), some (.int v3), some (.int v4), none, some (.int v6), some (.int v7), some (.int (v8 ||| ((1 : Int32) <<< (v9 &&& 31)))), some (.int (v9 + (1 : Int32)))]) dX12_kinds_129 rfl (show v9 + Int32.ofInt 1 = (v9 + (1 : Int32)) from congrArg (fun z => v9 + z) kc_1) (Nat.le_of_ble_eq_true rfl) rfl rfl rfl ?_
    refine am_goto 52 dX12_kinds_132 rfl ?_
    exact hk52 _ _ _ _ _ _ _ _ _ hres

set_option maxRecDepth 100000 in
set_option maxHeartbeats 4000000 in
theorem wx_X12_kinds_86 (S0 : sx_T) (k52 : Int32 → Int32 → Int32 → Int32 → Int32 → Int32 → Int32 → sm_T → Option (Int32 × sm_T)) (hk52 : ∀ (v2 : Int32) (v3 : Int32) (v4 : Int32) (v6 : Int32) (v7 : Int32) (v8 : Int32) (v9 : Int32) (S : sm_T) (res : Int32 × sm_T), k52 v2 v3 v4 v6 v7 v8 v9 S = some res → am_G mX12_kinds (none, 7, 0, 0, (some (.int res.1)), (sx_w S0 (sm_w res.2))) (0, 0) 52 [some (.ref 45), none, some (.int v2), some (.int v3), some (.int v4), none, some (.int v6), some (.int v7), some (.int v8), some (.int v9)] [] (sx_w S0 (sm_w S))) : ∀ (v2 : Int32) (v3 : Int32) (v4 : Int32) (v6 : Int32) (v7 : Int32) (v8 : Int32) (v9 : Int32) (w1 : Int32) (w2 : Int32) (S : sm_T) (res : Int32 × sm_T) (hres : fx_X12_kinds_86 k52 v2 v3 v4 v6 v7 v8 v9 w1 w2 S = some res), am_G mX12_kinds (none, 7, 0, 0, (some (.int res.1)), (sx_w S0 (sm_w res.2))) (0, 0) 86 [some (.ref 45), none, some (.int v2), some (.int v3), some (.int v4), none, some (.int v6), some (.int v7), some (.int v8), some (.int v9)] [.int w2, .int w1, .ref 46] (sx_w S0 (sm_w S)) := by
  intro v2 v3 v4 v6 v7 v8 v9 w1 w2 S res hres
  rw [fx_X12_kinds_86] at hres
  obtain ⟨hr12, hres⟩ := am_rg hres
  refine am_iast (pc' := 87) (f := (sm_kind S)) (ws' := (sx_w S0 (sm_w (um_kind S (upd (sm_kind S) w1.toNatClampNeg w2))))) dX12_kinds_86 (sm_c46 S0 S) hr12 (sm_p_kind S0 S _) rfl ?_
  refine am_aload_n (pc' := 88) 0 dX12_kinds_87 rfl rfl rfl ?_
  refine am_get (pc' := 91) (v := .ref 47) dX12_kinds_88 fl_X12_13 (sm_c45 S0 (um_kind S (upd (sm_kind S) w1.toNatClampNeg w2))) rfl rfl ?_
  refine am_iload_n (pc' := 92) 3 dX12_kinds_91 rfl rfl rfl ?_
  refine am_iload (pc' := 94) dX12_kinds_92 rfl rfl ?_
  refine am_iconst (pc' := 95) (v := 1) dX12_kinds_94 kc_1 rfl ?_
  refine am_icmp_ne (pc' := 98) 103 dX12_kinds_95 rfl rfl (fun hc13 => ?_) (fun hc13 => ?_)
  · rw [if_neg hc13] at hres
    refine am_iload (pc' := 105) dX12_kinds_103 rfl rfl ?_
    exact wx_X12_kinds_105 S0 _ hk52 _ _ _ _ _ _ _ _ _ _ _ hres
  · rw [if_pos hc13] at hres
    refine am_iload (pc' := 100) dX12_kinds_98 rfl rfl ?_
    refine am_goto 105 dX12_kinds_100 rfl ?_
    exact wx_X12_kinds_105 S0 _ hk52 _ _ _ _ _ _ _ _ _ _ _ hres

set_option maxRecDepth 100000 in
set_option maxHeartbeats 4000000 in
theorem wx_X12_kinds_66 (S0 : sx_T) (k52 : Int32 → Int32 → Int32 → Int32 → Int32 → Int32 → Int32 → sm_T → Option (Int32 × sm_T)) (hk52 : ∀ (v2 : Int32) (v3 : Int32) (v4 : Int32) (v6 : Int32) (v7 : Int32) (v8 : Int32) (v9 : Int32) (S : sm_T) (res : Int32 × sm_T), k52 v2 v3 v4 v6 v7 v8 v9 S = some res → am_G mX12_kinds (none, 7, 0, 0, (some (.int res.1)), (sx_w S0 (sm_w res.2))) (0, 0) 52 [some (.ref 45), none, some (.int v2), some (.int v3), some (.int v4), none, some (.int v6), some (.int v7), some (.int v8), some (.int v9)] [] (sx_w S0 (sm_w S))) : ∀ (v2 : Int32) (v3 : Int32) (v4 : Int32) (v6 : Int32) (v7 : Int32) (v8 : Int32) (v9 : Int32) (w0 : Int32) (w1 : Int32) (S : sm_T) (res : Int32 × sm_T) (hres : fx_X12_kinds_66 k52 v2 v3 v4 v6 v7 v8 v9 w0 w1 S = some res), am_G mX12_kinds (none, 7, 0, 0, (some (.int res.1)), (sx_w S0 (sm_w res.2))) (0, 0) 66 [some (.ref 45), none, some (.int v2), some (.int v3), some (.int v4), none, some (.int v6), some (.int v7), some (.int v8), some (.int v9)] [.int w1, .int w0] (sx_w S0 (sm_w S)) := by
  intro v2 v3 v4 v6 v7 v8 v9 w0 w1 S res hres
  rw [fx_X12_kinds_66] at hres
  refine am_icmp_ge (pc' := 69) 135 dX12_kinds_66 rfl rfl (fun hc8 => ?_) (fun hc8 => ?_)
  · rw [if_pos hc8] at hres
    refine am_aload_n (pc' := 136) 0 dX12_kinds_135 rfl rfl rfl ?_
    refine am_get (pc' := 139) (v := .ref 46) dX12_kinds_136 fl_X12_7 (sm_c45 S0 S) rfl rfl ?_
    refine am_iload_n (pc' := 140) 3 dX12_kinds_139 rfl rfl rfl ?_
    refine am_iload (pc' := 142) dX12_kinds_140 rfl rfl ?_
    obtain ⟨hr9, hres⟩ := am_rg hres
    refine am_iast (pc' := 143) (f := (sm_kind S)) (ws' := (sx_w S0 (sm_w (um_kind S (upd (sm_kind S) v3.toNatClampNeg v6))))) dX12_kinds_142 (sm_c46 S0 S) hr9 (sm_p_kind S0 S _) rfl ?_
    refine am_aload_n (pc' := 144) 0 dX12_kinds_143 rfl rfl rfl ?_
    refine am_get (pc' := 147) (v := .ref 47) dX12_kinds_144 fl_X12_13 (sm_c45 S0 (um_kind S (upd (sm_kind S) v3.toNatClampNeg v6))) rfl rfl ?_
    refine am_iload_n (pc' := 148) 3 dX12_kinds_147 rfl rfl rfl ?_
    refine am_iload (pc' := 150) dX12_kinds_148 rfl rfl ?_
    obtain ⟨hr10, hres⟩ := am_rg hres
    refine am_iast (pc' := 151) (f := (sm_moreOf S)) (ws' := (sx_w S0 (sm_w (um_moreOf (um_kind S (upd (sm_kind S) v3.toNatClampNeg v6)) (upd (sm_moreOf S) v3.toNatClampNeg v7))))) dX12_kinds_150 (sm_c47 S0 (um_kind S (upd (sm_kind S) v3.toNatClampNeg v6))) hr10 (sm_p_moreOf S0 (um_kind S (upd (sm_kind S) v3.toNatClampNeg v6)) _) rfl ?_
    refine am_iload (pc' := 153) dX12_kinds_151 rfl rfl ?_
    obtain rfl := Option.some.inj hres
    exact am_iret dX12_kinds_153 rfl rfl rfl
  · rw [if_neg hc8] at hres
    refine am_aload_n (pc' := 70) 0 dX12_kinds_69 rfl rfl rfl ?_
    refine am_get (pc' := 73) (v := .ref 46) dX12_kinds_70 fl_X12_7 (sm_c45 S0 S) rfl rfl ?_
    refine am_iload_n (pc' := 74) 3 dX12_kinds_73 rfl rfl rfl ?_
    refine am_iload (pc' := 76) dX12_kinds_74 rfl rfl ?_
    refine am_if_ne (pc' := 79) 84 dX12_kinds_76 rfl rfl (fun hc11 => ?_) (fun hc11 => ?_)
    · rw [if_neg hc11] at hres
      refine am_iload (pc' := 86) dX12_kinds_84 rfl rfl ?_
      exact wx_X12_kinds_86 S0 _ hk52 _ _ _ _ _ _ _ _ _ _ _ hres
    · rw [if_pos hc11] at hres
      refine am_iload (pc' := 81) dX12_kinds_79 rfl rfl ?_
      refine am_goto 86 dX12_kinds_81 rfl ?_
      exact wx_X12_kinds_86 S0 _ hk52 _ _ _ _ _ _ _ _ _ _ _ hres

set_option maxRecDepth 100000 in
set_option maxHeartbeats 4000000 in
theorem wx_X12_kinds_52 (S0 : sx_T) : ∀ (n : Nat) (v2 : Int32) (v3 : Int32) (v4 : Int32) (v6 : Int32) (v7 : Int32) (v8 : Int32) (v9 : Int32) (S : sm_T) (res : Int32 × sm_T) (hres : fx_X12_kinds_52 n v2 v3 v4 v6 v7 v8 v9 S = some res), am_G mX12_kinds (none, 7, 0, 0, (some (.int res.1)), (sx_w S0 (sm_w res.2))) (0, 0) 52 [some (.ref 45), none, some (.int v2), some (.int v3), some (.int v4), none, some (.int v6), some (.int v7), some (.int v8), some (.int v9)] [] (sx_w S0 (sm_w S)) := by
  intro n
  induction n with
  | zero =>
    intro v2 v3 v4 v6 v7 v8 v9 S res hres
    cases hres
  | succ n ih =>
    intro v2 v3 v4 v6 v7 v8 v9 S res hres
    rw [fx_X12_kinds_52] at hres
    refine am_iload (pc' := 54) dX12_kinds_52 rfl rfl ?_
    refine am_iload (pc' := 56) dX12_kinds_54 rfl rfl ?_
    refine am_if_ne (pc' := 59) 64 dX12_kinds_56 rfl rfl (fun hc7 => ?_) (fun hc7 => ?_)
    · rw [if_neg hc7] at hres
      refine am_bipush (pc' := 66) (v := 10) dX12_kinds_64 kb_10 rfl ?_
      exact wx_X12_kinds_66 S0 _ (fun a0 a1 a2 a3 a4 a5 a6 a7 => ih a0 a1 a2 a3 a4 a5 a6 a7) _ _ _ _ _ _ _ _ _ _ _ hres
    · rw [if_pos hc7] at hres
      refine am_bipush (pc' := 61) (v := 6) dX12_kinds_59 kb_6 rfl ?_
      refine am_goto 66 dX12_kinds_61 rfl ?_
      exact wx_X12_kinds_66 S0 _ (fun a0 a1 a2 a3 a4 a5 a6 a7 => ih a0 a1 a2 a3 a4 a5 a6 a7) _ _ _ _ _ _ _ _ _ _ _ hres

set_option maxRecDepth 100000 in
set_option maxHeartbeats 4000000 in
theorem tx_X12_kinds (S0 : sx_T) (a1 : Int32) (a2 : Int32) (a3 : Int32) (a4 : Int32) (S : sm_T) (res : Int32 × sm_T) (hres : fx_X12_kinds a1 a2 a3 a4 S = some res) : am_T mX12_kinds 7 0 0 [.ref 45, .int a1, .int a2, .int a3, .int a4] (sx_w S0 (sm_w S)) (some (.int res.1)) (sx_w S0 (sm_w res.2)) := by
  refine am_meth (ls := [some (.ref 45), some (.int a1), some (.int a2), some (.int a3), some (.int a4), none, none, none, none, none]) (by decide +kernel) rfl (Nat.le_of_ble_eq_true rfl) (sm_len _ _ _ _) ?_
  rw [fx_X12_kinds] at hres
  refine am_aload_n (pc' := 1) 0 dX12_kinds_0 rfl rfl rfl ?_
  refine am_iload_n (pc' := 2) 1 dX12_kinds_1 rfl rfl rfl ?_
  refine am_iload_n (pc' := 3) 2 dX12_kinds_2 rfl rfl rfl ?_
  refine am_iload_n (pc' := 4) 3 dX12_kinds_3 rfl rfl rfl ?_
  obtain ⟨q1, hq2, hres⟩ := am_bd_s hres
  refine am_cV (pc' := 7) (st' := [.int q1.1]) [] [.int a1, .int a2, .int a3] dX12_kinds_4 cs_X12_245 (tx_X12_toldWrong S0 a1 a2 a3 S _ hq2) rfl rfl rfl (sm_c45 S0 S) rfl rfl rfl rfl rfl ?_
  refine am_istore (pc' := 9) (ls' := [some (.ref 45), some (.int a1), some (.int a2), some (.int a3), some (.int a4), some (.int q1.1), none, none, none, none]) dX12_kinds_7 (Nat.le_of_ble_eq_true rfl) rfl rfl rfl ?_
  refine am_iload (pc' := 11) dX12_kinds_9 rfl rfl ?_
  refine am_if_eq (pc' := 14) 17 dX12_kinds_11 rfl rfl (fun hc3 => ?_) (fun hc3 => ?_)
  · rw [if_pos hc3] at hres
    refine am_iload (pc' := 19) dX12_kinds_17 rfl rfl ?_
    refine am_iconst (pc' := 20) (v := 0) dX12_kinds_19 kc_0 rfl ?_
    refine am_iconst (pc' := 21) (v := 1) dX12_kinds_20 kc_1 rfl ?_
    refine am_cS (pc' := 24) (st' := [.int (fx_X12_in a4 (0 : Int32) (1 : Int32))]) [] [.int a4, .int (0 : Int32), .int (1 : Int32)] dX12_kinds_21 cs_X12_90 (tx_X12_in (sx_w S0 (sm_w q1.2)) a4 (0 : Int32) (1 : Int32) _ rfl) rfl rfl rfl rfl rfl rfl ?_
    refine am_if_ne (pc' := 27) 30 dX12_kinds_24 rfl rfl (fun hc4 => ?_) (fun hc4 => ?_)
    · rw [if_neg hc4] at hres
      refine am_aload_n (pc' := 31) 0 dX12_kinds_30 rfl rfl rfl ?_
      refine am_get (pc' := 34) (v := .ref 46) dX12_kinds_31 fl_X12_7 (sm_c45 S0 q1.2) rfl rfl ?_
      refine am_iload_n (pc' := 35) 3 dX12_kinds_34 rfl rfl rfl ?_
      obtain ⟨hr5, hres⟩ := am_rg hres
      refine am_iald (pc' := 36) (f := (sm_kind q1.2)) dX12_kinds_35 (sm_c46 S0 q1.2) hr5 rfl ?_
      refine am_istore (pc' := 38) (ls' := [some (.ref 45), some (.int a1), some (.int a2), some (.int a3), some (.int a4), some (.int q1.1), some (.int ((sm_kind q1.2) a3.toNatClampNeg)), none, none, none]) dX12_kinds_36 (Nat.le_of_ble_eq_true rfl) rfl rfl rfl ?_
      refine am_aload_n (pc' := 39) 0 dX12_kinds_38 rfl rfl rfl ?_
      refine am_get (pc' := 42) (v := .ref 47) dX12_kinds_39 fl_X12_13 (sm_c45 S0 q1.2) rfl rfl ?_
      refine am_iload_n (pc' := 43) 3 dX12_kinds_42 rfl rfl rfl ?_
      obtain ⟨hr6, hres⟩ := am_rg hres
      refine am_iald (pc' := 44) (f := (sm_moreOf q1.2)) dX12_kinds_43 (sm_c47 S0 q1.2) hr6 rfl ?_
      refine am_istore (pc' := 46) (ls' := [some (.ref 45), some (.int a1), some (.int a2), some (.int a3), some (.int a4), some (.int q1.1), some (.int ((sm_kind q1.2) a3.toNatClampNeg)), some (.int ((sm_moreOf q1.2) a3.toNatClampNeg)), none, none]) dX12_kinds_44 (Nat.le_of_ble_eq_true rfl) rfl rfl rfl ?_
      refine am_iconst (pc' := 47) (v := 0) dX12_kinds_46 kc_0 rfl ?_
      refine am_istore (pc' := 49) (ls' := [some (.ref 45), some (.int a1), some (.int a2), some (.int a3), some (.int a4), some (.int q1.1), some (.int ((sm_kind q1.2) a3.toNatClampNeg)), some (.int ((sm_moreOf q1.2) a3.toNatClampNeg)), some (.int (0 : Int32)), none]) dX12_kinds_47 (Nat.le_of_ble_eq_true rfl) rfl rfl rfl ?_
      refine am_iconst (pc' := 50) (v := 0) dX12_kinds_49 kc_0 rfl ?_
      refine am_istore (pc' := 52) (ls' := [some (.ref 45), some (.int a1), some (.int a2), some (.int a3), some (.int a4), some (.int q1.1), some (.int ((sm_kind q1.2) a3.toNatClampNeg)), some (.int ((sm_moreOf q1.2) a3.toNatClampNeg)), some (.int (0 : Int32)), some (.int (0 : Int32))]) dX12_kinds_50 (Nat.le_of_ble_eq_true rfl) rfl rfl rfl ?_
      refine am_weak (ls' := [some (.ref 45), none, some (.int a2), some (.int a3), some (.int a4), none, some (.int ((sm_kind q1.2) a3.toNatClampNeg)), some (.int ((sm_moreOf q1.2) a3.toNatClampNeg)), some (.int (0 : Int32)), some (.int (0 : Int32))]) [false, true, false, false, false, true, false, false, false, false] rfl ?_
      exact wx_X12_kinds_52 S0 am_fu _ _ _ _ _ _ _ _ _ hres
    · rw [if_pos hc4] at hres
      refine am_bipush (pc' := 29) (v := (-7)) dX12_kinds_27 kb_m7 rfl ?_
      obtain rfl := Option.some.inj hres
      exact am_iret dX12_kinds_29 rfl rfl rfl
  · rw [if_neg hc3] at hres
    refine am_iload (pc' := 16) dX12_kinds_14 rfl rfl ?_
    obtain rfl := Option.some.inj hres
    exact am_iret dX12_kinds_16 rfl rfl rfl
set_option maxRecDepth 100000 in
set_option maxHeartbeats 4000000 in
theorem wx_X12_laws_29 (S0 : sx_T) : ∀ (n : Nat) (v2 : Int32) (v3 : Int32) (v5 : Int32) (v6 : Int32) (v7 : Int32) (S : sm_T) (res : Int32 × sm_T) (hres : fx_X12_laws_29 n v2 v3 v5 v6 v7 S = some res), am_G mX12_laws (none, 7, 0, 0, (some (.int res.1)), (sx_w S0 (sm_w res.2))) (0, 0) 29 [some (.ref 45), none, some (.int v2), some (.int v3), none, some (.int v5), some (.int v6), some (.int v7)] [] (sx_w S0 (sm_w S)) := by
  intro n
  induction n with
  | zero =>
    intro v2 v3 v5 v6 v7 S res hres
    cases hres
  | succ n ih =>
    intro v2 v3 v5 v6 v7 S res hres
    rw [fx_X12_laws_29] at hres
    refine am_iload (pc' := 31) dX12_laws_29 rfl rfl ?_
    refine am_aload_n (pc' := 32) 0 dX12_laws_31 rfl rfl rfl ?_
    refine am_get (pc' := 35) (v := .int (sm_texts S)) dX12_laws_32 fl_X12_94 (sm_c45 S0 S) rfl rfl ?_
    refine am_icmp_ge (pc' := 38) 73 dX12_laws_35 rfl rfl (fun hc4 => ?_) (fun hc4 => ?_)
    · rw [if_pos hc4] at hres
      refine am_aload_n (pc' := 74) 0 dX12_laws_73 rfl rfl rfl ?_
      refine am_iload (pc' := 76) dX12_laws_74 rfl rfl ?_
      refine am_put (pc' := 79) (ws' := (sx_w S0 (sm_w (um_rule S v5)))) (v := .int v5) dX12_laws_76 fp_X12_97 (sm_c45 S0 S) (fun _ => ⟨rfl, rfl⟩) (Nat.le_of_ble_eq_true rfl) (sm_p_rule S0 S _) rfl ?_
      refine am_iload (pc' := 81) dX12_laws_79 rfl rfl ?_
      obtain rfl := Option.some.inj hres
      exact am_iret dX12_laws_81 rfl rfl rfl
    · rw [if_neg hc4] at hres
      refine am_aload_n (pc' := 39) 0 dX12_laws_38 rfl rfl rfl ?_
      refine am_iload (pc' := 41) dX12_laws_39 rfl rfl ?_
      refine am_put (pc' := 44) (ws' := (sx_w S0 (sm_w (um_rule S v7)))) (v := .int v7) dX12_laws_41 fp_X12_97 (sm_c45 S0 S) (fun _ => ⟨rfl, rfl⟩) (Nat.le_of_ble_eq_true rfl) (sm_p_rule S0 S _) rfl ?_
      refine am_iload (pc' := 46) dX12_laws_44 rfl rfl ?_
      refine am_aload_n (pc' := 47) 0 dX12_laws_46 rfl rfl rfl ?_
      refine am_iload_n (pc' := 48) 2 dX12_laws_47 rfl rfl rfl ?_
      refine am_iload_n (pc' := 49) 3 dX12_laws_48 rfl rfl rfl ?_
      obtain ⟨q5, hq6, hres⟩ := am_bd_s hres
      refine am_cV (pc' := 52) (st' := [.int q5.1, .int v6]) [.int v6] [.int v2, .int v3] dX12_laws_49 cs_X12_248 (tx_X12_unlike S0 v2 v3 (um_rule S v7) _ hq6) rfl rfl rfl (sm_c45 S0 (um_rule S v7)) rfl rfl rfl rfl rfl ?_
      refine am_iconst (pc' := 53) (v := (-1)) dX12_laws_52 kc_m1 rfl ?_
      refine am_icmp_ne (pc' := 56) 63 dX12_laws_53 rfl rfl (fun hc7 => ?_) (fun hc7 => ?_)
      · rw [if_neg hc7] at hres
        refine am_iconst (pc' := 64) (v := 0) dX12_laws_63 kc_0 rfl ?_
        refine am_ior (pc' := 65) dX12_laws_64 rfl ?_
        refine am_istore (pc' := 67) (ls' := [some (.ref 45), none, some (.int v2), some (.int v3), none, some (.int v5), some (.int (v6 ||| (0 : Int32))), some (.int v7)]) dX12_laws_65 (Nat.le_of_ble_eq_true rfl) rfl rfl rfl ?_
        refine am_iinc (pc' := 70) (ls' := [some (.ref 45), none, some (.int v2), some (.int v3), none, some (.int v5), some (.int (v6 ||| (0 : Int32))), some (.int (v7 + (1 : Int32)))]) dX12_laws_67 rfl (show v7 + Int32.ofInt 1 = (v7 + (1 : Int32)) from congrArg (fun z => v7 + z) kc_1) (Nat.le_of_ble_eq_true rfl) rfl rfl rfl ?_
        refine am_goto 29 dX12_laws_70 rfl ?_
        exact ih _ _ _ _ _ _ _ hres
      · rw [if_pos hc7] at hres
        refine am_iconst (pc' := 57) (v := 1) dX12_laws_56 kc_1 rfl ?_
        refine am_iload (pc' := 59) dX12_laws_57 rfl rfl ?_
        refine am_ishl (pc' := 60) dX12_laws_59 rfl ?_
        refine am_goto 64 dX12_laws_60 rfl ?_
        refine am_ior (pc' := 65) dX12_laws_64 rfl ?_
        refine am_istore (pc' := 67) (ls' := [some (.ref 45), none, some (.int v2), some (.int v3), none, some (.int v5), some (.int (v6 ||| ((1 : Int32) <<< (v7 &&& 31)))), some (.int v7)]) dX12_laws_65 (Nat.le_of_ble_eq_true rfl) rfl rfl rfl ?_
        refine am_iinc (pc' := 70) (ls' := [some (.ref 45), none, some (.int v2), some (.int v3), none, some (.int v5), some (.int (v6 ||| ((1 : Int32) <<< (v7 &&& 31)))), some (.int (v7 + (1 : Int32)))]) dX12_laws_67 rfl (show v7 + Int32.ofInt 1 = (v7 + (1 : Int32)) from congrArg (fun z => v7 + z) kc_1) (Nat.le_of_ble_eq_true rfl) rfl rfl rfl ?_
        refine am_goto 29 dX12_laws_70 rfl ?_
        exact ih _ _ _ _ _ _ _ hres

set_option maxRecDepth 100000 in
set_option maxHeartbeats 4000000 in
theorem tx_X12_laws (S0 : sx_T) (a1 : Int32) (a2 : Int32) (a3 : Int32) (S : sm_T) (res : Int32 × sm_T) (hres : fx_X12_laws a1 a2 a3 S = some res) : am_T mX12_laws 7 0 0 [.ref 45, .int a1, .int a2, .int a3] (sx_w S0 (sm_w S)) (some (.int res.1)) (sx_w S0 (sm_w res.2)) := by
  refine am_meth (ls := [some (.ref 45), some (.int a1), some (.int a2), some (.int a3), none, none, none, none]) (by decide +kernel) rfl (Nat.le_of_ble_eq_true rfl) (sm_len _ _ _ _) ?_
  rw [fx_X12_laws] at hres
  refine am_aload_n (pc' := 1) 0 dX12_laws_0 rfl rfl rfl ?_
  refine am_iload_n (pc' := 2) 1 dX12_laws_1 rfl rfl rfl ?_
  refine am_iload_n (pc' := 3) 2 dX12_laws_2 rfl rfl rfl ?_
  refine am_iload_n (pc' := 4) 3 dX12_laws_3 rfl rfl rfl ?_
  obtain ⟨q1, hq2, hres⟩ := am_bd_s hres
  refine am_cV (pc' := 7) (st' := [.int q1.1]) [] [.int a1, .int a2, .int a3] dX12_laws_4 cs_X12_245 (tx_X12_toldWrong S0 a1 a2 a3 S _ hq2) rfl rfl rfl (sm_c45 S0 S) rfl rfl rfl rfl rfl ?_
  refine am_istore (pc' := 9) (ls' := [some (.ref 45), some (.int a1), some (.int a2), some (.int a3), some (.int q1.1), none, none, none]) dX12_laws_7 (Nat.le_of_ble_eq_true rfl) rfl rfl rfl ?_
  refine am_iload (pc' := 11) dX12_laws_9 rfl rfl ?_
  refine am_if_eq (pc' := 14) 17 dX12_laws_11 rfl rfl (fun hc3 => ?_) (fun hc3 => ?_)
  · rw [if_pos hc3] at hres
    refine am_aload_n (pc' := 18) 0 dX12_laws_17 rfl rfl rfl ?_
    refine am_get (pc' := 21) (v := .int (sm_rule q1.2)) dX12_laws_18 fl_X12_97 (sm_c45 S0 q1.2) rfl rfl ?_
    refine am_istore (pc' := 23) (ls' := [some (.ref 45), some (.int a1), some (.int a2), some (.int a3), some (.int q1.1), some (.int (sm_rule q1.2)), none, none]) dX12_laws_21 (Nat.le_of_ble_eq_true rfl) rfl rfl rfl ?_
    refine am_iconst (pc' := 24) (v := 0) dX12_laws_23 kc_0 rfl ?_
    refine am_istore (pc' := 26) (ls' := [some (.ref 45), some (.int a1), some (.int a2), some (.int a3), some (.int q1.1), some (.int (sm_rule q1.2)), some (.int (0 : Int32)), none]) dX12_laws_24 (Nat.le_of_ble_eq_true rfl) rfl rfl rfl ?_
    refine am_iconst (pc' := 27) (v := 0) dX12_laws_26 kc_0 rfl ?_
    refine am_istore (pc' := 29) (ls' := [some (.ref 45), some (.int a1), some (.int a2), some (.int a3), some (.int q1.1), some (.int (sm_rule q1.2)), some (.int (0 : Int32)), some (.int (0 : Int32))]) dX12_laws_27 (Nat.le_of_ble_eq_true rfl) rfl rfl rfl ?_
    refine am_weak (ls' := [some (.ref 45), none, some (.int a2), some (.int a3), none, some (.int (sm_rule q1.2)), some (.int (0 : Int32)), some (.int (0 : Int32))]) [false, true, false, false, true, false, false, false] rfl ?_
    exact wx_X12_laws_29 S0 am_fu _ _ _ _ _ _ _ hres
  · rw [if_neg hc3] at hres
    refine am_iload (pc' := 16) dX12_laws_14 rfl rfl ?_
    obtain rfl := Option.some.inj hres
    exact am_iret dX12_laws_16 rfl rfl rfl
set_option maxRecDepth 100000 in
set_option maxHeartbeats 4000000 in
theorem wx_X12_lowest_16 (ws : am_W) : ∀ (n : Nat) (v0 : Int64) (v2 : Int64) (v4 : Int32) (v5 : Int64) (v7 : Int64) (res : Int64) (hres : fx_X12_lowest_16 n v0 v2 v4 v5 v7 = some res), am_G mX12_lowest (none, 0, 0, 0, (some (.long res)), ws) (0, 0) 16 [some (.long v0), none, some (.long v2), none, some (.int v4), some (.long v5), none, some (.long v7), none, none, none] [] ws := by
  intro n
  induction n with
  | zero =>
    intro v0 v2 v4 v5 v7 res hres
    cases hres
  | succ n ih =>
    intro v0 v2 v4 v5 v7 res hres
    rw [fx_X12_lowest_16] at hres
    refine am_lload (pc' := 18) dX12_lowest_16 rfl rfl ?_
    refine am_lconst (pc' := 19) (v := 0) dX12_lowest_18 kl_0 rfl ?_
    refine am_lcmp (pc' := 20) dX12_lowest_19 rfl ?_
    refine am_if_eq (pc' := 23) 41 dX12_lowest_20 rfl rfl (fun hc2 => ?_) (fun hc2 => ?_)
    · rw [if_pos hc2] at hres
      refine am_iload (pc' := 43) dX12_lowest_41 rfl rfl ?_
      refine am_if_ne (pc' := 46) 50 dX12_lowest_43 rfl rfl (fun hc3 => ?_) (fun hc3 => ?_)
      · rw [if_neg hc3] at hres
        refine am_lload_n (pc' := 51) 2 dX12_lowest_50 rfl rfl rfl ?_
        refine am_lload (pc' := 53) dX12_lowest_51 rfl rfl ?_
        obtain ⟨hz4, hres⟩ := am_rg hres
        refine am_ldiv (pc' := 54) dX12_lowest_53 hz4 rfl ?_
        obtain rfl := Option.some.inj hres
        exact am_lret dX12_lowest_54 rfl rfl rfl
      · rw [if_pos hc3] at hres
        refine am_lload_n (pc' := 47) 0 dX12_lowest_46 rfl rfl rfl ?_
        refine am_goto 51 dX12_lowest_47 rfl ?_
        refine am_lload (pc' := 53) dX12_lowest_51 rfl rfl ?_
        obtain ⟨hz5, hres⟩ := am_rg hres
        refine am_ldiv (pc' := 54) dX12_lowest_53 hz5 rfl ?_
        obtain rfl := Option.some.inj hres
        exact am_lret dX12_lowest_54 rfl rfl rfl
    · rw [if_neg hc2] at hres
      refine am_lload (pc' := 25) dX12_lowest_23 rfl rfl ?_
      refine am_lload (pc' := 27) dX12_lowest_25 rfl rfl ?_
      obtain ⟨hz6, hres⟩ := am_rg hres
      refine am_lrem (pc' := 28) dX12_lowest_27 hz6 rfl ?_
      refine am_lstore (pc' := 30) (ls' := [some (.long v0), none, some (.long v2), none, some (.int v4), some (.long v5), none, some (.long v7), none, some (.long (v5 - v5 / v7 * v7)), none]) dX12_lowest_28 (Nat.le_of_ble_eq_true rfl) rfl rfl rfl ?_
      refine am_lload (pc' := 32) dX12_lowest_30 rfl rfl ?_
      refine am_lstore (pc' := 34) (ls' := [some (.long v0), none, some (.long v2), none, some (.int v4), some (.long v7), none, some (.long v7), none, some (.long (v5 - v5 / v7 * v7)), none]) dX12_lowest_32 (Nat.le_of_ble_eq_true rfl) rfl rfl rfl ?_
      refine am_lload (pc' := 36) dX12_lowest_34 rfl rfl ?_
      refine am_lstore (pc' := 38) (ls' := [some (.long v0), none, some (.long v2), none, some (.int v4), some (.long v7), none, some (.long (v5 - v5 / v7 * v7)), none, some (.long (v5 - v5 / v7 * v7)), none]) dX12_lowest_36 (Nat.le_of_ble_eq_true rfl) rfl rfl rfl ?_
      refine am_goto 16 dX12_lowest_38 rfl ?_
      refine am_weak (ls' := [some (.long v0), none, some (.long v2), none, some (.int v4), some (.long v7), none, some (.long (v5 - v5 / v7 * v7)), none, none, none]) [false, false, false, false, false, false, false, false, false, true, false] rfl ?_
      exact ih _ _ _ _ _ _ hres

set_option maxRecDepth 100000 in
set_option maxHeartbeats 4000000 in
theorem tx_X12_lowest (ws : am_W) (a1 : Int64) (a2 : Int64) (a3 : Int32) (res : Int64) (hres : fx_X12_lowest a1 a2 a3 = some res) : am_T mX12_lowest 0 0 0 [.long a1, .long a2, .int a3] ws (some (.long res)) ws := by
  refine am_meth (ls := [some (.long a1), none, some (.long a2), none, some (.int a3), none, none, none, none, none, none]) (by decide +kernel) rfl (Nat.le_of_ble_eq_true rfl) ⟨rfl, Or.inl rfl⟩ ?_
  rw [fx_X12_lowest] at hres
  refine am_lload_n (pc' := 1) 0 dX12_lowest_0 rfl rfl rfl ?_
  refine am_lconst (pc' := 2) (v := 0) dX12_lowest_1 kl_0 rfl ?_
  refine am_lcmp (pc' := 3) dX12_lowest_2 rfl ?_
  refine am_if_ne (pc' := 6) 10 dX12_lowest_3 rfl rfl (fun hc1 => ?_) (fun hc1 => ?_)
  · rw [if_neg hc1] at hres
    refine am_lload_n (pc' := 11) 0 dX12_lowest_10 rfl rfl rfl ?_
    refine am_lstore (pc' := 13) (ls' := [some (.long a1), none, some (.long a2), none, some (.int a3), some (.long a1), none, none, none, none, none]) dX12_lowest_11 (Nat.le_of_ble_eq_true rfl) rfl rfl rfl ?_
    refine am_lload_n (pc' := 14) 2 dX12_lowest_13 rfl rfl rfl ?_
    refine am_lstore (pc' := 16) (ls' := [some (.long a1), none, some (.long a2), none, some (.int a3), some (.long a1), none, some (.long a2), none, none, none]) dX12_lowest_14 (Nat.le_of_ble_eq_true rfl) rfl rfl rfl ?_
    exact wx_X12_lowest_16 ws am_fu _ _ _ _ _ _ hres
  · rw [if_pos hc1] at hres
    refine am_iload (pc' := 8) dX12_lowest_6 rfl rfl ?_
    refine am_i2l (pc' := 9) dX12_lowest_8 rfl ?_
    obtain rfl := Option.some.inj hres
    exact am_lret dX12_lowest_9 rfl rfl rfl
set_option maxRecDepth 100000 in
set_option maxHeartbeats 4000000 in
theorem wx_X12_odds_75 (S0 : sx_T) : ∀ (n : Nat) (v1 : Int32) (v2 : Int32) (v3 : Int32) (v4 : Int32) (v6 : Int64) (v8 : Int32) (S : sm_T) (res : Int64 × sm_T) (hres : fx_X12_odds_75 n v1 v2 v3 v4 v6 v8 S = some res), am_G mX12_odds (none, 6, 0, 0, (some (.long res.1)), (sx_w S0 (sm_w res.2))) (0, 0) 75 [some (.ref 45), some (.int v1), some (.int v2), some (.int v3), some (.int v4), none, some (.long v6), none, some (.int v8)] [] (sx_w S0 (sm_w S)) := by
  intro n
  induction n with
  | zero =>
    intro v1 v2 v3 v4 v6 v8 S res hres
    cases hres
  | succ n ih =>
    intro v1 v2 v3 v4 v6 v8 S res hres
    rw [fx_X12_odds_75] at hres
    refine am_iload (pc' := 77) dX12_odds_75 rfl rfl ?_
    refine am_iload_n (pc' := 78) 2 dX12_odds_77 rfl rfl rfl ?_
    refine am_icmp_ge (pc' := 81) 123 dX12_odds_78 rfl rfl (fun hc4 => ?_) (fun hc4 => ?_)
    · rw [if_pos hc4] at hres
      refine am_lload (pc' := 125) dX12_odds_123 rfl rfl ?_
      refine am_iload_n (pc' := 126) 2 dX12_odds_125 rfl rfl rfl ?_
      refine am_i2l (pc' := 127) dX12_odds_126 rfl ?_
      refine am_iload (pc' := 129) dX12_odds_127 rfl rfl ?_
      obtain ⟨q5, hq6, hres⟩ := am_bd_s hres
      refine am_cS (pc' := 132) (st' := [.long q5]) [] [.long v6, .long ((v2).toInt64), .int v4] dX12_odds_129 cs_X12_241 (tx_X12_lowest (sx_w S0 (sm_w S)) v6 ((v2).toInt64) v4 _ hq6) rfl rfl rfl rfl rfl rfl ?_
      obtain rfl := Option.some.inj hres
      exact am_lret dX12_odds_132 rfl rfl rfl
    · rw [if_neg hc4] at hres
      refine am_aload_n (pc' := 82) 0 dX12_odds_81 rfl rfl rfl ?_
      refine am_iload_n (pc' := 83) 1 dX12_odds_82 rfl rfl rfl ?_
      refine am_iload (pc' := 85) dX12_odds_83 rfl rfl ?_
      refine am_iadd (pc' := 86) dX12_odds_85 rfl ?_
      obtain ⟨q7, hq8, hres⟩ := am_bd_s hres
      refine am_cV (pc' := 89) (st' := []) [] [.int (v1 + v8)] dX12_odds_86 cs_X12_255 (tx_X12_orders S0 (v1 + v8) S _ hq8) rfl rfl rfl (sm_c45 S0 S) rfl rfl rfl rfl rfl ?_
      refine am_lload (pc' := 91) dX12_odds_89 rfl rfl ?_
      refine am_aload_n (pc' := 92) 0 dX12_odds_91 rfl rfl rfl ?_
      refine am_iload_n (pc' := 93) 3 dX12_odds_92 rfl rfl rfl ?_
      refine am_sipush (pc' := 96) (v := 10000) dX12_odds_93 ks_10000 rfl ?_
      refine am_idiv (pc' := 97) dX12_odds_96 (by decide) rfl ?_
      refine am_iconst (pc' := 98) (v := 1) dX12_odds_97 kc_1 rfl ?_
      obtain ⟨q9, hq10, hres⟩ := am_bd_s hres
      refine am_cV (pc' := 101) (st' := [.int q9.1, .long v6]) [.long v6] [.int (v3 / (10000 : Int32)), .int (1 : Int32)] dX12_odds_98 cs_X12_202 (tx_X12_offerOf S0 (v3 / (10000 : Int32)) (1 : Int32) q7 _ hq10) rfl rfl rfl (sm_c45 S0 q7) rfl rfl rfl rfl rfl ?_
      refine am_iload_n (pc' := 102) 3 dX12_odds_101 rfl rfl rfl ?_
      refine am_sipush (pc' := 105) (v := 10000) dX12_odds_102 ks_10000 rfl ?_
      refine am_irem (pc' := 106) dX12_odds_105 (by decide) rfl ?_
      refine am_icmp_lt (pc' := 109) 113 dX12_odds_106 rfl rfl (fun hc11 => ?_) (fun hc11 => ?_)
      · rw [if_pos hc11] at hres
        refine am_lconst (pc' := 114) (v := 0) dX12_odds_113 kl_0 rfl ?_
        refine am_ladd (pc' := 115) dX12_odds_114 rfl ?_
        refine am_lstore (pc' := 117) (ls' := [some (.ref 45), some (.int v1), some (.int v2), some (.int v3), some (.int v4), none, some (.long (v6 + (0 : Int64))), none, some (.int v8)]) dX12_odds_115 (Nat.le_of_ble_eq_true rfl) rfl rfl rfl ?_
        refine am_iinc (pc' := 120) (ls' := [some (.ref 45), some (.int v1), some (.int v2), some (.int v3), some (.int v4), none, some (.long (v6 + (0 : Int64))), none, some (.int (v8 + (1 : Int32)))]) dX12_odds_117 rfl (show v8 + Int32.ofInt 1 = (v8 + (1 : Int32)) from congrArg (fun z => v8 + z) kc_1) (Nat.le_of_ble_eq_true rfl) rfl rfl rfl ?_
        refine am_goto 75 dX12_odds_120 rfl ?_
        exact ih _ _ _ _ _ _ _ _ hres
      · rw [if_neg hc11] at hres
        refine am_lconst (pc' := 110) (v := 1) dX12_odds_109 kl_1 rfl ?_
        refine am_goto 114 dX12_odds_110 rfl ?_
        refine am_ladd (pc' := 115) dX12_odds_114 rfl ?_
        refine am_lstore (pc' := 117) (ls' := [some (.ref 45), some (.int v1), some (.int v2), some (.int v3), some (.int v4), none, some (.long (v6 + (1 : Int64))), none, some (.int v8)]) dX12_odds_115 (Nat.le_of_ble_eq_true rfl) rfl rfl rfl ?_
        refine am_iinc (pc' := 120) (ls' := [some (.ref 45), some (.int v1), some (.int v2), some (.int v3), some (.int v4), none, some (.long (v6 + (1 : Int64))), none, some (.int (v8 + (1 : Int32)))]) dX12_odds_117 rfl (show v8 + Int32.ofInt 1 = (v8 + (1 : Int32)) from congrArg (fun z => v8 + z) kc_1) (Nat.le_of_ble_eq_true rfl) rfl rfl rfl ?_
        refine am_goto 75 dX12_odds_120 rfl ?_
        exact ih _ _ _ _ _ _ _ _ hres

set_option maxRecDepth 100000 in
set_option maxHeartbeats 4000000 in
theorem wx_X12_odds_46 (S0 : sx_T) : ∀ (v1 : Int32) (v2 : Int32) (v3 : Int32) (v4 : Int32) (w0 : Int32) (S : sm_T) (res : Int64 × sm_T) (hres : fx_X12_odds_46 v1 v2 v3 v4 w0 S = some res), am_G mX12_odds (none, 6, 0, 0, (some (.long res.1)), (sx_w S0 (sm_w res.2))) (0, 0) 46 [some (.ref 45), some (.int v1), some (.int v2), some (.int v3), some (.int v4), none, none, none, none] [.int w0] (sx_w S0 (sm_w S)) := by
  intro v1 v2 v3 v4 w0 S res hres
  rw [fx_X12_odds_46] at hres
  refine am_istore (pc' := 48) (ls' := [some (.ref 45), some (.int v1), some (.int v2), some (.int v3), some (.int v4), some (.int w0), none, none, none]) dX12_odds_46 (Nat.le_of_ble_eq_true rfl) rfl rfl rfl ?_
  refine am_iload (pc' := 50) dX12_odds_48 rfl rfl ?_
  refine am_if_eq (pc' := 53) 65 dX12_odds_50 rfl rfl (fun hc2 => ?_) (fun hc2 => ?_)
  · rw [if_pos hc2] at hres
    refine am_ldc2 (pc' := 68) dX12_odds_65 ck_X12_232 rfl ?_
    obtain rfl := Option.some.inj hres
    exact am_lret dX12_odds_68 rfl rfl rfl
  · rw [if_neg hc2] at hres
    refine am_aload_n (pc' := 54) 0 dX12_odds_53 rfl rfl rfl ?_
    refine am_iload_n (pc' := 55) 3 dX12_odds_54 rfl rfl rfl ?_
    refine am_sipush (pc' := 58) (v := 10000) dX12_odds_55 ks_10000 rfl ?_
    refine am_idiv (pc' := 59) dX12_odds_58 (by decide) rfl ?_
    refine am_cV (pc' := 62) (st' := [.int (fx_X12_isViewer (v3 / (10000 : Int32)) S)]) [] [.int (v3 / (10000 : Int32))] dX12_odds_59 cs_X12_173 (tx_X12_isViewer S0 (v3 / (10000 : Int32)) S _ rfl) rfl rfl rfl (sm_c45 S0 S) rfl rfl rfl rfl rfl ?_
    refine am_if_ne (pc' := 65) 69 dX12_odds_62 rfl rfl (fun hc3 => ?_) (fun hc3 => ?_)
    · rw [if_neg hc3] at hres
      refine am_lconst (pc' := 70) (v := 0) dX12_odds_69 kl_0 rfl ?_
      refine am_lstore (pc' := 72) (ls' := [some (.ref 45), some (.int v1), some (.int v2), some (.int v3), some (.int v4), some (.int w0), some (.long (0 : Int64)), none, none]) dX12_odds_70 (Nat.le_of_ble_eq_true rfl) rfl rfl rfl ?_
      refine am_iconst (pc' := 73) (v := 0) dX12_odds_72 kc_0 rfl ?_
      refine am_istore (pc' := 75) (ls' := [some (.ref 45), some (.int v1), some (.int v2), some (.int v3), some (.int v4), some (.int w0), some (.long (0 : Int64)), none, some (.int (0 : Int32))]) dX12_odds_73 (Nat.le_of_ble_eq_true rfl) rfl rfl rfl ?_
      refine am_weak (ls' := [some (.ref 45), some (.int v1), some (.int v2), some (.int v3), some (.int v4), none, some (.long (0 : Int64)), none, some (.int (0 : Int32))]) [false, false, false, false, false, true, false, false, false] rfl ?_
      exact wx_X12_odds_75 S0 am_fu _ _ _ _ _ _ _ _ hres
    · rw [if_pos hc3] at hres
      refine am_ldc2 (pc' := 68) dX12_odds_65 ck_X12_232 rfl ?_
      obtain rfl := Option.some.inj hres
      exact am_lret dX12_odds_68 rfl rfl rfl

set_option maxRecDepth 100000 in
set_option maxHeartbeats 4000000 in
theorem wx_X12_odds_45 (S0 : sx_T) : ∀ (v1 : Int32) (v2 : Int32) (v3 : Int32) (v4 : Int32) (S : sm_T) (res : Int64 × sm_T) (hres : fx_X12_odds_45 v1 v2 v3 v4 S = some res), am_G mX12_odds (none, 6, 0, 0, (some (.long res.1)), (sx_w S0 (sm_w res.2))) (0, 0) 45 [some (.ref 45), some (.int v1), some (.int v2), some (.int v3), some (.int v4), none, none, none, none] [] (sx_w S0 (sm_w S)) := by
  intro v1 v2 v3 v4 S res hres
  rw [fx_X12_odds_45] at hres
  refine am_iconst (pc' := 46) (v := 0) dX12_odds_45 kc_0 rfl ?_
  exact wx_X12_odds_46 S0 _ _ _ _ _ _ _ hres

set_option maxRecDepth 100000 in
set_option maxHeartbeats 4000000 in
theorem tx_X12_odds (S0 : sx_T) (a1 : Int32) (a2 : Int32) (a3 : Int32) (a4 : Int32) (S : sm_T) (res : Int64 × sm_T) (hres : fx_X12_odds a1 a2 a3 a4 S = some res) : am_T mX12_odds 6 0 0 [.ref 45, .int a1, .int a2, .int a3, .int a4] (sx_w S0 (sm_w S)) (some (.long res.1)) (sx_w S0 (sm_w res.2)) := by
  refine am_meth (ls := [some (.ref 45), some (.int a1), some (.int a2), some (.int a3), some (.int a4), none, none, none, none]) (by decide +kernel) rfl (Nat.le_of_ble_eq_true rfl) (sm_len _ _ _ _) ?_
  rw [fx_X12_odds] at hres
  refine am_iload_n (pc' := 1) 1 dX12_odds_0 rfl rfl rfl ?_
  refine am_iconst (pc' := 2) (v := 0) dX12_odds_1 kc_0 rfl ?_
  refine am_ldc (pc' := 4) dX12_odds_2 ck_X12_180 rfl ?_
  refine am_cS (pc' := 7) (st' := [.int (fx_X12_in a1 (0 : Int32) (99999 : Int32))]) [] [.int a1, .int (0 : Int32), .int (99999 : Int32)] dX12_odds_4 cs_X12_90 (tx_X12_in (sx_w S0 (sm_w S)) a1 (0 : Int32) (99999 : Int32) _ rfl) rfl rfl rfl rfl rfl rfl ?_
  refine am_if_eq (pc' := 10) 45 dX12_odds_7 rfl rfl (fun hc1 => ?_) (fun hc1 => ?_)
  · rw [if_pos hc1] at hres
    exact wx_X12_odds_45 S0 _ _ _ _ _ _ hres
  · rw [if_neg hc1] at hres
    refine am_iload_n (pc' := 11) 2 dX12_odds_10 rfl rfl rfl ?_
    refine am_iconst (pc' := 12) (v := 1) dX12_odds_11 kc_1 rfl ?_
    refine am_bipush (pc' := 14) (v := 40) dX12_odds_12 kb_40 rfl ?_
    refine am_cS (pc' := 17) (st' := [.int (fx_X12_in a2 (1 : Int32) (40 : Int32))]) [] [.int a2, .int (1 : Int32), .int (40 : Int32)] dX12_odds_14 cs_X12_90 (tx_X12_in (sx_w S0 (sm_w S)) a2 (1 : Int32) (40 : Int32) _ rfl) rfl rfl rfl rfl rfl rfl ?_
    refine am_if_eq (pc' := 20) 45 dX12_odds_17 rfl rfl (fun hc12 => ?_) (fun hc12 => ?_)
    · rw [if_pos hc12] at hres
      exact wx_X12_odds_45 S0 _ _ _ _ _ _ hres
    · rw [if_neg hc12] at hres
      refine am_iload_n (pc' := 21) 3 dX12_odds_20 rfl rfl rfl ?_
      refine am_iconst (pc' := 22) (v := 0) dX12_odds_21 kc_0 rfl ?_
      refine am_ldcw (pc' := 25) dX12_odds_22 ck_X12_258 rfl ?_
      refine am_cS (pc' := 28) (st' := [.int (fx_X12_in a3 (0 : Int32) (79999 : Int32))]) [] [.int a3, .int (0 : Int32), .int (79999 : Int32)] dX12_odds_25 cs_X12_90 (tx_X12_in (sx_w S0 (sm_w S)) a3 (0 : Int32) (79999 : Int32) _ rfl) rfl rfl rfl rfl rfl rfl ?_
      refine am_if_eq (pc' := 31) 45 dX12_odds_28 rfl rfl (fun hc13 => ?_) (fun hc13 => ?_)
      · rw [if_pos hc13] at hres
        exact wx_X12_odds_45 S0 _ _ _ _ _ _ hres
      · rw [if_neg hc13] at hres
        refine am_iload (pc' := 33) dX12_odds_31 rfl rfl ?_
        refine am_iconst (pc' := 34) (v := 0) dX12_odds_33 kc_0 rfl ?_
        refine am_iconst (pc' := 35) (v := 1) dX12_odds_34 kc_1 rfl ?_
        refine am_cS (pc' := 38) (st' := [.int (fx_X12_in a4 (0 : Int32) (1 : Int32))]) [] [.int a4, .int (0 : Int32), .int (1 : Int32)] dX12_odds_35 cs_X12_90 (tx_X12_in (sx_w S0 (sm_w S)) a4 (0 : Int32) (1 : Int32) _ rfl) rfl rfl rfl rfl rfl rfl ?_
        refine am_if_eq (pc' := 41) 45 dX12_odds_38 rfl rfl (fun hc14 => ?_) (fun hc14 => ?_)
        · rw [if_pos hc14] at hres
          exact wx_X12_odds_45 S0 _ _ _ _ _ _ hres
        · rw [if_neg hc14] at hres
          refine am_iconst (pc' := 42) (v := 1) dX12_odds_41 kc_1 rfl ?_
          refine am_goto 46 dX12_odds_42 rfl ?_
          exact wx_X12_odds_46 S0 _ _ _ _ _ _ _ hres
set_option maxRecDepth 100000 in
set_option maxHeartbeats 4000000 in
theorem tx_X12_one (S0 : sx_T) (a1 : Int32) (a2 : Int32) (S : sm_T) (res : Int32) (hres : fx_X12_one a1 a2 S = some res) : am_T mX12_one 2 0 0 [.ref 45, .int a1, .int a2] (sx_w S0 (sm_w S)) (some (.int res)) (sx_w S0 (sm_w S)) := by
  refine am_meth (ls := [some (.ref 45), some (.int a1), some (.int a2)]) (by decide +kernel) rfl (Nat.le_of_ble_eq_true rfl) (sm_len _ _ _ _) ?_
  rw [fx_X12_one] at hres
  refine am_aload_n (pc' := 1) 0 dX12_one_0 rfl rfl rfl ?_
  refine am_iload_n (pc' := 2) 1 dX12_one_1 rfl rfl rfl ?_
  refine am_cV (pc' := 5) (st' := [.int (fx_X12_isViewer a1 S)]) [] [.int a1] dX12_one_2 cs_X12_173 (tx_X12_isViewer S0 a1 S _ rfl) rfl rfl rfl (sm_c45 S0 S) rfl rfl rfl rfl rfl ?_
  refine am_if_ne (pc' := 8) 11 dX12_one_5 rfl rfl (fun hc1 => ?_) (fun hc1 => ?_)
  · rw [if_neg hc1] at hres
    refine am_iload_n (pc' := 12) 2 dX12_one_11 rfl rfl rfl ?_
    rcases Classical.em (a2 = (0 : Int32)) with hs2 | hs2
    · rw [if_pos hs2] at hres
      refine am_tsAt (0 : Int32) 44 dX12_one_12 hs2 (by decide) (by decide) rfl rfl ?_
      refine am_aload_n (pc' := 45) 0 dX12_one_44 rfl rfl rfl ?_
      refine am_get (pc' := 48) (v := .ref 48) dX12_one_45 fl_X12_16 (sm_c45 S0 S) rfl rfl ?_
      refine am_iconst (pc' := 49) (v := 2) dX12_one_48 kc_2 rfl ?_
      refine am_iload_n (pc' := 50) 1 dX12_one_49 rfl rfl rfl ?_
      refine am_imul (pc' := 51) dX12_one_50 rfl ?_
      refine am_iload_n (pc' := 52) 2 dX12_one_51 rfl rfl rfl ?_
      refine am_iadd (pc' := 53) dX12_one_52 rfl ?_
      obtain ⟨hr6, hres⟩ := am_rg hres
      refine am_iald (pc' := 54) (f := (sm_ones S)) dX12_one_53 (sm_c48 S0 S) hr6 rfl ?_
      obtain rfl := Option.some.inj hres
      exact am_iret dX12_one_54 rfl rfl rfl
    · rw [if_neg hs2] at hres
      rcases Classical.em (a2 = (1 : Int32)) with hs3 | hs3
      · rw [if_pos hs3] at hres
        refine am_tsAt (1 : Int32) 44 dX12_one_12 hs3 (by decide) (by decide) rfl rfl ?_
        refine am_aload_n (pc' := 45) 0 dX12_one_44 rfl rfl rfl ?_
        refine am_get (pc' := 48) (v := .ref 48) dX12_one_45 fl_X12_16 (sm_c45 S0 S) rfl rfl ?_
        refine am_iconst (pc' := 49) (v := 2) dX12_one_48 kc_2 rfl ?_
        refine am_iload_n (pc' := 50) 1 dX12_one_49 rfl rfl rfl ?_
        refine am_imul (pc' := 51) dX12_one_50 rfl ?_
        refine am_iload_n (pc' := 52) 2 dX12_one_51 rfl rfl rfl ?_
        refine am_iadd (pc' := 53) dX12_one_52 rfl ?_
        obtain ⟨hr7, hres⟩ := am_rg hres
        refine am_iald (pc' := 54) (f := (sm_ones S)) dX12_one_53 (sm_c48 S0 S) hr7 rfl ?_
        obtain rfl := Option.some.inj hres
        exact am_iret dX12_one_54 rfl rfl rfl
      · rw [if_neg hs3] at hres
        rcases Classical.em (a2 = (2 : Int32)) with hs4 | hs4
        · rw [if_pos hs4] at hres
          refine am_tsAt (2 : Int32) 55 dX12_one_12 hs4 (by decide) (by decide) rfl rfl ?_
          refine am_aload_n (pc' := 56) 0 dX12_one_55 rfl rfl rfl ?_
          refine am_get (pc' := 59) (v := .ref 46) dX12_one_56 fl_X12_7 (sm_c45 S0 S) rfl rfl ?_
          refine am_iload_n (pc' := 60) 1 dX12_one_59 rfl rfl rfl ?_
          obtain ⟨hr8, hres⟩ := am_rg hres
          refine am_iald (pc' := 61) (f := (sm_kind S)) dX12_one_60 (sm_c46 S0 S) hr8 rfl ?_
          obtain rfl := Option.some.inj hres
          exact am_iret dX12_one_61 rfl rfl rfl
        · rw [if_neg hs4] at hres
          rcases Classical.em (a2 = (3 : Int32)) with hs5 | hs5
          · rw [if_pos hs5] at hres
            refine am_tsAt (3 : Int32) 62 dX12_one_12 hs5 (by decide) (by decide) rfl rfl ?_
            refine am_aload_n (pc' := 63) 0 dX12_one_62 rfl rfl rfl ?_
            refine am_get (pc' := 66) (v := .ref 47) dX12_one_63 fl_X12_13 (sm_c45 S0 S) rfl rfl ?_
            refine am_iload_n (pc' := 67) 1 dX12_one_66 rfl rfl rfl ?_
            obtain ⟨hr9, hres⟩ := am_rg hres
            refine am_iald (pc' := 68) (f := (sm_moreOf S)) dX12_one_67 (sm_c47 S0 S) hr9 rfl ?_
            obtain rfl := Option.some.inj hres
            exact am_iret dX12_one_68 rfl rfl rfl
          · rw [if_neg hs5] at hres
            refine am_tsOff 4 69 dX12_one_12 rfl (fun i hi => by match i, hi with | 0, _ => exact hs2 | 1, _ => exact hs3 | 2, _ => exact hs4 | 3, _ => exact hs5) rfl ?_
            refine am_bipush (pc' := 71) (v := (-7)) dX12_one_69 kb_m7 rfl ?_
            obtain rfl := Option.some.inj hres
            exact am_iret dX12_one_71 rfl rfl rfl
  · rw [if_pos hc1] at hres
    refine am_bipush (pc' := 10) (v := (-5)) dX12_one_8 kb_m5 rfl ?_
    obtain rfl := Option.some.inj hres
    exact am_iret dX12_one_10 rfl rfl rfl
set_option maxRecDepth 100000 in
set_option maxHeartbeats 4000000 in
theorem tx_X12_paint (S0 : sx_T) (a1 : Int32) (a2 : Int32) (a3 : Int32) (S : sm_T) (res : Int32 × sm_T) (hres : fx_X12_paint a1 a2 a3 S = some res) : am_T mX12_paint 6 0 0 [.ref 45, .int a1, .int a2, .int a3] (sx_w S0 (sm_w S)) (some (.int res.1)) (sx_w S0 (sm_w res.2)) := by
  refine am_meth (ls := [some (.ref 45), some (.int a1), some (.int a2), some (.int a3), none, none, none, none]) (by decide +kernel) rfl (Nat.le_of_ble_eq_true rfl) (sm_len _ _ _ _) ?_
  rw [fx_X12_paint] at hres
  refine am_aload_n (pc' := 1) 0 dX12_paint_0 rfl rfl rfl ?_
  refine am_iload_n (pc' := 2) 1 dX12_paint_1 rfl rfl rfl ?_
  obtain ⟨q1, hq2, hres⟩ := am_bd_s hres
  refine am_cV (pc' := 5) (st' := [.int q1.1]) [] [.int a1] dX12_paint_2 cs_X12_197 (tx_X12_reads S0 a1 S _ hq2) rfl rfl rfl (sm_c45 S0 S) rfl rfl rfl rfl rfl ?_
  refine am_istore (pc' := 7) (ls' := [some (.ref 45), some (.int a1), some (.int a2), some (.int a3), some (.int q1.1), none, none, none]) dX12_paint_5 (Nat.le_of_ble_eq_true rfl) rfl rfl rfl ?_
  refine am_iload (pc' := 9) dX12_paint_7 rfl rfl ?_
  refine am_if_eq (pc' := 12) 18 dX12_paint_9 rfl rfl (fun hc3 => ?_) (fun hc3 => ?_)
  · rw [if_pos hc3] at hres
    refine am_aload_n (pc' := 19) 0 dX12_paint_18 rfl rfl rfl ?_
    refine am_iload_n (pc' := 20) 2 dX12_paint_19 rfl rfl rfl ?_
    refine am_cV (pc' := 23) (st' := [.int (fx_X12_isViewer a2 q1.2)]) [] [.int a2] dX12_paint_20 cs_X12_173 (tx_X12_isViewer S0 a2 q1.2 _ rfl) rfl rfl rfl (sm_c45 S0 q1.2) rfl rfl rfl rfl rfl ?_
    refine am_if_eq (pc' := 26) 33 dX12_paint_23 rfl rfl (fun hc4 => ?_) (fun hc4 => ?_)
    · rw [if_pos hc4] at hres
      refine am_ldc (pc' := 35) dX12_paint_33 ck_X12_223 rfl ?_
      obtain rfl := Option.some.inj hres
      exact am_iret dX12_paint_35 rfl rfl rfl
    · rw [if_neg hc4] at hres
      refine am_iload_n (pc' := 27) 3 dX12_paint_26 rfl rfl rfl ?_
      refine am_cS (pc' := 30) (st' := [.int (fx_X12_isRoom a3)]) [] [.int a3] dX12_paint_27 cs_X12_100 (tx_X12_isRoom (sx_w S0 (sm_w q1.2)) a3 _ rfl) rfl rfl rfl rfl rfl rfl ?_
      refine am_if_ne (pc' := 33) 36 dX12_paint_30 rfl rfl (fun hc5 => ?_) (fun hc5 => ?_)
      · rw [if_neg hc5] at hres
        refine am_aload_n (pc' := 37) 0 dX12_paint_36 rfl rfl rfl ?_
        refine am_iload_n (pc' := 38) 2 dX12_paint_37 rfl rfl rfl ?_
        refine am_iconst (pc' := 39) (v := 1) dX12_paint_38 kc_1 rfl ?_
        obtain ⟨q6, hq7, hres⟩ := am_bd_s hres
        refine am_cV (pc' := 42) (st' := [.int q6.1]) [] [.int a2, .int (1 : Int32)] dX12_paint_39 cs_X12_202 (tx_X12_offerOf S0 a2 (1 : Int32) q1.2 _ hq7) rfl rfl rfl (sm_c45 S0 q1.2) rfl rfl rfl rfl rfl ?_
        refine am_istore (pc' := 44) (ls' := [some (.ref 45), some (.int a1), some (.int a2), some (.int a3), some (.int q1.1), some (.int q6.1), none, none]) dX12_paint_42 (Nat.le_of_ble_eq_true rfl) rfl rfl rfl ?_
        refine am_aload_n (pc' := 45) 0 dX12_paint_44 rfl rfl rfl ?_
        refine am_get (pc' := 48) (v := .ref 49) dX12_paint_45 fl_X12_19 (sm_c45 S0 q6.2) rfl rfl ?_
        refine am_iconst (pc' := 49) (v := 2) dX12_paint_48 kc_2 rfl ?_
        refine am_iload_n (pc' := 50) 3 dX12_paint_49 rfl rfl rfl ?_
        refine am_imul (pc' := 51) dX12_paint_50 rfl ?_
        refine am_iconst (pc' := 52) (v := 1) dX12_paint_51 kc_1 rfl ?_
        refine am_iadd (pc' := 53) dX12_paint_52 rfl ?_
        obtain ⟨hr8, hres⟩ := am_rg hres
        refine am_iald (pc' := 54) (f := (sm_flat q6.2)) dX12_paint_53 (sm_c49 S0 q6.2) hr8 rfl ?_
        refine am_istore (pc' := 56) (ls' := [some (.ref 45), some (.int a1), some (.int a2), some (.int a3), some (.int q1.1), some (.int q6.1), some (.int ((sm_flat q6.2) (((2 : Int32) * a3) + (1 : Int32)).toNatClampNeg)), none]) dX12_paint_54 (Nat.le_of_ble_eq_true rfl) rfl rfl rfl ?_
        refine am_aload_n (pc' := 57) 0 dX12_paint_56 rfl rfl rfl ?_
        refine am_get (pc' := 60) (v := .ref 49) dX12_paint_57 fl_X12_19 (sm_c45 S0 q6.2) rfl rfl ?_
        refine am_iconst (pc' := 61) (v := 2) dX12_paint_60 kc_2 rfl ?_
        refine am_iload_n (pc' := 62) 3 dX12_paint_61 rfl rfl rfl ?_
        refine am_imul (pc' := 63) dX12_paint_62 rfl ?_
        refine am_iconst (pc' := 64) (v := 1) dX12_paint_63 kc_1 rfl ?_
        refine am_iadd (pc' := 65) dX12_paint_64 rfl ?_
        refine am_iconst (pc' := 66) (v := 0) dX12_paint_65 kc_0 rfl ?_
        obtain ⟨hr9, hres⟩ := am_rg hres
        refine am_iast (pc' := 67) (f := (sm_flat q6.2)) (ws' := (sx_w S0 (sm_w (um_flat q6.2 (upd (sm_flat q6.2) (((2 : Int32) * a3) + (1 : Int32)).toNatClampNeg (0 : Int32)))))) dX12_paint_66 (sm_c49 S0 q6.2) hr9 (sm_p_flat S0 q6.2 _) rfl ?_
        refine am_aload_n (pc' := 68) 0 dX12_paint_67 rfl rfl rfl ?_
        refine am_iload_n (pc' := 69) 2 dX12_paint_68 rfl rfl rfl ?_
        refine am_iconst (pc' := 70) (v := 1) dX12_paint_69 kc_1 rfl ?_
        obtain ⟨q10, hq11, hres⟩ := am_bd_s hres
        refine am_cV (pc' := 73) (st' := [.int q10.1]) [] [.int a2, .int (1 : Int32)] dX12_paint_70 cs_X12_202 (tx_X12_offerOf S0 a2 (1 : Int32) (um_flat q6.2 (upd (sm_flat q6.2) (((2 : Int32) * a3) + (1 : Int32)).toNatClampNeg (0 : Int32))) _ hq11) rfl rfl rfl (sm_c45 S0 (um_flat q6.2 (upd (sm_flat q6.2) (((2 : Int32) * a3) + (1 : Int32)).toNatClampNeg (0 : Int32)))) rfl rfl rfl rfl rfl ?_
        refine am_istore (pc' := 75) (ls' := [some (.ref 45), some (.int a1), some (.int a2), some (.int a3), some (.int q1.1), some (.int q6.1), some (.int ((sm_flat q6.2) (((2 : Int32) * a3) + (1 : Int32)).toNatClampNeg)), some (.int q10.1)]) dX12_paint_73 (Nat.le_of_ble_eq_true rfl) rfl rfl rfl ?_
        refine am_aload_n (pc' := 76) 0 dX12_paint_75 rfl rfl rfl ?_
        refine am_get (pc' := 79) (v := .ref 49) dX12_paint_76 fl_X12_19 (sm_c45 S0 q10.2) rfl rfl ?_
        refine am_iconst (pc' := 80) (v := 2) dX12_paint_79 kc_2 rfl ?_
        refine am_iload_n (pc' := 81) 3 dX12_paint_80 rfl rfl rfl ?_
        refine am_imul (pc' := 82) dX12_paint_81 rfl ?_
        refine am_iconst (pc' := 83) (v := 1) dX12_paint_82 kc_1 rfl ?_
        refine am_iadd (pc' := 84) dX12_paint_83 rfl ?_
        refine am_iload (pc' := 86) dX12_paint_84 rfl rfl ?_
        obtain ⟨hr12, hres⟩ := am_rg hres
        refine am_iast (pc' := 87) (f := (sm_flat q10.2)) (ws' := (sx_w S0 (sm_w (um_flat q10.2 (upd (sm_flat q10.2) (((2 : Int32) * a3) + (1 : Int32)).toNatClampNeg ((sm_flat q6.2) (((2 : Int32) * a3) + (1 : Int32)).toNatClampNeg)))))) dX12_paint_86 (sm_c49 S0 q10.2) hr12 (sm_p_flat S0 q10.2 _) rfl ?_
        refine am_iload (pc' := 89) dX12_paint_87 rfl rfl ?_
        refine am_iload (pc' := 91) dX12_paint_89 rfl rfl ?_
        refine am_isub (pc' := 92) dX12_paint_91 rfl ?_
        obtain rfl := Option.some.inj hres
        exact am_iret dX12_paint_92 rfl rfl rfl
      · rw [if_pos hc5] at hres
        refine am_ldc (pc' := 35) dX12_paint_33 ck_X12_223 rfl ?_
        obtain rfl := Option.some.inj hres
        exact am_iret dX12_paint_35 rfl rfl rfl
  · rw [if_neg hc3] at hres
    refine am_ldc (pc' := 14) dX12_paint_12 ck_X12_200 rfl ?_
    refine am_iload (pc' := 16) dX12_paint_14 rfl rfl ?_
    refine am_iadd (pc' := 17) dX12_paint_16 rfl ?_
    obtain rfl := Option.some.inj hres
    exact am_iret dX12_paint_17 rfl rfl rfl
set_option maxRecDepth 100000 in
set_option maxHeartbeats 4000000 in
theorem wx_X12_put_34 (S0 : sx_T) : ∀ (v1 : Int32) (v2 : Int32) (v3 : Int32) (w0 : Int32) (w1 : Int32) (w2 : Int32) (S : sm_T) (res : Int32 × sm_T) (hres : fx_X12_put_34 v1 v2 v3 w0 w1 w2 S = some res), am_G mX12_put (none, 2, 0, 0, (some (.int res.1)), (sx_w S0 (sm_w res.2))) (0, 0) 34 [some (.ref 45), some (.int v1), some (.int v2), some (.int v3), none] [.int w2, .int w1, .int w0] (sx_w S0 (sm_w S)) := by
  intro v1 v2 v3 w0 w1 w2 S res hres
  rw [fx_X12_put_34] at hres
  refine am_cS (pc' := 37) (st' := [.int (fx_X12_in w0 w1 w2)]) [] [.int w0, .int w1, .int w2] dX12_put_34 cs_X12_90 (tx_X12_in (sx_w S0 (sm_w S)) w0 w1 w2 _ rfl) rfl rfl rfl rfl rfl rfl ?_
  refine am_if_ne (pc' := 40) 43 dX12_put_37 rfl rfl (fun hc4 => ?_) (fun hc4 => ?_)
  · rw [if_neg hc4] at hres
    refine am_aload_n (pc' := 44) 0 dX12_put_43 rfl rfl rfl ?_
    refine am_get (pc' := 47) (v := .ref 48) dX12_put_44 fl_X12_16 (sm_c45 S0 S) rfl rfl ?_
    refine am_iconst (pc' := 48) (v := 2) dX12_put_47 kc_2 rfl ?_
    refine am_iload_n (pc' := 49) 1 dX12_put_48 rfl rfl rfl ?_
    refine am_imul (pc' := 50) dX12_put_49 rfl ?_
    refine am_iload_n (pc' := 51) 2 dX12_put_50 rfl rfl rfl ?_
    refine am_iadd (pc' := 52) dX12_put_51 rfl ?_
    obtain ⟨hr5, hres⟩ := am_rg hres
    refine am_iald (pc' := 53) (f := (sm_ones S)) dX12_put_52 (sm_c48 S0 S) hr5 rfl ?_
    refine am_istore (pc' := 55) (ls' := [some (.ref 45), some (.int v1), some (.int v2), some (.int v3), some (.int ((sm_ones S) (((2 : Int32) * v1) + v2).toNatClampNeg))]) dX12_put_53 (Nat.le_of_ble_eq_true rfl) rfl rfl rfl ?_
    refine am_aload_n (pc' := 56) 0 dX12_put_55 rfl rfl rfl ?_
    refine am_get (pc' := 59) (v := .ref 48) dX12_put_56 fl_X12_16 (sm_c45 S0 S) rfl rfl ?_
    refine am_iconst (pc' := 60) (v := 2) dX12_put_59 kc_2 rfl ?_
    refine am_iload_n (pc' := 61) 1 dX12_put_60 rfl rfl rfl ?_
    refine am_imul (pc' := 62) dX12_put_61 rfl ?_
    refine am_iload_n (pc' := 63) 2 dX12_put_62 rfl rfl rfl ?_
    refine am_iadd (pc' := 64) dX12_put_63 rfl ?_
    refine am_iload_n (pc' := 65) 3 dX12_put_64 rfl rfl rfl ?_
    obtain ⟨hr6, hres⟩ := am_rg hres
    refine am_iast (pc' := 66) (f := (sm_ones S)) (ws' := (sx_w S0 (sm_w (um_ones S (upd (sm_ones S) (((2 : Int32) * v1) + v2).toNatClampNeg v3))))) dX12_put_65 (sm_c48 S0 S) hr6 (sm_p_ones S0 S _) rfl ?_
    refine am_iload (pc' := 68) dX12_put_66 rfl rfl ?_
    obtain rfl := Option.some.inj hres
    exact am_iret dX12_put_68 rfl rfl rfl
  · rw [if_pos hc4] at hres
    refine am_bipush (pc' := 42) (v := (-7)) dX12_put_40 kb_m7 rfl ?_
    obtain rfl := Option.some.inj hres
    exact am_iret dX12_put_42 rfl rfl rfl

set_option maxRecDepth 100000 in
set_option maxHeartbeats 4000000 in
theorem tx_X12_put (S0 : sx_T) (a1 : Int32) (a2 : Int32) (a3 : Int32) (S : sm_T) (res : Int32 × sm_T) (hres : fx_X12_put a1 a2 a3 S = some res) : am_T mX12_put 2 0 0 [.ref 45, .int a1, .int a2, .int a3] (sx_w S0 (sm_w S)) (some (.int res.1)) (sx_w S0 (sm_w res.2)) := by
  refine am_meth (ls := [some (.ref 45), some (.int a1), some (.int a2), some (.int a3), none]) (by decide +kernel) rfl (Nat.le_of_ble_eq_true rfl) (sm_len _ _ _ _) ?_
  rw [fx_X12_put] at hres
  refine am_aload_n (pc' := 1) 0 dX12_put_0 rfl rfl rfl ?_
  refine am_iload_n (pc' := 2) 1 dX12_put_1 rfl rfl rfl ?_
  refine am_cV (pc' := 5) (st' := [.int (fx_X12_isViewer a1 S)]) [] [.int a1] dX12_put_2 cs_X12_173 (tx_X12_isViewer S0 a1 S _ rfl) rfl rfl rfl (sm_c45 S0 S) rfl rfl rfl rfl rfl ?_
  refine am_if_ne (pc' := 8) 11 dX12_put_5 rfl rfl (fun hc1 => ?_) (fun hc1 => ?_)
  · rw [if_neg hc1] at hres
    refine am_iload_n (pc' := 12) 2 dX12_put_11 rfl rfl rfl ?_
    refine am_iconst (pc' := 13) (v := 0) dX12_put_12 kc_0 rfl ?_
    refine am_iconst (pc' := 14) (v := 1) dX12_put_13 kc_1 rfl ?_
    refine am_cS (pc' := 17) (st' := [.int (fx_X12_in a2 (0 : Int32) (1 : Int32))]) [] [.int a2, .int (0 : Int32), .int (1 : Int32)] dX12_put_14 cs_X12_90 (tx_X12_in (sx_w S0 (sm_w S)) a2 (0 : Int32) (1 : Int32) _ rfl) rfl rfl rfl rfl rfl rfl ?_
    refine am_if_eq (pc' := 20) 40 dX12_put_17 rfl rfl (fun hc2 => ?_) (fun hc2 => ?_)
    · rw [if_pos hc2] at hres
      refine am_bipush (pc' := 42) (v := (-7)) dX12_put_40 kb_m7 rfl ?_
      obtain rfl := Option.some.inj hres
      exact am_iret dX12_put_42 rfl rfl rfl
    · rw [if_neg hc2] at hres
      refine am_iload_n (pc' := 21) 3 dX12_put_20 rfl rfl rfl ?_
      refine am_iconst (pc' := 22) (v := 0) dX12_put_21 kc_0 rfl ?_
      refine am_iload_n (pc' := 23) 2 dX12_put_22 rfl rfl rfl ?_
      refine am_if_ne (pc' := 26) 32 dX12_put_23 rfl rfl (fun hc3 => ?_) (fun hc3 => ?_)
      · rw [if_neg hc3] at hres
        refine am_bipush (pc' := 34) (v := 99) dX12_put_32 kb_99 rfl ?_
        exact wx_X12_put_34 S0 _ _ _ _ _ _ _ _ hres
      · rw [if_pos hc3] at hres
        refine am_sipush (pc' := 29) (v := 999) dX12_put_26 ks_999 rfl ?_
        refine am_goto 34 dX12_put_29 rfl ?_
        exact wx_X12_put_34 S0 _ _ _ _ _ _ _ _ hres
  · rw [if_pos hc1] at hres
    refine am_bipush (pc' := 10) (v := (-5)) dX12_put_8 kb_m5 rfl ?_
    obtain rfl := Option.some.inj hres
    exact am_iret dX12_put_10 rfl rfl rfl
set_option maxRecDepth 100000 in
set_option maxHeartbeats 4000000 in
theorem wx_X12_riches_82 (S0 : sx_T) (k49 : Int32 → Int32 → Int32 → Int32 → Int32 → Int32 → Int32 → sm_T → Option (Int32 × sm_T)) (hk49 : ∀ (v2 : Int32) (v3 : Int32) (v4 : Int32) (v6 : Int32) (v7 : Int32) (v8 : Int32) (v9 : Int32) (S : sm_T) (res : Int32 × sm_T), k49 v2 v3 v4 v6 v7 v8 v9 S = some res → am_G mX12_riches (none, 7, 0, 0, (some (.int res.1)), (sx_w S0 (sm_w res.2))) (0, 0) 49 [some (.ref 45), none, some (.int v2), some (.int v3), some (.int v4), none, some (.int v6), some (.int v7), some (.int v8), some (.int v9), none] [] (sx_w S0 (sm_w S))) : ∀ (v2 : Int32) (v3 : Int32) (v4 : Int32) (v6 : Int32) (v7 : Int32) (v8 : Int32) (v9 : Int32) (w0 : Int32) (S : sm_T) (res : Int32 × sm_T) (hres : fx_X12_riches_82 k49 v2 v3 v4 v6 v7 v8 v9 w0 S = some res), am_G mX12_riches (none, 7, 0, 0, (some (.int res.1)), (sx_w S0 (sm_w res.2))) (0, 0) 82 [some (.ref 45), none, some (.int v2), some (.int v3), some (.int v4), none, some (.int v6), some (.int v7), some (.int v8), some (.int v9), none] [.int w0] (sx_w S0 (sm_w S)) := by
  intro v2 v3 v4 v6 v7 v8 v9 w0 S res hres
  rw [fx_X12_riches_82] at hres
  refine am_istore (pc' := 84) (ls' := [some (.ref 45), none, some (.int v2), some (.int v3), some (.int v4), none, some (.int v6), some (.int v7), some (.int v8), some (.int v9), some (.int w0)]) dX12_riches_82 (Nat.le_of_ble_eq_true rfl) rfl rfl rfl ?_
  refine am_iload (pc' := 86) dX12_riches_84 rfl rfl ?_
  refine am_iload (pc' := 88) dX12_riches_86 rfl rfl ?_
  refine am_if_eq (pc' := 91) 95 dX12_riches_88 rfl rfl (fun hc13 => ?_) (fun hc13 => ?_)
  · rw [if_pos hc13] at hres
    refine am_iconst (pc' := 96) (v := 0) dX12_riches_95 kc_0 rfl ?_
    refine am_iadd (pc' := 97) dX12_riches_96 rfl ?_
    refine am_istore (pc' := 99) (ls' := [some (.ref 45), none, some (.int v2), some (.int v3), some (.int v4), none, some (.int v6), some (.int (v7 + (0 : Int32))), some (.int v8), some (.int v9), some (.int w0)]) dX12_riches_97 (Nat.le_of_ble_eq_true rfl) rfl rfl rfl ?_
    refine am_iload (pc' := 101) dX12_riches_99 rfl rfl ?_
    refine am_if_eq (pc' := 104) 115 dX12_riches_101 rfl rfl (fun hc14 => ?_) (fun hc14 => ?_)
    · rw [if_pos hc14] at hres
      refine am_iload (pc' := 117) dX12_riches_115 rfl rfl ?_
      refine am_istore (pc' := 119) (ls' := [some (.ref 45), none, some (.int v2), some (.int v3), some (.int v4), none, some (.int v6), some (.int (v7 + (0 : Int32))), some (.int v8), some (.int v9), some (.int w0)]) dX12_riches_117 (Nat.le_of_ble_eq_true rfl) rfl rfl rfl ?_
      refine am_iinc (pc' := 122) (ls' := [some (.ref 45), none, some (.int v2), some (.int v3), some (.int v4), none, some (.int v6), some (.int (v7 + (0 : Int32))), some (.int v8), some (.int (v9 + (1 : Int32))), some (.int w0)]) dX12_riches_119 rfl (show v9 + Int32.ofInt 1 = (v9 + (1 : Int32)) from congrArg (fun z => v9 + z) kc_1) (Nat.le_of_ble_eq_true rfl) rfl rfl rfl ?_
      refine am_goto 49 dX12_riches_122 rfl ?_
      refine am_weak (ls' := [some (.ref 45), none, some (.int v2), some (.int v3), some (.int v4), none, some (.int v6), some (.int (v7 + (0 : Int32))), some (.int v8), some (.int (v9 + (1 : Int32))), none]) [false, false, false, false, false, false, false, false, false, false, true] rfl ?_
      exact hk49 _ _ _ _ _ _ _ _ _ hres
    · rw [if_neg hc14] at hres
      refine am_iload (pc' := 106) dX12_riches_104 rfl rfl ?_
      refine am_iconst (pc' := 107) (v := (-1)) dX12_riches_106 kc_m1 rfl ?_
      refine am_icmp_ne (pc' := 110) 115 dX12_riches_107 rfl rfl (fun hc15 => ?_) (fun hc15 => ?_)
      · rw [if_neg hc15] at hres
        refine am_iload (pc' := 117) dX12_riches_115 rfl rfl ?_
        refine am_istore (pc' := 119) (ls' := [some (.ref 45), none, some (.int v2), some (.int v3), some (.int v4), none, some (.int v6), some (.int (v7 + (0 : Int32))), some (.int v8), some (.int v9), some (.int w0)]) dX12_riches_117 (Nat.le_of_ble_eq_true rfl) rfl rfl rfl ?_
        refine am_iinc (pc' := 122) (ls' := [some (.ref 45), none, some (.int v2), some (.int v3), some (.int v4), none, some (.int v6), some (.int (v7 + (0 : Int32))), some (.int v8), some (.int (v9 + (1 : Int32))), some (.int w0)]) dX12_riches_119 rfl (show v9 + Int32.ofInt 1 = (v9 + (1 : Int32)) from congrArg (fun z => v9 + z) kc_1) (Nat.le_of_ble_eq_true rfl) rfl rfl rfl ?_
        refine am_goto 49 dX12_riches_122 rfl ?_
        refine am_weak (ls' := [some (.ref 45), none, some (.int v2), some (.int v3), some (.int v4), none, some (.int v6), some (.int (v7 + (0 : Int32))), some (.int v8), some (.int (v9 + (1 : Int32))), none]) [false, false, false, false, false, false, false, false, false, false, true] rfl ?_
        exact hk49 _ _ _ _ _ _ _ _ _ hres
      · rw [if_pos hc15] at hres
        refine am_iload (pc' := 112) dX12_riches_110 rfl rfl ?_
        refine am_goto 117 dX12_riches_112 rfl ?_
        refine am_istore (pc' := 119) (ls' := [some (.ref 45), none, some (.int v2), some (.int v3), some (.int v4), none, some (.int v6), some (.int (v7 + (0 : Int32))), some (.int v9), some (.int v9), some (.int w0)]) dX12_riches_117 (Nat.le_of_ble_eq_true rfl) rfl rfl rfl ?_
        refine am_iinc (pc' := 122) (ls' := [some (.ref 45), none, some (.int v2), some (.int v3), some (.int v4), none, some (.int v6), some (.int (v7 + (0 : Int32))), some (.int v9), some (.int (v9 + (1 : Int32))), some (.int w0)]) dX12_riches_119 rfl (show v9 + Int32.ofInt 1 = (v9 + (1 : Int32)) from congrArg (fun z => v9 + z) kc_1) (Nat.le_of_ble_eq_true rfl) rfl rfl rfl ?_
        refine am_goto 49 dX12_riches_122 rfl ?_
        refine am_weak (ls' := [some (.ref 45), none, some (.int v2), some (.int v3), some (.int v4), none, some (.int v6), some (.int (v7 + (0 : Int32))), some (.int v9), some (.int (v9 + (1 : Int32))), none]) [false, false, false, false, false, false, false, false, false, false, true] rfl ?_
        exact hk49 _ _ _ _ _ _ _ _ _ hres
  · rw [if_neg hc13] at hres
    refine am_iconst (pc' := 92) (v := 1) dX12_riches_91 kc_1 rfl ?_
    refine am_goto 96 dX12_riches_92 rfl ?_
    refine am_iadd (pc' := 97) dX12_riches_96 rfl ?_
    refine am_istore (pc' := 99) (ls' := [some (.ref 45), none, some (.int v2), some (.int v3), some (.int v4), none, some (.int v6), some (.int (v7 + (1 : Int32))), some (.int v8), some (.int v9), some (.int w0)]) dX12_riches_97 (Nat.le_of_ble_eq_true rfl) rfl rfl rfl ?_
    refine am_iload (pc' := 101) dX12_riches_99 rfl rfl ?_
    refine am_if_eq (pc' := 104) 115 dX12_riches_101 rfl rfl (fun hc16 => ?_) (fun hc16 => ?_)
    · rw [if_pos hc16] at hres
      refine am_iload (pc' := 117) dX12_riches_115 rfl rfl ?_
      refine am_istore (pc' := 119) (ls' := [some (.ref 45), none, some (.int v2), some (.int v3), some (.int v4), none, some (.int v6), some (.int (v7 + (1 : Int32))), some (.int v8), some (.int v9), some (.int w0)]) dX12_riches_117 (Nat.le_of_ble_eq_true rfl) rfl rfl rfl ?_
      refine am_iinc (pc' := 122) (ls' := [some (.ref 45), none, some (.int v2), some (.int v3), some (.int v4), none, some (.int v6), some (.int (v7 + (1 : Int32))), some (.int v8), some (.int (v9 + (1 : Int32))), some (.int w0)]) dX12_riches_119 rfl (show v9 + Int32.ofInt 1 = (v9 + (1 : Int32)) from congrArg (fun z => v9 + z) kc_1) (Nat.le_of_ble_eq_true rfl) rfl rfl rfl ?_
      refine am_goto 49 dX12_riches_122 rfl ?_
      refine am_weak (ls' := [some (.ref 45), none, some (.int v2), some (.int v3), some (.int v4), none, some (.int v6), some (.int (v7 + (1 : Int32))), some (.int v8), some (.int (v9 + (1 : Int32))), none]) [false, false, false, false, false, false, false, false, false, false, true] rfl ?_
      exact hk49 _ _ _ _ _ _ _ _ _ hres
    · rw [if_neg hc16] at hres
      refine am_iload (pc' := 106) dX12_riches_104 rfl rfl ?_
      refine am_iconst (pc' := 107) (v := (-1)) dX12_riches_106 kc_m1 rfl ?_
      refine am_icmp_ne (pc' := 110) 115 dX12_riches_107 rfl rfl (fun hc17 => ?_) (fun hc17 => ?_)
      · rw [if_neg hc17] at hres
        refine am_iload (pc' := 117) dX12_riches_115 rfl rfl ?_
        refine am_istore (pc' := 119) (ls' := [some (.ref 45), none, some (.int v2), some (.int v3), some (.int v4), none, some (.int v6), some (.int (v7 + (1 : Int32))), some (.int v8), some (.int v9), some (.int w0)]) dX12_riches_117 (Nat.le_of_ble_eq_true rfl) rfl rfl rfl ?_
        refine am_iinc (pc' := 122) (ls' := [some (.ref 45), none, some (.int v2), some (.int v3), some (.int v4), none, some (.int v6), some (.int (v7 + (1 : Int32))), some (.int v8), some (.int (v9 + (1 : Int32))), some (.int w0)]) dX12_riches_119 rfl (show v9 + Int32.ofInt 1 = (v9 + (1 : Int32)) from congrArg (fun z => v9 + z) kc_1) (Nat.le_of_ble_eq_true rfl) rfl rfl rfl ?_
        refine am_goto 49 dX12_riches_122 rfl ?_
        refine am_weak (ls' := [some (.ref 45), none, some (.int v2), some (.int v3), some (.int v4), none, some (.int v6), some (.int (v7 + (1 : Int32))), some (.int v8), some (.int (v9 + (1 : Int32))), none]) [false, false, false, false, false, false, false, false, false, false, true] rfl ?_
        exact hk49 _ _ _ _ _ _ _ _ _ hres
      · rw [if_pos hc17] at hres
        refine am_iload (pc' := 112) dX12_riches_110 rfl rfl ?_
        refine am_goto 117 dX12_riches_112 rfl ?_
        refine am_istore (pc' := 119) (ls' := [some (.ref 45), none, some (.int v2), some (.int v3), some (.int v4), none, some (.int v6), some (.int (v7 + (1 : Int32))), some (.int v9), some (.int v9), some (.int w0)]) dX12_riches_117 (Nat.le_of_ble_eq_true rfl) rfl rfl rfl ?_
        refine am_iinc (pc' := 122) (ls' := [some (.ref 45), none, some (.int v2), some (.int v3), some (.int v4), none, some (.int v6), some (.int (v7 + (1 : Int32))), some (.int v9), some (.int (v9 + (1 : Int32))), some (.int w0)]) dX12_riches_119 rfl (show v9 + Int32.ofInt 1 = (v9 + (1 : Int32)) from congrArg (fun z => v9 + z) kc_1) (Nat.le_of_ble_eq_true rfl) rfl rfl rfl ?_
        refine am_goto 49 dX12_riches_122 rfl ?_
        refine am_weak (ls' := [some (.ref 45), none, some (.int v2), some (.int v3), some (.int v4), none, some (.int v6), some (.int (v7 + (1 : Int32))), some (.int v9), some (.int (v9 + (1 : Int32))), none]) [false, false, false, false, false, false, false, false, false, false, true] rfl ?_
        exact hk49 _ _ _ _ _ _ _ _ _ hres

set_option maxRecDepth 100000 in
set_option maxHeartbeats 4000000 in
theorem wx_X12_riches_49 (S0 : sx_T) : ∀ (n : Nat) (v2 : Int32) (v3 : Int32) (v4 : Int32) (v6 : Int32) (v7 : Int32) (v8 : Int32) (v9 : Int32) (S : sm_T) (res : Int32 × sm_T) (hres : fx_X12_riches_49 n v2 v3 v4 v6 v7 v8 v9 S = some res), am_G mX12_riches (none, 7, 0, 0, (some (.int res.1)), (sx_w S0 (sm_w res.2))) (0, 0) 49 [some (.ref 45), none, some (.int v2), some (.int v3), some (.int v4), none, some (.int v6), some (.int v7), some (.int v8), some (.int v9), none] [] (sx_w S0 (sm_w S)) := by
  intro n
  induction n with
  | zero =>
    intro v2 v3 v4 v6 v7 v8 v9 S res hres
    cases hres
  | succ n ih =>
    intro v2 v3 v4 v6 v7 v8 v9 S res hres
    rw [fx_X12_riches_49] at hres
    refine am_iload (pc' := 51) dX12_riches_49 rfl rfl ?_
    refine am_sipush (pc' := 54) (v := 999) dX12_riches_51 ks_999 rfl ?_
    refine am_icmp_gt (pc' := 57) 125 dX12_riches_54 rfl rfl (fun hc6 => ?_) (fun hc6 => ?_)
    · rw [if_pos hc6] at hres
      refine am_aload_n (pc' := 126) 0 dX12_riches_125 rfl rfl rfl ?_
      refine am_get (pc' := 129) (v := .ref 48) dX12_riches_126 fl_X12_16 (sm_c45 S0 S) rfl rfl ?_
      refine am_iconst (pc' := 130) (v := 2) dX12_riches_129 kc_2 rfl ?_
      refine am_iload_n (pc' := 131) 3 dX12_riches_130 rfl rfl rfl ?_
      refine am_imul (pc' := 132) dX12_riches_131 rfl ?_
      refine am_iload (pc' := 134) dX12_riches_132 rfl rfl ?_
      obtain ⟨hr7, hres⟩ := am_rg hres
      refine am_iast (pc' := 135) (f := (sm_ones S)) (ws' := (sx_w S0 (sm_w (um_ones S (upd (sm_ones S) ((2 : Int32) * v3).toNatClampNeg v6))))) dX12_riches_134 (sm_c48 S0 S) hr7 (sm_p_ones S0 S _) rfl ?_
      refine am_iload (pc' := 137) dX12_riches_135 rfl rfl ?_
      refine am_if_ne (pc' := 140) 145 dX12_riches_137 rfl rfl (fun hc8 => ?_) (fun hc8 => ?_)
      · rw [if_neg hc8] at hres
        refine am_iload (pc' := 147) dX12_riches_145 rfl rfl ?_
        obtain rfl := Option.some.inj hres
        exact am_iret dX12_riches_147 rfl rfl rfl
      · rw [if_pos hc8] at hres
        refine am_iload (pc' := 142) dX12_riches_140 rfl rfl ?_
        refine am_goto 147 dX12_riches_142 rfl ?_
        obtain rfl := Option.some.inj hres
        exact am_iret dX12_riches_147 rfl rfl rfl
    · rw [if_neg hc6] at hres
      refine am_aload_n (pc' := 58) 0 dX12_riches_57 rfl rfl rfl ?_
      refine am_get (pc' := 61) (v := .ref 48) dX12_riches_58 fl_X12_16 (sm_c45 S0 S) rfl rfl ?_
      refine am_iconst (pc' := 62) (v := 2) dX12_riches_61 kc_2 rfl ?_
      refine am_iload_n (pc' := 63) 3 dX12_riches_62 rfl rfl rfl ?_
      refine am_imul (pc' := 64) dX12_riches_63 rfl ?_
      refine am_iload (pc' := 66) dX12_riches_64 rfl rfl ?_
      obtain ⟨hr9, hres⟩ := am_rg hres
      refine am_iast (pc' := 67) (f := (sm_ones S)) (ws' := (sx_w S0 (sm_w (um_ones S (upd (sm_ones S) ((2 : Int32) * v3).toNatClampNeg v9))))) dX12_riches_66 (sm_c48 S0 S) hr9 (sm_p_ones S0 S _) rfl ?_
      refine am_aload_n (pc' := 68) 0 dX12_riches_67 rfl rfl rfl ?_
      refine am_iload_n (pc' := 69) 2 dX12_riches_68 rfl rfl rfl ?_
      refine am_iload_n (pc' := 70) 3 dX12_riches_69 rfl rfl rfl ?_
      obtain ⟨q10, hq11, hres⟩ := am_bd_s hres
      refine am_cV (pc' := 73) (st' := [.int q10.1]) [] [.int v2, .int v3] dX12_riches_70 cs_X12_248 (tx_X12_unlike S0 v2 v3 (um_ones S (upd (sm_ones S) ((2 : Int32) * v3).toNatClampNeg v9)) _ hq11) rfl rfl rfl (sm_c45 S0 (um_ones S (upd (sm_ones S) ((2 : Int32) * v3).toNatClampNeg v9))) rfl rfl rfl rfl rfl ?_
      refine am_iconst (pc' := 74) (v := (-1)) dX12_riches_73 kc_m1 rfl ?_
      refine am_icmp_ne (pc' := 77) 81 dX12_riches_74 rfl rfl (fun hc12 => ?_) (fun hc12 => ?_)
      · rw [if_neg hc12] at hres
        refine am_iconst (pc' := 82) (v := 0) dX12_riches_81 kc_0 rfl ?_
        exact wx_X12_riches_82 S0 _ (fun a0 a1 a2 a3 a4 a5 a6 a7 => ih a0 a1 a2 a3 a4 a5 a6 a7) _ _ _ _ _ _ _ _ _ _ hres
      · rw [if_pos hc12] at hres
        refine am_iconst (pc' := 78) (v := 1) dX12_riches_77 kc_1 rfl ?_
        refine am_goto 82 dX12_riches_78 rfl ?_
        exact wx_X12_riches_82 S0 _ (fun a0 a1 a2 a3 a4 a5 a6 a7 => ih a0 a1 a2 a3 a4 a5 a6 a7) _ _ _ _ _ _ _ _ _ _ hres

set_option maxRecDepth 100000 in
set_option maxHeartbeats 4000000 in
theorem tx_X12_riches (S0 : sx_T) (a1 : Int32) (a2 : Int32) (a3 : Int32) (a4 : Int32) (S : sm_T) (res : Int32 × sm_T) (hres : fx_X12_riches a1 a2 a3 a4 S = some res) : am_T mX12_riches 7 0 0 [.ref 45, .int a1, .int a2, .int a3, .int a4] (sx_w S0 (sm_w S)) (some (.int res.1)) (sx_w S0 (sm_w res.2)) := by
  refine am_meth (ls := [some (.ref 45), some (.int a1), some (.int a2), some (.int a3), some (.int a4), none, none, none, none, none, none]) (by decide +kernel) rfl (Nat.le_of_ble_eq_true rfl) (sm_len _ _ _ _) ?_
  rw [fx_X12_riches] at hres
  refine am_aload_n (pc' := 1) 0 dX12_riches_0 rfl rfl rfl ?_
  refine am_iload_n (pc' := 2) 1 dX12_riches_1 rfl rfl rfl ?_
  refine am_iload_n (pc' := 3) 2 dX12_riches_2 rfl rfl rfl ?_
  refine am_iload_n (pc' := 4) 3 dX12_riches_3 rfl rfl rfl ?_
  obtain ⟨q1, hq2, hres⟩ := am_bd_s hres
  refine am_cV (pc' := 7) (st' := [.int q1.1]) [] [.int a1, .int a2, .int a3] dX12_riches_4 cs_X12_245 (tx_X12_toldWrong S0 a1 a2 a3 S _ hq2) rfl rfl rfl (sm_c45 S0 S) rfl rfl rfl rfl rfl ?_
  refine am_istore (pc' := 9) (ls' := [some (.ref 45), some (.int a1), some (.int a2), some (.int a3), some (.int a4), some (.int q1.1), none, none, none, none, none]) dX12_riches_7 (Nat.le_of_ble_eq_true rfl) rfl rfl rfl ?_
  refine am_iload (pc' := 11) dX12_riches_9 rfl rfl ?_
  refine am_if_eq (pc' := 14) 17 dX12_riches_11 rfl rfl (fun hc3 => ?_) (fun hc3 => ?_)
  · rw [if_pos hc3] at hres
    refine am_iload (pc' := 19) dX12_riches_17 rfl rfl ?_
    refine am_iconst (pc' := 20) (v := 0) dX12_riches_19 kc_0 rfl ?_
    refine am_iconst (pc' := 21) (v := 1) dX12_riches_20 kc_1 rfl ?_
    refine am_cS (pc' := 24) (st' := [.int (fx_X12_in a4 (0 : Int32) (1 : Int32))]) [] [.int a4, .int (0 : Int32), .int (1 : Int32)] dX12_riches_21 cs_X12_90 (tx_X12_in (sx_w S0 (sm_w q1.2)) a4 (0 : Int32) (1 : Int32) _ rfl) rfl rfl rfl rfl rfl rfl ?_
    refine am_if_ne (pc' := 27) 30 dX12_riches_24 rfl rfl (fun hc4 => ?_) (fun hc4 => ?_)
    · rw [if_neg hc4] at hres
      refine am_aload_n (pc' := 31) 0 dX12_riches_30 rfl rfl rfl ?_
      refine am_get (pc' := 34) (v := .ref 48) dX12_riches_31 fl_X12_16 (sm_c45 S0 q1.2) rfl rfl ?_
      refine am_iconst (pc' := 35) (v := 2) dX12_riches_34 kc_2 rfl ?_
      refine am_iload_n (pc' := 36) 3 dX12_riches_35 rfl rfl rfl ?_
      refine am_imul (pc' := 37) dX12_riches_36 rfl ?_
      obtain ⟨hr5, hres⟩ := am_rg hres
      refine am_iald (pc' := 38) (f := (sm_ones q1.2)) dX12_riches_37 (sm_c48 S0 q1.2) hr5 rfl ?_
      refine am_istore (pc' := 40) (ls' := [some (.ref 45), some (.int a1), some (.int a2), some (.int a3), some (.int a4), some (.int q1.1), some (.int ((sm_ones q1.2) ((2 : Int32) * a3).toNatClampNeg)), none, none, none, none]) dX12_riches_38 (Nat.le_of_ble_eq_true rfl) rfl rfl rfl ?_
      refine am_iconst (pc' := 41) (v := 0) dX12_riches_40 kc_0 rfl ?_
      refine am_istore (pc' := 43) (ls' := [some (.ref 45), some (.int a1), some (.int a2), some (.int a3), some (.int a4), some (.int q1.1), some (.int ((sm_ones q1.2) ((2 : Int32) * a3).toNatClampNeg)), some (.int (0 : Int32)), none, none, none]) dX12_riches_41 (Nat.le_of_ble_eq_true rfl) rfl rfl rfl ?_
      refine am_iconst (pc' := 44) (v := (-1)) dX12_riches_43 kc_m1 rfl ?_
      refine am_istore (pc' := 46) (ls' := [some (.ref 45), some (.int a1), some (.int a2), some (.int a3), some (.int a4), some (.int q1.1), some (.int ((sm_ones q1.2) ((2 : Int32) * a3).toNatClampNeg)), some (.int (0 : Int32)), some (.int (-1 : Int32)), none, none]) dX12_riches_44 (Nat.le_of_ble_eq_true rfl) rfl rfl rfl ?_
      refine am_iconst (pc' := 47) (v := 0) dX12_riches_46 kc_0 rfl ?_
      refine am_istore (pc' := 49) (ls' := [some (.ref 45), some (.int a1), some (.int a2), some (.int a3), some (.int a4), some (.int q1.1), some (.int ((sm_ones q1.2) ((2 : Int32) * a3).toNatClampNeg)), some (.int (0 : Int32)), some (.int (-1 : Int32)), some (.int (0 : Int32)), none]) dX12_riches_47 (Nat.le_of_ble_eq_true rfl) rfl rfl rfl ?_
      refine am_weak (ls' := [some (.ref 45), none, some (.int a2), some (.int a3), some (.int a4), none, some (.int ((sm_ones q1.2) ((2 : Int32) * a3).toNatClampNeg)), some (.int (0 : Int32)), some (.int (-1 : Int32)), some (.int (0 : Int32)), none]) [false, true, false, false, false, true, false, false, false, false, false] rfl ?_
      exact wx_X12_riches_49 S0 am_fu _ _ _ _ _ _ _ _ _ hres
    · rw [if_pos hc4] at hres
      refine am_bipush (pc' := 29) (v := (-7)) dX12_riches_27 kb_m7 rfl ?_
      obtain rfl := Option.some.inj hres
      exact am_iret dX12_riches_29 rfl rfl rfl
  · rw [if_neg hc3] at hres
    refine am_iload (pc' := 16) dX12_riches_14 rfl rfl ?_
    obtain rfl := Option.some.inj hres
    exact am_iret dX12_riches_16 rfl rfl rfl
set_option maxRecDepth 100000 in
set_option maxHeartbeats 4000000 in
theorem tx_X12_room (S0 : sx_T) (a1 : Int32) (a2 : Int32) (a3 : Int32) (S : sm_T) (res : Int32 × sm_T) (hres : fx_X12_room a1 a2 a3 S = some res) : am_T mX12_room 2 0 0 [.ref 45, .int a1, .int a2, .int a3] (sx_w S0 (sm_w S)) (some (.int res.1)) (sx_w S0 (sm_w res.2)) := by
  refine am_meth (ls := [some (.ref 45), some (.int a1), some (.int a2), some (.int a3), none]) (by decide +kernel) rfl (Nat.le_of_ble_eq_true rfl) (sm_len _ _ _ _) ?_
  rw [fx_X12_room] at hres
  refine am_iload_n (pc' := 1) 1 dX12_room_0 rfl rfl rfl ?_
  refine am_cS (pc' := 4) (st' := [.int (fx_X12_isRoom a1)]) [] [.int a1] dX12_room_1 cs_X12_100 (tx_X12_isRoom (sx_w S0 (sm_w S)) a1 _ rfl) rfl rfl rfl rfl rfl rfl ?_
  refine am_if_ne (pc' := 7) 10 dX12_room_4 rfl rfl (fun hc1 => ?_) (fun hc1 => ?_)
  · rw [if_neg hc1] at hres
    refine am_iload_n (pc' := 11) 2 dX12_room_10 rfl rfl rfl ?_
    refine am_iconst (pc' := 12) (v := 0) dX12_room_11 kc_0 rfl ?_
    refine am_iconst (pc' := 13) (v := 1) dX12_room_12 kc_1 rfl ?_
    refine am_cS (pc' := 16) (st' := [.int (fx_X12_in a2 (0 : Int32) (1 : Int32))]) [] [.int a2, .int (0 : Int32), .int (1 : Int32)] dX12_room_13 cs_X12_90 (tx_X12_in (sx_w S0 (sm_w S)) a2 (0 : Int32) (1 : Int32) _ rfl) rfl rfl rfl rfl rfl rfl ?_
    refine am_if_eq (pc' := 19) 29 dX12_room_16 rfl rfl (fun hc2 => ?_) (fun hc2 => ?_)
    · rw [if_pos hc2] at hres
      refine am_bipush (pc' := 31) (v := (-7)) dX12_room_29 kb_m7 rfl ?_
      obtain rfl := Option.some.inj hres
      exact am_iret dX12_room_31 rfl rfl rfl
    · rw [if_neg hc2] at hres
      refine am_iload_n (pc' := 20) 3 dX12_room_19 rfl rfl rfl ?_
      refine am_iconst (pc' := 21) (v := 0) dX12_room_20 kc_0 rfl ?_
      refine am_bipush (pc' := 23) (v := 99) dX12_room_21 kb_99 rfl ?_
      refine am_cS (pc' := 26) (st' := [.int (fx_X12_in a3 (0 : Int32) (99 : Int32))]) [] [.int a3, .int (0 : Int32), .int (99 : Int32)] dX12_room_23 cs_X12_90 (tx_X12_in (sx_w S0 (sm_w S)) a3 (0 : Int32) (99 : Int32) _ rfl) rfl rfl rfl rfl rfl rfl ?_
      refine am_if_ne (pc' := 29) 32 dX12_room_26 rfl rfl (fun hc3 => ?_) (fun hc3 => ?_)
      · rw [if_neg hc3] at hres
        refine am_aload_n (pc' := 33) 0 dX12_room_32 rfl rfl rfl ?_
        refine am_get (pc' := 36) (v := .ref 49) dX12_room_33 fl_X12_19 (sm_c45 S0 S) rfl rfl ?_
        refine am_iconst (pc' := 37) (v := 2) dX12_room_36 kc_2 rfl ?_
        refine am_iload_n (pc' := 38) 1 dX12_room_37 rfl rfl rfl ?_
        refine am_imul (pc' := 39) dX12_room_38 rfl ?_
        refine am_iload_n (pc' := 40) 2 dX12_room_39 rfl rfl rfl ?_
        refine am_iadd (pc' := 41) dX12_room_40 rfl ?_
        obtain ⟨hr4, hres⟩ := am_rg hres
        refine am_iald (pc' := 42) (f := (sm_flat S)) dX12_room_41 (sm_c49 S0 S) hr4 rfl ?_
        refine am_istore (pc' := 44) (ls' := [some (.ref 45), some (.int a1), some (.int a2), some (.int a3), some (.int ((sm_flat S) (((2 : Int32) * a1) + a2).toNatClampNeg))]) dX12_room_42 (Nat.le_of_ble_eq_true rfl) rfl rfl rfl ?_
        refine am_aload_n (pc' := 45) 0 dX12_room_44 rfl rfl rfl ?_
        refine am_get (pc' := 48) (v := .ref 49) dX12_room_45 fl_X12_19 (sm_c45 S0 S) rfl rfl ?_
        refine am_iconst (pc' := 49) (v := 2) dX12_room_48 kc_2 rfl ?_
        refine am_iload_n (pc' := 50) 1 dX12_room_49 rfl rfl rfl ?_
        refine am_imul (pc' := 51) dX12_room_50 rfl ?_
        refine am_iload_n (pc' := 52) 2 dX12_room_51 rfl rfl rfl ?_
        refine am_iadd (pc' := 53) dX12_room_52 rfl ?_
        refine am_iload_n (pc' := 54) 3 dX12_room_53 rfl rfl rfl ?_
        obtain ⟨hr5, hres⟩ := am_rg hres
        refine am_iast (pc' := 55) (f := (sm_flat S)) (ws' := (sx_w S0 (sm_w (um_flat S (upd (sm_flat S) (((2 : Int32) * a1) + a2).toNatClampNeg a3))))) dX12_room_54 (sm_c49 S0 S) hr5 (sm_p_flat S0 S _) rfl ?_
        refine am_iload (pc' := 57) dX12_room_55 rfl rfl ?_
        obtain rfl := Option.some.inj hres
        exact am_iret dX12_room_57 rfl rfl rfl
      · rw [if_pos hc3] at hres
        refine am_bipush (pc' := 31) (v := (-7)) dX12_room_29 kb_m7 rfl ?_
        obtain rfl := Option.some.inj hres
        exact am_iret dX12_room_31 rfl rfl rfl
  · rw [if_pos hc1] at hres
    refine am_bipush (pc' := 9) (v := (-5)) dX12_room_7 kb_m5 rfl ?_
    obtain rfl := Option.some.inj hres
    exact am_iret dX12_room_9 rfl rfl rfl
set_option maxRecDepth 100000 in
set_option maxHeartbeats 4000000 in
theorem wx_X12_rooms_118 (S0 : sx_T) (k87 : Int32 → Int32 → Int32 → Int32 → Int32 → Int32 → Int32 → Int32 → sm_T → Option (Int32 × sm_T)) (hk87 : ∀ (v2 : Int32) (v3 : Int32) (v4 : Int32) (v7 : Int32) (v8 : Int32) (v9 : Int32) (v10 : Int32) (v11 : Int32) (S : sm_T) (res : Int32 × sm_T), k87 v2 v3 v4 v7 v8 v9 v10 v11 S = some res → am_G mX12_rooms (none, 7, 0, 0, (some (.int res.1)), (sx_w S0 (sm_w res.2))) (0, 0) 87 [some (.ref 45), none, some (.int v2), some (.int v3), some (.int v4), none, none, some (.int v7), some (.int v8), some (.int v9), some (.int v10), some (.int v11), none] [] (sx_w S0 (sm_w S))) : ∀ (v2 : Int32) (v3 : Int32) (v4 : Int32) (v7 : Int32) (v8 : Int32) (v9 : Int32) (v10 : Int32) (v11 : Int32) (w0 : Int32) (S : sm_T) (res : Int32 × sm_T) (hres : fx_X12_rooms_118 k87 v2 v3 v4 v7 v8 v9 v10 v11 w0 S = some res), am_G mX12_rooms (none, 7, 0, 0, (some (.int res.1)), (sx_w S0 (sm_w res.2))) (0, 0) 118 [some (.ref 45), none, some (.int v2), some (.int v3), some (.int v4), none, none, some (.int v7), some (.int v8), some (.int v9), some (.int v10), some (.int v11), none] [.int w0] (sx_w S0 (sm_w S)) := by
  intro v2 v3 v4 v7 v8 v9 v10 v11 w0 S res hres
  rw [fx_X12_rooms_118] at hres
  refine am_istore (pc' := 120) (ls' := [some (.ref 45), none, some (.int v2), some (.int v3), some (.int v4), none, none, some (.int v7), some (.int v8), some (.int v9), some (.int v10), some (.int v11), some (.int w0)]) dX12_rooms_118 (Nat.le_of_ble_eq_true rfl) rfl rfl rfl ?_
  refine am_iload (pc' := 122) dX12_rooms_120 rfl rfl ?_
  refine am_iload (pc' := 124) dX12_rooms_122 rfl rfl ?_
  refine am_if_eq (pc' := 127) 131 dX12_rooms_124 rfl rfl (fun hc15 => ?_) (fun hc15 => ?_)
  · rw [if_pos hc15] at hres
    refine am_iconst (pc' := 132) (v := 0) dX12_rooms_131 kc_0 rfl ?_
    refine am_iadd (pc' := 133) dX12_rooms_132 rfl ?_
    refine am_istore (pc' := 135) (ls' := [some (.ref 45), none, some (.int v2), some (.int v3), some (.int v4), none, none, some (.int v7), some (.int v8), some (.int (v9 + (0 : Int32))), some (.int v10), some (.int v11), some (.int w0)]) dX12_rooms_133 (Nat.le_of_ble_eq_true rfl) rfl rfl rfl ?_
    refine am_iload (pc' := 137) dX12_rooms_135 rfl rfl ?_
    refine am_if_eq (pc' := 140) 151 dX12_rooms_137 rfl rfl (fun hc16 => ?_) (fun hc16 => ?_)
    · rw [if_pos hc16] at hres
      refine am_iload (pc' := 153) dX12_rooms_151 rfl rfl ?_
      refine am_istore (pc' := 155) (ls' := [some (.ref 45), none, some (.int v2), some (.int v3), some (.int v4), none, none, some (.int v7), some (.int v8), some (.int (v9 + (0 : Int32))), some (.int v10), some (.int v11), some (.int w0)]) dX12_rooms_153 (Nat.le_of_ble_eq_true rfl) rfl rfl rfl ?_
      refine am_iinc (pc' := 158) (ls' := [some (.ref 45), none, some (.int v2), some (.int v3), some (.int v4), none, none, some (.int v7), some (.int v8), some (.int (v9 + (0 : Int32))), some (.int v10), some (.int (v11 + (1 : Int32))), some (.int w0)]) dX12_rooms_155 rfl (show v11 + Int32.ofInt 1 = (v11 + (1 : Int32)) from congrArg (fun z => v11 + z) kc_1) (Nat.le_of_ble_eq_true rfl) rfl rfl rfl ?_
      refine am_goto 87 dX12_rooms_158 rfl ?_
      refine am_weak (ls' := [some (.ref 45), none, some (.int v2), some (.int v3), some (.int v4), none, none, some (.int v7), some (.int v8), some (.int (v9 + (0 : Int32))), some (.int v10), some (.int (v11 + (1 : Int32))), none]) [false, false, false, false, false, false, false, false, false, false, false, false, true] rfl ?_
      exact hk87 _ _ _ _ _ _ _ _ _ _ hres
    · rw [if_neg hc16] at hres
      refine am_iload (pc' := 142) dX12_rooms_140 rfl rfl ?_
      refine am_iconst (pc' := 143) (v := (-1)) dX12_rooms_142 kc_m1 rfl ?_
      refine am_icmp_ne (pc' := 146) 151 dX12_rooms_143 rfl rfl (fun hc17 => ?_) (fun hc17 => ?_)
      · rw [if_neg hc17] at hres
        refine am_iload (pc' := 153) dX12_rooms_151 rfl rfl ?_
        refine am_istore (pc' := 155) (ls' := [some (.ref 45), none, some (.int v2), some (.int v3), some (.int v4), none, none, some (.int v7), some (.int v8), some (.int (v9 + (0 : Int32))), some (.int v10), some (.int v11), some (.int w0)]) dX12_rooms_153 (Nat.le_of_ble_eq_true rfl) rfl rfl rfl ?_
        refine am_iinc (pc' := 158) (ls' := [some (.ref 45), none, some (.int v2), some (.int v3), some (.int v4), none, none, some (.int v7), some (.int v8), some (.int (v9 + (0 : Int32))), some (.int v10), some (.int (v11 + (1 : Int32))), some (.int w0)]) dX12_rooms_155 rfl (show v11 + Int32.ofInt 1 = (v11 + (1 : Int32)) from congrArg (fun z => v11 + z) kc_1) (Nat.le_of_ble_eq_true rfl) rfl rfl rfl ?_
        refine am_goto 87 dX12_rooms_158 rfl ?_
        refine am_weak (ls' := [some (.ref 45), none, some (.int v2), some (.int v3), some (.int v4), none, none, some (.int v7), some (.int v8), some (.int (v9 + (0 : Int32))), some (.int v10), some (.int (v11 + (1 : Int32))), none]) [false, false, false, false, false, false, false, false, false, false, false, false, true] rfl ?_
        exact hk87 _ _ _ _ _ _ _ _ _ _ hres
      · rw [if_pos hc17] at hres
        refine am_iload (pc' := 148) dX12_rooms_146 rfl rfl ?_
        refine am_goto 153 dX12_rooms_148 rfl ?_
        refine am_istore (pc' := 155) (ls' := [some (.ref 45), none, some (.int v2), some (.int v3), some (.int v4), none, none, some (.int v7), some (.int v8), some (.int (v9 + (0 : Int32))), some (.int v11), some (.int v11), some (.int w0)]) dX12_rooms_153 (Nat.le_of_ble_eq_true rfl) rfl rfl rfl ?_
        refine am_iinc (pc' := 158) (ls' := [some (.ref 45), none, some (.int v2), some (.int v3), some (.int v4), none, none, some (.int v7), some (.int v8), some (.int (v9 + (0 : Int32))), some (.int v11), some (.int (v11 + (1 : Int32))), some (.int w0)]) dX12_rooms_155 rfl (show v11 + Int32.ofInt 1 = (v11 + (1 : Int32)) from congrArg (fun z => v11 + z) kc_1) (Nat.le_of_ble_eq_true rfl) rfl rfl rfl ?_
        refine am_goto 87 dX12_rooms_158 rfl ?_
        refine am_weak (ls' := [some (.ref 45), none, some (.int v2), some (.int v3), some (.int v4), none, none, some (.int v7), some (.int v8), some (.int (v9 + (0 : Int32))), some (.int v11), some (.int (v11 + (1 : Int32))), none]) [false, false, false, false, false, false, false, false, false, false, false, false, true] rfl ?_
        exact hk87 _ _ _ _ _ _ _ _ _ _ hres
  · rw [if_neg hc15] at hres
    refine am_iconst (pc' := 128) (v := 1) dX12_rooms_127 kc_1 rfl ?_
    refine am_goto 132 dX12_rooms_128 rfl ?_
    refine am_iadd (pc' := 133) dX12_rooms_132 rfl ?_
    refine am_istore (pc' := 135) (ls' := [some (.ref 45), none, some (.int v2), some (.int v3), some (.int v4), none, none, some (.int v7), some (.int v8), some (.int (v9 + (1 : Int32))), some (.int v10), some (.int v11), some (.int w0)]) dX12_rooms_133 (Nat.le_of_ble_eq_true rfl) rfl rfl rfl ?_
    refine am_iload (pc' := 137) dX12_rooms_135 rfl rfl ?_
    refine am_if_eq (pc' := 140) 151 dX12_rooms_137 rfl rfl (fun hc18 => ?_) (fun hc18 => ?_)
    · rw [if_pos hc18] at hres
      refine am_iload (pc' := 153) dX12_rooms_151 rfl rfl ?_
      refine am_istore (pc' := 155) (ls' := [some (.ref 45), none, some (.int v2), some (.int v3), some (.int v4), none, none, some (.int v7), some (.int v8), some (.int (v9 + (1 : Int32))), some (.int v10), some (.int v11), some (.int w0)]) dX12_rooms_153 (Nat.le_of_ble_eq_true rfl) rfl rfl rfl ?_
      refine am_iinc (pc' := 158) (ls' := [some (.ref 45), none, some (.int v2), some (.int v3), some (.int v4), none, none, some (.int v7), some (.int v8), some (.int (v9 + (1 : Int32))), some (.int v10), some (.int (v11 + (1 : Int32))), some (.int w0)]) dX12_rooms_155 rfl (show v11 + Int32.ofInt 1 = (v11 + (1 : Int32)) from congrArg (fun z => v11 + z) kc_1) (Nat.le_of_ble_eq_true rfl) rfl rfl rfl ?_
      refine am_goto 87 dX12_rooms_158 rfl ?_
      refine am_weak (ls' := [some (.ref 45), none, some (.int v2), some (.int v3), some (.int v4), none, none, some (.int v7), some (.int v8), some (.int (v9 + (1 : Int32))), some (.int v10), some (.int (v11 + (1 : Int32))), none]) [false, false, false, false, false, false, false, false, false, false, false, false, true] rfl ?_
      exact hk87 _ _ _ _ _ _ _ _ _ _ hres
    · rw [if_neg hc18] at hres
      refine am_iload (pc' := 142) dX12_rooms_140 rfl rfl ?_
      refine am_iconst (pc' := 143) (v := (-1)) dX12_rooms_142 kc_m1 rfl ?_
      refine am_icmp_ne (pc' := 146) 151 dX12_rooms_143 rfl rfl (fun hc19 => ?_) (fun hc19 => ?_)
      · rw [if_neg hc19] at hres
        refine am_iload (pc' := 153) dX12_rooms_151 rfl rfl ?_
        refine am_istore (pc' := 155) (ls' := [some (.ref 45), none, some (.int v2), some (.int v3), some (.int v4), none, none, some (.int v7), some (.int v8), some (.int (v9 + (1 : Int32))), some (.int v10), some (.int v11), some (.int w0)]) dX12_rooms_153 (Nat.le_of_ble_eq_true rfl) rfl rfl rfl ?_
        refine am_iinc (pc' := 158) (ls' := [some (.ref 45), none, some (.int v2), some (.int v3), some (.int v4), none, none, some (.int v7), some (.int v8), some (.int (v9 + (1 : Int32))), some (.int v10), some (.int (v11 + (1 : Int32))), some (.int w0)]) dX12_rooms_155 rfl (show v11 + Int32.ofInt 1 = (v11 + (1 : Int32)) from congrArg (fun z => v11 + z) kc_1) (Nat.le_of_ble_eq_true rfl) rfl rfl rfl ?_
        refine am_goto 87 dX12_rooms_158 rfl ?_
        refine am_weak (ls' := [some (.ref 45), none, some (.int v2), some (.int v3), some (.int v4), none, none, some (.int v7), some (.int v8), some (.int (v9 + (1 : Int32))), some (.int v10), some (.int (v11 + (1 : Int32))), none]) [false, false, false, false, false, false, false, false, false, false, false, false, true] rfl ?_
        exact hk87 _ _ _ _ _ _ _ _ _ _ hres
      · rw [if_pos hc19] at hres
        refine am_iload (pc' := 148) dX12_rooms_146 rfl rfl ?_
        refine am_goto 153 dX12_rooms_148 rfl ?_
        refine am_istore (pc' := 155) (ls' := [some (.ref 45), none, some (.int v2), some (.int v3), some (.int v4), none, none, some (.int v7), some (.int v8), some (.int (v9 + (1 : Int32))), some (.int v11), some (.int v11), some (.int w0)]) dX12_rooms_153 (Nat.le_of_ble_eq_true rfl) rfl rfl rfl ?_
        refine am_iinc (pc' := 158) (ls' := [some (.ref 45), none, some (.int v2), some (.int v3), some (.int v4), none, none, some (.int v7), some (.int v8), some (.int (v9 + (1 : Int32))), some (.int v11), some (.int (v11 + (1 : Int32))), some (.int w0)]) dX12_rooms_155 rfl (show v11 + Int32.ofInt 1 = (v11 + (1 : Int32)) from congrArg (fun z => v11 + z) kc_1) (Nat.le_of_ble_eq_true rfl) rfl rfl rfl ?_
        refine am_goto 87 dX12_rooms_158 rfl ?_
        refine am_weak (ls' := [some (.ref 45), none, some (.int v2), some (.int v3), some (.int v4), none, none, some (.int v7), some (.int v8), some (.int (v9 + (1 : Int32))), some (.int v11), some (.int (v11 + (1 : Int32))), none]) [false, false, false, false, false, false, false, false, false, false, false, false, true] rfl ?_
        exact hk87 _ _ _ _ _ _ _ _ _ _ hres

set_option maxRecDepth 100000 in
set_option maxHeartbeats 4000000 in
theorem wx_X12_rooms_87 (S0 : sx_T) : ∀ (n : Nat) (v2 : Int32) (v3 : Int32) (v4 : Int32) (v7 : Int32) (v8 : Int32) (v9 : Int32) (v10 : Int32) (v11 : Int32) (S : sm_T) (res : Int32 × sm_T) (hres : fx_X12_rooms_87 n v2 v3 v4 v7 v8 v9 v10 v11 S = some res), am_G mX12_rooms (none, 7, 0, 0, (some (.int res.1)), (sx_w S0 (sm_w res.2))) (0, 0) 87 [some (.ref 45), none, some (.int v2), some (.int v3), some (.int v4), none, none, some (.int v7), some (.int v8), some (.int v9), some (.int v10), some (.int v11), none] [] (sx_w S0 (sm_w S)) := by
  intro n
  induction n with
  | zero =>
    intro v2 v3 v4 v7 v8 v9 v10 v11 S res hres
    cases hres
  | succ n ih =>
    intro v2 v3 v4 v7 v8 v9 v10 v11 S res hres
    rw [fx_X12_rooms_87] at hres
    refine am_iload (pc' := 89) dX12_rooms_87 rfl rfl ?_
    refine am_bipush (pc' := 91) (v := 99) dX12_rooms_89 kb_99 rfl ?_
    refine am_icmp_gt (pc' := 94) 161 dX12_rooms_91 rfl rfl (fun hc8 => ?_) (fun hc8 => ?_)
    · rw [if_pos hc8] at hres
      refine am_aload_n (pc' := 162) 0 dX12_rooms_161 rfl rfl rfl ?_
      refine am_get (pc' := 165) (v := .ref 49) dX12_rooms_162 fl_X12_19 (sm_c45 S0 S) rfl rfl ?_
      refine am_iload (pc' := 167) dX12_rooms_165 rfl rfl ?_
      refine am_iload (pc' := 169) dX12_rooms_167 rfl rfl ?_
      obtain ⟨hr9, hres⟩ := am_rg hres
      refine am_iast (pc' := 170) (f := (sm_flat S)) (ws' := (sx_w S0 (sm_w (um_flat S (upd (sm_flat S) v7.toNatClampNeg v8))))) dX12_rooms_169 (sm_c49 S0 S) hr9 (sm_p_flat S0 S _) rfl ?_
      refine am_iload (pc' := 172) dX12_rooms_170 rfl rfl ?_
      refine am_bipush (pc' := 174) (v := 10) dX12_rooms_172 kb_10 rfl ?_
      refine am_irem (pc' := 175) dX12_rooms_174 (by decide) rfl ?_
      refine am_if_ne (pc' := 178) 183 dX12_rooms_175 rfl rfl (fun hc10 => ?_) (fun hc10 => ?_)
      · rw [if_neg hc10] at hres
        refine am_iload (pc' := 185) dX12_rooms_183 rfl rfl ?_
        obtain rfl := Option.some.inj hres
        exact am_iret dX12_rooms_185 rfl rfl rfl
      · rw [if_pos hc10] at hres
        refine am_iload (pc' := 180) dX12_rooms_178 rfl rfl ?_
        refine am_goto 185 dX12_rooms_180 rfl ?_
        obtain rfl := Option.some.inj hres
        exact am_iret dX12_rooms_185 rfl rfl rfl
    · rw [if_neg hc8] at hres
      refine am_aload_n (pc' := 95) 0 dX12_rooms_94 rfl rfl rfl ?_
      refine am_get (pc' := 98) (v := .ref 49) dX12_rooms_95 fl_X12_19 (sm_c45 S0 S) rfl rfl ?_
      refine am_iload (pc' := 100) dX12_rooms_98 rfl rfl ?_
      refine am_iload (pc' := 102) dX12_rooms_100 rfl rfl ?_
      obtain ⟨hr11, hres⟩ := am_rg hres
      refine am_iast (pc' := 103) (f := (sm_flat S)) (ws' := (sx_w S0 (sm_w (um_flat S (upd (sm_flat S) v7.toNatClampNeg v11))))) dX12_rooms_102 (sm_c49 S0 S) hr11 (sm_p_flat S0 S _) rfl ?_
      refine am_aload_n (pc' := 104) 0 dX12_rooms_103 rfl rfl rfl ?_
      refine am_iload_n (pc' := 105) 2 dX12_rooms_104 rfl rfl rfl ?_
      refine am_iload_n (pc' := 106) 3 dX12_rooms_105 rfl rfl rfl ?_
      obtain ⟨q12, hq13, hres⟩ := am_bd_s hres
      refine am_cV (pc' := 109) (st' := [.int q12.1]) [] [.int v2, .int v3] dX12_rooms_106 cs_X12_248 (tx_X12_unlike S0 v2 v3 (um_flat S (upd (sm_flat S) v7.toNatClampNeg v11)) _ hq13) rfl rfl rfl (sm_c45 S0 (um_flat S (upd (sm_flat S) v7.toNatClampNeg v11))) rfl rfl rfl rfl rfl ?_
      refine am_iconst (pc' := 110) (v := (-1)) dX12_rooms_109 kc_m1 rfl ?_
      refine am_icmp_ne (pc' := 113) 117 dX12_rooms_110 rfl rfl (fun hc14 => ?_) (fun hc14 => ?_)
      · rw [if_neg hc14] at hres
        refine am_iconst (pc' := 118) (v := 0) dX12_rooms_117 kc_0 rfl ?_
        exact wx_X12_rooms_118 S0 _ (fun a0 a1 a2 a3 a4 a5 a6 a7 a8 => ih a0 a1 a2 a3 a4 a5 a6 a7 a8) _ _ _ _ _ _ _ _ _ _ _ hres
      · rw [if_pos hc14] at hres
        refine am_iconst (pc' := 114) (v := 1) dX12_rooms_113 kc_1 rfl ?_
        refine am_goto 118 dX12_rooms_114 rfl ?_
        exact wx_X12_rooms_118 S0 _ (fun a0 a1 a2 a3 a4 a5 a6 a7 a8 => ih a0 a1 a2 a3 a4 a5 a6 a7 a8) _ _ _ _ _ _ _ _ _ _ _ hres

set_option maxRecDepth 100000 in
set_option maxHeartbeats 4000000 in
theorem tx_X12_rooms (S0 : sx_T) (a1 : Int32) (a2 : Int32) (a3 : Int32) (a4 : Int32) (S : sm_T) (res : Int32 × sm_T) (hres : fx_X12_rooms a1 a2 a3 a4 S = some res) : am_T mX12_rooms 7 0 0 [.ref 45, .int a1, .int a2, .int a3, .int a4] (sx_w S0 (sm_w S)) (some (.int res.1)) (sx_w S0 (sm_w res.2)) := by
  refine am_meth (ls := [some (.ref 45), some (.int a1), some (.int a2), some (.int a3), some (.int a4), none, none, none, none, none, none, none, none]) (by decide +kernel) rfl (Nat.le_of_ble_eq_true rfl) (sm_len _ _ _ _) ?_
  rw [fx_X12_rooms] at hres
  refine am_aload_n (pc' := 1) 0 dX12_rooms_0 rfl rfl rfl ?_
  refine am_iload_n (pc' := 2) 1 dX12_rooms_1 rfl rfl rfl ?_
  refine am_iload_n (pc' := 3) 2 dX12_rooms_2 rfl rfl rfl ?_
  refine am_iload_n (pc' := 4) 3 dX12_rooms_3 rfl rfl rfl ?_
  obtain ⟨q1, hq2, hres⟩ := am_bd_s hres
  refine am_cV (pc' := 7) (st' := [.int q1.1]) [] [.int a1, .int a2, .int a3] dX12_rooms_4 cs_X12_245 (tx_X12_toldWrong S0 a1 a2 a3 S _ hq2) rfl rfl rfl (sm_c45 S0 S) rfl rfl rfl rfl rfl ?_
  refine am_istore (pc' := 9) (ls' := [some (.ref 45), some (.int a1), some (.int a2), some (.int a3), some (.int a4), some (.int q1.1), none, none, none, none, none, none, none]) dX12_rooms_7 (Nat.le_of_ble_eq_true rfl) rfl rfl rfl ?_
  refine am_iload (pc' := 11) dX12_rooms_9 rfl rfl ?_
  refine am_if_eq (pc' := 14) 17 dX12_rooms_11 rfl rfl (fun hc3 => ?_) (fun hc3 => ?_)
  · rw [if_pos hc3] at hres
    refine am_iload (pc' := 19) dX12_rooms_17 rfl rfl ?_
    refine am_bipush (pc' := 21) (v := 10) dX12_rooms_19 kb_10 rfl ?_
    refine am_idiv (pc' := 22) dX12_rooms_21 (by decide) rfl ?_
    refine am_bipush (pc' := 24) (v := 10) dX12_rooms_22 kb_10 rfl ?_
    refine am_irem (pc' := 25) dX12_rooms_24 (by decide) rfl ?_
    refine am_istore (pc' := 27) (ls' := [some (.ref 45), some (.int a1), some (.int a2), some (.int a3), some (.int a4), some (.int q1.1), some (.int ((a4 / (10 : Int32)) - (a4 / (10 : Int32)) / (10 : Int32) * (10 : Int32))), none, none, none, none, none, none]) dX12_rooms_25 (Nat.le_of_ble_eq_true rfl) rfl rfl rfl ?_
    refine am_iload (pc' := 29) dX12_rooms_27 rfl rfl ?_
    refine am_iconst (pc' := 30) (v := 0) dX12_rooms_29 kc_0 rfl ?_
    refine am_sipush (pc' := 33) (v := 511) dX12_rooms_30 ks_511 rfl ?_
    refine am_cS (pc' := 36) (st' := [.int (fx_X12_in a4 (0 : Int32) (511 : Int32))]) [] [.int a4, .int (0 : Int32), .int (511 : Int32)] dX12_rooms_33 cs_X12_90 (tx_X12_in (sx_w S0 (sm_w q1.2)) a4 (0 : Int32) (511 : Int32) _ rfl) rfl rfl rfl rfl rfl rfl ?_
    refine am_if_eq (pc' := 39) 54 dX12_rooms_36 rfl rfl (fun hc4 => ?_) (fun hc4 => ?_)
    · rw [if_pos hc4] at hres
      refine am_bipush (pc' := 56) (v := (-7)) dX12_rooms_54 kb_m7 rfl ?_
      obtain rfl := Option.some.inj hres
      exact am_iret dX12_rooms_56 rfl rfl rfl
    · rw [if_neg hc4] at hres
      refine am_iload (pc' := 41) dX12_rooms_39 rfl rfl ?_
      refine am_iconst (pc' := 42) (v := 1) dX12_rooms_41 kc_1 rfl ?_
      refine am_icmp_gt (pc' := 45) 54 dX12_rooms_42 rfl rfl (fun hc5 => ?_) (fun hc5 => ?_)
      · rw [if_pos hc5] at hres
        refine am_bipush (pc' := 56) (v := (-7)) dX12_rooms_54 kb_m7 rfl ?_
        obtain rfl := Option.some.inj hres
        exact am_iret dX12_rooms_56 rfl rfl rfl
      · rw [if_neg hc5] at hres
        refine am_iload (pc' := 47) dX12_rooms_45 rfl rfl ?_
        refine am_bipush (pc' := 49) (v := 10) dX12_rooms_47 kb_10 rfl ?_
        refine am_irem (pc' := 50) dX12_rooms_49 (by decide) rfl ?_
        refine am_iconst (pc' := 51) (v := 1) dX12_rooms_50 kc_1 rfl ?_
        refine am_icmp_le (pc' := 54) 57 dX12_rooms_51 rfl rfl (fun hc6 => ?_) (fun hc6 => ?_)
        · rw [if_pos hc6] at hres
          refine am_iconst (pc' := 58) (v := 2) dX12_rooms_57 kc_2 rfl ?_
          refine am_iload (pc' := 60) dX12_rooms_58 rfl rfl ?_
          refine am_bipush (pc' := 62) (v := 100) dX12_rooms_60 kb_100 rfl ?_
          refine am_idiv (pc' := 63) dX12_rooms_62 (by decide) rfl ?_
          refine am_imul (pc' := 64) dX12_rooms_63 rfl ?_
          refine am_iload (pc' := 66) dX12_rooms_64 rfl rfl ?_
          refine am_iadd (pc' := 67) dX12_rooms_66 rfl ?_
          refine am_istore (pc' := 69) (ls' := [some (.ref 45), some (.int a1), some (.int a2), some (.int a3), some (.int a4), some (.int q1.1), some (.int ((a4 / (10 : Int32)) - (a4 / (10 : Int32)) / (10 : Int32) * (10 : Int32))), some (.int (((2 : Int32) * (a4 / (100 : Int32))) + ((a4 / (10 : Int32)) - (a4 / (10 : Int32)) / (10 : Int32) * (10 : Int32)))), none, none, none, none, none]) dX12_rooms_67 (Nat.le_of_ble_eq_true rfl) rfl rfl rfl ?_
          refine am_aload_n (pc' := 70) 0 dX12_rooms_69 rfl rfl rfl ?_
          refine am_get (pc' := 73) (v := .ref 49) dX12_rooms_70 fl_X12_19 (sm_c45 S0 q1.2) rfl rfl ?_
          refine am_iload (pc' := 75) dX12_rooms_73 rfl rfl ?_
          obtain ⟨hr7, hres⟩ := am_rg hres
          refine am_iald (pc' := 76) (f := (sm_flat q1.2)) dX12_rooms_75 (sm_c49 S0 q1.2) hr7 rfl ?_
          refine am_istore (pc' := 78) (ls' := [some (.ref 45), some (.int a1), some (.int a2), some (.int a3), some (.int a4), some (.int q1.1), some (.int ((a4 / (10 : Int32)) - (a4 / (10 : Int32)) / (10 : Int32) * (10 : Int32))), some (.int (((2 : Int32) * (a4 / (100 : Int32))) + ((a4 / (10 : Int32)) - (a4 / (10 : Int32)) / (10 : Int32) * (10 : Int32)))), some (.int ((sm_flat q1.2) (((2 : Int32) * (a4 / (100 : Int32))) + ((a4 / (10 : Int32)) - (a4 / (10 : Int32)) / (10 : Int32) * (10 : Int32))).toNatClampNeg)), none, none, none, none]) dX12_rooms_76 (Nat.le_of_ble_eq_true rfl) rfl rfl rfl ?_
          refine am_iconst (pc' := 79) (v := 0) dX12_rooms_78 kc_0 rfl ?_
          refine am_istore (pc' := 81) (ls' := [some (.ref 45), some (.int a1), some (.int a2), some (.int a3), some (.int a4), some (.int q1.1), some (.int ((a4 / (10 : Int32)) - (a4 / (10 : Int32)) / (10 : Int32) * (10 : Int32))), some (.int (((2 : Int32) * (a4 / (100 : Int32))) + ((a4 / (10 : Int32)) - (a4 / (10 : Int32)) / (10 : Int32) * (10 : Int32)))), some (.int ((sm_flat q1.2) (((2 : Int32) * (a4 / (100 : Int32))) + ((a4 / (10 : Int32)) - (a4 / (10 : Int32)) / (10 : Int32) * (10 : Int32))).toNatClampNeg)), some (.int (0 : Int32)), none, none, none]) dX12_rooms_79 (Nat.le_of_ble_eq_true rfl) rfl rfl rfl ?_
          refine am_iconst (pc' := 82) (v := (-1)) dX12_rooms_81 kc_m1 rfl ?_
          refine am_istore (pc' := 84) (ls' := [some (.ref 45), some (.int a1), some (.int a2), some (.int a3), some (.int a4), some (.int q1.1), some (.int ((a4 / (10 : Int32)) - (a4 / (10 : Int32)) / (10 : Int32) * (10 : Int32))), some (.int (((2 : Int32) * (a4 / (100 : Int32))) + ((a4 / (10 : Int32)) - (a4 / (10 : Int32)) / (10 : Int32) * (10 : Int32)))), some (.int ((sm_flat q1.2) (((2 : Int32) * (a4 / (100 : Int32))) + ((a4 / (10 : Int32)) - (a4 / (10 : Int32)) / (10 : Int32) * (10 : Int32))).toNatClampNeg)), some (.int (0 : Int32)), some (.int (-1 : Int32)), none, none]) dX12_rooms_82 (Nat.le_of_ble_eq_true rfl) rfl rfl rfl ?_
          refine am_iconst (pc' := 85) (v := 0) dX12_rooms_84 kc_0 rfl ?_
          refine am_istore (pc' := 87) (ls' := [some (.ref 45), some (.int a1), some (.int a2), some (.int a3), some (.int a4), some (.int q1.1), some (.int ((a4 / (10 : Int32)) - (a4 / (10 : Int32)) / (10 : Int32) * (10 : Int32))), some (.int (((2 : Int32) * (a4 / (100 : Int32))) + ((a4 / (10 : Int32)) - (a4 / (10 : Int32)) / (10 : Int32) * (10 : Int32)))), some (.int ((sm_flat q1.2) (((2 : Int32) * (a4 / (100 : Int32))) + ((a4 / (10 : Int32)) - (a4 / (10 : Int32)) / (10 : Int32) * (10 : Int32))).toNatClampNeg)), some (.int (0 : Int32)), some (.int (-1 : Int32)), some (.int (0 : Int32)), none]) dX12_rooms_85 (Nat.le_of_ble_eq_true rfl) rfl rfl rfl ?_
          refine am_weak (ls' := [some (.ref 45), none, some (.int a2), some (.int a3), some (.int a4), none, none, some (.int (((2 : Int32) * (a4 / (100 : Int32))) + ((a4 / (10 : Int32)) - (a4 / (10 : Int32)) / (10 : Int32) * (10 : Int32)))), some (.int ((sm_flat q1.2) (((2 : Int32) * (a4 / (100 : Int32))) + ((a4 / (10 : Int32)) - (a4 / (10 : Int32)) / (10 : Int32) * (10 : Int32))).toNatClampNeg)), some (.int (0 : Int32)), some (.int (-1 : Int32)), some (.int (0 : Int32)), none]) [false, true, false, false, false, true, true, false, false, false, false, false, false] rfl ?_
          exact wx_X12_rooms_87 S0 am_fu _ _ _ _ _ _ _ _ _ _ hres
        · rw [if_neg hc6] at hres
          refine am_bipush (pc' := 56) (v := (-7)) dX12_rooms_54 kb_m7 rfl ?_
          obtain rfl := Option.some.inj hres
          exact am_iret dX12_rooms_56 rfl rfl rfl
  · rw [if_neg hc3] at hres
    refine am_iload (pc' := 16) dX12_rooms_14 rfl rfl ?_
    obtain rfl := Option.some.inj hres
    exact am_iret dX12_rooms_16 rfl rfl rfl
