set_option maxRecDepth 100000 in
set_option maxHeartbeats 4000000 in
theorem tx_X12_tour (S0 : sx_T) (a1 : Int32) (a2 : Int32) (a3 : Int32) (a4 : Int32) (S : sm_T) (res : Int32 × sm_T) (hres : fx_X12_tour a1 a2 a3 a4 S = some res) : am_T mX12_tour 6 0 0 [.ref 45, .int a1, .int a2, .int a3, .int a4] (sx_w S0 (sm_w S)) (some (.int res.1)) (sx_w S0 (sm_w res.2)) := by
  refine am_meth (ls := [some (.ref 45), some (.int a1), some (.int a2), some (.int a3), some (.int a4), none]) (by decide +kernel) rfl (Nat.le_of_ble_eq_true rfl) (sm_len _ _ _ _) ?_
  rw [fx_X12_tour] at hres
  refine am_aload_n (pc' := 1) 0 dX12_tour_0 rfl rfl rfl ?_
  refine am_iload_n (pc' := 2) 1 dX12_tour_1 rfl rfl rfl ?_
  obtain ⟨q1, hq2, hres⟩ := am_bd_s hres
  refine am_cV (pc' := 5) (st' := [.int q1.1]) [] [.int a1] dX12_tour_2 cs_X12_197 (tx_X12_reads S0 a1 S _ hq2) rfl rfl rfl (sm_c45 S0 S) rfl rfl rfl rfl rfl ?_
  refine am_istore (pc' := 7) (ls' := [some (.ref 45), some (.int a1), some (.int a2), some (.int a3), some (.int a4), some (.int q1.1)]) dX12_tour_5 (Nat.le_of_ble_eq_true rfl) rfl rfl rfl ?_
  refine am_iload (pc' := 9) dX12_tour_7 rfl rfl ?_
  refine am_if_eq (pc' := 12) 18 dX12_tour_9 rfl rfl (fun hc3 => ?_) (fun hc3 => ?_)
  · rw [if_pos hc3] at hres
    refine am_aload_n (pc' := 19) 0 dX12_tour_18 rfl rfl rfl ?_
    refine am_iload_n (pc' := 20) 2 dX12_tour_19 rfl rfl rfl ?_
    refine am_cV (pc' := 23) (st' := [.int (fx_X12_isViewer a2 q1.2)]) [] [.int a2] dX12_tour_20 cs_X12_173 (tx_X12_isViewer S0 a2 q1.2 _ rfl) rfl rfl rfl (sm_c45 S0 q1.2) rfl rfl rfl rfl rfl ?_
    refine am_if_eq (pc' := 26) 46 dX12_tour_23 rfl rfl (fun hc4 => ?_) (fun hc4 => ?_)
    · rw [if_pos hc4] at hres
      refine am_ldc (pc' := 48) dX12_tour_46 ck_X12_201 rfl ?_
      obtain rfl := Option.some.inj hres
      exact am_iret dX12_tour_48 rfl rfl rfl
    · rw [if_neg hc4] at hres
      refine am_iload_n (pc' := 27) 3 dX12_tour_26 rfl rfl rfl ?_
      refine am_iconst (pc' := 28) (v := 1) dX12_tour_27 kc_1 rfl ?_
      refine am_bipush (pc' := 30) (v := 8) dX12_tour_28 kb_8 rfl ?_
      refine am_cS (pc' := 33) (st' := [.int (fx_X12_in a3 (1 : Int32) (8 : Int32))]) [] [.int a3, .int (1 : Int32), .int (8 : Int32)] dX12_tour_30 cs_X12_90 (tx_X12_in (sx_w S0 (sm_w q1.2)) a3 (1 : Int32) (8 : Int32) _ rfl) rfl rfl rfl rfl rfl rfl ?_
      refine am_if_eq (pc' := 36) 46 dX12_tour_33 rfl rfl (fun hc5 => ?_) (fun hc5 => ?_)
      · rw [if_pos hc5] at hres
        refine am_ldc (pc' := 48) dX12_tour_46 ck_X12_201 rfl ?_
        obtain rfl := Option.some.inj hres
        exact am_iret dX12_tour_48 rfl rfl rfl
      · rw [if_neg hc5] at hres
        refine am_iload (pc' := 38) dX12_tour_36 rfl rfl ?_
        refine am_iconst (pc' := 39) (v := 0) dX12_tour_38 kc_0 rfl ?_
        refine am_iconst (pc' := 40) (v := 2) dX12_tour_39 kc_2 rfl ?_
        refine am_cS (pc' := 43) (st' := [.int (fx_X12_in a4 (0 : Int32) (2 : Int32))]) [] [.int a4, .int (0 : Int32), .int (2 : Int32)] dX12_tour_40 cs_X12_90 (tx_X12_in (sx_w S0 (sm_w q1.2)) a4 (0 : Int32) (2 : Int32) _ rfl) rfl rfl rfl rfl rfl rfl ?_
        refine am_if_ne (pc' := 46) 49 dX12_tour_43 rfl rfl (fun hc6 => ?_) (fun hc6 => ?_)
        · rw [if_neg hc6] at hres
          refine am_iload (pc' := 51) dX12_tour_49 rfl rfl ?_
          refine am_iconst (pc' := 52) (v := 2) dX12_tour_51 kc_2 rfl ?_
          refine am_icmp_ne (pc' := 55) 84 dX12_tour_52 rfl rfl (fun hc7 => ?_) (fun hc7 => ?_)
          · rw [if_neg hc7] at hres
            refine am_iload (pc' := 86) dX12_tour_84 rfl rfl ?_
            refine am_if_ne (pc' := 89) 98 dX12_tour_86 rfl rfl (fun hc8 => ?_) (fun hc8 => ?_)
            · rw [if_neg hc8] at hres
              refine am_aload_n (pc' := 99) 0 dX12_tour_98 rfl rfl rfl ?_
              refine am_iload_n (pc' := 100) 2 dX12_tour_99 rfl rfl rfl ?_
              refine am_iload_n (pc' := 101) 3 dX12_tour_100 rfl rfl rfl ?_
              obtain ⟨q9, hq10, hres⟩ := am_bd_s hres
              refine am_cV (pc' := 104) (st' := [.int q9.1]) [] [.int a2, .int a3] dX12_tour_101 cs_X12_202 (tx_X12_offerOf S0 a2 a3 q1.2 _ hq10) rfl rfl rfl (sm_c45 S0 q1.2) rfl rfl rfl rfl rfl ?_
              obtain rfl := Option.some.inj hres
              exact am_iret dX12_tour_104 rfl rfl rfl
            · rw [if_pos hc8] at hres
              refine am_aload_n (pc' := 90) 0 dX12_tour_89 rfl rfl rfl ?_
              refine am_iload_n (pc' := 91) 2 dX12_tour_90 rfl rfl rfl ?_
              refine am_iload_n (pc' := 92) 3 dX12_tour_91 rfl rfl rfl ?_
              obtain ⟨q11, hq12, hres⟩ := am_bd_s hres
              refine am_cV (pc' := 95) (st' := [.int q11.1]) [] [.int a2, .int a3] dX12_tour_92 cs_X12_191 (tx_X12_mindOf S0 a2 a3 q1.2 _ hq12) rfl rfl rfl (sm_c45 S0 q1.2) rfl rfl rfl rfl rfl ?_
              refine am_goto 104 dX12_tour_95 rfl ?_
              obtain rfl := Option.some.inj hres
              exact am_iret dX12_tour_104 rfl rfl rfl
          · rw [if_pos hc7] at hres
            refine am_aload_n (pc' := 56) 0 dX12_tour_55 rfl rfl rfl ?_
            refine am_get (pc' := 59) (v := .int (sm_rooms0 q1.2)) dX12_tour_56 fl_X12_181 (sm_c45 S0 q1.2) rfl rfl ?_
            refine am_if_ne (pc' := 62) 66 dX12_tour_59 rfl rfl (fun hc13 => ?_) (fun hc13 => ?_)
            · rw [if_neg hc13] at hres
              refine am_aload_n (pc' := 67) 0 dX12_tour_66 rfl rfl rfl ?_
              refine am_iload_n (pc' := 68) 2 dX12_tour_67 rfl rfl rfl ?_
              refine am_aload_n (pc' := 69) 0 dX12_tour_68 rfl rfl rfl ?_
              refine am_get (pc' := 72) (v := .ref 63) dX12_tour_69 fl_X12_65 (sm_c45 S0 q1.2) rfl rfl ?_
              refine am_aload_n (pc' := 73) 0 dX12_tour_72 rfl rfl rfl ?_
              refine am_get (pc' := 76) (v := .int (sm_rooms0 q1.2)) dX12_tour_73 fl_X12_181 (sm_c45 S0 q1.2) rfl rfl ?_
              refine am_iconst (pc' := 77) (v := 1) dX12_tour_76 kc_1 rfl ?_
              refine am_isub (pc' := 78) dX12_tour_77 rfl ?_
              obtain ⟨hr14, hres⟩ := am_rg hres
              refine am_iald (pc' := 79) (f := (sm_row q1.2)) dX12_tour_78 (sm_c63 S0 q1.2) hr14 rfl ?_
              refine am_iload_n (pc' := 80) 3 dX12_tour_79 rfl rfl rfl ?_
              obtain ⟨q15, hq16, hres⟩ := am_bd_s hres
              refine am_cV (pc' := 83) (st' := [.int q15.1]) [] [.int a2, .int ((sm_row q1.2) ((sm_rooms0 q1.2) - (1 : Int32)).toNatClampNeg), .int a3] dX12_tour_80 cs_X12_184 (tx_X12_likesOf S0 a2 ((sm_row q1.2) ((sm_rooms0 q1.2) - (1 : Int32)).toNatClampNeg) a3 q1.2 _ hq16) rfl rfl rfl (sm_c45 S0 q1.2) rfl rfl rfl rfl rfl ?_
              obtain rfl := Option.some.inj hres
              exact am_iret dX12_tour_83 rfl rfl rfl
            · rw [if_pos hc13] at hres
              refine am_iconst (pc' := 63) (v := 0) dX12_tour_62 kc_0 rfl ?_
              refine am_goto 83 dX12_tour_63 rfl ?_
              obtain rfl := Option.some.inj hres
              exact am_iret dX12_tour_83 rfl rfl rfl
        · rw [if_pos hc6] at hres
          refine am_ldc (pc' := 48) dX12_tour_46 ck_X12_201 rfl ?_
          obtain rfl := Option.some.inj hres
          exact am_iret dX12_tour_48 rfl rfl rfl
  · rw [if_neg hc3] at hres
    refine am_ldc (pc' := 14) dX12_tour_12 ck_X12_200 rfl ?_
    refine am_iload (pc' := 16) dX12_tour_14 rfl rfl ?_
    refine am_iadd (pc' := 17) dX12_tour_16 rfl ?_
    obtain rfl := Option.some.inj hres
    exact am_iret dX12_tour_17 rfl rfl rfl
set_option maxRecDepth 100000 in
set_option maxHeartbeats 4000000 in
theorem tx_X12_viewer (S0 : sx_T) (a1 : Int32) (a2 : Int32) (S : sm_T) (res : Int32 × sm_T) (hres : fx_X12_viewer a1 a2 S = some res) : am_T mX12_viewer 1 0 0 [.ref 45, .int a1, .int a2] (sx_w S0 (sm_w S)) (some (.int res.1)) (sx_w S0 (sm_w res.2)) := by
  refine am_meth (ls := [some (.ref 45), some (.int a1), some (.int a2)]) (by decide +kernel) rfl (Nat.le_of_ble_eq_true rfl) (sm_len _ _ _ _) ?_
  rw [fx_X12_viewer] at hres
  refine am_iload_n (pc' := 1) 1 dX12_viewer_0 rfl rfl rfl ?_
  refine am_iconst (pc' := 2) (v := 0) dX12_viewer_1 kc_0 rfl ?_
  refine am_bipush (pc' := 4) (v := 59) dX12_viewer_2 kb_59 rfl ?_
  refine am_cS (pc' := 7) (st' := [.int (fx_X12_in a1 (0 : Int32) (59 : Int32))]) [] [.int a1, .int (0 : Int32), .int (59 : Int32)] dX12_viewer_4 cs_X12_90 (tx_X12_in (sx_w S0 (sm_w S)) a1 (0 : Int32) (59 : Int32) _ rfl) rfl rfl rfl rfl rfl rfl ?_
  refine am_if_eq (pc' := 10) 20 dX12_viewer_7 rfl rfl (fun hc1 => ?_) (fun hc1 => ?_)
  · rw [if_pos hc1] at hres
    refine am_bipush (pc' := 22) (v := (-2)) dX12_viewer_20 kb_m2 rfl ?_
    obtain rfl := Option.some.inj hres
    exact am_iret dX12_viewer_22 rfl rfl rfl
  · rw [if_neg hc1] at hres
    refine am_iload_n (pc' := 11) 2 dX12_viewer_10 rfl rfl rfl ?_
    refine am_iconst (pc' := 12) (v := 0) dX12_viewer_11 kc_0 rfl ?_
    refine am_ldc (pc' := 14) dX12_viewer_12 ck_X12_180 rfl ?_
    refine am_cS (pc' := 17) (st' := [.int (fx_X12_in a2 (0 : Int32) (99999 : Int32))]) [] [.int a2, .int (0 : Int32), .int (99999 : Int32)] dX12_viewer_14 cs_X12_90 (tx_X12_in (sx_w S0 (sm_w S)) a2 (0 : Int32) (99999 : Int32) _ rfl) rfl rfl rfl rfl rfl rfl ?_
    refine am_if_ne (pc' := 20) 23 dX12_viewer_17 rfl rfl (fun hc2 => ?_) (fun hc2 => ?_)
    · rw [if_neg hc2] at hres
      refine am_aload_n (pc' := 24) 0 dX12_viewer_23 rfl rfl rfl ?_
      refine am_get (pc' := 27) (v := .int (sm_viewers S)) dX12_viewer_24 fl_X12_87 (sm_c45 S0 S) rfl rfl ?_
      refine am_bipush (pc' := 29) (v := 8) dX12_viewer_27 kb_8 rfl ?_
      refine am_icmp_ne (pc' := 32) 35 dX12_viewer_29 rfl rfl (fun hc3 => ?_) (fun hc3 => ?_)
      · rw [if_neg hc3] at hres
        refine am_aload_n (pc' := 36) 0 dX12_viewer_35 rfl rfl rfl ?_
        refine am_get (pc' := 39) (v := .ref 46) dX12_viewer_36 fl_X12_7 (sm_c45 S0 S) rfl rfl ?_
        refine am_aload_n (pc' := 40) 0 dX12_viewer_39 rfl rfl rfl ?_
        refine am_get (pc' := 43) (v := .int (sm_viewers S)) dX12_viewer_40 fl_X12_87 (sm_c45 S0 S) rfl rfl ?_
        refine am_iload_n (pc' := 44) 1 dX12_viewer_43 rfl rfl rfl ?_
        refine am_bipush (pc' := 46) (v := 10) dX12_viewer_44 kb_10 rfl ?_
        refine am_idiv (pc' := 47) dX12_viewer_46 (by decide) rfl ?_
        obtain ⟨hr4, hres⟩ := am_rg hres
        refine am_iast (pc' := 48) (f := (sm_kind S)) (ws' := (sx_w S0 (sm_w (um_kind S (upd (sm_kind S) (sm_viewers S).toNatClampNeg (a1 / (10 : Int32))))))) dX12_viewer_47 (sm_c46 S0 S) hr4 (sm_p_kind S0 S _) rfl ?_
        refine am_aload_n (pc' := 49) 0 dX12_viewer_48 rfl rfl rfl ?_
        refine am_get (pc' := 52) (v := .ref 47) dX12_viewer_49 fl_X12_13 (sm_c45 S0 (um_kind S (upd (sm_kind S) (sm_viewers S).toNatClampNeg (a1 / (10 : Int32))))) rfl rfl ?_
        refine am_aload_n (pc' := 53) 0 dX12_viewer_52 rfl rfl rfl ?_
        refine am_get (pc' := 56) (v := .int (sm_viewers S)) dX12_viewer_53 fl_X12_87 (sm_c45 S0 (um_kind S (upd (sm_kind S) (sm_viewers S).toNatClampNeg (a1 / (10 : Int32))))) rfl rfl ?_
        refine am_iload_n (pc' := 57) 1 dX12_viewer_56 rfl rfl rfl ?_
        refine am_bipush (pc' := 59) (v := 10) dX12_viewer_57 kb_10 rfl ?_
        refine am_irem (pc' := 60) dX12_viewer_59 (by decide) rfl ?_
        obtain ⟨hr5, hres⟩ := am_rg hres
        refine am_iast (pc' := 61) (f := (sm_moreOf S)) (ws' := (sx_w S0 (sm_w (um_moreOf (um_kind S (upd (sm_kind S) (sm_viewers S).toNatClampNeg (a1 / (10 : Int32)))) (upd (sm_moreOf S) (sm_viewers S).toNatClampNeg (a1 - a1 / (10 : Int32) * (10 : Int32))))))) dX12_viewer_60 (sm_c47 S0 (um_kind S (upd (sm_kind S) (sm_viewers S).toNatClampNeg (a1 / (10 : Int32))))) hr5 (sm_p_moreOf S0 (um_kind S (upd (sm_kind S) (sm_viewers S).toNatClampNeg (a1 / (10 : Int32)))) _) rfl ?_
        refine am_aload_n (pc' := 62) 0 dX12_viewer_61 rfl rfl rfl ?_
        refine am_get (pc' := 65) (v := .ref 48) dX12_viewer_62 fl_X12_16 (sm_c45 S0 (um_moreOf (um_kind S (upd (sm_kind S) (sm_viewers S).toNatClampNeg (a1 / (10 : Int32)))) (upd (sm_moreOf S) (sm_viewers S).toNatClampNeg (a1 - a1 / (10 : Int32) * (10 : Int32))))) rfl rfl ?_
        refine am_iconst (pc' := 66) (v := 2) dX12_viewer_65 kc_2 rfl ?_
        refine am_aload_n (pc' := 67) 0 dX12_viewer_66 rfl rfl rfl ?_
        refine am_get (pc' := 70) (v := .int (sm_viewers S)) dX12_viewer_67 fl_X12_87 (sm_c45 S0 (um_moreOf (um_kind S (upd (sm_kind S) (sm_viewers S).toNatClampNeg (a1 / (10 : Int32)))) (upd (sm_moreOf S) (sm_viewers S).toNatClampNeg (a1 - a1 / (10 : Int32) * (10 : Int32))))) rfl rfl ?_
        refine am_imul (pc' := 71) dX12_viewer_70 rfl ?_
        refine am_iload_n (pc' := 72) 2 dX12_viewer_71 rfl rfl rfl ?_
        refine am_bipush (pc' := 74) (v := 100) dX12_viewer_72 kb_100 rfl ?_
        refine am_idiv (pc' := 75) dX12_viewer_74 (by decide) rfl ?_
        obtain ⟨hr6, hres⟩ := am_rg hres
        refine am_iast (pc' := 76) (f := (sm_ones S)) (ws' := (sx_w S0 (sm_w (um_ones (um_moreOf (um_kind S (upd (sm_kind S) (sm_viewers S).toNatClampNeg (a1 / (10 : Int32)))) (upd (sm_moreOf S) (sm_viewers S).toNatClampNeg (a1 - a1 / (10 : Int32) * (10 : Int32)))) (upd (sm_ones S) ((2 : Int32) * (sm_viewers S)).toNatClampNeg (a2 / (100 : Int32))))))) dX12_viewer_75 (sm_c48 S0 (um_moreOf (um_kind S (upd (sm_kind S) (sm_viewers S).toNatClampNeg (a1 / (10 : Int32)))) (upd (sm_moreOf S) (sm_viewers S).toNatClampNeg (a1 - a1 / (10 : Int32) * (10 : Int32))))) hr6 (sm_p_ones S0 (um_moreOf (um_kind S (upd (sm_kind S) (sm_viewers S).toNatClampNeg (a1 / (10 : Int32)))) (upd (sm_moreOf S) (sm_viewers S).toNatClampNeg (a1 - a1 / (10 : Int32) * (10 : Int32)))) _) rfl ?_
        refine am_aload_n (pc' := 77) 0 dX12_viewer_76 rfl rfl rfl ?_
        refine am_get (pc' := 80) (v := .ref 48) dX12_viewer_77 fl_X12_16 (sm_c45 S0 (um_ones (um_moreOf (um_kind S (upd (sm_kind S) (sm_viewers S).toNatClampNeg (a1 / (10 : Int32)))) (upd (sm_moreOf S) (sm_viewers S).toNatClampNeg (a1 - a1 / (10 : Int32) * (10 : Int32)))) (upd (sm_ones S) ((2 : Int32) * (sm_viewers S)).toNatClampNeg (a2 / (100 : Int32))))) rfl rfl ?_
        refine am_iconst (pc' := 81) (v := 2) dX12_viewer_80 kc_2 rfl ?_
        refine am_aload_n (pc' := 82) 0 dX12_viewer_81 rfl rfl rfl ?_
        refine am_get (pc' := 85) (v := .int (sm_viewers S)) dX12_viewer_82 fl_X12_87 (sm_c45 S0 (um_ones (um_moreOf (um_kind S (upd (sm_kind S) (sm_viewers S).toNatClampNeg (a1 / (10 : Int32)))) (upd (sm_moreOf S) (sm_viewers S).toNatClampNeg (a1 - a1 / (10 : Int32) * (10 : Int32)))) (upd (sm_ones S) ((2 : Int32) * (sm_viewers S)).toNatClampNeg (a2 / (100 : Int32))))) rfl rfl ?_
        refine am_imul (pc' := 86) dX12_viewer_85 rfl ?_
        refine am_iconst (pc' := 87) (v := 1) dX12_viewer_86 kc_1 rfl ?_
        refine am_iadd (pc' := 88) dX12_viewer_87 rfl ?_
        refine am_iload_n (pc' := 89) 2 dX12_viewer_88 rfl rfl rfl ?_
        refine am_bipush (pc' := 91) (v := 100) dX12_viewer_89 kb_100 rfl ?_
        refine am_irem (pc' := 92) dX12_viewer_91 (by decide) rfl ?_
        obtain ⟨hr7, hres⟩ := am_rg hres
        refine am_iast (pc' := 93) (f := (upd (sm_ones S) ((2 : Int32) * (sm_viewers S)).toNatClampNeg (a2 / (100 : Int32)))) (ws' := (sx_w S0 (sm_w (um_ones (um_ones (um_moreOf (um_kind S (upd (sm_kind S) (sm_viewers S).toNatClampNeg (a1 / (10 : Int32)))) (upd (sm_moreOf S) (sm_viewers S).toNatClampNeg (a1 - a1 / (10 : Int32) * (10 : Int32)))) (upd (sm_ones S) ((2 : Int32) * (sm_viewers S)).toNatClampNeg (a2 / (100 : Int32)))) (upd (upd (sm_ones S) ((2 : Int32) * (sm_viewers S)).toNatClampNeg (a2 / (100 : Int32))) (((2 : Int32) * (sm_viewers S)) + (1 : Int32)).toNatClampNeg (a2 - a2 / (100 : Int32) * (100 : Int32))))))) dX12_viewer_92 (sm_c48 S0 (um_ones (um_moreOf (um_kind S (upd (sm_kind S) (sm_viewers S).toNatClampNeg (a1 / (10 : Int32)))) (upd (sm_moreOf S) (sm_viewers S).toNatClampNeg (a1 - a1 / (10 : Int32) * (10 : Int32)))) (upd (sm_ones S) ((2 : Int32) * (sm_viewers S)).toNatClampNeg (a2 / (100 : Int32))))) hr7 (sm_p_ones S0 (um_ones (um_moreOf (um_kind S (upd (sm_kind S) (sm_viewers S).toNatClampNeg (a1 / (10 : Int32)))) (upd (sm_moreOf S) (sm_viewers S).toNatClampNeg (a1 - a1 / (10 : Int32) * (10 : Int32)))) (upd (sm_ones S) ((2 : Int32) * (sm_viewers S)).toNatClampNeg (a2 / (100 : Int32)))) _) rfl ?_
        refine am_aload_n (pc' := 94) 0 dX12_viewer_93 rfl rfl rfl ?_
        refine am_dupa (pc' := 95) dX12_viewer_94 rfl ?_
        refine am_get (pc' := 98) (v := .int (sm_viewers S)) dX12_viewer_95 fl_X12_87 (sm_c45 S0 (um_ones (um_ones (um_moreOf (um_kind S (upd (sm_kind S) (sm_viewers S).toNatClampNeg (a1 / (10 : Int32)))) (upd (sm_moreOf S) (sm_viewers S).toNatClampNeg (a1 - a1 / (10 : Int32) * (10 : Int32)))) (upd (sm_ones S) ((2 : Int32) * (sm_viewers S)).toNatClampNeg (a2 / (100 : Int32)))) (upd (upd (sm_ones S) ((2 : Int32) * (sm_viewers S)).toNatClampNeg (a2 / (100 : Int32))) (((2 : Int32) * (sm_viewers S)) + (1 : Int32)).toNatClampNeg (a2 - a2 / (100 : Int32) * (100 : Int32))))) rfl rfl ?_
        refine am_iconst (pc' := 99) (v := 1) dX12_viewer_98 kc_1 rfl ?_
        refine am_iadd (pc' := 100) dX12_viewer_99 rfl ?_
        refine am_put (pc' := 103) (ws' := (sx_w S0 (sm_w (um_viewers (um_ones (um_ones (um_moreOf (um_kind S (upd (sm_kind S) (sm_viewers S).toNatClampNeg (a1 / (10 : Int32)))) (upd (sm_moreOf S) (sm_viewers S).toNatClampNeg (a1 - a1 / (10 : Int32) * (10 : Int32)))) (upd (sm_ones S) ((2 : Int32) * (sm_viewers S)).toNatClampNeg (a2 / (100 : Int32)))) (upd (upd (sm_ones S) ((2 : Int32) * (sm_viewers S)).toNatClampNeg (a2 / (100 : Int32))) (((2 : Int32) * (sm_viewers S)) + (1 : Int32)).toNatClampNeg (a2 - a2 / (100 : Int32) * (100 : Int32)))) ((sm_viewers S) + (1 : Int32)))))) (v := .int ((sm_viewers S) + (1 : Int32))) dX12_viewer_100 fp_X12_87 (sm_c45 S0 (um_ones (um_ones (um_moreOf (um_kind S (upd (sm_kind S) (sm_viewers S).toNatClampNeg (a1 / (10 : Int32)))) (upd (sm_moreOf S) (sm_viewers S).toNatClampNeg (a1 - a1 / (10 : Int32) * (10 : Int32)))) (upd (sm_ones S) ((2 : Int32) * (sm_viewers S)).toNatClampNeg (a2 / (100 : Int32)))) (upd (upd (sm_ones S) ((2 : Int32) * (sm_viewers S)).toNatClampNeg (a2 / (100 : Int32))) (((2 : Int32) * (sm_viewers S)) + (1 : Int32)).toNatClampNeg (a2 - a2 / (100 : Int32) * (100 : Int32))))) (fun _ => ⟨rfl, rfl⟩) (Nat.le_of_ble_eq_true rfl) (sm_p_viewers S0 (um_ones (um_ones (um_moreOf (um_kind S (upd (sm_kind S) (sm_viewers S).toNatClampNeg (a1 / (10 : Int32)))) (upd (sm_moreOf S) (sm_viewers S).toNatClampNeg (a1 - a1 / (10 : Int32) * (10 : Int32)))) (upd (sm_ones S) ((2 : Int32) * (sm_viewers S)).toNatClampNeg (a2 / (100 : Int32)))) (upd (upd (sm_ones S) ((2 : Int32) * (sm_viewers S)).toNatClampNeg (a2 / (100 : Int32))) (((2 : Int32) * (sm_viewers S)) + (1 : Int32)).toNatClampNeg (a2 - a2 / (100 : Int32) * (100 : Int32)))) _) rfl ?_
        refine am_aload_n (pc' := 104) 0 dX12_viewer_103 rfl rfl rfl ?_
        refine am_get (pc' := 107) (v := .int ((sm_viewers S) + (1 : Int32))) dX12_viewer_104 fl_X12_87 (sm_c45 S0 (um_viewers (um_ones (um_ones (um_moreOf (um_kind S (upd (sm_kind S) (sm_viewers S).toNatClampNeg (a1 / (10 : Int32)))) (upd (sm_moreOf S) (sm_viewers S).toNatClampNeg (a1 - a1 / (10 : Int32) * (10 : Int32)))) (upd (sm_ones S) ((2 : Int32) * (sm_viewers S)).toNatClampNeg (a2 / (100 : Int32)))) (upd (upd (sm_ones S) ((2 : Int32) * (sm_viewers S)).toNatClampNeg (a2 / (100 : Int32))) (((2 : Int32) * (sm_viewers S)) + (1 : Int32)).toNatClampNeg (a2 - a2 / (100 : Int32) * (100 : Int32)))) ((sm_viewers S) + (1 : Int32)))) rfl rfl ?_
        refine am_iconst (pc' := 108) (v := 1) dX12_viewer_107 kc_1 rfl ?_
        refine am_isub (pc' := 109) dX12_viewer_108 rfl ?_
        obtain rfl := Option.some.inj hres
        exact am_iret dX12_viewer_109 rfl rfl rfl
      · rw [if_pos hc3] at hres
        refine am_bipush (pc' := 34) (v := (-4)) dX12_viewer_32 kb_m4 rfl ?_
        obtain rfl := Option.some.inj hres
        exact am_iret dX12_viewer_34 rfl rfl rfl
    · rw [if_pos hc2] at hres
      refine am_bipush (pc' := 22) (v := (-2)) dX12_viewer_20 kb_m2 rfl ?_
      obtain rfl := Option.some.inj hres
      exact am_iret dX12_viewer_22 rfl rfl rfl
set_option maxRecDepth 100000 in
set_option maxHeartbeats 4000000 in
theorem wx_X12_viewersBy_64 (S0 : sx_T) : ∀ (n : Nat) (v1 : Int32) (v3 : Int32) (v4 : Int32) (v5 : Int32) (v6 : Int32) (S : sm_T) (res : Int32 × sm_T) (hres : fx_X12_viewersBy_64 n v1 v3 v4 v5 v6 S = some res), am_G mX12_viewersBy (none, 2, 0, 0, (some (.int res.1)), (sx_w S0 (sm_w res.2))) (0, 0) 64 [some (.ref 45), some (.int v1), none, some (.int v3), some (.int v4), some (.int v5), some (.int v6), none, none] [] (sx_w S0 (sm_w S)) := by
  intro n
  induction n with
  | zero =>
    intro v1 v3 v4 v5 v6 S res hres
    cases hres
  | succ n ih =>
    intro v1 v3 v4 v5 v6 S res hres
    rw [fx_X12_viewersBy_64] at hres
    refine am_iload (pc' := 66) dX12_viewersBy_64 rfl rfl ?_
    refine am_iload (pc' := 68) dX12_viewersBy_66 rfl rfl ?_
    refine am_icmp_ge (pc' := 71) 153 dX12_viewersBy_68 rfl rfl (fun hc8 => ?_) (fun hc8 => ?_)
    · rw [if_pos hc8] at hres
      refine am_iload (pc' := 155) dX12_viewersBy_153 rfl rfl ?_
      obtain rfl := Option.some.inj hres
      exact am_iret dX12_viewersBy_155 rfl rfl rfl
    · rw [if_neg hc8] at hres
      refine am_iload_n (pc' := 72) 3 dX12_viewersBy_71 rfl rfl rfl ?_
      refine am_iconst (pc' := 73) (v := 2) dX12_viewersBy_72 kc_2 rfl ?_
      refine am_iload (pc' := 75) dX12_viewersBy_73 rfl rfl ?_
      refine am_imul (pc' := 76) dX12_viewersBy_75 rfl ?_
      refine am_iadd (pc' := 77) dX12_viewersBy_76 rfl ?_
      refine am_istore (pc' := 79) (ls' := [some (.ref 45), some (.int v1), none, some (.int v3), some (.int v4), some (.int v5), some (.int v6), some (.int (v3 + ((2 : Int32) * v6))), none]) dX12_viewersBy_77 (Nat.le_of_ble_eq_true rfl) rfl rfl rfl ?_
      refine am_iload_n (pc' := 80) 3 dX12_viewersBy_79 rfl rfl rfl ?_
      refine am_if_lt (pc' := 83) 102 dX12_viewersBy_80 rfl rfl (fun hc9 => ?_) (fun hc9 => ?_)
      · rw [if_pos hc9] at hres
        refine am_bipush (pc' := 104) (v := (-12)) dX12_viewersBy_102 kb_m12 rfl ?_
        obtain rfl := Option.some.inj hres
        exact am_iret dX12_viewersBy_104 rfl rfl rfl
      · rw [if_neg hc9] at hres
        refine am_iload (pc' := 85) dX12_viewersBy_83 rfl rfl ?_
        refine am_iload_n (pc' := 86) 3 dX12_viewersBy_85 rfl rfl rfl ?_
        refine am_icmp_lt (pc' := 89) 102 dX12_viewersBy_86 rfl rfl (fun hc10 => ?_) (fun hc10 => ?_)
        · rw [if_pos hc10] at hres
          refine am_bipush (pc' := 104) (v := (-12)) dX12_viewersBy_102 kb_m12 rfl ?_
          obtain rfl := Option.some.inj hres
          exact am_iret dX12_viewersBy_104 rfl rfl rfl
        · rw [if_neg hc10] at hres
          refine am_iload (pc' := 91) dX12_viewersBy_89 rfl rfl ?_
          refine am_aload_n (pc' := 92) 0 dX12_viewersBy_91 rfl rfl rfl ?_
          refine am_get (pc' := 95) (v := .ref 56) dX12_viewersBy_92 fl_X12_44 (sm_c45 S0 S) rfl rfl ?_
          refine am_iload_n (pc' := 96) 1 dX12_viewersBy_95 rfl rfl rfl ?_
          obtain ⟨hr11, hres⟩ := am_rg hres
          refine am_iald (pc' := 97) (f := (sm_sheetSize S)) dX12_viewersBy_96 (sm_c56 S0 S) hr11 rfl ?_
          refine am_iconst (pc' := 98) (v := 2) dX12_viewersBy_97 kc_2 rfl ?_
          refine am_isub (pc' := 99) dX12_viewersBy_98 rfl ?_
          refine am_icmp_le (pc' := 102) 105 dX12_viewersBy_99 rfl rfl (fun hc12 => ?_) (fun hc12 => ?_)
          · rw [if_pos hc12] at hres
            refine am_bipush (pc' := 107) (v := 40) dX12_viewersBy_105 kb_40 rfl ?_
            refine am_iload_n (pc' := 108) 1 dX12_viewersBy_107 rfl rfl rfl ?_
            refine am_imul (pc' := 109) dX12_viewersBy_108 rfl ?_
            refine am_iload (pc' := 111) dX12_viewersBy_109 rfl rfl ?_
            refine am_iadd (pc' := 112) dX12_viewersBy_111 rfl ?_
            refine am_istore (pc' := 114) (ls' := [some (.ref 45), some (.int v1), none, some (.int v3), some (.int v4), some (.int v5), some (.int v6), some (.int (v3 + ((2 : Int32) * v6))), some (.int (((40 : Int32) * v1) + (v3 + ((2 : Int32) * v6))))]) dX12_viewersBy_112 (Nat.le_of_ble_eq_true rfl) rfl rfl rfl ?_
            refine am_iload (pc' := 116) dX12_viewersBy_114 rfl rfl ?_
            refine am_aload_n (pc' := 117) 0 dX12_viewersBy_116 rfl rfl rfl ?_
            refine am_aload_n (pc' := 118) 0 dX12_viewersBy_117 rfl rfl rfl ?_
            refine am_get (pc' := 121) (v := .ref 57) dX12_viewersBy_118 fl_X12_47 (sm_c45 S0 S) rfl rfl ?_
            refine am_iload (pc' := 123) dX12_viewersBy_121 rfl rfl ?_
            obtain ⟨hr13, hres⟩ := am_rg hres
            refine am_iald (pc' := 124) (f := (sm_cells S)) dX12_viewersBy_123 (sm_c57 S0 S) hr13 rfl ?_
            refine am_aload_n (pc' := 125) 0 dX12_viewersBy_124 rfl rfl rfl ?_
            refine am_get (pc' := 128) (v := .ref 57) dX12_viewersBy_125 fl_X12_47 (sm_c45 S0 S) rfl rfl ?_
            refine am_iload (pc' := 130) dX12_viewersBy_128 rfl rfl ?_
            refine am_iconst (pc' := 131) (v := 1) dX12_viewersBy_130 kc_1 rfl ?_
            refine am_iadd (pc' := 132) dX12_viewersBy_131 rfl ?_
            obtain ⟨hr14, hres⟩ := am_rg hres
            refine am_iald (pc' := 133) (f := (sm_cells S)) dX12_viewersBy_132 (sm_c57 S0 S) hr14 rfl ?_
            obtain ⟨q15, hq16, hres⟩ := am_bd_s hres
            refine am_cV (pc' := 136) (st' := [.int q15.1, .int v5]) [.int v5] [.int ((sm_cells S) (((40 : Int32) * v1) + (v3 + ((2 : Int32) * v6))).toNatClampNeg), .int ((sm_cells S) ((((40 : Int32) * v1) + (v3 + ((2 : Int32) * v6))) + (1 : Int32)).toNatClampNeg)] dX12_viewersBy_133 cs_X12_263 (tx_X12_viewer S0 ((sm_cells S) (((40 : Int32) * v1) + (v3 + ((2 : Int32) * v6))).toNatClampNeg) ((sm_cells S) ((((40 : Int32) * v1) + (v3 + ((2 : Int32) * v6))) + (1 : Int32)).toNatClampNeg) S _ hq16) rfl rfl rfl (sm_c45 S0 S) rfl rfl rfl rfl rfl ?_
            refine am_if_lt (pc' := 139) 143 dX12_viewersBy_136 rfl rfl (fun hc17 => ?_) (fun hc17 => ?_)
            · rw [if_pos hc17] at hres
              refine am_iconst (pc' := 144) (v := 0) dX12_viewersBy_143 kc_0 rfl ?_
              refine am_iadd (pc' := 145) dX12_viewersBy_144 rfl ?_
              refine am_istore (pc' := 147) (ls' := [some (.ref 45), some (.int v1), none, some (.int v3), some (.int v4), some (.int (v5 + (0 : Int32))), some (.int v6), some (.int (v3 + ((2 : Int32) * v6))), some (.int (((40 : Int32) * v1) + (v3 + ((2 : Int32) * v6))))]) dX12_viewersBy_145 (Nat.le_of_ble_eq_true rfl) rfl rfl rfl ?_
              refine am_iinc (pc' := 150) (ls' := [some (.ref 45), some (.int v1), none, some (.int v3), some (.int v4), some (.int (v5 + (0 : Int32))), some (.int (v6 + (1 : Int32))), some (.int (v3 + ((2 : Int32) * v6))), some (.int (((40 : Int32) * v1) + (v3 + ((2 : Int32) * v6))))]) dX12_viewersBy_147 rfl (show v6 + Int32.ofInt 1 = (v6 + (1 : Int32)) from congrArg (fun z => v6 + z) kc_1) (Nat.le_of_ble_eq_true rfl) rfl rfl rfl ?_
              refine am_goto 64 dX12_viewersBy_150 rfl ?_
              refine am_weak (ls' := [some (.ref 45), some (.int v1), none, some (.int v3), some (.int v4), some (.int (v5 + (0 : Int32))), some (.int (v6 + (1 : Int32))), none, none]) [false, false, false, false, false, false, false, true, true] rfl ?_
              exact ih _ _ _ _ _ _ _ hres
            · rw [if_neg hc17] at hres
              refine am_iconst (pc' := 140) (v := 1) dX12_viewersBy_139 kc_1 rfl ?_
              refine am_goto 144 dX12_viewersBy_140 rfl ?_
              refine am_iadd (pc' := 145) dX12_viewersBy_144 rfl ?_
              refine am_istore (pc' := 147) (ls' := [some (.ref 45), some (.int v1), none, some (.int v3), some (.int v4), some (.int (v5 + (1 : Int32))), some (.int v6), some (.int (v3 + ((2 : Int32) * v6))), some (.int (((40 : Int32) * v1) + (v3 + ((2 : Int32) * v6))))]) dX12_viewersBy_145 (Nat.le_of_ble_eq_true rfl) rfl rfl rfl ?_
              refine am_iinc (pc' := 150) (ls' := [some (.ref 45), some (.int v1), none, some (.int v3), some (.int v4), some (.int (v5 + (1 : Int32))), some (.int (v6 + (1 : Int32))), some (.int (v3 + ((2 : Int32) * v6))), some (.int (((40 : Int32) * v1) + (v3 + ((2 : Int32) * v6))))]) dX12_viewersBy_147 rfl (show v6 + Int32.ofInt 1 = (v6 + (1 : Int32)) from congrArg (fun z => v6 + z) kc_1) (Nat.le_of_ble_eq_true rfl) rfl rfl rfl ?_
              refine am_goto 64 dX12_viewersBy_150 rfl ?_
              refine am_weak (ls' := [some (.ref 45), some (.int v1), none, some (.int v3), some (.int v4), some (.int (v5 + (1 : Int32))), some (.int (v6 + (1 : Int32))), none, none]) [false, false, false, false, false, false, false, true, true] rfl ?_
              exact ih _ _ _ _ _ _ _ hres
          · rw [if_neg hc12] at hres
            refine am_bipush (pc' := 104) (v := (-12)) dX12_viewersBy_102 kb_m12 rfl ?_
            obtain rfl := Option.some.inj hres
            exact am_iret dX12_viewersBy_104 rfl rfl rfl

set_option maxRecDepth 100000 in
set_option maxHeartbeats 4000000 in
theorem tx_X12_viewersBy (S0 : sx_T) (a1 : Int32) (a2 : Int32) (a3 : Int32) (a4 : Int32) (S : sm_T) (res : Int32 × sm_T) (hres : fx_X12_viewersBy a1 a2 a3 a4 S = some res) : am_T mX12_viewersBy 2 0 0 [.ref 45, .int a1, .int a2, .int a3, .int a4] (sx_w S0 (sm_w S)) (some (.int res.1)) (sx_w S0 (sm_w res.2)) := by
  refine am_meth (ls := [some (.ref 45), some (.int a1), some (.int a2), some (.int a3), some (.int a4), none, none, none, none]) (by decide +kernel) rfl (Nat.le_of_ble_eq_true rfl) (sm_len _ _ _ _) ?_
  rw [fx_X12_viewersBy] at hres
  refine am_iload_n (pc' := 1) 1 dX12_viewersBy_0 rfl rfl rfl ?_
  refine am_iconst (pc' := 2) (v := 0) dX12_viewersBy_1 kc_0 rfl ?_
  refine am_iconst (pc' := 3) (v := 3) dX12_viewersBy_2 kc_3 rfl ?_
  refine am_cS (pc' := 6) (st' := [.int (fx_X12_in a1 (0 : Int32) (3 : Int32))]) [] [.int a1, .int (0 : Int32), .int (3 : Int32)] dX12_viewersBy_3 cs_X12_90 (tx_X12_in (sx_w S0 (sm_w S)) a1 (0 : Int32) (3 : Int32) _ rfl) rfl rfl rfl rfl rfl rfl ?_
  refine am_if_eq (pc' := 9) 29 dX12_viewersBy_6 rfl rfl (fun hc1 => ?_) (fun hc1 => ?_)
  · rw [if_pos hc1] at hres
    refine am_bipush (pc' := 31) (v := (-2)) dX12_viewersBy_29 kb_m2 rfl ?_
    obtain rfl := Option.some.inj hres
    exact am_iret dX12_viewersBy_31 rfl rfl rfl
  · rw [if_neg hc1] at hres
    refine am_iload_n (pc' := 10) 2 dX12_viewersBy_9 rfl rfl rfl ?_
    refine am_iconst (pc' := 11) (v := 0) dX12_viewersBy_10 kc_0 rfl ?_
    refine am_iconst (pc' := 12) (v := 2) dX12_viewersBy_11 kc_2 rfl ?_
    refine am_cS (pc' := 15) (st' := [.int (fx_X12_in a2 (0 : Int32) (2 : Int32))]) [] [.int a2, .int (0 : Int32), .int (2 : Int32)] dX12_viewersBy_12 cs_X12_90 (tx_X12_in (sx_w S0 (sm_w S)) a2 (0 : Int32) (2 : Int32) _ rfl) rfl rfl rfl rfl rfl rfl ?_
    refine am_if_eq (pc' := 18) 29 dX12_viewersBy_15 rfl rfl (fun hc2 => ?_) (fun hc2 => ?_)
    · rw [if_pos hc2] at hres
      refine am_bipush (pc' := 31) (v := (-2)) dX12_viewersBy_29 kb_m2 rfl ?_
      obtain rfl := Option.some.inj hres
      exact am_iret dX12_viewersBy_31 rfl rfl rfl
    · rw [if_neg hc2] at hres
      refine am_iload (pc' := 20) dX12_viewersBy_18 rfl rfl ?_
      refine am_iconst (pc' := 21) (v := 0) dX12_viewersBy_20 kc_0 rfl ?_
      refine am_bipush (pc' := 23) (v := 8) dX12_viewersBy_21 kb_8 rfl ?_
      refine am_cS (pc' := 26) (st' := [.int (fx_X12_in a4 (0 : Int32) (8 : Int32))]) [] [.int a4, .int (0 : Int32), .int (8 : Int32)] dX12_viewersBy_23 cs_X12_90 (tx_X12_in (sx_w S0 (sm_w S)) a4 (0 : Int32) (8 : Int32) _ rfl) rfl rfl rfl rfl rfl rfl ?_
      refine am_if_ne (pc' := 29) 32 dX12_viewersBy_26 rfl rfl (fun hc3 => ?_) (fun hc3 => ?_)
      · rw [if_neg hc3] at hres
        refine am_aload_n (pc' := 33) 0 dX12_viewersBy_32 rfl rfl rfl ?_
        refine am_get (pc' := 36) (v := .ref 55) dX12_viewersBy_33 fl_X12_41 (sm_c45 S0 S) rfl rfl ?_
        refine am_iload_n (pc' := 37) 1 dX12_viewersBy_36 rfl rfl rfl ?_
        obtain ⟨hr4, hres⟩ := am_rg hres
        refine am_iald (pc' := 38) (f := (sm_sheetSort S)) dX12_viewersBy_37 (sm_c55 S0 S) hr4 rfl ?_
        refine am_iconst (pc' := 39) (v := (-1)) dX12_viewersBy_38 kc_m1 rfl ?_
        refine am_icmp_ne (pc' := 42) 45 dX12_viewersBy_39 rfl rfl (fun hc5 => ?_) (fun hc5 => ?_)
        · rw [if_neg hc5] at hres
          refine am_aload_n (pc' := 46) 0 dX12_viewersBy_45 rfl rfl rfl ?_
          refine am_get (pc' := 49) (v := .ref 55) dX12_viewersBy_46 fl_X12_41 (sm_c45 S0 S) rfl rfl ?_
          refine am_iload_n (pc' := 50) 1 dX12_viewersBy_49 rfl rfl rfl ?_
          obtain ⟨hr6, hres⟩ := am_rg hres
          refine am_iald (pc' := 51) (f := (sm_sheetSort S)) dX12_viewersBy_50 (sm_c55 S0 S) hr6 rfl ?_
          refine am_iload_n (pc' := 52) 2 dX12_viewersBy_51 rfl rfl rfl ?_
          refine am_icmp_eq (pc' := 55) 58 dX12_viewersBy_52 rfl rfl (fun hc7 => ?_) (fun hc7 => ?_)
          · rw [if_pos hc7] at hres
            refine am_iconst (pc' := 59) (v := 0) dX12_viewersBy_58 kc_0 rfl ?_
            refine am_istore (pc' := 61) (ls' := [some (.ref 45), some (.int a1), some (.int a2), some (.int a3), some (.int a4), some (.int (0 : Int32)), none, none, none]) dX12_viewersBy_59 (Nat.le_of_ble_eq_true rfl) rfl rfl rfl ?_
            refine am_iconst (pc' := 62) (v := 0) dX12_viewersBy_61 kc_0 rfl ?_
            refine am_istore (pc' := 64) (ls' := [some (.ref 45), some (.int a1), some (.int a2), some (.int a3), some (.int a4), some (.int (0 : Int32)), some (.int (0 : Int32)), none, none]) dX12_viewersBy_62 (Nat.le_of_ble_eq_true rfl) rfl rfl rfl ?_
            refine am_weak (ls' := [some (.ref 45), some (.int a1), none, some (.int a3), some (.int a4), some (.int (0 : Int32)), some (.int (0 : Int32)), none, none]) [false, false, true, false, false, false, false, false, false] rfl ?_
            exact wx_X12_viewersBy_64 S0 am_fu _ _ _ _ _ _ _ hres
          · rw [if_neg hc7] at hres
            refine am_bipush (pc' := 57) (v := (-13)) dX12_viewersBy_55 kb_m13 rfl ?_
            obtain rfl := Option.some.inj hres
            exact am_iret dX12_viewersBy_57 rfl rfl rfl
        · rw [if_pos hc5] at hres
          refine am_bipush (pc' := 44) (v := (-11)) dX12_viewersBy_42 kb_m11 rfl ?_
          obtain rfl := Option.some.inj hres
          exact am_iret dX12_viewersBy_44 rfl rfl rfl
      · rw [if_pos hc3] at hres
        refine am_bipush (pc' := 31) (v := (-2)) dX12_viewersBy_29 kb_m2 rfl ?_
        obtain rfl := Option.some.inj hres
        exact am_iret dX12_viewersBy_31 rfl rfl rfl
set_option maxRecDepth 100000 in
set_option maxHeartbeats 4000000 in
theorem wx_X12_waits_139 (S0 : sx_T) : ∀ (n : Nat) (v2 : Int32) (v3 : Int32) (v4 : Int32) (v6 : Int32) (v7 : Int32) (v8 : Int64) (v10 : Int64) (v12 : Int32) (S : sm_T) (res : Int64 × sm_T) (hres : fx_X12_waits_139 n v2 v3 v4 v6 v7 v8 v10 v12 S = some res), am_G mX12_waits (none, 6, 0, 0, (some (.long res.1)), (sx_w S0 (sm_w res.2))) (0, 0) 139 [some (.ref 45), none, some (.int v2), some (.int v3), some (.int v4), none, some (.int v6), some (.int v7), some (.long v8), none, some (.long v10), none, some (.int v12)] [] (sx_w S0 (sm_w S)) := by
  intro n
  induction n with
  | zero =>
    intro v2 v3 v4 v6 v7 v8 v10 v12 S res hres
    cases hres
  | succ n ih =>
    intro v2 v3 v4 v6 v7 v8 v10 v12 S res hres
    rw [fx_X12_waits_139] at hres
    refine am_iload (pc' := 141) dX12_waits_139 rfl rfl ?_
    refine am_iload (pc' := 143) dX12_waits_141 rfl rfl ?_
    refine am_icmp_ge (pc' := 146) 189 dX12_waits_143 rfl rfl (fun hc8 => ?_) (fun hc8 => ?_)
    · rw [if_pos hc8] at hres
      refine am_lload (pc' := 191) dX12_waits_189 rfl rfl ?_
      refine am_lload (pc' := 193) dX12_waits_191 rfl rfl ?_
      refine am_iload (pc' := 195) dX12_waits_193 rfl rfl ?_
      obtain ⟨q9, hq10, hres⟩ := am_bd_s hres
      refine am_cS (pc' := 198) (st' := [.long q9]) [] [.long v8, .long v10, .int v4] dX12_waits_195 cs_X12_241 (tx_X12_lowest (sx_w S0 (sm_w S)) v8 v10 v4 _ hq10) rfl rfl rfl rfl rfl rfl ?_
      obtain rfl := Option.some.inj hres
      exact am_lret dX12_waits_198 rfl rfl rfl
    · rw [if_neg hc8] at hres
      refine am_aload_n (pc' := 147) 0 dX12_waits_146 rfl rfl rfl ?_
      refine am_iload (pc' := 149) dX12_waits_147 rfl rfl ?_
      refine am_iload_n (pc' := 150) 2 dX12_waits_149 rfl rfl rfl ?_
      obtain ⟨q11, hq12, hres⟩ := am_bd_s hres
      refine am_cV (pc' := 153) (st' := [.int q11.1]) [] [.int v12, .int v2] dX12_waits_150 cs_X12_234 (tx_X12_isOrder S0 v12 v2 S _ hq12) rfl rfl rfl (sm_c45 S0 S) rfl rfl rfl rfl rfl ?_
      refine am_if_eq (pc' := 156) 183 dX12_waits_153 rfl rfl (fun hc13 => ?_) (fun hc13 => ?_)
      · rw [if_pos hc13] at hres
        refine am_iinc (pc' := 186) (ls' := [some (.ref 45), none, some (.int v2), some (.int v3), some (.int v4), none, some (.int v6), some (.int v7), some (.long v8), none, some (.long v10), none, some (.int (v12 + (1 : Int32)))]) dX12_waits_183 rfl (show v12 + Int32.ofInt 1 = (v12 + (1 : Int32)) from congrArg (fun z => v12 + z) kc_1) (Nat.le_of_ble_eq_true rfl) rfl rfl rfl ?_
        refine am_goto 139 dX12_waits_186 rfl ?_
        exact ih _ _ _ _ _ _ _ _ _ _ hres
      · rw [if_neg hc13] at hres
        refine am_lload (pc' := 158) dX12_waits_156 rfl rfl ?_
        refine am_lconst (pc' := 159) (v := 1) dX12_waits_158 kl_1 rfl ?_
        refine am_ladd (pc' := 160) dX12_waits_159 rfl ?_
        refine am_lstore (pc' := 162) (ls' := [some (.ref 45), none, some (.int v2), some (.int v3), some (.int v4), none, some (.int v6), some (.int v7), some (.long v8), none, some (.long (v10 + (1 : Int64))), none, some (.int v12)]) dX12_waits_160 (Nat.le_of_ble_eq_true rfl) rfl rfl rfl ?_
        refine am_lload (pc' := 164) dX12_waits_162 rfl rfl ?_
        refine am_aload_n (pc' := 165) 0 dX12_waits_164 rfl rfl rfl ?_
        refine am_iload_n (pc' := 166) 2 dX12_waits_165 rfl rfl rfl ?_
        refine am_iload_n (pc' := 167) 3 dX12_waits_166 rfl rfl rfl ?_
        obtain ⟨q14, hq15, hres⟩ := am_bd_s hres
        refine am_cV (pc' := 170) (st' := [.int q14, .long v8]) [.long v8] [.int v2, .int v3] dX12_waits_167 cs_X12_238 (tx_X12_takenOf S0 v2 v3 q11.2 _ hq15) rfl rfl rfl (sm_c45 S0 q11.2) rfl rfl rfl rfl rfl ?_
        refine am_iload (pc' := 172) dX12_waits_170 rfl rfl ?_
        refine am_icmp_ne (pc' := 175) 179 dX12_waits_172 rfl rfl (fun hc16 => ?_) (fun hc16 => ?_)
        · rw [if_neg hc16] at hres
          refine am_lconst (pc' := 180) (v := 0) dX12_waits_179 kl_0 rfl ?_
          refine am_ladd (pc' := 181) dX12_waits_180 rfl ?_
          refine am_lstore (pc' := 183) (ls' := [some (.ref 45), none, some (.int v2), some (.int v3), some (.int v4), none, some (.int v6), some (.int v7), some (.long (v8 + (0 : Int64))), none, some (.long (v10 + (1 : Int64))), none, some (.int v12)]) dX12_waits_181 (Nat.le_of_ble_eq_true rfl) rfl rfl rfl ?_
          refine am_iinc (pc' := 186) (ls' := [some (.ref 45), none, some (.int v2), some (.int v3), some (.int v4), none, some (.int v6), some (.int v7), some (.long (v8 + (0 : Int64))), none, some (.long (v10 + (1 : Int64))), none, some (.int (v12 + (1 : Int32)))]) dX12_waits_183 rfl (show v12 + Int32.ofInt 1 = (v12 + (1 : Int32)) from congrArg (fun z => v12 + z) kc_1) (Nat.le_of_ble_eq_true rfl) rfl rfl rfl ?_
          refine am_goto 139 dX12_waits_186 rfl ?_
          exact ih _ _ _ _ _ _ _ _ _ _ hres
        · rw [if_pos hc16] at hres
          refine am_lconst (pc' := 176) (v := 1) dX12_waits_175 kl_1 rfl ?_
          refine am_goto 180 dX12_waits_176 rfl ?_
          refine am_ladd (pc' := 181) dX12_waits_180 rfl ?_
          refine am_lstore (pc' := 183) (ls' := [some (.ref 45), none, some (.int v2), some (.int v3), some (.int v4), none, some (.int v6), some (.int v7), some (.long (v8 + (1 : Int64))), none, some (.long (v10 + (1 : Int64))), none, some (.int v12)]) dX12_waits_181 (Nat.le_of_ble_eq_true rfl) rfl rfl rfl ?_
          refine am_iinc (pc' := 186) (ls' := [some (.ref 45), none, some (.int v2), some (.int v3), some (.int v4), none, some (.int v6), some (.int v7), some (.long (v8 + (1 : Int64))), none, some (.long (v10 + (1 : Int64))), none, some (.int (v12 + (1 : Int32)))]) dX12_waits_183 rfl (show v12 + Int32.ofInt 1 = (v12 + (1 : Int32)) from congrArg (fun z => v12 + z) kc_1) (Nat.le_of_ble_eq_true rfl) rfl rfl rfl ?_
          refine am_goto 139 dX12_waits_186 rfl ?_
          exact ih _ _ _ _ _ _ _ _ _ _ hres

set_option maxRecDepth 100000 in
set_option maxHeartbeats 4000000 in
theorem wx_X12_waits_72 (S0 : sx_T) : ∀ (n : Nat) (v2 : Int32) (v3 : Int32) (v4 : Int32) (v6 : Int32) (v7 : Int32) (v8 : Int32) (S : sm_T) (res : Int64 × sm_T) (hres : fx_X12_waits_72 n v2 v3 v4 v6 v7 v8 S = some res), am_G mX12_waits (none, 6, 0, 0, (some (.long res.1)), (sx_w S0 (sm_w res.2))) (0, 0) 72 [some (.ref 45), none, some (.int v2), some (.int v3), some (.int v4), none, some (.int v6), some (.int v7), some (.int v8), none, none, none, none] [] (sx_w S0 (sm_w S)) := by
  intro n
  induction n with
  | zero =>
    intro v2 v3 v4 v6 v7 v8 S res hres
    cases hres
  | succ n ih =>
    intro v2 v3 v4 v6 v7 v8 S res hres
    rw [fx_X12_waits_72] at hres
    refine am_iload (pc' := 74) dX12_waits_72 rfl rfl ?_
    refine am_iload_n (pc' := 75) 2 dX12_waits_74 rfl rfl rfl ?_
    refine am_icmp_ge (pc' := 78) 130 dX12_waits_75 rfl rfl (fun hc7 => ?_) (fun hc7 => ?_)
    · rw [if_pos hc7] at hres
      refine am_lconst (pc' := 131) (v := 0) dX12_waits_130 kl_0 rfl ?_
      refine am_lstore (pc' := 133) (ls' := [some (.ref 45), none, some (.int v2), some (.int v3), some (.int v4), none, some (.int v6), some (.int v7), some (.long (0 : Int64)), none, none, none, none]) dX12_waits_131 (Nat.le_of_ble_eq_true rfl) rfl rfl rfl ?_
      refine am_lconst (pc' := 134) (v := 0) dX12_waits_133 kl_0 rfl ?_
      refine am_lstore (pc' := 136) (ls' := [some (.ref 45), none, some (.int v2), some (.int v3), some (.int v4), none, some (.int v6), some (.int v7), some (.long (0 : Int64)), none, some (.long (0 : Int64)), none, none]) dX12_waits_134 (Nat.le_of_ble_eq_true rfl) rfl rfl rfl ?_
      refine am_iconst (pc' := 137) (v := 0) dX12_waits_136 kc_0 rfl ?_
      refine am_istore (pc' := 139) (ls' := [some (.ref 45), none, some (.int v2), some (.int v3), some (.int v4), none, some (.int v6), some (.int v7), some (.long (0 : Int64)), none, some (.long (0 : Int64)), none, some (.int (0 : Int32))]) dX12_waits_137 (Nat.le_of_ble_eq_true rfl) rfl rfl rfl ?_
      exact wx_X12_waits_139 S0 am_fu _ _ _ _ _ _ _ _ _ _ hres
    · rw [if_neg hc7] at hres
      refine am_aload_n (pc' := 79) 0 dX12_waits_78 rfl rfl rfl ?_
      refine am_get (pc' := 82) (v := .ref 66) dX12_waits_79 fl_X12_74 (sm_c45 S0 S) rfl rfl ?_
      refine am_iload (pc' := 84) dX12_waits_82 rfl rfl ?_
      refine am_aload_n (pc' := 85) 0 dX12_waits_84 rfl rfl rfl ?_
      refine am_iload (pc' := 87) dX12_waits_85 rfl rfl ?_
      refine am_iconst (pc' := 88) (v := 1) dX12_waits_87 kc_1 rfl ?_
      obtain ⟨q17, hq18, hres⟩ := am_bd_s hres
      refine am_cV (pc' := 91) (st' := [.int q17.1, .int v8, .ref 66]) [.int v8, .ref 66] [.int v8, .int (1 : Int32)] dX12_waits_88 cs_X12_202 (tx_X12_offerOf S0 v8 (1 : Int32) S _ hq18) rfl rfl rfl (sm_c45 S0 S) rfl rfl rfl rfl rfl ?_
      obtain ⟨hr19, hres⟩ := am_rg hres
      refine am_iast (pc' := 92) (f := (sm_offerAlone q17.2)) (ws' := (sx_w S0 (sm_w (um_offerAlone q17.2 (upd (sm_offerAlone q17.2) v8.toNatClampNeg q17.1))))) dX12_waits_91 (sm_c66 S0 q17.2) hr19 (sm_p_offerAlone S0 q17.2 _) rfl ?_
      refine am_aload_n (pc' := 93) 0 dX12_waits_92 rfl rfl rfl ?_
      refine am_get (pc' := 96) (v := .ref 66) dX12_waits_93 fl_X12_74 (sm_c45 S0 (um_offerAlone q17.2 (upd (sm_offerAlone q17.2) v8.toNatClampNeg q17.1))) rfl rfl ?_
      refine am_iload (pc' := 98) dX12_waits_96 rfl rfl ?_
      obtain ⟨hr20, hres⟩ := am_rg hres
      refine am_iald (pc' := 99) (f := (upd (sm_offerAlone q17.2) v8.toNatClampNeg q17.1)) dX12_waits_98 (sm_c66 S0 (um_offerAlone q17.2 (upd (sm_offerAlone q17.2) v8.toNatClampNeg q17.1))) hr20 rfl ?_
      refine am_iload (pc' := 101) dX12_waits_99 rfl rfl ?_
      refine am_icmp_le (pc' := 104) 114 dX12_waits_101 rfl rfl (fun hc21 => ?_) (fun hc21 => ?_)
      · rw [if_pos hc21] at hres
        refine am_iload (pc' := 116) dX12_waits_114 rfl rfl ?_
        refine am_istore (pc' := 118) (ls' := [some (.ref 45), none, some (.int v2), some (.int v3), some (.int v4), none, some (.int v6), some (.int v7), some (.int v8), none, none, none, none]) dX12_waits_116 (Nat.le_of_ble_eq_true rfl) rfl rfl rfl ?_
        refine am_iload (pc' := 120) dX12_waits_118 rfl rfl ?_
        refine am_iload_n (pc' := 121) 2 dX12_waits_120 rfl rfl rfl ?_
        refine am_imul (pc' := 122) dX12_waits_121 rfl ?_
        refine am_istore (pc' := 124) (ls' := [some (.ref 45), none, some (.int v2), some (.int v3), some (.int v4), none, some (.int v6), some (.int (v7 * v2)), some (.int v8), none, none, none, none]) dX12_waits_122 (Nat.le_of_ble_eq_true rfl) rfl rfl rfl ?_
        refine am_iinc (pc' := 127) (ls' := [some (.ref 45), none, some (.int v2), some (.int v3), some (.int v4), none, some (.int v6), some (.int (v7 * v2)), some (.int (v8 + (1 : Int32))), none, none, none, none]) dX12_waits_124 rfl (show v8 + Int32.ofInt 1 = (v8 + (1 : Int32)) from congrArg (fun z => v8 + z) kc_1) (Nat.le_of_ble_eq_true rfl) rfl rfl rfl ?_
        refine am_goto 72 dX12_waits_127 rfl ?_
        exact ih _ _ _ _ _ _ _ _ hres
      · rw [if_neg hc21] at hres
        refine am_aload_n (pc' := 105) 0 dX12_waits_104 rfl rfl rfl ?_
        refine am_get (pc' := 108) (v := .ref 66) dX12_waits_105 fl_X12_74 (sm_c45 S0 (um_offerAlone q17.2 (upd (sm_offerAlone q17.2) v8.toNatClampNeg q17.1))) rfl rfl ?_
        refine am_iload (pc' := 110) dX12_waits_108 rfl rfl ?_
        obtain ⟨hr22, hres⟩ := am_rg hres
        refine am_iald (pc' := 111) (f := (upd (sm_offerAlone q17.2) v8.toNatClampNeg q17.1)) dX12_waits_110 (sm_c66 S0 (um_offerAlone q17.2 (upd (sm_offerAlone q17.2) v8.toNatClampNeg q17.1))) hr22 rfl ?_
        refine am_goto 116 dX12_waits_111 rfl ?_
        refine am_istore (pc' := 118) (ls' := [some (.ref 45), none, some (.int v2), some (.int v3), some (.int v4), none, some (.int ((upd (sm_offerAlone q17.2) v8.toNatClampNeg q17.1) v8.toNatClampNeg)), some (.int v7), some (.int v8), none, none, none, none]) dX12_waits_116 (Nat.le_of_ble_eq_true rfl) rfl rfl rfl ?_
        refine am_iload (pc' := 120) dX12_waits_118 rfl rfl ?_
        refine am_iload_n (pc' := 121) 2 dX12_waits_120 rfl rfl rfl ?_
        refine am_imul (pc' := 122) dX12_waits_121 rfl ?_
        refine am_istore (pc' := 124) (ls' := [some (.ref 45), none, some (.int v2), some (.int v3), some (.int v4), none, some (.int ((upd (sm_offerAlone q17.2) v8.toNatClampNeg q17.1) v8.toNatClampNeg)), some (.int (v7 * v2)), some (.int v8), none, none, none, none]) dX12_waits_122 (Nat.le_of_ble_eq_true rfl) rfl rfl rfl ?_
        refine am_iinc (pc' := 127) (ls' := [some (.ref 45), none, some (.int v2), some (.int v3), some (.int v4), none, some (.int ((upd (sm_offerAlone q17.2) v8.toNatClampNeg q17.1) v8.toNatClampNeg)), some (.int (v7 * v2)), some (.int (v8 + (1 : Int32))), none, none, none, none]) dX12_waits_124 rfl (show v8 + Int32.ofInt 1 = (v8 + (1 : Int32)) from congrArg (fun z => v8 + z) kc_1) (Nat.le_of_ble_eq_true rfl) rfl rfl rfl ?_
        refine am_goto 72 dX12_waits_127 rfl ?_
        exact ih _ _ _ _ _ _ _ _ hres

set_option maxRecDepth 100000 in
set_option maxHeartbeats 4000000 in
theorem wx_X12_waits_31 (S0 : sx_T) : ∀ (v2 : Int32) (v3 : Int32) (v4 : Int32) (w0 : Int32) (S : sm_T) (res : Int64 × sm_T) (hres : fx_X12_waits_31 v2 v3 v4 w0 S = some res), am_G mX12_waits (none, 6, 0, 0, (some (.long res.1)), (sx_w S0 (sm_w res.2))) (0, 0) 31 [some (.ref 45), none, some (.int v2), some (.int v3), some (.int v4), none, none, none, none, none, none, none, none] [.int w0] (sx_w S0 (sm_w S)) := by
  intro v2 v3 v4 w0 S res hres
  rw [fx_X12_waits_31] at hres
  refine am_istore (pc' := 33) (ls' := [some (.ref 45), none, some (.int v2), some (.int v3), some (.int v4), some (.int w0), none, none, none, none, none, none, none]) dX12_waits_31 (Nat.le_of_ble_eq_true rfl) rfl rfl rfl ?_
  refine am_iload (pc' := 35) dX12_waits_33 rfl rfl ?_
  refine am_if_eq (pc' := 38) 59 dX12_waits_35 rfl rfl (fun hc4 => ?_) (fun hc4 => ?_)
  · rw [if_pos hc4] at hres
    refine am_ldc2 (pc' := 62) dX12_waits_59 ck_X12_232 rfl ?_
    obtain rfl := Option.some.inj hres
    exact am_lret dX12_waits_62 rfl rfl rfl
  · rw [if_neg hc4] at hres
    refine am_iload_n (pc' := 39) 3 dX12_waits_38 rfl rfl rfl ?_
    refine am_iconst (pc' := 40) (v := 0) dX12_waits_39 kc_0 rfl ?_
    refine am_iload_n (pc' := 41) 2 dX12_waits_40 rfl rfl rfl ?_
    refine am_iconst (pc' := 42) (v := 1) dX12_waits_41 kc_1 rfl ?_
    refine am_isub (pc' := 43) dX12_waits_42 rfl ?_
    refine am_cS (pc' := 46) (st' := [.int (fx_X12_in v3 (0 : Int32) (v2 - (1 : Int32)))]) [] [.int v3, .int (0 : Int32), .int (v2 - (1 : Int32))] dX12_waits_43 cs_X12_90 (tx_X12_in (sx_w S0 (sm_w S)) v3 (0 : Int32) (v2 - (1 : Int32)) _ rfl) rfl rfl rfl rfl rfl rfl ?_
    refine am_if_eq (pc' := 49) 59 dX12_waits_46 rfl rfl (fun hc5 => ?_) (fun hc5 => ?_)
    · rw [if_pos hc5] at hres
      refine am_ldc2 (pc' := 62) dX12_waits_59 ck_X12_232 rfl ?_
      obtain rfl := Option.some.inj hres
      exact am_lret dX12_waits_62 rfl rfl rfl
    · rw [if_neg hc5] at hres
      refine am_iload (pc' := 51) dX12_waits_49 rfl rfl ?_
      refine am_iconst (pc' := 52) (v := 0) dX12_waits_51 kc_0 rfl ?_
      refine am_iconst (pc' := 53) (v := 1) dX12_waits_52 kc_1 rfl ?_
      refine am_cS (pc' := 56) (st' := [.int (fx_X12_in v4 (0 : Int32) (1 : Int32))]) [] [.int v4, .int (0 : Int32), .int (1 : Int32)] dX12_waits_53 cs_X12_90 (tx_X12_in (sx_w S0 (sm_w S)) v4 (0 : Int32) (1 : Int32) _ rfl) rfl rfl rfl rfl rfl rfl ?_
      refine am_if_ne (pc' := 59) 63 dX12_waits_56 rfl rfl (fun hc6 => ?_) (fun hc6 => ?_)
      · rw [if_neg hc6] at hres
        refine am_iconst (pc' := 64) (v := 0) dX12_waits_63 kc_0 rfl ?_
        refine am_istore (pc' := 66) (ls' := [some (.ref 45), none, some (.int v2), some (.int v3), some (.int v4), some (.int w0), some (.int (0 : Int32)), none, none, none, none, none, none]) dX12_waits_64 (Nat.le_of_ble_eq_true rfl) rfl rfl rfl ?_
        refine am_iconst (pc' := 67) (v := 1) dX12_waits_66 kc_1 rfl ?_
        refine am_istore (pc' := 69) (ls' := [some (.ref 45), none, some (.int v2), some (.int v3), some (.int v4), some (.int w0), some (.int (0 : Int32)), some (.int (1 : Int32)), none, none, none, none, none]) dX12_waits_67 (Nat.le_of_ble_eq_true rfl) rfl rfl rfl ?_
        refine am_iconst (pc' := 70) (v := 0) dX12_waits_69 kc_0 rfl ?_
        refine am_istore (pc' := 72) (ls' := [some (.ref 45), none, some (.int v2), some (.int v3), some (.int v4), some (.int w0), some (.int (0 : Int32)), some (.int (1 : Int32)), some (.int (0 : Int32)), none, none, none, none]) dX12_waits_70 (Nat.le_of_ble_eq_true rfl) rfl rfl rfl ?_
        refine am_weak (ls' := [some (.ref 45), none, some (.int v2), some (.int v3), some (.int v4), none, some (.int (0 : Int32)), some (.int (1 : Int32)), some (.int (0 : Int32)), none, none, none, none]) [false, false, false, false, false, true, false, false, false, false, false, false, false] rfl ?_
        exact wx_X12_waits_72 S0 am_fu _ _ _ _ _ _ _ _ hres
      · rw [if_pos hc6] at hres
        refine am_ldc2 (pc' := 62) dX12_waits_59 ck_X12_232 rfl ?_
        obtain rfl := Option.some.inj hres
        exact am_lret dX12_waits_62 rfl rfl rfl

set_option maxRecDepth 100000 in
set_option maxHeartbeats 4000000 in
theorem wx_X12_waits_30 (S0 : sx_T) : ∀ (v2 : Int32) (v3 : Int32) (v4 : Int32) (S : sm_T) (res : Int64 × sm_T) (hres : fx_X12_waits_30 v2 v3 v4 S = some res), am_G mX12_waits (none, 6, 0, 0, (some (.long res.1)), (sx_w S0 (sm_w res.2))) (0, 0) 30 [some (.ref 45), none, some (.int v2), some (.int v3), some (.int v4), none, none, none, none, none, none, none, none] [] (sx_w S0 (sm_w S)) := by
  intro v2 v3 v4 S res hres
  rw [fx_X12_waits_30] at hres
  refine am_iconst (pc' := 31) (v := 0) dX12_waits_30 kc_0 rfl ?_
  exact wx_X12_waits_31 S0 _ _ _ _ _ _ hres

set_option maxRecDepth 100000 in
set_option maxHeartbeats 4000000 in
theorem tx_X12_waits (S0 : sx_T) (a1 : Int32) (a2 : Int32) (a3 : Int32) (a4 : Int32) (S : sm_T) (res : Int64 × sm_T) (hres : fx_X12_waits a1 a2 a3 a4 S = some res) : am_T mX12_waits 6 0 0 [.ref 45, .int a1, .int a2, .int a3, .int a4] (sx_w S0 (sm_w S)) (some (.long res.1)) (sx_w S0 (sm_w res.2)) := by
  refine am_meth (ls := [some (.ref 45), some (.int a1), some (.int a2), some (.int a3), some (.int a4), none, none, none, none, none, none, none, none]) (by decide +kernel) rfl (Nat.le_of_ble_eq_true rfl) (sm_len _ _ _ _) ?_
  rw [fx_X12_waits] at hres
  refine am_aload_n (pc' := 1) 0 dX12_waits_0 rfl rfl rfl ?_
  refine am_iload_n (pc' := 2) 1 dX12_waits_1 rfl rfl rfl ?_
  obtain ⟨q1, hq2, hres⟩ := am_bd_s hres
  refine am_cV (pc' := 5) (st' := [.int q1.1]) [] [.int a1] dX12_waits_2 cs_X12_197 (tx_X12_reads S0 a1 S _ hq2) rfl rfl rfl (sm_c45 S0 S) rfl rfl rfl rfl rfl ?_
  refine am_if_ne (pc' := 8) 30 dX12_waits_5 rfl rfl (fun hc3 => ?_) (fun hc3 => ?_)
  · rw [if_neg hc3] at hres
    refine am_weak (ls' := [some (.ref 45), none, some (.int a2), some (.int a3), some (.int a4), none, none, none, none, none, none, none, none]) [false, true, false, false, false, false, false, false, false, false, false, false, false] rfl ?_
    exact wx_X12_waits_30 S0 _ _ _ _ _ hres
  · rw [if_pos hc3] at hres
    refine am_iload_n (pc' := 9) 2 dX12_waits_8 rfl rfl rfl ?_
    refine am_iconst (pc' := 10) (v := 1) dX12_waits_9 kc_1 rfl ?_
    refine am_bipush (pc' := 12) (v := 6) dX12_waits_10 kb_6 rfl ?_
    refine am_cS (pc' := 15) (st' := [.int (fx_X12_in a2 (1 : Int32) (6 : Int32))]) [] [.int a2, .int (1 : Int32), .int (6 : Int32)] dX12_waits_12 cs_X12_90 (tx_X12_in (sx_w S0 (sm_w q1.2)) a2 (1 : Int32) (6 : Int32) _ rfl) rfl rfl rfl rfl rfl rfl ?_
    refine am_if_eq (pc' := 18) 30 dX12_waits_15 rfl rfl (fun hc23 => ?_) (fun hc23 => ?_)
    · rw [if_pos hc23] at hres
      refine am_weak (ls' := [some (.ref 45), none, some (.int a2), some (.int a3), some (.int a4), none, none, none, none, none, none, none, none]) [false, true, false, false, false, false, false, false, false, false, false, false, false] rfl ?_
      exact wx_X12_waits_30 S0 _ _ _ _ _ hres
    · rw [if_neg hc23] at hres
      refine am_iload_n (pc' := 19) 2 dX12_waits_18 rfl rfl rfl ?_
      refine am_aload_n (pc' := 20) 0 dX12_waits_19 rfl rfl rfl ?_
      refine am_get (pc' := 23) (v := .int (sm_viewers q1.2)) dX12_waits_20 fl_X12_87 (sm_c45 S0 q1.2) rfl rfl ?_
      refine am_icmp_gt (pc' := 26) 30 dX12_waits_23 rfl rfl (fun hc24 => ?_) (fun hc24 => ?_)
      · rw [if_pos hc24] at hres
        refine am_weak (ls' := [some (.ref 45), none, some (.int a2), some (.int a3), some (.int a4), none, none, none, none, none, none, none, none]) [false, true, false, false, false, false, false, false, false, false, false, false, false] rfl ?_
        exact wx_X12_waits_30 S0 _ _ _ _ _ hres
      · rw [if_neg hc24] at hres
        refine am_iconst (pc' := 27) (v := 1) dX12_waits_26 kc_1 rfl ?_
        refine am_goto 31 dX12_waits_27 rfl ?_
        refine am_weak (ls' := [some (.ref 45), none, some (.int a2), some (.int a3), some (.int a4), none, none, none, none, none, none, none, none]) [false, true, false, false, false, false, false, false, false, false, false, false, false] rfl ?_
        exact wx_X12_waits_31 S0 _ _ _ _ _ _ hres
set_option maxRecDepth 100000 in
set_option maxHeartbeats 4000000 in
theorem wx_X12_when_50 (S0 : sx_T) : ∀ (n : Nat) (v2 : Int32) (v3 : Int32) (v5 : Int32) (v6 : Int32) (v7 : Int32) (v8 : Int32) (S : sm_T) (res : Int32 × sm_T) (hres : fx_X12_when_50 n v2 v3 v5 v6 v7 v8 S = some res), am_G mX12_when (none, 7, 0, 0, (some (.int res.1)), (sx_w S0 (sm_w res.2))) (0, 0) 50 [some (.ref 45), none, some (.int v2), some (.int v3), none, some (.int v5), some (.int v6), some (.int v7), some (.int v8)] [] (sx_w S0 (sm_w S)) := by
  intro n
  induction n with
  | zero =>
    intro v2 v3 v5 v6 v7 v8 S res hres
    cases hres
  | succ n ih =>
    intro v2 v3 v5 v6 v7 v8 S res hres
    rw [fx_X12_when_50] at hres
    refine am_iload (pc' := 52) dX12_when_50 rfl rfl ?_
    refine am_bipush (pc' := 54) (v := 12) dX12_when_52 kb_12 rfl ?_
    refine am_icmp_ge (pc' := 57) 112 dX12_when_54 rfl rfl (fun hc6 => ?_) (fun hc6 => ?_)
    · rw [if_pos hc6] at hres
      refine am_aload_n (pc' := 113) 0 dX12_when_112 rfl rfl rfl ?_
      refine am_iload (pc' := 115) dX12_when_113 rfl rfl ?_
      refine am_put (pc' := 118) (ws' := (sx_w S0 (sm_w (um_hour S v5)))) (v := .int v5) dX12_when_115 fp_X12_22 (sm_c45 S0 S) (fun _ => ⟨rfl, rfl⟩) (Nat.le_of_ble_eq_true rfl) (sm_p_hour S0 S _) rfl ?_
      refine am_iload_n (pc' := 119) 3 dX12_when_118 rfl rfl rfl ?_
      refine am_if_ne (pc' := 122) 127 dX12_when_119 rfl rfl (fun hc7 => ?_) (fun hc7 => ?_)
      · rw [if_neg hc7] at hres
        refine am_iload (pc' := 129) dX12_when_127 rfl rfl ?_
        obtain rfl := Option.some.inj hres
        exact am_iret dX12_when_129 rfl rfl rfl
      · rw [if_pos hc7] at hres
        refine am_iload (pc' := 124) dX12_when_122 rfl rfl ?_
        refine am_goto 129 dX12_when_124 rfl ?_
        obtain rfl := Option.some.inj hres
        exact am_iret dX12_when_129 rfl rfl rfl
    · rw [if_neg hc6] at hres
      refine am_aload_n (pc' := 58) 0 dX12_when_57 rfl rfl rfl ?_
      refine am_iload (pc' := 60) dX12_when_58 rfl rfl ?_
      refine am_put (pc' := 63) (ws' := (sx_w S0 (sm_w (um_hour S v8)))) (v := .int v8) dX12_when_60 fp_X12_22 (sm_c45 S0 S) (fun _ => ⟨rfl, rfl⟩) (Nat.le_of_ble_eq_true rfl) (sm_p_hour S0 S _) rfl ?_
      refine am_aload_n (pc' := 64) 0 dX12_when_63 rfl rfl rfl ?_
      refine am_iload_n (pc' := 65) 2 dX12_when_64 rfl rfl rfl ?_
      obtain ⟨q8, hq9, hres⟩ := am_bd_s hres
      refine am_cV (pc' := 68) (st' := []) [] [.int v2] dX12_when_65 cs_X12_220 (tx_X12_shows S0 v2 (um_hour S v8) _ hq9) rfl rfl rfl (sm_c45 S0 (um_hour S v8)) rfl rfl rfl rfl rfl ?_
      refine am_aload_n (pc' := 69) 0 dX12_when_68 rfl rfl rfl ?_
      refine am_get (pc' := 72) (v := .int (sm_bestOffer q8)) dX12_when_69 fl_X12_211 (sm_c45 S0 q8) rfl rfl ?_
      refine am_iload (pc' := 74) dX12_when_72 rfl rfl ?_
      refine am_icmp_le (pc' := 77) 82 dX12_when_74 rfl rfl (fun hc10 => ?_) (fun hc10 => ?_)
      · rw [if_pos hc10] at hres
        refine am_iload (pc' := 84) dX12_when_82 rfl rfl ?_
        refine am_istore (pc' := 86) (ls' := [some (.ref 45), none, some (.int v2), some (.int v3), none, some (.int v5), some (.int v6), some (.int v7), some (.int v8)]) dX12_when_84 (Nat.le_of_ble_eq_true rfl) rfl rfl rfl ?_
        refine am_aload_n (pc' := 87) 0 dX12_when_86 rfl rfl rfl ?_
        refine am_get (pc' := 90) (v := .int (sm_bestOffer q8)) dX12_when_87 fl_X12_211 (sm_c45 S0 q8) rfl rfl ?_
        refine am_iload (pc' := 92) dX12_when_90 rfl rfl ?_
        refine am_icmp_le (pc' := 95) 102 dX12_when_92 rfl rfl (fun hc11 => ?_) (fun hc11 => ?_)
        · rw [if_pos hc11] at hres
          refine am_iload (pc' := 104) dX12_when_102 rfl rfl ?_
          refine am_istore (pc' := 106) (ls' := [some (.ref 45), none, some (.int v2), some (.int v3), none, some (.int v5), some (.int v6), some (.int v7), some (.int v8)]) dX12_when_104 (Nat.le_of_ble_eq_true rfl) rfl rfl rfl ?_
          refine am_iinc (pc' := 109) (ls' := [some (.ref 45), none, some (.int v2), some (.int v3), none, some (.int v5), some (.int v6), some (.int v7), some (.int (v8 + (1 : Int32)))]) dX12_when_106 rfl (show v8 + Int32.ofInt 1 = (v8 + (1 : Int32)) from congrArg (fun z => v8 + z) kc_1) (Nat.le_of_ble_eq_true rfl) rfl rfl rfl ?_
          refine am_goto 50 dX12_when_109 rfl ?_
          exact ih _ _ _ _ _ _ _ _ hres
        · rw [if_neg hc11] at hres
          refine am_aload_n (pc' := 96) 0 dX12_when_95 rfl rfl rfl ?_
          refine am_get (pc' := 99) (v := .int (sm_bestOffer q8)) dX12_when_96 fl_X12_211 (sm_c45 S0 q8) rfl rfl ?_
          refine am_goto 104 dX12_when_99 rfl ?_
          refine am_istore (pc' := 106) (ls' := [some (.ref 45), none, some (.int v2), some (.int v3), none, some (.int v5), some (.int v6), some (.int (sm_bestOffer q8)), some (.int v8)]) dX12_when_104 (Nat.le_of_ble_eq_true rfl) rfl rfl rfl ?_
          refine am_iinc (pc' := 109) (ls' := [some (.ref 45), none, some (.int v2), some (.int v3), none, some (.int v5), some (.int v6), some (.int (sm_bestOffer q8)), some (.int (v8 + (1 : Int32)))]) dX12_when_106 rfl (show v8 + Int32.ofInt 1 = (v8 + (1 : Int32)) from congrArg (fun z => v8 + z) kc_1) (Nat.le_of_ble_eq_true rfl) rfl rfl rfl ?_
          refine am_goto 50 dX12_when_109 rfl ?_
          exact ih _ _ _ _ _ _ _ _ hres
      · rw [if_neg hc10] at hres
        refine am_iload (pc' := 79) dX12_when_77 rfl rfl ?_
        refine am_goto 84 dX12_when_79 rfl ?_
        refine am_istore (pc' := 86) (ls' := [some (.ref 45), none, some (.int v2), some (.int v3), none, some (.int v5), some (.int v8), some (.int v7), some (.int v8)]) dX12_when_84 (Nat.le_of_ble_eq_true rfl) rfl rfl rfl ?_
        refine am_aload_n (pc' := 87) 0 dX12_when_86 rfl rfl rfl ?_
        refine am_get (pc' := 90) (v := .int (sm_bestOffer q8)) dX12_when_87 fl_X12_211 (sm_c45 S0 q8) rfl rfl ?_
        refine am_iload (pc' := 92) dX12_when_90 rfl rfl ?_
        refine am_icmp_le (pc' := 95) 102 dX12_when_92 rfl rfl (fun hc12 => ?_) (fun hc12 => ?_)
        · rw [if_pos hc12] at hres
          refine am_iload (pc' := 104) dX12_when_102 rfl rfl ?_
          refine am_istore (pc' := 106) (ls' := [some (.ref 45), none, some (.int v2), some (.int v3), none, some (.int v5), some (.int v8), some (.int v7), some (.int v8)]) dX12_when_104 (Nat.le_of_ble_eq_true rfl) rfl rfl rfl ?_
          refine am_iinc (pc' := 109) (ls' := [some (.ref 45), none, some (.int v2), some (.int v3), none, some (.int v5), some (.int v8), some (.int v7), some (.int (v8 + (1 : Int32)))]) dX12_when_106 rfl (show v8 + Int32.ofInt 1 = (v8 + (1 : Int32)) from congrArg (fun z => v8 + z) kc_1) (Nat.le_of_ble_eq_true rfl) rfl rfl rfl ?_
          refine am_goto 50 dX12_when_109 rfl ?_
          exact ih _ _ _ _ _ _ _ _ hres
        · rw [if_neg hc12] at hres
          refine am_aload_n (pc' := 96) 0 dX12_when_95 rfl rfl rfl ?_
          refine am_get (pc' := 99) (v := .int (sm_bestOffer q8)) dX12_when_96 fl_X12_211 (sm_c45 S0 q8) rfl rfl ?_
          refine am_goto 104 dX12_when_99 rfl ?_
          refine am_istore (pc' := 106) (ls' := [some (.ref 45), none, some (.int v2), some (.int v3), none, some (.int v5), some (.int v8), some (.int (sm_bestOffer q8)), some (.int v8)]) dX12_when_104 (Nat.le_of_ble_eq_true rfl) rfl rfl rfl ?_
          refine am_iinc (pc' := 109) (ls' := [some (.ref 45), none, some (.int v2), some (.int v3), none, some (.int v5), some (.int v8), some (.int (sm_bestOffer q8)), some (.int (v8 + (1 : Int32)))]) dX12_when_106 rfl (show v8 + Int32.ofInt 1 = (v8 + (1 : Int32)) from congrArg (fun z => v8 + z) kc_1) (Nat.le_of_ble_eq_true rfl) rfl rfl rfl ?_
          refine am_goto 50 dX12_when_109 rfl ?_
          exact ih _ _ _ _ _ _ _ _ hres

set_option maxRecDepth 100000 in
set_option maxHeartbeats 4000000 in
theorem tx_X12_when (S0 : sx_T) (a1 : Int32) (a2 : Int32) (a3 : Int32) (S : sm_T) (res : Int32 × sm_T) (hres : fx_X12_when a1 a2 a3 S = some res) : am_T mX12_when 7 0 0 [.ref 45, .int a1, .int a2, .int a3] (sx_w S0 (sm_w S)) (some (.int res.1)) (sx_w S0 (sm_w res.2)) := by
  refine am_meth (ls := [some (.ref 45), some (.int a1), some (.int a2), some (.int a3), none, none, none, none, none]) (by decide +kernel) rfl (Nat.le_of_ble_eq_true rfl) (sm_len _ _ _ _) ?_
  rw [fx_X12_when] at hres
  refine am_aload_n (pc' := 1) 0 dX12_when_0 rfl rfl rfl ?_
  refine am_iload_n (pc' := 2) 1 dX12_when_1 rfl rfl rfl ?_
  obtain ⟨q1, hq2, hres⟩ := am_bd_s hres
  refine am_cV (pc' := 5) (st' := [.int q1.1]) [] [.int a1] dX12_when_2 cs_X12_197 (tx_X12_reads S0 a1 S _ hq2) rfl rfl rfl (sm_c45 S0 S) rfl rfl rfl rfl rfl ?_
  refine am_istore (pc' := 7) (ls' := [some (.ref 45), some (.int a1), some (.int a2), some (.int a3), some (.int q1.1), none, none, none, none]) dX12_when_5 (Nat.le_of_ble_eq_true rfl) rfl rfl rfl ?_
  refine am_iload (pc' := 9) dX12_when_7 rfl rfl ?_
  refine am_if_eq (pc' := 12) 15 dX12_when_9 rfl rfl (fun hc3 => ?_) (fun hc3 => ?_)
  · rw [if_pos hc3] at hres
    refine am_aload_n (pc' := 16) 0 dX12_when_15 rfl rfl rfl ?_
    refine am_iload_n (pc' := 17) 2 dX12_when_16 rfl rfl rfl ?_
    refine am_cV (pc' := 20) (st' := [.int (fx_X12_isSome a2 q1.2)]) [] [.int a2] dX12_when_17 cs_X12_217 (tx_X12_isSome S0 a2 q1.2 _ rfl) rfl rfl rfl (sm_c45 S0 q1.2) rfl rfl rfl rfl rfl ?_
    refine am_if_eq (pc' := 23) 32 dX12_when_20 rfl rfl (fun hc4 => ?_) (fun hc4 => ?_)
    · rw [if_pos hc4] at hres
      refine am_bipush (pc' := 34) (v := (-7)) dX12_when_32 kb_m7 rfl ?_
      obtain rfl := Option.some.inj hres
      exact am_iret dX12_when_34 rfl rfl rfl
    · rw [if_neg hc4] at hres
      refine am_iload_n (pc' := 24) 3 dX12_when_23 rfl rfl rfl ?_
      refine am_iconst (pc' := 25) (v := 0) dX12_when_24 kc_0 rfl ?_
      refine am_iconst (pc' := 26) (v := 1) dX12_when_25 kc_1 rfl ?_
      refine am_cS (pc' := 29) (st' := [.int (fx_X12_in a3 (0 : Int32) (1 : Int32))]) [] [.int a3, .int (0 : Int32), .int (1 : Int32)] dX12_when_26 cs_X12_90 (tx_X12_in (sx_w S0 (sm_w q1.2)) a3 (0 : Int32) (1 : Int32) _ rfl) rfl rfl rfl rfl rfl rfl ?_
      refine am_if_ne (pc' := 32) 35 dX12_when_29 rfl rfl (fun hc5 => ?_) (fun hc5 => ?_)
      · rw [if_neg hc5] at hres
        refine am_aload_n (pc' := 36) 0 dX12_when_35 rfl rfl rfl ?_
        refine am_get (pc' := 39) (v := .int (sm_hour q1.2)) dX12_when_36 fl_X12_22 (sm_c45 S0 q1.2) rfl rfl ?_
        refine am_istore (pc' := 41) (ls' := [some (.ref 45), some (.int a1), some (.int a2), some (.int a3), some (.int q1.1), some (.int (sm_hour q1.2)), none, none, none]) dX12_when_39 (Nat.le_of_ble_eq_true rfl) rfl rfl rfl ?_
        refine am_iconst (pc' := 42) (v := 0) dX12_when_41 kc_0 rfl ?_
        refine am_istore (pc' := 44) (ls' := [some (.ref 45), some (.int a1), some (.int a2), some (.int a3), some (.int q1.1), some (.int (sm_hour q1.2)), some (.int (0 : Int32)), none, none]) dX12_when_42 (Nat.le_of_ble_eq_true rfl) rfl rfl rfl ?_
        refine am_iconst (pc' := 45) (v := 0) dX12_when_44 kc_0 rfl ?_
        refine am_istore (pc' := 47) (ls' := [some (.ref 45), some (.int a1), some (.int a2), some (.int a3), some (.int q1.1), some (.int (sm_hour q1.2)), some (.int (0 : Int32)), some (.int (0 : Int32)), none]) dX12_when_45 (Nat.le_of_ble_eq_true rfl) rfl rfl rfl ?_
        refine am_iconst (pc' := 48) (v := 0) dX12_when_47 kc_0 rfl ?_
        refine am_istore (pc' := 50) (ls' := [some (.ref 45), some (.int a1), some (.int a2), some (.int a3), some (.int q1.1), some (.int (sm_hour q1.2)), some (.int (0 : Int32)), some (.int (0 : Int32)), some (.int (0 : Int32))]) dX12_when_48 (Nat.le_of_ble_eq_true rfl) rfl rfl rfl ?_
        refine am_weak (ls' := [some (.ref 45), none, some (.int a2), some (.int a3), none, some (.int (sm_hour q1.2)), some (.int (0 : Int32)), some (.int (0 : Int32)), some (.int (0 : Int32))]) [false, true, false, false, true, false, false, false, false] rfl ?_
        exact wx_X12_when_50 S0 am_fu _ _ _ _ _ _ _ _ hres
      · rw [if_pos hc5] at hres
        refine am_bipush (pc' := 34) (v := (-7)) dX12_when_32 kb_m7 rfl ?_
        obtain rfl := Option.some.inj hres
        exact am_iret dX12_when_34 rfl rfl rfl
  · rw [if_neg hc3] at hres
    refine am_iload (pc' := 14) dX12_when_12 rfl rfl ?_
    obtain rfl := Option.some.inj hres
    exact am_iret dX12_when_14 rfl rfl rfl
set_option maxRecDepth 100000 in
set_option maxHeartbeats 4000000 in
theorem wx_X12_without_75 (S0 : sx_T) (k60 : Int32 → Int32 → Int32 → Int32 → Int32 → Int32 → Int32 → sm_T → Option (Int32 × sm_T)) (hk60 : ∀ (v1 : Int32) (v2 : Int32) (v3 : Int32) (v5 : Int32) (v6 : Int32) (v7 : Int32) (v8 : Int32) (S : sm_T) (res : Int32 × sm_T), k60 v1 v2 v3 v5 v6 v7 v8 S = some res → am_G mX12_without (none, 5, 0, 0, (some (.int res.1)), (sx_w S0 (sm_w res.2))) (0, 0) 60 [some (.ref 45), some (.int v1), some (.int v2), some (.int v3), none, some (.int v5), some (.int v6), some (.int v7), some (.int v8), none] [] (sx_w S0 (sm_w S))) : ∀ (n : Nat) (v1 : Int32) (v2 : Int32) (v3 : Int32) (v5 : Int32) (v6 : Int32) (v7 : Int32) (v8 : Int32) (v9 : Int32) (S : sm_T) (res : Int32 × sm_T) (hres : fx_X12_without_75 k60 n v1 v2 v3 v5 v6 v7 v8 v9 S = some res), am_G mX12_without (none, 5, 0, 0, (some (.int res.1)), (sx_w S0 (sm_w res.2))) (0, 0) 75 [some (.ref 45), some (.int v1), some (.int v2), some (.int v3), none, some (.int v5), some (.int v6), some (.int v7), some (.int v8), some (.int v9)] [] (sx_w S0 (sm_w S)) := by
  intro n
  induction n with
  | zero =>
    intro v1 v2 v3 v5 v6 v7 v8 v9 S res hres
    cases hres
  | succ n ih =>
    intro v1 v2 v3 v5 v6 v7 v8 v9 S res hres
    rw [fx_X12_without_75] at hres
    refine am_iload (pc' := 77) dX12_without_75 rfl rfl ?_
    refine am_iload (pc' := 79) dX12_without_77 rfl rfl ?_
    refine am_icmp_ge (pc' := 82) 126 dX12_without_79 rfl rfl (fun hc11 => ?_) (fun hc11 => ?_)
    · rw [if_pos hc11] at hres
      refine am_aload_n (pc' := 127) 0 dX12_without_126 rfl rfl rfl ?_
      refine am_iload_n (pc' := 128) 2 dX12_without_127 rfl rfl rfl ?_
      refine am_iconst (pc' := 129) (v := 1) dX12_without_128 kc_1 rfl ?_
      obtain ⟨q12, hq13, hres⟩ := am_bd_s hres
      refine am_cV (pc' := 132) (st' := [.int q12.1]) [] [.int v2, .int (1 : Int32)] dX12_without_129 cs_X12_191 (tx_X12_mindOf S0 v2 (1 : Int32) S _ hq13) rfl rfl rfl (sm_c45 S0 S) rfl rfl rfl rfl rfl ?_
      refine am_istore (pc' := 134) (ls' := [some (.ref 45), some (.int v1), some (.int v2), some (.int v3), none, some (.int v5), some (.int v6), some (.int v7), some (.int v8), some (.int q12.1)]) dX12_without_132 (Nat.le_of_ble_eq_true rfl) rfl rfl rfl ?_
      refine am_iload (pc' := 136) dX12_without_134 rfl rfl ?_
      refine am_iload (pc' := 138) dX12_without_136 rfl rfl ?_
      refine am_icmp_le (pc' := 141) 156 dX12_without_138 rfl rfl (fun hc14 => ?_) (fun hc14 => ?_)
      · rw [if_pos hc14] at hres
        refine am_iload (pc' := 158) dX12_without_156 rfl rfl ?_
        refine am_istore (pc' := 160) (ls' := [some (.ref 45), some (.int v1), some (.int v2), some (.int v3), none, some (.int v5), some (.int v6), some (.int v7), some (.int v8), some (.int q12.1)]) dX12_without_158 (Nat.le_of_ble_eq_true rfl) rfl rfl rfl ?_
        refine am_iload (pc' := 162) dX12_without_160 rfl rfl ?_
        refine am_iload (pc' := 164) dX12_without_162 rfl rfl ?_
        refine am_icmp_le (pc' := 167) 172 dX12_without_164 rfl rfl (fun hc15 => ?_) (fun hc15 => ?_)
        · rw [if_pos hc15] at hres
          refine am_iload (pc' := 174) dX12_without_172 rfl rfl ?_
          refine am_istore (pc' := 176) (ls' := [some (.ref 45), some (.int v1), some (.int v2), some (.int v3), none, some (.int v5), some (.int v6), some (.int v7), some (.int v8), some (.int q12.1)]) dX12_without_174 (Nat.le_of_ble_eq_true rfl) rfl rfl rfl ?_
          refine am_iinc (pc' := 179) (ls' := [some (.ref 45), some (.int v1), some (.int v2), some (.int v3), none, some (.int v5), some (.int v6), some (.int v7), some (.int (v8 + (1 : Int32))), some (.int q12.1)]) dX12_without_176 rfl (show v8 + Int32.ofInt 1 = (v8 + (1 : Int32)) from congrArg (fun z => v8 + z) kc_1) (Nat.le_of_ble_eq_true rfl) rfl rfl rfl ?_
          refine am_goto 60 dX12_without_179 rfl ?_
          refine am_weak (ls' := [some (.ref 45), some (.int v1), some (.int v2), some (.int v3), none, some (.int v5), some (.int v6), some (.int v7), some (.int (v8 + (1 : Int32))), none]) [false, false, false, false, false, false, false, false, false, true] rfl ?_
          exact hk60 _ _ _ _ _ _ _ _ _ hres
        · rw [if_neg hc15] at hres
          refine am_iload (pc' := 169) dX12_without_167 rfl rfl ?_
          refine am_goto 174 dX12_without_169 rfl ?_
          refine am_istore (pc' := 176) (ls' := [some (.ref 45), some (.int v1), some (.int v2), some (.int v3), none, some (.int v5), some (.int v6), some (.int q12.1), some (.int v8), some (.int q12.1)]) dX12_without_174 (Nat.le_of_ble_eq_true rfl) rfl rfl rfl ?_
          refine am_iinc (pc' := 179) (ls' := [some (.ref 45), some (.int v1), some (.int v2), some (.int v3), none, some (.int v5), some (.int v6), some (.int q12.1), some (.int (v8 + (1 : Int32))), some (.int q12.1)]) dX12_without_176 rfl (show v8 + Int32.ofInt 1 = (v8 + (1 : Int32)) from congrArg (fun z => v8 + z) kc_1) (Nat.le_of_ble_eq_true rfl) rfl rfl rfl ?_
          refine am_goto 60 dX12_without_179 rfl ?_
          refine am_weak (ls' := [some (.ref 45), some (.int v1), some (.int v2), some (.int v3), none, some (.int v5), some (.int v6), some (.int q12.1), some (.int (v8 + (1 : Int32))), none]) [false, false, false, false, false, false, false, false, false, true] rfl ?_
          exact hk60 _ _ _ _ _ _ _ _ _ hres
      · rw [if_neg hc14] at hres
        refine am_aload_n (pc' := 142) 0 dX12_without_141 rfl rfl rfl ?_
        refine am_get (pc' := 145) (v := .ref 57) dX12_without_142 fl_X12_47 (sm_c45 S0 q12.2) rfl rfl ?_
        refine am_bipush (pc' := 147) (v := 40) dX12_without_145 kb_40 rfl ?_
        refine am_iload_n (pc' := 148) 1 dX12_without_147 rfl rfl rfl ?_
        refine am_imul (pc' := 149) dX12_without_148 rfl ?_
        refine am_iload (pc' := 151) dX12_without_149 rfl rfl ?_
        refine am_iadd (pc' := 152) dX12_without_151 rfl ?_
        obtain ⟨hr16, hres⟩ := am_rg hres
        refine am_iald (pc' := 153) (f := (sm_cells q12.2)) dX12_without_152 (sm_c57 S0 q12.2) hr16 rfl ?_
        refine am_goto 158 dX12_without_153 rfl ?_
        refine am_istore (pc' := 160) (ls' := [some (.ref 45), some (.int v1), some (.int v2), some (.int v3), none, some (.int v5), some (.int ((sm_cells q12.2) (((40 : Int32) * v1) + v8).toNatClampNeg)), some (.int v7), some (.int v8), some (.int q12.1)]) dX12_without_158 (Nat.le_of_ble_eq_true rfl) rfl rfl rfl ?_
        refine am_iload (pc' := 162) dX12_without_160 rfl rfl ?_
        refine am_iload (pc' := 164) dX12_without_162 rfl rfl ?_
        refine am_icmp_le (pc' := 167) 172 dX12_without_164 rfl rfl (fun hc17 => ?_) (fun hc17 => ?_)
        · rw [if_pos hc17] at hres
          refine am_iload (pc' := 174) dX12_without_172 rfl rfl ?_
          refine am_istore (pc' := 176) (ls' := [some (.ref 45), some (.int v1), some (.int v2), some (.int v3), none, some (.int v5), some (.int ((sm_cells q12.2) (((40 : Int32) * v1) + v8).toNatClampNeg)), some (.int v7), some (.int v8), some (.int q12.1)]) dX12_without_174 (Nat.le_of_ble_eq_true rfl) rfl rfl rfl ?_
          refine am_iinc (pc' := 179) (ls' := [some (.ref 45), some (.int v1), some (.int v2), some (.int v3), none, some (.int v5), some (.int ((sm_cells q12.2) (((40 : Int32) * v1) + v8).toNatClampNeg)), some (.int v7), some (.int (v8 + (1 : Int32))), some (.int q12.1)]) dX12_without_176 rfl (show v8 + Int32.ofInt 1 = (v8 + (1 : Int32)) from congrArg (fun z => v8 + z) kc_1) (Nat.le_of_ble_eq_true rfl) rfl rfl rfl ?_
          refine am_goto 60 dX12_without_179 rfl ?_
          refine am_weak (ls' := [some (.ref 45), some (.int v1), some (.int v2), some (.int v3), none, some (.int v5), some (.int ((sm_cells q12.2) (((40 : Int32) * v1) + v8).toNatClampNeg)), some (.int v7), some (.int (v8 + (1 : Int32))), none]) [false, false, false, false, false, false, false, false, false, true] rfl ?_
          exact hk60 _ _ _ _ _ _ _ _ _ hres
        · rw [if_neg hc17] at hres
          refine am_iload (pc' := 169) dX12_without_167 rfl rfl ?_
          refine am_goto 174 dX12_without_169 rfl ?_
          refine am_istore (pc' := 176) (ls' := [some (.ref 45), some (.int v1), some (.int v2), some (.int v3), none, some (.int v5), some (.int ((sm_cells q12.2) (((40 : Int32) * v1) + v8).toNatClampNeg)), some (.int q12.1), some (.int v8), some (.int q12.1)]) dX12_without_174 (Nat.le_of_ble_eq_true rfl) rfl rfl rfl ?_
          refine am_iinc (pc' := 179) (ls' := [some (.ref 45), some (.int v1), some (.int v2), some (.int v3), none, some (.int v5), some (.int ((sm_cells q12.2) (((40 : Int32) * v1) + v8).toNatClampNeg)), some (.int q12.1), some (.int (v8 + (1 : Int32))), some (.int q12.1)]) dX12_without_176 rfl (show v8 + Int32.ofInt 1 = (v8 + (1 : Int32)) from congrArg (fun z => v8 + z) kc_1) (Nat.le_of_ble_eq_true rfl) rfl rfl rfl ?_
          refine am_goto 60 dX12_without_179 rfl ?_
          refine am_weak (ls' := [some (.ref 45), some (.int v1), some (.int v2), some (.int v3), none, some (.int v5), some (.int ((sm_cells q12.2) (((40 : Int32) * v1) + v8).toNatClampNeg)), some (.int q12.1), some (.int (v8 + (1 : Int32))), none]) [false, false, false, false, false, false, false, false, false, true] rfl ?_
          exact hk60 _ _ _ _ _ _ _ _ _ hres
    · rw [if_neg hc11] at hres
      refine am_iload (pc' := 84) dX12_without_82 rfl rfl ?_
      refine am_iload (pc' := 86) dX12_without_84 rfl rfl ?_
      refine am_icmp_eq (pc' := 89) 120 dX12_without_86 rfl rfl (fun hc18 => ?_) (fun hc18 => ?_)
      · rw [if_pos hc18] at hres
        refine am_iinc (pc' := 123) (ls' := [some (.ref 45), some (.int v1), some (.int v2), some (.int v3), none, some (.int v5), some (.int v6), some (.int v7), some (.int v8), some (.int (v9 + (1 : Int32)))]) dX12_without_120 rfl (show v9 + Int32.ofInt 1 = (v9 + (1 : Int32)) from congrArg (fun z => v9 + z) kc_1) (Nat.le_of_ble_eq_true rfl) rfl rfl rfl ?_
        refine am_goto 75 dX12_without_123 rfl ?_
        exact ih _ _ _ _ _ _ _ _ _ _ hres
      · rw [if_neg hc18] at hres
        refine am_aload_n (pc' := 90) 0 dX12_without_89 rfl rfl rfl ?_
        refine am_get (pc' := 93) (v := .ref 63) dX12_without_90 fl_X12_65 (sm_c45 S0 S) rfl rfl ?_
        refine am_aload_n (pc' := 94) 0 dX12_without_93 rfl rfl rfl ?_
        refine am_get (pc' := 97) (v := .int (sm_rooms0 S)) dX12_without_94 fl_X12_181 (sm_c45 S0 S) rfl rfl ?_
        refine am_aload_n (pc' := 98) 0 dX12_without_97 rfl rfl rfl ?_
        refine am_get (pc' := 101) (v := .ref 57) dX12_without_98 fl_X12_47 (sm_c45 S0 S) rfl rfl ?_
        refine am_bipush (pc' := 103) (v := 40) dX12_without_101 kb_40 rfl ?_
        refine am_iload_n (pc' := 104) 1 dX12_without_103 rfl rfl rfl ?_
        refine am_imul (pc' := 105) dX12_without_104 rfl ?_
        refine am_iload (pc' := 107) dX12_without_105 rfl rfl ?_
        refine am_iadd (pc' := 108) dX12_without_107 rfl ?_
        obtain ⟨hr19, hres⟩ := am_rg hres
        refine am_iald (pc' := 109) (f := (sm_cells S)) dX12_without_108 (sm_c57 S0 S) hr19 rfl ?_
        obtain ⟨hr20, hres⟩ := am_rg hres
        refine am_iast (pc' := 110) (f := (sm_row S)) (ws' := (sx_w S0 (sm_w (um_row S (upd (sm_row S) (sm_rooms0 S).toNatClampNeg ((sm_cells S) (((40 : Int32) * v1) + v9).toNatClampNeg)))))) dX12_without_109 (sm_c63 S0 S) hr20 (sm_p_row S0 S _) rfl ?_
        refine am_aload_n (pc' := 111) 0 dX12_without_110 rfl rfl rfl ?_
        refine am_dupa (pc' := 112) dX12_without_111 rfl ?_
        refine am_get (pc' := 115) (v := .int (sm_rooms0 S)) dX12_without_112 fl_X12_181 (sm_c45 S0 (um_row S (upd (sm_row S) (sm_rooms0 S).toNatClampNeg ((sm_cells S) (((40 : Int32) * v1) + v9).toNatClampNeg)))) rfl rfl ?_
        refine am_iconst (pc' := 116) (v := 1) dX12_without_115 kc_1 rfl ?_
        refine am_iadd (pc' := 117) dX12_without_116 rfl ?_
        refine am_put (pc' := 120) (ws' := (sx_w S0 (sm_w (um_rooms0 (um_row S (upd (sm_row S) (sm_rooms0 S).toNatClampNeg ((sm_cells S) (((40 : Int32) * v1) + v9).toNatClampNeg))) ((sm_rooms0 S) + (1 : Int32)))))) (v := .int ((sm_rooms0 S) + (1 : Int32))) dX12_without_117 fp_X12_181 (sm_c45 S0 (um_row S (upd (sm_row S) (sm_rooms0 S).toNatClampNeg ((sm_cells S) (((40 : Int32) * v1) + v9).toNatClampNeg)))) (fun _ => ⟨rfl, rfl⟩) (Nat.le_of_ble_eq_true rfl) (sm_p_rooms0 S0 (um_row S (upd (sm_row S) (sm_rooms0 S).toNatClampNeg ((sm_cells S) (((40 : Int32) * v1) + v9).toNatClampNeg))) _) rfl ?_
        refine am_iinc (pc' := 123) (ls' := [some (.ref 45), some (.int v1), some (.int v2), some (.int v3), none, some (.int v5), some (.int v6), some (.int v7), some (.int v8), some (.int (v9 + (1 : Int32)))]) dX12_without_120 rfl (show v9 + Int32.ofInt 1 = (v9 + (1 : Int32)) from congrArg (fun z => v9 + z) kc_1) (Nat.le_of_ble_eq_true rfl) rfl rfl rfl ?_
        refine am_goto 75 dX12_without_123 rfl ?_
        exact ih _ _ _ _ _ _ _ _ _ _ hres

set_option maxRecDepth 100000 in
set_option maxHeartbeats 4000000 in
theorem wx_X12_without_60 (S0 : sx_T) : ∀ (n : Nat) (v1 : Int32) (v2 : Int32) (v3 : Int32) (v5 : Int32) (v6 : Int32) (v7 : Int32) (v8 : Int32) (S : sm_T) (res : Int32 × sm_T) (hres : fx_X12_without_60 n v1 v2 v3 v5 v6 v7 v8 S = some res), am_G mX12_without (none, 5, 0, 0, (some (.int res.1)), (sx_w S0 (sm_w res.2))) (0, 0) 60 [some (.ref 45), some (.int v1), some (.int v2), some (.int v3), none, some (.int v5), some (.int v6), some (.int v7), some (.int v8), none] [] (sx_w S0 (sm_w S)) := by
  intro n
  induction n with
  | zero =>
    intro v1 v2 v3 v5 v6 v7 v8 S res hres
    cases hres
  | succ n ih =>
    intro v1 v2 v3 v5 v6 v7 v8 S res hres
    rw [fx_X12_without_60] at hres
    refine am_iload (pc' := 62) dX12_without_60 rfl rfl ?_
    refine am_iload (pc' := 64) dX12_without_62 rfl rfl ?_
    refine am_icmp_ge (pc' := 67) 182 dX12_without_64 rfl rfl (fun hc9 => ?_) (fun hc9 => ?_)
    · rw [if_pos hc9] at hres
      refine am_iload_n (pc' := 183) 3 dX12_without_182 rfl rfl rfl ?_
      refine am_if_ne (pc' := 186) 191 dX12_without_183 rfl rfl (fun hc10 => ?_) (fun hc10 => ?_)
      · rw [if_neg hc10] at hres
        refine am_iload (pc' := 193) dX12_without_191 rfl rfl ?_
        obtain rfl := Option.some.inj hres
        exact am_iret dX12_without_193 rfl rfl rfl
      · rw [if_pos hc10] at hres
        refine am_iload (pc' := 188) dX12_without_186 rfl rfl ?_
        refine am_goto 193 dX12_without_188 rfl ?_
        obtain rfl := Option.some.inj hres
        exact am_iret dX12_without_193 rfl rfl rfl
    · rw [if_neg hc9] at hres
      refine am_aload_n (pc' := 68) 0 dX12_without_67 rfl rfl rfl ?_
      refine am_iconst (pc' := 69) (v := 0) dX12_without_68 kc_0 rfl ?_
      refine am_put (pc' := 72) (ws' := (sx_w S0 (sm_w (um_rooms0 S (0 : Int32))))) (v := .int (0 : Int32)) dX12_without_69 fp_X12_181 (sm_c45 S0 S) (fun _ => ⟨rfl, rfl⟩) (Nat.le_of_ble_eq_true rfl) (sm_p_rooms0 S0 S _) rfl ?_
      refine am_iconst (pc' := 73) (v := 0) dX12_without_72 kc_0 rfl ?_
      refine am_istore (pc' := 75) (ls' := [some (.ref 45), some (.int v1), some (.int v2), some (.int v3), none, some (.int v5), some (.int v6), some (.int v7), some (.int v8), some (.int (0 : Int32))]) dX12_without_73 (Nat.le_of_ble_eq_true rfl) rfl rfl rfl ?_
      exact wx_X12_without_75 S0 _ (fun a0 a1 a2 a3 a4 a5 a6 a7 => ih a0 a1 a2 a3 a4 a5 a6 a7) am_fu _ _ _ _ _ _ _ _ _ _ hres

set_option maxRecDepth 100000 in
set_option maxHeartbeats 4000000 in
theorem tx_X12_without (S0 : sx_T) (a1 : Int32) (a2 : Int32) (a3 : Int32) (S : sm_T) (res : Int32 × sm_T) (hres : fx_X12_without a1 a2 a3 S = some res) : am_T mX12_without 5 0 0 [.ref 45, .int a1, .int a2, .int a3] (sx_w S0 (sm_w S)) (some (.int res.1)) (sx_w S0 (sm_w res.2)) := by
  refine am_meth (ls := [some (.ref 45), some (.int a1), some (.int a2), some (.int a3), none, none, none, none, none, none]) (by decide +kernel) rfl (Nat.le_of_ble_eq_true rfl) (sm_len _ _ _ _) ?_
  rw [fx_X12_without] at hres
  refine am_aload_n (pc' := 1) 0 dX12_without_0 rfl rfl rfl ?_
  refine am_iload_n (pc' := 2) 1 dX12_without_1 rfl rfl rfl ?_
  obtain ⟨q1, hq2, hres⟩ := am_bd_s hres
  refine am_cV (pc' := 5) (st' := [.int q1.1]) [] [.int a1] dX12_without_2 cs_X12_197 (tx_X12_reads S0 a1 S _ hq2) rfl rfl rfl (sm_c45 S0 S) rfl rfl rfl rfl rfl ?_
  refine am_istore (pc' := 7) (ls' := [some (.ref 45), some (.int a1), some (.int a2), some (.int a3), some (.int q1.1), none, none, none, none, none]) dX12_without_5 (Nat.le_of_ble_eq_true rfl) rfl rfl rfl ?_
  refine am_iload (pc' := 9) dX12_without_7 rfl rfl ?_
  refine am_if_eq (pc' := 12) 18 dX12_without_9 rfl rfl (fun hc3 => ?_) (fun hc3 => ?_)
  · rw [if_pos hc3] at hres
    refine am_aload_n (pc' := 19) 0 dX12_without_18 rfl rfl rfl ?_
    refine am_iload_n (pc' := 20) 2 dX12_without_19 rfl rfl rfl ?_
    refine am_cV (pc' := 23) (st' := [.int (fx_X12_isViewer a2 q1.2)]) [] [.int a2] dX12_without_20 cs_X12_173 (tx_X12_isViewer S0 a2 q1.2 _ rfl) rfl rfl rfl (sm_c45 S0 q1.2) rfl rfl rfl rfl rfl ?_
    refine am_if_eq (pc' := 26) 35 dX12_without_23 rfl rfl (fun hc4 => ?_) (fun hc4 => ?_)
    · rw [if_pos hc4] at hres
      refine am_ldc (pc' := 37) dX12_without_35 ck_X12_201 rfl ?_
      obtain rfl := Option.some.inj hres
      exact am_iret dX12_without_37 rfl rfl rfl
    · rw [if_neg hc4] at hres
      refine am_iload_n (pc' := 27) 3 dX12_without_26 rfl rfl rfl ?_
      refine am_iconst (pc' := 28) (v := 0) dX12_without_27 kc_0 rfl ?_
      refine am_iconst (pc' := 29) (v := 1) dX12_without_28 kc_1 rfl ?_
      refine am_cS (pc' := 32) (st' := [.int (fx_X12_in a3 (0 : Int32) (1 : Int32))]) [] [.int a3, .int (0 : Int32), .int (1 : Int32)] dX12_without_29 cs_X12_90 (tx_X12_in (sx_w S0 (sm_w q1.2)) a3 (0 : Int32) (1 : Int32) _ rfl) rfl rfl rfl rfl rfl rfl ?_
      refine am_if_ne (pc' := 35) 38 dX12_without_32 rfl rfl (fun hc5 => ?_) (fun hc5 => ?_)
      · rw [if_neg hc5] at hres
        refine am_aload_n (pc' := 39) 0 dX12_without_38 rfl rfl rfl ?_
        refine am_get (pc' := 42) (v := .ref 56) dX12_without_39 fl_X12_44 (sm_c45 S0 q1.2) rfl rfl ?_
        refine am_iload_n (pc' := 43) 1 dX12_without_42 rfl rfl rfl ?_
        obtain ⟨hr6, hres⟩ := am_rg hres
        refine am_iald (pc' := 44) (f := (sm_sheetSize q1.2)) dX12_without_43 (sm_c56 S0 q1.2) hr6 rfl ?_
        refine am_istore (pc' := 46) (ls' := [some (.ref 45), some (.int a1), some (.int a2), some (.int a3), some (.int q1.1), some (.int ((sm_sheetSize q1.2) a1.toNatClampNeg)), none, none, none, none]) dX12_without_44 (Nat.le_of_ble_eq_true rfl) rfl rfl rfl ?_
        refine am_iconst (pc' := 47) (v := (-1)) dX12_without_46 kc_m1 rfl ?_
        refine am_istore (pc' := 49) (ls' := [some (.ref 45), some (.int a1), some (.int a2), some (.int a3), some (.int q1.1), some (.int ((sm_sheetSize q1.2) a1.toNatClampNeg)), some (.int (-1 : Int32)), none, none, none]) dX12_without_47 (Nat.le_of_ble_eq_true rfl) rfl rfl rfl ?_
        refine am_aload_n (pc' := 50) 0 dX12_without_49 rfl rfl rfl ?_
        refine am_iload_n (pc' := 51) 2 dX12_without_50 rfl rfl rfl ?_
        refine am_iconst (pc' := 52) (v := 1) dX12_without_51 kc_1 rfl ?_
        obtain ⟨q7, hq8, hres⟩ := am_bd_s hres
        refine am_cV (pc' := 55) (st' := [.int q7.1]) [] [.int a2, .int (1 : Int32)] dX12_without_52 cs_X12_191 (tx_X12_mindOf S0 a2 (1 : Int32) q1.2 _ hq8) rfl rfl rfl (sm_c45 S0 q1.2) rfl rfl rfl rfl rfl ?_
        refine am_istore (pc' := 57) (ls' := [some (.ref 45), some (.int a1), some (.int a2), some (.int a3), some (.int q1.1), some (.int ((sm_sheetSize q1.2) a1.toNatClampNeg)), some (.int (-1 : Int32)), some (.int q7.1), none, none]) dX12_without_55 (Nat.le_of_ble_eq_true rfl) rfl rfl rfl ?_
        refine am_iconst (pc' := 58) (v := 0) dX12_without_57 kc_0 rfl ?_
        refine am_istore (pc' := 60) (ls' := [some (.ref 45), some (.int a1), some (.int a2), some (.int a3), some (.int q1.1), some (.int ((sm_sheetSize q1.2) a1.toNatClampNeg)), some (.int (-1 : Int32)), some (.int q7.1), some (.int (0 : Int32)), none]) dX12_without_58 (Nat.le_of_ble_eq_true rfl) rfl rfl rfl ?_
        refine am_weak (ls' := [some (.ref 45), some (.int a1), some (.int a2), some (.int a3), none, some (.int ((sm_sheetSize q1.2) a1.toNatClampNeg)), some (.int (-1 : Int32)), some (.int q7.1), some (.int (0 : Int32)), none]) [false, false, false, false, true, false, false, false, false, false] rfl ?_
        exact wx_X12_without_60 S0 am_fu _ _ _ _ _ _ _ _ _ hres
      · rw [if_pos hc5] at hres
        refine am_ldc (pc' := 37) dX12_without_35 ck_X12_201 rfl ?_
        obtain rfl := Option.some.inj hres
        exact am_iret dX12_without_37 rfl rfl rfl
  · rw [if_neg hc3] at hres
    refine am_ldc (pc' := 14) dX12_without_12 ck_X12_200 rfl ?_
    refine am_iload (pc' := 16) dX12_without_14 rfl rfl ?_
    refine am_iadd (pc' := 17) dX12_without_16 rfl ?_
    obtain rfl := Option.some.inj hres
    exact am_iret dX12_without_17 rfl rfl rfl
