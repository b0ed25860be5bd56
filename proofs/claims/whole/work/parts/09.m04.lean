set_option maxRecDepth 100000 in
set_option maxHeartbeats 4000000 in
theorem wx_X12_sheet_70 (S0 : sx_T) : ∀ (n : Nat) (v1 : Int32) (v4 : Int32) (S : sm_T) (res : Int32 × sm_T) (hres : fx_X12_sheet_70 n v1 v4 S = some res), am_G mX12_sheet (none, 1, 0, 0, (some (.int res.1)), (sx_w S0 (sm_w res.2))) (0, 0) 70 [some (.ref 45), some (.int v1), none, none, some (.int v4)] [] (sx_w S0 (sm_w S)) := by
  intro n
  induction n with
  | zero =>
    intro v1 v4 S res hres
    cases hres
  | succ n ih =>
    intro v1 v4 S res hres
    rw [fx_X12_sheet_70] at hres
    refine am_iload (pc' := 72) dX12_sheet_70 rfl rfl ?_
    refine am_bipush (pc' := 74) (v := 40) dX12_sheet_72 kb_40 rfl ?_
    refine am_icmp_ge (pc' := 77) 96 dX12_sheet_74 rfl rfl (fun hc8 => ?_) (fun hc8 => ?_)
    · rw [if_pos hc8] at hres
      refine am_iconst (pc' := 97) (v := 1) dX12_sheet_96 kc_1 rfl ?_
      obtain rfl := Option.some.inj hres
      exact am_iret dX12_sheet_97 rfl rfl rfl
    · rw [if_neg hc8] at hres
      refine am_aload_n (pc' := 78) 0 dX12_sheet_77 rfl rfl rfl ?_
      refine am_get (pc' := 81) (v := .ref 57) dX12_sheet_78 fl_X12_47 (sm_c45 S0 S) rfl rfl ?_
      refine am_bipush (pc' := 83) (v := 40) dX12_sheet_81 kb_40 rfl ?_
      refine am_iload_n (pc' := 84) 1 dX12_sheet_83 rfl rfl rfl ?_
      refine am_imul (pc' := 85) dX12_sheet_84 rfl ?_
      refine am_iload (pc' := 87) dX12_sheet_85 rfl rfl ?_
      refine am_iadd (pc' := 88) dX12_sheet_87 rfl ?_
      refine am_iconst (pc' := 89) (v := 0) dX12_sheet_88 kc_0 rfl ?_
      obtain ⟨hr9, hres⟩ := am_rg hres
      refine am_iast (pc' := 90) (f := (sm_cells S)) (ws' := (sx_w S0 (sm_w (um_cells S (upd (sm_cells S) (((40 : Int32) * v1) + v4).toNatClampNeg (0 : Int32)))))) dX12_sheet_89 (sm_c57 S0 S) hr9 (sm_p_cells S0 S _) rfl ?_
      refine am_iinc (pc' := 93) (ls' := [some (.ref 45), some (.int v1), none, none, some (.int (v4 + (1 : Int32)))]) dX12_sheet_90 rfl (show v4 + Int32.ofInt 1 = (v4 + (1 : Int32)) from congrArg (fun z => v4 + z) kc_1) (Nat.le_of_ble_eq_true rfl) rfl rfl rfl ?_
      refine am_goto 70 dX12_sheet_93 rfl ?_
      exact ih _ _ _ _ hres

set_option maxRecDepth 100000 in
set_option maxHeartbeats 4000000 in
theorem wx_X12_sheet_44 (S0 : sx_T) : ∀ (v1 : Int32) (v2 : Int32) (v3 : Int32) (S : sm_T) (res : Int32 × sm_T) (hres : fx_X12_sheet_44 v1 v2 v3 S = some res), am_G mX12_sheet (none, 1, 0, 0, (some (.int res.1)), (sx_w S0 (sm_w res.2))) (0, 0) 44 [some (.ref 45), some (.int v1), some (.int v2), some (.int v3), none] [] (sx_w S0 (sm_w S)) := by
  intro v1 v2 v3 S res hres
  rw [fx_X12_sheet_44] at hres
  refine am_aload_n (pc' := 45) 0 dX12_sheet_44 rfl rfl rfl ?_
  refine am_get (pc' := 48) (v := .ref 55) dX12_sheet_45 fl_X12_41 (sm_c45 S0 S) rfl rfl ?_
  refine am_iload_n (pc' := 49) 1 dX12_sheet_48 rfl rfl rfl ?_
  refine am_iload_n (pc' := 50) 2 dX12_sheet_49 rfl rfl rfl ?_
  obtain ⟨hr5, hres⟩ := am_rg hres
  refine am_iast (pc' := 51) (f := (sm_sheetSort S)) (ws' := (sx_w S0 (sm_w (um_sheetSort S (upd (sm_sheetSort S) v1.toNatClampNeg v2))))) dX12_sheet_50 (sm_c55 S0 S) hr5 (sm_p_sheetSort S0 S _) rfl ?_
  refine am_aload_n (pc' := 52) 0 dX12_sheet_51 rfl rfl rfl ?_
  refine am_get (pc' := 55) (v := .ref 56) dX12_sheet_52 fl_X12_44 (sm_c45 S0 (um_sheetSort S (upd (sm_sheetSort S) v1.toNatClampNeg v2))) rfl rfl ?_
  refine am_iload_n (pc' := 56) 1 dX12_sheet_55 rfl rfl rfl ?_
  refine am_iload_n (pc' := 57) 2 dX12_sheet_56 rfl rfl rfl ?_
  refine am_iconst (pc' := 58) (v := (-1)) dX12_sheet_57 kc_m1 rfl ?_
  refine am_icmp_ne (pc' := 61) 65 dX12_sheet_58 rfl rfl (fun hc6 => ?_) (fun hc6 => ?_)
  · rw [if_neg hc6] at hres
    refine am_iload_n (pc' := 66) 3 dX12_sheet_65 rfl rfl rfl ?_
    obtain ⟨hr7, hres⟩ := am_rg hres
    refine am_iast (pc' := 67) (f := (sm_sheetSize S)) (ws' := (sx_w S0 (sm_w (um_sheetSize (um_sheetSort S (upd (sm_sheetSort S) v1.toNatClampNeg v2)) (upd (sm_sheetSize S) v1.toNatClampNeg v3))))) dX12_sheet_66 (sm_c56 S0 (um_sheetSort S (upd (sm_sheetSort S) v1.toNatClampNeg v2))) hr7 (sm_p_sheetSize S0 (um_sheetSort S (upd (sm_sheetSort S) v1.toNatClampNeg v2)) _) rfl ?_
    refine am_iconst (pc' := 68) (v := 0) dX12_sheet_67 kc_0 rfl ?_
    refine am_istore (pc' := 70) (ls' := [some (.ref 45), some (.int v1), some (.int v2), some (.int v3), some (.int (0 : Int32))]) dX12_sheet_68 (Nat.le_of_ble_eq_true rfl) rfl rfl rfl ?_
    refine am_weak (ls' := [some (.ref 45), some (.int v1), none, none, some (.int (0 : Int32))]) [false, false, true, true, false] rfl ?_
    exact wx_X12_sheet_70 S0 am_fu _ _ _ _ hres
  · rw [if_pos hc6] at hres
    refine am_iconst (pc' := 62) (v := 0) dX12_sheet_61 kc_0 rfl ?_
    refine am_goto 66 dX12_sheet_62 rfl ?_
    obtain ⟨hr10, hres⟩ := am_rg hres
    refine am_iast (pc' := 67) (f := (sm_sheetSize S)) (ws' := (sx_w S0 (sm_w (um_sheetSize (um_sheetSort S (upd (sm_sheetSort S) v1.toNatClampNeg v2)) (upd (sm_sheetSize S) v1.toNatClampNeg (0 : Int32)))))) dX12_sheet_66 (sm_c56 S0 (um_sheetSort S (upd (sm_sheetSort S) v1.toNatClampNeg v2))) hr10 (sm_p_sheetSize S0 (um_sheetSort S (upd (sm_sheetSort S) v1.toNatClampNeg v2)) _) rfl ?_
    refine am_iconst (pc' := 68) (v := 0) dX12_sheet_67 kc_0 rfl ?_
    refine am_istore (pc' := 70) (ls' := [some (.ref 45), some (.int v1), some (.int v2), some (.int v3), some (.int (0 : Int32))]) dX12_sheet_68 (Nat.le_of_ble_eq_true rfl) rfl rfl rfl ?_
    refine am_weak (ls' := [some (.ref 45), some (.int v1), none, none, some (.int (0 : Int32))]) [false, false, true, true, false] rfl ?_
    exact wx_X12_sheet_70 S0 am_fu _ _ _ _ hres

set_option maxRecDepth 100000 in
set_option maxHeartbeats 4000000 in
theorem wx_X12_sheet_32 (S0 : sx_T) : ∀ (v1 : Int32) (v2 : Int32) (v3 : Int32) (S : sm_T) (res : Int32 × sm_T) (hres : fx_X12_sheet_32 v1 v2 v3 S = some res), am_G mX12_sheet (none, 1, 0, 0, (some (.int res.1)), (sx_w S0 (sm_w res.2))) (0, 0) 32 [some (.ref 45), some (.int v1), some (.int v2), some (.int v3), none] [] (sx_w S0 (sm_w S)) := by
  intro v1 v2 v3 S res hres
  rw [fx_X12_sheet_32] at hres
  refine am_iload_n (pc' := 33) 2 dX12_sheet_32 rfl rfl rfl ?_
  refine am_iconst (pc' := 34) (v := (-1)) dX12_sheet_33 kc_m1 rfl ?_
  refine am_icmp_eq (pc' := 37) 44 dX12_sheet_34 rfl rfl (fun hc4 => ?_) (fun hc4 => ?_)
  · rw [if_pos hc4] at hres
    exact wx_X12_sheet_44 S0 _ _ _ _ _ hres
  · rw [if_neg hc4] at hres
    refine am_iload_n (pc' := 38) 3 dX12_sheet_37 rfl rfl rfl ?_
    refine am_if_ge (pc' := 41) 44 dX12_sheet_38 rfl rfl (fun hc11 => ?_) (fun hc11 => ?_)
    · rw [if_pos hc11] at hres
      exact wx_X12_sheet_44 S0 _ _ _ _ _ hres
    · rw [if_neg hc11] at hres
      refine am_bipush (pc' := 43) (v := (-14)) dX12_sheet_41 kb_m14 rfl ?_
      obtain rfl := Option.some.inj hres
      exact am_iret dX12_sheet_43 rfl rfl rfl

set_option maxRecDepth 100000 in
set_option maxHeartbeats 4000000 in
theorem tx_X12_sheet (S0 : sx_T) (a1 : Int32) (a2 : Int32) (a3 : Int32) (S : sm_T) (res : Int32 × sm_T) (hres : fx_X12_sheet a1 a2 a3 S = some res) : am_T mX12_sheet 1 0 0 [.ref 45, .int a1, .int a2, .int a3] (sx_w S0 (sm_w S)) (some (.int res.1)) (sx_w S0 (sm_w res.2)) := by
  refine am_meth (ls := [some (.ref 45), some (.int a1), some (.int a2), some (.int a3), none]) (by decide +kernel) rfl (Nat.le_of_ble_eq_true rfl) (sm_len _ _ _ _) ?_
  rw [fx_X12_sheet] at hres
  refine am_iload_n (pc' := 1) 1 dX12_sheet_0 rfl rfl rfl ?_
  refine am_iconst (pc' := 2) (v := 0) dX12_sheet_1 kc_0 rfl ?_
  refine am_iconst (pc' := 3) (v := 3) dX12_sheet_2 kc_3 rfl ?_
  refine am_cS (pc' := 6) (st' := [.int (fx_X12_in a1 (0 : Int32) (3 : Int32))]) [] [.int a1, .int (0 : Int32), .int (3 : Int32)] dX12_sheet_3 cs_X12_90 (tx_X12_in (sx_w S0 (sm_w S)) a1 (0 : Int32) (3 : Int32) _ rfl) rfl rfl rfl rfl rfl rfl ?_
  refine am_if_eq (pc' := 9) 29 dX12_sheet_6 rfl rfl (fun hc1 => ?_) (fun hc1 => ?_)
  · rw [if_pos hc1] at hres
    refine am_bipush (pc' := 31) (v := (-2)) dX12_sheet_29 kb_m2 rfl ?_
    obtain rfl := Option.some.inj hres
    exact am_iret dX12_sheet_31 rfl rfl rfl
  · rw [if_neg hc1] at hres
    refine am_iload_n (pc' := 10) 2 dX12_sheet_9 rfl rfl rfl ?_
    refine am_iconst (pc' := 11) (v := (-1)) dX12_sheet_10 kc_m1 rfl ?_
    refine am_iconst (pc' := 12) (v := 2) dX12_sheet_11 kc_2 rfl ?_
    refine am_cS (pc' := 15) (st' := [.int (fx_X12_in a2 (-1 : Int32) (2 : Int32))]) [] [.int a2, .int (-1 : Int32), .int (2 : Int32)] dX12_sheet_12 cs_X12_90 (tx_X12_in (sx_w S0 (sm_w S)) a2 (-1 : Int32) (2 : Int32) _ rfl) rfl rfl rfl rfl rfl rfl ?_
    refine am_if_eq (pc' := 18) 29 dX12_sheet_15 rfl rfl (fun hc2 => ?_) (fun hc2 => ?_)
    · rw [if_pos hc2] at hres
      refine am_bipush (pc' := 31) (v := (-2)) dX12_sheet_29 kb_m2 rfl ?_
      obtain rfl := Option.some.inj hres
      exact am_iret dX12_sheet_31 rfl rfl rfl
    · rw [if_neg hc2] at hres
      refine am_iload_n (pc' := 19) 2 dX12_sheet_18 rfl rfl rfl ?_
      refine am_iconst (pc' := 20) (v := (-1)) dX12_sheet_19 kc_m1 rfl ?_
      refine am_icmp_eq (pc' := 23) 32 dX12_sheet_20 rfl rfl (fun hc3 => ?_) (fun hc3 => ?_)
      · rw [if_pos hc3] at hres
        exact wx_X12_sheet_32 S0 _ _ _ _ _ hres
      · rw [if_neg hc3] at hres
        refine am_iload_n (pc' := 24) 3 dX12_sheet_23 rfl rfl rfl ?_
        refine am_bipush (pc' := 26) (v := 40) dX12_sheet_24 kb_40 rfl ?_
        refine am_icmp_le (pc' := 29) 32 dX12_sheet_26 rfl rfl (fun hc12 => ?_) (fun hc12 => ?_)
        · rw [if_pos hc12] at hres
          exact wx_X12_sheet_32 S0 _ _ _ _ _ hres
        · rw [if_neg hc12] at hres
          refine am_bipush (pc' := 31) (v := (-2)) dX12_sheet_29 kb_m2 rfl ?_
          obtain rfl := Option.some.inj hres
          exact am_iret dX12_sheet_31 rfl rfl rfl
set_option maxRecDepth 100000 in
set_option maxHeartbeats 4000000 in
theorem wx_X12_shows_23 (S0 : sx_T) : ∀ (n : Nat) (v1 : Int32) (v2 : Int32) (v3 : Int32) (S : sm_T) (res : sm_T) (hres : fx_X12_shows_23 n v1 v2 v3 S = some res), am_G mX12_shows (none, 6, 0, 0, none, (sx_w S0 (sm_w res))) (0, 0) 23 [some (.ref 45), some (.int v1), some (.int v2), some (.int v3), none] [] (sx_w S0 (sm_w S)) := by
  intro n
  induction n with
  | zero =>
    intro v1 v2 v3 S res hres
    cases hres
  | succ n ih =>
    intro v1 v2 v3 S res hres
    rw [fx_X12_shows_23] at hres
    refine am_iload_n (pc' := 24) 3 dX12_shows_23 rfl rfl rfl ?_
    refine am_aload_n (pc' := 25) 0 dX12_shows_24 rfl rfl rfl ?_
    refine am_get (pc' := 28) (v := .int (sm_viewers S)) dX12_shows_25 fl_X12_87 (sm_c45 S0 S) rfl rfl ?_
    refine am_icmp_ge (pc' := 31) 115 dX12_shows_28 rfl rfl (fun hc3 => ?_) (fun hc3 => ?_)
    · rw [if_pos hc3] at hres
      obtain rfl := Option.some.inj hres
      exact am_vret dX12_shows_115 rfl rfl rfl
    · rw [if_neg hc3] at hres
      refine am_iload_n (pc' := 32) 1 dX12_shows_31 rfl rfl rfl ?_
      refine am_iload_n (pc' := 33) 3 dX12_shows_32 rfl rfl rfl ?_
      refine am_ishr (pc' := 34) dX12_shows_33 rfl ?_
      refine am_iconst (pc' := 35) (v := 1) dX12_shows_34 kc_1 rfl ?_
      refine am_iand (pc' := 36) dX12_shows_35 rfl ?_
      refine am_iconst (pc' := 37) (v := 1) dX12_shows_36 kc_1 rfl ?_
      refine am_icmp_ne (pc' := 40) 109 dX12_shows_37 rfl rfl (fun hc4 => ?_) (fun hc4 => ?_)
      · rw [if_neg hc4] at hres
        refine am_iinc (pc' := 112) (ls' := [some (.ref 45), some (.int v1), some (.int v2), some (.int (v3 + (1 : Int32))), none]) dX12_shows_109 rfl (show v3 + Int32.ofInt 1 = (v3 + (1 : Int32)) from congrArg (fun z => v3 + z) kc_1) (Nat.le_of_ble_eq_true rfl) rfl rfl rfl ?_
        refine am_goto 23 dX12_shows_112 rfl ?_
        exact ih _ _ _ _ _ hres
      · rw [if_pos hc4] at hres
        refine am_aload_n (pc' := 41) 0 dX12_shows_40 rfl rfl rfl ?_
        refine am_iload_n (pc' := 42) 3 dX12_shows_41 rfl rfl rfl ?_
        refine am_iload_n (pc' := 43) 2 dX12_shows_42 rfl rfl rfl ?_
        obtain ⟨q5, hq6, hres⟩ := am_bd_s hres
        refine am_cV (pc' := 46) (st' := [.int q5.1]) [] [.int v3, .int v2] dX12_shows_43 cs_X12_202 (tx_X12_offerOf S0 v3 v2 S _ hq6) rfl rfl rfl (sm_c45 S0 S) rfl rfl rfl rfl rfl ?_
        refine am_istore (pc' := 48) (ls' := [some (.ref 45), some (.int v1), some (.int v2), some (.int v3), some (.int q5.1)]) dX12_shows_46 (Nat.le_of_ble_eq_true rfl) rfl rfl rfl ?_
        refine am_aload_n (pc' := 49) 0 dX12_shows_48 rfl rfl rfl ?_
        refine am_get (pc' := 52) (v := .int (sm_bestOne q5.2)) dX12_shows_49 fl_X12_208 (sm_c45 S0 q5.2) rfl rfl ?_
        refine am_iconst (pc' := 53) (v := (-1)) dX12_shows_52 kc_m1 rfl ?_
        refine am_icmp_eq (pc' := 56) 65 dX12_shows_53 rfl rfl (fun hc7 => ?_) (fun hc7 => ?_)
        · rw [if_pos hc7] at hres
          refine am_aload_n (pc' := 66) 0 dX12_shows_65 rfl rfl rfl ?_
          refine am_aload_n (pc' := 67) 0 dX12_shows_66 rfl rfl rfl ?_
          refine am_get (pc' := 70) (v := .int (sm_bestOffer q5.2)) dX12_shows_67 fl_X12_211 (sm_c45 S0 q5.2) rfl rfl ?_
          refine am_put (pc' := 73) (ws' := (sx_w S0 (sm_w (um_nextOffer q5.2 (sm_bestOffer q5.2))))) (v := .int (sm_bestOffer q5.2)) dX12_shows_70 fp_X12_214 (sm_c45 S0 q5.2) (fun _ => ⟨rfl, rfl⟩) (Nat.le_of_ble_eq_true rfl) (sm_p_nextOffer S0 q5.2 _) rfl ?_
          refine am_aload_n (pc' := 74) 0 dX12_shows_73 rfl rfl rfl ?_
          refine am_iload_n (pc' := 75) 3 dX12_shows_74 rfl rfl rfl ?_
          refine am_put (pc' := 78) (ws' := (sx_w S0 (sm_w (um_bestOne (um_nextOffer q5.2 (sm_bestOffer q5.2)) v3)))) (v := .int v3) dX12_shows_75 fp_X12_208 (sm_c45 S0 (um_nextOffer q5.2 (sm_bestOffer q5.2))) (fun _ => ⟨rfl, rfl⟩) (Nat.le_of_ble_eq_true rfl) (sm_p_bestOne S0 (um_nextOffer q5.2 (sm_bestOffer q5.2)) _) rfl ?_
          refine am_aload_n (pc' := 79) 0 dX12_shows_78 rfl rfl rfl ?_
          refine am_iload (pc' := 81) dX12_shows_79 rfl rfl ?_
          refine am_put (pc' := 84) (ws' := (sx_w S0 (sm_w (um_bestOffer (um_bestOne (um_nextOffer q5.2 (sm_bestOffer q5.2)) v3) q5.1)))) (v := .int q5.1) dX12_shows_81 fp_X12_211 (sm_c45 S0 (um_bestOne (um_nextOffer q5.2 (sm_bestOffer q5.2)) v3)) (fun _ => ⟨rfl, rfl⟩) (Nat.le_of_ble_eq_true rfl) (sm_p_bestOffer S0 (um_bestOne (um_nextOffer q5.2 (sm_bestOffer q5.2)) v3) _) rfl ?_
          refine am_goto 109 dX12_shows_84 rfl ?_
          refine am_iinc (pc' := 112) (ls' := [some (.ref 45), some (.int v1), some (.int v2), some (.int (v3 + (1 : Int32))), some (.int q5.1)]) dX12_shows_109 rfl (show v3 + Int32.ofInt 1 = (v3 + (1 : Int32)) from congrArg (fun z => v3 + z) kc_1) (Nat.le_of_ble_eq_true rfl) rfl rfl rfl ?_
          refine am_goto 23 dX12_shows_112 rfl ?_
          refine am_weak (ls' := [some (.ref 45), some (.int v1), some (.int v2), some (.int (v3 + (1 : Int32))), none]) [false, false, false, false, true] rfl ?_
          exact ih _ _ _ _ _ hres
        · rw [if_neg hc7] at hres
          refine am_iload (pc' := 58) dX12_shows_56 rfl rfl ?_
          refine am_aload_n (pc' := 59) 0 dX12_shows_58 rfl rfl rfl ?_
          refine am_get (pc' := 62) (v := .int (sm_bestOffer q5.2)) dX12_shows_59 fl_X12_211 (sm_c45 S0 q5.2) rfl rfl ?_
          refine am_icmp_le (pc' := 65) 87 dX12_shows_62 rfl rfl (fun hc8 => ?_) (fun hc8 => ?_)
          · rw [if_pos hc8] at hres
            refine am_aload_n (pc' := 88) 0 dX12_shows_87 rfl rfl rfl ?_
            refine am_iload (pc' := 90) dX12_shows_88 rfl rfl ?_
            refine am_aload_n (pc' := 91) 0 dX12_shows_90 rfl rfl rfl ?_
            refine am_get (pc' := 94) (v := .int (sm_nextOffer q5.2)) dX12_shows_91 fl_X12_214 (sm_c45 S0 q5.2) rfl rfl ?_
            refine am_icmp_le (pc' := 97) 102 dX12_shows_94 rfl rfl (fun hc9 => ?_) (fun hc9 => ?_)
            · rw [if_pos hc9] at hres
              refine am_aload_n (pc' := 103) 0 dX12_shows_102 rfl rfl rfl ?_
              refine am_get (pc' := 106) (v := .int (sm_nextOffer q5.2)) dX12_shows_103 fl_X12_214 (sm_c45 S0 q5.2) rfl rfl ?_
              refine am_put (pc' := 109) (ws' := (sx_w S0 (sm_w (um_nextOffer q5.2 (sm_nextOffer q5.2))))) (v := .int (sm_nextOffer q5.2)) dX12_shows_106 fp_X12_214 (sm_c45 S0 q5.2) (fun _ => ⟨rfl, rfl⟩) (Nat.le_of_ble_eq_true rfl) (sm_p_nextOffer S0 q5.2 _) rfl ?_
              refine am_iinc (pc' := 112) (ls' := [some (.ref 45), some (.int v1), some (.int v2), some (.int (v3 + (1 : Int32))), some (.int q5.1)]) dX12_shows_109 rfl (show v3 + Int32.ofInt 1 = (v3 + (1 : Int32)) from congrArg (fun z => v3 + z) kc_1) (Nat.le_of_ble_eq_true rfl) rfl rfl rfl ?_
              refine am_goto 23 dX12_shows_112 rfl ?_
              refine am_weak (ls' := [some (.ref 45), some (.int v1), some (.int v2), some (.int (v3 + (1 : Int32))), none]) [false, false, false, false, true] rfl ?_
              exact ih _ _ _ _ _ hres
            · rw [if_neg hc9] at hres
              refine am_iload (pc' := 99) dX12_shows_97 rfl rfl ?_
              refine am_goto 106 dX12_shows_99 rfl ?_
              refine am_put (pc' := 109) (ws' := (sx_w S0 (sm_w (um_nextOffer q5.2 q5.1)))) (v := .int q5.1) dX12_shows_106 fp_X12_214 (sm_c45 S0 q5.2) (fun _ => ⟨rfl, rfl⟩) (Nat.le_of_ble_eq_true rfl) (sm_p_nextOffer S0 q5.2 _) rfl ?_
              refine am_iinc (pc' := 112) (ls' := [some (.ref 45), some (.int v1), some (.int v2), some (.int (v3 + (1 : Int32))), some (.int q5.1)]) dX12_shows_109 rfl (show v3 + Int32.ofInt 1 = (v3 + (1 : Int32)) from congrArg (fun z => v3 + z) kc_1) (Nat.le_of_ble_eq_true rfl) rfl rfl rfl ?_
              refine am_goto 23 dX12_shows_112 rfl ?_
              refine am_weak (ls' := [some (.ref 45), some (.int v1), some (.int v2), some (.int (v3 + (1 : Int32))), none]) [false, false, false, false, true] rfl ?_
              exact ih _ _ _ _ _ hres
          · rw [if_neg hc8] at hres
            refine am_aload_n (pc' := 66) 0 dX12_shows_65 rfl rfl rfl ?_
            refine am_aload_n (pc' := 67) 0 dX12_shows_66 rfl rfl rfl ?_
            refine am_get (pc' := 70) (v := .int (sm_bestOffer q5.2)) dX12_shows_67 fl_X12_211 (sm_c45 S0 q5.2) rfl rfl ?_
            refine am_put (pc' := 73) (ws' := (sx_w S0 (sm_w (um_nextOffer q5.2 (sm_bestOffer q5.2))))) (v := .int (sm_bestOffer q5.2)) dX12_shows_70 fp_X12_214 (sm_c45 S0 q5.2) (fun _ => ⟨rfl, rfl⟩) (Nat.le_of_ble_eq_true rfl) (sm_p_nextOffer S0 q5.2 _) rfl ?_
            refine am_aload_n (pc' := 74) 0 dX12_shows_73 rfl rfl rfl ?_
            refine am_iload_n (pc' := 75) 3 dX12_shows_74 rfl rfl rfl ?_
            refine am_put (pc' := 78) (ws' := (sx_w S0 (sm_w (um_bestOne (um_nextOffer q5.2 (sm_bestOffer q5.2)) v3)))) (v := .int v3) dX12_shows_75 fp_X12_208 (sm_c45 S0 (um_nextOffer q5.2 (sm_bestOffer q5.2))) (fun _ => ⟨rfl, rfl⟩) (Nat.le_of_ble_eq_true rfl) (sm_p_bestOne S0 (um_nextOffer q5.2 (sm_bestOffer q5.2)) _) rfl ?_
            refine am_aload_n (pc' := 79) 0 dX12_shows_78 rfl rfl rfl ?_
            refine am_iload (pc' := 81) dX12_shows_79 rfl rfl ?_
            refine am_put (pc' := 84) (ws' := (sx_w S0 (sm_w (um_bestOffer (um_bestOne (um_nextOffer q5.2 (sm_bestOffer q5.2)) v3) q5.1)))) (v := .int q5.1) dX12_shows_81 fp_X12_211 (sm_c45 S0 (um_bestOne (um_nextOffer q5.2 (sm_bestOffer q5.2)) v3)) (fun _ => ⟨rfl, rfl⟩) (Nat.le_of_ble_eq_true rfl) (sm_p_bestOffer S0 (um_bestOne (um_nextOffer q5.2 (sm_bestOffer q5.2)) v3) _) rfl ?_
            refine am_goto 109 dX12_shows_84 rfl ?_
            refine am_iinc (pc' := 112) (ls' := [some (.ref 45), some (.int v1), some (.int v2), some (.int (v3 + (1 : Int32))), some (.int q5.1)]) dX12_shows_109 rfl (show v3 + Int32.ofInt 1 = (v3 + (1 : Int32)) from congrArg (fun z => v3 + z) kc_1) (Nat.le_of_ble_eq_true rfl) rfl rfl rfl ?_
            refine am_goto 23 dX12_shows_112 rfl ?_
            refine am_weak (ls' := [some (.ref 45), some (.int v1), some (.int v2), some (.int (v3 + (1 : Int32))), none]) [false, false, false, false, true] rfl ?_
            exact ih _ _ _ _ _ hres

set_option maxRecDepth 100000 in
set_option maxHeartbeats 4000000 in
theorem tx_X12_shows (S0 : sx_T) (a1 : Int32) (S : sm_T) (res : sm_T) (hres : fx_X12_shows a1 S = some res) : am_T mX12_shows 6 0 0 [.ref 45, .int a1] (sx_w S0 (sm_w S)) none (sx_w S0 (sm_w res)) := by
  refine am_meth (ls := [some (.ref 45), some (.int a1), none, none, none]) (by decide +kernel) rfl (Nat.le_of_ble_eq_true rfl) (sm_len _ _ _ _) ?_
  rw [fx_X12_shows] at hres
  refine am_aload_n (pc' := 1) 0 dX12_shows_0 rfl rfl rfl ?_
  refine am_iload_n (pc' := 2) 1 dX12_shows_1 rfl rfl rfl ?_
  obtain ⟨q1, hq2, hres⟩ := am_bd_s hres
  refine am_cV (pc' := 5) (st' := [.int q1]) [] [.int a1] dX12_shows_2 cs_X12_205 (tx_X12_crowdOf S0 a1 S _ hq2) rfl rfl rfl (sm_c45 S0 S) rfl rfl rfl rfl rfl ?_
  refine am_istore_n (pc' := 6) (ls' := [some (.ref 45), some (.int a1), some (.int q1), none, none]) 2 dX12_shows_5 rfl (Nat.le_of_ble_eq_true rfl) rfl rfl rfl ?_
  refine am_aload_n (pc' := 7) 0 dX12_shows_6 rfl rfl rfl ?_
  refine am_iconst (pc' := 8) (v := (-1)) dX12_shows_7 kc_m1 rfl ?_
  refine am_put (pc' := 11) (ws' := (sx_w S0 (sm_w (um_bestOne S (-1 : Int32))))) (v := .int (-1 : Int32)) dX12_shows_8 fp_X12_208 (sm_c45 S0 S) (fun _ => ⟨rfl, rfl⟩) (Nat.le_of_ble_eq_true rfl) (sm_p_bestOne S0 S _) rfl ?_
  refine am_aload_n (pc' := 12) 0 dX12_shows_11 rfl rfl rfl ?_
  refine am_iconst (pc' := 13) (v := 0) dX12_shows_12 kc_0 rfl ?_
  refine am_put (pc' := 16) (ws' := (sx_w S0 (sm_w (um_bestOffer (um_bestOne S (-1 : Int32)) (0 : Int32))))) (v := .int (0 : Int32)) dX12_shows_13 fp_X12_211 (sm_c45 S0 (um_bestOne S (-1 : Int32))) (fun _ => ⟨rfl, rfl⟩) (Nat.le_of_ble_eq_true rfl) (sm_p_bestOffer S0 (um_bestOne S (-1 : Int32)) _) rfl ?_
  refine am_aload_n (pc' := 17) 0 dX12_shows_16 rfl rfl rfl ?_
  refine am_iconst (pc' := 18) (v := 0) dX12_shows_17 kc_0 rfl ?_
  refine am_put (pc' := 21) (ws' := (sx_w S0 (sm_w (um_nextOffer (um_bestOffer (um_bestOne S (-1 : Int32)) (0 : Int32)) (0 : Int32))))) (v := .int (0 : Int32)) dX12_shows_18 fp_X12_214 (sm_c45 S0 (um_bestOffer (um_bestOne S (-1 : Int32)) (0 : Int32))) (fun _ => ⟨rfl, rfl⟩) (Nat.le_of_ble_eq_true rfl) (sm_p_nextOffer S0 (um_bestOffer (um_bestOne S (-1 : Int32)) (0 : Int32)) _) rfl ?_
  refine am_iconst (pc' := 22) (v := 0) dX12_shows_21 kc_0 rfl ?_
  refine am_istore_n (pc' := 23) (ls' := [some (.ref 45), some (.int a1), some (.int q1), some (.int (0 : Int32)), none]) 3 dX12_shows_22 rfl (Nat.le_of_ble_eq_true rfl) rfl rfl rfl ?_
  exact wx_X12_shows_23 S0 am_fu _ _ _ _ _ hres
set_option maxRecDepth 100000 in
set_option maxHeartbeats 4000000 in
theorem tx_X12_shown (S0 : sx_T) (a1 : Int32) (a2 : Int32) (a3 : Int32) (S : sm_T) (res : Int32 × sm_T) (hres : fx_X12_shown a1 a2 a3 S = some res) : am_T mX12_shown 7 0 0 [.ref 45, .int a1, .int a2, .int a3] (sx_w S0 (sm_w S)) (some (.int res.1)) (sx_w S0 (sm_w res.2)) := by
  refine am_meth (ls := [some (.ref 45), some (.int a1), some (.int a2), some (.int a3), none]) (by decide +kernel) rfl (Nat.le_of_ble_eq_true rfl) (sm_len _ _ _ _) ?_
  rw [fx_X12_shown] at hres
  refine am_aload_n (pc' := 1) 0 dX12_shown_0 rfl rfl rfl ?_
  refine am_iload_n (pc' := 2) 1 dX12_shown_1 rfl rfl rfl ?_
  obtain ⟨q1, hq2, hres⟩ := am_bd_s hres
  refine am_cV (pc' := 5) (st' := [.int q1.1]) [] [.int a1] dX12_shown_2 cs_X12_197 (tx_X12_reads S0 a1 S _ hq2) rfl rfl rfl (sm_c45 S0 S) rfl rfl rfl rfl rfl ?_
  refine am_istore (pc' := 7) (ls' := [some (.ref 45), some (.int a1), some (.int a2), some (.int a3), some (.int q1.1)]) dX12_shown_5 (Nat.le_of_ble_eq_true rfl) rfl rfl rfl ?_
  refine am_iload (pc' := 9) dX12_shown_7 rfl rfl ?_
  refine am_if_eq (pc' := 12) 15 dX12_shown_9 rfl rfl (fun hc3 => ?_) (fun hc3 => ?_)
  · rw [if_pos hc3] at hres
    refine am_aload_n (pc' := 16) 0 dX12_shown_15 rfl rfl rfl ?_
    refine am_iload_n (pc' := 17) 2 dX12_shown_16 rfl rfl rfl ?_
    refine am_cV (pc' := 20) (st' := [.int (fx_X12_isSome a2 q1.2)]) [] [.int a2] dX12_shown_17 cs_X12_217 (tx_X12_isSome S0 a2 q1.2 _ rfl) rfl rfl rfl (sm_c45 S0 q1.2) rfl rfl rfl rfl rfl ?_
    refine am_if_eq (pc' := 23) 32 dX12_shown_20 rfl rfl (fun hc4 => ?_) (fun hc4 => ?_)
    · rw [if_pos hc4] at hres
      refine am_bipush (pc' := 34) (v := (-7)) dX12_shown_32 kb_m7 rfl ?_
      obtain rfl := Option.some.inj hres
      exact am_iret dX12_shown_34 rfl rfl rfl
    · rw [if_neg hc4] at hres
      refine am_iload_n (pc' := 24) 3 dX12_shown_23 rfl rfl rfl ?_
      refine am_iconst (pc' := 25) (v := 0) dX12_shown_24 kc_0 rfl ?_
      refine am_iconst (pc' := 26) (v := 2) dX12_shown_25 kc_2 rfl ?_
      refine am_cS (pc' := 29) (st' := [.int (fx_X12_in a3 (0 : Int32) (2 : Int32))]) [] [.int a3, .int (0 : Int32), .int (2 : Int32)] dX12_shown_26 cs_X12_90 (tx_X12_in (sx_w S0 (sm_w q1.2)) a3 (0 : Int32) (2 : Int32) _ rfl) rfl rfl rfl rfl rfl rfl ?_
      refine am_if_ne (pc' := 32) 35 dX12_shown_29 rfl rfl (fun hc5 => ?_) (fun hc5 => ?_)
      · rw [if_neg hc5] at hres
        refine am_aload_n (pc' := 36) 0 dX12_shown_35 rfl rfl rfl ?_
        refine am_iload_n (pc' := 37) 2 dX12_shown_36 rfl rfl rfl ?_
        obtain ⟨q6, hq7, hres⟩ := am_bd_s hres
        refine am_cV (pc' := 40) (st' := []) [] [.int a2] dX12_shown_37 cs_X12_220 (tx_X12_shows S0 a2 q1.2 _ hq7) rfl rfl rfl (sm_c45 S0 q1.2) rfl rfl rfl rfl rfl ?_
        refine am_iload_n (pc' := 41) 3 dX12_shown_40 rfl rfl rfl ?_
        refine am_if_ne (pc' := 44) 51 dX12_shown_41 rfl rfl (fun hc8 => ?_) (fun hc8 => ?_)
        · rw [if_neg hc8] at hres
          refine am_iload_n (pc' := 52) 3 dX12_shown_51 rfl rfl rfl ?_
          refine am_iconst (pc' := 53) (v := 1) dX12_shown_52 kc_1 rfl ?_
          refine am_icmp_ne (pc' := 56) 63 dX12_shown_53 rfl rfl (fun hc9 => ?_) (fun hc9 => ?_)
          · rw [if_neg hc9] at hres
            refine am_aload_n (pc' := 64) 0 dX12_shown_63 rfl rfl rfl ?_
            refine am_get (pc' := 67) (v := .int (sm_nextOffer q6)) dX12_shown_64 fl_X12_214 (sm_c45 S0 q6) rfl rfl ?_
            obtain rfl := Option.some.inj hres
            exact am_iret dX12_shown_67 rfl rfl rfl
          · rw [if_pos hc9] at hres
            refine am_aload_n (pc' := 57) 0 dX12_shown_56 rfl rfl rfl ?_
            refine am_get (pc' := 60) (v := .int (sm_bestOffer q6)) dX12_shown_57 fl_X12_211 (sm_c45 S0 q6) rfl rfl ?_
            refine am_goto 67 dX12_shown_60 rfl ?_
            obtain rfl := Option.some.inj hres
            exact am_iret dX12_shown_67 rfl rfl rfl
        · rw [if_pos hc8] at hres
          refine am_aload_n (pc' := 45) 0 dX12_shown_44 rfl rfl rfl ?_
          refine am_get (pc' := 48) (v := .int (sm_bestOne q6)) dX12_shown_45 fl_X12_208 (sm_c45 S0 q6) rfl rfl ?_
          refine am_goto 67 dX12_shown_48 rfl ?_
          obtain rfl := Option.some.inj hres
          exact am_iret dX12_shown_67 rfl rfl rfl
      · rw [if_pos hc5] at hres
        refine am_bipush (pc' := 34) (v := (-7)) dX12_shown_32 kb_m7 rfl ?_
        obtain rfl := Option.some.inj hres
        exact am_iret dX12_shown_34 rfl rfl rfl
  · rw [if_neg hc3] at hres
    refine am_iload (pc' := 14) dX12_shown_12 rfl rfl ?_
    obtain rfl := Option.some.inj hres
    exact am_iret dX12_shown_14 rfl rfl rfl
set_option maxRecDepth 100000 in
set_option maxHeartbeats 4000000 in
theorem tx_X12_taken (S0 : sx_T) (a1 : Int32) (a2 : Int32) (S : sm_T) (res : Int32) (hres : fx_X12_taken a1 a2 S = some res) : am_T mX12_taken 1 0 0 [.ref 45, .int a1, .int a2] (sx_w S0 (sm_w S)) (some (.int res)) (sx_w S0 (sm_w S)) := by
  refine am_meth (ls := [some (.ref 45), some (.int a1), some (.int a2)]) (by decide +kernel) rfl (Nat.le_of_ble_eq_true rfl) (sm_len _ _ _ _) ?_
  rw [fx_X12_taken] at hres
  refine am_iload_n (pc' := 1) 2 dX12_taken_0 rfl rfl rfl ?_
  refine am_iconst (pc' := 2) (v := 0) dX12_taken_1 kc_0 rfl ?_
  refine am_bipush (pc' := 4) (v := 6) dX12_taken_2 kb_6 rfl ?_
  refine am_cS (pc' := 7) (st' := [.int (fx_X12_in a2 (0 : Int32) (6 : Int32))]) [] [.int a2, .int (0 : Int32), .int (6 : Int32)] dX12_taken_4 cs_X12_90 (tx_X12_in (sx_w S0 (sm_w S)) a2 (0 : Int32) (6 : Int32) _ rfl) rfl rfl rfl rfl rfl rfl ?_
  refine am_if_ne (pc' := 10) 13 dX12_taken_7 rfl rfl (fun hc1 => ?_) (fun hc1 => ?_)
  · rw [if_neg hc1] at hres
    refine am_iload_n (pc' := 14) 1 dX12_taken_13 rfl rfl rfl ?_
    refine am_iconst (pc' := 15) (v := 0) dX12_taken_14 kc_0 rfl ?_
    refine am_bipush (pc' := 17) (v := 15) dX12_taken_15 kb_15 rfl ?_
    refine am_cS (pc' := 20) (st' := [.int (fx_X12_in a1 (0 : Int32) (15 : Int32))]) [] [.int a1, .int (0 : Int32), .int (15 : Int32)] dX12_taken_17 cs_X12_90 (tx_X12_in (sx_w S0 (sm_w S)) a1 (0 : Int32) (15 : Int32) _ rfl) rfl rfl rfl rfl rfl rfl ?_
    refine am_if_ne (pc' := 23) 26 dX12_taken_20 rfl rfl (fun hc2 => ?_) (fun hc2 => ?_)
    · rw [if_neg hc2] at hres
      refine am_iload_n (pc' := 27) 1 dX12_taken_26 rfl rfl rfl ?_
      refine am_bipush (pc' := 29) (v := 8) dX12_taken_27 kb_8 rfl ?_
      refine am_irem (pc' := 30) dX12_taken_29 (by decide) rfl ?_
      refine am_aload_n (pc' := 31) 0 dX12_taken_30 rfl rfl rfl ?_
      refine am_get (pc' := 34) (v := .int (sm_viewers S)) dX12_taken_31 fl_X12_87 (sm_c45 S0 S) rfl rfl ?_
      refine am_icmp_lt (pc' := 37) 40 dX12_taken_34 rfl rfl (fun hc3 => ?_) (fun hc3 => ?_)
      · rw [if_pos hc3] at hres
        refine am_iload_n (pc' := 41) 1 dX12_taken_40 rfl rfl rfl ?_
        refine am_bipush (pc' := 43) (v := 8) dX12_taken_41 kb_8 rfl ?_
        refine am_icmp_lt (pc' := 46) 71 dX12_taken_43 rfl rfl (fun hc4 => ?_) (fun hc4 => ?_)
        · rw [if_pos hc4] at hres
          refine am_iload_n (pc' := 72) 2 dX12_taken_71 rfl rfl rfl ?_
          refine am_bipush (pc' := 74) (v := 6) dX12_taken_72 kb_6 rfl ?_
          refine am_icmp_ge (pc' := 77) 94 dX12_taken_74 rfl rfl (fun hc5 => ?_) (fun hc5 => ?_)
          · rw [if_pos hc5] at hres
            refine am_bipush (pc' := 96) (v := (-13)) dX12_taken_94 kb_m13 rfl ?_
            obtain rfl := Option.some.inj hres
            exact am_iret dX12_taken_96 rfl rfl rfl
          · rw [if_neg hc5] at hres
            refine am_aload_n (pc' := 78) 0 dX12_taken_77 rfl rfl rfl ?_
            refine am_get (pc' := 81) (v := .ref 46) dX12_taken_78 fl_X12_7 (sm_c45 S0 S) rfl rfl ?_
            refine am_iload_n (pc' := 82) 1 dX12_taken_81 rfl rfl rfl ?_
            obtain ⟨hr6, hres⟩ := am_rg hres
            refine am_iald (pc' := 83) (f := (sm_kind S)) dX12_taken_82 (sm_c46 S0 S) hr6 rfl ?_
            refine am_iload_n (pc' := 84) 2 dX12_taken_83 rfl rfl rfl ?_
            refine am_cS (pc' := 87) (st' := [.int (fx_X12_isUnder ((sm_kind S) a1.toNatClampNeg) a2)]) [] [.int ((sm_kind S) a1.toNatClampNeg), .int a2] dX12_taken_84 cs_X12_266 (tx_X12_isUnder (sx_w S0 (sm_w S)) ((sm_kind S) a1.toNatClampNeg) a2 _ rfl) rfl rfl rfl rfl rfl rfl ?_
            refine am_if_eq (pc' := 90) 94 dX12_taken_87 rfl rfl (fun hc7 => ?_) (fun hc7 => ?_)
            · rw [if_pos hc7] at hres
              refine am_bipush (pc' := 96) (v := (-13)) dX12_taken_94 kb_m13 rfl ?_
              obtain rfl := Option.some.inj hres
              exact am_iret dX12_taken_96 rfl rfl rfl
            · rw [if_neg hc7] at hres
              refine am_iload_n (pc' := 91) 1 dX12_taken_90 rfl rfl rfl ?_
              refine am_goto 96 dX12_taken_91 rfl ?_
              obtain rfl := Option.some.inj hres
              exact am_iret dX12_taken_96 rfl rfl rfl
        · rw [if_neg hc4] at hres
          refine am_iload_n (pc' := 47) 2 dX12_taken_46 rfl rfl rfl ?_
          refine am_bipush (pc' := 49) (v := 6) dX12_taken_47 kb_6 rfl ?_
          refine am_icmp_ne (pc' := 52) 68 dX12_taken_49 rfl rfl (fun hc8 => ?_) (fun hc8 => ?_)
          · rw [if_neg hc8] at hres
            refine am_bipush (pc' := 70) (v := (-13)) dX12_taken_68 kb_m13 rfl ?_
            obtain rfl := Option.some.inj hres
            exact am_iret dX12_taken_70 rfl rfl rfl
          · rw [if_pos hc8] at hres
            refine am_aload_n (pc' := 53) 0 dX12_taken_52 rfl rfl rfl ?_
            refine am_get (pc' := 56) (v := .ref 48) dX12_taken_53 fl_X12_16 (sm_c45 S0 S) rfl rfl ?_
            refine am_iconst (pc' := 57) (v := 2) dX12_taken_56 kc_2 rfl ?_
            refine am_iload_n (pc' := 58) 1 dX12_taken_57 rfl rfl rfl ?_
            refine am_bipush (pc' := 60) (v := 8) dX12_taken_58 kb_8 rfl ?_
            refine am_isub (pc' := 61) dX12_taken_60 rfl ?_
            refine am_imul (pc' := 62) dX12_taken_61 rfl ?_
            refine am_iconst (pc' := 63) (v := 1) dX12_taken_62 kc_1 rfl ?_
            refine am_iadd (pc' := 64) dX12_taken_63 rfl ?_
            obtain ⟨hr9, hres⟩ := am_rg hres
            refine am_iald (pc' := 65) (f := (sm_ones S)) dX12_taken_64 (sm_c48 S0 S) hr9 rfl ?_
            refine am_goto 70 dX12_taken_65 rfl ?_
            obtain rfl := Option.some.inj hres
            exact am_iret dX12_taken_70 rfl rfl rfl
      · rw [if_neg hc3] at hres
        refine am_bipush (pc' := 39) (v := (-11)) dX12_taken_37 kb_m11 rfl ?_
        obtain rfl := Option.some.inj hres
        exact am_iret dX12_taken_39 rfl rfl rfl
    · rw [if_pos hc2] at hres
      refine am_bipush (pc' := 25) (v := (-12)) dX12_taken_23 kb_m12 rfl ?_
      obtain rfl := Option.some.inj hres
      exact am_iret dX12_taken_25 rfl rfl rfl
  · rw [if_pos hc1] at hres
    refine am_bipush (pc' := 12) (v := (-2)) dX12_taken_10 kb_m2 rfl ?_
    obtain rfl := Option.some.inj hres
    exact am_iret dX12_taken_12 rfl rfl rfl
set_option maxRecDepth 100000 in
set_option maxHeartbeats 4000000 in
theorem wx_X12_takenOf_5 (S0 : sx_T) (S : sm_T) : ∀ (n : Nat) (v1 : Int32) (v2 : Int32) (v3 : Int32) (v4 : Int32) (res : Int32) (hres : fx_X12_takenOf_5 S n v1 v2 v3 v4 = some res), am_G mX12_takenOf (none, 0, 0, 0, (some (.int res)), (sx_w S0 (sm_w S))) (0, 0) 5 [some (.ref 45), some (.int v1), some (.int v2), some (.int v3), some (.int v4), none] [] (sx_w S0 (sm_w S)) := by
  intro n
  induction n with
  | zero =>
    intro v1 v2 v3 v4 res hres
    cases hres
  | succ n ih =>
    intro v1 v2 v3 v4 res hres
    rw [fx_X12_takenOf_5] at hres
    refine am_iload (pc' := 7) dX12_takenOf_5 rfl rfl ?_
    refine am_iload_n (pc' := 8) 1 dX12_takenOf_7 rfl rfl rfl ?_
    refine am_icmp_ge (pc' := 11) 59 dX12_takenOf_8 rfl rfl (fun hc1 => ?_) (fun hc1 => ?_)
    · rw [if_pos hc1] at hres
      refine am_aload_n (pc' := 60) 0 dX12_takenOf_59 rfl rfl rfl ?_
      refine am_get (pc' := 63) (v := .ref 66) dX12_takenOf_60 fl_X12_74 (sm_c45 S0 S) rfl rfl ?_
      refine am_aload_n (pc' := 64) 0 dX12_takenOf_63 rfl rfl rfl ?_
      refine am_get (pc' := 67) (v := .ref 67) dX12_takenOf_64 fl_X12_77 (sm_c45 S0 S) rfl rfl ?_
      refine am_iload_n (pc' := 68) 1 dX12_takenOf_67 rfl rfl rfl ?_
      refine am_iconst (pc' := 69) (v := 1) dX12_takenOf_68 kc_1 rfl ?_
      refine am_isub (pc' := 70) dX12_takenOf_69 rfl ?_
      obtain ⟨hr2, hres⟩ := am_rg hres
      refine am_iald (pc' := 71) (f := (sm_comer S)) dX12_takenOf_70 (sm_c67 S0 S) hr2 rfl ?_
      obtain ⟨hr3, hres⟩ := am_rg hres
      refine am_iald (pc' := 72) (f := (sm_offerAlone S)) dX12_takenOf_71 (sm_c66 S0 S) hr3 rfl ?_
      obtain rfl := Option.some.inj hres
      exact am_iret dX12_takenOf_72 rfl rfl rfl
    · rw [if_neg hc1] at hres
      refine am_aload_n (pc' := 12) 0 dX12_takenOf_11 rfl rfl rfl ?_
      refine am_get (pc' := 15) (v := .ref 66) dX12_takenOf_12 fl_X12_74 (sm_c45 S0 S) rfl rfl ?_
      refine am_aload_n (pc' := 16) 0 dX12_takenOf_15 rfl rfl rfl ?_
      refine am_get (pc' := 19) (v := .ref 67) dX12_takenOf_16 fl_X12_77 (sm_c45 S0 S) rfl rfl ?_
      refine am_iload (pc' := 21) dX12_takenOf_19 rfl rfl ?_
      obtain ⟨hr4, hres⟩ := am_rg hres
      refine am_iald (pc' := 22) (f := (sm_comer S)) dX12_takenOf_21 (sm_c67 S0 S) hr4 rfl ?_
      obtain ⟨hr5, hres⟩ := am_rg hres
      refine am_iald (pc' := 23) (f := (sm_offerAlone S)) dX12_takenOf_22 (sm_c66 S0 S) hr5 rfl ?_
      refine am_istore (pc' := 25) (ls' := [some (.ref 45), some (.int v1), some (.int v2), some (.int v3), some (.int v4), some (.int ((sm_offerAlone S) ((sm_comer S) v4.toNatClampNeg).toNatClampNeg))]) dX12_takenOf_23 (Nat.le_of_ble_eq_true rfl) rfl rfl rfl ?_
      refine am_iload (pc' := 27) dX12_takenOf_25 rfl rfl ?_
      refine am_iload_n (pc' := 28) 2 dX12_takenOf_27 rfl rfl rfl ?_
      refine am_icmp_lt (pc' := 31) 40 dX12_takenOf_28 rfl rfl (fun hc6 => ?_) (fun hc6 => ?_)
      · rw [if_pos hc6] at hres
        refine am_iload (pc' := 42) dX12_takenOf_40 rfl rfl ?_
        refine am_iload_n (pc' := 43) 3 dX12_takenOf_42 rfl rfl rfl ?_
        refine am_icmp_le (pc' := 46) 51 dX12_takenOf_43 rfl rfl (fun hc7 => ?_) (fun hc7 => ?_)
        · rw [if_pos hc7] at hres
          refine am_iload_n (pc' := 52) 3 dX12_takenOf_51 rfl rfl rfl ?_
          refine am_istore_n (pc' := 53) (ls' := [some (.ref 45), some (.int v1), some (.int v2), some (.int v3), some (.int v4), some (.int ((sm_offerAlone S) ((sm_comer S) v4.toNatClampNeg).toNatClampNeg))]) 3 dX12_takenOf_52 rfl (Nat.le_of_ble_eq_true rfl) rfl rfl rfl ?_
          refine am_iinc (pc' := 56) (ls' := [some (.ref 45), some (.int v1), some (.int v2), some (.int v3), some (.int (v4 + (1 : Int32))), some (.int ((sm_offerAlone S) ((sm_comer S) v4.toNatClampNeg).toNatClampNeg))]) dX12_takenOf_53 rfl (show v4 + Int32.ofInt 1 = (v4 + (1 : Int32)) from congrArg (fun z => v4 + z) kc_1) (Nat.le_of_ble_eq_true rfl) rfl rfl rfl ?_
          refine am_goto 5 dX12_takenOf_56 rfl ?_
          refine am_weak (ls' := [some (.ref 45), some (.int v1), some (.int v2), some (.int v3), some (.int (v4 + (1 : Int32))), none]) [false, false, false, false, false, true] rfl ?_
          exact ih _ _ _ _ _ hres
        · rw [if_neg hc7] at hres
          refine am_iload (pc' := 48) dX12_takenOf_46 rfl rfl ?_
          refine am_goto 52 dX12_takenOf_48 rfl ?_
          refine am_istore_n (pc' := 53) (ls' := [some (.ref 45), some (.int v1), some (.int v2), some (.int ((sm_offerAlone S) ((sm_comer S) v4.toNatClampNeg).toNatClampNeg)), some (.int v4), some (.int ((sm_offerAlone S) ((sm_comer S) v4.toNatClampNeg).toNatClampNeg))]) 3 dX12_takenOf_52 rfl (Nat.le_of_ble_eq_true rfl) rfl rfl rfl ?_
          refine am_iinc (pc' := 56) (ls' := [some (.ref 45), some (.int v1), some (.int v2), some (.int ((sm_offerAlone S) ((sm_comer S) v4.toNatClampNeg).toNatClampNeg)), some (.int (v4 + (1 : Int32))), some (.int ((sm_offerAlone S) ((sm_comer S) v4.toNatClampNeg).toNatClampNeg))]) dX12_takenOf_53 rfl (show v4 + Int32.ofInt 1 = (v4 + (1 : Int32)) from congrArg (fun z => v4 + z) kc_1) (Nat.le_of_ble_eq_true rfl) rfl rfl rfl ?_
          refine am_goto 5 dX12_takenOf_56 rfl ?_
          refine am_weak (ls' := [some (.ref 45), some (.int v1), some (.int v2), some (.int ((sm_offerAlone S) ((sm_comer S) v4.toNatClampNeg).toNatClampNeg)), some (.int (v4 + (1 : Int32))), none]) [false, false, false, false, false, true] rfl ?_
          exact ih _ _ _ _ _ hres
      · rw [if_neg hc6] at hres
        refine am_iload (pc' := 33) dX12_takenOf_31 rfl rfl ?_
        refine am_iload_n (pc' := 34) 3 dX12_takenOf_33 rfl rfl rfl ?_
        refine am_icmp_le (pc' := 37) 40 dX12_takenOf_34 rfl rfl (fun hc8 => ?_) (fun hc8 => ?_)
        · rw [if_pos hc8] at hres
          refine am_iload (pc' := 42) dX12_takenOf_40 rfl rfl ?_
          refine am_iload_n (pc' := 43) 3 dX12_takenOf_42 rfl rfl rfl ?_
          refine am_icmp_le (pc' := 46) 51 dX12_takenOf_43 rfl rfl (fun hc9 => ?_) (fun hc9 => ?_)
          · rw [if_pos hc9] at hres
            refine am_iload_n (pc' := 52) 3 dX12_takenOf_51 rfl rfl rfl ?_
            refine am_istore_n (pc' := 53) (ls' := [some (.ref 45), some (.int v1), some (.int v2), some (.int v3), some (.int v4), some (.int ((sm_offerAlone S) ((sm_comer S) v4.toNatClampNeg).toNatClampNeg))]) 3 dX12_takenOf_52 rfl (Nat.le_of_ble_eq_true rfl) rfl rfl rfl ?_
            refine am_iinc (pc' := 56) (ls' := [some (.ref 45), some (.int v1), some (.int v2), some (.int v3), some (.int (v4 + (1 : Int32))), some (.int ((sm_offerAlone S) ((sm_comer S) v4.toNatClampNeg).toNatClampNeg))]) dX12_takenOf_53 rfl (show v4 + Int32.ofInt 1 = (v4 + (1 : Int32)) from congrArg (fun z => v4 + z) kc_1) (Nat.le_of_ble_eq_true rfl) rfl rfl rfl ?_
            refine am_goto 5 dX12_takenOf_56 rfl ?_
            refine am_weak (ls' := [some (.ref 45), some (.int v1), some (.int v2), some (.int v3), some (.int (v4 + (1 : Int32))), none]) [false, false, false, false, false, true] rfl ?_
            exact ih _ _ _ _ _ hres
          · rw [if_neg hc9] at hres
            refine am_iload (pc' := 48) dX12_takenOf_46 rfl rfl ?_
            refine am_goto 52 dX12_takenOf_48 rfl ?_
            refine am_istore_n (pc' := 53) (ls' := [some (.ref 45), some (.int v1), some (.int v2), some (.int ((sm_offerAlone S) ((sm_comer S) v4.toNatClampNeg).toNatClampNeg)), some (.int v4), some (.int ((sm_offerAlone S) ((sm_comer S) v4.toNatClampNeg).toNatClampNeg))]) 3 dX12_takenOf_52 rfl (Nat.le_of_ble_eq_true rfl) rfl rfl rfl ?_
            refine am_iinc (pc' := 56) (ls' := [some (.ref 45), some (.int v1), some (.int v2), some (.int ((sm_offerAlone S) ((sm_comer S) v4.toNatClampNeg).toNatClampNeg)), some (.int (v4 + (1 : Int32))), some (.int ((sm_offerAlone S) ((sm_comer S) v4.toNatClampNeg).toNatClampNeg))]) dX12_takenOf_53 rfl (show v4 + Int32.ofInt 1 = (v4 + (1 : Int32)) from congrArg (fun z => v4 + z) kc_1) (Nat.le_of_ble_eq_true rfl) rfl rfl rfl ?_
            refine am_goto 5 dX12_takenOf_56 rfl ?_
            refine am_weak (ls' := [some (.ref 45), some (.int v1), some (.int v2), some (.int ((sm_offerAlone S) ((sm_comer S) v4.toNatClampNeg).toNatClampNeg)), some (.int (v4 + (1 : Int32))), none]) [false, false, false, false, false, true] rfl ?_
            exact ih _ _ _ _ _ hres
        · rw [if_neg hc8] at hres
          refine am_iload (pc' := 39) dX12_takenOf_37 rfl rfl ?_
          obtain rfl := Option.some.inj hres
          exact am_iret dX12_takenOf_39 rfl rfl rfl

set_option maxRecDepth 100000 in
set_option maxHeartbeats 4000000 in
theorem tx_X12_takenOf (S0 : sx_T) (a1 : Int32) (a2 : Int32) (S : sm_T) (res : Int32) (hres : fx_X12_takenOf a1 a2 S = some res) : am_T mX12_takenOf 0 0 0 [.ref 45, .int a1, .int a2] (sx_w S0 (sm_w S)) (some (.int res)) (sx_w S0 (sm_w S)) := by
  refine am_meth (ls := [some (.ref 45), some (.int a1), some (.int a2), none, none, none]) (by decide +kernel) rfl (Nat.le_of_ble_eq_true rfl) (sm_len _ _ _ _) ?_
  rw [fx_X12_takenOf] at hres
  refine am_iconst (pc' := 1) (v := (-1)) dX12_takenOf_0 kc_m1 rfl ?_
  refine am_istore_n (pc' := 2) (ls' := [some (.ref 45), some (.int a1), some (.int a2), some (.int (-1 : Int32)), none, none]) 3 dX12_takenOf_1 rfl (Nat.le_of_ble_eq_true rfl) rfl rfl rfl ?_
  refine am_iconst (pc' := 3) (v := 0) dX12_takenOf_2 kc_0 rfl ?_
  refine am_istore (pc' := 5) (ls' := [some (.ref 45), some (.int a1), some (.int a2), some (.int (-1 : Int32)), some (.int (0 : Int32)), none]) dX12_takenOf_3 (Nat.le_of_ble_eq_true rfl) rfl rfl rfl ?_
  exact wx_X12_takenOf_5 S0 S am_fu _ _ _ _ _ hres
set_option maxRecDepth 100000 in
set_option maxHeartbeats 4000000 in
theorem wx_X12_tenant_152 (S0 : sx_T) (k51 : Int32 → Int32 → Int32 → Int32 → Int32 → Int32 → sm_T → Option (Int32 × sm_T)) (hk51 : ∀ (v2 : Int32) (v3 : Int32) (v5 : Int32) (v6 : Int32) (v7 : Int32) (v8 : Int32) (S : sm_T) (res : Int32 × sm_T), k51 v2 v3 v5 v6 v7 v8 S = some res → am_G mX12_tenant (none, 6, 0, 0, (some (.int res.1)), (sx_w S0 (sm_w res.2))) (0, 0) 51 [some (.ref 45), none, some (.int v2), some (.int v3), none, some (.int v5), some (.int v6), some (.int v7), some (.int v8), none, none, none, none] [] (sx_w S0 (sm_w S))) : ∀ (v2 : Int32) (v3 : Int32) (v6 : Int32) (v7 : Int32) (v8 : Int32) (v9 : Int32) (v10 : Int32) (v12 : Int32) (w0 : Int32) (S : sm_T) (res : Int32 × sm_T) (hres : fx_X12_tenant_152 k51 v2 v3 v6 v7 v8 v9 v10 v12 w0 S = some res), am_G mX12_tenant (none, 6, 0, 0, (some (.int res.1)), (sx_w S0 (sm_w res.2))) (0, 0) 152 [some (.ref 45), none, some (.int v2), some (.int v3), none, none, some (.int v6), some (.int v7), some (.int v8), some (.int v9), some (.int v10), none, some (.int v12)] [.int w0] (sx_w S0 (sm_w S)) := by
  intro v2 v3 v6 v7 v8 v9 v10 v12 w0 S res hres
  rw [fx_X12_tenant_152] at hres
  refine am_istore (pc' := 154) (ls' := [some (.ref 45), none, some (.int v2), some (.int v3), none, some (.int w0), some (.int v6), some (.int v7), some (.int v8), some (.int v9), some (.int v10), none, some (.int v12)]) dX12_tenant_152 (Nat.le_of_ble_eq_true rfl) rfl rfl rfl ?_
  refine am_iload (pc' := 156) dX12_tenant_154 rfl rfl ?_
  refine am_if_eq (pc' := 159) 164 dX12_tenant_156 rfl rfl (fun hc13 => ?_) (fun hc13 => ?_)
  · rw [if_pos hc13] at hres
    refine am_iload (pc' := 166) dX12_tenant_164 rfl rfl ?_
    refine am_istore (pc' := 168) (ls' := [some (.ref 45), none, some (.int v2), some (.int v3), none, some (.int w0), some (.int v6), some (.int v7), some (.int v8), some (.int v9), some (.int v10), none, some (.int v12)]) dX12_tenant_166 (Nat.le_of_ble_eq_true rfl) rfl rfl rfl ?_
    refine am_iload (pc' := 170) dX12_tenant_168 rfl rfl ?_
    refine am_if_eq (pc' := 173) 178 dX12_tenant_170 rfl rfl (fun hc14 => ?_) (fun hc14 => ?_)
    · rw [if_pos hc14] at hres
      refine am_iload (pc' := 180) dX12_tenant_178 rfl rfl ?_
      refine am_istore (pc' := 182) (ls' := [some (.ref 45), none, some (.int v2), some (.int v3), none, some (.int w0), some (.int v6), some (.int v7), some (.int v8), some (.int v9), some (.int v10), none, some (.int v12)]) dX12_tenant_180 (Nat.le_of_ble_eq_true rfl) rfl rfl rfl ?_
      refine am_iinc (pc' := 185) (ls' := [some (.ref 45), none, some (.int v2), some (.int v3), none, some (.int w0), some (.int v6), some (.int v7), some (.int (v8 + (1 : Int32))), some (.int v9), some (.int v10), none, some (.int v12)]) dX12_tenant_182 rfl (show v8 + Int32.ofInt 1 = (v8 + (1 : Int32)) from congrArg (fun z => v8 + z) kc_1) (Nat.le_of_ble_eq_true rfl) rfl rfl rfl ?_
      refine am_goto 51 dX12_tenant_185 rfl ?_
      refine am_weak (ls' := [some (.ref 45), none, some (.int v2), some (.int v3), none, some (.int w0), some (.int v6), some (.int v7), some (.int (v8 + (1 : Int32))), none, none, none, none]) [false, false, false, false, false, false, false, false, false, true, true, false, true] rfl ?_
      exact hk51 _ _ _ _ _ _ _ _ hres
    · rw [if_neg hc14] at hres
      refine am_iload (pc' := 175) dX12_tenant_173 rfl rfl ?_
      refine am_goto 180 dX12_tenant_175 rfl ?_
      refine am_istore (pc' := 182) (ls' := [some (.ref 45), none, some (.int v2), some (.int v3), none, some (.int w0), some (.int v6), some (.int v10), some (.int v8), some (.int v9), some (.int v10), none, some (.int v12)]) dX12_tenant_180 (Nat.le_of_ble_eq_true rfl) rfl rfl rfl ?_
      refine am_iinc (pc' := 185) (ls' := [some (.ref 45), none, some (.int v2), some (.int v3), none, some (.int w0), some (.int v6), some (.int v10), some (.int (v8 + (1 : Int32))), some (.int v9), some (.int v10), none, some (.int v12)]) dX12_tenant_182 rfl (show v8 + Int32.ofInt 1 = (v8 + (1 : Int32)) from congrArg (fun z => v8 + z) kc_1) (Nat.le_of_ble_eq_true rfl) rfl rfl rfl ?_
      refine am_goto 51 dX12_tenant_185 rfl ?_
      refine am_weak (ls' := [some (.ref 45), none, some (.int v2), some (.int v3), none, some (.int w0), some (.int v6), some (.int v10), some (.int (v8 + (1 : Int32))), none, none, none, none]) [false, false, false, false, false, false, false, false, false, true, true, false, true] rfl ?_
      exact hk51 _ _ _ _ _ _ _ _ hres
  · rw [if_neg hc13] at hres
    refine am_iload (pc' := 161) dX12_tenant_159 rfl rfl ?_
    refine am_goto 166 dX12_tenant_161 rfl ?_
    refine am_istore (pc' := 168) (ls' := [some (.ref 45), none, some (.int v2), some (.int v3), none, some (.int w0), some (.int v9), some (.int v7), some (.int v8), some (.int v9), some (.int v10), none, some (.int v12)]) dX12_tenant_166 (Nat.le_of_ble_eq_true rfl) rfl rfl rfl ?_
    refine am_iload (pc' := 170) dX12_tenant_168 rfl rfl ?_
    refine am_if_eq (pc' := 173) 178 dX12_tenant_170 rfl rfl (fun hc15 => ?_) (fun hc15 => ?_)
    · rw [if_pos hc15] at hres
      refine am_iload (pc' := 180) dX12_tenant_178 rfl rfl ?_
      refine am_istore (pc' := 182) (ls' := [some (.ref 45), none, some (.int v2), some (.int v3), none, some (.int w0), some (.int v9), some (.int v7), some (.int v8), some (.int v9), some (.int v10), none, some (.int v12)]) dX12_tenant_180 (Nat.le_of_ble_eq_true rfl) rfl rfl rfl ?_
      refine am_iinc (pc' := 185) (ls' := [some (.ref 45), none, some (.int v2), some (.int v3), none, some (.int w0), some (.int v9), some (.int v7), some (.int (v8 + (1 : Int32))), some (.int v9), some (.int v10), none, some (.int v12)]) dX12_tenant_182 rfl (show v8 + Int32.ofInt 1 = (v8 + (1 : Int32)) from congrArg (fun z => v8 + z) kc_1) (Nat.le_of_ble_eq_true rfl) rfl rfl rfl ?_
      refine am_goto 51 dX12_tenant_185 rfl ?_
      refine am_weak (ls' := [some (.ref 45), none, some (.int v2), some (.int v3), none, some (.int w0), some (.int v9), some (.int v7), some (.int (v8 + (1 : Int32))), none, none, none, none]) [false, false, false, false, false, false, false, false, false, true, true, false, true] rfl ?_
      exact hk51 _ _ _ _ _ _ _ _ hres
    · rw [if_neg hc15] at hres
      refine am_iload (pc' := 175) dX12_tenant_173 rfl rfl ?_
      refine am_goto 180 dX12_tenant_175 rfl ?_
      refine am_istore (pc' := 182) (ls' := [some (.ref 45), none, some (.int v2), some (.int v3), none, some (.int w0), some (.int v9), some (.int v10), some (.int v8), some (.int v9), some (.int v10), none, some (.int v12)]) dX12_tenant_180 (Nat.le_of_ble_eq_true rfl) rfl rfl rfl ?_
      refine am_iinc (pc' := 185) (ls' := [some (.ref 45), none, some (.int v2), some (.int v3), none, some (.int w0), some (.int v9), some (.int v10), some (.int (v8 + (1 : Int32))), some (.int v9), some (.int v10), none, some (.int v12)]) dX12_tenant_182 rfl (show v8 + Int32.ofInt 1 = (v8 + (1 : Int32)) from congrArg (fun z => v8 + z) kc_1) (Nat.le_of_ble_eq_true rfl) rfl rfl rfl ?_
      refine am_goto 51 dX12_tenant_185 rfl ?_
      refine am_weak (ls' := [some (.ref 45), none, some (.int v2), some (.int v3), none, some (.int w0), some (.int v9), some (.int v10), some (.int (v8 + (1 : Int32))), none, none, none, none]) [false, false, false, false, false, false, false, false, false, true, true, false, true] rfl ?_
      exact hk51 _ _ _ _ _ _ _ _ hres

set_option maxRecDepth 100000 in
set_option maxHeartbeats 4000000 in
theorem wx_X12_tenant_138 (S0 : sx_T) (k51 : Int32 → Int32 → Int32 → Int32 → Int32 → Int32 → sm_T → Option (Int32 × sm_T)) (hk51 : ∀ (v2 : Int32) (v3 : Int32) (v5 : Int32) (v6 : Int32) (v7 : Int32) (v8 : Int32) (S : sm_T) (res : Int32 × sm_T), k51 v2 v3 v5 v6 v7 v8 S = some res → am_G mX12_tenant (none, 6, 0, 0, (some (.int res.1)), (sx_w S0 (sm_w res.2))) (0, 0) 51 [some (.ref 45), none, some (.int v2), some (.int v3), none, some (.int v5), some (.int v6), some (.int v7), some (.int v8), none, none, none, none] [] (sx_w S0 (sm_w S))) : ∀ (v2 : Int32) (v3 : Int32) (v5 : Int32) (v6 : Int32) (v7 : Int32) (v8 : Int32) (v9 : Int32) (v10 : Int32) (w0 : Int32) (S : sm_T) (res : Int32 × sm_T) (hres : fx_X12_tenant_138 k51 v2 v3 v5 v6 v7 v8 v9 v10 w0 S = some res), am_G mX12_tenant (none, 6, 0, 0, (some (.int res.1)), (sx_w S0 (sm_w res.2))) (0, 0) 138 [some (.ref 45), none, some (.int v2), some (.int v3), none, some (.int v5), some (.int v6), some (.int v7), some (.int v8), some (.int v9), some (.int v10), none, none] [.int w0] (sx_w S0 (sm_w S)) := by
  intro v2 v3 v5 v6 v7 v8 v9 v10 w0 S res hres
  rw [fx_X12_tenant_138] at hres
  refine am_istore (pc' := 140) (ls' := [some (.ref 45), none, some (.int v2), some (.int v3), none, some (.int v5), some (.int v6), some (.int v7), some (.int v8), some (.int v9), some (.int v10), none, some (.int w0)]) dX12_tenant_138 (Nat.le_of_ble_eq_true rfl) rfl rfl rfl ?_
  refine am_iload (pc' := 142) dX12_tenant_140 rfl rfl ?_
  refine am_if_eq (pc' := 145) 150 dX12_tenant_142 rfl rfl (fun hc12 => ?_) (fun hc12 => ?_)
  · rw [if_pos hc12] at hres
    refine am_iload (pc' := 152) dX12_tenant_150 rfl rfl ?_
    refine am_weak (ls' := [some (.ref 45), none, some (.int v2), some (.int v3), none, none, some (.int v6), some (.int v7), some (.int v8), some (.int v9), some (.int v10), none, some (.int w0)]) [false, false, false, false, false, true, false, false, false, false, false, false, false] rfl ?_
    exact wx_X12_tenant_152 S0 _ hk51 _ _ _ _ _ _ _ _ _ _ _ hres
  · rw [if_neg hc12] at hres
    refine am_iload (pc' := 147) dX12_tenant_145 rfl rfl ?_
    refine am_goto 152 dX12_tenant_147 rfl ?_
    refine am_weak (ls' := [some (.ref 45), none, some (.int v2), some (.int v3), none, none, some (.int v6), some (.int v7), some (.int v8), some (.int v9), some (.int v10), none, some (.int w0)]) [false, false, false, false, false, true, false, false, false, false, false, false, false] rfl ?_
    exact wx_X12_tenant_152 S0 _ hk51 _ _ _ _ _ _ _ _ _ _ _ hres

set_option maxRecDepth 100000 in
set_option maxHeartbeats 4000000 in
theorem wx_X12_tenant_137 (S0 : sx_T) (k51 : Int32 → Int32 → Int32 → Int32 → Int32 → Int32 → sm_T → Option (Int32 × sm_T)) (hk51 : ∀ (v2 : Int32) (v3 : Int32) (v5 : Int32) (v6 : Int32) (v7 : Int32) (v8 : Int32) (S : sm_T) (res : Int32 × sm_T), k51 v2 v3 v5 v6 v7 v8 S = some res → am_G mX12_tenant (none, 6, 0, 0, (some (.int res.1)), (sx_w S0 (sm_w res.2))) (0, 0) 51 [some (.ref 45), none, some (.int v2), some (.int v3), none, some (.int v5), some (.int v6), some (.int v7), some (.int v8), none, none, none, none] [] (sx_w S0 (sm_w S))) : ∀ (v2 : Int32) (v3 : Int32) (v5 : Int32) (v6 : Int32) (v7 : Int32) (v8 : Int32) (v9 : Int32) (v10 : Int32) (S : sm_T) (res : Int32 × sm_T) (hres : fx_X12_tenant_137 k51 v2 v3 v5 v6 v7 v8 v9 v10 S = some res), am_G mX12_tenant (none, 6, 0, 0, (some (.int res.1)), (sx_w S0 (sm_w res.2))) (0, 0) 137 [some (.ref 45), none, some (.int v2), some (.int v3), none, some (.int v5), some (.int v6), some (.int v7), some (.int v8), some (.int v9), some (.int v10), none, none] [] (sx_w S0 (sm_w S)) := by
  intro v2 v3 v5 v6 v7 v8 v9 v10 S res hres
  rw [fx_X12_tenant_137] at hres
  refine am_iconst (pc' := 138) (v := 0) dX12_tenant_137 kc_0 rfl ?_
  exact wx_X12_tenant_138 S0 _ hk51 _ _ _ _ _ _ _ _ _ _ _ hres

set_option maxRecDepth 100000 in
set_option maxHeartbeats 4000000 in
theorem wx_X12_tenant_133 (S0 : sx_T) (k51 : Int32 → Int32 → Int32 → Int32 → Int32 → Int32 → sm_T → Option (Int32 × sm_T)) (hk51 : ∀ (v2 : Int32) (v3 : Int32) (v5 : Int32) (v6 : Int32) (v7 : Int32) (v8 : Int32) (S : sm_T) (res : Int32 × sm_T), k51 v2 v3 v5 v6 v7 v8 S = some res → am_G mX12_tenant (none, 6, 0, 0, (some (.int res.1)), (sx_w S0 (sm_w res.2))) (0, 0) 51 [some (.ref 45), none, some (.int v2), some (.int v3), none, some (.int v5), some (.int v6), some (.int v7), some (.int v8), none, none, none, none] [] (sx_w S0 (sm_w S))) : ∀ (v2 : Int32) (v3 : Int32) (v5 : Int32) (v6 : Int32) (v7 : Int32) (v8 : Int32) (v9 : Int32) (v10 : Int32) (S : sm_T) (res : Int32 × sm_T) (hres : fx_X12_tenant_133 k51 v2 v3 v5 v6 v7 v8 v9 v10 S = some res), am_G mX12_tenant (none, 6, 0, 0, (some (.int res.1)), (sx_w S0 (sm_w res.2))) (0, 0) 133 [some (.ref 45), none, some (.int v2), some (.int v3), none, some (.int v5), some (.int v6), some (.int v7), some (.int v8), some (.int v9), some (.int v10), none, none] [] (sx_w S0 (sm_w S)) := by
  intro v2 v3 v5 v6 v7 v8 v9 v10 S res hres
  rw [fx_X12_tenant_133] at hres
  refine am_iconst (pc' := 134) (v := 1) dX12_tenant_133 kc_1 rfl ?_
  refine am_goto 138 dX12_tenant_134 rfl ?_
  exact wx_X12_tenant_138 S0 _ hk51 _ _ _ _ _ _ _ _ _ _ _ hres

set_option maxRecDepth 100000 in
set_option maxHeartbeats 4000000 in
theorem wx_X12_tenant_99 (S0 : sx_T) (k51 : Int32 → Int32 → Int32 → Int32 → Int32 → Int32 → sm_T → Option (Int32 × sm_T)) (hk51 : ∀ (v2 : Int32) (v3 : Int32) (v5 : Int32) (v6 : Int32) (v7 : Int32) (v8 : Int32) (S : sm_T) (res : Int32 × sm_T), k51 v2 v3 v5 v6 v7 v8 S = some res → am_G mX12_tenant (none, 6, 0, 0, (some (.int res.1)), (sx_w S0 (sm_w res.2))) (0, 0) 51 [some (.ref 45), none, some (.int v2), some (.int v3), none, some (.int v5), some (.int v6), some (.int v7), some (.int v8), none, none, none, none] [] (sx_w S0 (sm_w S))) : ∀ (v2 : Int32) (v3 : Int32) (v5 : Int32) (v6 : Int32) (v7 : Int32) (v8 : Int32) (v9 : Int32) (v10 : Int32) (w0 : Int32) (S : sm_T) (res : Int32 × sm_T) (hres : fx_X12_tenant_99 k51 v2 v3 v5 v6 v7 v8 v9 v10 w0 S = some res), am_G mX12_tenant (none, 6, 0, 0, (some (.int res.1)), (sx_w S0 (sm_w res.2))) (0, 0) 99 [some (.ref 45), none, some (.int v2), some (.int v3), none, some (.int v5), some (.int v6), some (.int v7), some (.int v8), some (.int v9), some (.int v10), none, none] [.int w0] (sx_w S0 (sm_w S)) := by
  intro v2 v3 v5 v6 v7 v8 v9 v10 w0 S res hres
  rw [fx_X12_tenant_99] at hres
  refine am_istore (pc' := 101) (ls' := [some (.ref 45), none, some (.int v2), some (.int v3), none, some (.int v5), some (.int v6), some (.int v7), some (.int v8), some (.int v9), some (.int v10), some (.int w0), none]) dX12_tenant_99 (Nat.le_of_ble_eq_true rfl) rfl rfl rfl ?_
  refine am_iload (pc' := 103) dX12_tenant_101 rfl rfl ?_
  refine am_if_eq (pc' := 106) 137 dX12_tenant_103 rfl rfl (fun hc11 => ?_) (fun hc11 => ?_)
  · rw [if_pos hc11] at hres
    refine am_weak (ls' := [some (.ref 45), none, some (.int v2), some (.int v3), none, some (.int v5), some (.int v6), some (.int v7), some (.int v8), some (.int v9), some (.int v10), none, none]) [false, false, false, false, false, false, false, false, false, false, false, true, false] rfl ?_
    exact wx_X12_tenant_137 S0 _ hk51 _ _ _ _ _ _ _ _ _ _ hres
  · rw [if_neg hc11] at hres
    refine am_iload (pc' := 108) dX12_tenant_106 rfl rfl ?_
    refine am_iconst (pc' := 109) (v := (-1)) dX12_tenant_108 kc_m1 rfl ?_
    refine am_icmp_eq (pc' := 112) 133 dX12_tenant_109 rfl rfl (fun hc16 => ?_) (fun hc16 => ?_)
    · rw [if_pos hc16] at hres
      refine am_weak (ls' := [some (.ref 45), none, some (.int v2), some (.int v3), none, some (.int v5), some (.int v6), some (.int v7), some (.int v8), some (.int v9), some (.int v10), none, none]) [false, false, false, false, false, false, false, false, false, false, false, true, false] rfl ?_
      exact wx_X12_tenant_133 S0 _ hk51 _ _ _ _ _ _ _ _ _ _ hres
    · rw [if_neg hc16] at hres
      refine am_iload (pc' := 114) dX12_tenant_112 rfl rfl ?_
      refine am_iload (pc' := 116) dX12_tenant_114 rfl rfl ?_
      refine am_icmp_gt (pc' := 119) 133 dX12_tenant_116 rfl rfl (fun hc17 => ?_) (fun hc17 => ?_)
      · rw [if_pos hc17] at hres
        refine am_weak (ls' := [some (.ref 45), none, some (.int v2), some (.int v3), none, some (.int v5), some (.int v6), some (.int v7), some (.int v8), some (.int v9), some (.int v10), none, none]) [false, false, false, false, false, false, false, false, false, false, false, true, false] rfl ?_
        exact wx_X12_tenant_133 S0 _ hk51 _ _ _ _ _ _ _ _ _ _ hres
      · rw [if_neg hc17] at hres
        refine am_iload (pc' := 121) dX12_tenant_119 rfl rfl ?_
        refine am_iload (pc' := 123) dX12_tenant_121 rfl rfl ?_
        refine am_icmp_ne (pc' := 126) 137 dX12_tenant_123 rfl rfl (fun hc18 => ?_) (fun hc18 => ?_)
        · rw [if_neg hc18] at hres
          refine am_weak (ls' := [some (.ref 45), none, some (.int v2), some (.int v3), none, some (.int v5), some (.int v6), some (.int v7), some (.int v8), some (.int v9), some (.int v10), none, none]) [false, false, false, false, false, false, false, false, false, false, false, true, false] rfl ?_
          exact wx_X12_tenant_137 S0 _ hk51 _ _ _ _ _ _ _ _ _ _ hres
        · rw [if_pos hc18] at hres
          refine am_iload (pc' := 128) dX12_tenant_126 rfl rfl ?_
          refine am_iload (pc' := 130) dX12_tenant_128 rfl rfl ?_
          refine am_icmp_le (pc' := 133) 137 dX12_tenant_130 rfl rfl (fun hc19 => ?_) (fun hc19 => ?_)
          · rw [if_pos hc19] at hres
            refine am_weak (ls' := [some (.ref 45), none, some (.int v2), some (.int v3), none, some (.int v5), some (.int v6), some (.int v7), some (.int v8), some (.int v9), some (.int v10), none, none]) [false, false, false, false, false, false, false, false, false, false, false, true, false] rfl ?_
            exact wx_X12_tenant_137 S0 _ hk51 _ _ _ _ _ _ _ _ _ _ hres
          · rw [if_neg hc19] at hres
            refine am_weak (ls' := [some (.ref 45), none, some (.int v2), some (.int v3), none, some (.int v5), some (.int v6), some (.int v7), some (.int v8), some (.int v9), some (.int v10), none, none]) [false, false, false, false, false, false, false, false, false, false, false, true, false] rfl ?_
            exact wx_X12_tenant_133 S0 _ hk51 _ _ _ _ _ _ _ _ _ _ hres

set_option maxRecDepth 100000 in
set_option maxHeartbeats 4000000 in
theorem wx_X12_tenant_98 (S0 : sx_T) (k51 : Int32 → Int32 → Int32 → Int32 → Int32 → Int32 → sm_T → Option (Int32 × sm_T)) (hk51 : ∀ (v2 : Int32) (v3 : Int32) (v5 : Int32) (v6 : Int32) (v7 : Int32) (v8 : Int32) (S : sm_T) (res : Int32 × sm_T), k51 v2 v3 v5 v6 v7 v8 S = some res → am_G mX12_tenant (none, 6, 0, 0, (some (.int res.1)), (sx_w S0 (sm_w res.2))) (0, 0) 51 [some (.ref 45), none, some (.int v2), some (.int v3), none, some (.int v5), some (.int v6), some (.int v7), some (.int v8), none, none, none, none] [] (sx_w S0 (sm_w S))) : ∀ (v2 : Int32) (v3 : Int32) (v5 : Int32) (v6 : Int32) (v7 : Int32) (v8 : Int32) (v9 : Int32) (v10 : Int32) (S : sm_T) (res : Int32 × sm_T) (hres : fx_X12_tenant_98 k51 v2 v3 v5 v6 v7 v8 v9 v10 S = some res), am_G mX12_tenant (none, 6, 0, 0, (some (.int res.1)), (sx_w S0 (sm_w res.2))) (0, 0) 98 [some (.ref 45), none, some (.int v2), some (.int v3), none, some (.int v5), some (.int v6), some (.int v7), some (.int v8), some (.int v9), some (.int v10), none, none] [] (sx_w S0 (sm_w S)) := by
  intro v2 v3 v5 v6 v7 v8 v9 v10 S res hres
  rw [fx_X12_tenant_98] at hres
  refine am_iconst (pc' := 99) (v := 0) dX12_tenant_98 kc_0 rfl ?_
  exact wx_X12_tenant_99 S0 _ hk51 _ _ _ _ _ _ _ _ _ _ _ hres

set_option maxRecDepth 100000 in
set_option maxHeartbeats 4000000 in
theorem wx_X12_tenant_51 (S0 : sx_T) : ∀ (n : Nat) (v2 : Int32) (v3 : Int32) (v5 : Int32) (v6 : Int32) (v7 : Int32) (v8 : Int32) (S : sm_T) (res : Int32 × sm_T) (hres : fx_X12_tenant_51 n v2 v3 v5 v6 v7 v8 S = some res), am_G mX12_tenant (none, 6, 0, 0, (some (.int res.1)), (sx_w S0 (sm_w res.2))) (0, 0) 51 [some (.ref 45), none, some (.int v2), some (.int v3), none, some (.int v5), some (.int v6), some (.int v7), some (.int v8), none, none, none, none] [] (sx_w S0 (sm_w S)) := by
  intro n
  induction n with
  | zero =>
    intro v2 v3 v5 v6 v7 v8 S res hres
    cases hres
  | succ n ih =>
    intro v2 v3 v5 v6 v7 v8 S res hres
    rw [fx_X12_tenant_51] at hres
    refine am_iload (pc' := 53) dX12_tenant_51 rfl rfl ?_
    refine am_aload_n (pc' := 54) 0 dX12_tenant_53 rfl rfl rfl ?_
    refine am_get (pc' := 57) (v := .int (sm_viewers S)) dX12_tenant_54 fl_X12_87 (sm_c45 S0 S) rfl rfl ?_
    refine am_icmp_ge (pc' := 60) 188 dX12_tenant_57 rfl rfl (fun hc6 => ?_) (fun hc6 => ?_)
    · rw [if_pos hc6] at hres
      refine am_iload (pc' := 190) dX12_tenant_188 rfl rfl ?_
      obtain rfl := Option.some.inj hres
      exact am_iret dX12_tenant_190 rfl rfl rfl
    · rw [if_neg hc6] at hres
      refine am_aload_n (pc' := 61) 0 dX12_tenant_60 rfl rfl rfl ?_
      refine am_iload (pc' := 63) dX12_tenant_61 rfl rfl ?_
      refine am_iconst (pc' := 64) (v := 1) dX12_tenant_63 kc_1 rfl ?_
      obtain ⟨q7, hq8, hres⟩ := am_bd_s hres
      refine am_cV (pc' := 67) (st' := [.int q7.1]) [] [.int v8, .int (1 : Int32)] dX12_tenant_64 cs_X12_202 (tx_X12_offerOf S0 v8 (1 : Int32) S _ hq8) rfl rfl rfl (sm_c45 S0 S) rfl rfl rfl rfl rfl ?_
      refine am_istore (pc' := 69) (ls' := [some (.ref 45), none, some (.int v2), some (.int v3), none, some (.int v5), some (.int v6), some (.int v7), some (.int v8), some (.int q7.1), none, none, none]) dX12_tenant_67 (Nat.le_of_ble_eq_true rfl) rfl rfl rfl ?_
      refine am_aload_n (pc' := 70) 0 dX12_tenant_69 rfl rfl rfl ?_
      refine am_get (pc' := 73) (v := .ref 48) dX12_tenant_70 fl_X12_16 (sm_c45 S0 q7.2) rfl rfl ?_
      refine am_iconst (pc' := 74) (v := 2) dX12_tenant_73 kc_2 rfl ?_
      refine am_iload (pc' := 76) dX12_tenant_74 rfl rfl ?_
      refine am_imul (pc' := 77) dX12_tenant_76 rfl ?_
      refine am_iconst (pc' := 78) (v := 1) dX12_tenant_77 kc_1 rfl ?_
      refine am_iadd (pc' := 79) dX12_tenant_78 rfl ?_
      obtain ⟨hr9, hres⟩ := am_rg hres
      refine am_iald (pc' := 80) (f := (sm_ones q7.2)) dX12_tenant_79 (sm_c48 S0 q7.2) hr9 rfl ?_
      refine am_istore (pc' := 82) (ls' := [some (.ref 45), none, some (.int v2), some (.int v3), none, some (.int v5), some (.int v6), some (.int v7), some (.int v8), some (.int q7.1), some (.int ((sm_ones q7.2) (((2 : Int32) * v8) + (1 : Int32)).toNatClampNeg)), none, none]) dX12_tenant_80 (Nat.le_of_ble_eq_true rfl) rfl rfl rfl ?_
      refine am_iload (pc' := 84) dX12_tenant_82 rfl rfl ?_
      refine am_iload_n (pc' := 85) 2 dX12_tenant_84 rfl rfl rfl ?_
      refine am_icmp_lt (pc' := 88) 98 dX12_tenant_85 rfl rfl (fun hc10 => ?_) (fun hc10 => ?_)
      · rw [if_pos hc10] at hres
        exact wx_X12_tenant_98 S0 _ (fun a0 a1 a2 a3 a4 a5 a6 => ih a0 a1 a2 a3 a4 a5 a6) _ _ _ _ _ _ _ _ _ _ hres
      · rw [if_neg hc10] at hres
        refine am_iload (pc' := 90) dX12_tenant_88 rfl rfl ?_
        refine am_iload_n (pc' := 91) 3 dX12_tenant_90 rfl rfl rfl ?_
        refine am_icmp_lt (pc' := 94) 98 dX12_tenant_91 rfl rfl (fun hc20 => ?_) (fun hc20 => ?_)
        · rw [if_pos hc20] at hres
          exact wx_X12_tenant_98 S0 _ (fun a0 a1 a2 a3 a4 a5 a6 => ih a0 a1 a2 a3 a4 a5 a6) _ _ _ _ _ _ _ _ _ _ hres
        · rw [if_neg hc20] at hres
          refine am_iconst (pc' := 95) (v := 1) dX12_tenant_94 kc_1 rfl ?_
          refine am_goto 99 dX12_tenant_95 rfl ?_
          exact wx_X12_tenant_99 S0 _ (fun a0 a1 a2 a3 a4 a5 a6 => ih a0 a1 a2 a3 a4 a5 a6) _ _ _ _ _ _ _ _ _ _ _ hres

set_option maxRecDepth 100000 in
set_option maxHeartbeats 4000000 in
theorem tx_X12_tenant (S0 : sx_T) (a1 : Int32) (a2 : Int32) (a3 : Int32) (S : sm_T) (res : Int32 × sm_T) (hres : fx_X12_tenant a1 a2 a3 S = some res) : am_T mX12_tenant 6 0 0 [.ref 45, .int a1, .int a2, .int a3] (sx_w S0 (sm_w S)) (some (.int res.1)) (sx_w S0 (sm_w res.2)) := by
  refine am_meth (ls := [some (.ref 45), some (.int a1), some (.int a2), some (.int a3), none, none, none, none, none, none, none, none, none]) (by decide +kernel) rfl (Nat.le_of_ble_eq_true rfl) (sm_len _ _ _ _) ?_
  rw [fx_X12_tenant] at hres
  refine am_aload_n (pc' := 1) 0 dX12_tenant_0 rfl rfl rfl ?_
  refine am_iload_n (pc' := 2) 1 dX12_tenant_1 rfl rfl rfl ?_
  obtain ⟨q1, hq2, hres⟩ := am_bd_s hres
  refine am_cV (pc' := 5) (st' := [.int q1.1]) [] [.int a1] dX12_tenant_2 cs_X12_197 (tx_X12_reads S0 a1 S _ hq2) rfl rfl rfl (sm_c45 S0 S) rfl rfl rfl rfl rfl ?_
  refine am_istore (pc' := 7) (ls' := [some (.ref 45), some (.int a1), some (.int a2), some (.int a3), some (.int q1.1), none, none, none, none, none, none, none, none]) dX12_tenant_5 (Nat.le_of_ble_eq_true rfl) rfl rfl rfl ?_
  refine am_iload (pc' := 9) dX12_tenant_7 rfl rfl ?_
  refine am_if_eq (pc' := 12) 15 dX12_tenant_9 rfl rfl (fun hc3 => ?_) (fun hc3 => ?_)
  · rw [if_pos hc3] at hres
    refine am_iload_n (pc' := 16) 2 dX12_tenant_15 rfl rfl rfl ?_
    refine am_iconst (pc' := 17) (v := 0) dX12_tenant_16 kc_0 rfl ?_
    refine am_bipush (pc' := 19) (v := 99) dX12_tenant_17 kb_99 rfl ?_
    refine am_cS (pc' := 22) (st' := [.int (fx_X12_in a2 (0 : Int32) (99 : Int32))]) [] [.int a2, .int (0 : Int32), .int (99 : Int32)] dX12_tenant_19 cs_X12_90 (tx_X12_in (sx_w S0 (sm_w q1.2)) a2 (0 : Int32) (99 : Int32) _ rfl) rfl rfl rfl rfl rfl rfl ?_
    refine am_if_eq (pc' := 25) 36 dX12_tenant_22 rfl rfl (fun hc4 => ?_) (fun hc4 => ?_)
    · rw [if_pos hc4] at hres
      refine am_bipush (pc' := 38) (v := (-7)) dX12_tenant_36 kb_m7 rfl ?_
      obtain rfl := Option.some.inj hres
      exact am_iret dX12_tenant_38 rfl rfl rfl
    · rw [if_neg hc4] at hres
      refine am_iload_n (pc' := 26) 3 dX12_tenant_25 rfl rfl rfl ?_
      refine am_iconst (pc' := 27) (v := 0) dX12_tenant_26 kc_0 rfl ?_
      refine am_sipush (pc' := 30) (v := 9999) dX12_tenant_27 ks_9999 rfl ?_
      refine am_cS (pc' := 33) (st' := [.int (fx_X12_in a3 (0 : Int32) (9999 : Int32))]) [] [.int a3, .int (0 : Int32), .int (9999 : Int32)] dX12_tenant_30 cs_X12_90 (tx_X12_in (sx_w S0 (sm_w q1.2)) a3 (0 : Int32) (9999 : Int32) _ rfl) rfl rfl rfl rfl rfl rfl ?_
      refine am_if_ne (pc' := 36) 39 dX12_tenant_33 rfl rfl (fun hc5 => ?_) (fun hc5 => ?_)
      · rw [if_neg hc5] at hres
        refine am_iconst (pc' := 40) (v := (-1)) dX12_tenant_39 kc_m1 rfl ?_
        refine am_istore (pc' := 42) (ls' := [some (.ref 45), some (.int a1), some (.int a2), some (.int a3), some (.int q1.1), some (.int (-1 : Int32)), none, none, none, none, none, none, none]) dX12_tenant_40 (Nat.le_of_ble_eq_true rfl) rfl rfl rfl ?_
        refine am_iconst (pc' := 43) (v := 0) dX12_tenant_42 kc_0 rfl ?_
        refine am_istore (pc' := 45) (ls' := [some (.ref 45), some (.int a1), some (.int a2), some (.int a3), some (.int q1.1), some (.int (-1 : Int32)), some (.int (0 : Int32)), none, none, none, none, none, none]) dX12_tenant_43 (Nat.le_of_ble_eq_true rfl) rfl rfl rfl ?_
        refine am_iconst (pc' := 46) (v := 0) dX12_tenant_45 kc_0 rfl ?_
        refine am_istore (pc' := 48) (ls' := [some (.ref 45), some (.int a1), some (.int a2), some (.int a3), some (.int q1.1), some (.int (-1 : Int32)), some (.int (0 : Int32)), some (.int (0 : Int32)), none, none, none, none, none]) dX12_tenant_46 (Nat.le_of_ble_eq_true rfl) rfl rfl rfl ?_
        refine am_iconst (pc' := 49) (v := 0) dX12_tenant_48 kc_0 rfl ?_
        refine am_istore (pc' := 51) (ls' := [some (.ref 45), some (.int a1), some (.int a2), some (.int a3), some (.int q1.1), some (.int (-1 : Int32)), some (.int (0 : Int32)), some (.int (0 : Int32)), some (.int (0 : Int32)), none, none, none, none]) dX12_tenant_49 (Nat.le_of_ble_eq_true rfl) rfl rfl rfl ?_
        refine am_weak (ls' := [some (.ref 45), none, some (.int a2), some (.int a3), none, some (.int (-1 : Int32)), some (.int (0 : Int32)), some (.int (0 : Int32)), some (.int (0 : Int32)), none, none, none, none]) [false, true, false, false, true, false, false, false, false, false, false, false, false] rfl ?_
        exact wx_X12_tenant_51 S0 am_fu _ _ _ _ _ _ _ _ hres
      · rw [if_pos hc5] at hres
        refine am_bipush (pc' := 38) (v := (-7)) dX12_tenant_36 kb_m7 rfl ?_
        obtain rfl := Option.some.inj hres
        exact am_iret dX12_tenant_38 rfl rfl rfl
  · rw [if_neg hc3] at hres
    refine am_iload (pc' := 14) dX12_tenant_12 rfl rfl ?_
    obtain rfl := Option.some.inj hres
    exact am_iret dX12_tenant_14 rfl rfl rfl
set_option maxRecDepth 100000 in
set_option maxHeartbeats 4000000 in
theorem wx_X12_text_122 (S0 : sx_T) : ∀ (v1 : Int32) (S : sm_T) (res : Int32 × sm_T) (hres : fx_X12_text_122 v1 S = some res), am_G mX12_text (none, 4, 0, 0, (some (.int res.1)), (sx_w S0 (sm_w res.2))) (0, 0) 122 [some (.ref 45), some (.int v1), none] [] (sx_w S0 (sm_w S)) := by
  intro v1 S res hres
  rw [fx_X12_text_122] at hres
  refine am_aload_n (pc' := 123) 0 dX12_text_122 rfl rfl rfl ?_
  refine am_get (pc' := 126) (v := .ref 52) dX12_text_123 fl_X12_32 (sm_c45 S0 S) rfl rfl ?_
  refine am_iconst (pc' := 127) (v := 4) dX12_text_126 kc_4 rfl ?_
  refine am_aload_n (pc' := 128) 0 dX12_text_127 rfl rfl rfl ?_
  refine am_get (pc' := 131) (v := .int (sm_texts S)) dX12_text_128 fl_X12_94 (sm_c45 S0 S) rfl rfl ?_
  refine am_imul (pc' := 132) dX12_text_131 rfl ?_
  refine am_iconst (pc' := 133) (v := 3) dX12_text_132 kc_3 rfl ?_
  refine am_iadd (pc' := 134) dX12_text_133 rfl ?_
  refine am_aload_n (pc' := 135) 0 dX12_text_134 rfl rfl rfl ?_
  refine am_get (pc' := 138) (v := .int (sm_out S)) dX12_text_135 fl_X12_123 (sm_c45 S0 S) rfl rfl ?_
  obtain ⟨hr4, hres⟩ := am_rg hres
  refine am_iast (pc' := 139) (f := (sm_starts S)) (ws' := (sx_w S0 (sm_w (um_starts S (upd (sm_starts S) (((4 : Int32) * (sm_texts S)) + (3 : Int32)).toNatClampNeg (sm_out S)))))) dX12_text_138 (sm_c52 S0 S) hr4 (sm_p_starts S0 S _) rfl ?_
  refine am_aload_n (pc' := 140) 0 dX12_text_139 rfl rfl rfl ?_
  refine am_iconst (pc' := 141) (v := 0) dX12_text_140 kc_0 rfl ?_
  refine am_put (pc' := 144) (ws' := (sx_w S0 (sm_w (um_taped (um_starts S (upd (sm_starts S) (((4 : Int32) * (sm_texts S)) + (3 : Int32)).toNatClampNeg (sm_out S))) (0 : Int32))))) (v := .int (0 : Int32)) dX12_text_141 fp_X12_80 (sm_c45 S0 (um_starts S (upd (sm_starts S) (((4 : Int32) * (sm_texts S)) + (3 : Int32)).toNatClampNeg (sm_out S)))) (fun _ => ⟨rfl, rfl⟩) (Nat.le_of_ble_eq_true rfl) (sm_p_taped S0 (um_starts S (upd (sm_starts S) (((4 : Int32) * (sm_texts S)) + (3 : Int32)).toNatClampNeg (sm_out S))) _) rfl ?_
  refine am_iload_n (pc' := 145) 1 dX12_text_144 rfl rfl rfl ?_
  refine am_if_ne (pc' := 148) 156 dX12_text_145 rfl rfl (fun hc5 => ?_) (fun hc5 => ?_)
  · rw [if_neg hc5] at hres
    refine am_aload_n (pc' := 157) 0 dX12_text_156 rfl rfl rfl ?_
    refine am_dupa (pc' := 158) dX12_text_157 rfl ?_
    refine am_get (pc' := 161) (v := .int (sm_texts S)) dX12_text_158 fl_X12_94 (sm_c45 S0 (um_taped (um_starts S (upd (sm_starts S) (((4 : Int32) * (sm_texts S)) + (3 : Int32)).toNatClampNeg (sm_out S))) (0 : Int32))) rfl rfl ?_
    refine am_iconst (pc' := 162) (v := 1) dX12_text_161 kc_1 rfl ?_
    refine am_iadd (pc' := 163) dX12_text_162 rfl ?_
    refine am_put (pc' := 166) (ws' := (sx_w S0 (sm_w (um_texts (um_taped (um_starts S (upd (sm_starts S) (((4 : Int32) * (sm_texts S)) + (3 : Int32)).toNatClampNeg (sm_out S))) (0 : Int32)) ((sm_texts S) + (1 : Int32)))))) (v := .int ((sm_texts S) + (1 : Int32))) dX12_text_163 fp_X12_94 (sm_c45 S0 (um_taped (um_starts S (upd (sm_starts S) (((4 : Int32) * (sm_texts S)) + (3 : Int32)).toNatClampNeg (sm_out S))) (0 : Int32))) (fun _ => ⟨rfl, rfl⟩) (Nat.le_of_ble_eq_true rfl) (sm_p_texts S0 (um_taped (um_starts S (upd (sm_starts S) (((4 : Int32) * (sm_texts S)) + (3 : Int32)).toNatClampNeg (sm_out S))) (0 : Int32)) _) rfl ?_
    refine am_aload_n (pc' := 167) 0 dX12_text_166 rfl rfl rfl ?_
    refine am_get (pc' := 170) (v := .int ((sm_texts S) + (1 : Int32))) dX12_text_167 fl_X12_94 (sm_c45 S0 (um_texts (um_taped (um_starts S (upd (sm_starts S) (((4 : Int32) * (sm_texts S)) + (3 : Int32)).toNatClampNeg (sm_out S))) (0 : Int32)) ((sm_texts S) + (1 : Int32)))) rfl rfl ?_
    refine am_iconst (pc' := 171) (v := 1) dX12_text_170 kc_1 rfl ?_
    refine am_isub (pc' := 172) dX12_text_171 rfl ?_
    obtain rfl := Option.some.inj hres
    exact am_iret dX12_text_172 rfl rfl rfl
  · rw [if_pos hc5] at hres
    refine am_bipush (pc' := 150) (v := (-100)) dX12_text_148 kb_m100 rfl ?_
    refine am_aload_n (pc' := 151) 0 dX12_text_150 rfl rfl rfl ?_
    refine am_get (pc' := 154) (v := .int (sm_begun S)) dX12_text_151 fl_X12_110 (sm_c45 S0 (um_taped (um_starts S (upd (sm_starts S) (((4 : Int32) * (sm_texts S)) + (3 : Int32)).toNatClampNeg (sm_out S))) (0 : Int32))) rfl rfl ?_
    refine am_isub (pc' := 155) dX12_text_154 rfl ?_
    obtain rfl := Option.some.inj hres
    exact am_iret dX12_text_155 rfl rfl rfl

set_option maxRecDepth 100000 in
set_option maxHeartbeats 4000000 in
theorem wx_X12_text_121 (S0 : sx_T) : ∀ (w0 : Int32) (S : sm_T) (res : Int32 × sm_T) (hres : fx_X12_text_121 w0 S = some res), am_G mX12_text (none, 4, 0, 0, (some (.int res.1)), (sx_w S0 (sm_w res.2))) (0, 0) 121 [some (.ref 45), none, none] [.int w0] (sx_w S0 (sm_w S)) := by
  intro w0 S res hres
  rw [fx_X12_text_121] at hres
  refine am_istore_n (pc' := 122) (ls' := [some (.ref 45), some (.int w0), none]) 1 dX12_text_121 rfl (Nat.le_of_ble_eq_true rfl) rfl rfl rfl ?_
  exact wx_X12_text_122 S0 _ _ _ hres

set_option maxRecDepth 100000 in
set_option maxHeartbeats 4000000 in
theorem wx_X12_text_101 (S0 : sx_T) : ∀ (v1 : Int32) (S : sm_T) (res : Int32 × sm_T) (hres : fx_X12_text_101 v1 S = some res), am_G mX12_text (none, 4, 0, 0, (some (.int res.1)), (sx_w S0 (sm_w res.2))) (0, 0) 101 [some (.ref 45), some (.int v1), none] [] (sx_w S0 (sm_w S)) := by
  intro v1 S res hres
  rw [fx_X12_text_101] at hres
  refine am_iload_n (pc' := 102) 1 dX12_text_101 rfl rfl rfl ?_
  refine am_if_eq (pc' := 105) 122 dX12_text_102 rfl rfl (fun hc3 => ?_) (fun hc3 => ?_)
  · rw [if_pos hc3] at hres
    exact wx_X12_text_122 S0 _ _ _ hres
  · rw [if_neg hc3] at hres
    refine am_aload_n (pc' := 106) 0 dX12_text_105 rfl rfl rfl ?_
    obtain ⟨q6, hq7, hres⟩ := am_bd_s hres
    refine am_cV (pc' := 109) (st' := []) [] [] dX12_text_106 cs_X12_146 (tx_X12_next S0 S _ hq7) rfl rfl rfl (sm_c45 S0 S) rfl rfl rfl rfl rfl ?_
    refine am_aload_n (pc' := 110) 0 dX12_text_109 rfl rfl rfl ?_
    refine am_get (pc' := 113) (v := .int (sm_token q6)) dX12_text_110 fl_X12_113 (sm_c45 S0 q6) rfl rfl ?_
    refine am_if_ne (pc' := 116) 120 dX12_text_113 rfl rfl (fun hc8 => ?_) (fun hc8 => ?_)
    · rw [if_neg hc8] at hres
      refine am_iconst (pc' := 121) (v := 0) dX12_text_120 kc_0 rfl ?_
      refine am_weak (ls' := [some (.ref 45), none, none]) [false, true, false] rfl ?_
      exact wx_X12_text_121 S0 _ _ _ hres
    · rw [if_pos hc8] at hres
      refine am_iconst (pc' := 117) (v := 1) dX12_text_116 kc_1 rfl ?_
      refine am_goto 121 dX12_text_117 rfl ?_
      refine am_weak (ls' := [some (.ref 45), none, none]) [false, true, false] rfl ?_
      exact wx_X12_text_121 S0 _ _ _ hres

set_option maxRecDepth 100000 in
set_option maxHeartbeats 4000000 in
theorem wx_X12_text_60 (S0 : sx_T) (k26 : Int32 → Int32 → sm_T → Option (Int32 × sm_T)) (hk26 : ∀ (v1 : Int32) (v2 : Int32) (S : sm_T) (res : Int32 × sm_T), k26 v1 v2 S = some res → am_G mX12_text (none, 4, 0, 0, (some (.int res.1)), (sx_w S0 (sm_w res.2))) (0, 0) 26 [some (.ref 45), some (.int v1), some (.int v2)] [] (sx_w S0 (sm_w S))) : ∀ (v2 : Int32) (w0 : Int32) (S : sm_T) (res : Int32 × sm_T) (hres : fx_X12_text_60 k26 v2 w0 S = some res), am_G mX12_text (none, 4, 0, 0, (some (.int res.1)), (sx_w S0 (sm_w res.2))) (0, 0) 60 [some (.ref 45), none, some (.int v2)] [.int w0] (sx_w S0 (sm_w S)) := by
  intro v2 w0 S res hres
  rw [fx_X12_text_60] at hres
  refine am_istore_n (pc' := 61) (ls' := [some (.ref 45), some (.int w0), some (.int v2)]) 1 dX12_text_60 rfl (Nat.le_of_ble_eq_true rfl) rfl rfl rfl ?_
  refine am_aload_n (pc' := 62) 0 dX12_text_61 rfl rfl rfl ?_
  refine am_get (pc' := 65) (v := .ref 52) dX12_text_62 fl_X12_32 (sm_c45 S0 S) rfl rfl ?_
  refine am_iconst (pc' := 66) (v := 4) dX12_text_65 kc_4 rfl ?_
  refine am_aload_n (pc' := 67) 0 dX12_text_66 rfl rfl rfl ?_
  refine am_get (pc' := 70) (v := .int (sm_texts S)) dX12_text_67 fl_X12_94 (sm_c45 S0 S) rfl rfl ?_
  refine am_imul (pc' := 71) dX12_text_70 rfl ?_
  refine am_iload_n (pc' := 72) 2 dX12_text_71 rfl rfl rfl ?_
  refine am_iadd (pc' := 73) dX12_text_72 rfl ?_
  refine am_aload_n (pc' := 74) 0 dX12_text_73 rfl rfl rfl ?_
  refine am_get (pc' := 77) (v := .int (sm_out S)) dX12_text_74 fl_X12_123 (sm_c45 S0 S) rfl rfl ?_
  obtain ⟨hr13, hres⟩ := am_rg hres
  refine am_iast (pc' := 78) (f := (sm_starts S)) (ws' := (sx_w S0 (sm_w (um_starts S (upd (sm_starts S) (((4 : Int32) * (sm_texts S)) + v2).toNatClampNeg (sm_out S)))))) dX12_text_77 (sm_c52 S0 S) hr13 (sm_p_starts S0 S _) rfl ?_
  refine am_iload_n (pc' := 79) 1 dX12_text_78 rfl rfl rfl ?_
  refine am_if_eq (pc' := 82) 93 dX12_text_79 rfl rfl (fun hc14 => ?_) (fun hc14 => ?_)
  · rw [if_pos hc14] at hres
    refine am_iconst (pc' := 94) (v := 0) dX12_text_93 kc_0 rfl ?_
    refine am_istore_n (pc' := 95) (ls' := [some (.ref 45), some (.int (0 : Int32)), some (.int v2)]) 1 dX12_text_94 rfl (Nat.le_of_ble_eq_true rfl) rfl rfl rfl ?_
    refine am_iinc (pc' := 98) (ls' := [some (.ref 45), some (.int (0 : Int32)), some (.int (v2 + (1 : Int32)))]) dX12_text_95 rfl (show v2 + Int32.ofInt 1 = (v2 + (1 : Int32)) from congrArg (fun z => v2 + z) kc_1) (Nat.le_of_ble_eq_true rfl) rfl rfl rfl ?_
    refine am_goto 26 dX12_text_98 rfl ?_
    exact hk26 _ _ _ _ hres
  · rw [if_neg hc14] at hres
    refine am_aload_n (pc' := 83) 0 dX12_text_82 rfl rfl rfl ?_
    obtain ⟨q15, hq16, hres⟩ := am_bd_s hres
    refine am_cV (pc' := 86) (st' := [.int q15.1]) [] [] dX12_text_83 cs_X12_159 (tx_X12_eRead S0 (um_starts S (upd (sm_starts S) (((4 : Int32) * (sm_texts S)) + v2).toNatClampNeg (sm_out S))) _ hq16) rfl rfl rfl (sm_c45 S0 (um_starts S (upd (sm_starts S) (((4 : Int32) * (sm_texts S)) + v2).toNatClampNeg (sm_out S)))) rfl rfl rfl rfl rfl ?_
    refine am_if_eq (pc' := 89) 93 dX12_text_86 rfl rfl (fun hc17 => ?_) (fun hc17 => ?_)
    · rw [if_pos hc17] at hres
      refine am_iconst (pc' := 94) (v := 0) dX12_text_93 kc_0 rfl ?_
      refine am_istore_n (pc' := 95) (ls' := [some (.ref 45), some (.int (0 : Int32)), some (.int v2)]) 1 dX12_text_94 rfl (Nat.le_of_ble_eq_true rfl) rfl rfl rfl ?_
      refine am_iinc (pc' := 98) (ls' := [some (.ref 45), some (.int (0 : Int32)), some (.int (v2 + (1 : Int32)))]) dX12_text_95 rfl (show v2 + Int32.ofInt 1 = (v2 + (1 : Int32)) from congrArg (fun z => v2 + z) kc_1) (Nat.le_of_ble_eq_true rfl) rfl rfl rfl ?_
      refine am_goto 26 dX12_text_98 rfl ?_
      exact hk26 _ _ _ _ hres
    · rw [if_neg hc17] at hres
      refine am_iconst (pc' := 90) (v := 1) dX12_text_89 kc_1 rfl ?_
      refine am_goto 94 dX12_text_90 rfl ?_
      refine am_istore_n (pc' := 95) (ls' := [some (.ref 45), some (.int (1 : Int32)), some (.int v2)]) 1 dX12_text_94 rfl (Nat.le_of_ble_eq_true rfl) rfl rfl rfl ?_
      refine am_iinc (pc' := 98) (ls' := [some (.ref 45), some (.int (1 : Int32)), some (.int (v2 + (1 : Int32)))]) dX12_text_95 rfl (show v2 + Int32.ofInt 1 = (v2 + (1 : Int32)) from congrArg (fun z => v2 + z) kc_1) (Nat.le_of_ble_eq_true rfl) rfl rfl rfl ?_
      refine am_goto 26 dX12_text_98 rfl ?_
      exact hk26 _ _ _ _ hres

set_option maxRecDepth 100000 in
set_option maxHeartbeats 4000000 in
theorem wx_X12_text_59 (S0 : sx_T) (k26 : Int32 → Int32 → sm_T → Option (Int32 × sm_T)) (hk26 : ∀ (v1 : Int32) (v2 : Int32) (S : sm_T) (res : Int32 × sm_T), k26 v1 v2 S = some res → am_G mX12_text (none, 4, 0, 0, (some (.int res.1)), (sx_w S0 (sm_w res.2))) (0, 0) 26 [some (.ref 45), some (.int v1), some (.int v2)] [] (sx_w S0 (sm_w S))) : ∀ (v2 : Int32) (S : sm_T) (res : Int32 × sm_T) (hres : fx_X12_text_59 k26 v2 S = some res), am_G mX12_text (none, 4, 0, 0, (some (.int res.1)), (sx_w S0 (sm_w res.2))) (0, 0) 59 [some (.ref 45), none, some (.int v2)] [] (sx_w S0 (sm_w S)) := by
  intro v2 S res hres
  rw [fx_X12_text_59] at hres
  refine am_iconst (pc' := 60) (v := 0) dX12_text_59 kc_0 rfl ?_
  exact wx_X12_text_60 S0 _ hk26 _ _ _ _ hres

set_option maxRecDepth 100000 in
set_option maxHeartbeats 4000000 in
theorem wx_X12_text_26 (S0 : sx_T) : ∀ (n : Nat) (v1 : Int32) (v2 : Int32) (S : sm_T) (res : Int32 × sm_T) (hres : fx_X12_text_26 n v1 v2 S = some res), am_G mX12_text (none, 4, 0, 0, (some (.int res.1)), (sx_w S0 (sm_w res.2))) (0, 0) 26 [some (.ref 45), some (.int v1), some (.int v2)] [] (sx_w S0 (sm_w S)) := by
  intro n
  induction n with
  | zero =>
    intro v1 v2 S res hres
    cases hres
  | succ n ih =>
    intro v1 v2 S res hres
    rw [fx_X12_text_26] at hres
    refine am_iload_n (pc' := 27) 2 dX12_text_26 rfl rfl rfl ?_
    refine am_iconst (pc' := 28) (v := 3) dX12_text_27 kc_3 rfl ?_
    refine am_icmp_ge (pc' := 31) 101 dX12_text_28 rfl rfl (fun hc2 => ?_) (fun hc2 => ?_)
    · rw [if_pos hc2] at hres
      refine am_weak (ls' := [some (.ref 45), some (.int v1), none]) [false, false, true] rfl ?_
      exact wx_X12_text_101 S0 _ _ _ hres
    · rw [if_neg hc2] at hres
      refine am_iload_n (pc' := 32) 1 dX12_text_31 rfl rfl rfl ?_
      refine am_if_eq (pc' := 35) 101 dX12_text_32 rfl rfl (fun hc9 => ?_) (fun hc9 => ?_)
      · rw [if_pos hc9] at hres
        refine am_weak (ls' := [some (.ref 45), some (.int v1), none]) [false, false, true] rfl ?_
        exact wx_X12_text_101 S0 _ _ _ hres
      · rw [if_neg hc9] at hres
        refine am_aload_n (pc' := 36) 0 dX12_text_35 rfl rfl rfl ?_
        obtain ⟨q10, hq11, hres⟩ := am_bd_s hres
        refine am_cV (pc' := 39) (st' := []) [] [] dX12_text_36 cs_X12_146 (tx_X12_next S0 S _ hq11) rfl rfl rfl (sm_c45 S0 S) rfl rfl rfl rfl rfl ?_
        refine am_aload_n (pc' := 40) 0 dX12_text_39 rfl rfl rfl ?_
        refine am_get (pc' := 43) (v := .int (sm_token q10)) dX12_text_40 fl_X12_113 (sm_c45 S0 q10) rfl rfl ?_
        refine am_iconst (pc' := 44) (v := 3) dX12_text_43 kc_3 rfl ?_
        refine am_icmp_ne (pc' := 47) 59 dX12_text_44 rfl rfl (fun hc12 => ?_) (fun hc12 => ?_)
        · rw [if_neg hc12] at hres
          refine am_weak (ls' := [some (.ref 45), none, some (.int v2)]) [false, true, false] rfl ?_
          exact wx_X12_text_59 S0 _ (fun a0 a1 a2 => ih a0 a1 a2) _ _ _ hres
        · rw [if_pos hc12] at hres
          refine am_aload_n (pc' := 48) 0 dX12_text_47 rfl rfl rfl ?_
          refine am_get (pc' := 51) (v := .int (sm_value q10)) dX12_text_48 fl_X12_116 (sm_c45 S0 q10) rfl rfl ?_
          refine am_iload_n (pc' := 52) 2 dX12_text_51 rfl rfl rfl ?_
          refine am_icmp_ne (pc' := 55) 59 dX12_text_52 rfl rfl (fun hc18 => ?_) (fun hc18 => ?_)
          · rw [if_neg hc18] at hres
            refine am_weak (ls' := [some (.ref 45), none, some (.int v2)]) [false, true, false] rfl ?_
            exact wx_X12_text_59 S0 _ (fun a0 a1 a2 => ih a0 a1 a2) _ _ _ hres
          · rw [if_pos hc18] at hres
            refine am_iconst (pc' := 56) (v := 1) dX12_text_55 kc_1 rfl ?_
            refine am_goto 60 dX12_text_56 rfl ?_
            refine am_weak (ls' := [some (.ref 45), none, some (.int v2)]) [false, true, false] rfl ?_
            exact wx_X12_text_60 S0 _ (fun a0 a1 a2 => ih a0 a1 a2) _ _ _ _ hres

set_option maxRecDepth 100000 in
set_option maxHeartbeats 4000000 in
theorem tx_X12_text (S0 : sx_T) (S : sm_T) (res : Int32 × sm_T) (hres : fx_X12_text S = some res) : am_T mX12_text 4 0 0 [.ref 45] (sx_w S0 (sm_w S)) (some (.int res.1)) (sx_w S0 (sm_w res.2)) := by
  refine am_meth (ls := [some (.ref 45), none, none]) (by decide +kernel) rfl (Nat.le_of_ble_eq_true rfl) (sm_len _ _ _ _) ?_
  rw [fx_X12_text] at hres
  refine am_aload_n (pc' := 1) 0 dX12_text_0 rfl rfl rfl ?_
  refine am_get (pc' := 4) (v := .int (sm_texts S)) dX12_text_1 fl_X12_94 (sm_c45 S0 S) rfl rfl ?_
  refine am_bipush (pc' := 6) (v := 6) dX12_text_4 kb_6 rfl ?_
  refine am_icmp_ne (pc' := 9) 12 dX12_text_6 rfl rfl (fun hc1 => ?_) (fun hc1 => ?_)
  · rw [if_neg hc1] at hres
    refine am_aload_n (pc' := 13) 0 dX12_text_12 rfl rfl rfl ?_
    refine am_iconst (pc' := 14) (v := 0) dX12_text_13 kc_0 rfl ?_
    refine am_put (pc' := 17) (ws' := (sx_w S0 (sm_w (um_at S (0 : Int32))))) (v := .int (0 : Int32)) dX12_text_14 fp_X12_107 (sm_c45 S0 S) (fun _ => ⟨rfl, rfl⟩) (Nat.le_of_ble_eq_true rfl) (sm_p_at S0 S _) rfl ?_
    refine am_aload_n (pc' := 18) 0 dX12_text_17 rfl rfl rfl ?_
    refine am_iconst (pc' := 19) (v := 0) dX12_text_18 kc_0 rfl ?_
    refine am_put (pc' := 22) (ws' := (sx_w S0 (sm_w (um_out (um_at S (0 : Int32)) (0 : Int32))))) (v := .int (0 : Int32)) dX12_text_19 fp_X12_123 (sm_c45 S0 (um_at S (0 : Int32))) (fun _ => ⟨rfl, rfl⟩) (Nat.le_of_ble_eq_true rfl) (sm_p_out S0 (um_at S (0 : Int32)) _) rfl ?_
    refine am_iconst (pc' := 23) (v := 1) dX12_text_22 kc_1 rfl ?_
    refine am_istore_n (pc' := 24) (ls' := [some (.ref 45), some (.int (1 : Int32)), none]) 1 dX12_text_23 rfl (Nat.le_of_ble_eq_true rfl) rfl rfl rfl ?_
    refine am_iconst (pc' := 25) (v := 0) dX12_text_24 kc_0 rfl ?_
    refine am_istore_n (pc' := 26) (ls' := [some (.ref 45), some (.int (1 : Int32)), some (.int (0 : Int32))]) 2 dX12_text_25 rfl (Nat.le_of_ble_eq_true rfl) rfl rfl rfl ?_
    exact wx_X12_text_26 S0 am_fu _ _ _ _ hres
  · rw [if_pos hc1] at hres
    refine am_bipush (pc' := 11) (v := (-4)) dX12_text_9 kb_m4 rfl ?_
    obtain rfl := Option.some.inj hres
    exact am_iret dX12_text_11 rfl rfl rfl
set_option maxRecDepth 100000 in
set_option maxHeartbeats 4000000 in
theorem wx_X12_together_239 (S0 : sx_T) (k93 : Int32 → Int32 → Int32 → Int32 → Int32 → sm_T → Option (Int32 × sm_T)) (hk93 : ∀ (v2 : Int32) (v4 : Int32) (v5 : Int32) (v6 : Int32) (v7 : Int32) (S : sm_T) (res : Int32 × sm_T), k93 v2 v4 v5 v6 v7 S = some res → am_G mX12_together (none, 6, 0, 0, (some (.int res.1)), (sx_w S0 (sm_w res.2))) (0, 0) 93 [some (.ref 45), none, some (.int v2), none, some (.int v4), some (.int v5), some (.int v6), some (.int v7), none, none, none, none] [] (sx_w S0 (sm_w S))) : ∀ (v2 : Int32) (v5 : Int32) (v6 : Int32) (v7 : Int32) (v8 : Int32) (v9 : Int32) (v10 : Int32) (w0 : Int32) (S : sm_T) (res : Int32 × sm_T) (hres : fx_X12_together_239 k93 v2 v5 v6 v7 v8 v9 v10 w0 S = some res), am_G mX12_together (none, 6, 0, 0, (some (.int res.1)), (sx_w S0 (sm_w res.2))) (0, 0) 239 [some (.ref 45), none, some (.int v2), none, none, some (.int v5), some (.int v6), some (.int v7), some (.int v8), some (.int v9), some (.int v10), none] [.int w0] (sx_w S0 (sm_w S)) := by
  intro v2 v5 v6 v7 v8 v9 v10 w0 S res hres
  rw [fx_X12_together_239] at hres
  refine am_istore (pc' := 241) (ls' := [some (.ref 45), none, some (.int v2), none, some (.int w0), some (.int v5), some (.int v6), some (.int v7), some (.int v8), some (.int v9), some (.int v10), none]) dX12_together_239 (Nat.le_of_ble_eq_true rfl) rfl rfl rfl ?_
  refine am_iload (pc' := 243) dX12_together_241 rfl rfl ?_
  refine am_if_eq (pc' := 246) 251 dX12_together_243 rfl rfl (fun hc13 => ?_) (fun hc13 => ?_)
  · rw [if_pos hc13] at hres
    refine am_iload (pc' := 253) dX12_together_251 rfl rfl ?_
    refine am_istore (pc' := 255) (ls' := [some (.ref 45), none, some (.int v2), none, some (.int w0), some (.int v5), some (.int v6), some (.int v7), some (.int v8), some (.int v9), some (.int v10), none]) dX12_together_253 (Nat.le_of_ble_eq_true rfl) rfl rfl rfl ?_
    refine am_iload (pc' := 257) dX12_together_255 rfl rfl ?_
    refine am_if_eq (pc' := 260) 265 dX12_together_257 rfl rfl (fun hc14 => ?_) (fun hc14 => ?_)
    · rw [if_pos hc14] at hres
      refine am_iload (pc' := 267) dX12_together_265 rfl rfl ?_
      refine am_istore (pc' := 269) (ls' := [some (.ref 45), none, some (.int v2), none, some (.int w0), some (.int v5), some (.int v6), some (.int v7), some (.int v8), some (.int v9), some (.int v10), none]) dX12_together_267 (Nat.le_of_ble_eq_true rfl) rfl rfl rfl ?_
      refine am_iinc (pc' := 272) (ls' := [some (.ref 45), none, some (.int v2), none, some (.int w0), some (.int v5), some (.int v6), some (.int (v7 + (1 : Int32))), some (.int v8), some (.int v9), some (.int v10), none]) dX12_together_269 rfl (show v7 + Int32.ofInt 1 = (v7 + (1 : Int32)) from congrArg (fun z => v7 + z) kc_1) (Nat.le_of_ble_eq_true rfl) rfl rfl rfl ?_
      refine am_goto 93 dX12_together_272 rfl ?_
      refine am_weak (ls' := [some (.ref 45), none, some (.int v2), none, some (.int w0), some (.int v5), some (.int v6), some (.int (v7 + (1 : Int32))), none, none, none, none]) [false, false, false, false, false, false, false, false, true, true, true, false] rfl ?_
      exact hk93 _ _ _ _ _ _ _ hres
    · rw [if_neg hc14] at hres
      refine am_iload (pc' := 262) dX12_together_260 rfl rfl ?_
      refine am_goto 267 dX12_together_262 rfl ?_
      refine am_istore (pc' := 269) (ls' := [some (.ref 45), none, some (.int v2), none, some (.int w0), some (.int v5), some (.int v8), some (.int v7), some (.int v8), some (.int v9), some (.int v10), none]) dX12_together_267 (Nat.le_of_ble_eq_true rfl) rfl rfl rfl ?_
      refine am_iinc (pc' := 272) (ls' := [some (.ref 45), none, some (.int v2), none, some (.int w0), some (.int v5), some (.int v8), some (.int (v7 + (1 : Int32))), some (.int v8), some (.int v9), some (.int v10), none]) dX12_together_269 rfl (show v7 + Int32.ofInt 1 = (v7 + (1 : Int32)) from congrArg (fun z => v7 + z) kc_1) (Nat.le_of_ble_eq_true rfl) rfl rfl rfl ?_
      refine am_goto 93 dX12_together_272 rfl ?_
      refine am_weak (ls' := [some (.ref 45), none, some (.int v2), none, some (.int w0), some (.int v5), some (.int v8), some (.int (v7 + (1 : Int32))), none, none, none, none]) [false, false, false, false, false, false, false, false, true, true, true, false] rfl ?_
      exact hk93 _ _ _ _ _ _ _ hres
  · rw [if_neg hc13] at hres
    refine am_iload (pc' := 248) dX12_together_246 rfl rfl ?_
    refine am_goto 253 dX12_together_248 rfl ?_
    refine am_istore (pc' := 255) (ls' := [some (.ref 45), none, some (.int v2), none, some (.int w0), some (.int v9), some (.int v6), some (.int v7), some (.int v8), some (.int v9), some (.int v10), none]) dX12_together_253 (Nat.le_of_ble_eq_true rfl) rfl rfl rfl ?_
    refine am_iload (pc' := 257) dX12_together_255 rfl rfl ?_
    refine am_if_eq (pc' := 260) 265 dX12_together_257 rfl rfl (fun hc15 => ?_) (fun hc15 => ?_)
    · rw [if_pos hc15] at hres
      refine am_iload (pc' := 267) dX12_together_265 rfl rfl ?_
      refine am_istore (pc' := 269) (ls' := [some (.ref 45), none, some (.int v2), none, some (.int w0), some (.int v9), some (.int v6), some (.int v7), some (.int v8), some (.int v9), some (.int v10), none]) dX12_together_267 (Nat.le_of_ble_eq_true rfl) rfl rfl rfl ?_
      refine am_iinc (pc' := 272) (ls' := [some (.ref 45), none, some (.int v2), none, some (.int w0), some (.int v9), some (.int v6), some (.int (v7 + (1 : Int32))), some (.int v8), some (.int v9), some (.int v10), none]) dX12_together_269 rfl (show v7 + Int32.ofInt 1 = (v7 + (1 : Int32)) from congrArg (fun z => v7 + z) kc_1) (Nat.le_of_ble_eq_true rfl) rfl rfl rfl ?_
      refine am_goto 93 dX12_together_272 rfl ?_
      refine am_weak (ls' := [some (.ref 45), none, some (.int v2), none, some (.int w0), some (.int v9), some (.int v6), some (.int (v7 + (1 : Int32))), none, none, none, none]) [false, false, false, false, false, false, false, false, true, true, true, false] rfl ?_
      exact hk93 _ _ _ _ _ _ _ hres
    · rw [if_neg hc15] at hres
      refine am_iload (pc' := 262) dX12_together_260 rfl rfl ?_
      refine am_goto 267 dX12_together_262 rfl ?_
      refine am_istore (pc' := 269) (ls' := [some (.ref 45), none, some (.int v2), none, some (.int w0), some (.int v9), some (.int v8), some (.int v7), some (.int v8), some (.int v9), some (.int v10), none]) dX12_together_267 (Nat.le_of_ble_eq_true rfl) rfl rfl rfl ?_
      refine am_iinc (pc' := 272) (ls' := [some (.ref 45), none, some (.int v2), none, some (.int w0), some (.int v9), some (.int v8), some (.int (v7 + (1 : Int32))), some (.int v8), some (.int v9), some (.int v10), none]) dX12_together_269 rfl (show v7 + Int32.ofInt 1 = (v7 + (1 : Int32)) from congrArg (fun z => v7 + z) kc_1) (Nat.le_of_ble_eq_true rfl) rfl rfl rfl ?_
      refine am_goto 93 dX12_together_272 rfl ?_
      refine am_weak (ls' := [some (.ref 45), none, some (.int v2), none, some (.int w0), some (.int v9), some (.int v8), some (.int (v7 + (1 : Int32))), none, none, none, none]) [false, false, false, false, false, false, false, false, true, true, true, false] rfl ?_
      exact hk93 _ _ _ _ _ _ _ hres

set_option maxRecDepth 100000 in
set_option maxHeartbeats 4000000 in
theorem wx_X12_together_225 (S0 : sx_T) (k93 : Int32 → Int32 → Int32 → Int32 → Int32 → sm_T → Option (Int32 × sm_T)) (hk93 : ∀ (v2 : Int32) (v4 : Int32) (v5 : Int32) (v6 : Int32) (v7 : Int32) (S : sm_T) (res : Int32 × sm_T), k93 v2 v4 v5 v6 v7 S = some res → am_G mX12_together (none, 6, 0, 0, (some (.int res.1)), (sx_w S0 (sm_w res.2))) (0, 0) 93 [some (.ref 45), none, some (.int v2), none, some (.int v4), some (.int v5), some (.int v6), some (.int v7), none, none, none, none] [] (sx_w S0 (sm_w S))) : ∀ (v2 : Int32) (v4 : Int32) (v5 : Int32) (v6 : Int32) (v7 : Int32) (v8 : Int32) (v9 : Int32) (w0 : Int32) (S : sm_T) (res : Int32 × sm_T) (hres : fx_X12_together_225 k93 v2 v4 v5 v6 v7 v8 v9 w0 S = some res), am_G mX12_together (none, 6, 0, 0, (some (.int res.1)), (sx_w S0 (sm_w res.2))) (0, 0) 225 [some (.ref 45), none, some (.int v2), none, some (.int v4), some (.int v5), some (.int v6), some (.int v7), some (.int v8), some (.int v9), none, none] [.int w0] (sx_w S0 (sm_w S)) := by
  intro v2 v4 v5 v6 v7 v8 v9 w0 S res hres
  rw [fx_X12_together_225] at hres
  refine am_istore (pc' := 227) (ls' := [some (.ref 45), none, some (.int v2), none, some (.int v4), some (.int v5), some (.int v6), some (.int v7), some (.int v8), some (.int v9), some (.int w0), none]) dX12_together_225 (Nat.le_of_ble_eq_true rfl) rfl rfl rfl ?_
  refine am_iload (pc' := 229) dX12_together_227 rfl rfl ?_
  refine am_if_eq (pc' := 232) 237 dX12_together_229 rfl rfl (fun hc12 => ?_) (fun hc12 => ?_)
  · rw [if_pos hc12] at hres
    refine am_iload (pc' := 239) dX12_together_237 rfl rfl ?_
    refine am_weak (ls' := [some (.ref 45), none, some (.int v2), none, none, some (.int v5), some (.int v6), some (.int v7), some (.int v8), some (.int v9), some (.int w0), none]) [false, false, false, false, true, false, false, false, false, false, false, false] rfl ?_
    exact wx_X12_together_239 S0 _ hk93 _ _ _ _ _ _ _ _ _ _ hres
  · rw [if_neg hc12] at hres
    refine am_iload (pc' := 234) dX12_together_232 rfl rfl ?_
    refine am_goto 239 dX12_together_234 rfl ?_
    refine am_weak (ls' := [some (.ref 45), none, some (.int v2), none, none, some (.int v5), some (.int v6), some (.int v7), some (.int v8), some (.int v9), some (.int w0), none]) [false, false, false, false, true, false, false, false, false, false, false, false] rfl ?_
    exact wx_X12_together_239 S0 _ hk93 _ _ _ _ _ _ _ _ _ _ hres

set_option maxRecDepth 100000 in
set_option maxHeartbeats 4000000 in
theorem wx_X12_together_220 (S0 : sx_T) (k93 : Int32 → Int32 → Int32 → Int32 → Int32 → sm_T → Option (Int32 × sm_T)) (hk93 : ∀ (v2 : Int32) (v4 : Int32) (v5 : Int32) (v6 : Int32) (v7 : Int32) (S : sm_T) (res : Int32 × sm_T), k93 v2 v4 v5 v6 v7 S = some res → am_G mX12_together (none, 6, 0, 0, (some (.int res.1)), (sx_w S0 (sm_w res.2))) (0, 0) 93 [some (.ref 45), none, some (.int v2), none, some (.int v4), some (.int v5), some (.int v6), some (.int v7), none, none, none, none] [] (sx_w S0 (sm_w S))) : ∀ (v2 : Int32) (v4 : Int32) (v5 : Int32) (v6 : Int32) (v7 : Int32) (v8 : Int32) (v9 : Int32) (S : sm_T) (res : Int32 × sm_T) (hres : fx_X12_together_220 k93 v2 v4 v5 v6 v7 v8 v9 S = some res), am_G mX12_together (none, 6, 0, 0, (some (.int res.1)), (sx_w S0 (sm_w res.2))) (0, 0) 220 [some (.ref 45), none, some (.int v2), none, some (.int v4), some (.int v5), some (.int v6), some (.int v7), some (.int v8), some (.int v9), none, none] [] (sx_w S0 (sm_w S)) := by
  intro v2 v4 v5 v6 v7 v8 v9 S res hres
  rw [fx_X12_together_220] at hres
  refine am_iconst (pc' := 221) (v := 1) dX12_together_220 kc_1 rfl ?_
  refine am_goto 225 dX12_together_221 rfl ?_
  exact wx_X12_together_225 S0 _ hk93 _ _ _ _ _ _ _ _ _ _ hres

set_option maxRecDepth 100000 in
set_option maxHeartbeats 4000000 in
theorem wx_X12_together_224 (S0 : sx_T) (k93 : Int32 → Int32 → Int32 → Int32 → Int32 → sm_T → Option (Int32 × sm_T)) (hk93 : ∀ (v2 : Int32) (v4 : Int32) (v5 : Int32) (v6 : Int32) (v7 : Int32) (S : sm_T) (res : Int32 × sm_T), k93 v2 v4 v5 v6 v7 S = some res → am_G mX12_together (none, 6, 0, 0, (some (.int res.1)), (sx_w S0 (sm_w res.2))) (0, 0) 93 [some (.ref 45), none, some (.int v2), none, some (.int v4), some (.int v5), some (.int v6), some (.int v7), none, none, none, none] [] (sx_w S0 (sm_w S))) : ∀ (v2 : Int32) (v4 : Int32) (v5 : Int32) (v6 : Int32) (v7 : Int32) (v8 : Int32) (v9 : Int32) (S : sm_T) (res : Int32 × sm_T) (hres : fx_X12_together_224 k93 v2 v4 v5 v6 v7 v8 v9 S = some res), am_G mX12_together (none, 6, 0, 0, (some (.int res.1)), (sx_w S0 (sm_w res.2))) (0, 0) 224 [some (.ref 45), none, some (.int v2), none, some (.int v4), some (.int v5), some (.int v6), some (.int v7), some (.int v8), some (.int v9), none, none] [] (sx_w S0 (sm_w S)) := by
  intro v2 v4 v5 v6 v7 v8 v9 S res hres
  rw [fx_X12_together_224] at hres
  refine am_iconst (pc' := 225) (v := 0) dX12_together_224 kc_0 rfl ?_
  exact wx_X12_together_225 S0 _ hk93 _ _ _ _ _ _ _ _ _ _ hres

set_option maxRecDepth 100000 in
set_option maxHeartbeats 4000000 in
theorem wx_X12_together_161 (S0 : sx_T) (k118 : Int32 → Int32 → Int32 → Int32 → Int32 → Int32 → Int32 → Int32 → sm_T → Option (Int32 × sm_T)) (hk118 : ∀ (v2 : Int32) (v4 : Int32) (v5 : Int32) (v6 : Int32) (v7 : Int32) (v8 : Int32) (v9 : Int32) (v10 : Int32) (S : sm_T) (res : Int32 × sm_T), k118 v2 v4 v5 v6 v7 v8 v9 v10 S = some res → am_G mX12_together (none, 6, 0, 0, (some (.int res.1)), (sx_w S0 (sm_w res.2))) (0, 0) 118 [some (.ref 45), none, some (.int v2), none, some (.int v4), some (.int v5), some (.int v6), some (.int v7), some (.int v8), some (.int v9), some (.int v10), none] [] (sx_w S0 (sm_w S))) : ∀ (v2 : Int32) (v4 : Int32) (v5 : Int32) (v6 : Int32) (v7 : Int32) (v8 : Int32) (v9 : Int32) (v10 : Int32) (w0 : Int32) (S : sm_T) (res : Int32 × sm_T) (hres : fx_X12_together_161 k118 v2 v4 v5 v6 v7 v8 v9 v10 w0 S = some res), am_G mX12_together (none, 6, 0, 0, (some (.int res.1)), (sx_w S0 (sm_w res.2))) (0, 0) 161 [some (.ref 45), none, some (.int v2), none, some (.int v4), some (.int v5), some (.int v6), some (.int v7), some (.int v8), some (.int v9), some (.int v10), none] [.int w0] (sx_w S0 (sm_w S)) := by
  intro v2 v4 v5 v6 v7 v8 v9 v10 w0 S res hres
  rw [fx_X12_together_161] at hres
  refine am_istore (pc' := 163) (ls' := [some (.ref 45), none, some (.int v2), none, some (.int v4), some (.int v5), some (.int v6), some (.int v7), some (.int v8), some (.int v9), some (.int v10), some (.int w0)]) dX12_together_161 (Nat.le_of_ble_eq_true rfl) rfl rfl rfl ?_
  refine am_iload (pc' := 165) dX12_together_163 rfl rfl ?_
  refine am_if_eq (pc' := 168) 184 dX12_together_165 rfl rfl (fun hc20 => ?_) (fun hc20 => ?_)
  · rw [if_pos hc20] at hres
    refine am_iload (pc' := 186) dX12_together_184 rfl rfl ?_
    refine am_istore (pc' := 188) (ls' := [some (.ref 45), none, some (.int v2), none, some (.int v4), some (.int v5), some (.int v6), some (.int v7), some (.int v8), some (.int v9), some (.int v10), some (.int w0)]) dX12_together_186 (Nat.le_of_ble_eq_true rfl) rfl rfl rfl ?_
    refine am_iinc (pc' := 191) (ls' := [some (.ref 45), none, some (.int v2), none, some (.int v4), some (.int v5), some (.int v6), some (.int v7), some (.int v8), some (.int v9), some (.int (v10 + (1 : Int32))), some (.int w0)]) dX12_together_188 rfl (show v10 + Int32.ofInt 1 = (v10 + (1 : Int32)) from congrArg (fun z => v10 + z) kc_1) (Nat.le_of_ble_eq_true rfl) rfl rfl rfl ?_
    refine am_goto 118 dX12_together_191 rfl ?_
    refine am_weak (ls' := [some (.ref 45), none, some (.int v2), none, some (.int v4), some (.int v5), some (.int v6), some (.int v7), some (.int v8), some (.int v9), some (.int (v10 + (1 : Int32))), none]) [false, false, false, false, false, false, false, false, false, false, false, true] rfl ?_
    exact hk118 _ _ _ _ _ _ _ _ _ _ hres
  · rw [if_neg hc20] at hres
    refine am_aload_n (pc' := 169) 0 dX12_together_168 rfl rfl rfl ?_
    refine am_get (pc' := 172) (v := .ref 65) dX12_together_169 fl_X12_71 (sm_c45 S0 S) rfl rfl ?_
    refine am_bipush (pc' := 174) (v := 9) dX12_together_172 kb_9 rfl ?_
    refine am_iload (pc' := 176) dX12_together_174 rfl rfl ?_
    refine am_imul (pc' := 177) dX12_together_176 rfl ?_
    refine am_iload (pc' := 179) dX12_together_177 rfl rfl ?_
    refine am_iadd (pc' := 180) dX12_together_179 rfl ?_
    obtain ⟨hr21, hres⟩ := am_rg hres
    refine am_iald (pc' := 181) (f := (sm_offerBy S)) dX12_together_180 (sm_c65 S0 S) hr21 rfl ?_
    refine am_goto 186 dX12_together_181 rfl ?_
    refine am_istore (pc' := 188) (ls' := [some (.ref 45), none, some (.int v2), none, some (.int v4), some (.int v5), some (.int v6), some (.int v7), some (.int v8), some (.int ((sm_offerBy S) (((9 : Int32) * v10) + v8).toNatClampNeg)), some (.int v10), some (.int w0)]) dX12_together_186 (Nat.le_of_ble_eq_true rfl) rfl rfl rfl ?_
    refine am_iinc (pc' := 191) (ls' := [some (.ref 45), none, some (.int v2), none, some (.int v4), some (.int v5), some (.int v6), some (.int v7), some (.int v8), some (.int ((sm_offerBy S) (((9 : Int32) * v10) + v8).toNatClampNeg)), some (.int (v10 + (1 : Int32))), some (.int w0)]) dX12_together_188 rfl (show v10 + Int32.ofInt 1 = (v10 + (1 : Int32)) from congrArg (fun z => v10 + z) kc_1) (Nat.le_of_ble_eq_true rfl) rfl rfl rfl ?_
    refine am_goto 118 dX12_together_191 rfl ?_
    refine am_weak (ls' := [some (.ref 45), none, some (.int v2), none, some (.int v4), some (.int v5), some (.int v6), some (.int v7), some (.int v8), some (.int ((sm_offerBy S) (((9 : Int32) * v10) + v8).toNatClampNeg)), some (.int (v10 + (1 : Int32))), none]) [false, false, false, false, false, false, false, false, false, false, false, true] rfl ?_
    exact hk118 _ _ _ _ _ _ _ _ _ _ hres

set_option maxRecDepth 100000 in
set_option maxHeartbeats 4000000 in
theorem wx_X12_together_160 (S0 : sx_T) (k118 : Int32 → Int32 → Int32 → Int32 → Int32 → Int32 → Int32 → Int32 → sm_T → Option (Int32 × sm_T)) (hk118 : ∀ (v2 : Int32) (v4 : Int32) (v5 : Int32) (v6 : Int32) (v7 : Int32) (v8 : Int32) (v9 : Int32) (v10 : Int32) (S : sm_T) (res : Int32 × sm_T), k118 v2 v4 v5 v6 v7 v8 v9 v10 S = some res → am_G mX12_together (none, 6, 0, 0, (some (.int res.1)), (sx_w S0 (sm_w res.2))) (0, 0) 118 [some (.ref 45), none, some (.int v2), none, some (.int v4), some (.int v5), some (.int v6), some (.int v7), some (.int v8), some (.int v9), some (.int v10), none] [] (sx_w S0 (sm_w S))) : ∀ (v2 : Int32) (v4 : Int32) (v5 : Int32) (v6 : Int32) (v7 : Int32) (v8 : Int32) (v9 : Int32) (v10 : Int32) (S : sm_T) (res : Int32 × sm_T) (hres : fx_X12_together_160 k118 v2 v4 v5 v6 v7 v8 v9 v10 S = some res), am_G mX12_together (none, 6, 0, 0, (some (.int res.1)), (sx_w S0 (sm_w res.2))) (0, 0) 160 [some (.ref 45), none, some (.int v2), none, some (.int v4), some (.int v5), some (.int v6), some (.int v7), some (.int v8), some (.int v9), some (.int v10), none] [] (sx_w S0 (sm_w S)) := by
  intro v2 v4 v5 v6 v7 v8 v9 v10 S res hres
  rw [fx_X12_together_160] at hres
  refine am_iconst (pc' := 161) (v := 0) dX12_together_160 kc_0 rfl ?_
  exact wx_X12_together_161 S0 _ hk118 _ _ _ _ _ _ _ _ _ _ _ hres

set_option maxRecDepth 100000 in
set_option maxHeartbeats 4000000 in
theorem wx_X12_together_118 (S0 : sx_T) (k93 : Int32 → Int32 → Int32 → Int32 → Int32 → sm_T → Option (Int32 × sm_T)) (hk93 : ∀ (v2 : Int32) (v4 : Int32) (v5 : Int32) (v6 : Int32) (v7 : Int32) (S : sm_T) (res : Int32 × sm_T), k93 v2 v4 v5 v6 v7 S = some res → am_G mX12_together (none, 6, 0, 0, (some (.int res.1)), (sx_w S0 (sm_w res.2))) (0, 0) 93 [some (.ref 45), none, some (.int v2), none, some (.int v4), some (.int v5), some (.int v6), some (.int v7), none, none, none, none] [] (sx_w S0 (sm_w S))) : ∀ (n : Nat) (v2 : Int32) (v4 : Int32) (v5 : Int32) (v6 : Int32) (v7 : Int32) (v8 : Int32) (v9 : Int32) (v10 : Int32) (S : sm_T) (res : Int32 × sm_T) (hres : fx_X12_together_118 k93 n v2 v4 v5 v6 v7 v8 v9 v10 S = some res), am_G mX12_together (none, 6, 0, 0, (some (.int res.1)), (sx_w S0 (sm_w res.2))) (0, 0) 118 [some (.ref 45), none, some (.int v2), none, some (.int v4), some (.int v5), some (.int v6), some (.int v7), some (.int v8), some (.int v9), some (.int v10), none] [] (sx_w S0 (sm_w S)) := by
  intro n
  induction n with
  | zero =>
    intro v2 v4 v5 v6 v7 v8 v9 v10 S res hres
    cases hres
  | succ n ih =>
    intro v2 v4 v5 v6 v7 v8 v9 v10 S res hres
    rw [fx_X12_together_118] at hres
    refine am_iload (pc' := 120) dX12_together_118 rfl rfl ?_
    refine am_aload_n (pc' := 121) 0 dX12_together_120 rfl rfl rfl ?_
    refine am_get (pc' := 124) (v := .int (sm_viewers S)) dX12_together_121 fl_X12_87 (sm_c45 S0 S) rfl rfl ?_
    refine am_icmp_ge (pc' := 127) 194 dX12_together_124 rfl rfl (fun hc10 => ?_) (fun hc10 => ?_)
    · rw [if_pos hc10] at hres
      refine am_iload (pc' := 196) dX12_together_194 rfl rfl ?_
      refine am_iload (pc' := 198) dX12_together_196 rfl rfl ?_
      refine am_icmp_gt (pc' := 201) 220 dX12_together_198 rfl rfl (fun hc11 => ?_) (fun hc11 => ?_)
      · rw [if_pos hc11] at hres
        refine am_weak (ls' := [some (.ref 45), none, some (.int v2), none, some (.int v4), some (.int v5), some (.int v6), some (.int v7), some (.int v8), some (.int v9), none, none]) [false, false, false, false, false, false, false, false, false, false, true, false] rfl ?_
        exact wx_X12_together_220 S0 _ hk93 _ _ _ _ _ _ _ _ _ hres
      · rw [if_neg hc11] at hres
        refine am_iload (pc' := 203) dX12_together_201 rfl rfl ?_
        refine am_iload (pc' := 205) dX12_together_203 rfl rfl ?_
        refine am_icmp_ne (pc' := 208) 224 dX12_together_205 rfl rfl (fun hc16 => ?_) (fun hc16 => ?_)
        · rw [if_neg hc16] at hres
          refine am_weak (ls' := [some (.ref 45), none, some (.int v2), none, some (.int v4), some (.int v5), some (.int v6), some (.int v7), some (.int v8), some (.int v9), none, none]) [false, false, false, false, false, false, false, false, false, false, true, false] rfl ?_
          exact wx_X12_together_224 S0 _ hk93 _ _ _ _ _ _ _ _ _ hres
        · rw [if_pos hc16] at hres
          refine am_iload (pc' := 210) dX12_together_208 rfl rfl ?_
          refine am_if_le (pc' := 213) 224 dX12_together_210 rfl rfl (fun hc17 => ?_) (fun hc17 => ?_)
          · rw [if_pos hc17] at hres
            refine am_weak (ls' := [some (.ref 45), none, some (.int v2), none, some (.int v4), some (.int v5), some (.int v6), some (.int v7), some (.int v8), some (.int v9), none, none]) [false, false, false, false, false, false, false, false, false, false, true, false] rfl ?_
            exact wx_X12_together_224 S0 _ hk93 _ _ _ _ _ _ _ _ _ hres
          · rw [if_neg hc17] at hres
            refine am_iload (pc' := 215) dX12_together_213 rfl rfl ?_
            refine am_iload (pc' := 217) dX12_together_215 rfl rfl ?_
            refine am_icmp_ge (pc' := 220) 224 dX12_together_217 rfl rfl (fun hc18 => ?_) (fun hc18 => ?_)
            · rw [if_pos hc18] at hres
              refine am_weak (ls' := [some (.ref 45), none, some (.int v2), none, some (.int v4), some (.int v5), some (.int v6), some (.int v7), some (.int v8), some (.int v9), none, none]) [false, false, false, false, false, false, false, false, false, false, true, false] rfl ?_
              exact wx_X12_together_224 S0 _ hk93 _ _ _ _ _ _ _ _ _ hres
            · rw [if_neg hc18] at hres
              refine am_weak (ls' := [some (.ref 45), none, some (.int v2), none, some (.int v4), some (.int v5), some (.int v6), some (.int v7), some (.int v8), some (.int v9), none, none]) [false, false, false, false, false, false, false, false, false, false, true, false] rfl ?_
              exact wx_X12_together_220 S0 _ hk93 _ _ _ _ _ _ _ _ _ hres
    · rw [if_neg hc10] at hres
      refine am_iload (pc' := 129) dX12_together_127 rfl rfl ?_
      refine am_iload (pc' := 131) dX12_together_129 rfl rfl ?_
      refine am_ishr (pc' := 132) dX12_together_131 rfl ?_
      refine am_iconst (pc' := 133) (v := 1) dX12_together_132 kc_1 rfl ?_
      refine am_iand (pc' := 134) dX12_together_133 rfl ?_
      refine am_iconst (pc' := 135) (v := 1) dX12_together_134 kc_1 rfl ?_
      refine am_icmp_ne (pc' := 138) 160 dX12_together_135 rfl rfl (fun hc19 => ?_) (fun hc19 => ?_)
      · rw [if_neg hc19] at hres
        exact wx_X12_together_160 S0 _ (fun a0 a1 a2 a3 a4 a5 a6 a7 a8 => ih a0 a1 a2 a3 a4 a5 a6 a7 a8) _ _ _ _ _ _ _ _ _ _ hres
      · rw [if_pos hc19] at hres
        refine am_aload_n (pc' := 139) 0 dX12_together_138 rfl rfl rfl ?_
        refine am_get (pc' := 142) (v := .ref 65) dX12_together_139 fl_X12_71 (sm_c45 S0 S) rfl rfl ?_
        refine am_bipush (pc' := 144) (v := 9) dX12_together_142 kb_9 rfl ?_
        refine am_iload (pc' := 146) dX12_together_144 rfl rfl ?_
        refine am_imul (pc' := 147) dX12_together_146 rfl ?_
        refine am_iload (pc' := 149) dX12_together_147 rfl rfl ?_
        refine am_iadd (pc' := 150) dX12_together_149 rfl ?_
        obtain ⟨hr22, hres⟩ := am_rg hres
        refine am_iald (pc' := 151) (f := (sm_offerBy S)) dX12_together_150 (sm_c65 S0 S) hr22 rfl ?_
        refine am_iload (pc' := 153) dX12_together_151 rfl rfl ?_
        refine am_icmp_le (pc' := 156) 160 dX12_together_153 rfl rfl (fun hc23 => ?_) (fun hc23 => ?_)
        · rw [if_pos hc23] at hres
          exact wx_X12_together_160 S0 _ (fun a0 a1 a2 a3 a4 a5 a6 a7 a8 => ih a0 a1 a2 a3 a4 a5 a6 a7 a8) _ _ _ _ _ _ _ _ _ _ hres
        · rw [if_neg hc23] at hres
          refine am_iconst (pc' := 157) (v := 1) dX12_together_156 kc_1 rfl ?_
          refine am_goto 161 dX12_together_157 rfl ?_
          exact wx_X12_together_161 S0 _ (fun a0 a1 a2 a3 a4 a5 a6 a7 a8 => ih a0 a1 a2 a3 a4 a5 a6 a7 a8) _ _ _ _ _ _ _ _ _ _ _ hres

set_option maxRecDepth 100000 in
set_option maxHeartbeats 4000000 in
theorem wx_X12_together_93 (S0 : sx_T) : ∀ (n : Nat) (v2 : Int32) (v4 : Int32) (v5 : Int32) (v6 : Int32) (v7 : Int32) (S : sm_T) (res : Int32 × sm_T) (hres : fx_X12_together_93 n v2 v4 v5 v6 v7 S = some res), am_G mX12_together (none, 6, 0, 0, (some (.int res.1)), (sx_w S0 (sm_w res.2))) (0, 0) 93 [some (.ref 45), none, some (.int v2), none, some (.int v4), some (.int v5), some (.int v6), some (.int v7), none, none, none, none] [] (sx_w S0 (sm_w S)) := by
  intro n
  induction n with
  | zero =>
    intro v2 v4 v5 v6 v7 S res hres
    cases hres
  | succ n ih =>
    intro v2 v4 v5 v6 v7 S res hres
    rw [fx_X12_together_93] at hres
    refine am_iload (pc' := 95) dX12_together_93 rfl rfl ?_
    refine am_iconst (pc' := 96) (v := 1) dX12_together_95 kc_1 rfl ?_
    refine am_aload_n (pc' := 97) 0 dX12_together_96 rfl rfl rfl ?_
    refine am_get (pc' := 100) (v := .int (sm_viewers S)) dX12_together_97 fl_X12_87 (sm_c45 S0 S) rfl rfl ?_
    refine am_ishl (pc' := 101) dX12_together_100 rfl ?_
    refine am_icmp_ge (pc' := 104) 275 dX12_together_101 rfl rfl (fun hc6 => ?_) (fun hc6 => ?_)
    · rw [if_pos hc6] at hres
      refine am_iload_n (pc' := 276) 2 dX12_together_275 rfl rfl rfl ?_
      refine am_if_ne (pc' := 279) 284 dX12_together_276 rfl rfl (fun hc7 => ?_) (fun hc7 => ?_)
      · rw [if_neg hc7] at hres
        refine am_iload (pc' := 286) dX12_together_284 rfl rfl ?_
        obtain rfl := Option.some.inj hres
        exact am_iret dX12_together_286 rfl rfl rfl
      · rw [if_pos hc7] at hres
        refine am_iload (pc' := 281) dX12_together_279 rfl rfl ?_
        refine am_goto 286 dX12_together_281 rfl ?_
        obtain rfl := Option.some.inj hres
        exact am_iret dX12_together_286 rfl rfl rfl
    · rw [if_neg hc6] at hres
      refine am_aload_n (pc' := 105) 0 dX12_together_104 rfl rfl rfl ?_
      refine am_iload (pc' := 107) dX12_together_105 rfl rfl ?_
      obtain ⟨q8, hq9, hres⟩ := am_bd_s hres
      refine am_cV (pc' := 110) (st' := [.int q8]) [] [.int v7] dX12_together_107 cs_X12_205 (tx_X12_crowdOf S0 v7 S _ hq9) rfl rfl rfl (sm_c45 S0 S) rfl rfl rfl rfl rfl ?_
      refine am_istore (pc' := 112) (ls' := [some (.ref 45), none, some (.int v2), none, some (.int v4), some (.int v5), some (.int v6), some (.int v7), some (.int q8), none, none, none]) dX12_together_110 (Nat.le_of_ble_eq_true rfl) rfl rfl rfl ?_
      refine am_iconst (pc' := 113) (v := 0) dX12_together_112 kc_0 rfl ?_
      refine am_istore (pc' := 115) (ls' := [some (.ref 45), none, some (.int v2), none, some (.int v4), some (.int v5), some (.int v6), some (.int v7), some (.int q8), some (.int (0 : Int32)), none, none]) dX12_together_113 (Nat.le_of_ble_eq_true rfl) rfl rfl rfl ?_
      refine am_iconst (pc' := 116) (v := 0) dX12_together_115 kc_0 rfl ?_
      refine am_istore (pc' := 118) (ls' := [some (.ref 45), none, some (.int v2), none, some (.int v4), some (.int v5), some (.int v6), some (.int v7), some (.int q8), some (.int (0 : Int32)), some (.int (0 : Int32)), none]) dX12_together_116 (Nat.le_of_ble_eq_true rfl) rfl rfl rfl ?_
      exact wx_X12_together_118 S0 _ (fun a0 a1 a2 a3 a4 a5 => ih a0 a1 a2 a3 a4 a5) am_fu _ _ _ _ _ _ _ _ _ _ hres

set_option maxRecDepth 100000 in
set_option maxHeartbeats 4000000 in
theorem wx_X12_together_39 (S0 : sx_T) (k27 : Int32 → Int32 → sm_T → Option (Int32 × sm_T)) (hk27 : ∀ (v2 : Int32) (v4 : Int32) (S : sm_T) (res : Int32 × sm_T), k27 v2 v4 S = some res → am_G mX12_together (none, 6, 0, 0, (some (.int res.1)), (sx_w S0 (sm_w res.2))) (0, 0) 27 [some (.ref 45), none, some (.int v2), none, some (.int v4), none, none, none, none, none, none, none] [] (sx_w S0 (sm_w S))) : ∀ (n : Nat) (v2 : Int32) (v4 : Int32) (v5 : Int32) (S : sm_T) (res : Int32 × sm_T) (hres : fx_X12_together_39 k27 n v2 v4 v5 S = some res), am_G mX12_together (none, 6, 0, 0, (some (.int res.1)), (sx_w S0 (sm_w res.2))) (0, 0) 39 [some (.ref 45), none, some (.int v2), none, some (.int v4), some (.int v5), none, none, none, none, none, none] [] (sx_w S0 (sm_w S)) := by
  intro n
  induction n with
  | zero =>
    intro v2 v4 v5 S res hres
    cases hres
  | succ n ih =>
    intro v2 v4 v5 S res hres
    rw [fx_X12_together_39] at hres
    refine am_iload (pc' := 41) dX12_together_39 rfl rfl ?_
    refine am_aload_n (pc' := 42) 0 dX12_together_41 rfl rfl rfl ?_
    refine am_get (pc' := 45) (v := .int (sm_viewers S)) dX12_together_42 fl_X12_87 (sm_c45 S0 S) rfl rfl ?_
    refine am_icmp_gt (pc' := 48) 75 dX12_together_45 rfl rfl (fun hc24 => ?_) (fun hc24 => ?_)
    · rw [if_pos hc24] at hres
      refine am_iinc (pc' := 78) (ls' := [some (.ref 45), none, some (.int v2), none, some (.int (v4 + (1 : Int32))), some (.int v5), none, none, none, none, none, none]) dX12_together_75 rfl (show v4 + Int32.ofInt 1 = (v4 + (1 : Int32)) from congrArg (fun z => v4 + z) kc_1) (Nat.le_of_ble_eq_true rfl) rfl rfl rfl ?_
      refine am_goto 27 dX12_together_78 rfl ?_
      refine am_weak (ls' := [some (.ref 45), none, some (.int v2), none, some (.int (v4 + (1 : Int32))), none, none, none, none, none, none, none]) [false, false, false, false, false, true, false, false, false, false, false, false] rfl ?_
      exact hk27 _ _ _ _ hres
    · rw [if_neg hc24] at hres
      refine am_aload_n (pc' := 49) 0 dX12_together_48 rfl rfl rfl ?_
      refine am_get (pc' := 52) (v := .ref 65) dX12_together_49 fl_X12_71 (sm_c45 S0 S) rfl rfl ?_
      refine am_bipush (pc' := 54) (v := 9) dX12_together_52 kb_9 rfl ?_
      refine am_iload (pc' := 56) dX12_together_54 rfl rfl ?_
      refine am_imul (pc' := 57) dX12_together_56 rfl ?_
      refine am_iload (pc' := 59) dX12_together_57 rfl rfl ?_
      refine am_iadd (pc' := 60) dX12_together_59 rfl ?_
      refine am_aload_n (pc' := 61) 0 dX12_together_60 rfl rfl rfl ?_
      refine am_iload (pc' := 63) dX12_together_61 rfl rfl ?_
      refine am_iload (pc' := 65) dX12_together_63 rfl rfl ?_
      obtain ⟨q25, hq26, hres⟩ := am_bd_s hres
      refine am_cV (pc' := 68) (st' := [.int q25.1, .int (((9 : Int32) * v4) + v5), .ref 65]) [.int (((9 : Int32) * v4) + v5), .ref 65] [.int v4, .int v5] dX12_together_65 cs_X12_202 (tx_X12_offerOf S0 v4 v5 S _ hq26) rfl rfl rfl (sm_c45 S0 S) rfl rfl rfl rfl rfl ?_
      obtain ⟨hr27, hres⟩ := am_rg hres
      refine am_iast (pc' := 69) (f := (sm_offerBy q25.2)) (ws' := (sx_w S0 (sm_w (um_offerBy q25.2 (upd (sm_offerBy q25.2) (((9 : Int32) * v4) + v5).toNatClampNeg q25.1))))) dX12_together_68 (sm_c65 S0 q25.2) hr27 (sm_p_offerBy S0 q25.2 _) rfl ?_
      refine am_iinc (pc' := 72) (ls' := [some (.ref 45), none, some (.int v2), none, some (.int v4), some (.int (v5 + (1 : Int32))), none, none, none, none, none, none]) dX12_together_69 rfl (show v5 + Int32.ofInt 1 = (v5 + (1 : Int32)) from congrArg (fun z => v5 + z) kc_1) (Nat.le_of_ble_eq_true rfl) rfl rfl rfl ?_
      refine am_goto 39 dX12_together_72 rfl ?_
      exact ih _ _ _ _ _ hres

set_option maxRecDepth 100000 in
set_option maxHeartbeats 4000000 in
theorem wx_X12_together_27 (S0 : sx_T) : ∀ (n : Nat) (v2 : Int32) (v4 : Int32) (S : sm_T) (res : Int32 × sm_T) (hres : fx_X12_together_27 n v2 v4 S = some res), am_G mX12_together (none, 6, 0, 0, (some (.int res.1)), (sx_w S0 (sm_w res.2))) (0, 0) 27 [some (.ref 45), none, some (.int v2), none, some (.int v4), none, none, none, none, none, none, none] [] (sx_w S0 (sm_w S)) := by
  intro n
  induction n with
  | zero =>
    intro v2 v4 S res hres
    cases hres
  | succ n ih =>
    intro v2 v4 S res hres
    rw [fx_X12_together_27] at hres
    refine am_iload (pc' := 29) dX12_together_27 rfl rfl ?_
    refine am_aload_n (pc' := 30) 0 dX12_together_29 rfl rfl rfl ?_
    refine am_get (pc' := 33) (v := .int (sm_viewers S)) dX12_together_30 fl_X12_87 (sm_c45 S0 S) rfl rfl ?_
    refine am_icmp_ge (pc' := 36) 81 dX12_together_33 rfl rfl (fun hc5 => ?_) (fun hc5 => ?_)
    · rw [if_pos hc5] at hres
      refine am_iconst (pc' := 82) (v := 0) dX12_together_81 kc_0 rfl ?_
      refine am_istore (pc' := 84) (ls' := [some (.ref 45), none, some (.int v2), none, some (.int (0 : Int32)), none, none, none, none, none, none, none]) dX12_together_82 (Nat.le_of_ble_eq_true rfl) rfl rfl rfl ?_
      refine am_iconst (pc' := 85) (v := 0) dX12_together_84 kc_0 rfl ?_
      refine am_istore (pc' := 87) (ls' := [some (.ref 45), none, some (.int v2), none, some (.int (0 : Int32)), some (.int (0 : Int32)), none, none, none, none, none, none]) dX12_together_85 (Nat.le_of_ble_eq_true rfl) rfl rfl rfl ?_
      refine am_iconst (pc' := 88) (v := 0) dX12_together_87 kc_0 rfl ?_
      refine am_istore (pc' := 90) (ls' := [some (.ref 45), none, some (.int v2), none, some (.int (0 : Int32)), some (.int (0 : Int32)), some (.int (0 : Int32)), none, none, none, none, none]) dX12_together_88 (Nat.le_of_ble_eq_true rfl) rfl rfl rfl ?_
      refine am_iconst (pc' := 91) (v := 1) dX12_together_90 kc_1 rfl ?_
      refine am_istore (pc' := 93) (ls' := [some (.ref 45), none, some (.int v2), none, some (.int (0 : Int32)), some (.int (0 : Int32)), some (.int (0 : Int32)), some (.int (1 : Int32)), none, none, none, none]) dX12_together_91 (Nat.le_of_ble_eq_true rfl) rfl rfl rfl ?_
      exact wx_X12_together_93 S0 am_fu _ _ _ _ _ _ _ hres
    · rw [if_neg hc5] at hres
      refine am_iconst (pc' := 37) (v := 1) dX12_together_36 kc_1 rfl ?_
      refine am_istore (pc' := 39) (ls' := [some (.ref 45), none, some (.int v2), none, some (.int v4), some (.int (1 : Int32)), none, none, none, none, none, none]) dX12_together_37 (Nat.le_of_ble_eq_true rfl) rfl rfl rfl ?_
      exact wx_X12_together_39 S0 _ (fun a0 a1 a2 => ih a0 a1 a2) am_fu _ _ _ _ _ hres

set_option maxRecDepth 100000 in
set_option maxHeartbeats 4000000 in
theorem tx_X12_together (S0 : sx_T) (a1 : Int32) (a2 : Int32) (S : sm_T) (res : Int32 × sm_T) (hres : fx_X12_together a1 a2 S = some res) : am_T mX12_together 6 0 0 [.ref 45, .int a1, .int a2] (sx_w S0 (sm_w S)) (some (.int res.1)) (sx_w S0 (sm_w res.2)) := by
  refine am_meth (ls := [some (.ref 45), some (.int a1), some (.int a2), none, none, none, none, none, none, none, none, none]) (by decide +kernel) rfl (Nat.le_of_ble_eq_true rfl) (sm_len _ _ _ _) ?_
  rw [fx_X12_together] at hres
  refine am_aload_n (pc' := 1) 0 dX12_together_0 rfl rfl rfl ?_
  refine am_iload_n (pc' := 2) 1 dX12_together_1 rfl rfl rfl ?_
  obtain ⟨q1, hq2, hres⟩ := am_bd_s hres
  refine am_cV (pc' := 5) (st' := [.int q1.1]) [] [.int a1] dX12_together_2 cs_X12_197 (tx_X12_reads S0 a1 S _ hq2) rfl rfl rfl (sm_c45 S0 S) rfl rfl rfl rfl rfl ?_
  refine am_istore_n (pc' := 6) (ls' := [some (.ref 45), some (.int a1), some (.int a2), some (.int q1.1), none, none, none, none, none, none, none, none]) 3 dX12_together_5 rfl (Nat.le_of_ble_eq_true rfl) rfl rfl rfl ?_
  refine am_iload_n (pc' := 7) 3 dX12_together_6 rfl rfl rfl ?_
  refine am_if_eq (pc' := 10) 12 dX12_together_7 rfl rfl (fun hc3 => ?_) (fun hc3 => ?_)
  · rw [if_pos hc3] at hres
    refine am_iload_n (pc' := 13) 2 dX12_together_12 rfl rfl rfl ?_
    refine am_iconst (pc' := 14) (v := 0) dX12_together_13 kc_0 rfl ?_
    refine am_iconst (pc' := 15) (v := 1) dX12_together_14 kc_1 rfl ?_
    refine am_cS (pc' := 18) (st' := [.int (fx_X12_in a2 (0 : Int32) (1 : Int32))]) [] [.int a2, .int (0 : Int32), .int (1 : Int32)] dX12_together_15 cs_X12_90 (tx_X12_in (sx_w S0 (sm_w q1.2)) a2 (0 : Int32) (1 : Int32) _ rfl) rfl rfl rfl rfl rfl rfl ?_
    refine am_if_ne (pc' := 21) 24 dX12_together_18 rfl rfl (fun hc4 => ?_) (fun hc4 => ?_)
    · rw [if_neg hc4] at hres
      refine am_iconst (pc' := 25) (v := 0) dX12_together_24 kc_0 rfl ?_
      refine am_istore (pc' := 27) (ls' := [some (.ref 45), some (.int a1), some (.int a2), some (.int q1.1), some (.int (0 : Int32)), none, none, none, none, none, none, none]) dX12_together_25 (Nat.le_of_ble_eq_true rfl) rfl rfl rfl ?_
      refine am_weak (ls' := [some (.ref 45), none, some (.int a2), none, some (.int (0 : Int32)), none, none, none, none, none, none, none]) [false, true, false, true, false, false, false, false, false, false, false, false] rfl ?_
      exact wx_X12_together_27 S0 am_fu _ _ _ _ hres
    · rw [if_pos hc4] at hres
      refine am_bipush (pc' := 23) (v := (-7)) dX12_together_21 kb_m7 rfl ?_
      obtain rfl := Option.some.inj hres
      exact am_iret dX12_together_23 rfl rfl rfl
  · rw [if_neg hc3] at hres
    refine am_iload_n (pc' := 11) 3 dX12_together_10 rfl rfl rfl ?_
    obtain rfl := Option.some.inj hres
    exact am_iret dX12_together_11 rfl rfl rfl
set_option maxRecDepth 100000 in
set_option maxHeartbeats 4000000 in
theorem tx_X12_told (S0 : sx_T) (a1 : Int32) (a2 : Int32) (S : sm_T) (res : Int32) (hres : fx_X12_told a1 a2 S = some res) : am_T mX12_told 2 0 0 [.ref 45, .int a1, .int a2] (sx_w S0 (sm_w S)) (some (.int res)) (sx_w S0 (sm_w S)) := by
  refine am_meth (ls := [some (.ref 45), some (.int a1), some (.int a2)]) (by decide +kernel) rfl (Nat.le_of_ble_eq_true rfl) (sm_len _ _ _ _) ?_
  rw [fx_X12_told] at hres
  refine am_iload_n (pc' := 1) 1 dX12_told_0 rfl rfl rfl ?_
  refine am_cS (pc' := 4) (st' := [.int (fx_X12_isRoom a1)]) [] [.int a1] dX12_told_1 cs_X12_100 (tx_X12_isRoom (sx_w S0 (sm_w S)) a1 _ rfl) rfl rfl rfl rfl rfl rfl ?_
  refine am_if_ne (pc' := 7) 12 dX12_told_4 rfl rfl (fun hc1 => ?_) (fun hc1 => ?_)
  · rw [if_neg hc1] at hres
    refine am_iload_n (pc' := 13) 2 dX12_told_12 rfl rfl rfl ?_
    refine am_iconst (pc' := 14) (v := 0) dX12_told_13 kc_0 rfl ?_
    refine am_iconst (pc' := 15) (v := 1) dX12_told_14 kc_1 rfl ?_
    refine am_cS (pc' := 18) (st' := [.int (fx_X12_in a2 (0 : Int32) (1 : Int32))]) [] [.int a2, .int (0 : Int32), .int (1 : Int32)] dX12_told_15 cs_X12_90 (tx_X12_in (sx_w S0 (sm_w S)) a2 (0 : Int32) (1 : Int32) _ rfl) rfl rfl rfl rfl rfl rfl ?_
    refine am_if_eq (pc' := 21) 34 dX12_told_18 rfl rfl (fun hc2 => ?_) (fun hc2 => ?_)
    · rw [if_pos hc2] at hres
      refine am_bipush (pc' := 36) (v := (-7)) dX12_told_34 kb_m7 rfl ?_
      obtain rfl := Option.some.inj hres
      exact am_iret dX12_told_36 rfl rfl rfl
    · rw [if_neg hc2] at hres
      refine am_aload_n (pc' := 22) 0 dX12_told_21 rfl rfl rfl ?_
      refine am_get (pc' := 25) (v := .ref 49) dX12_told_22 fl_X12_19 (sm_c45 S0 S) rfl rfl ?_
      refine am_iconst (pc' := 26) (v := 2) dX12_told_25 kc_2 rfl ?_
      refine am_iload_n (pc' := 27) 1 dX12_told_26 rfl rfl rfl ?_
      refine am_imul (pc' := 28) dX12_told_27 rfl ?_
      refine am_iload_n (pc' := 29) 2 dX12_told_28 rfl rfl rfl ?_
      refine am_iadd (pc' := 30) dX12_told_29 rfl ?_
      obtain ⟨hr3, hres⟩ := am_rg hres
      refine am_iald (pc' := 31) (f := (sm_flat S)) dX12_told_30 (sm_c49 S0 S) hr3 rfl ?_
      refine am_goto 36 dX12_told_31 rfl ?_
      obtain rfl := Option.some.inj hres
      exact am_iret dX12_told_36 rfl rfl rfl
  · rw [if_pos hc1] at hres
    refine am_bipush (pc' := 9) (v := (-5)) dX12_told_7 kb_m5 rfl ?_
    refine am_goto 36 dX12_told_9 rfl ?_
    obtain rfl := Option.some.inj hres
    exact am_iret dX12_told_36 rfl rfl rfl
