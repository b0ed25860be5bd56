set_option maxRecDepth 100000 in
set_option maxHeartbeats 4000000 in
theorem tx_X4_advance (r : am_W) (S : sx_T) (res : sx_T) (hres : fx_X4_advance S = res) : am_T mX4_advance 1 0 0 [.ref 26] (sx_w S r) none (sx_w res r) := by
  refine am_meth (ls := [some (.ref 26)]) (by decide +kernel) rfl (Nat.le_of_ble_eq_true rfl) (sx_len _ _ _) ?_
  rw [fx_X4_advance] at hres
  refine am_aload_n (pc' := 1) 0 dX4_advance_0 rfl rfl rfl ?_
  refine am_get (pc' := 4) (v := .int (sx_rd_seen S)) dX4_advance_1 fl_X4_36 (sx_c26 S r) rfl rfl ?_
  refine am_iconst (pc' := 5) (v := 1) dX4_advance_4 kc_1 rfl ?_
  refine am_iadd (pc' := 6) dX4_advance_5 rfl ?_
  refine am_aload_n (pc' := 7) 0 dX4_advance_6 rfl rfl rfl ?_
  refine am_get (pc' := 10) (v := .int (sx_rd_known S)) dX4_advance_7 fl_X4_58 (sx_c26 S r) rfl rfl ?_
  refine am_icmp_ge (pc' := 13) 23 dX4_advance_10 rfl rfl (fun hc1 => ?_) (fun hc1 => ?_)
  · rw [if_pos hc1] at hres
    refine am_aload_n (pc' := 24) 0 dX4_advance_23 rfl rfl rfl ?_
    refine am_aload_n (pc' := 25) 0 dX4_advance_24 rfl rfl rfl ?_
    refine am_get (pc' := 28) (v := .ref 28) dX4_advance_25 fl_X4_15 (sx_c26 S r) rfl rfl ?_
    refine am_aload_n (pc' := 29) 0 dX4_advance_28 rfl rfl rfl ?_
    refine am_get (pc' := 32) (v := .int (sx_rd_seen S)) dX4_advance_29 fl_X4_36 (sx_c26 S r) rfl rfl ?_
    refine am_cSN (pc' := 35) (st' := [.int (am_rd 161 (sx_rd_tokens S) (sx_rd_seen S)), .ref 26]) [.ref 26] [.ref 28, .int (sx_rd_seen S)] dX4_advance_32 cs_X4_54 (tx_at (f := (sx_rd_tokens S)) (sx_c28 S r) rfl (sx_rd_seen S)) rfl rfl rfl rfl rfl rfl ?_
    refine am_put (pc' := 38) (ws' := (sx_w (ux_rd_token S (am_rd 161 (sx_rd_tokens S) (sx_rd_seen S))) r)) (v := .int (am_rd 161 (sx_rd_tokens S) (sx_rd_seen S))) dX4_advance_35 fp_X4_51 (sx_c26 S r) (fun _ => ⟨rfl, rfl⟩) (Nat.le_of_ble_eq_true rfl) (sx_p_rd_token S r _) rfl ?_
    subst hres
    exact am_vret dX4_advance_38 rfl rfl rfl
  · rw [if_neg hc1] at hres
    refine am_aload_n (pc' := 14) 0 dX4_advance_13 rfl rfl rfl ?_
    refine am_dupa (pc' := 15) dX4_advance_14 rfl ?_
    refine am_get (pc' := 18) (v := .int (sx_rd_seen S)) dX4_advance_15 fl_X4_36 (sx_c26 S r) rfl rfl ?_
    refine am_iconst (pc' := 19) (v := 1) dX4_advance_18 kc_1 rfl ?_
    refine am_iadd (pc' := 20) dX4_advance_19 rfl ?_
    refine am_put (pc' := 23) (ws' := (sx_w (ux_rd_seen S ((sx_rd_seen S) + (1 : Int32))) r)) (v := .int ((sx_rd_seen S) + (1 : Int32))) dX4_advance_20 fp_X4_36 (sx_c26 S r) (fun _ => ⟨rfl, rfl⟩) (Nat.le_of_ble_eq_true rfl) (sx_p_rd_seen S r _) rfl ?_
    refine am_aload_n (pc' := 24) 0 dX4_advance_23 rfl rfl rfl ?_
    refine am_aload_n (pc' := 25) 0 dX4_advance_24 rfl rfl rfl ?_
    refine am_get (pc' := 28) (v := .ref 28) dX4_advance_25 fl_X4_15 (sx_c26 (ux_rd_seen S ((sx_rd_seen S) + (1 : Int32))) r) rfl rfl ?_
    refine am_aload_n (pc' := 29) 0 dX4_advance_28 rfl rfl rfl ?_
    refine am_get (pc' := 32) (v := .int ((sx_rd_seen S) + (1 : Int32))) dX4_advance_29 fl_X4_36 (sx_c26 (ux_rd_seen S ((sx_rd_seen S) + (1 : Int32))) r) rfl rfl ?_
    refine am_cSN (pc' := 35) (st' := [.int (am_rd 161 (sx_rd_tokens S) ((sx_rd_seen S) + (1 : Int32))), .ref 26]) [.ref 26] [.ref 28, .int ((sx_rd_seen S) + (1 : Int32))] dX4_advance_32 cs_X4_54 (tx_at (f := (sx_rd_tokens S)) (sx_c28 (ux_rd_seen S ((sx_rd_seen S) + (1 : Int32))) r) rfl ((sx_rd_seen S) + (1 : Int32))) rfl rfl rfl rfl rfl rfl ?_
    refine am_put (pc' := 38) (ws' := (sx_w (ux_rd_token (ux_rd_seen S ((sx_rd_seen S) + (1 : Int32))) (am_rd 161 (sx_rd_tokens S) ((sx_rd_seen S) + (1 : Int32)))) r)) (v := .int (am_rd 161 (sx_rd_tokens S) ((sx_rd_seen S) + (1 : Int32)))) dX4_advance_35 fp_X4_51 (sx_c26 (ux_rd_seen S ((sx_rd_seen S) + (1 : Int32))) r) (fun _ => ⟨rfl, rfl⟩) (Nat.le_of_ble_eq_true rfl) (sx_p_rd_token (ux_rd_seen S ((sx_rd_seen S) + (1 : Int32))) r _) rfl ?_
    subst hres
    exact am_vret dX4_advance_38 rfl rfl rfl
set_option maxRecDepth 100000 in
set_option maxHeartbeats 4000000 in
theorem tx_X4_passed (r : am_W) (a1 : Int32) (S : sx_T) (res : Int32 × sx_T) (hres : fx_X4_passed a1 S = res) : am_T mX4_passed 2 0 0 [.ref 26, .int a1] (sx_w S r) (some (.int res.1)) (sx_w res.2 r) := by
  refine am_meth (ls := [some (.ref 26), some (.int a1)]) (by decide +kernel) rfl (Nat.le_of_ble_eq_true rfl) (sx_len _ _ _) ?_
  rw [fx_X4_passed] at hres
  refine am_aload_n (pc' := 1) 0 dX4_passed_0 rfl rfl rfl ?_
  refine am_get (pc' := 4) (v := .int (sx_rd_token S)) dX4_passed_1 fl_X4_51 (sx_c26 S r) rfl rfl ?_
  refine am_iload_n (pc' := 5) 1 dX4_passed_4 rfl rfl rfl ?_
  refine am_icmp_eq (pc' := 8) 10 dX4_passed_5 rfl rfl (fun hc1 => ?_) (fun hc1 => ?_)
  · rw [if_pos hc1] at hres
    refine am_aload_n (pc' := 11) 0 dX4_passed_10 rfl rfl rfl ?_
    obtain ⟨q2, hq3, hres⟩ := am_let_s hres
    refine am_cV (pc' := 14) (st' := []) [] [] dX4_passed_11 cs_X4_39 (tx_X4_advance r S _ hq3) rfl rfl rfl (sx_c26 S r) rfl rfl rfl rfl rfl ?_
    refine am_iconst (pc' := 15) (v := 1) dX4_passed_14 kc_1 rfl ?_
    subst hres
    exact am_zret dX4_passed_15 rfl rfl rfl rfl
  · rw [if_neg hc1] at hres
    refine am_iconst (pc' := 9) (v := 0) dX4_passed_8 kc_0 rfl ?_
    subst hres
    exact am_zret dX4_passed_9 rfl rfl rfl rfl
set_option maxRecDepth 100000 in
set_option maxHeartbeats 4000000 in
theorem tx_X11_within (ws : am_W) (a1 : Int32) (a2 : Int32) (res : Int32) (hres : fx_X11_within a1 a2 = res) : am_T mX11_within 0 0 0 [.int a1, .int a2] ws (some (.int res)) ws := by
  refine am_meth (ls := [some (.int a1), some (.int a2)]) (by decide +kernel) rfl (Nat.le_of_ble_eq_true rfl) ⟨rfl, Or.inl rfl⟩ ?_
  rw [fx_X11_within] at hres
  refine am_iload_n (pc' := 1) 0 dX11_within_0 rfl rfl rfl ?_
  refine am_if_lt (pc' := 4) 13 dX11_within_1 rfl rfl (fun hc1 => ?_) (fun hc1 => ?_)
  · rw [if_pos hc1] at hres
    refine am_iconst (pc' := 14) (v := 0) dX11_within_13 kc_0 rfl ?_
    subst hres
    exact am_zret dX11_within_14 rfl rfl rfl rfl
  · rw [if_neg hc1] at hres
    refine am_iload_n (pc' := 5) 0 dX11_within_4 rfl rfl rfl ?_
    refine am_iload_n (pc' := 6) 1 dX11_within_5 rfl rfl rfl ?_
    refine am_icmp_ge (pc' := 9) 13 dX11_within_6 rfl rfl (fun hc2 => ?_) (fun hc2 => ?_)
    · rw [if_pos hc2] at hres
      refine am_iconst (pc' := 14) (v := 0) dX11_within_13 kc_0 rfl ?_
      subst hres
      exact am_zret dX11_within_14 rfl rfl rfl rfl
    · rw [if_neg hc2] at hres
      refine am_iconst (pc' := 10) (v := 1) dX11_within_9 kc_1 rfl ?_
      refine am_goto 14 dX11_within_10 rfl ?_
      subst hres
      exact am_zret dX11_within_14 rfl rfl rfl rfl
theorem bz_X11_within (a1 : Int32) (a2 : Int32) : narrow .boolean (.int (fx_X11_within a1 a2)) = .int (fx_X11_within a1 a2) := by
  rw [fx_X11_within]
  repeat' (first | refine nb_ite ?_ ?_ | rfl)
set_option maxRecDepth 100000 in
set_option maxHeartbeats 4000000 in
theorem tx_X8_isName (ws : am_W) (a1 : Int32) (res : Int32) (hres : fx_X8_isName a1 = res) : am_T mX8_isName 0 0 0 [.int a1] ws (some (.int res)) ws := by
  refine am_meth (ls := [some (.int a1)]) (by decide +kernel) rfl (Nat.le_of_ble_eq_true rfl) ⟨rfl, Or.inl rfl⟩ ?_
  rw [fx_X8_isName] at hres
  refine am_iload_n (pc' := 1) 0 dX8_isName_0 rfl rfl rfl ?_
  refine am_bipush (pc' := 3) (v := (-10)) dX8_isName_1 kb_m10 rfl ?_
  refine am_icmp_gt (pc' := 6) 16 dX8_isName_3 rfl rfl (fun hc1 => ?_) (fun hc1 => ?_)
  · rw [if_pos hc1] at hres
    refine am_iconst (pc' := 17) (v := 0) dX8_isName_16 kc_0 rfl ?_
    subst hres
    exact am_zret dX8_isName_17 rfl rfl rfl rfl
  · rw [if_neg hc1] at hres
    refine am_iload_n (pc' := 7) 0 dX8_isName_6 rfl rfl rfl ?_
    refine am_bipush (pc' := 9) (v := (-15)) dX8_isName_7 kb_m15 rfl ?_
    refine am_icmp_lt (pc' := 12) 16 dX8_isName_9 rfl rfl (fun hc2 => ?_) (fun hc2 => ?_)
    · rw [if_pos hc2] at hres
      refine am_iconst (pc' := 17) (v := 0) dX8_isName_16 kc_0 rfl ?_
      subst hres
      exact am_zret dX8_isName_17 rfl rfl rfl rfl
    · rw [if_neg hc2] at hres
      refine am_iconst (pc' := 13) (v := 1) dX8_isName_12 kc_1 rfl ?_
      refine am_goto 17 dX8_isName_13 rfl ?_
      subst hres
      exact am_zret dX8_isName_17 rfl rfl rfl rfl
theorem bz_X8_isName (a1 : Int32) : narrow .boolean (.int (fx_X8_isName a1)) = .int (fx_X8_isName a1) := by
  rw [fx_X8_isName]
  repeat' (first | refine nb_ite ?_ ?_ | rfl)
set_option maxRecDepth 100000 in
set_option maxHeartbeats 4000000 in
theorem tx_X8_add (r : am_W) (a1 : Int32) (S : sx_T) (res : Int32 × sx_T) (hres : fx_X8_add a1 S = res) : am_T mX8_add 1 0 0 [.ref 21, .int a1] (sx_w S r) (some (.int res.1)) (sx_w res.2 r) := by
  refine am_meth (ls := [some (.ref 21), some (.int a1)]) (by decide +kernel) rfl (Nat.le_of_ble_eq_true rfl) (sx_len _ _ _) ?_
  rw [fx_X8_add] at hres
  refine am_aload_n (pc' := 1) 0 dX8_add_0 rfl rfl rfl ?_
  refine am_get (pc' := 4) (v := .int (sx_tx_count S)) dX8_add_1 fl_X8_24 (sx_c21 S r) rfl rfl ?_
  refine am_bipush (pc' := 6) (v := 6) dX8_add_4 kb_6 rfl ?_
  refine am_cSN (pc' := 9) (st' := [.int (fx_X11_within (sx_tx_count S) (6 : Int32))]) [] [.int (sx_tx_count S), .int (6 : Int32)] dX8_add_6 cs_X8_34 (tx_X11_within (sx_w S r) (sx_tx_count S) (6 : Int32) _ rfl) rfl rfl rfl rfl rfl rfl ?_
  refine am_if_eq (pc' := 12) 29 dX8_add_9 rfl rfl (fun hc1 => ?_) (fun hc1 => ?_)
  · rw [if_pos hc1] at hres
    refine am_iconst (pc' := 30) (v := 0) dX8_add_29 kc_0 rfl ?_
    subst hres
    exact am_zret dX8_add_30 rfl rfl rfl rfl
  · rw [if_neg hc1] at hres
    refine am_aload_n (pc' := 13) 0 dX8_add_12 rfl rfl rfl ?_
    refine am_get (pc' := 16) (v := .int (sx_tx_written S)) dX8_add_13 fl_X8_28 (sx_c21 S r) rfl rfl ?_
    refine am_aload_n (pc' := 17) 0 dX8_add_16 rfl rfl rfl ?_
    refine am_get (pc' := 20) (v := .int (sx_tx_count S)) dX8_add_17 fl_X8_24 (sx_c21 S r) rfl rfl ?_
    refine am_iconst (pc' := 21) (v := 1) dX8_add_20 kc_1 rfl ?_
    refine am_iadd (pc' := 22) dX8_add_21 rfl ?_
    refine am_sipush (pc' := 25) (v := 160) dX8_add_22 ks_160 rfl ?_
    refine am_imul (pc' := 26) dX8_add_25 rfl ?_
    refine am_icmp_lt (pc' := 29) 31 dX8_add_26 rfl rfl (fun hc2 => ?_) (fun hc2 => ?_)
    · rw [if_pos hc2] at hres
      refine am_aload_n (pc' := 32) 0 dX8_add_31 rfl rfl rfl ?_
      refine am_get (pc' := 35) (v := .ref 22) dX8_add_32 fl_X8_9 (sx_c21 S r) rfl rfl ?_
      refine am_aload_n (pc' := 36) 0 dX8_add_35 rfl rfl rfl ?_
      refine am_get (pc' := 39) (v := .int (sx_tx_written S)) dX8_add_36 fl_X8_28 (sx_c21 S r) rfl rfl ?_
      refine am_iload_n (pc' := 40) 1 dX8_add_39 rfl rfl rfl ?_
      refine am_cSN (pc' := 43) (st' := []) [] [.ref 22, .int (sx_tx_written S), .int a1] dX8_add_40 cs_X8_38 (tx_set (f := (sx_tx_steps S)) (w1 := (sx_w (ux_tx_steps S (am_up 960 (sx_tx_steps S) (sx_tx_written S) a1)) r)) (sx_c22 S r) rfl (sx_tx_written S) a1 (sx_p_tx_steps S r _)) rfl rfl rfl rfl rfl rfl ?_
      refine am_aload_n (pc' := 44) 0 dX8_add_43 rfl rfl rfl ?_
      refine am_dupa (pc' := 45) dX8_add_44 rfl ?_
      refine am_get (pc' := 48) (v := .int (sx_tx_written S)) dX8_add_45 fl_X8_28 (sx_c21 (ux_tx_steps S (am_up 960 (sx_tx_steps S) (sx_tx_written S) a1)) r) rfl rfl ?_
      refine am_iconst (pc' := 49) (v := 1) dX8_add_48 kc_1 rfl ?_
      refine am_iadd (pc' := 50) dX8_add_49 rfl ?_
      refine am_put (pc' := 53) (ws' := (sx_w (ux_tx_written (ux_tx_steps S (am_up 960 (sx_tx_steps S) (sx_tx_written S) a1)) ((sx_tx_written S) + (1 : Int32))) r)) (v := .int ((sx_tx_written S) + (1 : Int32))) dX8_add_50 fp_X8_28 (sx_c21 (ux_tx_steps S (am_up 960 (sx_tx_steps S) (sx_tx_written S) a1)) r) (fun _ => ⟨rfl, rfl⟩) (Nat.le_of_ble_eq_true rfl) (sx_p_tx_written (ux_tx_steps S (am_up 960 (sx_tx_steps S) (sx_tx_written S) a1)) r _) rfl ?_
      refine am_iload_n (pc' := 54) 1 dX8_add_53 rfl rfl rfl ?_
      refine am_cS (pc' := 57) (st' := [.int (fx_X8_isName a1)]) [] [.int a1] dX8_add_54 cs_X8_42 (tx_X8_isName (sx_w (ux_tx_written (ux_tx_steps S (am_up 960 (sx_tx_steps S) (sx_tx_written S) a1)) ((sx_tx_written S) + (1 : Int32))) r) a1 _ rfl) rfl rfl rfl rfl rfl rfl ?_
      refine am_if_eq (pc' := 60) 75 dX8_add_57 rfl rfl (fun hc3 => ?_) (fun hc3 => ?_)
      · rw [if_pos hc3] at hres
        refine am_iconst (pc' := 76) (v := 1) dX8_add_75 kc_1 rfl ?_
        subst hres
        exact am_zret dX8_add_76 rfl rfl rfl rfl
      · rw [if_neg hc3] at hres
        refine am_aload_n (pc' := 61) 0 dX8_add_60 rfl rfl rfl ?_
        refine am_dupa (pc' := 62) dX8_add_61 rfl ?_
        refine am_get (pc' := 65) (v := .int (sx_tx_names S)) dX8_add_62 fl_X8_31 (sx_c21 (ux_tx_written (ux_tx_steps S (am_up 960 (sx_tx_steps S) (sx_tx_written S) a1)) ((sx_tx_written S) + (1 : Int32))) r) rfl rfl ?_
        refine am_iconst (pc' := 66) (v := 1) dX8_add_65 kc_1 rfl ?_
        refine am_bipush (pc' := 68) (v := (-10)) dX8_add_66 kb_m10 rfl ?_
        refine am_iload_n (pc' := 69) 1 dX8_add_68 rfl rfl rfl ?_
        refine am_isub (pc' := 70) dX8_add_69 rfl ?_
        refine am_ishl (pc' := 71) dX8_add_70 rfl ?_
        refine am_ior (pc' := 72) dX8_add_71 rfl ?_
        refine am_put (pc' := 75) (ws' := (sx_w (ux_tx_names (ux_tx_written (ux_tx_steps S (am_up 960 (sx_tx_steps S) (sx_tx_written S) a1)) ((sx_tx_written S) + (1 : Int32))) ((sx_tx_names S) ||| ((1 : Int32) <<< (((-10 : Int32) - a1) &&& 31)))) r)) (v := .int ((sx_tx_names S) ||| ((1 : Int32) <<< (((-10 : Int32) - a1) &&& 31)))) dX8_add_72 fp_X8_31 (sx_c21 (ux_tx_written (ux_tx_steps S (am_up 960 (sx_tx_steps S) (sx_tx_written S) a1)) ((sx_tx_written S) + (1 : Int32))) r) (fun _ => ⟨rfl, rfl⟩) (Nat.le_of_ble_eq_true rfl) (sx_p_tx_names (ux_tx_written (ux_tx_steps S (am_up 960 (sx_tx_steps S) (sx_tx_written S) a1)) ((sx_tx_written S) + (1 : Int32))) r _) rfl ?_
        refine am_iconst (pc' := 76) (v := 1) dX8_add_75 kc_1 rfl ?_
        subst hres
        exact am_zret dX8_add_76 rfl rfl rfl rfl
    · rw [if_neg hc2] at hres
      refine am_iconst (pc' := 30) (v := 0) dX8_add_29 kc_0 rfl ?_
      subst hres
      exact am_zret dX8_add_30 rfl rfl rfl rfl
set_option maxRecDepth 100000 in
set_option maxHeartbeats 4000000 in
theorem wx_X4_readTerm_8 (r : am_W) (fOne : Int32 → sx_T → Option (Int32 × sx_T)) (dOne : Nat) (dd : Nat) (eOne : dOne + 4 ≤ dd) (hOne : ∀ (a : Int32) (S : sx_T) (res : Int32 × sx_T), fOne a S = some res → am_T mX4_readOne dOne 0 0 [.ref 26, .int a] (sx_w S r) (some (.int res.1)) (sx_w res.2 r)) (e4 : 4 ≤ dd) : ∀ (n : Nat) (v1 : Int32) (v2 : Int32) (v3 : Int32) (S : sx_T) (res : Int32 × sx_T) (hres : fx_X4_readTerm_8 fOne n v1 v2 v3 S = some res), am_G mX4_readTerm (none, dd, 0, 0, (some (.int res.1)), (sx_w res.2 r)) (0, 0) 8 [some (.ref 26), some (.int v1), some (.int v2), some (.int v3)] [] (sx_w S r) := by
  intro n
  induction n with
  | zero =>
    intro v1 v2 v3 S res hres
    cases hres
  | succ n ih =>
    intro v1 v2 v3 S res hres
    rw [fx_X4_readTerm_8] at hres
    refine am_iload_n (pc' := 9) 3 dX4_readTerm_8 rfl rfl rfl ?_
    refine am_sipush (pc' := 12) (v := 160) dX4_readTerm_9 ks_160 rfl ?_
    refine am_icmp_ge (pc' := 15) 60 dX4_readTerm_12 rfl rfl (fun hc3 => ?_) (fun hc3 => ?_)
    · rw [if_pos hc3] at hres
      refine am_iload_n (pc' := 61) 2 dX4_readTerm_60 rfl rfl rfl ?_
      obtain ⟨hbz, hres⟩ := am_bz_s hres
      subst hres
      exact am_zret dX4_readTerm_61 rfl hbz rfl rfl
    · rw [if_neg hc3] at hres
      refine am_iload_n (pc' := 16) 2 dX4_readTerm_15 rfl rfl rfl ?_
      refine am_if_eq (pc' := 19) 60 dX4_readTerm_16 rfl rfl (fun hc4 => ?_) (fun hc4 => ?_)
      · rw [if_pos hc4] at hres
        refine am_iload_n (pc' := 61) 2 dX4_readTerm_60 rfl rfl rfl ?_
        obtain ⟨hbz, hres⟩ := am_bz_s hres
        subst hres
        exact am_zret dX4_readTerm_61 rfl hbz rfl rfl
      · rw [if_neg hc4] at hres
        refine am_aload_n (pc' := 20) 0 dX4_readTerm_19 rfl rfl rfl ?_
        refine am_bipush (pc' := 22) (v := (-42)) dX4_readTerm_20 kb_m42 rfl ?_
        obtain ⟨q5, hq6, hres⟩ := am_let_s hres
        refine am_cV (pc' := 25) (st' := [.int q5.1]) [] [.int (-42 : Int32)] dX4_readTerm_22 cs_X4_120 (tx_X4_passed r (-42 : Int32) S _ hq6) rfl rfl rfl (sx_c26 S r) rfl rfl rfl (am_rbh (by omega) (Nat.le_of_ble_eq_true rfl)) rfl ?_
        refine am_if_eq (pc' := 28) 60 dX4_readTerm_25 rfl rfl (fun hc7 => ?_) (fun hc7 => ?_)
        · rw [if_pos hc7] at hres
          refine am_iload_n (pc' := 61) 2 dX4_readTerm_60 rfl rfl rfl ?_
          obtain ⟨hbz, hres⟩ := am_bz_s hres
          subst hres
          exact am_zret dX4_readTerm_61 rfl hbz rfl rfl
        · rw [if_neg hc7] at hres
          refine am_aload_n (pc' := 29) 0 dX4_readTerm_28 rfl rfl rfl ?_
          refine am_iload_n (pc' := 30) 1 dX4_readTerm_29 rfl rfl rfl ?_
          obtain ⟨q8, hq9, hres⟩ := am_bd_s hres
          refine am_cV (pc' := 33) (st' := [.int q8.1]) [] [.int v1] dX4_readTerm_30 cs_X4_145 (hOne v1 q5.2 _ hq9) rfl rfl rfl (sx_c26 q5.2 r) rfl rfl rfl (am_rbh (by omega) (Nat.le_of_ble_eq_true rfl)) rfl ?_
          refine am_if_eq (pc' := 36) 52 dX4_readTerm_33 rfl rfl (fun hc10 => ?_) (fun hc10 => ?_)
          · rw [if_pos hc10] at hres
            refine am_iconst (pc' := 53) (v := 0) dX4_readTerm_52 kc_0 rfl ?_
            refine am_istore_n (pc' := 54) (ls' := [some (.ref 26), some (.int v1), some (.int (0 : Int32)), some (.int v3)]) 2 dX4_readTerm_53 rfl (Nat.le_of_ble_eq_true rfl) rfl rfl rfl ?_
            refine am_iinc (pc' := 57) (ls' := [some (.ref 26), some (.int v1), some (.int (0 : Int32)), some (.int (v3 + (1 : Int32)))]) dX4_readTerm_54 rfl (show v3 + Int32.ofInt 1 = (v3 + (1 : Int32)) from congrArg (fun z => v3 + z) kc_1) (Nat.le_of_ble_eq_true rfl) rfl rfl rfl ?_
            refine am_goto 8 dX4_readTerm_57 rfl ?_
            exact ih _ _ _ _ _ hres
          · rw [if_neg hc10] at hres
            refine am_aload_n (pc' := 37) 0 dX4_readTerm_36 rfl rfl rfl ?_
            refine am_get (pc' := 40) (v := .ref 21) dX4_readTerm_37 fl_X4_21 (sx_c26 q8.2 r) rfl rfl ?_
            refine am_bipush (pc' := 42) (v := (-42)) dX4_readTerm_40 kb_m42 rfl ?_
            obtain ⟨q11, hq12, hres⟩ := am_let_s hres
            refine am_cV (pc' := 45) (st' := [.int q11.1]) [] [.int (-42 : Int32)] dX4_readTerm_42 cs_X4_133 (tx_X8_add r (-42 : Int32) q8.2 _ hq12) rfl rfl rfl (sx_c21 q8.2 r) rfl rfl rfl (am_rbh (by omega) (Nat.le_of_ble_eq_true rfl)) rfl ?_
            refine am_if_eq (pc' := 48) 52 dX4_readTerm_45 rfl rfl (fun hc13 => ?_) (fun hc13 => ?_)
            · rw [if_pos hc13] at hres
              refine am_iconst (pc' := 53) (v := 0) dX4_readTerm_52 kc_0 rfl ?_
              refine am_istore_n (pc' := 54) (ls' := [some (.ref 26), some (.int v1), some (.int (0 : Int32)), some (.int v3)]) 2 dX4_readTerm_53 rfl (Nat.le_of_ble_eq_true rfl) rfl rfl rfl ?_
              refine am_iinc (pc' := 57) (ls' := [some (.ref 26), some (.int v1), some (.int (0 : Int32)), some (.int (v3 + (1 : Int32)))]) dX4_readTerm_54 rfl (show v3 + Int32.ofInt 1 = (v3 + (1 : Int32)) from congrArg (fun z => v3 + z) kc_1) (Nat.le_of_ble_eq_true rfl) rfl rfl rfl ?_
              refine am_goto 8 dX4_readTerm_57 rfl ?_
              exact ih _ _ _ _ _ hres
            · rw [if_neg hc13] at hres
              refine am_iconst (pc' := 49) (v := 1) dX4_readTerm_48 kc_1 rfl ?_
              refine am_goto 53 dX4_readTerm_49 rfl ?_
              refine am_istore_n (pc' := 54) (ls' := [some (.ref 26), some (.int v1), some (.int (1 : Int32)), some (.int v3)]) 2 dX4_readTerm_53 rfl (Nat.le_of_ble_eq_true rfl) rfl rfl rfl ?_
              refine am_iinc (pc' := 57) (ls' := [some (.ref 26), some (.int v1), some (.int (1 : Int32)), some (.int (v3 + (1 : Int32)))]) dX4_readTerm_54 rfl (show v3 + Int32.ofInt 1 = (v3 + (1 : Int32)) from congrArg (fun z => v3 + z) kc_1) (Nat.le_of_ble_eq_true rfl) rfl rfl rfl ?_
              refine am_goto 8 dX4_readTerm_57 rfl ?_
              exact ih _ _ _ _ _ hres

set_option maxRecDepth 100000 in
set_option maxHeartbeats 4000000 in
theorem tx_X4_readTerm (r : am_W) (fOne : Int32 → sx_T → Option (Int32 × sx_T)) (dOne : Nat) (dd : Nat) (eOne : dOne + 4 ≤ dd) (hOne : ∀ (a : Int32) (S : sx_T) (res : Int32 × sx_T), fOne a S = some res → am_T mX4_readOne dOne 0 0 [.ref 26, .int a] (sx_w S r) (some (.int res.1)) (sx_w res.2 r)) (e4 : 4 ≤ dd) (a1 : Int32) (S : sx_T) (res : Int32 × sx_T) (hres : fx_X4_readTerm fOne a1 S = some res) : am_T mX4_readTerm dd 0 0 [.ref 26, .int a1] (sx_w S r) (some (.int res.1)) (sx_w res.2 r) := by
  refine am_meth (ls := [some (.ref 26), some (.int a1), none, none]) (by decide +kernel) rfl (Nat.le_of_ble_eq_true rfl) (sx_len _ _ _) ?_
  rw [fx_X4_readTerm] at hres
  refine am_aload_n (pc' := 1) 0 dX4_readTerm_0 rfl rfl rfl ?_
  refine am_iload_n (pc' := 2) 1 dX4_readTerm_1 rfl rfl rfl ?_
  obtain ⟨q1, hq2, hres⟩ := am_bd_s hres
  refine am_cV (pc' := 5) (st' := [.int q1.1]) [] [.int a1] dX4_readTerm_2 cs_X4_145 (hOne a1 S _ hq2) rfl rfl rfl (sx_c26 S r) rfl rfl rfl (am_rbh (by omega) (Nat.le_of_ble_eq_true rfl)) rfl ?_
  refine am_istore_n (pc' := 6) (ls' := [some (.ref 26), some (.int a1), some (.int q1.1), none]) 2 dX4_readTerm_5 rfl (Nat.le_of_ble_eq_true rfl) rfl rfl rfl ?_
  refine am_iconst (pc' := 7) (v := 0) dX4_readTerm_6 kc_0 rfl ?_
  refine am_istore_n (pc' := 8) (ls' := [some (.ref 26), some (.int a1), some (.int q1.1), some (.int (0 : Int32))]) 3 dX4_readTerm_7 rfl (Nat.le_of_ble_eq_true rfl) rfl rfl rfl ?_
  exact wx_X4_readTerm_8 r fOne dOne dd eOne hOne e4 am_fu _ _ _ _ _ hres
set_option maxRecDepth 100000 in
set_option maxHeartbeats 4000000 in
theorem wx_X4_readSum_37 (r : am_W) (fTerm : Int32 → sx_T → Option (Int32 × sx_T)) (dTerm : Nat) (dd : Nat) (eTerm : dTerm + 4 ≤ dd) (hTerm : ∀ (a : Int32) (S : sx_T) (res : Int32 × sx_T), fTerm a S = some res → am_T mX4_readTerm dTerm 0 0 [.ref 26, .int a] (sx_w S r) (some (.int res.1)) (sx_w res.2 r)) (e4 : 4 ≤ dd) (k8 : Int32 → Int32 → Int32 → sx_T → Option (Int32 × sx_T)) (hk8 : ∀ (v1 : Int32) (v2 : Int32) (v3 : Int32) (S : sx_T) (res : Int32 × sx_T), k8 v1 v2 v3 S = some res → am_G mX4_readSum (none, dd, 0, 0, (some (.int res.1)), (sx_w res.2 r)) (0, 0) 8 [some (.ref 26), some (.int v1), some (.int v2), some (.int v3), none] [] (sx_w S r)) : ∀ (v1 : Int32) (v3 : Int32) (S : sx_T) (res : Int32 × sx_T) (hres : fx_X4_readSum_37 fTerm k8 v1 v3 S = some res), am_G mX4_readSum (none, dd, 0, 0, (some (.int res.1)), (sx_w res.2 r)) (0, 0) 37 [some (.ref 26), some (.int v1), none, some (.int v3), none] [] (sx_w S r) := by
  intro v1 v3 S res hres
  rw [fx_X4_readSum_37] at hres
  refine am_aload_n (pc' := 38) 0 dX4_readSum_37 rfl rfl rfl ?_
  refine am_get (pc' := 41) (v := .int (sx_rd_token S)) dX4_readSum_38 fl_X4_51 (sx_c26 S r) rfl rfl ?_
  refine am_istore (pc' := 43) (ls' := [some (.ref 26), some (.int v1), none, some (.int v3), some (.int (sx_rd_token S))]) dX4_readSum_41 (Nat.le_of_ble_eq_true rfl) rfl rfl rfl ?_
  refine am_aload_n (pc' := 44) 0 dX4_readSum_43 rfl rfl rfl ?_
  obtain ⟨q6, hq7, hres⟩ := am_let_s hres
  refine am_cV (pc' := 47) (st' := []) [] [] dX4_readSum_44 cs_X4_39 (tx_X4_advance r S _ hq7) rfl rfl rfl (sx_c26 S r) rfl rfl rfl (am_rbh (by omega) (Nat.le_of_ble_eq_true rfl)) rfl ?_
  refine am_aload_n (pc' := 48) 0 dX4_readSum_47 rfl rfl rfl ?_
  refine am_iload_n (pc' := 49) 1 dX4_readSum_48 rfl rfl rfl ?_
  obtain ⟨q8, hq9, hres⟩ := am_bd_s hres
  refine am_cV (pc' := 52) (st' := [.int q8.1]) [] [.int v1] dX4_readSum_49 cs_X4_142 (hTerm v1 q6 _ hq9) rfl rfl rfl (sx_c26 q6 r) rfl rfl rfl (am_rbh (by omega) (Nat.le_of_ble_eq_true rfl)) rfl ?_
  refine am_if_eq (pc' := 55) 71 dX4_readSum_52 rfl rfl (fun hc10 => ?_) (fun hc10 => ?_)
  · rw [if_pos hc10] at hres
    refine am_iconst (pc' := 72) (v := 0) dX4_readSum_71 kc_0 rfl ?_
    refine am_istore_n (pc' := 73) (ls' := [some (.ref 26), some (.int v1), some (.int (0 : Int32)), some (.int v3), some (.int (sx_rd_token S))]) 2 dX4_readSum_72 rfl (Nat.le_of_ble_eq_true rfl) rfl rfl rfl ?_
    refine am_iinc (pc' := 76) (ls' := [some (.ref 26), some (.int v1), some (.int (0 : Int32)), some (.int (v3 + (1 : Int32))), some (.int (sx_rd_token S))]) dX4_readSum_73 rfl (show v3 + Int32.ofInt 1 = (v3 + (1 : Int32)) from congrArg (fun z => v3 + z) kc_1) (Nat.le_of_ble_eq_true rfl) rfl rfl rfl ?_
    refine am_goto 8 dX4_readSum_76 rfl ?_
    refine am_weak (ls' := [some (.ref 26), some (.int v1), some (.int (0 : Int32)), some (.int (v3 + (1 : Int32))), none]) [false, false, false, false, true] rfl ?_
    exact hk8 _ _ _ _ _ hres
  · rw [if_neg hc10] at hres
    refine am_aload_n (pc' := 56) 0 dX4_readSum_55 rfl rfl rfl ?_
    refine am_get (pc' := 59) (v := .ref 21) dX4_readSum_56 fl_X4_21 (sx_c26 q8.2 r) rfl rfl ?_
    refine am_iload (pc' := 61) dX4_readSum_59 rfl rfl ?_
    obtain ⟨q11, hq12, hres⟩ := am_let_s hres
    refine am_cV (pc' := 64) (st' := [.int q11.1]) [] [.int (sx_rd_token S)] dX4_readSum_61 cs_X4_133 (tx_X8_add r (sx_rd_token S) q8.2 _ hq12) rfl rfl rfl (sx_c21 q8.2 r) rfl rfl rfl (am_rbh (by omega) (Nat.le_of_ble_eq_true rfl)) rfl ?_
    refine am_if_eq (pc' := 67) 71 dX4_readSum_64 rfl rfl (fun hc13 => ?_) (fun hc13 => ?_)
    · rw [if_pos hc13] at hres
      refine am_iconst (pc' := 72) (v := 0) dX4_readSum_71 kc_0 rfl ?_
      refine am_istore_n (pc' := 73) (ls' := [some (.ref 26), some (.int v1), some (.int (0 : Int32)), some (.int v3), some (.int (sx_rd_token S))]) 2 dX4_readSum_72 rfl (Nat.le_of_ble_eq_true rfl) rfl rfl rfl ?_
      refine am_iinc (pc' := 76) (ls' := [some (.ref 26), some (.int v1), some (.int (0 : Int32)), some (.int (v3 + (1 : Int32))), some (.int (sx_rd_token S))]) dX4_readSum_73 rfl (show v3 + Int32.ofInt 1 = (v3 + (1 : Int32)) from congrArg (fun z => v3 + z) kc_1) (Nat.le_of_ble_eq_true rfl) rfl rfl rfl ?_
      refine am_goto 8 dX4_readSum_76 rfl ?_
      refine am_weak (ls' := [some (.ref 26), some (.int v1), some (.int (0 : Int32)), some (.int (v3 + (1 : Int32))), none]) [false, false, false, false, true] rfl ?_
      exact hk8 _ _ _ _ _ hres
    · rw [if_neg hc13] at hres
      refine am_iconst (pc' := 68) (v := 1) dX4_readSum_67 kc_1 rfl ?_
      refine am_goto 72 dX4_readSum_68 rfl ?_
      refine am_istore_n (pc' := 73) (ls' := [some (.ref 26), some (.int v1), some (.int (1 : Int32)), some (.int v3), some (.int (sx_rd_token S))]) 2 dX4_readSum_72 rfl (Nat.le_of_ble_eq_true rfl) rfl rfl rfl ?_
      refine am_iinc (pc' := 76) (ls' := [some (.ref 26), some (.int v1), some (.int (1 : Int32)), some (.int (v3 + (1 : Int32))), some (.int (sx_rd_token S))]) dX4_readSum_73 rfl (show v3 + Int32.ofInt 1 = (v3 + (1 : Int32)) from congrArg (fun z => v3 + z) kc_1) (Nat.le_of_ble_eq_true rfl) rfl rfl rfl ?_
      refine am_goto 8 dX4_readSum_76 rfl ?_
      refine am_weak (ls' := [some (.ref 26), some (.int v1), some (.int (1 : Int32)), some (.int (v3 + (1 : Int32))), none]) [false, false, false, false, true] rfl ?_
      exact hk8 _ _ _ _ _ hres

set_option maxRecDepth 100000 in
set_option maxHeartbeats 4000000 in
theorem wx_X4_readSum_8 (r : am_W) (fTerm : Int32 → sx_T → Option (Int32 × sx_T)) (dTerm : Nat) (dd : Nat) (eTerm : dTerm + 4 ≤ dd) (hTerm : ∀ (a : Int32) (S : sx_T) (res : Int32 × sx_T), fTerm a S = some res → am_T mX4_readTerm dTerm 0 0 [.ref 26, .int a] (sx_w S r) (some (.int res.1)) (sx_w res.2 r)) (e4 : 4 ≤ dd) : ∀ (n : Nat) (v1 : Int32) (v2 : Int32) (v3 : Int32) (S : sx_T) (res : Int32 × sx_T) (hres : fx_X4_readSum_8 fTerm n v1 v2 v3 S = some res), am_G mX4_readSum (none, dd, 0, 0, (some (.int res.1)), (sx_w res.2 r)) (0, 0) 8 [some (.ref 26), some (.int v1), some (.int v2), some (.int v3), none] [] (sx_w S r) := by
  intro n
  induction n with
  | zero =>
    intro v1 v2 v3 S res hres
    cases hres
  | succ n ih =>
    intro v1 v2 v3 S res hres
    rw [fx_X4_readSum_8] at hres
    refine am_iload_n (pc' := 9) 3 dX4_readSum_8 rfl rfl rfl ?_
    refine am_sipush (pc' := 12) (v := 160) dX4_readSum_9 ks_160 rfl ?_
    refine am_icmp_ge (pc' := 15) 79 dX4_readSum_12 rfl rfl (fun hc3 => ?_) (fun hc3 => ?_)
    · rw [if_pos hc3] at hres
      refine am_iload_n (pc' := 80) 2 dX4_readSum_79 rfl rfl rfl ?_
      obtain ⟨hbz, hres⟩ := am_bz_s hres
      subst hres
      exact am_zret dX4_readSum_80 rfl hbz rfl rfl
    · rw [if_neg hc3] at hres
      refine am_iload_n (pc' := 16) 2 dX4_readSum_15 rfl rfl rfl ?_
      refine am_if_eq (pc' := 19) 79 dX4_readSum_16 rfl rfl (fun hc4 => ?_) (fun hc4 => ?_)
      · rw [if_pos hc4] at hres
        refine am_iload_n (pc' := 80) 2 dX4_readSum_79 rfl rfl rfl ?_
        obtain ⟨hbz, hres⟩ := am_bz_s hres
        subst hres
        exact am_zret dX4_readSum_80 rfl hbz rfl rfl
      · rw [if_neg hc4] at hres
        refine am_aload_n (pc' := 20) 0 dX4_readSum_19 rfl rfl rfl ?_
        refine am_get (pc' := 23) (v := .int (sx_rd_token S)) dX4_readSum_20 fl_X4_51 (sx_c26 S r) rfl rfl ?_
        refine am_bipush (pc' := 25) (v := (-43)) dX4_readSum_23 kb_m43 rfl ?_
        refine am_icmp_eq (pc' := 28) 37 dX4_readSum_25 rfl rfl (fun hc5 => ?_) (fun hc5 => ?_)
        · rw [if_pos hc5] at hres
          refine am_weak (ls' := [some (.ref 26), some (.int v1), none, some (.int v3), none]) [false, false, true, false, false] rfl ?_
          exact wx_X4_readSum_37 r fTerm dTerm dd eTerm hTerm e4 _ (fun a0 a1 a2 a3 => ih a0 a1 a2 a3) _ _ _ _ hres
        · rw [if_neg hc5] at hres
          refine am_aload_n (pc' := 29) 0 dX4_readSum_28 rfl rfl rfl ?_
          refine am_get (pc' := 32) (v := .int (sx_rd_token S)) dX4_readSum_29 fl_X4_51 (sx_c26 S r) rfl rfl ?_
          refine am_bipush (pc' := 34) (v := (-45)) dX4_readSum_32 kb_m45 rfl ?_
          refine am_icmp_ne (pc' := 37) 79 dX4_readSum_34 rfl rfl (fun hc14 => ?_) (fun hc14 => ?_)
          · rw [if_neg hc14] at hres
            refine am_iload_n (pc' := 80) 2 dX4_readSum_79 rfl rfl rfl ?_
            obtain ⟨hbz, hres⟩ := am_bz_s hres
            subst hres
            exact am_zret dX4_readSum_80 rfl hbz rfl rfl
          · rw [if_pos hc14] at hres
            refine am_weak (ls' := [some (.ref 26), some (.int v1), none, some (.int v3), none]) [false, false, true, false, false] rfl ?_
            exact wx_X4_readSum_37 r fTerm dTerm dd eTerm hTerm e4 _ (fun a0 a1 a2 a3 => ih a0 a1 a2 a3) _ _ _ _ hres

set_option maxRecDepth 100000 in
set_option maxHeartbeats 4000000 in
theorem tx_X4_readSum (r : am_W) (fTerm : Int32 → sx_T → Option (Int32 × sx_T)) (dTerm : Nat) (dd : Nat) (eTerm : dTerm + 4 ≤ dd) (hTerm : ∀ (a : Int32) (S : sx_T) (res : Int32 × sx_T), fTerm a S = some res → am_T mX4_readTerm dTerm 0 0 [.ref 26, .int a] (sx_w S r) (some (.int res.1)) (sx_w res.2 r)) (e4 : 4 ≤ dd) (a1 : Int32) (S : sx_T) (res : Int32 × sx_T) (hres : fx_X4_readSum fTerm a1 S = some res) : am_T mX4_readSum dd 0 0 [.ref 26, .int a1] (sx_w S r) (some (.int res.1)) (sx_w res.2 r) := by
  refine am_meth (ls := [some (.ref 26), some (.int a1), none, none, none]) (by decide +kernel) rfl (Nat.le_of_ble_eq_true rfl) (sx_len _ _ _) ?_
  rw [fx_X4_readSum] at hres
  refine am_aload_n (pc' := 1) 0 dX4_readSum_0 rfl rfl rfl ?_
  refine am_iload_n (pc' := 2) 1 dX4_readSum_1 rfl rfl rfl ?_
  obtain ⟨q1, hq2, hres⟩ := am_bd_s hres
  refine am_cV (pc' := 5) (st' := [.int q1.1]) [] [.int a1] dX4_readSum_2 cs_X4_142 (hTerm a1 S _ hq2) rfl rfl rfl (sx_c26 S r) rfl rfl rfl (am_rbh (by omega) (Nat.le_of_ble_eq_true rfl)) rfl ?_
  refine am_istore_n (pc' := 6) (ls' := [some (.ref 26), some (.int a1), some (.int q1.1), none, none]) 2 dX4_readSum_5 rfl (Nat.le_of_ble_eq_true rfl) rfl rfl rfl ?_
  refine am_iconst (pc' := 7) (v := 0) dX4_readSum_6 kc_0 rfl ?_
  refine am_istore_n (pc' := 8) (ls' := [some (.ref 26), some (.int a1), some (.int q1.1), some (.int (0 : Int32)), none]) 3 dX4_readSum_7 rfl (Nat.le_of_ble_eq_true rfl) rfl rfl rfl ?_
  exact wx_X4_readSum_8 r fTerm dTerm dd eTerm hTerm e4 am_fu _ _ _ _ _ hres
set_option maxRecDepth 100000 in
set_option maxHeartbeats 4000000 in
theorem wx_X4_readNot_77 (r : am_W) (fNot : Int32 → sx_T → Option (Int32 × sx_T)) (fSum : Int32 → sx_T → Option (Int32 × sx_T)) (dNot : Nat) (dSum : Nat) (dd : Nat) (eNot : dNot + 4 ≤ dd) (hNot : ∀ (a : Int32) (S : sx_T) (res : Int32 × sx_T), fNot a S = some res → am_T mX4_readNot dNot 0 0 [.ref 26, .int a] (sx_w S r) (some (.int res.1)) (sx_w res.2 r)) (eSum : dSum + 4 ≤ dd) (hSum : ∀ (a : Int32) (S : sx_T) (res : Int32 × sx_T), fSum a S = some res → am_T mX4_readSum dSum 0 0 [.ref 26, .int a] (sx_w S r) (some (.int res.1)) (sx_w res.2 r)) (e4 : 4 ≤ dd) : ∀ (v1 : Int32) (v2 : Int32) (S : sx_T) (res : Int32 × sx_T) (hres : fx_X4_readNot_77 fNot fSum v1 v2 S = some res), am_G mX4_readNot (none, dd, 0, 0, (some (.int res.1)), (sx_w res.2 r)) (0, 0) 77 [some (.ref 26), some (.int v1), some (.int v2)] [] (sx_w S r) := by
  intro v1 v2 S res hres
  rw [fx_X4_readNot_77] at hres
  refine am_aload_n (pc' := 78) 0 dX4_readNot_77 rfl rfl rfl ?_
  obtain ⟨q6, hq7, hres⟩ := am_let_s hres
  refine am_cV (pc' := 81) (st' := []) [] [] dX4_readNot_78 cs_X4_39 (tx_X4_advance r S _ hq7) rfl rfl rfl (sx_c26 S r) rfl rfl rfl (am_rbh (by omega) (Nat.le_of_ble_eq_true rfl)) rfl ?_
  refine am_aload_n (pc' := 82) 0 dX4_readNot_81 rfl rfl rfl ?_
  refine am_iload_n (pc' := 83) 1 dX4_readNot_82 rfl rfl rfl ?_
  obtain ⟨q8, hq9, hres⟩ := am_bd_s hres
  refine am_cV (pc' := 86) (st' := [.int q8.1]) [] [.int v1] dX4_readNot_83 cs_X4_139 (hSum v1 q6 _ hq9) rfl rfl rfl (sx_c26 q6 r) rfl rfl rfl (am_rbh (by omega) (Nat.le_of_ble_eq_true rfl)) rfl ?_
  refine am_if_eq (pc' := 89) 104 dX4_readNot_86 rfl rfl (fun hc10 => ?_) (fun hc10 => ?_)
  · rw [if_pos hc10] at hres
    refine am_iconst (pc' := 105) (v := 0) dX4_readNot_104 kc_0 rfl ?_
    obtain rfl := Option.some.inj hres
    exact am_zret dX4_readNot_105 rfl rfl rfl rfl
  · rw [if_neg hc10] at hres
    refine am_aload_n (pc' := 90) 0 dX4_readNot_89 rfl rfl rfl ?_
    refine am_get (pc' := 93) (v := .ref 21) dX4_readNot_90 fl_X4_21 (sx_c26 q8.2 r) rfl rfl ?_
    refine am_iload_n (pc' := 94) 2 dX4_readNot_93 rfl rfl rfl ?_
    obtain ⟨q11, hq12, hres⟩ := am_let_s hres
    refine am_cV (pc' := 97) (st' := [.int q11.1]) [] [.int v2] dX4_readNot_94 cs_X4_133 (tx_X8_add r v2 q8.2 _ hq12) rfl rfl rfl (sx_c21 q8.2 r) rfl rfl rfl (am_rbh (by omega) (Nat.le_of_ble_eq_true rfl)) rfl ?_
    refine am_if_eq (pc' := 100) 104 dX4_readNot_97 rfl rfl (fun hc13 => ?_) (fun hc13 => ?_)
    · rw [if_pos hc13] at hres
      refine am_iconst (pc' := 105) (v := 0) dX4_readNot_104 kc_0 rfl ?_
      obtain rfl := Option.some.inj hres
      exact am_zret dX4_readNot_105 rfl rfl rfl rfl
    · rw [if_neg hc13] at hres
      refine am_iconst (pc' := 101) (v := 1) dX4_readNot_100 kc_1 rfl ?_
      refine am_goto 105 dX4_readNot_101 rfl ?_
      obtain rfl := Option.some.inj hres
      exact am_zret dX4_readNot_105 rfl rfl rfl rfl

set_option maxRecDepth 100000 in
set_option maxHeartbeats 4000000 in
theorem tx_X4_readNot (r : am_W) (fNot : Int32 → sx_T → Option (Int32 × sx_T)) (fSum : Int32 → sx_T → Option (Int32 × sx_T)) (dNot : Nat) (dSum : Nat) (dd : Nat) (eNot : dNot + 4 ≤ dd) (hNot : ∀ (a : Int32) (S : sx_T) (res : Int32 × sx_T), fNot a S = some res → am_T mX4_readNot dNot 0 0 [.ref 26, .int a] (sx_w S r) (some (.int res.1)) (sx_w res.2 r)) (eSum : dSum + 4 ≤ dd) (hSum : ∀ (a : Int32) (S : sx_T) (res : Int32 × sx_T), fSum a S = some res → am_T mX4_readSum dSum 0 0 [.ref 26, .int a] (sx_w S r) (some (.int res.1)) (sx_w res.2 r)) (e4 : 4 ≤ dd) (a1 : Int32) (S : sx_T) (res : Int32 × sx_T) (hres : fx_X4_readNot fNot fSum a1 S = some res) : am_T mX4_readNot dd 0 0 [.ref 26, .int a1] (sx_w S r) (some (.int res.1)) (sx_w res.2 r) := by
  refine am_meth (ls := [some (.ref 26), some (.int a1), none]) (by decide +kernel) rfl (Nat.le_of_ble_eq_true rfl) (sx_len _ _ _) ?_
  rw [fx_X4_readNot] at hres
  refine am_aload_n (pc' := 1) 0 dX4_readNot_0 rfl rfl rfl ?_
  refine am_get (pc' := 4) (v := .int (sx_rd_token S)) dX4_readNot_1 fl_X4_51 (sx_c26 S r) rfl rfl ?_
  refine am_bipush (pc' := 6) (v := (-8)) dX4_readNot_4 kb_m8 rfl ?_
  refine am_icmp_ne (pc' := 9) 48 dX4_readNot_6 rfl rfl (fun hc1 => ?_) (fun hc1 => ?_)
  · rw [if_neg hc1] at hres
    refine am_aload_n (pc' := 49) 0 dX4_readNot_48 rfl rfl rfl ?_
    refine am_iload_n (pc' := 50) 1 dX4_readNot_49 rfl rfl rfl ?_
    obtain ⟨q2, hq3, hres⟩ := am_bd_s hres
    refine am_cV (pc' := 53) (st' := [.int q2.1]) [] [.int a1] dX4_readNot_50 cs_X4_139 (hSum a1 S _ hq3) rfl rfl rfl (sx_c26 S r) rfl rfl rfl (am_rbh (by omega) (Nat.le_of_ble_eq_true rfl)) rfl ?_
    refine am_if_ne (pc' := 56) 58 dX4_readNot_53 rfl rfl (fun hc4 => ?_) (fun hc4 => ?_)
    · rw [if_neg hc4] at hres
      refine am_aload_n (pc' := 59) 0 dX4_readNot_58 rfl rfl rfl ?_
      refine am_get (pc' := 62) (v := .int (sx_rd_token q2.2)) dX4_readNot_59 fl_X4_51 (sx_c26 q2.2 r) rfl rfl ?_
      refine am_istore_n (pc' := 63) (ls' := [some (.ref 26), some (.int a1), some (.int (sx_rd_token q2.2))]) 2 dX4_readNot_62 rfl (Nat.le_of_ble_eq_true rfl) rfl rfl rfl ?_
      refine am_iload_n (pc' := 64) 2 dX4_readNot_63 rfl rfl rfl ?_
      refine am_bipush (pc' := 66) (v := (-60)) dX4_readNot_64 kb_m60 rfl ?_
      refine am_icmp_eq (pc' := 69) 77 dX4_readNot_66 rfl rfl (fun hc5 => ?_) (fun hc5 => ?_)
      · rw [if_pos hc5] at hres
        exact wx_X4_readNot_77 r fNot fSum dNot dSum dd eNot hNot eSum hSum e4 _ _ _ _ hres
      · rw [if_neg hc5] at hres
        refine am_iload_n (pc' := 70) 2 dX4_readNot_69 rfl rfl rfl ?_
        refine am_bipush (pc' := 72) (v := (-61)) dX4_readNot_70 kb_m61 rfl ?_
        refine am_icmp_eq (pc' := 75) 77 dX4_readNot_72 rfl rfl (fun hc14 => ?_) (fun hc14 => ?_)
        · rw [if_pos hc14] at hres
          exact wx_X4_readNot_77 r fNot fSum dNot dSum dd eNot hNot eSum hSum e4 _ _ _ _ hres
        · rw [if_neg hc14] at hres
          refine am_iconst (pc' := 76) (v := 1) dX4_readNot_75 kc_1 rfl ?_
          obtain rfl := Option.some.inj hres
          exact am_zret dX4_readNot_76 rfl rfl rfl rfl
    · rw [if_pos hc4] at hres
      refine am_iconst (pc' := 57) (v := 0) dX4_readNot_56 kc_0 rfl ?_
      obtain rfl := Option.some.inj hres
      exact am_zret dX4_readNot_57 rfl rfl rfl rfl
  · rw [if_pos hc1] at hres
    refine am_iload_n (pc' := 10) 1 dX4_readNot_9 rfl rfl rfl ?_
    refine am_iconst (pc' := 11) (v := 5) dX4_readNot_10 kc_5 rfl ?_
    refine am_icmp_lt (pc' := 14) 16 dX4_readNot_11 rfl rfl (fun hc15 => ?_) (fun hc15 => ?_)
    · rw [if_pos hc15] at hres
      refine am_aload_n (pc' := 17) 0 dX4_readNot_16 rfl rfl rfl ?_
      obtain ⟨q16, hq17, hres⟩ := am_let_s hres
      refine am_cV (pc' := 20) (st' := []) [] [] dX4_readNot_17 cs_X4_39 (tx_X4_advance r S _ hq17) rfl rfl rfl (sx_c26 S r) rfl rfl rfl (am_rbh (by omega) (Nat.le_of_ble_eq_true rfl)) rfl ?_
      refine am_aload_n (pc' := 21) 0 dX4_readNot_20 rfl rfl rfl ?_
      refine am_iload_n (pc' := 22) 1 dX4_readNot_21 rfl rfl rfl ?_
      refine am_iconst (pc' := 23) (v := 1) dX4_readNot_22 kc_1 rfl ?_
      refine am_iadd (pc' := 24) dX4_readNot_23 rfl ?_
      obtain ⟨q18, hq19, hres⟩ := am_bd_s hres
      refine am_cV (pc' := 27) (st' := [.int q18.1]) [] [.int (a1 + (1 : Int32))] dX4_readNot_24 cs_X4_136 (hNot (a1 + (1 : Int32)) q16 _ hq19) rfl rfl rfl (sx_c26 q16 r) rfl rfl rfl (am_rbh (by omega) (Nat.le_of_ble_eq_true rfl)) rfl ?_
      refine am_if_eq (pc' := 30) 46 dX4_readNot_27 rfl rfl (fun hc20 => ?_) (fun hc20 => ?_)
      · rw [if_pos hc20] at hres
        refine am_iconst (pc' := 47) (v := 0) dX4_readNot_46 kc_0 rfl ?_
        obtain rfl := Option.some.inj hres
        exact am_zret dX4_readNot_47 rfl rfl rfl rfl
      · rw [if_neg hc20] at hres
        refine am_aload_n (pc' := 31) 0 dX4_readNot_30 rfl rfl rfl ?_
        refine am_get (pc' := 34) (v := .ref 21) dX4_readNot_31 fl_X4_21 (sx_c26 q18.2 r) rfl rfl ?_
        refine am_bipush (pc' := 36) (v := (-8)) dX4_readNot_34 kb_m8 rfl ?_
        obtain ⟨q21, hq22, hres⟩ := am_let_s hres
        refine am_cV (pc' := 39) (st' := [.int q21.1]) [] [.int (-8 : Int32)] dX4_readNot_36 cs_X4_133 (tx_X8_add r (-8 : Int32) q18.2 _ hq22) rfl rfl rfl (sx_c21 q18.2 r) rfl rfl rfl (am_rbh (by omega) (Nat.le_of_ble_eq_true rfl)) rfl ?_
        refine am_if_eq (pc' := 42) 46 dX4_readNot_39 rfl rfl (fun hc23 => ?_) (fun hc23 => ?_)
        · rw [if_pos hc23] at hres
          refine am_iconst (pc' := 47) (v := 0) dX4_readNot_46 kc_0 rfl ?_
          obtain rfl := Option.some.inj hres
          exact am_zret dX4_readNot_47 rfl rfl rfl rfl
        · rw [if_neg hc23] at hres
          refine am_iconst (pc' := 43) (v := 1) dX4_readNot_42 kc_1 rfl ?_
          refine am_goto 47 dX4_readNot_43 rfl ?_
          obtain rfl := Option.some.inj hres
          exact am_zret dX4_readNot_47 rfl rfl rfl rfl
    · rw [if_neg hc15] at hres
      refine am_iconst (pc' := 15) (v := 0) dX4_readNot_14 kc_0 rfl ?_
      obtain rfl := Option.some.inj hres
      exact am_zret dX4_readNot_15 rfl rfl rfl rfl
set_option maxRecDepth 100000 in
set_option maxHeartbeats 4000000 in
theorem wx_X4_readAnd_8 (r : am_W) (fNot : Int32 → sx_T → Option (Int32 × sx_T)) (dNot : Nat) (dd : Nat) (eNot : dNot + 4 ≤ dd) (hNot : ∀ (a : Int32) (S : sx_T) (res : Int32 × sx_T), fNot a S = some res → am_T mX4_readNot dNot 0 0 [.ref 26, .int a] (sx_w S r) (some (.int res.1)) (sx_w res.2 r)) (e4 : 4 ≤ dd) : ∀ (n : Nat) (v1 : Int32) (v2 : Int32) (v3 : Int32) (S : sx_T) (res : Int32 × sx_T) (hres : fx_X4_readAnd_8 fNot n v1 v2 v3 S = some res), am_G mX4_readAnd (none, dd, 0, 0, (some (.int res.1)), (sx_w res.2 r)) (0, 0) 8 [some (.ref 26), some (.int v1), some (.int v2), some (.int v3)] [] (sx_w S r) := by
  intro n
  induction n with
  | zero =>
    intro v1 v2 v3 S res hres
    cases hres
  | succ n ih =>
    intro v1 v2 v3 S res hres
    rw [fx_X4_readAnd_8] at hres
    refine am_iload_n (pc' := 9) 3 dX4_readAnd_8 rfl rfl rfl ?_
    refine am_sipush (pc' := 12) (v := 160) dX4_readAnd_9 ks_160 rfl ?_
    refine am_icmp_ge (pc' := 15) 60 dX4_readAnd_12 rfl rfl (fun hc3 => ?_) (fun hc3 => ?_)
    · rw [if_pos hc3] at hres
      refine am_iload_n (pc' := 61) 2 dX4_readAnd_60 rfl rfl rfl ?_
      obtain ⟨hbz, hres⟩ := am_bz_s hres
      subst hres
      exact am_zret dX4_readAnd_61 rfl hbz rfl rfl
    · rw [if_neg hc3] at hres
      refine am_iload_n (pc' := 16) 2 dX4_readAnd_15 rfl rfl rfl ?_
      refine am_if_eq (pc' := 19) 60 dX4_readAnd_16 rfl rfl (fun hc4 => ?_) (fun hc4 => ?_)
      · rw [if_pos hc4] at hres
        refine am_iload_n (pc' := 61) 2 dX4_readAnd_60 rfl rfl rfl ?_
        obtain ⟨hbz, hres⟩ := am_bz_s hres
        subst hres
        exact am_zret dX4_readAnd_61 rfl hbz rfl rfl
      · rw [if_neg hc4] at hres
        refine am_aload_n (pc' := 20) 0 dX4_readAnd_19 rfl rfl rfl ?_
        refine am_bipush (pc' := 22) (v := (-7)) dX4_readAnd_20 kb_m7 rfl ?_
        obtain ⟨q5, hq6, hres⟩ := am_let_s hres
        refine am_cV (pc' := 25) (st' := [.int q5.1]) [] [.int (-7 : Int32)] dX4_readAnd_22 cs_X4_120 (tx_X4_passed r (-7 : Int32) S _ hq6) rfl rfl rfl (sx_c26 S r) rfl rfl rfl (am_rbh (by omega) (Nat.le_of_ble_eq_true rfl)) rfl ?_
        refine am_if_eq (pc' := 28) 60 dX4_readAnd_25 rfl rfl (fun hc7 => ?_) (fun hc7 => ?_)
        · rw [if_pos hc7] at hres
          refine am_iload_n (pc' := 61) 2 dX4_readAnd_60 rfl rfl rfl ?_
          obtain ⟨hbz, hres⟩ := am_bz_s hres
          subst hres
          exact am_zret dX4_readAnd_61 rfl hbz rfl rfl
        · rw [if_neg hc7] at hres
          refine am_aload_n (pc' := 29) 0 dX4_readAnd_28 rfl rfl rfl ?_
          refine am_iload_n (pc' := 30) 1 dX4_readAnd_29 rfl rfl rfl ?_
          obtain ⟨q8, hq9, hres⟩ := am_bd_s hres
          refine am_cV (pc' := 33) (st' := [.int q8.1]) [] [.int v1] dX4_readAnd_30 cs_X4_136 (hNot v1 q5.2 _ hq9) rfl rfl rfl (sx_c26 q5.2 r) rfl rfl rfl (am_rbh (by omega) (Nat.le_of_ble_eq_true rfl)) rfl ?_
          refine am_if_eq (pc' := 36) 52 dX4_readAnd_33 rfl rfl (fun hc10 => ?_) (fun hc10 => ?_)
          · rw [if_pos hc10] at hres
            refine am_iconst (pc' := 53) (v := 0) dX4_readAnd_52 kc_0 rfl ?_
            refine am_istore_n (pc' := 54) (ls' := [some (.ref 26), some (.int v1), some (.int (0 : Int32)), some (.int v3)]) 2 dX4_readAnd_53 rfl (Nat.le_of_ble_eq_true rfl) rfl rfl rfl ?_
            refine am_iinc (pc' := 57) (ls' := [some (.ref 26), some (.int v1), some (.int (0 : Int32)), some (.int (v3 + (1 : Int32)))]) dX4_readAnd_54 rfl (show v3 + Int32.ofInt 1 = (v3 + (1 : Int32)) from congrArg (fun z => v3 + z) kc_1) (Nat.le_of_ble_eq_true rfl) rfl rfl rfl ?_
            refine am_goto 8 dX4_readAnd_57 rfl ?_
            exact ih _ _ _ _ _ hres
          · rw [if_neg hc10] at hres
            refine am_aload_n (pc' := 37) 0 dX4_readAnd_36 rfl rfl rfl ?_
            refine am_get (pc' := 40) (v := .ref 21) dX4_readAnd_37 fl_X4_21 (sx_c26 q8.2 r) rfl rfl ?_
            refine am_bipush (pc' := 42) (v := (-7)) dX4_readAnd_40 kb_m7 rfl ?_
            obtain ⟨q11, hq12, hres⟩ := am_let_s hres
            refine am_cV (pc' := 45) (st' := [.int q11.1]) [] [.int (-7 : Int32)] dX4_readAnd_42 cs_X4_133 (tx_X8_add r (-7 : Int32) q8.2 _ hq12) rfl rfl rfl (sx_c21 q8.2 r) rfl rfl rfl (am_rbh (by omega) (Nat.le_of_ble_eq_true rfl)) rfl ?_
            refine am_if_eq (pc' := 48) 52 dX4_readAnd_45 rfl rfl (fun hc13 => ?_) (fun hc13 => ?_)
            · rw [if_pos hc13] at hres
              refine am_iconst (pc' := 53) (v := 0) dX4_readAnd_52 kc_0 rfl ?_
              refine am_istore_n (pc' := 54) (ls' := [some (.ref 26), some (.int v1), some (.int (0 : Int32)), some (.int v3)]) 2 dX4_readAnd_53 rfl (Nat.le_of_ble_eq_true rfl) rfl rfl rfl ?_
              refine am_iinc (pc' := 57) (ls' := [some (.ref 26), some (.int v1), some (.int (0 : Int32)), some (.int (v3 + (1 : Int32)))]) dX4_readAnd_54 rfl (show v3 + Int32.ofInt 1 = (v3 + (1 : Int32)) from congrArg (fun z => v3 + z) kc_1) (Nat.le_of_ble_eq_true rfl) rfl rfl rfl ?_
              refine am_goto 8 dX4_readAnd_57 rfl ?_
              exact ih _ _ _ _ _ hres
            · rw [if_neg hc13] at hres
              refine am_iconst (pc' := 49) (v := 1) dX4_readAnd_48 kc_1 rfl ?_
              refine am_goto 53 dX4_readAnd_49 rfl ?_
              refine am_istore_n (pc' := 54) (ls' := [some (.ref 26), some (.int v1), some (.int (1 : Int32)), some (.int v3)]) 2 dX4_readAnd_53 rfl (Nat.le_of_ble_eq_true rfl) rfl rfl rfl ?_
              refine am_iinc (pc' := 57) (ls' := [some (.ref 26), some (.int v1), some (.int (1 : Int32)), some (.int (v3 + (1 : Int32)))]) dX4_readAnd_54 rfl (show v3 + Int32.ofInt 1 = (v3 + (1 : Int32)) from congrArg (fun z => v3 + z) kc_1) (Nat.le_of_ble_eq_true rfl) rfl rfl rfl ?_
              refine am_goto 8 dX4_readAnd_57 rfl ?_
              exact ih _ _ _ _ _ hres

set_option maxRecDepth 100000 in
set_option maxHeartbeats 4000000 in
theorem tx_X4_readAnd (r : am_W) (fNot : Int32 → sx_T → Option (Int32 × sx_T)) (dNot : Nat) (dd : Nat) (eNot : dNot + 4 ≤ dd) (hNot : ∀ (a : Int32) (S : sx_T) (res : Int32 × sx_T), fNot a S = some res → am_T mX4_readNot dNot 0 0 [.ref 26, .int a] (sx_w S r) (some (.int res.1)) (sx_w res.2 r)) (e4 : 4 ≤ dd) (a1 : Int32) (S : sx_T) (res : Int32 × sx_T) (hres : fx_X4_readAnd fNot a1 S = some res) : am_T mX4_readAnd dd 0 0 [.ref 26, .int a1] (sx_w S r) (some (.int res.1)) (sx_w res.2 r) := by
  refine am_meth (ls := [some (.ref 26), some (.int a1), none, none]) (by decide +kernel) rfl (Nat.le_of_ble_eq_true rfl) (sx_len _ _ _) ?_
  rw [fx_X4_readAnd] at hres
  refine am_aload_n (pc' := 1) 0 dX4_readAnd_0 rfl rfl rfl ?_
  refine am_iload_n (pc' := 2) 1 dX4_readAnd_1 rfl rfl rfl ?_
  obtain ⟨q1, hq2, hres⟩ := am_bd_s hres
  refine am_cV (pc' := 5) (st' := [.int q1.1]) [] [.int a1] dX4_readAnd_2 cs_X4_136 (hNot a1 S _ hq2) rfl rfl rfl (sx_c26 S r) rfl rfl rfl (am_rbh (by omega) (Nat.le_of_ble_eq_true rfl)) rfl ?_
  refine am_istore_n (pc' := 6) (ls' := [some (.ref 26), some (.int a1), some (.int q1.1), none]) 2 dX4_readAnd_5 rfl (Nat.le_of_ble_eq_true rfl) rfl rfl rfl ?_
  refine am_iconst (pc' := 7) (v := 0) dX4_readAnd_6 kc_0 rfl ?_
  refine am_istore_n (pc' := 8) (ls' := [some (.ref 26), some (.int a1), some (.int q1.1), some (.int (0 : Int32))]) 3 dX4_readAnd_7 rfl (Nat.le_of_ble_eq_true rfl) rfl rfl rfl ?_
  exact wx_X4_readAnd_8 r fNot dNot dd eNot hNot e4 am_fu _ _ _ _ _ hres
set_option maxRecDepth 100000 in
set_option maxHeartbeats 4000000 in
theorem wx_X4_readOr_8 (r : am_W) (fAnd : Int32 → sx_T → Option (Int32 × sx_T)) (dAnd : Nat) (dd : Nat) (eAnd : dAnd + 4 ≤ dd) (hAnd : ∀ (a : Int32) (S : sx_T) (res : Int32 × sx_T), fAnd a S = some res → am_T mX4_readAnd dAnd 0 0 [.ref 26, .int a] (sx_w S r) (some (.int res.1)) (sx_w res.2 r)) (e4 : 4 ≤ dd) : ∀ (n : Nat) (v1 : Int32) (v2 : Int32) (v3 : Int32) (S : sx_T) (res : Int32 × sx_T) (hres : fx_X4_readOr_8 fAnd n v1 v2 v3 S = some res), am_G mX4_readOr (none, dd, 0, 0, (some (.int res.1)), (sx_w res.2 r)) (0, 0) 8 [some (.ref 26), some (.int v1), some (.int v2), some (.int v3)] [] (sx_w S r) := by
  intro n
  induction n with
  | zero =>
    intro v1 v2 v3 S res hres
    cases hres
  | succ n ih =>
    intro v1 v2 v3 S res hres
    rw [fx_X4_readOr_8] at hres
    refine am_iload_n (pc' := 9) 3 dX4_readOr_8 rfl rfl rfl ?_
    refine am_sipush (pc' := 12) (v := 160) dX4_readOr_9 ks_160 rfl ?_
    refine am_icmp_ge (pc' := 15) 60 dX4_readOr_12 rfl rfl (fun hc3 => ?_) (fun hc3 => ?_)
    · rw [if_pos hc3] at hres
      refine am_iload_n (pc' := 61) 2 dX4_readOr_60 rfl rfl rfl ?_
      obtain ⟨hbz, hres⟩ := am_bz_s hres
      subst hres
      exact am_zret dX4_readOr_61 rfl hbz rfl rfl
    · rw [if_neg hc3] at hres
      refine am_iload_n (pc' := 16) 2 dX4_readOr_15 rfl rfl rfl ?_
      refine am_if_eq (pc' := 19) 60 dX4_readOr_16 rfl rfl (fun hc4 => ?_) (fun hc4 => ?_)
      · rw [if_pos hc4] at hres
        refine am_iload_n (pc' := 61) 2 dX4_readOr_60 rfl rfl rfl ?_
        obtain ⟨hbz, hres⟩ := am_bz_s hres
        subst hres
        exact am_zret dX4_readOr_61 rfl hbz rfl rfl
      · rw [if_neg hc4] at hres
        refine am_aload_n (pc' := 20) 0 dX4_readOr_19 rfl rfl rfl ?_
        refine am_bipush (pc' := 22) (v := (-6)) dX4_readOr_20 kb_m6 rfl ?_
        obtain ⟨q5, hq6, hres⟩ := am_let_s hres
        refine am_cV (pc' := 25) (st' := [.int q5.1]) [] [.int (-6 : Int32)] dX4_readOr_22 cs_X4_120 (tx_X4_passed r (-6 : Int32) S _ hq6) rfl rfl rfl (sx_c26 S r) rfl rfl rfl (am_rbh (by omega) (Nat.le_of_ble_eq_true rfl)) rfl ?_
        refine am_if_eq (pc' := 28) 60 dX4_readOr_25 rfl rfl (fun hc7 => ?_) (fun hc7 => ?_)
        · rw [if_pos hc7] at hres
          refine am_iload_n (pc' := 61) 2 dX4_readOr_60 rfl rfl rfl ?_
          obtain ⟨hbz, hres⟩ := am_bz_s hres
          subst hres
          exact am_zret dX4_readOr_61 rfl hbz rfl rfl
        · rw [if_neg hc7] at hres
          refine am_aload_n (pc' := 29) 0 dX4_readOr_28 rfl rfl rfl ?_
          refine am_iload_n (pc' := 30) 1 dX4_readOr_29 rfl rfl rfl ?_
          obtain ⟨q8, hq9, hres⟩ := am_bd_s hres
          refine am_cV (pc' := 33) (st' := [.int q8.1]) [] [.int v1] dX4_readOr_30 cs_X4_130 (hAnd v1 q5.2 _ hq9) rfl rfl rfl (sx_c26 q5.2 r) rfl rfl rfl (am_rbh (by omega) (Nat.le_of_ble_eq_true rfl)) rfl ?_
          refine am_if_eq (pc' := 36) 52 dX4_readOr_33 rfl rfl (fun hc10 => ?_) (fun hc10 => ?_)
          · rw [if_pos hc10] at hres
            refine am_iconst (pc' := 53) (v := 0) dX4_readOr_52 kc_0 rfl ?_
            refine am_istore_n (pc' := 54) (ls' := [some (.ref 26), some (.int v1), some (.int (0 : Int32)), some (.int v3)]) 2 dX4_readOr_53 rfl (Nat.le_of_ble_eq_true rfl) rfl rfl rfl ?_
            refine am_iinc (pc' := 57) (ls' := [some (.ref 26), some (.int v1), some (.int (0 : Int32)), some (.int (v3 + (1 : Int32)))]) dX4_readOr_54 rfl (show v3 + Int32.ofInt 1 = (v3 + (1 : Int32)) from congrArg (fun z => v3 + z) kc_1) (Nat.le_of_ble_eq_true rfl) rfl rfl rfl ?_
            refine am_goto 8 dX4_readOr_57 rfl ?_
            exact ih _ _ _ _ _ hres
          · rw [if_neg hc10] at hres
            refine am_aload_n (pc' := 37) 0 dX4_readOr_36 rfl rfl rfl ?_
            refine am_get (pc' := 40) (v := .ref 21) dX4_readOr_37 fl_X4_21 (sx_c26 q8.2 r) rfl rfl ?_
            refine am_bipush (pc' := 42) (v := (-6)) dX4_readOr_40 kb_m6 rfl ?_
            obtain ⟨q11, hq12, hres⟩ := am_let_s hres
            refine am_cV (pc' := 45) (st' := [.int q11.1]) [] [.int (-6 : Int32)] dX4_readOr_42 cs_X4_133 (tx_X8_add r (-6 : Int32) q8.2 _ hq12) rfl rfl rfl (sx_c21 q8.2 r) rfl rfl rfl (am_rbh (by omega) (Nat.le_of_ble_eq_true rfl)) rfl ?_
            refine am_if_eq (pc' := 48) 52 dX4_readOr_45 rfl rfl (fun hc13 => ?_) (fun hc13 => ?_)
            · rw [if_pos hc13] at hres
              refine am_iconst (pc' := 53) (v := 0) dX4_readOr_52 kc_0 rfl ?_
              refine am_istore_n (pc' := 54) (ls' := [some (.ref 26), some (.int v1), some (.int (0 : Int32)), some (.int v3)]) 2 dX4_readOr_53 rfl (Nat.le_of_ble_eq_true rfl) rfl rfl rfl ?_
              refine am_iinc (pc' := 57) (ls' := [some (.ref 26), some (.int v1), some (.int (0 : Int32)), some (.int (v3 + (1 : Int32)))]) dX4_readOr_54 rfl (show v3 + Int32.ofInt 1 = (v3 + (1 : Int32)) from congrArg (fun z => v3 + z) kc_1) (Nat.le_of_ble_eq_true rfl) rfl rfl rfl ?_
              refine am_goto 8 dX4_readOr_57 rfl ?_
              exact ih _ _ _ _ _ hres
            · rw [if_neg hc13] at hres
              refine am_iconst (pc' := 49) (v := 1) dX4_readOr_48 kc_1 rfl ?_
              refine am_goto 53 dX4_readOr_49 rfl ?_
              refine am_istore_n (pc' := 54) (ls' := [some (.ref 26), some (.int v1), some (.int (1 : Int32)), some (.int v3)]) 2 dX4_readOr_53 rfl (Nat.le_of_ble_eq_true rfl) rfl rfl rfl ?_
              refine am_iinc (pc' := 57) (ls' := [some (.ref 26), some (.int v1), some (.int (1 : Int32)), some (.int (v3 + (1 : Int32)))]) dX4_readOr_54 rfl (show v3 + Int32.ofInt 1 = (v3 + (1 : Int32)) from congrArg (fun z => v3 + z) kc_1) (Nat.le_of_ble_eq_true rfl) rfl rfl rfl ?_
              refine am_goto 8 dX4_readOr_57 rfl ?_
              exact ih _ _ _ _ _ hres

set_option maxRecDepth 100000 in
set_option maxHeartbeats 4000000 in
theorem tx_X4_readOr (r : am_W) (fAnd : Int32 → sx_T → Option (Int32 × sx_T)) (dAnd : Nat) (dd : Nat) (eAnd : dAnd + 4 ≤ dd) (hAnd : ∀ (a : Int32) (S : sx_T) (res : Int32 × sx_T), fAnd a S = some res → am_T mX4_readAnd dAnd 0 0 [.ref 26, .int a] (sx_w S r) (some (.int res.1)) (sx_w res.2 r)) (e4 : 4 ≤ dd) (a1 : Int32) (S : sx_T) (res : Int32 × sx_T) (hres : fx_X4_readOr fAnd a1 S = some res) : am_T mX4_readOr dd 0 0 [.ref 26, .int a1] (sx_w S r) (some (.int res.1)) (sx_w res.2 r) := by
  refine am_meth (ls := [some (.ref 26), some (.int a1), none, none]) (by decide +kernel) rfl (Nat.le_of_ble_eq_true rfl) (sx_len _ _ _) ?_
  rw [fx_X4_readOr] at hres
  refine am_aload_n (pc' := 1) 0 dX4_readOr_0 rfl rfl rfl ?_
  refine am_iload_n (pc' := 2) 1 dX4_readOr_1 rfl rfl rfl ?_
  obtain ⟨q1, hq2, hres⟩ := am_bd_s hres
  refine am_cV (pc' := 5) (st' := [.int q1.1]) [] [.int a1] dX4_readOr_2 cs_X4_130 (hAnd a1 S _ hq2) rfl rfl rfl (sx_c26 S r) rfl rfl rfl (am_rbh (by omega) (Nat.le_of_ble_eq_true rfl)) rfl ?_
  refine am_istore_n (pc' := 6) (ls' := [some (.ref 26), some (.int a1), some (.int q1.1), none]) 2 dX4_readOr_5 rfl (Nat.le_of_ble_eq_true rfl) rfl rfl rfl ?_
  refine am_iconst (pc' := 7) (v := 0) dX4_readOr_6 kc_0 rfl ?_
  refine am_istore_n (pc' := 8) (ls' := [some (.ref 26), some (.int a1), some (.int q1.1), some (.int (0 : Int32))]) 3 dX4_readOr_7 rfl (Nat.le_of_ble_eq_true rfl) rfl rfl rfl ?_
  exact wx_X4_readOr_8 r fAnd dAnd dd eAnd hAnd e4 am_fu _ _ _ _ _ hres
set_option maxRecDepth 100000 in
set_option maxHeartbeats 4000000 in
theorem tx_X4_readOne (r : am_W) (fOne : Int32 → sx_T → Option (Int32 × sx_T)) (fOr : Int32 → sx_T → Option (Int32 × sx_T)) (dOne : Nat) (dOr : Nat) (dd : Nat) (eOne : dOne + 4 ≤ dd) (hOne : ∀ (a : Int32) (S : sx_T) (res : Int32 × sx_T), fOne a S = some res → am_T mX4_readOne dOne 0 0 [.ref 26, .int a] (sx_w S r) (some (.int res.1)) (sx_w res.2 r)) (eOr : dOr + 4 ≤ dd) (hOr : ∀ (a : Int32) (S : sx_T) (res : Int32 × sx_T), fOr a S = some res → am_T mX4_readOr dOr 0 0 [.ref 26, .int a] (sx_w S r) (some (.int res.1)) (sx_w res.2 r)) (e4 : 4 ≤ dd) (a1 : Int32) (S : sx_T) (res : Int32 × sx_T) (hres : fx_X4_readOne fOne fOr a1 S = some res) : am_T mX4_readOne dd 0 0 [.ref 26, .int a1] (sx_w S r) (some (.int res.1)) (sx_w res.2 r) := by
  refine am_meth (ls := [some (.ref 26), some (.int a1), none]) (by decide +kernel) rfl (Nat.le_of_ble_eq_true rfl) (sx_len _ _ _) ?_
  rw [fx_X4_readOne] at hres
  refine am_aload_n (pc' := 1) 0 dX4_readOne_0 rfl rfl rfl ?_
  refine am_get (pc' := 4) (v := .int (sx_rd_token S)) dX4_readOne_1 fl_X4_51 (sx_c26 S r) rfl rfl ?_
  refine am_istore_n (pc' := 5) (ls' := [some (.ref 26), some (.int a1), some (.int (sx_rd_token S))]) 2 dX4_readOne_4 rfl (Nat.le_of_ble_eq_true rfl) rfl rfl rfl ?_
  refine am_iload_n (pc' := 6) 2 dX4_readOne_5 rfl rfl rfl ?_
  refine am_if_ge (pc' := 9) 16 dX4_readOne_6 rfl rfl (fun hc1 => ?_) (fun hc1 => ?_)
  · rw [if_pos hc1] at hres
    refine am_aload_n (pc' := 17) 0 dX4_readOne_16 rfl rfl rfl ?_
    obtain ⟨q2, hq3, hres⟩ := am_let_s hres
    refine am_cV (pc' := 20) (st' := []) [] [] dX4_readOne_17 cs_X4_39 (tx_X4_advance r S _ hq3) rfl rfl rfl (sx_c26 S r) rfl rfl rfl (am_rbh (by omega) (Nat.le_of_ble_eq_true rfl)) rfl ?_
    refine am_aload_n (pc' := 21) 0 dX4_readOne_20 rfl rfl rfl ?_
    refine am_get (pc' := 24) (v := .ref 21) dX4_readOne_21 fl_X4_21 (sx_c26 q2 r) rfl rfl ?_
    refine am_iload_n (pc' := 25) 2 dX4_readOne_24 rfl rfl rfl ?_
    obtain ⟨q4, hq5, hres⟩ := am_let_s hres
    refine am_cV (pc' := 28) (st' := [.int q4.1]) [] [.int (sx_rd_token S)] dX4_readOne_25 cs_X4_133 (tx_X8_add r (sx_rd_token S) q2 _ hq5) rfl rfl rfl (sx_c21 q2 r) rfl rfl rfl (am_rbh (by omega) (Nat.le_of_ble_eq_true rfl)) rfl ?_
    obtain ⟨hbz, hres⟩ := am_bz_s hres
    subst hres
    exact am_zret dX4_readOne_28 rfl hbz rfl rfl
  · rw [if_neg hc1] at hres
    refine am_iload_n (pc' := 10) 2 dX4_readOne_9 rfl rfl rfl ?_
    refine am_cS (pc' := 13) (st' := [.int (fx_X8_isName (sx_rd_token S))]) [] [.int (sx_rd_token S)] dX4_readOne_10 cs_X4_148 (tx_X8_isName (sx_w S r) (sx_rd_token S) _ rfl) rfl rfl rfl rfl (am_rbh (by omega) (Nat.le_of_ble_eq_true rfl)) rfl ?_
    refine am_if_eq (pc' := 16) 29 dX4_readOne_13 rfl rfl (fun hc6 => ?_) (fun hc6 => ?_)
    · rw [if_pos hc6] at hres
      refine am_iload_n (pc' := 30) 1 dX4_readOne_29 rfl rfl rfl ?_
      refine am_iconst (pc' := 31) (v := 5) dX4_readOne_30 kc_5 rfl ?_
      refine am_icmp_lt (pc' := 34) 36 dX4_readOne_31 rfl rfl (fun hc7 => ?_) (fun hc7 => ?_)
      · rw [if_pos hc7] at hres
        refine am_aload_n (pc' := 37) 0 dX4_readOne_36 rfl rfl rfl ?_
        refine am_bipush (pc' := 39) (v := (-45)) dX4_readOne_37 kb_m45 rfl ?_
        obtain ⟨q8, hq9, hres⟩ := am_let_s hres
        refine am_cV (pc' := 42) (st' := [.int q8.1]) [] [.int (-45 : Int32)] dX4_readOne_39 cs_X4_120 (tx_X4_passed r (-45 : Int32) S _ hq9) rfl rfl rfl (sx_c26 S r) rfl rfl rfl (am_rbh (by omega) (Nat.le_of_ble_eq_true rfl)) rfl ?_
        refine am_if_eq (pc' := 45) 73 dX4_readOne_42 rfl rfl (fun hc10 => ?_) (fun hc10 => ?_)
        · rw [if_pos hc10] at hres
          refine am_aload_n (pc' := 74) 0 dX4_readOne_73 rfl rfl rfl ?_
          refine am_bipush (pc' := 76) (v := (-40)) dX4_readOne_74 kb_m40 rfl ?_
          obtain ⟨q11, hq12, hres⟩ := am_let_s hres
          refine am_cV (pc' := 79) (st' := [.int q11.1]) [] [.int (-40 : Int32)] dX4_readOne_76 cs_X4_120 (tx_X4_passed r (-40 : Int32) q8.2 _ hq12) rfl rfl rfl (sx_c26 q8.2 r) rfl rfl rfl (am_rbh (by omega) (Nat.le_of_ble_eq_true rfl)) rfl ?_
          refine am_if_eq (pc' := 82) 105 dX4_readOne_79 rfl rfl (fun hc13 => ?_) (fun hc13 => ?_)
          · rw [if_pos hc13] at hres
            refine am_iconst (pc' := 106) (v := 0) dX4_readOne_105 kc_0 rfl ?_
            obtain rfl := Option.some.inj hres
            exact am_zret dX4_readOne_106 rfl rfl rfl rfl
          · rw [if_neg hc13] at hres
            refine am_aload_n (pc' := 83) 0 dX4_readOne_82 rfl rfl rfl ?_
            refine am_iload_n (pc' := 84) 1 dX4_readOne_83 rfl rfl rfl ?_
            refine am_iconst (pc' := 85) (v := 1) dX4_readOne_84 kc_1 rfl ?_
            refine am_iadd (pc' := 86) dX4_readOne_85 rfl ?_
            obtain ⟨q14, hq15, hres⟩ := am_bd_s hres
            refine am_cV (pc' := 89) (st' := [.int q14.1]) [] [.int (a1 + (1 : Int32))] dX4_readOne_86 cs_X4_123 (hOr (a1 + (1 : Int32)) q11.2 _ hq15) rfl rfl rfl (sx_c26 q11.2 r) rfl rfl rfl (am_rbh (by omega) (Nat.le_of_ble_eq_true rfl)) rfl ?_
            refine am_if_eq (pc' := 92) 105 dX4_readOne_89 rfl rfl (fun hc16 => ?_) (fun hc16 => ?_)
            · rw [if_pos hc16] at hres
              refine am_iconst (pc' := 106) (v := 0) dX4_readOne_105 kc_0 rfl ?_
              obtain rfl := Option.some.inj hres
              exact am_zret dX4_readOne_106 rfl rfl rfl rfl
            · rw [if_neg hc16] at hres
              refine am_aload_n (pc' := 93) 0 dX4_readOne_92 rfl rfl rfl ?_
              refine am_bipush (pc' := 95) (v := (-41)) dX4_readOne_93 kb_m41 rfl ?_
              obtain ⟨q17, hq18, hres⟩ := am_let_s hres
              refine am_cV (pc' := 98) (st' := [.int q17.1]) [] [.int (-41 : Int32)] dX4_readOne_95 cs_X4_120 (tx_X4_passed r (-41 : Int32) q14.2 _ hq18) rfl rfl rfl (sx_c26 q14.2 r) rfl rfl rfl (am_rbh (by omega) (Nat.le_of_ble_eq_true rfl)) rfl ?_
              refine am_if_eq (pc' := 101) 105 dX4_readOne_98 rfl rfl (fun hc19 => ?_) (fun hc19 => ?_)
              · rw [if_pos hc19] at hres
                refine am_iconst (pc' := 106) (v := 0) dX4_readOne_105 kc_0 rfl ?_
                obtain rfl := Option.some.inj hres
                exact am_zret dX4_readOne_106 rfl rfl rfl rfl
              · rw [if_neg hc19] at hres
                refine am_iconst (pc' := 102) (v := 1) dX4_readOne_101 kc_1 rfl ?_
                refine am_goto 106 dX4_readOne_102 rfl ?_
                obtain rfl := Option.some.inj hres
                exact am_zret dX4_readOne_106 rfl rfl rfl rfl
        · rw [if_neg hc10] at hres
          refine am_aload_n (pc' := 46) 0 dX4_readOne_45 rfl rfl rfl ?_
          refine am_iload_n (pc' := 47) 1 dX4_readOne_46 rfl rfl rfl ?_
          refine am_iconst (pc' := 48) (v := 1) dX4_readOne_47 kc_1 rfl ?_
          refine am_iadd (pc' := 49) dX4_readOne_48 rfl ?_
          obtain ⟨q20, hq21, hres⟩ := am_bd_s hres
          refine am_cV (pc' := 52) (st' := [.int q20.1]) [] [.int (a1 + (1 : Int32))] dX4_readOne_49 cs_X4_145 (hOne (a1 + (1 : Int32)) q8.2 _ hq21) rfl rfl rfl (sx_c26 q8.2 r) rfl rfl rfl (am_rbh (by omega) (Nat.le_of_ble_eq_true rfl)) rfl ?_
          refine am_if_eq (pc' := 55) 71 dX4_readOne_52 rfl rfl (fun hc22 => ?_) (fun hc22 => ?_)
          · rw [if_pos hc22] at hres
            refine am_iconst (pc' := 72) (v := 0) dX4_readOne_71 kc_0 rfl ?_
            obtain rfl := Option.some.inj hres
            exact am_zret dX4_readOne_72 rfl rfl rfl rfl
          · rw [if_neg hc22] at hres
            refine am_aload_n (pc' := 56) 0 dX4_readOne_55 rfl rfl rfl ?_
            refine am_get (pc' := 59) (v := .ref 21) dX4_readOne_56 fl_X4_21 (sx_c26 q20.2 r) rfl rfl ?_
            refine am_bipush (pc' := 61) (v := (-9)) dX4_readOne_59 kb_m9 rfl ?_
            obtain ⟨q23, hq24, hres⟩ := am_let_s hres
            refine am_cV (pc' := 64) (st' := [.int q23.1]) [] [.int (-9 : Int32)] dX4_readOne_61 cs_X4_133 (tx_X8_add r (-9 : Int32) q20.2 _ hq24) rfl rfl rfl (sx_c21 q20.2 r) rfl rfl rfl (am_rbh (by omega) (Nat.le_of_ble_eq_true rfl)) rfl ?_
            refine am_if_eq (pc' := 67) 71 dX4_readOne_64 rfl rfl (fun hc25 => ?_) (fun hc25 => ?_)
            · rw [if_pos hc25] at hres
              refine am_iconst (pc' := 72) (v := 0) dX4_readOne_71 kc_0 rfl ?_
              obtain rfl := Option.some.inj hres
              exact am_zret dX4_readOne_72 rfl rfl rfl rfl
            · rw [if_neg hc25] at hres
              refine am_iconst (pc' := 68) (v := 1) dX4_readOne_67 kc_1 rfl ?_
              refine am_goto 72 dX4_readOne_68 rfl ?_
              obtain rfl := Option.some.inj hres
              exact am_zret dX4_readOne_72 rfl rfl rfl rfl
      · rw [if_neg hc7] at hres
        refine am_iconst (pc' := 35) (v := 0) dX4_readOne_34 kc_0 rfl ?_
        obtain rfl := Option.some.inj hres
        exact am_zret dX4_readOne_35 rfl rfl rfl rfl
    · rw [if_neg hc6] at hres
      refine am_aload_n (pc' := 17) 0 dX4_readOne_16 rfl rfl rfl ?_
      obtain ⟨q26, hq27, hres⟩ := am_let_s hres
      refine am_cV (pc' := 20) (st' := []) [] [] dX4_readOne_17 cs_X4_39 (tx_X4_advance r S _ hq27) rfl rfl rfl (sx_c26 S r) rfl rfl rfl (am_rbh (by omega) (Nat.le_of_ble_eq_true rfl)) rfl ?_
      refine am_aload_n (pc' := 21) 0 dX4_readOne_20 rfl rfl rfl ?_
      refine am_get (pc' := 24) (v := .ref 21) dX4_readOne_21 fl_X4_21 (sx_c26 q26 r) rfl rfl ?_
      refine am_iload_n (pc' := 25) 2 dX4_readOne_24 rfl rfl rfl ?_
      obtain ⟨q28, hq29, hres⟩ := am_let_s hres
      refine am_cV (pc' := 28) (st' := [.int q28.1]) [] [.int (sx_rd_token S)] dX4_readOne_25 cs_X4_133 (tx_X8_add r (sx_rd_token S) q26 _ hq29) rfl rfl rfl (sx_c21 q26 r) rfl rfl rfl (am_rbh (by omega) (Nat.le_of_ble_eq_true rfl)) rfl ?_
      obtain ⟨hbz, hres⟩ := am_bz_s hres
      subst hres
      exact am_zret dX4_readOne_28 rfl hbz rfl rfl
theorem tr_P (r : am_W) : ∀ n : Nat, (∀ (a : Int32) (S : sx_T) (res : Int32 × sx_T), (gr_P n).1 a S = some res → am_T mX4_readOne (40 * n + 4) 0 0 [.ref 26, .int a] (sx_w S r) (some (.int res.1)) (sx_w res.2 r)) ∧ (∀ (a : Int32) (S : sx_T) (res : Int32 × sx_T), (gr_P n).2 a S = some res → am_T mX4_readNot (40 * n + 24) 0 0 [.ref 26, .int a] (sx_w S r) (some (.int res.1)) (sx_w res.2 r)) := by
  intro n
  induction n with
  | zero => exact ⟨fun a S res h => (by cases h), fun a S res h => (by cases h)⟩
  | succ n ih =>
    obtain ⟨ih1, ih2⟩ := ih
    have hAnd : ∀ (a : Int32) (S : sx_T) (res : Int32 × sx_T), fx_X4_readAnd (gr_P n).2 a S = some res → am_T mX4_readAnd (40 * n + 30) 0 0 [.ref 26, .int a] (sx_w S r) (some (.int res.1)) (sx_w res.2 r) := fun a S res h => tx_X4_readAnd r _ (40 * n + 24) (40 * n + 30) (by omega) ih2 (by omega) a S res h
    have hOr : ∀ (a : Int32) (S : sx_T) (res : Int32 × sx_T), fx_X4_readOr (fx_X4_readAnd (gr_P n).2) a S = some res → am_T mX4_readOr (40 * n + 36) 0 0 [.ref 26, .int a] (sx_w S r) (some (.int res.1)) (sx_w res.2 r) := fun a S res h => tx_X4_readOr r _ (40 * n + 30) (40 * n + 36) (by omega) hAnd (by omega) a S res h
    have hOne : ∀ (a : Int32) (S : sx_T) (res : Int32 × sx_T), (gr_P (n + 1)).1 a S = some res → am_T mX4_readOne (40 * n + 44) 0 0 [.ref 26, .int a] (sx_w S r) (some (.int res.1)) (sx_w res.2 r) := fun a S res h => tx_X4_readOne r _ _ (40 * n + 4) (40 * n + 36) (40 * n + 44) (by omega) ih1 (by omega) hOr (by omega) a S res h
    have hTerm : ∀ (a : Int32) (S : sx_T) (res : Int32 × sx_T), fx_X4_readTerm (gr_P (n + 1)).1 a S = some res → am_T mX4_readTerm (40 * n + 50) 0 0 [.ref 26, .int a] (sx_w S r) (some (.int res.1)) (sx_w res.2 r) := fun a S res h => tx_X4_readTerm r _ (40 * n + 44) (40 * n + 50) (by omega) hOne (by omega) a S res h
    have hSum : ∀ (a : Int32) (S : sx_T) (res : Int32 × sx_T), fx_X4_readSum (fx_X4_readTerm (gr_P (n + 1)).1) a S = some res → am_T mX4_readSum (40 * n + 56) 0 0 [.ref 26, .int a] (sx_w S r) (some (.int res.1)) (sx_w res.2 r) := fun a S res h => tx_X4_readSum r _ (40 * n + 50) (40 * n + 56) (by omega) hTerm (by omega) a S res h
    exact ⟨hOne, fun a S res h => tx_X4_readNot r _ _ (40 * n + 24) (40 * n + 56) (40 * n + 64) (by omega) ih2 (by omega) hSum (by omega) a S res h⟩
theorem tr_Or (r : am_W) (a : Int32) (S : sx_T) (res : Int32 × sx_T) (h : fr_Or a S = some res) : am_T mX4_readOr 316 0 0 [.ref 26, .int a] (sx_w S r) (some (.int res.1)) (sx_w res.2 r) :=
  tx_X4_readOr r _ 310 316 (by omega) (fun a S res h => tx_X4_readAnd r _ 304 310 (by omega) (tr_P r 7).2 (by omega) a S res h) (by omega) a S res h
set_option maxRecDepth 100000 in
set_option maxHeartbeats 4000000 in
theorem tx_X10_lookAt (r : am_W) (a1 : Int32) (S : sx_T) (res : sx_T) (hres : fx_X10_lookAt a1 S = res) : am_T mX10_lookAt 1 0 0 [.ref 34, .int a1] (sx_w S r) none (sx_w res r) := by
  refine am_meth (ls := [some (.ref 34), some (.int a1)]) (by decide +kernel) rfl (Nat.le_of_ble_eq_true rfl) (sx_len _ _ _) ?_
  rw [fx_X10_lookAt] at hres
  refine am_aload_n (pc' := 1) 0 dX10_lookAt_0 rfl rfl rfl ?_
  refine am_get (pc' := 4) (v := .ref 38) dX10_lookAt_1 fl_X10_21 (sx_c34 S r) rfl rfl ?_
  refine am_iconst (pc' := 5) (v := 0) dX10_lookAt_4 kc_0 rfl ?_
  refine am_aload_n (pc' := 6) 0 dX10_lookAt_5 rfl rfl rfl ?_
  refine am_get (pc' := 9) (v := .ref 35) dX10_lookAt_6 fl_X10_9 (sx_c34 S r) rfl rfl ?_
  refine am_iload_n (pc' := 10) 1 dX10_lookAt_9 rfl rfl rfl ?_
  refine am_cSN (pc' := 13) (st' := [.int (am_rd 6 (sx_vi_light S) a1), .int (0 : Int32), .ref 38]) [.int (0 : Int32), .ref 38] [.ref 35, .int a1] dX10_lookAt_10 cs_X10_41 (tx_at (f := (sx_vi_light S)) (sx_c35 S r) rfl a1) rfl rfl rfl rfl rfl rfl ?_
  refine am_cSN (pc' := 16) (st' := []) [] [.ref 38, .int (0 : Int32), .int (am_rd 6 (sx_vi_light S) a1)] dX10_lookAt_13 cs_X10_45 (tx_set (f := (sx_vi_names S)) (w1 := (sx_w (ux_vi_names S (am_up 6 (sx_vi_names S) (0 : Int32) (am_rd 6 (sx_vi_light S) a1))) r)) (sx_c38 S r) rfl (0 : Int32) (am_rd 6 (sx_vi_light S) a1) (sx_p_vi_names S r _)) rfl rfl rfl rfl rfl rfl ?_
  refine am_aload_n (pc' := 17) 0 dX10_lookAt_16 rfl rfl rfl ?_
  refine am_get (pc' := 20) (v := .ref 38) dX10_lookAt_17 fl_X10_21 (sx_c34 (ux_vi_names S (am_up 6 (sx_vi_names S) (0 : Int32) (am_rd 6 (sx_vi_light S) a1))) r) rfl rfl ?_
  refine am_iconst (pc' := 21) (v := 1) dX10_lookAt_20 kc_1 rfl ?_
  refine am_aload_n (pc' := 22) 0 dX10_lookAt_21 rfl rfl rfl ?_
  refine am_get (pc' := 25) (v := .ref 36) dX10_lookAt_22 fl_X10_15 (sx_c34 (ux_vi_names S (am_up 6 (sx_vi_names S) (0 : Int32) (am_rd 6 (sx_vi_light S) a1))) r) rfl rfl ?_
  refine am_iload_n (pc' := 26) 1 dX10_lookAt_25 rfl rfl rfl ?_
  refine am_cSN (pc' := 29) (st' := [.int (am_rd 6 (sx_vi_damp S) a1), .int (1 : Int32), .ref 38]) [.int (1 : Int32), .ref 38] [.ref 36, .int a1] dX10_lookAt_26 cs_X10_41 (tx_at (f := (sx_vi_damp S)) (sx_c36 (ux_vi_names S (am_up 6 (sx_vi_names S) (0 : Int32) (am_rd 6 (sx_vi_light S) a1))) r) rfl a1) rfl rfl rfl rfl rfl rfl ?_
  refine am_cSN (pc' := 32) (st' := []) [] [.ref 38, .int (1 : Int32), .int (am_rd 6 (sx_vi_damp S) a1)] dX10_lookAt_29 cs_X10_45 (tx_set (f := (am_up 6 (sx_vi_names S) (0 : Int32) (am_rd 6 (sx_vi_light S) a1))) (w1 := (sx_w (ux_vi_names (ux_vi_names S (am_up 6 (sx_vi_names S) (0 : Int32) (am_rd 6 (sx_vi_light S) a1))) (am_up 6 (am_up 6 (sx_vi_names S) (0 : Int32) (am_rd 6 (sx_vi_light S) a1)) (1 : Int32) (am_rd 6 (sx_vi_damp S) a1))) r)) (sx_c38 (ux_vi_names S (am_up 6 (sx_vi_names S) (0 : Int32) (am_rd 6 (sx_vi_light S) a1))) r) rfl (1 : Int32) (am_rd 6 (sx_vi_damp S) a1) (sx_p_vi_names (ux_vi_names S (am_up 6 (sx_vi_names S) (0 : Int32) (am_rd 6 (sx_vi_light S) a1))) r _)) rfl rfl rfl rfl rfl rfl ?_
  refine am_aload_n (pc' := 33) 0 dX10_lookAt_32 rfl rfl rfl ?_
  refine am_get (pc' := 36) (v := .ref 38) dX10_lookAt_33 fl_X10_21 (sx_c34 (ux_vi_names (ux_vi_names S (am_up 6 (sx_vi_names S) (0 : Int32) (am_rd 6 (sx_vi_light S) a1))) (am_up 6 (am_up 6 (sx_vi_names S) (0 : Int32) (am_rd 6 (sx_vi_light S) a1)) (1 : Int32) (am_rd 6 (sx_vi_damp S) a1))) r) rfl rfl ?_
  refine am_iconst (pc' := 37) (v := 2) dX10_lookAt_36 kc_2 rfl ?_
  refine am_iload_n (pc' := 38) 1 dX10_lookAt_37 rfl rfl rfl ?_
  refine am_cSN (pc' := 41) (st' := []) [] [.ref 38, .int (2 : Int32), .int a1] dX10_lookAt_38 cs_X10_45 (tx_set (f := (am_up 6 (am_up 6 (sx_vi_names S) (0 : Int32) (am_rd 6 (sx_vi_light S) a1)) (1 : Int32) (am_rd 6 (sx_vi_damp S) a1))) (w1 := (sx_w (ux_vi_names (ux_vi_names (ux_vi_names S (am_up 6 (sx_vi_names S) (0 : Int32) (am_rd 6 (sx_vi_light S) a1))) (am_up 6 (am_up 6 (sx_vi_names S) (0 : Int32) (am_rd 6 (sx_vi_light S) a1)) (1 : Int32) (am_rd 6 (sx_vi_damp S) a1))) (am_up 6 (am_up 6 (am_up 6 (sx_vi_names S) (0 : Int32) (am_rd 6 (sx_vi_light S) a1)) (1 : Int32) (am_rd 6 (sx_vi_damp S) a1)) (2 : Int32) a1)) r)) (sx_c38 (ux_vi_names (ux_vi_names S (am_up 6 (sx_vi_names S) (0 : Int32) (am_rd 6 (sx_vi_light S) a1))) (am_up 6 (am_up 6 (sx_vi_names S) (0 : Int32) (am_rd 6 (sx_vi_light S) a1)) (1 : Int32) (am_rd 6 (sx_vi_damp S) a1))) r) rfl (2 : Int32) a1 (sx_p_vi_names (ux_vi_names (ux_vi_names S (am_up 6 (sx_vi_names S) (0 : Int32) (am_rd 6 (sx_vi_light S) a1))) (am_up 6 (am_up 6 (sx_vi_names S) (0 : Int32) (am_rd 6 (sx_vi_light S) a1)) (1 : Int32) (am_rd 6 (sx_vi_damp S) a1))) r _)) rfl rfl rfl rfl rfl rfl ?_
  subst hres
  exact am_vret dX10_lookAt_41 rfl rfl rfl
set_option maxRecDepth 100000 in
set_option maxHeartbeats 4000000 in
theorem tx_X8_joined (ws : am_W) (a1 : Int32) (a2 : Int32) (a3 : Int32) (res : Int32) (hres : fx_X8_joined a1 a2 a3 = res) : am_T mX8_joined 0 0 0 [.int a1, .int a2, .int a3] ws (some (.int res)) ws := by
  refine am_meth (ls := [some (.int a1), some (.int a2), some (.int a3)]) (by decide +kernel) rfl (Nat.le_of_ble_eq_true rfl) ⟨rfl, Or.inl rfl⟩ ?_
  rw [fx_X8_joined] at hres
  refine am_iload_n (pc' := 1) 0 dX8_joined_0 rfl rfl rfl ?_
  rcases Classical.em (a1 = (-61 : Int32)) with hs1 | hs1
  · rw [if_pos hs1] at hres
    refine am_lookup 83 dX8_joined_1 (by decide) (by first | (rw [hs1]; done) | (rw [hs1]; decide)) rfl ?_
    refine am_iload_n (pc' := 84) 1 dX8_joined_83 rfl rfl rfl ?_
    refine am_iload_n (pc' := 85) 2 dX8_joined_84 rfl rfl rfl ?_
    refine am_icmp_ne (pc' := 88) 92 dX8_joined_85 rfl rfl (fun hc7 => ?_) (fun hc7 => ?_)
    · rw [if_neg hc7] at hres
      refine am_iconst (pc' := 93) (v := 0) dX8_joined_92 kc_0 rfl ?_
      subst hres
      exact am_iret dX8_joined_93 rfl rfl rfl
    · rw [if_pos hc7] at hres
      refine am_iconst (pc' := 89) (v := 1) dX8_joined_88 kc_1 rfl ?_
      refine am_goto 93 dX8_joined_89 rfl ?_
      subst hres
      exact am_iret dX8_joined_93 rfl rfl rfl
  · rw [if_neg hs1] at hres
    rcases Classical.em (a1 = (-60 : Int32)) with hs2 | hs2
    · rw [if_pos hs2] at hres
      refine am_lookup 72 dX8_joined_1 (by decide) (by first | (rw [hs2]; done) | (rw [hs2]; decide)) rfl ?_
      refine am_iload_n (pc' := 73) 1 dX8_joined_72 rfl rfl rfl ?_
      refine am_iload_n (pc' := 74) 2 dX8_joined_73 rfl rfl rfl ?_
      refine am_icmp_ge (pc' := 77) 81 dX8_joined_74 rfl rfl (fun hc8 => ?_) (fun hc8 => ?_)
      · rw [if_pos hc8] at hres
        refine am_iconst (pc' := 82) (v := 0) dX8_joined_81 kc_0 rfl ?_
        subst hres
        exact am_iret dX8_joined_82 rfl rfl rfl
      · rw [if_neg hc8] at hres
        refine am_iconst (pc' := 78) (v := 1) dX8_joined_77 kc_1 rfl ?_
        refine am_goto 82 dX8_joined_78 rfl ?_
        subst hres
        exact am_iret dX8_joined_82 rfl rfl rfl
    · rw [if_neg hs2] at hres
      rcases Classical.em (a1 = (-45 : Int32)) with hs3 | hs3
      · rw [if_pos hs3] at hres
        refine am_lookup 64 dX8_joined_1 (by decide) (by first | (rw [hs3]; done) | (rw [hs3]; decide)) rfl ?_
        refine am_iload_n (pc' := 65) 1 dX8_joined_64 rfl rfl rfl ?_
        refine am_iload_n (pc' := 66) 2 dX8_joined_65 rfl rfl rfl ?_
        refine am_isub (pc' := 67) dX8_joined_66 rfl ?_
        subst hres
        exact am_iret dX8_joined_67 rfl rfl rfl
      · rw [if_neg hs3] at hres
        rcases Classical.em (a1 = (-43 : Int32)) with hs4 | hs4
        · rw [if_pos hs4] at hres
          refine am_lookup 60 dX8_joined_1 (by decide) (by first | (rw [hs4]; done) | (rw [hs4]; decide)) rfl ?_
          refine am_iload_n (pc' := 61) 1 dX8_joined_60 rfl rfl rfl ?_
          refine am_iload_n (pc' := 62) 2 dX8_joined_61 rfl rfl rfl ?_
          refine am_iadd (pc' := 63) dX8_joined_62 rfl ?_
          subst hres
          exact am_iret dX8_joined_63 rfl rfl rfl
        · rw [if_neg hs4] at hres
          rcases Classical.em (a1 = (-42 : Int32)) with hs5 | hs5
          · rw [if_pos hs5] at hres
            refine am_lookup 68 dX8_joined_1 (by decide) (by first | (rw [hs5]; done) | (rw [hs5]; decide)) rfl ?_
            refine am_iload_n (pc' := 69) 1 dX8_joined_68 rfl rfl rfl ?_
            refine am_iload_n (pc' := 70) 2 dX8_joined_69 rfl rfl rfl ?_
            refine am_imul (pc' := 71) dX8_joined_70 rfl ?_
            subst hres
            exact am_iret dX8_joined_71 rfl rfl rfl
          · rw [if_neg hs5] at hres
            rcases Classical.em (a1 = (-7 : Int32)) with hs6 | hs6
            · rw [if_pos hs6] at hres
              refine am_lookup 94 dX8_joined_1 (by decide) (by first | (rw [hs6]; done) | (rw [hs6]; decide)) rfl ?_
              refine am_iload_n (pc' := 95) 1 dX8_joined_94 rfl rfl rfl ?_
              refine am_if_eq (pc' := 98) 106 dX8_joined_95 rfl rfl (fun hc9 => ?_) (fun hc9 => ?_)
              · rw [if_pos hc9] at hres
                refine am_iconst (pc' := 107) (v := 0) dX8_joined_106 kc_0 rfl ?_
                subst hres
                exact am_iret dX8_joined_107 rfl rfl rfl
              · rw [if_neg hc9] at hres
                refine am_iload_n (pc' := 99) 2 dX8_joined_98 rfl rfl rfl ?_
                refine am_if_eq (pc' := 102) 106 dX8_joined_99 rfl rfl (fun hc10 => ?_) (fun hc10 => ?_)
                · rw [if_pos hc10] at hres
                  refine am_iconst (pc' := 107) (v := 0) dX8_joined_106 kc_0 rfl ?_
                  subst hres
                  exact am_iret dX8_joined_107 rfl rfl rfl
                · rw [if_neg hc10] at hres
                  refine am_iconst (pc' := 103) (v := 1) dX8_joined_102 kc_1 rfl ?_
                  refine am_goto 107 dX8_joined_103 rfl ?_
                  subst hres
                  exact am_iret dX8_joined_107 rfl rfl rfl
            · rw [if_neg hs6] at hres
              refine am_lookup 108 dX8_joined_1 (by decide) ((lv_osw hs1 (by decide)).trans ((lv_osw hs2 (by decide)).trans ((lv_osw hs3 (by decide)).trans ((lv_osw hs4 (by decide)).trans ((lv_osw hs5 (by decide)).trans ((lv_osw hs6 (by decide)).trans rfl)))))) rfl ?_
              refine am_iload_n (pc' := 109) 1 dX8_joined_108 rfl rfl rfl ?_
              refine am_if_ne (pc' := 112) 116 dX8_joined_109 rfl rfl (fun hc11 => ?_) (fun hc11 => ?_)
              · rw [if_neg hc11] at hres
                refine am_iconst (pc' := 117) (v := 1) dX8_joined_116 kc_1 rfl ?_
                refine am_goto 121 dX8_joined_117 rfl ?_
                subst hres
                exact am_iret dX8_joined_121 rfl rfl rfl
              · rw [if_pos hc11] at hres
                refine am_iload_n (pc' := 113) 2 dX8_joined_112 rfl rfl rfl ?_
                refine am_if_eq (pc' := 116) 120 dX8_joined_113 rfl rfl (fun hc12 => ?_) (fun hc12 => ?_)
                · rw [if_pos hc12] at hres
                  refine am_iconst (pc' := 121) (v := 0) dX8_joined_120 kc_0 rfl ?_
                  subst hres
                  exact am_iret dX8_joined_121 rfl rfl rfl
                · rw [if_neg hc12] at hres
                  refine am_iconst (pc' := 117) (v := 1) dX8_joined_116 kc_1 rfl ?_
                  refine am_goto 121 dX8_joined_117 rfl ?_
                  subst hres
                  exact am_iret dX8_joined_121 rfl rfl rfl
set_option maxRecDepth 100000 in
set_option maxHeartbeats 4000000 in
theorem tx_X11_bound (ws : am_W) (a1 : Int32) (a2 : Int32) (a3 : Int32) (res : Int32) (hres : fx_X11_bound a1 a2 a3 = res) : am_T mX11_bound 0 0 0 [.int a1, .int a2, .int a3] ws (some (.int res)) ws := by
  refine am_meth (ls := [some (.int a1), some (.int a2), some (.int a3)]) (by decide +kernel) rfl (Nat.le_of_ble_eq_true rfl) ⟨rfl, Or.inl rfl⟩ ?_
  rw [fx_X11_bound] at hres
  refine am_iload_n (pc' := 1) 0 dX11_bound_0 rfl rfl rfl ?_
  refine am_iload_n (pc' := 2) 1 dX11_bound_1 rfl rfl rfl ?_
  refine am_icmp_ge (pc' := 5) 9 dX11_bound_2 rfl rfl (fun hc1 => ?_) (fun hc1 => ?_)
  · rw [if_pos hc1] at hres
    refine am_iload_n (pc' := 10) 0 dX11_bound_9 rfl rfl rfl ?_
    refine am_iload_n (pc' := 11) 2 dX11_bound_10 rfl rfl rfl ?_
    refine am_icmp_le (pc' := 14) 18 dX11_bound_11 rfl rfl (fun hc2 => ?_) (fun hc2 => ?_)
    · rw [if_pos hc2] at hres
      refine am_iload_n (pc' := 19) 0 dX11_bound_18 rfl rfl rfl ?_
      subst hres
      exact am_iret dX11_bound_19 rfl rfl rfl
    · rw [if_neg hc2] at hres
      refine am_iload_n (pc' := 15) 2 dX11_bound_14 rfl rfl rfl ?_
      refine am_goto 19 dX11_bound_15 rfl ?_
      subst hres
      exact am_iret dX11_bound_19 rfl rfl rfl
  · rw [if_neg hc1] at hres
    refine am_iload_n (pc' := 6) 1 dX11_bound_5 rfl rfl rfl ?_
    refine am_goto 19 dX11_bound_6 rfl ?_
    subst hres
    exact am_iret dX11_bound_19 rfl rfl rfl
set_option maxRecDepth 100000 in
set_option maxHeartbeats 4000000 in
theorem wx_X8_said_r38_80 (r : am_W) (k49 : Int32 → Int32 → Int32 → Int32 → sx_T → Option (Int32 × sx_T)) (hk49 : ∀ (v2 : Int32) (v5 : Int32) (v6 : Int32) (v7 : Int32) (S : sx_T) (res : Int32 × sx_T), k49 v2 v5 v6 v7 S = some res → am_G mX8_said (none, 1, 0, 0, (some (.int res.1)), (sx_w res.2 r)) (0, 0) 49 [some (.ref 21), none, some (.int v2), some (.ref 38), none, some (.int v5), some (.int v6), some (.int v7), none] [] (sx_w S r)) : ∀ (v2 : Int32) (v5 : Int32) (v6 : Int32) (v7 : Int32) (v8 : Int32) (S : sx_T) (res : Int32 × sx_T) (hres : fx_X8_said_r38_80 k49 v2 v5 v6 v7 v8 S = some res), am_G mX8_said (none, 1, 0, 0, (some (.int res.1)), (sx_w res.2 r)) (0, 0) 80 [some (.ref 21), none, some (.int v2), some (.ref 38), none, some (.int v5), some (.int v6), some (.int v7), some (.int v8)] [] (sx_w S r) := by
  intro v2 v5 v6 v7 v8 S res hres
  rw [fx_X8_said_r38_80] at hres
  refine am_iinc (pc' := 83) (ls' := [some (.ref 21), none, some (.int v2), some (.ref 38), none, some (.int v5), some (.int (v6 + (1 : Int32))), some (.int v7), some (.int v8)]) dX8_said_80 rfl (show v6 + Int32.ofInt 1 = (v6 + (1 : Int32)) from congrArg (fun z => v6 + z) kc_1) (Nat.le_of_ble_eq_true rfl) rfl rfl rfl ?_
  refine am_aload_n (pc' := 84) 0 dX8_said_83 rfl rfl rfl ?_
  refine am_get (pc' := 87) (v := .ref 25) dX8_said_84 fl_X8_21 (sx_c21 S r) rfl rfl ?_
  refine am_iload (pc' := 89) dX8_said_87 rfl rfl ?_
  refine am_iload (pc' := 91) dX8_said_89 rfl rfl ?_
  refine am_if_lt (pc' := 94) 99 dX8_said_91 rfl rfl (fun hc6 => ?_) (fun hc6 => ?_)
  · rw [if_pos hc6] at hres
    refine am_aload_n (pc' := 100) 3 dX8_said_99 rfl rfl rfl ?_
    refine am_bipush (pc' := 102) (v := (-10)) dX8_said_100 kb_m10 rfl ?_
    refine am_iload (pc' := 104) dX8_said_102 rfl rfl ?_
    refine am_isub (pc' := 105) dX8_said_104 rfl ?_
    refine am_cSN (pc' := 108) (st' := [.int (am_rd 6 (sx_vi_names S) ((-10 : Int32) - v8)), .int (v6 + (1 : Int32)), .ref 25]) [.int (v6 + (1 : Int32)), .ref 25] [.ref 38, .int ((-10 : Int32) - v8)] dX8_said_105 cs_X8_46 (tx_at (f := (sx_vi_names S)) (sx_c38 S r) rfl ((-10 : Int32) - v8)) rfl rfl rfl rfl rfl rfl ?_
    refine am_cSN (pc' := 111) (st' := []) [] [.ref 25, .int (v6 + (1 : Int32)), .int (am_rd 6 (sx_vi_names S) ((-10 : Int32) - v8))] dX8_said_108 cs_X8_38 (tx_set (f := (sx_tx_stack S)) (w1 := (sx_w (ux_tx_stack S (am_up 160 (sx_tx_stack S) (v6 + (1 : Int32)) (am_rd 6 (sx_vi_names S) ((-10 : Int32) - v8)))) r)) (sx_c25 S r) rfl (v6 + (1 : Int32)) (am_rd 6 (sx_vi_names S) ((-10 : Int32) - v8)) (sx_p_tx_stack S r _)) rfl rfl rfl rfl rfl rfl ?_
    refine am_goto 216 dX8_said_111 rfl ?_
    refine am_iinc (pc' := 219) (ls' := [some (.ref 21), none, some (.int v2), some (.ref 38), none, some (.int v5), some (.int (v6 + (1 : Int32))), some (.int (v7 + (1 : Int32))), some (.int v8)]) dX8_said_216 rfl (show v7 + Int32.ofInt 1 = (v7 + (1 : Int32)) from congrArg (fun z => v7 + z) kc_1) (Nat.le_of_ble_eq_true rfl) rfl rfl rfl ?_
    refine am_goto 49 dX8_said_219 rfl ?_
    refine am_weak (ls' := [some (.ref 21), none, some (.int v2), some (.ref 38), none, some (.int v5), some (.int (v6 + (1 : Int32))), some (.int (v7 + (1 : Int32))), none]) [false, false, false, false, false, false, false, false, true] rfl ?_
    exact hk49 _ _ _ _ _ _ hres
  · rw [if_neg hc6] at hres
    refine am_iload (pc' := 96) dX8_said_94 rfl rfl ?_
    refine am_goto 108 dX8_said_96 rfl ?_
    refine am_cSN (pc' := 111) (st' := []) [] [.ref 25, .int (v6 + (1 : Int32)), .int v8] dX8_said_108 cs_X8_38 (tx_set (f := (sx_tx_stack S)) (w1 := (sx_w (ux_tx_stack S (am_up 160 (sx_tx_stack S) (v6 + (1 : Int32)) v8)) r)) (sx_c25 S r) rfl (v6 + (1 : Int32)) v8 (sx_p_tx_stack S r _)) rfl rfl rfl rfl rfl rfl ?_
    refine am_goto 216 dX8_said_111 rfl ?_
    refine am_iinc (pc' := 219) (ls' := [some (.ref 21), none, some (.int v2), some (.ref 38), none, some (.int v5), some (.int (v6 + (1 : Int32))), some (.int (v7 + (1 : Int32))), some (.int v8)]) dX8_said_216 rfl (show v7 + Int32.ofInt 1 = (v7 + (1 : Int32)) from congrArg (fun z => v7 + z) kc_1) (Nat.le_of_ble_eq_true rfl) rfl rfl rfl ?_
    refine am_goto 49 dX8_said_219 rfl ?_
    refine am_weak (ls' := [some (.ref 21), none, some (.int v2), some (.ref 38), none, some (.int v5), some (.int (v6 + (1 : Int32))), some (.int (v7 + (1 : Int32))), none]) [false, false, false, false, false, false, false, false, true] rfl ?_
    exact hk49 _ _ _ _ _ _ hres

set_option maxRecDepth 100000 in
set_option maxHeartbeats 4000000 in
theorem wx_X8_said_r38_49 (r : am_W) : ∀ (n : Nat) (v2 : Int32) (v5 : Int32) (v6 : Int32) (v7 : Int32) (S : sx_T) (res : Int32 × sx_T) (hres : fx_X8_said_r38_49 n v2 v5 v6 v7 S = some res), am_G mX8_said (none, 1, 0, 0, (some (.int res.1)), (sx_w res.2 r)) (0, 0) 49 [some (.ref 21), none, some (.int v2), some (.ref 38), none, some (.int v5), some (.int v6), some (.int v7), none] [] (sx_w S r) := by
  intro n
  induction n with
  | zero =>
    intro v2 v5 v6 v7 S res hres
    cases hres
  | succ n ih =>
    intro v2 v5 v6 v7 S res hres
    rw [fx_X8_said_r38_49] at hres
    refine am_iload (pc' := 51) dX8_said_49 rfl rfl ?_
    refine am_iload (pc' := 53) dX8_said_51 rfl rfl ?_
    refine am_icmp_ge (pc' := 56) 222 dX8_said_53 rfl rfl (fun hc2 => ?_) (fun hc2 => ?_)
    · rw [if_pos hc2] at hres
      refine am_aload_n (pc' := 223) 0 dX8_said_222 rfl rfl rfl ?_
      refine am_get (pc' := 226) (v := .ref 25) dX8_said_223 fl_X8_21 (sx_c21 S r) rfl rfl ?_
      refine am_iconst (pc' := 227) (v := 0) dX8_said_226 kc_0 rfl ?_
      refine am_cSN (pc' := 230) (st' := [.int (am_rd 160 (sx_tx_stack S) (0 : Int32))]) [] [.ref 25, .int (0 : Int32)] dX8_said_227 cs_X8_46 (tx_at (f := (sx_tx_stack S)) (sx_c25 S r) rfl (0 : Int32)) rfl rfl rfl rfl rfl rfl ?_
      refine am_istore (pc' := 232) (ls' := [some (.ref 21), none, some (.int v2), some (.ref 38), none, some (.int v5), some (.int v6), some (.int (am_rd 160 (sx_tx_stack S) (0 : Int32))), none]) dX8_said_230 (Nat.le_of_ble_eq_true rfl) rfl rfl rfl ?_
      refine am_iload_n (pc' := 233) 2 dX8_said_232 rfl rfl rfl ?_
      refine am_if_ne (pc' := 236) 246 dX8_said_233 rfl rfl (fun hc3 => ?_) (fun hc3 => ?_)
      · rw [if_neg hc3] at hres
        refine am_iload (pc' := 248) dX8_said_246 rfl rfl ?_
        refine am_iconst (pc' := 249) (v := 0) dX8_said_248 kc_0 rfl ?_
        refine am_iload_n (pc' := 250) 2 dX8_said_249 rfl rfl rfl ?_
        refine am_iconst (pc' := 251) (v := 1) dX8_said_250 kc_1 rfl ?_
        refine am_icmp_ne (pc' := 254) 259 dX8_said_251 rfl rfl (fun hc4 => ?_) (fun hc4 => ?_)
        · rw [if_neg hc4] at hres
          refine am_sipush (pc' := 262) (v := 999) dX8_said_259 ks_999 rfl ?_
          refine am_cSN (pc' := 265) (st' := [.int (fx_X11_bound (am_rd 160 (sx_tx_stack S) (0 : Int32)) (0 : Int32) (999 : Int32))]) [] [.int (am_rd 160 (sx_tx_stack S) (0 : Int32)), .int (0 : Int32), .int (999 : Int32)] dX8_said_262 cs_X8_54 (tx_X11_bound (sx_w S r) (am_rd 160 (sx_tx_stack S) (0 : Int32)) (0 : Int32) (999 : Int32) _ rfl) rfl rfl rfl rfl rfl rfl ?_
          obtain rfl := Option.some.inj hres
          exact am_iret dX8_said_265 rfl rfl rfl
        · rw [if_pos hc4] at hres
          refine am_bipush (pc' := 256) (v := 9) dX8_said_254 kb_9 rfl ?_
          refine am_goto 262 dX8_said_256 rfl ?_
          refine am_cSN (pc' := 265) (st' := [.int (fx_X11_bound (am_rd 160 (sx_tx_stack S) (0 : Int32)) (0 : Int32) (9 : Int32))]) [] [.int (am_rd 160 (sx_tx_stack S) (0 : Int32)), .int (0 : Int32), .int (9 : Int32)] dX8_said_262 cs_X8_54 (tx_X11_bound (sx_w S r) (am_rd 160 (sx_tx_stack S) (0 : Int32)) (0 : Int32) (9 : Int32) _ rfl) rfl rfl rfl rfl rfl rfl ?_
          obtain rfl := Option.some.inj hres
          exact am_iret dX8_said_265 rfl rfl rfl
      · rw [if_pos hc3] at hres
        refine am_iload (pc' := 238) dX8_said_236 rfl rfl ?_
        refine am_bipush (pc' := 240) (v := (-99)) dX8_said_238 kb_m99 rfl ?_
        refine am_bipush (pc' := 242) (v := 99) dX8_said_240 kb_99 rfl ?_
        refine am_cSN (pc' := 245) (st' := [.int (fx_X11_bound (am_rd 160 (sx_tx_stack S) (0 : Int32)) (-99 : Int32) (99 : Int32))]) [] [.int (am_rd 160 (sx_tx_stack S) (0 : Int32)), .int (-99 : Int32), .int (99 : Int32)] dX8_said_242 cs_X8_54 (tx_X11_bound (sx_w S r) (am_rd 160 (sx_tx_stack S) (0 : Int32)) (-99 : Int32) (99 : Int32) _ rfl) rfl rfl rfl rfl rfl rfl ?_
        obtain rfl := Option.some.inj hres
        exact am_iret dX8_said_245 rfl rfl rfl
    · rw [if_neg hc2] at hres
      refine am_aload_n (pc' := 57) 0 dX8_said_56 rfl rfl rfl ?_
      refine am_get (pc' := 60) (v := .ref 22) dX8_said_57 fl_X8_9 (sx_c21 S r) rfl rfl ?_
      refine am_iload (pc' := 62) dX8_said_60 rfl rfl ?_
      refine am_cSN (pc' := 65) (st' := [.int (am_rd 960 (sx_tx_steps S) v7)]) [] [.ref 22, .int v7] dX8_said_62 cs_X8_46 (tx_at (f := (sx_tx_steps S)) (sx_c22 S r) rfl v7) rfl rfl rfl rfl rfl rfl ?_
      refine am_istore (pc' := 67) (ls' := [some (.ref 21), none, some (.int v2), some (.ref 38), none, some (.int v5), some (.int v6), some (.int v7), some (.int (am_rd 960 (sx_tx_steps S) v7))]) dX8_said_65 (Nat.le_of_ble_eq_true rfl) rfl rfl rfl ?_
      refine am_iload (pc' := 69) dX8_said_67 rfl rfl ?_
      refine am_if_ge (pc' := 72) 80 dX8_said_69 rfl rfl (fun hc5 => ?_) (fun hc5 => ?_)
      · rw [if_pos hc5] at hres
        exact wx_X8_said_r38_80 r _ (fun a0 a1 a2 a3 a4 => ih a0 a1 a2 a3 a4) _ _ _ _ _ _ _ hres
      · rw [if_neg hc5] at hres
        refine am_iload (pc' := 74) dX8_said_72 rfl rfl ?_
        refine am_cS (pc' := 77) (st' := [.int (fx_X8_isName (am_rd 960 (sx_tx_steps S) v7))]) [] [.int (am_rd 960 (sx_tx_steps S) v7)] dX8_said_74 cs_X8_42 (tx_X8_isName (sx_w S r) (am_rd 960 (sx_tx_steps S) v7) _ rfl) rfl rfl rfl rfl rfl rfl ?_
        refine am_if_eq (pc' := 80) 114 dX8_said_77 rfl rfl (fun hc7 => ?_) (fun hc7 => ?_)
        · rw [if_pos hc7] at hres
          refine am_iload (pc' := 116) dX8_said_114 rfl rfl ?_
          refine am_bipush (pc' := 118) (v := (-8)) dX8_said_116 kb_m8 rfl ?_
          refine am_icmp_ne (pc' := 121) 150 dX8_said_118 rfl rfl (fun hc8 => ?_) (fun hc8 => ?_)
          · rw [if_neg hc8] at hres
            refine am_iload (pc' := 152) dX8_said_150 rfl rfl ?_
            refine am_bipush (pc' := 154) (v := (-9)) dX8_said_152 kb_m9 rfl ?_
            refine am_icmp_ne (pc' := 157) 179 dX8_said_154 rfl rfl (fun hc9 => ?_) (fun hc9 => ?_)
            · rw [if_neg hc9] at hres
              refine am_iinc (pc' := 182) (ls' := [some (.ref 21), none, some (.int v2), some (.ref 38), none, some (.int v5), some (.int (v6 + (-1 : Int32))), some (.int v7), some (.int (am_rd 960 (sx_tx_steps S) v7))]) dX8_said_179 rfl (show v6 + Int32.ofInt (-1) = (v6 + (-1 : Int32)) from congrArg (fun z => v6 + z) kc_m1) (Nat.le_of_ble_eq_true rfl) rfl rfl rfl ?_
              refine am_aload_n (pc' := 183) 0 dX8_said_182 rfl rfl rfl ?_
              refine am_get (pc' := 186) (v := .ref 25) dX8_said_183 fl_X8_21 (sx_c21 S r) rfl rfl ?_
              refine am_iload (pc' := 188) dX8_said_186 rfl rfl ?_
              refine am_iload (pc' := 190) dX8_said_188 rfl rfl ?_
              refine am_aload_n (pc' := 191) 0 dX8_said_190 rfl rfl rfl ?_
              refine am_get (pc' := 194) (v := .ref 25) dX8_said_191 fl_X8_21 (sx_c21 S r) rfl rfl ?_
              refine am_iload (pc' := 196) dX8_said_194 rfl rfl ?_
              refine am_cSN (pc' := 199) (st' := [.int (am_rd 160 (sx_tx_stack S) (v6 + (-1 : Int32))), .int (am_rd 960 (sx_tx_steps S) v7), .int (v6 + (-1 : Int32)), .ref 25]) [.int (am_rd 960 (sx_tx_steps S) v7), .int (v6 + (-1 : Int32)), .ref 25] [.ref 25, .int (v6 + (-1 : Int32))] dX8_said_196 cs_X8_46 (tx_at (f := (sx_tx_stack S)) (sx_c25 S r) rfl (v6 + (-1 : Int32))) rfl rfl rfl rfl rfl rfl ?_
              refine am_aload_n (pc' := 200) 0 dX8_said_199 rfl rfl rfl ?_
              refine am_get (pc' := 203) (v := .ref 25) dX8_said_200 fl_X8_21 (sx_c21 S r) rfl rfl ?_
              refine am_iload (pc' := 205) dX8_said_203 rfl rfl ?_
              refine am_iconst (pc' := 206) (v := 1) dX8_said_205 kc_1 rfl ?_
              refine am_iadd (pc' := 207) dX8_said_206 rfl ?_
              refine am_cSN (pc' := 210) (st' := [.int (am_rd 160 (sx_tx_stack S) ((v6 + (-1 : Int32)) + (1 : Int32))), .int (am_rd 160 (sx_tx_stack S) (v6 + (-1 : Int32))), .int (am_rd 960 (sx_tx_steps S) v7), .int (v6 + (-1 : Int32)), .ref 25]) [.int (am_rd 160 (sx_tx_stack S) (v6 + (-1 : Int32))), .int (am_rd 960 (sx_tx_steps S) v7), .int (v6 + (-1 : Int32)), .ref 25] [.ref 25, .int ((v6 + (-1 : Int32)) + (1 : Int32))] dX8_said_207 cs_X8_46 (tx_at (f := (sx_tx_stack S)) (sx_c25 S r) rfl ((v6 + (-1 : Int32)) + (1 : Int32))) rfl rfl rfl rfl rfl rfl ?_
              refine am_cS (pc' := 213) (st' := [.int (fx_X8_joined (am_rd 960 (sx_tx_steps S) v7) (am_rd 160 (sx_tx_stack S) (v6 + (-1 : Int32))) (am_rd 160 (sx_tx_stack S) ((v6 + (-1 : Int32)) + (1 : Int32)))), .int (v6 + (-1 : Int32)), .ref 25]) [.int (v6 + (-1 : Int32)), .ref 25] [.int (am_rd 960 (sx_tx_steps S) v7), .int (am_rd 160 (sx_tx_stack S) (v6 + (-1 : Int32))), .int (am_rd 160 (sx_tx_stack S) ((v6 + (-1 : Int32)) + (1 : Int32)))] dX8_said_210 cs_X8_50 (tx_X8_joined (sx_w S r) (am_rd 960 (sx_tx_steps S) v7) (am_rd 160 (sx_tx_stack S) (v6 + (-1 : Int32))) (am_rd 160 (sx_tx_stack S) ((v6 + (-1 : Int32)) + (1 : Int32))) _ rfl) rfl rfl rfl rfl rfl rfl ?_
              refine am_cSN (pc' := 216) (st' := []) [] [.ref 25, .int (v6 + (-1 : Int32)), .int (fx_X8_joined (am_rd 960 (sx_tx_steps S) v7) (am_rd 160 (sx_tx_stack S) (v6 + (-1 : Int32))) (am_rd 160 (sx_tx_stack S) ((v6 + (-1 : Int32)) + (1 : Int32))))] dX8_said_213 cs_X8_38 (tx_set (f := (sx_tx_stack S)) (w1 := (sx_w (ux_tx_stack S (am_up 160 (sx_tx_stack S) (v6 + (-1 : Int32)) (fx_X8_joined (am_rd 960 (sx_tx_steps S) v7) (am_rd 160 (sx_tx_stack S) (v6 + (-1 : Int32))) (am_rd 160 (sx_tx_stack S) ((v6 + (-1 : Int32)) + (1 : Int32)))))) r)) (sx_c25 S r) rfl (v6 + (-1 : Int32)) (fx_X8_joined (am_rd 960 (sx_tx_steps S) v7) (am_rd 160 (sx_tx_stack S) (v6 + (-1 : Int32))) (am_rd 160 (sx_tx_stack S) ((v6 + (-1 : Int32)) + (1 : Int32)))) (sx_p_tx_stack S r _)) rfl rfl rfl rfl rfl rfl ?_
              refine am_iinc (pc' := 219) (ls' := [some (.ref 21), none, some (.int v2), some (.ref 38), none, some (.int v5), some (.int (v6 + (-1 : Int32))), some (.int (v7 + (1 : Int32))), some (.int (am_rd 960 (sx_tx_steps S) v7))]) dX8_said_216 rfl (show v7 + Int32.ofInt 1 = (v7 + (1 : Int32)) from congrArg (fun z => v7 + z) kc_1) (Nat.le_of_ble_eq_true rfl) rfl rfl rfl ?_
              refine am_goto 49 dX8_said_219 rfl ?_
              refine am_weak (ls' := [some (.ref 21), none, some (.int v2), some (.ref 38), none, some (.int v5), some (.int (v6 + (-1 : Int32))), some (.int (v7 + (1 : Int32))), none]) [false, false, false, false, false, false, false, false, true] rfl ?_
              exact ih _ _ _ _ _ _ hres
            · rw [if_pos hc9] at hres
              refine am_aload_n (pc' := 158) 0 dX8_said_157 rfl rfl rfl ?_
              refine am_get (pc' := 161) (v := .ref 25) dX8_said_158 fl_X8_21 (sx_c21 S r) rfl rfl ?_
              refine am_iload (pc' := 163) dX8_said_161 rfl rfl ?_
              refine am_aload_n (pc' := 164) 0 dX8_said_163 rfl rfl rfl ?_
              refine am_get (pc' := 167) (v := .ref 25) dX8_said_164 fl_X8_21 (sx_c21 S r) rfl rfl ?_
              refine am_iload (pc' := 169) dX8_said_167 rfl rfl ?_
              refine am_cSN (pc' := 172) (st' := [.int (am_rd 160 (sx_tx_stack S) v6), .int v6, .ref 25]) [.int v6, .ref 25] [.ref 25, .int v6] dX8_said_169 cs_X8_46 (tx_at (f := (sx_tx_stack S)) (sx_c25 S r) rfl v6) rfl rfl rfl rfl rfl rfl ?_
              refine am_ineg (pc' := 173) dX8_said_172 rfl ?_
              refine am_cSN (pc' := 176) (st' := []) [] [.ref 25, .int v6, .int (-(am_rd 160 (sx_tx_stack S) v6))] dX8_said_173 cs_X8_38 (tx_set (f := (sx_tx_stack S)) (w1 := (sx_w (ux_tx_stack S (am_up 160 (sx_tx_stack S) v6 (-(am_rd 160 (sx_tx_stack S) v6)))) r)) (sx_c25 S r) rfl v6 (-(am_rd 160 (sx_tx_stack S) v6)) (sx_p_tx_stack S r _)) rfl rfl rfl rfl rfl rfl ?_
              refine am_goto 216 dX8_said_176 rfl ?_
              refine am_iinc (pc' := 219) (ls' := [some (.ref 21), none, some (.int v2), some (.ref 38), none, some (.int v5), some (.int v6), some (.int (v7 + (1 : Int32))), some (.int (am_rd 960 (sx_tx_steps S) v7))]) dX8_said_216 rfl (show v7 + Int32.ofInt 1 = (v7 + (1 : Int32)) from congrArg (fun z => v7 + z) kc_1) (Nat.le_of_ble_eq_true rfl) rfl rfl rfl ?_
              refine am_goto 49 dX8_said_219 rfl ?_
              refine am_weak (ls' := [some (.ref 21), none, some (.int v2), some (.ref 38), none, some (.int v5), some (.int v6), some (.int (v7 + (1 : Int32))), none]) [false, false, false, false, false, false, false, false, true] rfl ?_
              exact ih _ _ _ _ _ _ hres
          · rw [if_pos hc8] at hres
            refine am_aload_n (pc' := 122) 0 dX8_said_121 rfl rfl rfl ?_
            refine am_get (pc' := 125) (v := .ref 25) dX8_said_122 fl_X8_21 (sx_c21 S r) rfl rfl ?_
            refine am_iload (pc' := 127) dX8_said_125 rfl rfl ?_
            refine am_aload_n (pc' := 128) 0 dX8_said_127 rfl rfl rfl ?_
            refine am_get (pc' := 131) (v := .ref 25) dX8_said_128 fl_X8_21 (sx_c21 S r) rfl rfl ?_
            refine am_iload (pc' := 133) dX8_said_131 rfl rfl ?_
            refine am_cSN (pc' := 136) (st' := [.int (am_rd 160 (sx_tx_stack S) v6), .int v6, .ref 25]) [.int v6, .ref 25] [.ref 25, .int v6] dX8_said_133 cs_X8_46 (tx_at (f := (sx_tx_stack S)) (sx_c25 S r) rfl v6) rfl rfl rfl rfl rfl rfl ?_
            refine am_if_ne (pc' := 139) 143 dX8_said_136 rfl rfl (fun hc10 => ?_) (fun hc10 => ?_)
            · rw [if_neg hc10] at hres
              refine am_iconst (pc' := 144) (v := 0) dX8_said_143 kc_0 rfl ?_
              refine am_cSN (pc' := 147) (st' := []) [] [.ref 25, .int v6, .int (0 : Int32)] dX8_said_144 cs_X8_38 (tx_set (f := (sx_tx_stack S)) (w1 := (sx_w (ux_tx_stack S (am_up 160 (sx_tx_stack S) v6 (0 : Int32))) r)) (sx_c25 S r) rfl v6 (0 : Int32) (sx_p_tx_stack S r _)) rfl rfl rfl rfl rfl rfl ?_
              refine am_goto 216 dX8_said_147 rfl ?_
              refine am_iinc (pc' := 219) (ls' := [some (.ref 21), none, some (.int v2), some (.ref 38), none, some (.int v5), some (.int v6), some (.int (v7 + (1 : Int32))), some (.int (am_rd 960 (sx_tx_steps S) v7))]) dX8_said_216 rfl (show v7 + Int32.ofInt 1 = (v7 + (1 : Int32)) from congrArg (fun z => v7 + z) kc_1) (Nat.le_of_ble_eq_true rfl) rfl rfl rfl ?_
              refine am_goto 49 dX8_said_219 rfl ?_
              refine am_weak (ls' := [some (.ref 21), none, some (.int v2), some (.ref 38), none, some (.int v5), some (.int v6), some (.int (v7 + (1 : Int32))), none]) [false, false, false, false, false, false, false, false, true] rfl ?_
              exact ih _ _ _ _ _ _ hres
            · rw [if_pos hc10] at hres
              refine am_iconst (pc' := 140) (v := 1) dX8_said_139 kc_1 rfl ?_
              refine am_goto 144 dX8_said_140 rfl ?_
              refine am_cSN (pc' := 147) (st' := []) [] [.ref 25, .int v6, .int (1 : Int32)] dX8_said_144 cs_X8_38 (tx_set (f := (sx_tx_stack S)) (w1 := (sx_w (ux_tx_stack S (am_up 160 (sx_tx_stack S) v6 (1 : Int32))) r)) (sx_c25 S r) rfl v6 (1 : Int32) (sx_p_tx_stack S r _)) rfl rfl rfl rfl rfl rfl ?_
              refine am_goto 216 dX8_said_147 rfl ?_
              refine am_iinc (pc' := 219) (ls' := [some (.ref 21), none, some (.int v2), some (.ref 38), none, some (.int v5), some (.int v6), some (.int (v7 + (1 : Int32))), some (.int (am_rd 960 (sx_tx_steps S) v7))]) dX8_said_216 rfl (show v7 + Int32.ofInt 1 = (v7 + (1 : Int32)) from congrArg (fun z => v7 + z) kc_1) (Nat.le_of_ble_eq_true rfl) rfl rfl rfl ?_
              refine am_goto 49 dX8_said_219 rfl ?_
              refine am_weak (ls' := [some (.ref 21), none, some (.int v2), some (.ref 38), none, some (.int v5), some (.int v6), some (.int (v7 + (1 : Int32))), none]) [false, false, false, false, false, false, false, false, true] rfl ?_
              exact ih _ _ _ _ _ _ hres
        · rw [if_neg hc7] at hres
          exact wx_X8_said_r38_80 r _ (fun a0 a1 a2 a3 a4 => ih a0 a1 a2 a3 a4) _ _ _ _ _ _ _ hres

set_option maxRecDepth 100000 in
set_option maxHeartbeats 4000000 in
theorem tx_X8_said_r38 (r : am_W) (a1 : Int32) (a2 : Int32) (S : sx_T) (res : Int32 × sx_T) (hres : fx_X8_said_r38 a1 a2 S = some res) : am_T mX8_said 1 0 0 [.ref 21, .int a1, .int a2, .ref 38] (sx_w S r) (some (.int res.1)) (sx_w res.2 r) := by
  refine am_meth (ls := [some (.ref 21), some (.int a1), some (.int a2), some (.ref 38), none, none, none, none, none]) (by decide +kernel) rfl (Nat.le_of_ble_eq_true rfl) (sx_len _ _ _) ?_
  rw [fx_X8_said_r38] at hres
  refine am_iload_n (pc' := 1) 2 dX8_said_0 rfl rfl rfl ?_
  refine am_if_ne (pc' := 4) 12 dX8_said_1 rfl rfl (fun hc1 => ?_) (fun hc1 => ?_)
  · rw [if_neg hc1] at hres
    refine am_aload_n (pc' := 13) 0 dX8_said_12 rfl rfl rfl ?_
    refine am_get (pc' := 16) (v := .ref 23) dX8_said_13 fl_X8_15 (sx_c21 S r) rfl rfl ?_
    refine am_iload_n (pc' := 17) 1 dX8_said_16 rfl rfl rfl ?_
    refine am_iconst (pc' := 18) (v := 3) dX8_said_17 kc_3 rfl ?_
    refine am_imul (pc' := 19) dX8_said_18 rfl ?_
    refine am_iload_n (pc' := 20) 2 dX8_said_19 rfl rfl rfl ?_
    refine am_iadd (pc' := 21) dX8_said_20 rfl ?_
    refine am_iconst (pc' := 22) (v := 1) dX8_said_21 kc_1 rfl ?_
    refine am_isub (pc' := 23) dX8_said_22 rfl ?_
    refine am_cSN (pc' := 26) (st' := [.int (am_rd 18 (sx_tx_ends S) (((a1 * (3 : Int32)) + a2) - (1 : Int32)))]) [] [.ref 23, .int (((a1 * (3 : Int32)) + a2) - (1 : Int32))] dX8_said_23 cs_X8_46 (tx_at (f := (sx_tx_ends S)) (sx_c23 S r) rfl (((a1 * (3 : Int32)) + a2) - (1 : Int32))) rfl rfl rfl rfl rfl rfl ?_
    refine am_istore (pc' := 28) (ls' := [some (.ref 21), some (.int a1), some (.int a2), some (.ref 38), some (.int (am_rd 18 (sx_tx_ends S) (((a1 * (3 : Int32)) + a2) - (1 : Int32)))), none, none, none, none]) dX8_said_26 (Nat.le_of_ble_eq_true rfl) rfl rfl rfl ?_
    refine am_aload_n (pc' := 29) 0 dX8_said_28 rfl rfl rfl ?_
    refine am_get (pc' := 32) (v := .ref 23) dX8_said_29 fl_X8_15 (sx_c21 S r) rfl rfl ?_
    refine am_iload_n (pc' := 33) 1 dX8_said_32 rfl rfl rfl ?_
    refine am_iconst (pc' := 34) (v := 3) dX8_said_33 kc_3 rfl ?_
    refine am_imul (pc' := 35) dX8_said_34 rfl ?_
    refine am_iload_n (pc' := 36) 2 dX8_said_35 rfl rfl rfl ?_
    refine am_iadd (pc' := 37) dX8_said_36 rfl ?_
    refine am_cSN (pc' := 40) (st' := [.int (am_rd 18 (sx_tx_ends S) ((a1 * (3 : Int32)) + a2))]) [] [.ref 23, .int ((a1 * (3 : Int32)) + a2)] dX8_said_37 cs_X8_46 (tx_at (f := (sx_tx_ends S)) (sx_c23 S r) rfl ((a1 * (3 : Int32)) + a2)) rfl rfl rfl rfl rfl rfl ?_
    refine am_istore (pc' := 42) (ls' := [some (.ref 21), some (.int a1), some (.int a2), some (.ref 38), some (.int (am_rd 18 (sx_tx_ends S) (((a1 * (3 : Int32)) + a2) - (1 : Int32)))), some (.int (am_rd 18 (sx_tx_ends S) ((a1 * (3 : Int32)) + a2))), none, none, none]) dX8_said_40 (Nat.le_of_ble_eq_true rfl) rfl rfl rfl ?_
    refine am_iconst (pc' := 43) (v := (-1)) dX8_said_42 kc_m1 rfl ?_
    refine am_istore (pc' := 45) (ls' := [some (.ref 21), some (.int a1), some (.int a2), some (.ref 38), some (.int (am_rd 18 (sx_tx_ends S) (((a1 * (3 : Int32)) + a2) - (1 : Int32)))), some (.int (am_rd 18 (sx_tx_ends S) ((a1 * (3 : Int32)) + a2))), some (.int (-1 : Int32)), none, none]) dX8_said_43 (Nat.le_of_ble_eq_true rfl) rfl rfl rfl ?_
    refine am_iload (pc' := 47) dX8_said_45 rfl rfl ?_
    refine am_istore (pc' := 49) (ls' := [some (.ref 21), some (.int a1), some (.int a2), some (.ref 38), some (.int (am_rd 18 (sx_tx_ends S) (((a1 * (3 : Int32)) + a2) - (1 : Int32)))), some (.int (am_rd 18 (sx_tx_ends S) ((a1 * (3 : Int32)) + a2))), some (.int (-1 : Int32)), some (.int (am_rd 18 (sx_tx_ends S) (((a1 * (3 : Int32)) + a2) - (1 : Int32)))), none]) dX8_said_47 (Nat.le_of_ble_eq_true rfl) rfl rfl rfl ?_
    refine am_weak (ls' := [some (.ref 21), none, some (.int a2), some (.ref 38), none, some (.int (am_rd 18 (sx_tx_ends S) ((a1 * (3 : Int32)) + a2))), some (.int (-1 : Int32)), some (.int (am_rd 18 (sx_tx_ends S) (((a1 * (3 : Int32)) + a2) - (1 : Int32)))), none]) [false, true, false, false, true, false, false, false, false] rfl ?_
    exact wx_X8_said_r38_49 r am_fu _ _ _ _ _ _ hres
  · rw [if_pos hc1] at hres
    refine am_iload_n (pc' := 5) 1 dX8_said_4 rfl rfl rfl ?_
    refine am_sipush (pc' := 8) (v := 160) dX8_said_5 ks_160 rfl ?_
    refine am_imul (pc' := 9) dX8_said_8 rfl ?_
    refine am_goto 26 dX8_said_9 rfl ?_
    refine am_istore (pc' := 28) (ls' := [some (.ref 21), some (.int a1), some (.int a2), some (.ref 38), some (.int (a1 * (160 : Int32))), none, none, none, none]) dX8_said_26 (Nat.le_of_ble_eq_true rfl) rfl rfl rfl ?_
    refine am_aload_n (pc' := 29) 0 dX8_said_28 rfl rfl rfl ?_
    refine am_get (pc' := 32) (v := .ref 23) dX8_said_29 fl_X8_15 (sx_c21 S r) rfl rfl ?_
    refine am_iload_n (pc' := 33) 1 dX8_said_32 rfl rfl rfl ?_
    refine am_iconst (pc' := 34) (v := 3) dX8_said_33 kc_3 rfl ?_
    refine am_imul (pc' := 35) dX8_said_34 rfl ?_
    refine am_iload_n (pc' := 36) 2 dX8_said_35 rfl rfl rfl ?_
    refine am_iadd (pc' := 37) dX8_said_36 rfl ?_
    refine am_cSN (pc' := 40) (st' := [.int (am_rd 18 (sx_tx_ends S) ((a1 * (3 : Int32)) + a2))]) [] [.ref 23, .int ((a1 * (3 : Int32)) + a2)] dX8_said_37 cs_X8_46 (tx_at (f := (sx_tx_ends S)) (sx_c23 S r) rfl ((a1 * (3 : Int32)) + a2)) rfl rfl rfl rfl rfl rfl ?_
    refine am_istore (pc' := 42) (ls' := [some (.ref 21), some (.int a1), some (.int a2), some (.ref 38), some (.int (a1 * (160 : Int32))), some (.int (am_rd 18 (sx_tx_ends S) ((a1 * (3 : Int32)) + a2))), none, none, none]) dX8_said_40 (Nat.le_of_ble_eq_true rfl) rfl rfl rfl ?_
    refine am_iconst (pc' := 43) (v := (-1)) dX8_said_42 kc_m1 rfl ?_
    refine am_istore (pc' := 45) (ls' := [some (.ref 21), some (.int a1), some (.int a2), some (.ref 38), some (.int (a1 * (160 : Int32))), some (.int (am_rd 18 (sx_tx_ends S) ((a1 * (3 : Int32)) + a2))), some (.int (-1 : Int32)), none, none]) dX8_said_43 (Nat.le_of_ble_eq_true rfl) rfl rfl rfl ?_
    refine am_iload (pc' := 47) dX8_said_45 rfl rfl ?_
    refine am_istore (pc' := 49) (ls' := [some (.ref 21), some (.int a1), some (.int a2), some (.ref 38), some (.int (a1 * (160 : Int32))), some (.int (am_rd 18 (sx_tx_ends S) ((a1 * (3 : Int32)) + a2))), some (.int (-1 : Int32)), some (.int (a1 * (160 : Int32))), none]) dX8_said_47 (Nat.le_of_ble_eq_true rfl) rfl rfl rfl ?_
    refine am_weak (ls' := [some (.ref 21), none, some (.int a2), some (.ref 38), none, some (.int (am_rd 18 (sx_tx_ends S) ((a1 * (3 : Int32)) + a2))), some (.int (-1 : Int32)), some (.int (a1 * (160 : Int32))), none]) [false, true, false, false, true, false, false, false, false] rfl ?_
    exact wx_X8_said_r38_49 r am_fu _ _ _ _ _ _ hres
set_option maxRecDepth 100000 in
set_option maxHeartbeats 4000000 in
theorem tx_X9_likes (ws : am_W) (q ci : Nat) (q0 : vw_C) (hc : ws[q]? = some (.inr (.inr (ci, [])))) (hcl : vwCl[ci]? = some q0) (a1 : Int32) (a2 : Int32) (a3 : Int32) (res : Int32) (hres : fx_X9_likes a1 a2 a3 = res) : am_T mX9_likes 0 0 0 [.ref q, .int a1, .int a2, .int a3] ws (some (.int res)) ws := by
  refine am_meth (ls := [some (.ref q), some (.int a1), some (.int a2), some (.int a3)]) (by decide +kernel) rfl (Nat.le_of_ble_eq_true rfl) ⟨rfl, Or.inl rfl⟩ ?_
  rw [fx_X9_likes] at hres
  refine am_iload_n (pc' := 1) 2 dX9_likes_0 rfl rfl rfl ?_
  subst hres
  exact am_iret dX9_likes_1 rfl rfl rfl
set_option maxRecDepth 100000 in
set_option maxHeartbeats 4000000 in
theorem tx_X1_likes (ws : am_W) (q ci : Nat) (q0 : vw_C) (hc : ws[q]? = some (.inr (.inr (ci, [])))) (hcl : vwCl[ci]? = some q0) (a1 : Int32) (a2 : Int32) (a3 : Int32) (res : Int32) (hres : fx_X1_likes a1 a2 a3 = res) : am_T mX1_likes 0 0 0 [.ref q, .int a1, .int a2, .int a3] ws (some (.int res)) ws := by
  refine am_meth (ls := [some (.ref q), some (.int a1), some (.int a2), some (.int a3), none]) (by decide +kernel) rfl (Nat.le_of_ble_eq_true rfl) ⟨rfl, Or.inl rfl⟩ ?_
  rw [fx_X1_likes] at hres
  refine am_iload_n (pc' := 1) 1 dX1_likes_0 rfl rfl rfl ?_
  refine am_if_ne (pc' := 4) 12 dX1_likes_1 rfl rfl (fun hc1 => ?_) (fun hc1 => ?_)
  · rw [if_neg hc1] at hres
    refine am_iload_n (pc' := 13) 2 dX1_likes_12 rfl rfl rfl ?_
    refine am_istore (pc' := 15) (ls' := [some (.ref q), some (.int a1), some (.int a2), some (.int a3), some (.int a2)]) dX1_likes_13 (Nat.le_of_ble_eq_true rfl) rfl rfl rfl ?_
    refine am_iload (pc' := 17) dX1_likes_15 rfl rfl ?_
    refine am_bipush (pc' := 19) (v := (-99)) dX1_likes_17 kb_m99 rfl ?_
    refine am_icmp_ge (pc' := 22) 27 dX1_likes_19 rfl rfl (fun hc2 => ?_) (fun hc2 => ?_)
    · rw [if_pos hc2] at hres
      refine am_iload (pc' := 29) dX1_likes_27 rfl rfl ?_
      subst hres
      exact am_iret dX1_likes_29 rfl rfl rfl
    · rw [if_neg hc2] at hres
      refine am_bipush (pc' := 24) (v := (-99)) dX1_likes_22 kb_m99 rfl ?_
      refine am_goto 29 dX1_likes_24 rfl ?_
      subst hres
      exact am_iret dX1_likes_29 rfl rfl rfl
  · rw [if_pos hc1] at hres
    refine am_iload_n (pc' := 5) 2 dX1_likes_4 rfl rfl rfl ?_
    refine am_iconst (pc' := 6) (v := 2) dX1_likes_5 kc_2 rfl ?_
    refine am_iload_n (pc' := 7) 3 dX1_likes_6 rfl rfl rfl ?_
    refine am_imul (pc' := 8) dX1_likes_7 rfl ?_
    refine am_isub (pc' := 9) dX1_likes_8 rfl ?_
    refine am_goto 13 dX1_likes_9 rfl ?_
    refine am_istore (pc' := 15) (ls' := [some (.ref q), some (.int a1), some (.int a2), some (.int a3), some (.int (a2 - ((2 : Int32) * a3)))]) dX1_likes_13 (Nat.le_of_ble_eq_true rfl) rfl rfl rfl ?_
    refine am_iload (pc' := 17) dX1_likes_15 rfl rfl ?_
    refine am_bipush (pc' := 19) (v := (-99)) dX1_likes_17 kb_m99 rfl ?_
    refine am_icmp_ge (pc' := 22) 27 dX1_likes_19 rfl rfl (fun hc3 => ?_) (fun hc3 => ?_)
    · rw [if_pos hc3] at hres
      refine am_iload (pc' := 29) dX1_likes_27 rfl rfl ?_
      subst hres
      exact am_iret dX1_likes_29 rfl rfl rfl
    · rw [if_neg hc3] at hres
      refine am_bipush (pc' := 24) (v := (-99)) dX1_likes_22 kb_m99 rfl ?_
      refine am_goto 29 dX1_likes_24 rfl ?_
      subst hres
      exact am_iret dX1_likes_29 rfl rfl rfl
set_option maxRecDepth 100000 in
set_option maxHeartbeats 4000000 in
theorem tx_X2_likes (ws : am_W) (q ci : Nat) (q0 : vw_C) (hc : ws[q]? = some (.inr (.inr (ci, [])))) (hcl : vwCl[ci]? = some q0) (a1 : Int32) (a2 : Int32) (a3 : Int32) (res : Int32) (hres : fx_X2_likes a1 a2 a3 = res) : am_T mX2_likes 1 0 0 [.ref q, .int a1, .int a2, .int a3] ws (some (.int res)) ws := by
  refine am_meth (ls := [some (.ref q), some (.int a1), some (.int a2), some (.int a3), none]) (by decide +kernel) rfl (Nat.le_of_ble_eq_true rfl) ⟨rfl, Or.inl rfl⟩ ?_
  rw [fx_X2_likes] at hres
  refine am_aload_n (pc' := 1) 0 dX2_likes_0 rfl rfl rfl ?_
  refine am_iload_n (pc' := 2) 1 dX2_likes_1 rfl rfl rfl ?_
  refine am_iload_n (pc' := 3) 2 dX2_likes_2 rfl rfl rfl ?_
  refine am_iload_n (pc' := 4) 3 dX2_likes_3 rfl rfl rfl ?_
  refine am_cSU (pc' := 7) (st' := [.int (fx_X1_likes a1 a2 a3)]) [] [.int a1, .int a2, .int a3] dX2_likes_4 csu_X2_7 (tx_X1_likes ws q ci q0 hc hcl a1 a2 a3 _ rfl) rfl rfl rfl hc hcl rfl rfl rfl ?_
  refine am_istore (pc' := 9) (ls' := [some (.ref q), some (.int a1), some (.int a2), some (.int a3), some (.int (fx_X1_likes a1 a2 a3))]) dX2_likes_7 (Nat.le_of_ble_eq_true rfl) rfl rfl rfl ?_
  refine am_iload_n (pc' := 10) 2 dX2_likes_9 rfl rfl rfl ?_
  refine am_if_ge (pc' := 13) 25 dX2_likes_10 rfl rfl (fun hc1 => ?_) (fun hc1 => ?_)
  · rw [if_pos hc1] at hres
    refine am_iload (pc' := 27) dX2_likes_25 rfl rfl ?_
    subst hres
    exact am_iret dX2_likes_27 rfl rfl rfl
  · rw [if_neg hc1] at hres
    refine am_bipush (pc' := 15) (v := (-99)) dX2_likes_13 kb_m99 rfl ?_
    refine am_iconst (pc' := 16) (v := 2) dX2_likes_15 kc_2 rfl ?_
    refine am_iload (pc' := 18) dX2_likes_16 rfl rfl ?_
    refine am_imul (pc' := 19) dX2_likes_18 rfl ?_
    refine am_mmax (pc' := 22) dX2_likes_19 mx_X2_11 rfl (Nat.le_of_ble_eq_true rfl) rfl ?_
    refine am_goto 27 dX2_likes_22 rfl ?_
    subst hres
    exact am_iret dX2_likes_27 rfl rfl rfl
set_option maxRecDepth 100000 in
set_option maxHeartbeats 4000000 in
theorem tx_X0_likes (ws : am_W) (q ci : Nat) (q0 : vw_C) (hc : ws[q]? = some (.inr (.inr (ci, [])))) (hcl : vwCl[ci]? = some q0) (a1 : Int32) (a2 : Int32) (a3 : Int32) (res : Int32) (hres : fx_X0_likes a1 a2 a3 = res) : am_T mX0_likes 0 0 0 [.ref q, .int a1, .int a2, .int a3] ws (some (.int res)) ws := by
  refine am_meth (ls := [some (.ref q), some (.int a1), some (.int a2), some (.int a3)]) (by decide +kernel) rfl (Nat.le_of_ble_eq_true rfl) ⟨rfl, Or.inl rfl⟩ ?_
  rw [fx_X0_likes] at hres
  refine am_iload_n (pc' := 1) 1 dX0_likes_0 rfl rfl rfl ?_
  refine am_iload_n (pc' := 2) 3 dX0_likes_1 rfl rfl rfl ?_
  refine am_bipush (pc' := 4) (v := 6) dX0_likes_2 kb_6 rfl ?_
  refine am_irem (pc' := 5) dX0_likes_4 (by decide) rfl ?_
  refine am_icmp_ne (pc' := 8) 13 dX0_likes_5 rfl rfl (fun hc1 => ?_) (fun hc1 => ?_)
  · rw [if_neg hc1] at hres
    refine am_iconst (pc' := 14) (v := 0) dX0_likes_13 kc_0 rfl ?_
    subst hres
    exact am_iret dX0_likes_14 rfl rfl rfl
  · rw [if_pos hc1] at hres
    refine am_bipush (pc' := 10) (v := 99) dX0_likes_8 kb_99 rfl ?_
    refine am_goto 14 dX0_likes_10 rfl ?_
    subst hres
    exact am_iret dX0_likes_14 rfl rfl rfl
theorem vq_likes_0 {M : am_M} {dd : Nat} {r0 : Option Value} {wF : am_W} {pc pc' : Nat} {ls : List (Option Value)} {st : List Value} (S : sx_T) (r : am_W) (a1 a2 a3 : Int32) (d : decode M.2.1 pc = .ok (.invokevirtual 91, 3)) (hM : M.1.cls = RX10) (h1 : 4 ≤ dd) (h2 : (st.map fun v => v.category).sum ≤ 8) (hp : pc + 3 = pc') (k : am_G M (none, dd, 0, 0, r0, wF) (0, 0) pc' ls (.int (fx_X9_likes a1 a2 a3) :: st) (sx_w S r)) : am_G M (none, dd, 0, 0, r0, wF) (0, 0) pc ls (.int a3 :: .int a2 :: .int a1 :: .ref 12 :: st) (sx_w S r) :=
  am_callU st [.int a1, .int a2, .int a3] d (hM ▸ cu_X10_91_X9) (tx_X9_likes (sx_w S r) 12 9 _ (sx_c12 S r) rfl a1 a2 a3 _ rfl) rfl rfl (sx_c12 S r) rfl h2 ⟨am_rb_s (am_rbh (Nat.le_trans (Nat.le_of_ble_eq_true rfl : 0 + 1 ≤ 4) h1) (Nat.le_of_ble_eq_true rfl)), Nat.le_refl 0, Nat.le_refl 0⟩ rfl hp k
theorem vq_likes_1 {M : am_M} {dd : Nat} {r0 : Option Value} {wF : am_W} {pc pc' : Nat} {ls : List (Option Value)} {st : List Value} (S : sx_T) (r : am_W) (a1 a2 a3 : Int32) (d : decode M.2.1 pc = .ok (.invokevirtual 91, 3)) (hM : M.1.cls = RX10) (h1 : 4 ≤ dd) (h2 : (st.map fun v => v.category).sum ≤ 8) (hp : pc + 3 = pc') (k : am_G M (none, dd, 0, 0, r0, wF) (0, 0) pc' ls (.int (fx_X1_likes a1 a2 a3) :: st) (sx_w S r)) : am_G M (none, dd, 0, 0, r0, wF) (0, 0) pc ls (.int a3 :: .int a2 :: .int a1 :: .ref 13 :: st) (sx_w S r) :=
  am_callU st [.int a1, .int a2, .int a3] d (hM ▸ cu_X10_91_X1) (tx_X1_likes (sx_w S r) 13 1 _ (sx_c13 S r) rfl a1 a2 a3 _ rfl) rfl rfl (sx_c13 S r) rfl h2 ⟨am_rb_s (am_rbh (Nat.le_trans (Nat.le_of_ble_eq_true rfl : 0 + 1 ≤ 4) h1) (Nat.le_of_ble_eq_true rfl)), Nat.le_refl 0, Nat.le_refl 0⟩ rfl hp k
theorem vq_likes_2 {M : am_M} {dd : Nat} {r0 : Option Value} {wF : am_W} {pc pc' : Nat} {ls : List (Option Value)} {st : List Value} (S : sx_T) (r : am_W) (a1 a2 a3 : Int32) (d : decode M.2.1 pc = .ok (.invokevirtual 91, 3)) (hM : M.1.cls = RX10) (h1 : 4 ≤ dd) (h2 : (st.map fun v => v.category).sum ≤ 8) (hp : pc + 3 = pc') (k : am_G M (none, dd, 0, 0, r0, wF) (0, 0) pc' ls (.int (fx_X9_likes a1 a2 a3) :: st) (sx_w S r)) : am_G M (none, dd, 0, 0, r0, wF) (0, 0) pc ls (.int a3 :: .int a2 :: .int a1 :: .ref 14 :: st) (sx_w S r) :=
  am_callU st [.int a1, .int a2, .int a3] d (hM ▸ cu_X10_91_X7) (tx_X9_likes (sx_w S r) 14 7 _ (sx_c14 S r) rfl a1 a2 a3 _ rfl) rfl rfl (sx_c14 S r) rfl h2 ⟨am_rb_s (am_rbh (Nat.le_trans (Nat.le_of_ble_eq_true rfl : 0 + 1 ≤ 4) h1) (Nat.le_of_ble_eq_true rfl)), Nat.le_refl 0, Nat.le_refl 0⟩ rfl hp k
theorem vq_likes_3 {M : am_M} {dd : Nat} {r0 : Option Value} {wF : am_W} {pc pc' : Nat} {ls : List (Option Value)} {st : List Value} (S : sx_T) (r : am_W) (a1 a2 a3 : Int32) (d : decode M.2.1 pc = .ok (.invokevirtual 91, 3)) (hM : M.1.cls = RX10) (h1 : 4 ≤ dd) (h2 : (st.map fun v => v.category).sum ≤ 8) (hp : pc + 3 = pc') (k : am_G M (none, dd, 0, 0, r0, wF) (0, 0) pc' ls (.int (fx_X2_likes a1 a2 a3) :: st) (sx_w S r)) : am_G M (none, dd, 0, 0, r0, wF) (0, 0) pc ls (.int a3 :: .int a2 :: .int a1 :: .ref 15 :: st) (sx_w S r) :=
  am_callU st [.int a1, .int a2, .int a3] d (hM ▸ cu_X10_91_X2) (tx_X2_likes (sx_w S r) 15 2 _ (sx_c15 S r) rfl a1 a2 a3 _ rfl) rfl rfl (sx_c15 S r) rfl h2 ⟨am_rb_s (am_rbh (Nat.le_trans (Nat.le_of_ble_eq_true rfl : 1 + 1 ≤ 4) h1) (Nat.le_of_ble_eq_true rfl)), Nat.le_refl 0, Nat.le_refl 0⟩ rfl hp k
theorem vq_likes_4 {M : am_M} {dd : Nat} {r0 : Option Value} {wF : am_W} {pc pc' : Nat} {ls : List (Option Value)} {st : List Value} (S : sx_T) (r : am_W) (a1 a2 a3 : Int32) (d : decode M.2.1 pc = .ok (.invokevirtual 91, 3)) (hM : M.1.cls = RX10) (h1 : 4 ≤ dd) (h2 : (st.map fun v => v.category).sum ≤ 8) (hp : pc + 3 = pc') (k : am_G M (none, dd, 0, 0, r0, wF) (0, 0) pc' ls (.int (fx_X9_likes a1 a2 a3) :: st) (sx_w S r)) : am_G M (none, dd, 0, 0, r0, wF) (0, 0) pc ls (.int a3 :: .int a2 :: .int a1 :: .ref 16 :: st) (sx_w S r) :=
  am_callU st [.int a1, .int a2, .int a3] d (hM ▸ cu_X10_91_X3) (tx_X9_likes (sx_w S r) 16 3 _ (sx_c16 S r) rfl a1 a2 a3 _ rfl) rfl rfl (sx_c16 S r) rfl h2 ⟨am_rb_s (am_rbh (Nat.le_trans (Nat.le_of_ble_eq_true rfl : 0 + 1 ≤ 4) h1) (Nat.le_of_ble_eq_true rfl)), Nat.le_refl 0, Nat.le_refl 0⟩ rfl hp k
theorem vq_likes_5 {M : am_M} {dd : Nat} {r0 : Option Value} {wF : am_W} {pc pc' : Nat} {ls : List (Option Value)} {st : List Value} (S : sx_T) (r : am_W) (a1 a2 a3 : Int32) (d : decode M.2.1 pc = .ok (.invokevirtual 91, 3)) (hM : M.1.cls = RX10) (h1 : 4 ≤ dd) (h2 : (st.map fun v => v.category).sum ≤ 8) (hp : pc + 3 = pc') (k : am_G M (none, dd, 0, 0, r0, wF) (0, 0) pc' ls (.int (fx_X0_likes a1 a2 a3) :: st) (sx_w S r)) : am_G M (none, dd, 0, 0, r0, wF) (0, 0) pc ls (.int a3 :: .int a2 :: .int a1 :: .ref 17 :: st) (sx_w S r) :=
  am_callU st [.int a1, .int a2, .int a3] d (hM ▸ cu_X10_91_X0) (tx_X0_likes (sx_w S r) 17 0 _ (sx_c17 S r) rfl a1 a2 a3 _ rfl) rfl rfl (sx_c17 S r) rfl h2 ⟨am_rb_s (am_rbh (Nat.le_trans (Nat.le_of_ble_eq_true rfl : 0 + 1 ≤ 4) h1) (Nat.le_of_ble_eq_true rfl)), Nat.le_refl 0, Nat.le_refl 0⟩ rfl hp k
theorem vq_likes_6 {M : am_M} {dd : Nat} {r0 : Option Value} {wF : am_W} {pc pc' : Nat} {ls : List (Option Value)} {st : List Value} (S : sx_T) (r : am_W) (a1 a2 a3 : Int32) (d : decode M.2.1 pc = .ok (.invokevirtual 91, 3)) (hM : M.1.cls = RX10) (h1 : 4 ≤ dd) (h2 : (st.map fun v => v.category).sum ≤ 8) (hp : pc + 3 = pc') (k : am_G M (none, dd, 0, 0, r0, wF) (0, 0) pc' ls (.int (fx_X9_likes a1 a2 a3) :: st) (sx_w S r)) : am_G M (none, dd, 0, 0, r0, wF) (0, 0) pc ls (.int a3 :: .int a2 :: .int a1 :: .ref 18 :: st) (sx_w S r) :=
  am_callU st [.int a1, .int a2, .int a3] d (hM ▸ cu_X10_91_X9) (tx_X9_likes (sx_w S r) 18 9 _ (sx_c18 S r) rfl a1 a2 a3 _ rfl) rfl rfl (sx_c18 S r) rfl h2 ⟨am_rb_s (am_rbh (Nat.le_trans (Nat.le_of_ble_eq_true rfl : 0 + 1 ≤ 4) h1) (Nat.le_of_ble_eq_true rfl)), Nat.le_refl 0, Nat.le_refl 0⟩ rfl hp k
theorem vq_likes_7 {M : am_M} {dd : Nat} {r0 : Option Value} {wF : am_W} {pc pc' : Nat} {ls : List (Option Value)} {st : List Value} (S : sx_T) (r : am_W) (a1 a2 a3 : Int32) (d : decode M.2.1 pc = .ok (.invokevirtual 91, 3)) (hM : M.1.cls = RX10) (h1 : 4 ≤ dd) (h2 : (st.map fun v => v.category).sum ≤ 8) (hp : pc + 3 = pc') (k : am_G M (none, dd, 0, 0, r0, wF) (0, 0) pc' ls (.int (fx_X9_likes a1 a2 a3) :: st) (sx_w S r)) : am_G M (none, dd, 0, 0, r0, wF) (0, 0) pc ls (.int a3 :: .int a2 :: .int a1 :: .ref 39 :: st) (sx_w S r) :=
  am_callU st [.int a1, .int a2, .int a3] d (hM ▸ cu_X10_91_X9) (tx_X9_likes (sx_w S r) 39 9 _ (sx_c39 S r) rfl a1 a2 a3 _ rfl) rfl rfl (sx_c39 S r) rfl h2 ⟨am_rb_s (am_rbh (Nat.le_trans (Nat.le_of_ble_eq_true rfl : 0 + 1 ≤ 4) h1) (Nat.le_of_ble_eq_true rfl)), Nat.le_refl 0, Nat.le_refl 0⟩ rfl hp k
theorem vr_likes {M : am_M} {dd : Nat} {r0 : Option Value} {wF : am_W} {pc pc' : Nat} {ls : List (Option Value)} {st : List Value} (c : Fin 8) (S : sx_T) (r : am_W) (a1 a2 a3 : Int32) (d : decode M.2.1 pc = .ok (.invokevirtual 91, 3)) (hM : M.1.cls = RX10) (hd : (Nat.ble 4 dd && Nat.ble (st.map fun v => v.category).sum 8) = true) (hp : pc + 3 = pc') (k : am_G M (none, dd, 0, 0, r0, wF) (0, 0) pc' ls (.int (fk_likes c a1 a2 a3) :: st) (sx_w S r)) : am_G M (none, dd, 0, 0, r0, wF) (0, 0) pc ls (.int a3 :: .int a2 :: .int a1 :: .ref (am_kr c) :: st) (sx_w S r) := by
  simp only [Bool.and_eq_true] at hd
  have h1 := Nat.le_of_ble_eq_true hd.1
  have h2 := Nat.le_of_ble_eq_true hd.2
  match c, k with
  | ⟨0, _⟩, k => exact vq_likes_0 S r a1 a2 a3 d hM h1 h2 hp k
  | ⟨1, _⟩, k => exact vq_likes_1 S r a1 a2 a3 d hM h1 h2 hp k
  | ⟨2, _⟩, k => exact vq_likes_2 S r a1 a2 a3 d hM h1 h2 hp k
  | ⟨3, _⟩, k => exact vq_likes_3 S r a1 a2 a3 d hM h1 h2 hp k
  | ⟨4, _⟩, k => exact vq_likes_4 S r a1 a2 a3 d hM h1 h2 hp k
  | ⟨5, _⟩, k => exact vq_likes_5 S r a1 a2 a3 d hM h1 h2 hp k
  | ⟨6, _⟩, k => exact vq_likes_6 S r a1 a2 a3 d hM h1 h2 hp k
  | ⟨7, _⟩, k => exact vq_likes_7 S r a1 a2 a3 d hM h1 h2 hp k
set_option maxRecDepth 100000 in
set_option maxHeartbeats 4000000 in
theorem tx_X9_keeps (ws : am_W) (q ci : Nat) (q0 : vw_C) (hc : ws[q]? = some (.inr (.inr (ci, [])))) (hcl : vwCl[ci]? = some q0) (a1 : Int32) (a2 : Int32) (a3 : Int32) (a4 : Int32) (a5 : Int32) (res : Int32) (hres : fx_X9_keeps a1 a2 a3 a4 a5 = res) : am_T mX9_keeps 0 0 0 [.ref q, .int a1, .int a2, .int a3, .int a4, .int a5] ws (some (.int res)) ws := by
  refine am_meth (ls := [some (.ref q), some (.int a1), some (.int a2), some (.int a3), some (.int a4), some (.int a5)]) (by decide +kernel) rfl (Nat.le_of_ble_eq_true rfl) ⟨rfl, Or.inl rfl⟩ ?_
  rw [fx_X9_keeps] at hres
  refine am_iload_n (pc' := 1) 1 dX9_keeps_0 rfl rfl rfl ?_
  subst hres
  exact am_iret dX9_keeps_1 rfl rfl rfl
set_option maxRecDepth 100000 in
set_option maxHeartbeats 4000000 in
theorem tx_X1_keeps (ws : am_W) (q ci : Nat) (q0 : vw_C) (hc : ws[q]? = some (.inr (.inr (ci, [])))) (hcl : vwCl[ci]? = some q0) (a1 : Int32) (a2 : Int32) (a3 : Int32) (a4 : Int32) (a5 : Int32) (res : Int32) (hres : fx_X1_keeps a1 a2 a3 a4 a5 = res) : am_T mX1_keeps 0 0 0 [.ref q, .int a1, .int a2, .int a3, .int a4, .int a5] ws (some (.int res)) ws := by
  refine am_meth (ls := [some (.ref q), some (.int a1), some (.int a2), some (.int a3), some (.int a4), some (.int a5)]) (by decide +kernel) rfl (Nat.le_of_ble_eq_true rfl) ⟨rfl, Or.inl rfl⟩ ?_
  rw [fx_X1_keeps] at hres
  refine am_iload (pc' := 2) dX1_keeps_0 rfl rfl ?_
  refine am_if_eq (pc' := 5) 11 dX1_keeps_2 rfl rfl (fun hc1 => ?_) (fun hc1 => ?_)
  · rw [if_pos hc1] at hres
    refine am_iload_n (pc' := 12) 1 dX1_keeps_11 rfl rfl rfl ?_
    subst hres
    exact am_iret dX1_keeps_12 rfl rfl rfl
  · rw [if_neg hc1] at hres
    refine am_iconst (pc' := 6) (v := 2) dX1_keeps_5 kc_2 rfl ?_
    refine am_iload_n (pc' := 7) 1 dX1_keeps_6 rfl rfl rfl ?_
    refine am_imul (pc' := 8) dX1_keeps_7 rfl ?_
    refine am_goto 12 dX1_keeps_8 rfl ?_
    subst hres
    exact am_iret dX1_keeps_12 rfl rfl rfl
set_option maxRecDepth 100000 in
set_option maxHeartbeats 4000000 in
theorem tx_X7_keeps (ws : am_W) (q ci : Nat) (q0 : vw_C) (hc : ws[q]? = some (.inr (.inr (ci, [])))) (hcl : vwCl[ci]? = some q0) (a1 : Int32) (a2 : Int32) (a3 : Int32) (a4 : Int32) (a5 : Int32) (res : Int32) (hres : fx_X7_keeps a1 a2 a3 a4 a5 = res) : am_T mX7_keeps 0 0 0 [.ref q, .int a1, .int a2, .int a3, .int a4, .int a5] ws (some (.int res)) ws := by
  refine am_meth (ls := [some (.ref q), some (.int a1), some (.int a2), some (.int a3), some (.int a4), some (.int a5)]) (by decide +kernel) rfl (Nat.le_of_ble_eq_true rfl) ⟨rfl, Or.inl rfl⟩ ?_
  rw [fx_X7_keeps] at hres
  refine am_iload (pc' := 2) dX7_keeps_0 rfl rfl ?_
  refine am_if_eq (pc' := 5) 11 dX7_keeps_2 rfl rfl (fun hc1 => ?_) (fun hc1 => ?_)
  · rw [if_pos hc1] at hres
    refine am_iload_n (pc' := 12) 1 dX7_keeps_11 rfl rfl rfl ?_
    subst hres
    exact am_iret dX7_keeps_12 rfl rfl rfl
  · rw [if_neg hc1] at hres
    refine am_iload_n (pc' := 6) 1 dX7_keeps_5 rfl rfl rfl ?_
    refine am_iload_n (pc' := 7) 3 dX7_keeps_6 rfl rfl rfl ?_
    refine am_iadd (pc' := 8) dX7_keeps_7 rfl ?_
    refine am_goto 12 dX7_keeps_8 rfl ?_
    subst hres
    exact am_iret dX7_keeps_12 rfl rfl rfl
set_option maxRecDepth 100000 in
set_option maxHeartbeats 4000000 in
theorem tx_X3_keeps (ws : am_W) (q ci : Nat) (q0 : vw_C) (hc : ws[q]? = some (.inr (.inr (ci, [])))) (hcl : vwCl[ci]? = some q0) (a1 : Int32) (a2 : Int32) (a3 : Int32) (a4 : Int32) (a5 : Int32) (res : Int32) (hres : fx_X3_keeps a1 a2 a3 a4 a5 = res) : am_T mX3_keeps 1 0 0 [.ref q, .int a1, .int a2, .int a3, .int a4, .int a5] ws (some (.int res)) ws := by
  refine am_meth (ls := [some (.ref q), some (.int a1), some (.int a2), some (.int a3), some (.int a4), some (.int a5)]) (by decide +kernel) rfl (Nat.le_of_ble_eq_true rfl) ⟨rfl, Or.inl rfl⟩ ?_
  rw [fx_X3_keeps] at hres
  refine am_iload_n (pc' := 1) 2 dX3_keeps_0 rfl rfl rfl ?_
  refine am_if_ge (pc' := 4) 10 dX3_keeps_1 rfl rfl (fun hc1 => ?_) (fun hc1 => ?_)
  · rw [if_pos hc1] at hres
    refine am_aload_n (pc' := 11) 0 dX3_keeps_10 rfl rfl rfl ?_
    refine am_iload_n (pc' := 12) 1 dX3_keeps_11 rfl rfl rfl ?_
    refine am_iload_n (pc' := 13) 2 dX3_keeps_12 rfl rfl rfl ?_
    refine am_iload_n (pc' := 14) 3 dX3_keeps_13 rfl rfl rfl ?_
    refine am_iload (pc' := 16) dX3_keeps_14 rfl rfl ?_
    refine am_iload (pc' := 18) dX3_keeps_16 rfl rfl ?_
    refine am_cSU (pc' := 21) (st' := [.int (fx_X7_keeps a1 a2 a3 a4 a5)]) [] [.int a1, .int a2, .int a3, .int a4, .int a5] dX3_keeps_18 csu_X3_7 (tx_X7_keeps ws q ci q0 hc hcl a1 a2 a3 a4 a5 _ rfl) rfl rfl rfl hc hcl rfl rfl rfl ?_
    subst hres
    exact am_iret dX3_keeps_21 rfl rfl rfl
  · rw [if_neg hc1] at hres
    refine am_iload_n (pc' := 5) 1 dX3_keeps_4 rfl rfl rfl ?_
    refine am_iconst (pc' := 6) (v := 3) dX3_keeps_5 kc_3 rfl ?_
    refine am_iadd (pc' := 7) dX3_keeps_6 rfl ?_
    refine am_goto 21 dX3_keeps_7 rfl ?_
    subst hres
    exact am_iret dX3_keeps_21 rfl rfl rfl
