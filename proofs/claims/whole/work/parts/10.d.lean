set_option maxRecDepth 100000 in
set_option maxHeartbeats 4000000 in
theorem tk_X6_init_1 : am_T mX6_init 1 4 28 [.ref 1] cw_2 none cw_11 := by
  refine am_meth (ls := [some (.ref 1)]) (by decide +kernel) rfl (Nat.le_of_ble_eq_true rfl) ⟨rfl, Or.inr (Nat.le_of_ble_eq_true rfl)⟩ ?_
  refine am_aload_n (pc' := 1) 0 dX6_init_0 rfl rfl rfl ?_
  refine am_oinit (pc' := 4) dX6_init_1 wo_X6_3 rfl ⟨Nat.le_of_ble_eq_true rfl, Nat.le_of_ble_eq_true rfl⟩ rfl ?_
  refine am_aload_n (pc' := 5) 0 dX6_init_4 rfl rfl rfl ?_
  refine am_bipush (pc' := 7) (v := 6) dX6_init_5 kb_6 rfl ?_
  refine am_newa (pc' := 9) (ws' := cw_3) (q := 2) (n' := 6) dX6_init_7 rfl rfl (by decide) rfl rfl ⟨Nat.le_of_ble_eq_true rfl, Nat.le_of_ble_eq_true rfl⟩ rfl rfl ?_
  refine am_putF (pc' := 12) (ws' := cw_4) (v := .ref 2) dX6_init_9 rfl fp_X6_9 rfl (fun _ => ⟨rfl, rfl⟩) (Nat.le_of_ble_eq_true rfl) rfl rfl ?_
  refine am_aload_n (pc' := 13) 0 dX6_init_12 rfl rfl rfl ?_
  refine am_bipush (pc' := 15) (v := 6) dX6_init_13 kb_6 rfl ?_
  refine am_newa (pc' := 17) (ws' := cw_5) (q := 3) (n' := 6) dX6_init_15 rfl rfl (by decide) rfl rfl ⟨Nat.le_of_ble_eq_true rfl, Nat.le_of_ble_eq_true rfl⟩ rfl rfl ?_
  refine am_putF (pc' := 20) (ws' := cw_6) (v := .ref 3) dX6_init_17 rfl fp_X6_15 rfl (fun _ => ⟨rfl, rfl⟩) (Nat.le_of_ble_eq_true rfl) rfl rfl ?_
  refine am_aload_n (pc' := 21) 0 dX6_init_20 rfl rfl rfl ?_
  refine am_bipush (pc' := 23) (v := 8) dX6_init_21 kb_8 rfl ?_
  refine am_newa (pc' := 25) (ws' := cw_7) (q := 4) (n' := 8) dX6_init_23 rfl rfl (by decide) rfl rfl ⟨Nat.le_of_ble_eq_true rfl, Nat.le_of_ble_eq_true rfl⟩ rfl rfl ?_
  refine am_putF (pc' := 28) (ws' := cw_8) (v := .ref 4) dX6_init_25 rfl fp_X6_18 rfl (fun _ => ⟨rfl, rfl⟩) (Nat.le_of_ble_eq_true rfl) rfl rfl ?_
  refine am_aload_n (pc' := 29) 0 dX6_init_28 rfl rfl rfl ?_
  refine am_bipush (pc' := 31) (v := 8) dX6_init_29 kb_8 rfl ?_
  refine am_newa (pc' := 33) (ws' := cw_9) (q := 5) (n' := 8) dX6_init_31 rfl rfl (by decide) rfl rfl ⟨Nat.le_of_ble_eq_true rfl, Nat.le_of_ble_eq_true rfl⟩ rfl rfl ?_
  refine am_putF (pc' := 36) (ws' := cw_10) (v := .ref 5) dX6_init_33 rfl fp_X6_21 rfl (fun _ => ⟨rfl, rfl⟩) (Nat.le_of_ble_eq_true rfl) rfl rfl ?_
  refine am_aload_n (pc' := 37) 0 dX6_init_36 rfl rfl rfl ?_
  refine am_bipush (pc' := 39) (v := 6) dX6_init_37 kb_6 rfl ?_
  refine am_put (pc' := 42) (ws' := cw_11) (v := .int (6 : Int32)) dX6_init_39 fp_X6_24 rfl (fun _ => ⟨rfl, rfl⟩) (Nat.le_of_ble_eq_true rfl) rfl rfl ?_
  exact am_vret dX6_init_42 rfl rfl rfl

set_option maxRecDepth 100000 in
set_option maxHeartbeats 4000000 in
theorem tk_X6_init_6 : am_T mX6_init 1 4 28 [.ref 6] cw_13 none cw_22 := by
  refine am_meth (ls := [some (.ref 6)]) (by decide +kernel) rfl (Nat.le_of_ble_eq_true rfl) ⟨rfl, Or.inr (Nat.le_of_ble_eq_true rfl)⟩ ?_
  refine am_aload_n (pc' := 1) 0 dX6_init_0 rfl rfl rfl ?_
  refine am_oinit (pc' := 4) dX6_init_1 wo_X6_3 rfl ⟨Nat.le_of_ble_eq_true rfl, Nat.le_of_ble_eq_true rfl⟩ rfl ?_
  refine am_aload_n (pc' := 5) 0 dX6_init_4 rfl rfl rfl ?_
  refine am_bipush (pc' := 7) (v := 6) dX6_init_5 kb_6 rfl ?_
  refine am_newa (pc' := 9) (ws' := cw_14) (q := 7) (n' := 6) dX6_init_7 rfl rfl (by decide) rfl rfl ⟨Nat.le_of_ble_eq_true rfl, Nat.le_of_ble_eq_true rfl⟩ rfl rfl ?_
  refine am_putF (pc' := 12) (ws' := cw_15) (v := .ref 7) dX6_init_9 rfl fp_X6_9 rfl (fun _ => ⟨rfl, rfl⟩) (Nat.le_of_ble_eq_true rfl) rfl rfl ?_
  refine am_aload_n (pc' := 13) 0 dX6_init_12 rfl rfl rfl ?_
  refine am_bipush (pc' := 15) (v := 6) dX6_init_13 kb_6 rfl ?_
  refine am_newa (pc' := 17) (ws' := cw_16) (q := 8) (n' := 6) dX6_init_15 rfl rfl (by decide) rfl rfl ⟨Nat.le_of_ble_eq_true rfl, Nat.le_of_ble_eq_true rfl⟩ rfl rfl ?_
  refine am_putF (pc' := 20) (ws' := cw_17) (v := .ref 8) dX6_init_17 rfl fp_X6_15 rfl (fun _ => ⟨rfl, rfl⟩) (Nat.le_of_ble_eq_true rfl) rfl rfl ?_
  refine am_aload_n (pc' := 21) 0 dX6_init_20 rfl rfl rfl ?_
  refine am_bipush (pc' := 23) (v := 8) dX6_init_21 kb_8 rfl ?_
  refine am_newa (pc' := 25) (ws' := cw_18) (q := 9) (n' := 8) dX6_init_23 rfl rfl (by decide) rfl rfl ⟨Nat.le_of_ble_eq_true rfl, Nat.le_of_ble_eq_true rfl⟩ rfl rfl ?_
  refine am_putF (pc' := 28) (ws' := cw_19) (v := .ref 9) dX6_init_25 rfl fp_X6_18 rfl (fun _ => ⟨rfl, rfl⟩) (Nat.le_of_ble_eq_true rfl) rfl rfl ?_
  refine am_aload_n (pc' := 29) 0 dX6_init_28 rfl rfl rfl ?_
  refine am_bipush (pc' := 31) (v := 8) dX6_init_29 kb_8 rfl ?_
  refine am_newa (pc' := 33) (ws' := cw_20) (q := 10) (n' := 8) dX6_init_31 rfl rfl (by decide) rfl rfl ⟨Nat.le_of_ble_eq_true rfl, Nat.le_of_ble_eq_true rfl⟩ rfl rfl ?_
  refine am_putF (pc' := 36) (ws' := cw_21) (v := .ref 10) dX6_init_33 rfl fp_X6_21 rfl (fun _ => ⟨rfl, rfl⟩) (Nat.le_of_ble_eq_true rfl) rfl rfl ?_
  refine am_aload_n (pc' := 37) 0 dX6_init_36 rfl rfl rfl ?_
  refine am_bipush (pc' := 39) (v := 6) dX6_init_37 kb_6 rfl ?_
  refine am_put (pc' := 42) (ws' := cw_22) (v := .int (6 : Int32)) dX6_init_39 fp_X6_24 rfl (fun _ => ⟨rfl, rfl⟩) (Nat.le_of_ble_eq_true rfl) rfl rfl ?_
  exact am_vret dX6_init_42 rfl rfl rfl

set_option maxRecDepth 100000 in
set_option maxHeartbeats 4000000 in
theorem tk_X8_init_21 : am_T mX8_init 1 4 1156 [.ref 21] cw_44 none cw_52 := by
  refine am_meth (ls := [some (.ref 21)]) (by decide +kernel) rfl (Nat.le_of_ble_eq_true rfl) ⟨rfl, Or.inr (Nat.le_of_ble_eq_true rfl)⟩ ?_
  refine am_aload_n (pc' := 1) 0 dX8_init_0 rfl rfl rfl ?_
  refine am_oinit (pc' := 4) dX8_init_1 wo_X8_3 rfl ⟨Nat.le_of_ble_eq_true rfl, Nat.le_of_ble_eq_true rfl⟩ rfl ?_
  refine am_aload_n (pc' := 5) 0 dX8_init_4 rfl rfl rfl ?_
  refine am_sipush (pc' := 8) (v := 960) dX8_init_5 ks_960 rfl ?_
  refine am_newa (pc' := 10) (ws' := cw_45) (q := 22) (n' := 960) dX8_init_8 rfl rfl (by decide) rfl rfl ⟨Nat.le_of_ble_eq_true rfl, Nat.le_of_ble_eq_true rfl⟩ rfl rfl ?_
  refine am_putF (pc' := 13) (ws' := cw_46) (v := .ref 22) dX8_init_10 rfl fp_X8_9 rfl (fun _ => ⟨rfl, rfl⟩) (Nat.le_of_ble_eq_true rfl) rfl rfl ?_
  refine am_aload_n (pc' := 14) 0 dX8_init_13 rfl rfl rfl ?_
  refine am_bipush (pc' := 16) (v := 18) dX8_init_14 kb_18 rfl ?_
  refine am_newa (pc' := 18) (ws' := cw_47) (q := 23) (n' := 18) dX8_init_16 rfl rfl (by decide) rfl rfl ⟨Nat.le_of_ble_eq_true rfl, Nat.le_of_ble_eq_true rfl⟩ rfl rfl ?_
  refine am_putF (pc' := 21) (ws' := cw_48) (v := .ref 23) dX8_init_18 rfl fp_X8_15 rfl (fun _ => ⟨rfl, rfl⟩) (Nat.le_of_ble_eq_true rfl) rfl rfl ?_
  refine am_aload_n (pc' := 22) 0 dX8_init_21 rfl rfl rfl ?_
  refine am_bipush (pc' := 24) (v := 18) dX8_init_22 kb_18 rfl ?_
  refine am_newa (pc' := 26) (ws' := cw_49) (q := 24) (n' := 18) dX8_init_24 rfl rfl (by decide) rfl rfl ⟨Nat.le_of_ble_eq_true rfl, Nat.le_of_ble_eq_true rfl⟩ rfl rfl ?_
  refine am_putF (pc' := 29) (ws' := cw_50) (v := .ref 24) dX8_init_26 rfl fp_X8_18 rfl (fun _ => ⟨rfl, rfl⟩) (Nat.le_of_ble_eq_true rfl) rfl rfl ?_
  refine am_aload_n (pc' := 30) 0 dX8_init_29 rfl rfl rfl ?_
  refine am_sipush (pc' := 33) (v := 160) dX8_init_30 ks_160 rfl ?_
  refine am_newa (pc' := 35) (ws' := cw_51) (q := 25) (n' := 160) dX8_init_33 rfl rfl (by decide) rfl rfl ⟨Nat.le_of_ble_eq_true rfl, Nat.le_of_ble_eq_true rfl⟩ rfl rfl ?_
  refine am_putF (pc' := 38) (ws' := cw_52) (v := .ref 25) dX8_init_35 rfl fp_X8_21 rfl (fun _ => ⟨rfl, rfl⟩) (Nat.le_of_ble_eq_true rfl) rfl rfl ?_
  exact am_vret dX8_init_38 rfl rfl rfl

set_option maxRecDepth 100000 in
set_option maxHeartbeats 4000000 in
theorem tk_X4_init_26 : am_T mX4_init 1 3 482 [.ref 26, .ref 21] cw_54 none cw_61 := by
  refine am_meth (ls := [some (.ref 26), some (.ref 21)]) (by decide +kernel) rfl (Nat.le_of_ble_eq_true rfl) ⟨rfl, Or.inr (Nat.le_of_ble_eq_true rfl)⟩ ?_
  refine am_aload_n (pc' := 1) 0 dX4_init_0 rfl rfl rfl ?_
  refine am_oinit (pc' := 4) dX4_init_1 wo_X4_3 rfl ⟨Nat.le_of_ble_eq_true rfl, Nat.le_of_ble_eq_true rfl⟩ rfl ?_
  refine am_aload_n (pc' := 5) 0 dX4_init_4 rfl rfl rfl ?_
  refine am_sipush (pc' := 8) (v := 160) dX4_init_5 ks_160 rfl ?_
  refine am_newa (pc' := 10) (ws' := cw_55) (q := 27) (n' := 160) dX4_init_8 rfl rfl (by decide) rfl rfl ⟨Nat.le_of_ble_eq_true rfl, Nat.le_of_ble_eq_true rfl⟩ rfl rfl ?_
  refine am_putF (pc' := 13) (ws' := cw_56) (v := .ref 27) dX4_init_10 rfl fp_X4_9 rfl (fun _ => ⟨rfl, rfl⟩) (Nat.le_of_ble_eq_true rfl) rfl rfl ?_
  refine am_aload_n (pc' := 14) 0 dX4_init_13 rfl rfl rfl ?_
  refine am_sipush (pc' := 17) (v := 161) dX4_init_14 ks_161 rfl ?_
  refine am_newa (pc' := 19) (ws' := cw_57) (q := 28) (n' := 161) dX4_init_17 rfl rfl (by decide) rfl rfl ⟨Nat.le_of_ble_eq_true rfl, Nat.le_of_ble_eq_true rfl⟩ rfl rfl ?_
  refine am_putF (pc' := 22) (ws' := cw_58) (v := .ref 28) dX4_init_19 rfl fp_X4_15 rfl (fun _ => ⟨rfl, rfl⟩) (Nat.le_of_ble_eq_true rfl) rfl rfl ?_
  refine am_aload_n (pc' := 23) 0 dX4_init_22 rfl rfl rfl ?_
  refine am_sipush (pc' := 26) (v := 161) dX4_init_23 ks_161 rfl ?_
  refine am_newa (pc' := 28) (ws' := cw_59) (q := 29) (n' := 161) dX4_init_26 rfl rfl (by decide) rfl rfl ⟨Nat.le_of_ble_eq_true rfl, Nat.le_of_ble_eq_true rfl⟩ rfl rfl ?_
  refine am_putF (pc' := 31) (ws' := cw_60) (v := .ref 29) dX4_init_28 rfl fp_X4_18 rfl (fun _ => ⟨rfl, rfl⟩) (Nat.le_of_ble_eq_true rfl) rfl rfl ?_
  refine am_aload_n (pc' := 32) 0 dX4_init_31 rfl rfl rfl ?_
  refine am_aload_n (pc' := 33) 1 dX4_init_32 rfl rfl rfl ?_
  refine am_putF (pc' := 36) (ws' := cw_61) (v := .ref 21) dX4_init_33 rfl fp_X4_21 rfl (fun _ => ⟨rfl, rfl⟩) (Nat.le_of_ble_eq_true rfl) rfl rfl ?_
  exact am_vret dX4_init_36 rfl rfl rfl

set_option maxRecDepth 100000 in
set_option maxHeartbeats 4000000 in
theorem tk_X5_init_30 : am_T mX5_init 1 3 168 [.ref 30] cw_63 none cw_73 := by
  refine am_meth (ls := [some (.ref 30)]) (by decide +kernel) rfl (Nat.le_of_ble_eq_true rfl) ⟨rfl, Or.inr (Nat.le_of_ble_eq_true rfl)⟩ ?_
  refine am_aload_n (pc' := 1) 0 dX5_init_0 rfl rfl rfl ?_
  refine am_oinit (pc' := 4) dX5_init_1 wo_X5_3 rfl ⟨Nat.le_of_ble_eq_true rfl, Nat.le_of_ble_eq_true rfl⟩ rfl ?_
  refine am_aload_n (pc' := 5) 0 dX5_init_4 rfl rfl rfl ?_
  refine am_sipush (pc' := 8) (v := 160) dX5_init_5 ks_160 rfl ?_
  refine am_newa (pc' := 10) (ws' := cw_64) (q := 31) (n' := 160) dX5_init_8 rfl rfl (by decide) rfl rfl ⟨Nat.le_of_ble_eq_true rfl, Nat.le_of_ble_eq_true rfl⟩ rfl rfl ?_
  refine am_putF (pc' := 13) (ws' := cw_65) (v := .ref 31) dX5_init_10 rfl fp_X5_9 rfl (fun _ => ⟨rfl, rfl⟩) (Nat.le_of_ble_eq_true rfl) rfl rfl ?_
  refine am_aload_n (pc' := 14) 0 dX5_init_13 rfl rfl rfl ?_
  refine am_iconst (pc' := 15) (v := 4) dX5_init_14 kc_4 rfl ?_
  refine am_newa (pc' := 17) (ws' := cw_66) (q := 32) (n' := 4) dX5_init_15 rfl rfl (by decide) rfl rfl ⟨Nat.le_of_ble_eq_true rfl, Nat.le_of_ble_eq_true rfl⟩ rfl rfl ?_
  refine am_dupa (pc' := 18) dX5_init_17 rfl ?_
  refine am_iconst (pc' := 19) (v := 0) dX5_init_18 kc_0 rfl ?_
  refine am_iconst (pc' := 20) (v := (-1)) dX5_init_19 kc_m1 rfl ?_
  refine am_iast (pc' := 21) (ws' := cw_67) dX5_init_20 rfl (am_inC (by decide)) rfl rfl ?_
  refine am_dupa (pc' := 22) dX5_init_21 rfl ?_
  refine am_iconst (pc' := 23) (v := 1) dX5_init_22 kc_1 rfl ?_
  refine am_iconst (pc' := 24) (v := (-1)) dX5_init_23 kc_m1 rfl ?_
  refine am_iast (pc' := 25) (ws' := cw_68) dX5_init_24 rfl (am_inC (by decide)) rfl rfl ?_
  refine am_dupa (pc' := 26) dX5_init_25 rfl ?_
  refine am_iconst (pc' := 27) (v := 2) dX5_init_26 kc_2 rfl ?_
  refine am_iconst (pc' := 28) (v := (-1)) dX5_init_27 kc_m1 rfl ?_
  refine am_iast (pc' := 29) (ws' := cw_69) dX5_init_28 rfl (am_inC (by decide)) rfl rfl ?_
  refine am_dupa (pc' := 30) dX5_init_29 rfl ?_
  refine am_iconst (pc' := 31) (v := 3) dX5_init_30 kc_3 rfl ?_
  refine am_iconst (pc' := 32) (v := (-1)) dX5_init_31 kc_m1 rfl ?_
  refine am_iast (pc' := 33) (ws' := cw_70) dX5_init_32 rfl (am_inC (by decide)) rfl rfl ?_
  refine am_putF (pc' := 36) (ws' := cw_71) (v := .ref 32) dX5_init_33 rfl fp_X5_15 rfl (fun _ => ⟨rfl, rfl⟩) (Nat.le_of_ble_eq_true rfl) rfl rfl ?_
  refine am_aload_n (pc' := 37) 0 dX5_init_36 rfl rfl rfl ?_
  refine am_iconst (pc' := 38) (v := 4) dX5_init_37 kc_4 rfl ?_
  refine am_newa (pc' := 40) (ws' := cw_72) (q := 33) (n' := 4) dX5_init_38 rfl rfl (by decide) rfl rfl ⟨Nat.le_of_ble_eq_true rfl, Nat.le_of_ble_eq_true rfl⟩ rfl rfl ?_
  refine am_putF (pc' := 43) (ws' := cw_73) (v := .ref 33) dX5_init_40 rfl fp_X5_18 rfl (fun _ => ⟨rfl, rfl⟩) (Nat.le_of_ble_eq_true rfl) rfl rfl ?_
  exact am_vret dX5_init_43 rfl rfl rfl

set_option maxRecDepth 100000 in
set_option maxHeartbeats 4000000 in
theorem tk_X10_init_34 : am_T mX10_init 2 6 36 [.ref 34, .ref 21] cw_75 none cw_88 := by
  refine am_meth (ls := [some (.ref 34), some (.ref 21)]) (by decide +kernel) rfl (Nat.le_of_ble_eq_true rfl) ⟨rfl, Or.inr (Nat.le_of_ble_eq_true rfl)⟩ ?_
  refine am_aload_n (pc' := 1) 0 dX10_init_0 rfl rfl rfl ?_
  refine am_oinit (pc' := 4) dX10_init_1 wo_X10_3 rfl ⟨Nat.le_of_ble_eq_true rfl, Nat.le_of_ble_eq_true rfl⟩ rfl ?_
  refine am_aload_n (pc' := 5) 0 dX10_init_4 rfl rfl rfl ?_
  refine am_bipush (pc' := 7) (v := 6) dX10_init_5 kb_6 rfl ?_
  refine am_newa (pc' := 9) (ws' := cw_76) (q := 35) (n' := 6) dX10_init_7 rfl rfl (by decide) rfl rfl ⟨Nat.le_of_ble_eq_true rfl, Nat.le_of_ble_eq_true rfl⟩ rfl rfl ?_
  refine am_putF (pc' := 12) (ws' := cw_77) (v := .ref 35) dX10_init_9 rfl fp_X10_9 rfl (fun _ => ⟨rfl, rfl⟩) (Nat.le_of_ble_eq_true rfl) rfl rfl ?_
  refine am_aload_n (pc' := 13) 0 dX10_init_12 rfl rfl rfl ?_
  refine am_bipush (pc' := 15) (v := 6) dX10_init_13 kb_6 rfl ?_
  refine am_newa (pc' := 17) (ws' := cw_78) (q := 36) (n' := 6) dX10_init_15 rfl rfl (by decide) rfl rfl ⟨Nat.le_of_ble_eq_true rfl, Nat.le_of_ble_eq_true rfl⟩ rfl rfl ?_
  refine am_putF (pc' := 20) (ws' := cw_79) (v := .ref 36) dX10_init_17 rfl fp_X10_15 rfl (fun _ => ⟨rfl, rfl⟩) (Nat.le_of_ble_eq_true rfl) rfl rfl ?_
  refine am_aload_n (pc' := 21) 0 dX10_init_20 rfl rfl rfl ?_
  refine am_bipush (pc' := 23) (v := 6) dX10_init_21 kb_6 rfl ?_
  refine am_newa (pc' := 25) (ws' := cw_80) (q := 37) (n' := 6) dX10_init_23 rfl rfl (by decide) rfl rfl ⟨Nat.le_of_ble_eq_true rfl, Nat.le_of_ble_eq_true rfl⟩ rfl rfl ?_
  refine am_putF (pc' := 28) (ws' := cw_81) (v := .ref 37) dX10_init_25 rfl fp_X10_18 rfl (fun _ => ⟨rfl, rfl⟩) (Nat.le_of_ble_eq_true rfl) rfl rfl ?_
  refine am_aload_n (pc' := 29) 0 dX10_init_28 rfl rfl rfl ?_
  refine am_bipush (pc' := 31) (v := 6) dX10_init_29 kb_6 rfl ?_
  refine am_newa (pc' := 33) (ws' := cw_82) (q := 38) (n' := 6) dX10_init_31 rfl rfl (by decide) rfl rfl ⟨Nat.le_of_ble_eq_true rfl, Nat.le_of_ble_eq_true rfl⟩ rfl rfl ?_
  refine am_putF (pc' := 36) (ws' := cw_83) (v := .ref 38) dX10_init_33 rfl fp_X10_21 rfl (fun _ => ⟨rfl, rfl⟩) (Nat.le_of_ble_eq_true rfl) rfl rfl ?_
  refine am_aload_n (pc' := 37) 0 dX10_init_36 rfl rfl rfl ?_
  refine am_new (pc' := 40) (ws' := cw_84) (q := 39) dX10_init_37 nw_X10_24 rfl rfl ⟨Nat.le_of_ble_eq_true rfl, Nat.le_of_ble_eq_true rfl⟩ rfl rfl ?_
  refine am_dupa (pc' := 41) dX10_init_40 rfl ?_
  refine am_callIN (pc' := 44) (kn' := (5, 24)) (w1 := cw_84) [.ref 39, .ref 34] [] dX10_init_41 cs_X10_26 rfl (tc_X9_init cw_84 39) rfl rfl rfl ⟨⟨Nat.le_of_ble_eq_true rfl, Nat.le_of_ble_eq_true rfl⟩, Nat.le_of_ble_eq_true rfl, Nat.le_of_ble_eq_true rfl⟩ rfl rfl ?_
  refine am_put (pc' := 47) (ws' := cw_85) (v := .ref 39) dX10_init_44 fp_X10_27 rfl (fun _ => ⟨rfl, rfl⟩) (Nat.le_of_ble_eq_true rfl) rfl rfl ?_
  refine am_aload_n (pc' := 48) 0 dX10_init_47 rfl rfl rfl ?_
  refine am_bipush (pc' := 50) (v := 12) dX10_init_48 kb_12 rfl ?_
  refine am_newa (pc' := 52) (ws' := cw_86) (q := 40) (n' := 12) dX10_init_50 rfl rfl (by decide) rfl rfl ⟨Nat.le_of_ble_eq_true rfl, Nat.le_of_ble_eq_true rfl⟩ rfl rfl ?_
  refine am_putF (pc' := 55) (ws' := cw_87) (v := .ref 40) dX10_init_52 rfl fp_X10_31 rfl (fun _ => ⟨rfl, rfl⟩) (Nat.le_of_ble_eq_true rfl) rfl rfl ?_
  refine am_aload_n (pc' := 56) 0 dX10_init_55 rfl rfl rfl ?_
  refine am_aload_n (pc' := 57) 1 dX10_init_56 rfl rfl rfl ?_
  refine am_putF (pc' := 60) (ws' := cw_88) (v := .ref 21) dX10_init_57 rfl fp_X10_34 rfl (fun _ => ⟨rfl, rfl⟩) (Nat.le_of_ble_eq_true rfl) rfl rfl ?_
  exact am_vret dX10_init_60 rfl rfl rfl

set_option maxRecDepth 100000 in
set_option maxHeartbeats 4000000 in
theorem wx_X11_init_end_208 (r : am_W) : ∀ (n : Nat) (v1 : Int32) (S : sx_T) (res : sx_T) (hres : fx_X11_init_end_208 n v1 S = some res), am_G mX11_init (none, 319, 44, 2003, none, (sx_w res r)) (44, 2003) 208 [some (.ref 0), some (.int v1)] [] (sx_w S r) := by
  intro n
  induction n with
  | zero =>
    intro v1 S res hres
    cases hres
  | succ n ih =>
    intro v1 S res hres
    rw [fx_X11_init_end_208] at hres
    refine am_iload_n (pc' := 209) 1 dX11_init_208 rfl rfl rfl ?_
    refine am_ldcS (pc' := 211) (j := 0) dX11_init_209 (List.mem_of_getElem? (i := 0) rfl) rfl ?_
    refine am_cVsm (pc' := 214) (st' := [.int (nI (am_len.getD 0 0)), .int v1]) [.int v1] [] dX11_init_211 cs_X11_96 (tj_length (sx_w S r) 0 (by decide)) rfl rfl rfl (by decide) rfl rfl rfl rfl ?_
    refine am_icmp_ge (pc' := 217) 236 dX11_init_214 rfl rfl (fun hc1 => ?_) (fun hc1 => ?_)
    · rw [if_pos hc1] at hres
      refine am_aload_n (pc' := 237) 0 dX11_init_236 rfl rfl rfl ?_
      refine am_get (pc' := 240) (v := .ref 26) dX11_init_237 fl_X11_64 (sx_c0 S r) rfl rfl ?_
      obtain ⟨q2, hq3, hres⟩ := am_bd_s hres
      refine am_cVm (pc' := 243) (st' := [.int q2.1]) [] [] dX11_init_240 cs_X11_110 (tx_X4_fault r S _ hq3) rfl rfl rfl (sx_c26 S r) rfl rfl rfl rfl rfl ?_
      refine am_pop (pc' := 244) dX11_init_243 rfl ?_
      refine am_aload_n (pc' := 245) 0 dX11_init_244 rfl rfl rfl ?_
      refine am_get (pc' := 248) (v := .ref 26) dX11_init_245 fl_X11_64 (sx_c0 q2.2 r) rfl rfl ?_
      refine am_iconst (pc' := 249) (v := 0) dX11_init_248 kc_0 rfl ?_
      refine am_put (pc' := 252) (ws' := (sx_w (ux_rd_size q2.2 (0 : Int32)) r)) (v := .int (0 : Int32)) dX11_init_249 fp_X11_113 (sx_c26 q2.2 r) (fun _ => ⟨rfl, rfl⟩) (Nat.le_of_ble_eq_true rfl) (sx_p_rd_size q2.2 r _) rfl ?_
      refine am_aload_n (pc' := 253) 0 dX11_init_252 rfl rfl rfl ?_
      refine am_get (pc' := 256) (v := .ref 21) dX11_init_253 fl_X11_55 (sx_c0 (ux_rd_size q2.2 (0 : Int32)) r) rfl rfl ?_
      refine am_iconst (pc' := 257) (v := 1) dX11_init_256 kc_1 rfl ?_
      refine am_put (pc' := 260) (ws' := (sx_w (ux_tx_count (ux_rd_size q2.2 (0 : Int32)) (1 : Int32)) r)) (v := .int (1 : Int32)) dX11_init_257 fp_X11_117 (sx_c21 (ux_rd_size q2.2 (0 : Int32)) r) (fun _ => ⟨rfl, rfl⟩) (Nat.le_of_ble_eq_true rfl) (sx_p_tx_count (ux_rd_size q2.2 (0 : Int32)) r _) rfl ?_
      obtain rfl := Option.some.inj hres
      exact am_vret dX11_init_260 rfl rfl rfl
    · rw [if_neg hc1] at hres
      refine am_aload_n (pc' := 218) 0 dX11_init_217 rfl rfl rfl ?_
      refine am_get (pc' := 221) (v := .ref 26) dX11_init_218 fl_X11_64 (sx_c0 S r) rfl rfl ?_
      refine am_ldcS (pc' := 223) (j := 0) dX11_init_221 (List.mem_of_getElem? (i := 0) rfl) rfl ?_
      refine am_iload_n (pc' := 224) 1 dX11_init_223 rfl rfl rfl ?_
      obtain ⟨hg4, hres⟩ := am_rg hres
      obtain ⟨hg5, hres⟩ := am_rg hres
      refine am_cVsm (pc' := 227) (st' := [.int (am_ch 0 v1), .ref 26]) [.ref 26] [.int v1] dX11_init_224 cs_X11_102 (tj_charAt (sx_w S r) 0 v1 (by decide) hg4 hg5) rfl rfl rfl (by decide) rfl rfl rfl rfl ?_
      obtain ⟨q6, hq7, hres⟩ := am_let_s hres
      refine am_cVm (pc' := 230) (st' := []) [] [.int (am_ch 0 v1)] dX11_init_227 cs_X11_106 (tx_X4_take r (am_ch 0 v1) S _ hq7) rfl rfl rfl (sx_c26 S r) rfl rfl rfl rfl rfl ?_
      refine am_iinc (pc' := 233) (ls' := [some (.ref 0), some (.int (v1 + (1 : Int32)))]) dX11_init_230 rfl (show v1 + Int32.ofInt 1 = (v1 + (1 : Int32)) from congrArg (fun z => v1 + z) kc_1) (Nat.le_of_ble_eq_true rfl) rfl rfl rfl ?_
      refine am_goto 208 dX11_init_233 rfl ?_
      exact ih _ _ _ hres

set_option maxRecDepth 100000 in
set_option maxHeartbeats 4000000 in
theorem tx_X11_init_end (r : am_W) (S : sx_T) (res : sx_T) (hres : fx_X11_init_end S = some res) : am_G mX11_init (none, 319, 44, 2003, none, (sx_w res r)) (44, 2003) 206 [some (.ref 0), none] [] (sx_w S r) := by
  rw [fx_X11_init_end] at hres
  refine am_iconst (pc' := 207) (v := 0) dX11_init_206 kc_0 rfl ?_
  refine am_istore_n (pc' := 208) (ls' := [some (.ref 0), some (.int (0 : Int32))]) 1 dX11_init_207 rfl (Nat.le_of_ble_eq_true rfl) rfl rfl rfl ?_
  exact wx_X11_init_end_208 r am_fu _ _ _ hres
set_option maxRecDepth 100000 in
set_option maxHeartbeats 4000000 in
theorem tk_X11_init_0 (res : sx_T) (hres : fx_X11_init_end SX0 = some res) : am_T mX11_init 319 44 2003 [.ref 0] cw_1 none (sx_w res []) := by
  refine am_meth (ls := [some (.ref 0), none]) (by decide +kernel) rfl (Nat.le_of_ble_eq_true rfl) ⟨rfl, Or.inr (Nat.le_of_ble_eq_true rfl)⟩ ?_
  refine am_aload_n (pc' := 1) 0 dX11_init_0 rfl rfl rfl ?_
  refine am_oinit (pc' := 4) dX11_init_1 wo_X11_1 rfl ⟨Nat.le_of_ble_eq_true rfl, Nat.le_of_ble_eq_true rfl⟩ rfl ?_
  refine am_aload_n (pc' := 5) 0 dX11_init_4 rfl rfl rfl ?_
  refine am_new (pc' := 8) (ws' := cw_2) (q := 1) dX11_init_5 nw_X11_7 rfl rfl ⟨Nat.le_of_ble_eq_true rfl, Nat.le_of_ble_eq_true rfl⟩ rfl rfl ?_
  refine am_dupa (pc' := 9) dX11_init_8 rfl ?_
  refine am_callIN (pc' := 12) (kn' := (5, 35)) (w1 := cw_11) [.ref 1, .ref 0] [] dX11_init_9 cs_X11_9 rfl tk_X6_init_1 rfl rfl rfl ⟨⟨Nat.le_of_ble_eq_true rfl, Nat.le_of_ble_eq_true rfl⟩, Nat.le_of_ble_eq_true rfl, Nat.le_of_ble_eq_true rfl⟩ rfl rfl ?_
  refine am_putF (pc' := 15) (ws' := cw_12) (v := .ref 1) dX11_init_12 rfl fp_X11_10 rfl (fun _ => ⟨rfl, rfl⟩) (Nat.le_of_ble_eq_true rfl) rfl rfl ?_
  refine am_aload_n (pc' := 16) 0 dX11_init_15 rfl rfl rfl ?_
  refine am_new (pc' := 19) (ws' := cw_13) (q := 6) dX11_init_16 nw_X11_7 rfl rfl ⟨Nat.le_of_ble_eq_true rfl, Nat.le_of_ble_eq_true rfl⟩ rfl rfl ?_
  refine am_dupa (pc' := 20) dX11_init_19 rfl ?_
  refine am_callIN (pc' := 23) (kn' := (10, 70)) (w1 := cw_22) [.ref 6, .ref 0] [] dX11_init_20 cs_X11_9 rfl tk_X6_init_6 rfl rfl rfl ⟨⟨Nat.le_of_ble_eq_true rfl, Nat.le_of_ble_eq_true rfl⟩, Nat.le_of_ble_eq_true rfl, Nat.le_of_ble_eq_true rfl⟩ rfl rfl ?_
  refine am_putF (pc' := 26) (ws' := cw_23) (v := .ref 6) dX11_init_23 rfl fp_X11_16 rfl (fun _ => ⟨rfl, rfl⟩) (Nat.le_of_ble_eq_true rfl) rfl rfl ?_
  refine am_aload_n (pc' := 27) 0 dX11_init_26 rfl rfl rfl ?_
  refine am_bipush (pc' := 29) (v := 6) dX11_init_27 kb_6 rfl ?_
  refine am_newq (pc' := 32) (ws' := cw_24) (q := 11) (n' := 6) dX11_init_29 kl_X11_19 wa_over rfl rfl (by decide) rfl rfl ⟨Nat.le_of_ble_eq_true rfl, Nat.le_of_ble_eq_true rfl⟩ rfl rfl ?_
  refine am_dupa (pc' := 33) dX11_init_32 rfl ?_
  refine am_iconst (pc' := 34) (v := 0) dX11_init_33 kc_0 rfl ?_
  refine am_new (pc' := 37) (ws' := cw_25) (q := 12) dX11_init_34 nw_X11_19 rfl rfl ⟨Nat.le_of_ble_eq_true rfl, Nat.le_of_ble_eq_true rfl⟩ rfl rfl ?_
  refine am_dupa (pc' := 38) dX11_init_37 rfl ?_
  refine am_callIN (pc' := 41) (kn' := (12, 76)) (w1 := cw_25) [.ref 12, .int (0 : Int32), .ref 11, .ref 11, .ref 0] [] dX11_init_38 cs_X11_21 rfl (tc_X9_init cw_25 12) rfl rfl rfl ⟨⟨Nat.le_of_ble_eq_true rfl, Nat.le_of_ble_eq_true rfl⟩, Nat.le_of_ble_eq_true rfl, Nat.le_of_ble_eq_true rfl⟩ rfl rfl ?_
  refine am_aast (pc' := 42) (ws' := cw_26) (f := (fun _ => none)) dX11_init_41 rfl rfl rfl (Or.inl rfl) (am_inC (by decide)) rfl rfl ?_
  refine am_dupa (pc' := 43) dX11_init_42 rfl ?_
  refine am_iconst (pc' := 44) (v := 1) dX11_init_43 kc_1 rfl ?_
  refine am_new (pc' := 47) (ws' := cw_27) (q := 13) dX11_init_44 nw_X11_22 rfl rfl ⟨Nat.le_of_ble_eq_true rfl, Nat.le_of_ble_eq_true rfl⟩ rfl rfl ?_
  refine am_dupa (pc' := 48) dX11_init_47 rfl ?_
  refine am_callIN (pc' := 51) (kn' := (13, 76)) (w1 := cw_27) [.ref 13, .int (1 : Int32), .ref 11, .ref 11, .ref 0] [] dX11_init_48 cs_X11_24 rfl (tc_X1_init cw_27 13) rfl rfl rfl ⟨⟨Nat.le_of_ble_eq_true rfl, Nat.le_of_ble_eq_true rfl⟩, Nat.le_of_ble_eq_true rfl, Nat.le_of_ble_eq_true rfl⟩ rfl rfl ?_
  refine am_aast (pc' := 52) (ws' := cw_28) (f := (va_up (fun _ => none) ((0 : Int32)).toNatClampNeg (some 12))) dX11_init_51 rfl rfl rfl (Or.inr (List.mem_of_getElem? (i := 31) (by decide +kernel))) (am_inC (by decide)) rfl rfl ?_
  refine am_dupa (pc' := 53) dX11_init_52 rfl ?_
  refine am_iconst (pc' := 54) (v := 2) dX11_init_53 kc_2 rfl ?_
  refine am_new (pc' := 57) (ws' := cw_29) (q := 14) dX11_init_54 nw_X11_25 rfl rfl ⟨Nat.le_of_ble_eq_true rfl, Nat.le_of_ble_eq_true rfl⟩ rfl rfl ?_
  refine am_dupa (pc' := 58) dX11_init_57 rfl ?_
  refine am_callIN (pc' := 61) (kn' := (14, 76)) (w1 := cw_29) [.ref 14, .int (2 : Int32), .ref 11, .ref 11, .ref 0] [] dX11_init_58 cs_X11_27 rfl (tc_X7_init cw_29 14) rfl rfl rfl ⟨⟨Nat.le_of_ble_eq_true rfl, Nat.le_of_ble_eq_true rfl⟩, Nat.le_of_ble_eq_true rfl, Nat.le_of_ble_eq_true rfl⟩ rfl rfl ?_
  refine am_aast (pc' := 62) (ws' := cw_30) (f := (va_up (va_up (fun _ => none) ((0 : Int32)).toNatClampNeg (some 12)) ((1 : Int32)).toNatClampNeg (some 13))) dX11_init_61 rfl rfl rfl (Or.inr (List.mem_of_getElem? (i := 32) (by decide +kernel))) (am_inC (by decide)) rfl rfl ?_
  refine am_dupa (pc' := 63) dX11_init_62 rfl ?_
  refine am_iconst (pc' := 64) (v := 3) dX11_init_63 kc_3 rfl ?_
  refine am_new (pc' := 67) (ws' := cw_31) (q := 15) dX11_init_64 nw_X11_28 rfl rfl ⟨Nat.le_of_ble_eq_true rfl, Nat.le_of_ble_eq_true rfl⟩ rfl rfl ?_
  refine am_dupa (pc' := 68) dX11_init_67 rfl ?_
  refine am_callIN (pc' := 71) (kn' := (15, 76)) (w1 := cw_31) [.ref 15, .int (3 : Int32), .ref 11, .ref 11, .ref 0] [] dX11_init_68 cs_X11_30 rfl (tc_X2_init cw_31 15) rfl rfl rfl ⟨⟨Nat.le_of_ble_eq_true rfl, Nat.le_of_ble_eq_true rfl⟩, Nat.le_of_ble_eq_true rfl, Nat.le_of_ble_eq_true rfl⟩ rfl rfl ?_
  refine am_aast (pc' := 72) (ws' := cw_32) (f := (va_up (va_up (va_up (fun _ => none) ((0 : Int32)).toNatClampNeg (some 12)) ((1 : Int32)).toNatClampNeg (some 13)) ((2 : Int32)).toNatClampNeg (some 14))) dX11_init_71 rfl rfl rfl (Or.inr (List.mem_of_getElem? (i := 33) (by decide +kernel))) (am_inC (by decide)) rfl rfl ?_
  refine am_dupa (pc' := 73) dX11_init_72 rfl ?_
  refine am_iconst (pc' := 74) (v := 4) dX11_init_73 kc_4 rfl ?_
  refine am_new (pc' := 77) (ws' := cw_33) (q := 16) dX11_init_74 nw_X11_31 rfl rfl ⟨Nat.le_of_ble_eq_true rfl, Nat.le_of_ble_eq_true rfl⟩ rfl rfl ?_
  refine am_dupa (pc' := 78) dX11_init_77 rfl ?_
  refine am_callIN (pc' := 81) (kn' := (16, 76)) (w1 := cw_33) [.ref 16, .int (4 : Int32), .ref 11, .ref 11, .ref 0] [] dX11_init_78 cs_X11_33 rfl (tc_X3_init cw_33 16) rfl rfl rfl ⟨⟨Nat.le_of_ble_eq_true rfl, Nat.le_of_ble_eq_true rfl⟩, Nat.le_of_ble_eq_true rfl, Nat.le_of_ble_eq_true rfl⟩ rfl rfl ?_
  refine am_aast (pc' := 82) (ws' := cw_34) (f := (va_up (va_up (va_up (va_up (fun _ => none) ((0 : Int32)).toNatClampNeg (some 12)) ((1 : Int32)).toNatClampNeg (some 13)) ((2 : Int32)).toNatClampNeg (some 14)) ((3 : Int32)).toNatClampNeg (some 15))) dX11_init_81 rfl rfl rfl (Or.inr (List.mem_of_getElem? (i := 34) (by decide +kernel))) (am_inC (by decide)) rfl rfl ?_
  refine am_dupa (pc' := 83) dX11_init_82 rfl ?_
  refine am_iconst (pc' := 84) (v := 5) dX11_init_83 kc_5 rfl ?_
  refine am_new (pc' := 87) (ws' := cw_35) (q := 17) dX11_init_84 nw_X11_34 rfl rfl ⟨Nat.le_of_ble_eq_true rfl, Nat.le_of_ble_eq_true rfl⟩ rfl rfl ?_
  refine am_dupa (pc' := 88) dX11_init_87 rfl ?_
  refine am_callIN (pc' := 91) (kn' := (17, 76)) (w1 := cw_35) [.ref 17, .int (5 : Int32), .ref 11, .ref 11, .ref 0] [] dX11_init_88 cs_X11_36 rfl (tc_X0_init cw_35 17) rfl rfl rfl ⟨⟨Nat.le_of_ble_eq_true rfl, Nat.le_of_ble_eq_true rfl⟩, Nat.le_of_ble_eq_true rfl, Nat.le_of_ble_eq_true rfl⟩ rfl rfl ?_
  refine am_aast (pc' := 92) (ws' := cw_36) (f := (va_up (va_up (va_up (va_up (va_up (fun _ => none) ((0 : Int32)).toNatClampNeg (some 12)) ((1 : Int32)).toNatClampNeg (some 13)) ((2 : Int32)).toNatClampNeg (some 14)) ((3 : Int32)).toNatClampNeg (some 15)) ((4 : Int32)).toNatClampNeg (some 16))) dX11_init_91 rfl rfl rfl (Or.inr (List.mem_of_getElem? (i := 35) (by decide +kernel))) (am_inC (by decide)) (am_kinds_full ▸ rfl) rfl ?_
  refine am_putF (pc' := 95) (ws' := cw_37) (v := .ref 11) dX11_init_92 rfl fp_X11_37 rfl (fun _ => ⟨rfl, rfl⟩) (Nat.le_of_ble_eq_true rfl) rfl rfl ?_
  refine am_aload_n (pc' := 96) 0 dX11_init_95 rfl rfl rfl ?_
  refine am_new (pc' := 99) (ws' := cw_38) (q := 18) dX11_init_96 nw_X11_19 rfl rfl ⟨Nat.le_of_ble_eq_true rfl, Nat.le_of_ble_eq_true rfl⟩ rfl rfl ?_
  refine am_dupa (pc' := 100) dX11_init_99 rfl ?_
  refine am_callIN (pc' := 103) (kn' := (18, 76)) (w1 := cw_38) [.ref 18, .ref 0] [] dX11_init_100 cs_X11_21 rfl (tc_X9_init cw_38 18) rfl rfl rfl ⟨⟨Nat.le_of_ble_eq_true rfl, Nat.le_of_ble_eq_true rfl⟩, Nat.le_of_ble_eq_true rfl, Nat.le_of_ble_eq_true rfl⟩ rfl rfl ?_
  refine am_putF (pc' := 106) (ws' := cw_39) (v := .ref 18) dX11_init_103 rfl fp_X11_41 rfl (fun _ => ⟨rfl, rfl⟩) (Nat.le_of_ble_eq_true rfl) rfl rfl ?_
  refine am_aload_n (pc' := 107) 0 dX11_init_106 rfl rfl rfl ?_
  refine am_bipush (pc' := 109) (v := 8) dX11_init_107 kb_8 rfl ?_
  refine am_newa (pc' := 111) (ws' := cw_40) (q := 19) (n' := 8) dX11_init_109 rfl rfl (by decide) rfl rfl ⟨Nat.le_of_ble_eq_true rfl, Nat.le_of_ble_eq_true rfl⟩ rfl rfl ?_
  refine am_putF (pc' := 114) (ws' := cw_41) (v := .ref 19) dX11_init_111 rfl fp_X11_45 rfl (fun _ => ⟨rfl, rfl⟩) (Nat.le_of_ble_eq_true rfl) rfl rfl ?_
  refine am_aload_n (pc' := 115) 0 dX11_init_114 rfl rfl rfl ?_
  refine am_bipush (pc' := 117) (v := 8) dX11_init_115 kb_8 rfl ?_
  refine am_newa (pc' := 119) (ws' := cw_42) (q := 20) (n' := 8) dX11_init_117 rfl rfl (by decide) rfl rfl ⟨Nat.le_of_ble_eq_true rfl, Nat.le_of_ble_eq_true rfl⟩ rfl rfl ?_
  refine am_putF (pc' := 122) (ws' := cw_43) (v := .ref 20) dX11_init_119 rfl fp_X11_49 rfl (fun _ => ⟨rfl, rfl⟩) (Nat.le_of_ble_eq_true rfl) rfl rfl ?_
  refine am_aload_n (pc' := 123) 0 dX11_init_122 rfl rfl rfl ?_
  refine am_new (pc' := 126) (ws' := cw_44) (q := 21) dX11_init_123 nw_X11_52 rfl rfl ⟨Nat.le_of_ble_eq_true rfl, Nat.le_of_ble_eq_true rfl⟩ rfl rfl ?_
  refine am_dupa (pc' := 127) dX11_init_126 rfl ?_
  refine am_callIN (pc' := 130) (kn' := (25, 1255)) (w1 := cw_52) [.ref 21, .ref 0] [] dX11_init_127 cs_X11_54 rfl tk_X8_init_21 rfl rfl rfl ⟨⟨Nat.le_of_ble_eq_true rfl, Nat.le_of_ble_eq_true rfl⟩, Nat.le_of_ble_eq_true rfl, Nat.le_of_ble_eq_true rfl⟩ rfl rfl ?_
  refine am_putF (pc' := 133) (ws' := cw_53) (v := .ref 21) dX11_init_130 rfl fp_X11_55 rfl (fun _ => ⟨rfl, rfl⟩) (Nat.le_of_ble_eq_true rfl) rfl rfl ?_
  refine am_aload_n (pc' := 134) 0 dX11_init_133 rfl rfl rfl ?_
  refine am_new (pc' := 137) (ws' := cw_54) (q := 26) dX11_init_134 nw_X11_59 rfl rfl ⟨Nat.le_of_ble_eq_true rfl, Nat.le_of_ble_eq_true rfl⟩ rfl rfl ?_
  refine am_dupa (pc' := 138) dX11_init_137 rfl ?_
  refine am_aload_n (pc' := 139) 0 dX11_init_138 rfl rfl rfl ?_
  refine am_get (pc' := 142) (v := .ref 21) dX11_init_139 fl_X11_55 rfl rfl rfl ?_
  refine am_callI (pc' := 145) (kn' := (29, 1745)) (w1 := cw_61) [.ref 26, .ref 0] [.ref 21] dX11_init_142 cs_X11_61 rfl tk_X4_init_26 rfl rfl rfl ⟨⟨Nat.le_of_ble_eq_true rfl, Nat.le_of_ble_eq_true rfl⟩, Nat.le_of_ble_eq_true rfl, Nat.le_of_ble_eq_true rfl⟩ rfl rfl ?_
  refine am_putF (pc' := 148) (ws' := cw_62) (v := .ref 26) dX11_init_145 rfl fp_X11_64 rfl (fun _ => ⟨rfl, rfl⟩) (Nat.le_of_ble_eq_true rfl) rfl rfl ?_
  refine am_aload_n (pc' := 149) 0 dX11_init_148 rfl rfl rfl ?_
  refine am_new (pc' := 152) (ws' := cw_63) (q := 30) dX11_init_149 nw_X11_68 rfl rfl ⟨Nat.le_of_ble_eq_true rfl, Nat.le_of_ble_eq_true rfl⟩ rfl rfl ?_
  refine am_dupa (pc' := 153) dX11_init_152 rfl ?_
  refine am_callIN (pc' := 156) (kn' := (33, 1916)) (w1 := cw_73) [.ref 30, .ref 0] [] dX11_init_153 cs_X11_70 rfl tk_X5_init_30 rfl rfl rfl ⟨⟨Nat.le_of_ble_eq_true rfl, Nat.le_of_ble_eq_true rfl⟩, Nat.le_of_ble_eq_true rfl, Nat.le_of_ble_eq_true rfl⟩ rfl rfl ?_
  refine am_putF (pc' := 159) (ws' := cw_74) (v := .ref 30) dX11_init_156 rfl fp_X11_71 rfl (fun _ => ⟨rfl, rfl⟩) (Nat.le_of_ble_eq_true rfl) rfl rfl ?_
  refine am_aload_n (pc' := 160) 0 dX11_init_159 rfl rfl rfl ?_
  refine am_new (pc' := 163) (ws' := cw_75) (q := 34) dX11_init_160 nw_X11_75 rfl rfl ⟨Nat.le_of_ble_eq_true rfl, Nat.le_of_ble_eq_true rfl⟩ rfl rfl ?_
  refine am_dupa (pc' := 164) dX11_init_163 rfl ?_
  refine am_aload_n (pc' := 165) 0 dX11_init_164 rfl rfl rfl ?_
  refine am_get (pc' := 168) (v := .ref 21) dX11_init_165 fl_X11_55 rfl rfl rfl ?_
  refine am_callI (pc' := 171) (kn' := (40, 1965)) (w1 := cw_88) [.ref 34, .ref 0] [.ref 21] dX11_init_168 cs_X11_77 rfl tk_X10_init_34 rfl rfl rfl ⟨⟨Nat.le_of_ble_eq_true rfl, Nat.le_of_ble_eq_true rfl⟩, Nat.le_of_ble_eq_true rfl, Nat.le_of_ble_eq_true rfl⟩ rfl rfl ?_
  refine am_putF (pc' := 174) (ws' := cw_89) (v := .ref 34) dX11_init_171 rfl fp_X11_78 rfl (fun _ => ⟨rfl, rfl⟩) (Nat.le_of_ble_eq_true rfl) rfl rfl ?_
  refine am_aload_n (pc' := 175) 0 dX11_init_174 rfl rfl rfl ?_
  refine am_bipush (pc' := 177) (v := 6) dX11_init_175 kb_6 rfl ?_
  refine am_newa (pc' := 179) (ws' := cw_90) (q := 41) (n' := 6) dX11_init_177 rfl rfl (by decide) rfl rfl ⟨Nat.le_of_ble_eq_true rfl, Nat.le_of_ble_eq_true rfl⟩ rfl rfl ?_
  refine am_putF (pc' := 182) (ws' := cw_91) (v := .ref 41) dX11_init_179 rfl fp_X11_82 rfl (fun _ => ⟨rfl, rfl⟩) (Nat.le_of_ble_eq_true rfl) rfl rfl ?_
  refine am_aload_n (pc' := 183) 0 dX11_init_182 rfl rfl rfl ?_
  refine am_bipush (pc' := 185) (v := 6) dX11_init_183 kb_6 rfl ?_
  refine am_newa (pc' := 187) (ws' := cw_92) (q := 42) (n' := 6) dX11_init_185 rfl rfl (by decide) rfl rfl ⟨Nat.le_of_ble_eq_true rfl, Nat.le_of_ble_eq_true rfl⟩ rfl rfl ?_
  refine am_putF (pc' := 190) (ws' := cw_93) (v := .ref 42) dX11_init_187 rfl fp_X11_85 rfl (fun _ => ⟨rfl, rfl⟩) (Nat.le_of_ble_eq_true rfl) rfl rfl ?_
  refine am_aload_n (pc' := 191) 0 dX11_init_190 rfl rfl rfl ?_
  refine am_bipush (pc' := 193) (v := 18) dX11_init_191 kb_18 rfl ?_
  refine am_newa (pc' := 195) (ws' := cw_94) (q := 43) (n' := 18) dX11_init_193 rfl rfl (by decide) rfl rfl ⟨Nat.le_of_ble_eq_true rfl, Nat.le_of_ble_eq_true rfl⟩ rfl rfl ?_
  refine am_putF (pc' := 198) (ws' := cw_95) (v := .ref 43) dX11_init_195 rfl fp_X11_88 rfl (fun _ => ⟨rfl, rfl⟩) (Nat.le_of_ble_eq_true rfl) rfl rfl ?_
  refine am_aload_n (pc' := 199) 0 dX11_init_198 rfl rfl rfl ?_
  refine am_bipush (pc' := 201) (v := 8) dX11_init_199 kb_8 rfl ?_
  refine am_newa (pc' := 203) (ws' := cw_96) (q := 44) (n' := 8) dX11_init_201 rfl rfl (by decide) rfl rfl ⟨Nat.le_of_ble_eq_true rfl, Nat.le_of_ble_eq_true rfl⟩ rfl rfl ?_
  refine am_putF (pc' := 206) (ws' := cw_97) (v := .ref 44) dX11_init_203 rfl fp_X11_91 rfl (fun _ => ⟨rfl, rfl⟩) (Nat.le_of_ble_eq_true rfl) rfl rfl ?_
  exact tx_X11_init_end [] SX0 res hres
