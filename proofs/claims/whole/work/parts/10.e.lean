
set_option maxRecDepth 100000 in
set_option maxHeartbeats 4000000 in
theorem wx_X12_init_end_1034 (S0 : sx_T) : ∀ (n : Nat) (v1 : Int32) (S : sm_T) (res : sm_T) (hres : fx_X12_init_end_1034 n v1 S = some res), am_G mX12_init (none, 5, 22, 2301, none, (sx_w S0 (sm_w res))) (22, 2301) 1034 [some (.ref 45), some (.int v1)] [] (sx_w S0 (sm_w S)) := by
  intro n
  induction n with
  | zero =>
    intro v1 S res hres
    cases hres
  | succ n ih =>
    intro v1 S res hres
    rw [fx_X12_init_end_1034] at hres
    refine am_iload_n (pc' := 1035) 1 dX12_init_1034 rfl rfl rfl ?_
    refine am_bipush (pc' := 1037) (v := 44) dX12_init_1035 kb_44 rfl ?_
    refine am_icmp_ge (pc' := 1040) 1058 dX12_init_1037 rfl rfl (fun hc1 => ?_) (fun hc1 => ?_)
    · rw [if_pos hc1] at hres
      refine am_aload_n (pc' := 1059) 0 dX12_init_1058 rfl rfl rfl ?_
      refine am_bipush (pc' := 1061) (v := 44) dX12_init_1059 kb_44 rfl ?_
      refine am_put (pc' := 1064) (ws' := (sx_w S0 (sm_w (um_taped S (44 : Int32))))) (v := .int (44 : Int32)) dX12_init_1061 fp_X12_80 (sm_c45 S0 S) (fun _ => ⟨rfl, rfl⟩) (Nat.le_of_ble_eq_true rfl) (sm_p_taped S0 S _) rfl ?_
      refine am_aload_n (pc' := 1065) 0 dX12_init_1064 rfl rfl rfl ?_
      obtain ⟨q2, hq3, hres⟩ := am_bd_s hres
      refine am_cVm (pc' := 1068) (st' := [.int q2.1]) [] [] dX12_init_1065 cs_X12_83 (tx_X12_text S0 (um_taped S (44 : Int32)) _ hq3) rfl rfl rfl (sm_c45 S0 (um_taped S (44 : Int32))) rfl rfl rfl rfl rfl ?_
      refine am_pop (pc' := 1069) dX12_init_1068 rfl ?_
      obtain rfl := Option.some.inj hres
      exact am_vret dX12_init_1069 rfl rfl rfl
    · rw [if_neg hc1] at hres
      refine am_aload_n (pc' := 1041) 0 dX12_init_1040 rfl rfl rfl ?_
      refine am_get (pc' := 1044) (v := .ref 50) dX12_init_1041 fl_X12_26 (sm_c45 S0 S) rfl rfl ?_
      refine am_iload_n (pc' := 1045) 1 dX12_init_1044 rfl rfl rfl ?_
      refine am_aload_n (pc' := 1046) 0 dX12_init_1045 rfl rfl rfl ?_
      refine am_get (pc' := 1049) (v := .ref 58) dX12_init_1046 fl_X12_50 (sm_c45 S0 S) rfl rfl ?_
      refine am_iload_n (pc' := 1050) 1 dX12_init_1049 rfl rfl rfl ?_
      obtain ⟨hr4, hres⟩ := am_rg hres
      refine am_iald (pc' := 1051) (f := am_lawtext) dX12_init_1050 (sm_c58 S0 S) hr4 rfl ?_
      obtain ⟨hr5, hres⟩ := am_rg hres
      refine am_iast (pc' := 1052) (f := (sm_tape S)) (ws' := (sx_w S0 (sm_w (um_tape S (upd (sm_tape S) v1.toNatClampNeg (am_lawtext v1.toNatClampNeg)))))) dX12_init_1051 (sm_c50 S0 S) hr5 (sm_p_tape S0 S _) rfl ?_
      refine am_iinc (pc' := 1055) (ls' := [some (.ref 45), some (.int (v1 + (1 : Int32)))]) dX12_init_1052 rfl (show v1 + Int32.ofInt 1 = (v1 + (1 : Int32)) from congrArg (fun z => v1 + z) kc_1) (Nat.le_of_ble_eq_true rfl) rfl rfl rfl ?_
      refine am_goto 1034 dX12_init_1055 rfl ?_
      exact ih _ _ _ hres

set_option maxRecDepth 100000 in
set_option maxHeartbeats 4000000 in
theorem tx_X12_init_end (S0 : sx_T) (S : sm_T) (res : sm_T) (hres : fx_X12_init_end S = some res) : am_G mX12_init (none, 5, 22, 2301, none, (sx_w S0 (sm_w res))) (22, 2301) 1032 [some (.ref 45), none] [] (sx_w S0 (sm_w S)) := by
  rw [fx_X12_init_end] at hres
  refine am_iconst (pc' := 1033) (v := 0) dX12_init_1032 kc_0 rfl ?_
  refine am_istore_n (pc' := 1034) (ls' := [some (.ref 45), some (.int (0 : Int32))]) 1 dX12_init_1033 rfl (Nat.le_of_ble_eq_true rfl) rfl rfl rfl ?_
  exact wx_X12_init_end_1034 S0 am_fu _ _ _ hres
set_option maxRecDepth 100000 in
set_option maxHeartbeats 4000000 in
theorem tk_X12_init_45 (S0 : sx_T) (res : sm_T) (hres : fx_X12_init_end SM0 = some res) : am_T mX12_init 5 22 2301 [.ref 45] (cm_1 S0) none (sx_w S0 (sm_w res)) := by
  refine am_meth (ls := [some (.ref 45), none]) (by decide +kernel) rfl (Nat.le_of_ble_eq_true rfl) ⟨rfl, Or.inr (Nat.le_of_ble_eq_true rfl)⟩ ?_
  refine am_aload_n (pc' := 1) 0 dX12_init_0 rfl rfl rfl ?_
  refine am_oinit (pc' := 4) dX12_init_1 wo_X12_1 rfl ⟨Nat.le_of_ble_eq_true rfl, Nat.le_of_ble_eq_true rfl⟩ rfl ?_
  refine am_aload_n (pc' := 5) 0 dX12_init_4 rfl rfl rfl ?_
  refine am_bipush (pc' := 7) (v := 8) dX12_init_5 kb_8 rfl ?_
  refine am_newa (pc' := 9) (ws' := (cm_2 S0)) (q := 46) (n' := 8) dX12_init_7 rfl rfl (by decide) rfl rfl ⟨Nat.le_of_ble_eq_true rfl, Nat.le_of_ble_eq_true rfl⟩ rfl rfl ?_
  refine am_putF (pc' := 12) (ws' := (cm_3 S0)) (v := .ref 46) dX12_init_9 rfl fp_X12_7 rfl (fun _ => ⟨rfl, rfl⟩) (Nat.le_of_ble_eq_true rfl) rfl rfl ?_
  refine am_aload_n (pc' := 13) 0 dX12_init_12 rfl rfl rfl ?_
  refine am_bipush (pc' := 15) (v := 8) dX12_init_13 kb_8 rfl ?_
  refine am_newa (pc' := 17) (ws' := (cm_4 S0)) (q := 47) (n' := 8) dX12_init_15 rfl rfl (by decide) rfl rfl ⟨Nat.le_of_ble_eq_true rfl, Nat.le_of_ble_eq_true rfl⟩ rfl rfl ?_
  refine am_putF (pc' := 20) (ws' := (cm_5 S0)) (v := .ref 47) dX12_init_17 rfl fp_X12_13 rfl (fun _ => ⟨rfl, rfl⟩) (Nat.le_of_ble_eq_true rfl) rfl rfl ?_
  refine am_aload_n (pc' := 21) 0 dX12_init_20 rfl rfl rfl ?_
  refine am_bipush (pc' := 23) (v := 16) dX12_init_21 kb_16 rfl ?_
  refine am_newa (pc' := 25) (ws' := (cm_6 S0)) (q := 48) (n' := 16) dX12_init_23 rfl rfl (by decide) rfl rfl ⟨Nat.le_of_ble_eq_true rfl, Nat.le_of_ble_eq_true rfl⟩ rfl rfl ?_
  refine am_putF (pc' := 28) (ws' := (cm_7 S0)) (v := .ref 48) dX12_init_25 rfl fp_X12_16 rfl (fun _ => ⟨rfl, rfl⟩) (Nat.le_of_ble_eq_true rfl) rfl rfl ?_
  refine am_aload_n (pc' := 29) 0 dX12_init_28 rfl rfl rfl ?_
  refine am_bipush (pc' := 31) (v := 12) dX12_init_29 kb_12 rfl ?_
  refine am_newa (pc' := 33) (ws' := (cm_8 S0)) (q := 49) (n' := 12) dX12_init_31 rfl rfl (by decide) rfl rfl ⟨Nat.le_of_ble_eq_true rfl, Nat.le_of_ble_eq_true rfl⟩ rfl rfl ?_
  refine am_putF (pc' := 36) (ws' := (cm_9 S0)) (v := .ref 49) dX12_init_33 rfl fp_X12_19 rfl (fun _ => ⟨rfl, rfl⟩) (Nat.le_of_ble_eq_true rfl) rfl rfl ?_
  refine am_aload_n (pc' := 37) 0 dX12_init_36 rfl rfl rfl ?_
  refine am_bipush (pc' := 39) (v := 6) dX12_init_37 kb_6 rfl ?_
  refine am_put (pc' := 42) (ws' := (cm_10 S0)) (v := .int (6 : Int32)) dX12_init_39 fp_X12_22 rfl (fun _ => ⟨rfl, rfl⟩) (Nat.le_of_ble_eq_true rfl) rfl rfl ?_
  refine am_aload_n (pc' := 43) 0 dX12_init_42 rfl rfl rfl ?_
  refine am_sipush (pc' := 46) (v := 160) dX12_init_43 ks_160 rfl ?_
  refine am_newa (pc' := 48) (ws' := (cm_11 S0)) (q := 50) (n' := 160) dX12_init_46 rfl rfl (by decide) rfl rfl ⟨Nat.le_of_ble_eq_true rfl, Nat.le_of_ble_eq_true rfl⟩ rfl rfl ?_
  refine am_putF (pc' := 51) (ws' := (cm_12 S0)) (v := .ref 50) dX12_init_48 rfl fp_X12_26 rfl (fun _ => ⟨rfl, rfl⟩) (Nat.le_of_ble_eq_true rfl) rfl rfl ?_
  refine am_aload_n (pc' := 52) 0 dX12_init_51 rfl rfl rfl ?_
  refine am_sipush (pc' := 55) (v := 1200) dX12_init_52 ks_1200 rfl ?_
  refine am_newa (pc' := 57) (ws' := (cm_13 S0)) (q := 51) (n' := 1200) dX12_init_55 rfl rfl (by decide) rfl rfl ⟨Nat.le_of_ble_eq_true rfl, Nat.le_of_ble_eq_true rfl⟩ rfl rfl ?_
  refine am_putF (pc' := 60) (ws' := (cm_14 S0)) (v := .ref 51) dX12_init_57 rfl fp_X12_29 rfl (fun _ => ⟨rfl, rfl⟩) (Nat.le_of_ble_eq_true rfl) rfl rfl ?_
  refine am_aload_n (pc' := 61) 0 dX12_init_60 rfl rfl rfl ?_
  refine am_bipush (pc' := 63) (v := 24) dX12_init_61 kb_24 rfl ?_
  refine am_newa (pc' := 65) (ws' := (cm_15 S0)) (q := 52) (n' := 24) dX12_init_63 rfl rfl (by decide) rfl rfl ⟨Nat.le_of_ble_eq_true rfl, Nat.le_of_ble_eq_true rfl⟩ rfl rfl ?_
  refine am_putF (pc' := 68) (ws' := (cm_16 S0)) (v := .ref 52) dX12_init_65 rfl fp_X12_32 rfl (fun _ => ⟨rfl, rfl⟩) (Nat.le_of_ble_eq_true rfl) rfl rfl ?_
  refine am_aload_n (pc' := 69) 0 dX12_init_68 rfl rfl rfl ?_
  refine am_bipush (pc' := 71) (v := 28) dX12_init_69 kb_28 rfl ?_
  refine am_newa (pc' := 73) (ws' := (cm_17 S0)) (q := 53) (n' := 28) dX12_init_71 rfl rfl (by decide) rfl rfl ⟨Nat.le_of_ble_eq_true rfl, Nat.le_of_ble_eq_true rfl⟩ rfl rfl ?_
  refine am_putF (pc' := 76) (ws' := (cm_18 S0)) (v := .ref 53) dX12_init_73 rfl fp_X12_35 rfl (fun _ => ⟨rfl, rfl⟩) (Nat.le_of_ble_eq_true rfl) rfl rfl ?_
  refine am_aload_n (pc' := 77) 0 dX12_init_76 rfl rfl rfl ?_
  refine am_iconst (pc' := 78) (v := 3) dX12_init_77 kc_3 rfl ?_
  refine am_newa (pc' := 80) (ws' := (cm_19 S0)) (q := 54) (n' := 3) dX12_init_78 rfl rfl (by decide) rfl rfl ⟨Nat.le_of_ble_eq_true rfl, Nat.le_of_ble_eq_true rfl⟩ rfl rfl ?_
  refine am_putF (pc' := 83) (ws' := (cm_20 S0)) (v := .ref 54) dX12_init_80 rfl fp_X12_38 rfl (fun _ => ⟨rfl, rfl⟩) (Nat.le_of_ble_eq_true rfl) rfl rfl ?_
  refine am_aload_n (pc' := 84) 0 dX12_init_83 rfl rfl rfl ?_
  refine am_iconst (pc' := 85) (v := 4) dX12_init_84 kc_4 rfl ?_
  refine am_newa (pc' := 87) (ws' := (cm_21 S0)) (q := 55) (n' := 4) dX12_init_85 rfl rfl (by decide) rfl rfl ⟨Nat.le_of_ble_eq_true rfl, Nat.le_of_ble_eq_true rfl⟩ rfl rfl ?_
  refine am_dupa (pc' := 88) dX12_init_87 rfl ?_
  refine am_iconst (pc' := 89) (v := 0) dX12_init_88 kc_0 rfl ?_
  refine am_iconst (pc' := 90) (v := (-1)) dX12_init_89 kc_m1 rfl ?_
  refine am_iast (pc' := 91) (ws' := (cm_22 S0)) dX12_init_90 rfl (am_inC (by decide)) rfl rfl ?_
  refine am_dupa (pc' := 92) dX12_init_91 rfl ?_
  refine am_iconst (pc' := 93) (v := 1) dX12_init_92 kc_1 rfl ?_
  refine am_iconst (pc' := 94) (v := (-1)) dX12_init_93 kc_m1 rfl ?_
  refine am_iast (pc' := 95) (ws' := (cm_23 S0)) dX12_init_94 rfl (am_inC (by decide)) rfl rfl ?_
  refine am_dupa (pc' := 96) dX12_init_95 rfl ?_
  refine am_iconst (pc' := 97) (v := 2) dX12_init_96 kc_2 rfl ?_
  refine am_iconst (pc' := 98) (v := (-1)) dX12_init_97 kc_m1 rfl ?_
  refine am_iast (pc' := 99) (ws' := (cm_24 S0)) dX12_init_98 rfl (am_inC (by decide)) rfl rfl ?_
  refine am_dupa (pc' := 100) dX12_init_99 rfl ?_
  refine am_iconst (pc' := 101) (v := 3) dX12_init_100 kc_3 rfl ?_
  refine am_iconst (pc' := 102) (v := (-1)) dX12_init_101 kc_m1 rfl ?_
  refine am_iast (pc' := 103) (ws' := (cm_25 S0)) dX12_init_102 rfl (am_inC (by decide)) rfl rfl ?_
  refine am_putF (pc' := 106) (ws' := (cm_26 S0)) (v := .ref 55) dX12_init_103 rfl fp_X12_41 rfl (fun _ => ⟨rfl, rfl⟩) (Nat.le_of_ble_eq_true rfl) rfl rfl ?_
  refine am_aload_n (pc' := 107) 0 dX12_init_106 rfl rfl rfl ?_
  refine am_iconst (pc' := 108) (v := 4) dX12_init_107 kc_4 rfl ?_
  refine am_newa (pc' := 110) (ws' := (cm_27 S0)) (q := 56) (n' := 4) dX12_init_108 rfl rfl (by decide) rfl rfl ⟨Nat.le_of_ble_eq_true rfl, Nat.le_of_ble_eq_true rfl⟩ rfl rfl ?_
  refine am_putF (pc' := 113) (ws' := (cm_28 S0)) (v := .ref 56) dX12_init_110 rfl fp_X12_44 rfl (fun _ => ⟨rfl, rfl⟩) (Nat.le_of_ble_eq_true rfl) rfl rfl ?_
  refine am_aload_n (pc' := 114) 0 dX12_init_113 rfl rfl rfl ?_
  refine am_sipush (pc' := 117) (v := 160) dX12_init_114 ks_160 rfl ?_
  refine am_newa (pc' := 119) (ws' := (cm_29 S0)) (q := 57) (n' := 160) dX12_init_117 rfl rfl (by decide) rfl rfl ⟨Nat.le_of_ble_eq_true rfl, Nat.le_of_ble_eq_true rfl⟩ rfl rfl ?_
  refine am_putF (pc' := 122) (ws' := (cm_30 S0)) (v := .ref 57) dX12_init_119 rfl fp_X12_47 rfl (fun _ => ⟨rfl, rfl⟩) (Nat.le_of_ble_eq_true rfl) rfl rfl ?_
  refine am_aload_n (pc' := 123) 0 dX12_init_122 rfl rfl rfl ?_
  refine am_bipush (pc' := 125) (v := 44) dX12_init_123 kb_44 rfl ?_
  refine am_newa (pc' := 127) (ws' := (cm_31 S0)) (q := 58) (n' := 44) dX12_init_125 rfl rfl (by decide) rfl rfl ⟨Nat.le_of_ble_eq_true rfl, Nat.le_of_ble_eq_true rfl⟩ rfl rfl ?_
  refine am_dupa (pc' := 128) dX12_init_127 rfl ?_
  refine am_iconst (pc' := 129) (v := 0) dX12_init_128 kc_0 rfl ?_
  refine am_bipush (pc' := 131) (v := 108) dX12_init_129 kb_108 rfl ?_
  refine am_cellP (w1 := (cm_32 S0)) 58 (am_pre am_lawtextL 0) rfl (am_pre_0 am_lawtextL) rfl ?_
  refine am_iastP (pc' := 132) (ws' := (cm_33 S0)) (f' := am_pre am_lawtextL 1) dX12_init_131 rfl (am_inC (by decide)) (am_pre_s am_lawtextL 0 (108 : Int32) rfl (by decide)) rfl rfl ?_
  refine am_dupa (pc' := 133) dX12_init_132 rfl ?_
  refine am_iconst (pc' := 134) (v := 1) dX12_init_133 kc_1 rfl ?_
  refine am_bipush (pc' := 136) (v := 105) dX12_init_134 kb_105 rfl ?_
  refine am_iastP (pc' := 137) (ws' := (cm_34 S0)) (f' := am_pre am_lawtextL 2) dX12_init_136 rfl (am_inC (by decide)) (am_pre_s am_lawtextL 1 (105 : Int32) rfl (by decide)) rfl rfl ?_
  refine am_dupa (pc' := 138) dX12_init_137 rfl ?_
  refine am_iconst (pc' := 139) (v := 2) dX12_init_138 kc_2 rfl ?_
  refine am_bipush (pc' := 141) (v := 107) dX12_init_139 kb_107 rfl ?_
  refine am_iastP (pc' := 142) (ws' := (cm_35 S0)) (f' := am_pre am_lawtextL 3) dX12_init_141 rfl (am_inC (by decide)) (am_pre_s am_lawtextL 2 (107 : Int32) rfl (by decide)) rfl rfl ?_
  refine am_dupa (pc' := 143) dX12_init_142 rfl ?_
  refine am_iconst (pc' := 144) (v := 3) dX12_init_143 kc_3 rfl ?_
  refine am_bipush (pc' := 146) (v := 101) dX12_init_144 kb_101 rfl ?_
  refine am_iastP (pc' := 147) (ws' := (cm_36 S0)) (f' := am_pre am_lawtextL 4) dX12_init_146 rfl (am_inC (by decide)) (am_pre_s am_lawtextL 3 (101 : Int32) rfl (by decide)) rfl rfl ?_
  refine am_dupa (pc' := 148) dX12_init_147 rfl ?_
  refine am_iconst (pc' := 149) (v := 4) dX12_init_148 kc_4 rfl ?_
  refine am_bipush (pc' := 151) (v := 115) dX12_init_149 kb_115 rfl ?_
  refine am_iastP (pc' := 152) (ws' := (cm_37 S0)) (f' := am_pre am_lawtextL 5) dX12_init_151 rfl (am_inC (by decide)) (am_pre_s am_lawtextL 4 (115 : Int32) rfl (by decide)) rfl rfl ?_
  refine am_dupa (pc' := 153) dX12_init_152 rfl ?_
  refine am_iconst (pc' := 154) (v := 5) dX12_init_153 kc_5 rfl ?_
  refine am_bipush (pc' := 156) (v := 32) dX12_init_154 kb_32 rfl ?_
  refine am_iastP (pc' := 157) (ws' := (cm_38 S0)) (f' := am_pre am_lawtextL 6) dX12_init_156 rfl (am_inC (by decide)) (am_pre_s am_lawtextL 5 (32 : Int32) rfl (by decide)) rfl rfl ?_
  refine am_dupa (pc' := 158) dX12_init_157 rfl ?_
  refine am_bipush (pc' := 160) (v := 6) dX12_init_158 kb_6 rfl ?_
  refine am_bipush (pc' := 162) (v := 108) dX12_init_160 kb_108 rfl ?_
  refine am_iastP (pc' := 163) (ws' := (cm_39 S0)) (f' := am_pre am_lawtextL 7) dX12_init_162 rfl (am_inC (by decide)) (am_pre_s am_lawtextL 6 (108 : Int32) rfl (by decide)) rfl rfl ?_
  refine am_dupa (pc' := 164) dX12_init_163 rfl ?_
  refine am_bipush (pc' := 166) (v := 7) dX12_init_164 kb_7 rfl ?_
  refine am_bipush (pc' := 168) (v := 105) dX12_init_166 kb_105 rfl ?_
  refine am_iastP (pc' := 169) (ws' := (cm_40 S0)) (f' := am_pre am_lawtextL 8) dX12_init_168 rfl (am_inC (by decide)) (am_pre_s am_lawtextL 7 (105 : Int32) rfl (by decide)) rfl rfl ?_
  refine am_dupa (pc' := 170) dX12_init_169 rfl ?_
  refine am_bipush (pc' := 172) (v := 8) dX12_init_170 kb_8 rfl ?_
  refine am_bipush (pc' := 174) (v := 103) dX12_init_172 kb_103 rfl ?_
  refine am_iastP (pc' := 175) (ws' := (cm_41 S0)) (f' := am_pre am_lawtextL 9) dX12_init_174 rfl (am_inC (by decide)) (am_pre_s am_lawtextL 8 (103 : Int32) rfl (by decide)) rfl rfl ?_
  refine am_dupa (pc' := 176) dX12_init_175 rfl ?_
  refine am_bipush (pc' := 178) (v := 9) dX12_init_176 kb_9 rfl ?_
  refine am_bipush (pc' := 180) (v := 104) dX12_init_178 kb_104 rfl ?_
  refine am_iastP (pc' := 181) (ws' := (cm_42 S0)) (f' := am_pre am_lawtextL 10) dX12_init_180 rfl (am_inC (by decide)) (am_pre_s am_lawtextL 9 (104 : Int32) rfl (by decide)) rfl rfl ?_
  refine am_dupa (pc' := 182) dX12_init_181 rfl ?_
  refine am_bipush (pc' := 184) (v := 10) dX12_init_182 kb_10 rfl ?_
  refine am_bipush (pc' := 186) (v := 116) dX12_init_184 kb_116 rfl ?_
  refine am_iastP (pc' := 187) (ws' := (cm_43 S0)) (f' := am_pre am_lawtextL 11) dX12_init_186 rfl (am_inC (by decide)) (am_pre_s am_lawtextL 10 (116 : Int32) rfl (by decide)) rfl rfl ?_
  refine am_dupa (pc' := 188) dX12_init_187 rfl ?_
  refine am_bipush (pc' := 190) (v := 11) dX12_init_188 kb_11 rfl ?_
  refine am_bipush (pc' := 192) (v := 32) dX12_init_190 kb_32 rfl ?_
  refine am_iastP (pc' := 193) (ws' := (cm_44 S0)) (f' := am_pre am_lawtextL 12) dX12_init_192 rfl (am_inC (by decide)) (am_pre_s am_lawtextL 11 (32 : Int32) rfl (by decide)) rfl rfl ?_
  refine am_dupa (pc' := 194) dX12_init_193 rfl ?_
  refine am_bipush (pc' := 196) (v := 12) dX12_init_194 kb_12 rfl ?_
  refine am_bipush (pc' := 198) (v := 45) dX12_init_196 kb_45 rfl ?_
  refine am_iastP (pc' := 199) (ws' := (cm_45 S0)) (f' := am_pre am_lawtextL 13) dX12_init_198 rfl (am_inC (by decide)) (am_pre_s am_lawtextL 12 (45 : Int32) rfl (by decide)) rfl rfl ?_
  refine am_dupa (pc' := 200) dX12_init_199 rfl ?_
  refine am_bipush (pc' := 202) (v := 13) dX12_init_200 kb_13 rfl ?_
  refine am_bipush (pc' := 204) (v := 32) dX12_init_202 kb_32 rfl ?_
  refine am_iastP (pc' := 205) (ws' := (cm_46 S0)) (f' := am_pre am_lawtextL 14) dX12_init_204 rfl (am_inC (by decide)) (am_pre_s am_lawtextL 13 (32 : Int32) rfl (by decide)) rfl rfl ?_
  refine am_dupa (pc' := 206) dX12_init_205 rfl ?_
  refine am_bipush (pc' := 208) (v := 14) dX12_init_206 kb_14 rfl ?_
  refine am_bipush (pc' := 210) (v := 100) dX12_init_208 kb_100 rfl ?_
  refine am_iastP (pc' := 211) (ws' := (cm_47 S0)) (f' := am_pre am_lawtextL 15) dX12_init_210 rfl (am_inC (by decide)) (am_pre_s am_lawtextL 14 (100 : Int32) rfl (by decide)) rfl rfl ?_
  refine am_dupa (pc' := 212) dX12_init_211 rfl ?_
  refine am_bipush (pc' := 214) (v := 15) dX12_init_212 kb_15 rfl ?_
  refine am_bipush (pc' := 216) (v := 97) dX12_init_214 kb_97 rfl ?_
  refine am_iastP (pc' := 217) (ws' := (cm_48 S0)) (f' := am_pre am_lawtextL 16) dX12_init_216 rfl (am_inC (by decide)) (am_pre_s am_lawtextL 15 (97 : Int32) rfl (by decide)) rfl rfl ?_
  refine am_dupa (pc' := 218) dX12_init_217 rfl ?_
  refine am_bipush (pc' := 220) (v := 16) dX12_init_218 kb_16 rfl ?_
  refine am_bipush (pc' := 222) (v := 109) dX12_init_220 kb_109 rfl ?_
  refine am_iastP (pc' := 223) (ws' := (cm_49 S0)) (f' := am_pre am_lawtextL 17) dX12_init_222 rfl (am_inC (by decide)) (am_pre_s am_lawtextL 16 (109 : Int32) rfl (by decide)) rfl rfl ?_
  refine am_dupa (pc' := 224) dX12_init_223 rfl ?_
  refine am_bipush (pc' := 226) (v := 17) dX12_init_224 kb_17 rfl ?_
  refine am_bipush (pc' := 228) (v := 112) dX12_init_226 kb_112 rfl ?_
  refine am_iastP (pc' := 229) (ws' := (cm_50 S0)) (f' := am_pre am_lawtextL 18) dX12_init_228 rfl (am_inC (by decide)) (am_pre_s am_lawtextL 17 (112 : Int32) rfl (by decide)) rfl rfl ?_
  refine am_dupa (pc' := 230) dX12_init_229 rfl ?_
  refine am_bipush (pc' := 232) (v := 18) dX12_init_230 kb_18 rfl ?_
  refine am_bipush (pc' := 234) (v := 32) dX12_init_232 kb_32 rfl ?_
  refine am_iastP (pc' := 235) (ws' := (cm_51 S0)) (f' := am_pre am_lawtextL 19) dX12_init_234 rfl (am_inC (by decide)) (am_pre_s am_lawtextL 18 (32 : Int32) rfl (by decide)) rfl rfl ?_
  refine am_dupa (pc' := 236) dX12_init_235 rfl ?_
  refine am_bipush (pc' := 238) (v := 19) dX12_init_236 kb_19 rfl ?_
  refine am_bipush (pc' := 240) (v := 59) dX12_init_238 kb_59 rfl ?_
  refine am_iastP (pc' := 241) (ws' := (cm_52 S0)) (f' := am_pre am_lawtextL 20) dX12_init_240 rfl (am_inC (by decide)) (am_pre_s am_lawtextL 19 (59 : Int32) rfl (by decide)) rfl rfl ?_
  refine am_dupa (pc' := 242) dX12_init_241 rfl ?_
  refine am_bipush (pc' := 244) (v := 20) dX12_init_242 kb_20 rfl ?_
  refine am_bipush (pc' := 246) (v := 32) dX12_init_244 kb_32 rfl ?_
  refine am_iastP (pc' := 247) (ws' := (cm_53 S0)) (f' := am_pre am_lawtextL 21) dX12_init_246 rfl (am_inC (by decide)) (am_pre_s am_lawtextL 20 (32 : Int32) rfl (by decide)) rfl rfl ?_
  refine am_dupa (pc' := 248) dX12_init_247 rfl ?_
  refine am_bipush (pc' := 250) (v := 21) dX12_init_248 kb_21 rfl ?_
  refine am_bipush (pc' := 252) (v := 107) dX12_init_250 kb_107 rfl ?_
  refine am_iastP (pc' := 253) (ws' := (cm_54 S0)) (f' := am_pre am_lawtextL 22) dX12_init_252 rfl (am_inC (by decide)) (am_pre_s am_lawtextL 21 (107 : Int32) rfl (by decide)) rfl rfl ?_
  refine am_dupa (pc' := 254) dX12_init_253 rfl ?_
  refine am_bipush (pc' := 256) (v := 22) dX12_init_254 kb_22 rfl ?_
  refine am_bipush (pc' := 258) (v := 101) dX12_init_256 kb_101 rfl ?_
  refine am_iastP (pc' := 259) (ws' := (cm_55 S0)) (f' := am_pre am_lawtextL 23) dX12_init_258 rfl (am_inC (by decide)) (am_pre_s am_lawtextL 22 (101 : Int32) rfl (by decide)) rfl rfl ?_
  refine am_dupa (pc' := 260) dX12_init_259 rfl ?_
  refine am_bipush (pc' := 262) (v := 23) dX12_init_260 kb_23 rfl ?_
  refine am_bipush (pc' := 264) (v := 101) dX12_init_262 kb_101 rfl ?_
  refine am_iastP (pc' := 265) (ws' := (cm_56 S0)) (f' := am_pre am_lawtextL 24) dX12_init_264 rfl (am_inC (by decide)) (am_pre_s am_lawtextL 23 (101 : Int32) rfl (by decide)) rfl rfl ?_
  refine am_dupa (pc' := 266) dX12_init_265 rfl ?_
  refine am_bipush (pc' := 268) (v := 24) dX12_init_266 kb_24 rfl ?_
  refine am_bipush (pc' := 270) (v := 112) dX12_init_268 kb_112 rfl ?_
  refine am_iastP (pc' := 271) (ws' := (cm_57 S0)) (f' := am_pre am_lawtextL 25) dX12_init_270 rfl (am_inC (by decide)) (am_pre_s am_lawtextL 24 (112 : Int32) rfl (by decide)) rfl rfl ?_
  refine am_dupa (pc' := 272) dX12_init_271 rfl ?_
  refine am_bipush (pc' := 274) (v := 25) dX12_init_272 kb_25 rfl ?_
  refine am_bipush (pc' := 276) (v := 115) dX12_init_274 kb_115 rfl ?_
  refine am_iastP (pc' := 277) (ws' := (cm_58 S0)) (f' := am_pre am_lawtextL 26) dX12_init_276 rfl (am_inC (by decide)) (am_pre_s am_lawtextL 25 (115 : Int32) rfl (by decide)) rfl rfl ?_
  refine am_dupa (pc' := 278) dX12_init_277 rfl ?_
  refine am_bipush (pc' := 280) (v := 26) dX12_init_278 kb_26 rfl ?_
  refine am_bipush (pc' := 282) (v := 32) dX12_init_280 kb_32 rfl ?_
  refine am_iastP (pc' := 283) (ws' := (cm_59 S0)) (f' := am_pre am_lawtextL 27) dX12_init_282 rfl (am_inC (by decide)) (am_pre_s am_lawtextL 26 (32 : Int32) rfl (by decide)) rfl rfl ?_
  refine am_dupa (pc' := 284) dX12_init_283 rfl ?_
  refine am_bipush (pc' := 286) (v := 27) dX12_init_284 kb_27 rfl ?_
  refine am_bipush (pc' := 288) (v := 49) dX12_init_286 kb_49 rfl ?_
  refine am_iastP (pc' := 289) (ws' := (cm_60 S0)) (f' := am_pre am_lawtextL 28) dX12_init_288 rfl (am_inC (by decide)) (am_pre_s am_lawtextL 27 (49 : Int32) rfl (by decide)) rfl rfl ?_
  refine am_dupa (pc' := 290) dX12_init_289 rfl ?_
  refine am_bipush (pc' := 292) (v := 28) dX12_init_290 kb_28 rfl ?_
  refine am_bipush (pc' := 294) (v := 32) dX12_init_292 kb_32 rfl ?_
  refine am_iastP (pc' := 295) (ws' := (cm_61 S0)) (f' := am_pre am_lawtextL 29) dX12_init_294 rfl (am_inC (by decide)) (am_pre_s am_lawtextL 28 (32 : Int32) rfl (by decide)) rfl rfl ?_
  refine am_dupa (pc' := 296) dX12_init_295 rfl ?_
  refine am_bipush (pc' := 298) (v := 29) dX12_init_296 kb_29 rfl ?_
  refine am_bipush (pc' := 300) (v := 59) dX12_init_298 kb_59 rfl ?_
  refine am_iastP (pc' := 301) (ws' := (cm_62 S0)) (f' := am_pre am_lawtextL 30) dX12_init_300 rfl (am_inC (by decide)) (am_pre_s am_lawtextL 29 (59 : Int32) rfl (by decide)) rfl rfl ?_
  refine am_dupa (pc' := 302) dX12_init_301 rfl ?_
  refine am_bipush (pc' := 304) (v := 30) dX12_init_302 kb_30 rfl ?_
  refine am_bipush (pc' := 306) (v := 32) dX12_init_304 kb_32 rfl ?_
  refine am_iastP (pc' := 307) (ws' := (cm_63 S0)) (f' := am_pre am_lawtextL 31) dX12_init_306 rfl (am_inC (by decide)) (am_pre_s am_lawtextL 30 (32 : Int32) rfl (by decide)) rfl rfl ?_
  refine am_dupa (pc' := 308) dX12_init_307 rfl ?_
  refine am_bipush (pc' := 310) (v := 31) dX12_init_308 kb_31 rfl ?_
  refine am_bipush (pc' := 312) (v := 111) dX12_init_310 kb_111 rfl ?_
  refine am_iastP (pc' := 313) (ws' := (cm_64 S0)) (f' := am_pre am_lawtextL 32) dX12_init_312 rfl (am_inC (by decide)) (am_pre_s am_lawtextL 31 (111 : Int32) rfl (by decide)) rfl rfl ?_
  refine am_dupa (pc' := 314) dX12_init_313 rfl ?_
  refine am_bipush (pc' := 316) (v := 32) dX12_init_314 kb_32 rfl ?_
  refine am_bipush (pc' := 318) (v := 102) dX12_init_316 kb_102 rfl ?_
  refine am_iastP (pc' := 319) (ws' := (cm_65 S0)) (f' := am_pre am_lawtextL 33) dX12_init_318 rfl (am_inC (by decide)) (am_pre_s am_lawtextL 32 (102 : Int32) rfl (by decide)) rfl rfl ?_
  refine am_dupa (pc' := 320) dX12_init_319 rfl ?_
  refine am_bipush (pc' := 322) (v := 33) dX12_init_320 kb_33 rfl ?_
  refine am_bipush (pc' := 324) (v := 102) dX12_init_322 kb_102 rfl ?_
  refine am_iastP (pc' := 325) (ws' := (cm_66 S0)) (f' := am_pre am_lawtextL 34) dX12_init_324 rfl (am_inC (by decide)) (am_pre_s am_lawtextL 33 (102 : Int32) rfl (by decide)) rfl rfl ?_
  refine am_dupa (pc' := 326) dX12_init_325 rfl ?_
  refine am_bipush (pc' := 328) (v := 34) dX12_init_326 kb_34 rfl ?_
  refine am_bipush (pc' := 330) (v := 101) dX12_init_328 kb_101 rfl ?_
  refine am_iastP (pc' := 331) (ws' := (cm_67 S0)) (f' := am_pre am_lawtextL 35) dX12_init_330 rfl (am_inC (by decide)) (am_pre_s am_lawtextL 34 (101 : Int32) rfl (by decide)) rfl rfl ?_
  refine am_dupa (pc' := 332) dX12_init_331 rfl ?_
  refine am_bipush (pc' := 334) (v := 35) dX12_init_332 kb_35 rfl ?_
  refine am_bipush (pc' := 336) (v := 114) dX12_init_334 kb_114 rfl ?_
  refine am_iastP (pc' := 337) (ws' := (cm_68 S0)) (f' := am_pre am_lawtextL 36) dX12_init_336 rfl (am_inC (by decide)) (am_pre_s am_lawtextL 35 (114 : Int32) rfl (by decide)) rfl rfl ?_
  refine am_dupa (pc' := 338) dX12_init_337 rfl ?_
  refine am_bipush (pc' := 340) (v := 36) dX12_init_338 kb_36 rfl ?_
  refine am_bipush (pc' := 342) (v := 115) dX12_init_340 kb_115 rfl ?_
  refine am_iastP (pc' := 343) (ws' := (cm_69 S0)) (f' := am_pre am_lawtextL 37) dX12_init_342 rfl (am_inC (by decide)) (am_pre_s am_lawtextL 36 (115 : Int32) rfl (by decide)) rfl rfl ?_
  refine am_dupa (pc' := 344) dX12_init_343 rfl ?_
  refine am_bipush (pc' := 346) (v := 37) dX12_init_344 kb_37 rfl ?_
  refine am_bipush (pc' := 348) (v := 32) dX12_init_346 kb_32 rfl ?_
  refine am_iastP (pc' := 349) (ws' := (cm_70 S0)) (f' := am_pre am_lawtextL 38) dX12_init_348 rfl (am_inC (by decide)) (am_pre_s am_lawtextL 37 (32 : Int32) rfl (by decide)) rfl rfl ?_
  refine am_dupa (pc' := 350) dX12_init_349 rfl ?_
  refine am_bipush (pc' := 352) (v := 38) dX12_init_350 kb_38 rfl ?_
  refine am_bipush (pc' := 354) (v := 114) dX12_init_352 kb_114 rfl ?_
  refine am_iastP (pc' := 355) (ws' := (cm_71 S0)) (f' := am_pre am_lawtextL 39) dX12_init_354 rfl (am_inC (by decide)) (am_pre_s am_lawtextL 38 (114 : Int32) rfl (by decide)) rfl rfl ?_
  refine am_dupa (pc' := 356) dX12_init_355 rfl ?_
  refine am_bipush (pc' := 358) (v := 39) dX12_init_356 kb_39 rfl ?_
  refine am_bipush (pc' := 360) (v := 105) dX12_init_358 kb_105 rfl ?_
  refine am_iastP (pc' := 361) (ws' := (cm_72 S0)) (f' := am_pre am_lawtextL 40) dX12_init_360 rfl (am_inC (by decide)) (am_pre_s am_lawtextL 39 (105 : Int32) rfl (by decide)) rfl rfl ?_
  refine am_dupa (pc' := 362) dX12_init_361 rfl ?_
  refine am_bipush (pc' := 364) (v := 40) dX12_init_362 kb_40 rfl ?_
  refine am_bipush (pc' := 366) (v := 99) dX12_init_364 kb_99 rfl ?_
  refine am_iastP (pc' := 367) (ws' := (cm_73 S0)) (f' := am_pre am_lawtextL 41) dX12_init_366 rfl (am_inC (by decide)) (am_pre_s am_lawtextL 40 (99 : Int32) rfl (by decide)) rfl rfl ?_
  refine am_dupa (pc' := 368) dX12_init_367 rfl ?_
  refine am_bipush (pc' := 370) (v := 41) dX12_init_368 kb_41 rfl ?_
  refine am_bipush (pc' := 372) (v := 104) dX12_init_370 kb_104 rfl ?_
  refine am_iastP (pc' := 373) (ws' := (cm_74 S0)) (f' := am_pre am_lawtextL 42) dX12_init_372 rfl (am_inC (by decide)) (am_pre_s am_lawtextL 41 (104 : Int32) rfl (by decide)) rfl rfl ?_
  refine am_dupa (pc' := 374) dX12_init_373 rfl ?_
  refine am_bipush (pc' := 376) (v := 42) dX12_init_374 kb_42 rfl ?_
  refine am_bipush (pc' := 378) (v := 32) dX12_init_376 kb_32 rfl ?_
  refine am_iastP (pc' := 379) (ws' := (cm_75 S0)) (f' := am_pre am_lawtextL 43) dX12_init_378 rfl (am_inC (by decide)) (am_pre_s am_lawtextL 42 (32 : Int32) rfl (by decide)) rfl rfl ?_
  refine am_dupa (pc' := 380) dX12_init_379 rfl ?_
  refine am_bipush (pc' := 382) (v := 43) dX12_init_380 kb_43 rfl ?_
  refine am_bipush (pc' := 384) (v := 59) dX12_init_382 kb_59 rfl ?_
  refine am_iastP (pc' := 385) (ws' := (cm_76 S0)) (f' := am_pre am_lawtextL 44) dX12_init_384 rfl (am_inC (by decide)) (am_pre_s am_lawtextL 43 (59 : Int32) rfl (by decide)) rfl rfl ?_
  refine am_cellP (w1 := (cm_77 S0)) 58 am_lawtext rfl (am_pre_full am_lawtextL 44 rfl) rfl ?_
  refine am_putF (pc' := 388) (ws' := (cm_78 S0)) (v := .ref 58) dX12_init_385 rfl fp_X12_50 rfl (fun _ => ⟨rfl, rfl⟩) (Nat.le_of_ble_eq_true rfl) rfl rfl ?_
  refine am_aload_n (pc' := 389) 0 dX12_init_388 rfl rfl rfl ?_
  refine am_bipush (pc' := 391) (v := 96) dX12_init_389 kb_96 rfl ?_
  refine am_newa (pc' := 393) (ws' := (cm_79 S0)) (q := 59) (n' := 96) dX12_init_391 rfl rfl (by decide) rfl rfl ⟨Nat.le_of_ble_eq_true rfl, Nat.le_of_ble_eq_true rfl⟩ rfl rfl ?_
  refine am_dupa (pc' := 394) dX12_init_393 rfl ?_
  refine am_iconst (pc' := 395) (v := 0) dX12_init_394 kc_0 rfl ?_
  refine am_bipush (pc' := 397) (v := 108) dX12_init_395 kb_108 rfl ?_
  refine am_cellP (w1 := (cm_80 S0)) 59 (am_pre am_wordsL 0) rfl (am_pre_0 am_wordsL) rfl ?_
  refine am_iastP (pc' := 398) (ws' := (cm_81 S0)) (f' := am_pre am_wordsL 1) dX12_init_397 rfl (am_inC (by decide)) (am_pre_s am_wordsL 0 (108 : Int32) rfl (by decide)) rfl rfl ?_
  refine am_dupa (pc' := 399) dX12_init_398 rfl ?_
  refine am_iconst (pc' := 400) (v := 1) dX12_init_399 kc_1 rfl ?_
  refine am_bipush (pc' := 402) (v := 105) dX12_init_400 kb_105 rfl ?_
  refine am_iastP (pc' := 403) (ws' := (cm_82 S0)) (f' := am_pre am_wordsL 2) dX12_init_402 rfl (am_inC (by decide)) (am_pre_s am_wordsL 1 (105 : Int32) rfl (by decide)) rfl rfl ?_
  refine am_dupa (pc' := 404) dX12_init_403 rfl ?_
  refine am_iconst (pc' := 405) (v := 2) dX12_init_404 kc_2 rfl ?_
  refine am_bipush (pc' := 407) (v := 107) dX12_init_405 kb_107 rfl ?_
  refine am_iastP (pc' := 408) (ws' := (cm_83 S0)) (f' := am_pre am_wordsL 3) dX12_init_407 rfl (am_inC (by decide)) (am_pre_s am_wordsL 2 (107 : Int32) rfl (by decide)) rfl rfl ?_
  refine am_dupa (pc' := 409) dX12_init_408 rfl ?_
  refine am_iconst (pc' := 410) (v := 3) dX12_init_409 kc_3 rfl ?_
  refine am_bipush (pc' := 412) (v := 101) dX12_init_410 kb_101 rfl ?_
  refine am_iastP (pc' := 413) (ws' := (cm_84 S0)) (f' := am_pre am_wordsL 4) dX12_init_412 rfl (am_inC (by decide)) (am_pre_s am_wordsL 3 (101 : Int32) rfl (by decide)) rfl rfl ?_
  refine am_dupa (pc' := 414) dX12_init_413 rfl ?_
  refine am_iconst (pc' := 415) (v := 4) dX12_init_414 kc_4 rfl ?_
  refine am_bipush (pc' := 417) (v := 115) dX12_init_415 kb_115 rfl ?_
  refine am_iastP (pc' := 418) (ws' := (cm_85 S0)) (f' := am_pre am_wordsL 5) dX12_init_417 rfl (am_inC (by decide)) (am_pre_s am_wordsL 4 (115 : Int32) rfl (by decide)) rfl rfl ?_
  refine am_dupa (pc' := 419) dX12_init_418 rfl ?_
  refine am_iconst (pc' := 420) (v := 5) dX12_init_419 kc_5 rfl ?_
  refine am_bipush (pc' := 422) (v := 32) dX12_init_420 kb_32 rfl ?_
  refine am_iastP (pc' := 423) (ws' := (cm_86 S0)) (f' := am_pre am_wordsL 6) dX12_init_422 rfl (am_inC (by decide)) (am_pre_s am_wordsL 5 (32 : Int32) rfl (by decide)) rfl rfl ?_
  refine am_dupa (pc' := 424) dX12_init_423 rfl ?_
  refine am_bipush (pc' := 426) (v := 6) dX12_init_424 kb_6 rfl ?_
  refine am_bipush (pc' := 428) (v := 32) dX12_init_426 kb_32 rfl ?_
  refine am_iastP (pc' := 429) (ws' := (cm_87 S0)) (f' := am_pre am_wordsL 7) dX12_init_428 rfl (am_inC (by decide)) (am_pre_s am_wordsL 6 (32 : Int32) rfl (by decide)) rfl rfl ?_
  refine am_dupa (pc' := 430) dX12_init_429 rfl ?_
  refine am_bipush (pc' := 432) (v := 7) dX12_init_430 kb_7 rfl ?_
  refine am_bipush (pc' := 434) (v := 32) dX12_init_432 kb_32 rfl ?_
  refine am_iastP (pc' := 435) (ws' := (cm_88 S0)) (f' := am_pre am_wordsL 8) dX12_init_434 rfl (am_inC (by decide)) (am_pre_s am_wordsL 7 (32 : Int32) rfl (by decide)) rfl rfl ?_
  refine am_dupa (pc' := 436) dX12_init_435 rfl ?_
  refine am_bipush (pc' := 438) (v := 8) dX12_init_436 kb_8 rfl ?_
  refine am_bipush (pc' := 440) (v := 107) dX12_init_438 kb_107 rfl ?_
  refine am_iastP (pc' := 441) (ws' := (cm_89 S0)) (f' := am_pre am_wordsL 9) dX12_init_440 rfl (am_inC (by decide)) (am_pre_s am_wordsL 8 (107 : Int32) rfl (by decide)) rfl rfl ?_
  refine am_dupa (pc' := 442) dX12_init_441 rfl ?_
  refine am_bipush (pc' := 444) (v := 9) dX12_init_442 kb_9 rfl ?_
  refine am_bipush (pc' := 446) (v := 101) dX12_init_444 kb_101 rfl ?_
  refine am_iastP (pc' := 447) (ws' := (cm_90 S0)) (f' := am_pre am_wordsL 10) dX12_init_446 rfl (am_inC (by decide)) (am_pre_s am_wordsL 9 (101 : Int32) rfl (by decide)) rfl rfl ?_
  refine am_dupa (pc' := 448) dX12_init_447 rfl ?_
  refine am_bipush (pc' := 450) (v := 10) dX12_init_448 kb_10 rfl ?_
  refine am_bipush (pc' := 452) (v := 101) dX12_init_450 kb_101 rfl ?_
  refine am_iastP (pc' := 453) (ws' := (cm_91 S0)) (f' := am_pre am_wordsL 11) dX12_init_452 rfl (am_inC (by decide)) (am_pre_s am_wordsL 10 (101 : Int32) rfl (by decide)) rfl rfl ?_
  refine am_dupa (pc' := 454) dX12_init_453 rfl ?_
  refine am_bipush (pc' := 456) (v := 11) dX12_init_454 kb_11 rfl ?_
  refine am_bipush (pc' := 458) (v := 112) dX12_init_456 kb_112 rfl ?_
  refine am_iastP (pc' := 459) (ws' := (cm_92 S0)) (f' := am_pre am_wordsL 12) dX12_init_458 rfl (am_inC (by decide)) (am_pre_s am_wordsL 11 (112 : Int32) rfl (by decide)) rfl rfl ?_
  refine am_dupa (pc' := 460) dX12_init_459 rfl ?_
  refine am_bipush (pc' := 462) (v := 12) dX12_init_460 kb_12 rfl ?_
  refine am_bipush (pc' := 464) (v := 115) dX12_init_462 kb_115 rfl ?_
  refine am_iastP (pc' := 465) (ws' := (cm_93 S0)) (f' := am_pre am_wordsL 13) dX12_init_464 rfl (am_inC (by decide)) (am_pre_s am_wordsL 12 (115 : Int32) rfl (by decide)) rfl rfl ?_
  refine am_dupa (pc' := 466) dX12_init_465 rfl ?_
  refine am_bipush (pc' := 468) (v := 13) dX12_init_466 kb_13 rfl ?_
  refine am_bipush (pc' := 470) (v := 32) dX12_init_468 kb_32 rfl ?_
  refine am_iastP (pc' := 471) (ws' := (cm_94 S0)) (f' := am_pre am_wordsL 14) dX12_init_470 rfl (am_inC (by decide)) (am_pre_s am_wordsL 13 (32 : Int32) rfl (by decide)) rfl rfl ?_
  refine am_dupa (pc' := 472) dX12_init_471 rfl ?_
  refine am_bipush (pc' := 474) (v := 14) dX12_init_472 kb_14 rfl ?_
  refine am_bipush (pc' := 476) (v := 32) dX12_init_474 kb_32 rfl ?_
  refine am_iastP (pc' := 477) (ws' := (cm_95 S0)) (f' := am_pre am_wordsL 15) dX12_init_476 rfl (am_inC (by decide)) (am_pre_s am_wordsL 14 (32 : Int32) rfl (by decide)) rfl rfl ?_
  refine am_dupa (pc' := 478) dX12_init_477 rfl ?_
  refine am_bipush (pc' := 480) (v := 15) dX12_init_478 kb_15 rfl ?_
  refine am_bipush (pc' := 482) (v := 32) dX12_init_480 kb_32 rfl ?_
  refine am_iastP (pc' := 483) (ws' := (cm_96 S0)) (f' := am_pre am_wordsL 16) dX12_init_482 rfl (am_inC (by decide)) (am_pre_s am_wordsL 15 (32 : Int32) rfl (by decide)) rfl rfl ?_
  refine am_dupa (pc' := 484) dX12_init_483 rfl ?_
  refine am_bipush (pc' := 486) (v := 16) dX12_init_484 kb_16 rfl ?_
  refine am_bipush (pc' := 488) (v := 111) dX12_init_486 kb_111 rfl ?_
  refine am_iastP (pc' := 489) (ws' := (cm_97 S0)) (f' := am_pre am_wordsL 17) dX12_init_488 rfl (am_inC (by decide)) (am_pre_s am_wordsL 16 (111 : Int32) rfl (by decide)) rfl rfl ?_
  refine am_dupa (pc' := 490) dX12_init_489 rfl ?_
  refine am_bipush (pc' := 492) (v := 17) dX12_init_490 kb_17 rfl ?_
  refine am_bipush (pc' := 494) (v := 102) dX12_init_492 kb_102 rfl ?_
  refine am_iastP (pc' := 495) (ws' := (cm_98 S0)) (f' := am_pre am_wordsL 18) dX12_init_494 rfl (am_inC (by decide)) (am_pre_s am_wordsL 17 (102 : Int32) rfl (by decide)) rfl rfl ?_
  refine am_dupa (pc' := 496) dX12_init_495 rfl ?_
  refine am_bipush (pc' := 498) (v := 18) dX12_init_496 kb_18 rfl ?_
  refine am_bipush (pc' := 500) (v := 102) dX12_init_498 kb_102 rfl ?_
  refine am_iastP (pc' := 501) (ws' := (cm_99 S0)) (f' := am_pre am_wordsL 19) dX12_init_500 rfl (am_inC (by decide)) (am_pre_s am_wordsL 18 (102 : Int32) rfl (by decide)) rfl rfl ?_
  refine am_dupa (pc' := 502) dX12_init_501 rfl ?_
  refine am_bipush (pc' := 504) (v := 19) dX12_init_502 kb_19 rfl ?_
  refine am_bipush (pc' := 506) (v := 101) dX12_init_504 kb_101 rfl ?_
  refine am_iastP (pc' := 507) (ws' := (cm_100 S0)) (f' := am_pre am_wordsL 20) dX12_init_506 rfl (am_inC (by decide)) (am_pre_s am_wordsL 19 (101 : Int32) rfl (by decide)) rfl rfl ?_
  refine am_dupa (pc' := 508) dX12_init_507 rfl ?_
  refine am_bipush (pc' := 510) (v := 20) dX12_init_508 kb_20 rfl ?_
  refine am_bipush (pc' := 512) (v := 114) dX12_init_510 kb_114 rfl ?_
  refine am_iastP (pc' := 513) (ws' := (cm_101 S0)) (f' := am_pre am_wordsL 21) dX12_init_512 rfl (am_inC (by decide)) (am_pre_s am_wordsL 20 (114 : Int32) rfl (by decide)) rfl rfl ?_
  refine am_dupa (pc' := 514) dX12_init_513 rfl ?_
  refine am_bipush (pc' := 516) (v := 21) dX12_init_514 kb_21 rfl ?_
  refine am_bipush (pc' := 518) (v := 115) dX12_init_516 kb_115 rfl ?_
  refine am_iastP (pc' := 519) (ws' := (cm_102 S0)) (f' := am_pre am_wordsL 22) dX12_init_518 rfl (am_inC (by decide)) (am_pre_s am_wordsL 21 (115 : Int32) rfl (by decide)) rfl rfl ?_
  refine am_dupa (pc' := 520) dX12_init_519 rfl ?_
  refine am_bipush (pc' := 522) (v := 22) dX12_init_520 kb_22 rfl ?_
  refine am_bipush (pc' := 524) (v := 32) dX12_init_522 kb_32 rfl ?_
  refine am_iastP (pc' := 525) (ws' := (cm_103 S0)) (f' := am_pre am_wordsL 23) dX12_init_524 rfl (am_inC (by decide)) (am_pre_s am_wordsL 22 (32 : Int32) rfl (by decide)) rfl rfl ?_
  refine am_dupa (pc' := 526) dX12_init_525 rfl ?_
  refine am_bipush (pc' := 528) (v := 23) dX12_init_526 kb_23 rfl ?_
  refine am_bipush (pc' := 530) (v := 32) dX12_init_528 kb_32 rfl ?_
  refine am_iastP (pc' := 531) (ws' := (cm_104 S0)) (f' := am_pre am_wordsL 24) dX12_init_530 rfl (am_inC (by decide)) (am_pre_s am_wordsL 23 (32 : Int32) rfl (by decide)) rfl rfl ?_
  refine am_dupa (pc' := 532) dX12_init_531 rfl ?_
  refine am_bipush (pc' := 534) (v := 24) dX12_init_532 kb_24 rfl ?_
  refine am_bipush (pc' := 536) (v := 108) dX12_init_534 kb_108 rfl ?_
  refine am_iastP (pc' := 537) (ws' := (cm_105 S0)) (f' := am_pre am_wordsL 25) dX12_init_536 rfl (am_inC (by decide)) (am_pre_s am_wordsL 24 (108 : Int32) rfl (by decide)) rfl rfl ?_
  refine am_dupa (pc' := 538) dX12_init_537 rfl ?_
  refine am_bipush (pc' := 540) (v := 25) dX12_init_538 kb_25 rfl ?_
  refine am_bipush (pc' := 542) (v := 105) dX12_init_540 kb_105 rfl ?_
  refine am_iastP (pc' := 543) (ws' := (cm_106 S0)) (f' := am_pre am_wordsL 26) dX12_init_542 rfl (am_inC (by decide)) (am_pre_s am_wordsL 25 (105 : Int32) rfl (by decide)) rfl rfl ?_
  refine am_dupa (pc' := 544) dX12_init_543 rfl ?_
  refine am_bipush (pc' := 546) (v := 26) dX12_init_544 kb_26 rfl ?_
  refine am_bipush (pc' := 548) (v := 103) dX12_init_546 kb_103 rfl ?_
  refine am_iastP (pc' := 549) (ws' := (cm_107 S0)) (f' := am_pre am_wordsL 27) dX12_init_548 rfl (am_inC (by decide)) (am_pre_s am_wordsL 26 (103 : Int32) rfl (by decide)) rfl rfl ?_
  refine am_dupa (pc' := 550) dX12_init_549 rfl ?_
  refine am_bipush (pc' := 552) (v := 27) dX12_init_550 kb_27 rfl ?_
  refine am_bipush (pc' := 554) (v := 104) dX12_init_552 kb_104 rfl ?_
  refine am_iastP (pc' := 555) (ws' := (cm_108 S0)) (f' := am_pre am_wordsL 28) dX12_init_554 rfl (am_inC (by decide)) (am_pre_s am_wordsL 27 (104 : Int32) rfl (by decide)) rfl rfl ?_
  refine am_dupa (pc' := 556) dX12_init_555 rfl ?_
  refine am_bipush (pc' := 558) (v := 28) dX12_init_556 kb_28 rfl ?_
  refine am_bipush (pc' := 560) (v := 116) dX12_init_558 kb_116 rfl ?_
  refine am_iastP (pc' := 561) (ws' := (cm_109 S0)) (f' := am_pre am_wordsL 29) dX12_init_560 rfl (am_inC (by decide)) (am_pre_s am_wordsL 28 (116 : Int32) rfl (by decide)) rfl rfl ?_
  refine am_dupa (pc' := 562) dX12_init_561 rfl ?_
  refine am_bipush (pc' := 564) (v := 29) dX12_init_562 kb_29 rfl ?_
  refine am_bipush (pc' := 566) (v := 32) dX12_init_564 kb_32 rfl ?_
  refine am_iastP (pc' := 567) (ws' := (cm_110 S0)) (f' := am_pre am_wordsL 30) dX12_init_566 rfl (am_inC (by decide)) (am_pre_s am_wordsL 29 (32 : Int32) rfl (by decide)) rfl rfl ?_
  refine am_dupa (pc' := 568) dX12_init_567 rfl ?_
  refine am_bipush (pc' := 570) (v := 30) dX12_init_568 kb_30 rfl ?_
  refine am_bipush (pc' := 572) (v := 32) dX12_init_570 kb_32 rfl ?_
  refine am_iastP (pc' := 573) (ws' := (cm_111 S0)) (f' := am_pre am_wordsL 31) dX12_init_572 rfl (am_inC (by decide)) (am_pre_s am_wordsL 30 (32 : Int32) rfl (by decide)) rfl rfl ?_
  refine am_dupa (pc' := 574) dX12_init_573 rfl ?_
  refine am_bipush (pc' := 576) (v := 31) dX12_init_574 kb_31 rfl ?_
  refine am_bipush (pc' := 578) (v := 32) dX12_init_576 kb_32 rfl ?_
  refine am_iastP (pc' := 579) (ws' := (cm_112 S0)) (f' := am_pre am_wordsL 32) dX12_init_578 rfl (am_inC (by decide)) (am_pre_s am_wordsL 31 (32 : Int32) rfl (by decide)) rfl rfl ?_
  refine am_dupa (pc' := 580) dX12_init_579 rfl ?_
  refine am_bipush (pc' := 582) (v := 32) dX12_init_580 kb_32 rfl ?_
  refine am_bipush (pc' := 584) (v := 100) dX12_init_582 kb_100 rfl ?_
  refine am_iastP (pc' := 585) (ws' := (cm_113 S0)) (f' := am_pre am_wordsL 33) dX12_init_584 rfl (am_inC (by decide)) (am_pre_s am_wordsL 32 (100 : Int32) rfl (by decide)) rfl rfl ?_
  refine am_dupa (pc' := 586) dX12_init_585 rfl ?_
  refine am_bipush (pc' := 588) (v := 33) dX12_init_586 kb_33 rfl ?_
  refine am_bipush (pc' := 590) (v := 97) dX12_init_588 kb_97 rfl ?_
  refine am_iastP (pc' := 591) (ws' := (cm_114 S0)) (f' := am_pre am_wordsL 34) dX12_init_590 rfl (am_inC (by decide)) (am_pre_s am_wordsL 33 (97 : Int32) rfl (by decide)) rfl rfl ?_
  refine am_dupa (pc' := 592) dX12_init_591 rfl ?_
  refine am_bipush (pc' := 594) (v := 34) dX12_init_592 kb_34 rfl ?_
  refine am_bipush (pc' := 596) (v := 109) dX12_init_594 kb_109 rfl ?_
  refine am_iastP (pc' := 597) (ws' := (cm_115 S0)) (f' := am_pre am_wordsL 35) dX12_init_596 rfl (am_inC (by decide)) (am_pre_s am_wordsL 34 (109 : Int32) rfl (by decide)) rfl rfl ?_
  refine am_dupa (pc' := 598) dX12_init_597 rfl ?_
  refine am_bipush (pc' := 600) (v := 35) dX12_init_598 kb_35 rfl ?_
  refine am_bipush (pc' := 602) (v := 112) dX12_init_600 kb_112 rfl ?_
  refine am_iastP (pc' := 603) (ws' := (cm_116 S0)) (f' := am_pre am_wordsL 36) dX12_init_602 rfl (am_inC (by decide)) (am_pre_s am_wordsL 35 (112 : Int32) rfl (by decide)) rfl rfl ?_
  refine am_dupa (pc' := 604) dX12_init_603 rfl ?_
  refine am_bipush (pc' := 606) (v := 36) dX12_init_604 kb_36 rfl ?_
  refine am_bipush (pc' := 608) (v := 32) dX12_init_606 kb_32 rfl ?_
  refine am_iastP (pc' := 609) (ws' := (cm_117 S0)) (f' := am_pre am_wordsL 37) dX12_init_608 rfl (am_inC (by decide)) (am_pre_s am_wordsL 36 (32 : Int32) rfl (by decide)) rfl rfl ?_
  refine am_dupa (pc' := 610) dX12_init_609 rfl ?_
  refine am_bipush (pc' := 612) (v := 37) dX12_init_610 kb_37 rfl ?_
  refine am_bipush (pc' := 614) (v := 32) dX12_init_612 kb_32 rfl ?_
  refine am_iastP (pc' := 615) (ws' := (cm_118 S0)) (f' := am_pre am_wordsL 38) dX12_init_614 rfl (am_inC (by decide)) (am_pre_s am_wordsL 37 (32 : Int32) rfl (by decide)) rfl rfl ?_
  refine am_dupa (pc' := 616) dX12_init_615 rfl ?_
  refine am_bipush (pc' := 618) (v := 38) dX12_init_616 kb_38 rfl ?_
  refine am_bipush (pc' := 620) (v := 32) dX12_init_618 kb_32 rfl ?_
  refine am_iastP (pc' := 621) (ws' := (cm_119 S0)) (f' := am_pre am_wordsL 39) dX12_init_620 rfl (am_inC (by decide)) (am_pre_s am_wordsL 38 (32 : Int32) rfl (by decide)) rfl rfl ?_
  refine am_dupa (pc' := 622) dX12_init_621 rfl ?_
  refine am_bipush (pc' := 624) (v := 39) dX12_init_622 kb_39 rfl ?_
  refine am_bipush (pc' := 626) (v := 32) dX12_init_624 kb_32 rfl ?_
  refine am_iastP (pc' := 627) (ws' := (cm_120 S0)) (f' := am_pre am_wordsL 40) dX12_init_626 rfl (am_inC (by decide)) (am_pre_s am_wordsL 39 (32 : Int32) rfl (by decide)) rfl rfl ?_
  refine am_dupa (pc' := 628) dX12_init_627 rfl ?_
  refine am_bipush (pc' := 630) (v := 40) dX12_init_628 kb_40 rfl ?_
  refine am_bipush (pc' := 632) (v := 114) dX12_init_630 kb_114 rfl ?_
  refine am_iastP (pc' := 633) (ws' := (cm_121 S0)) (f' := am_pre am_wordsL 41) dX12_init_632 rfl (am_inC (by decide)) (am_pre_s am_wordsL 40 (114 : Int32) rfl (by decide)) rfl rfl ?_
  refine am_dupa (pc' := 634) dX12_init_633 rfl ?_
  refine am_bipush (pc' := 636) (v := 41) dX12_init_634 kb_41 rfl ?_
  refine am_bipush (pc' := 638) (v := 111) dX12_init_636 kb_111 rfl ?_
  refine am_iastP (pc' := 639) (ws' := (cm_122 S0)) (f' := am_pre am_wordsL 42) dX12_init_638 rfl (am_inC (by decide)) (am_pre_s am_wordsL 41 (111 : Int32) rfl (by decide)) rfl rfl ?_
  refine am_dupa (pc' := 640) dX12_init_639 rfl ?_
  refine am_bipush (pc' := 642) (v := 42) dX12_init_640 kb_42 rfl ?_
  refine am_bipush (pc' := 644) (v := 111) dX12_init_642 kb_111 rfl ?_
  refine am_iastP (pc' := 645) (ws' := (cm_123 S0)) (f' := am_pre am_wordsL 43) dX12_init_644 rfl (am_inC (by decide)) (am_pre_s am_wordsL 42 (111 : Int32) rfl (by decide)) rfl rfl ?_
  refine am_dupa (pc' := 646) dX12_init_645 rfl ?_
  refine am_bipush (pc' := 648) (v := 43) dX12_init_646 kb_43 rfl ?_
  refine am_bipush (pc' := 650) (v := 109) dX12_init_648 kb_109 rfl ?_
  refine am_iastP (pc' := 651) (ws' := (cm_124 S0)) (f' := am_pre am_wordsL 44) dX12_init_650 rfl (am_inC (by decide)) (am_pre_s am_wordsL 43 (109 : Int32) rfl (by decide)) rfl rfl ?_
  refine am_dupa (pc' := 652) dX12_init_651 rfl ?_
  refine am_bipush (pc' := 654) (v := 44) dX12_init_652 kb_44 rfl ?_
  refine am_bipush (pc' := 656) (v := 32) dX12_init_654 kb_32 rfl ?_
  refine am_iastP (pc' := 657) (ws' := (cm_125 S0)) (f' := am_pre am_wordsL 45) dX12_init_656 rfl (am_inC (by decide)) (am_pre_s am_wordsL 44 (32 : Int32) rfl (by decide)) rfl rfl ?_
  refine am_dupa (pc' := 658) dX12_init_657 rfl ?_
  refine am_bipush (pc' := 660) (v := 45) dX12_init_658 kb_45 rfl ?_
  refine am_bipush (pc' := 662) (v := 32) dX12_init_660 kb_32 rfl ?_
  refine am_iastP (pc' := 663) (ws' := (cm_126 S0)) (f' := am_pre am_wordsL 46) dX12_init_662 rfl (am_inC (by decide)) (am_pre_s am_wordsL 45 (32 : Int32) rfl (by decide)) rfl rfl ?_
  refine am_dupa (pc' := 664) dX12_init_663 rfl ?_
  refine am_bipush (pc' := 666) (v := 46) dX12_init_664 kb_46 rfl ?_
  refine am_bipush (pc' := 668) (v := 32) dX12_init_666 kb_32 rfl ?_
  refine am_iastP (pc' := 669) (ws' := (cm_127 S0)) (f' := am_pre am_wordsL 47) dX12_init_668 rfl (am_inC (by decide)) (am_pre_s am_wordsL 46 (32 : Int32) rfl (by decide)) rfl rfl ?_
  refine am_dupa (pc' := 670) dX12_init_669 rfl ?_
  refine am_bipush (pc' := 672) (v := 47) dX12_init_670 kb_47 rfl ?_
  refine am_bipush (pc' := 674) (v := 32) dX12_init_672 kb_32 rfl ?_
  refine am_iastP (pc' := 675) (ws' := (cm_128 S0)) (f' := am_pre am_wordsL 48) dX12_init_674 rfl (am_inC (by decide)) (am_pre_s am_wordsL 47 (32 : Int32) rfl (by decide)) rfl rfl ?_
  refine am_dupa (pc' := 676) dX12_init_675 rfl ?_
  refine am_bipush (pc' := 678) (v := 48) dX12_init_676 kb_48 rfl ?_
  refine am_bipush (pc' := 680) (v := 104) dX12_init_678 kb_104 rfl ?_
  refine am_iastP (pc' := 681) (ws' := (cm_129 S0)) (f' := am_pre am_wordsL 49) dX12_init_680 rfl (am_inC (by decide)) (am_pre_s am_wordsL 48 (104 : Int32) rfl (by decide)) rfl rfl ?_
  refine am_dupa (pc' := 682) dX12_init_681 rfl ?_
  refine am_bipush (pc' := 684) (v := 49) dX12_init_682 kb_49 rfl ?_
  refine am_bipush (pc' := 686) (v := 111) dX12_init_684 kb_111 rfl ?_
  refine am_iastP (pc' := 687) (ws' := (cm_130 S0)) (f' := am_pre am_wordsL 50) dX12_init_686 rfl (am_inC (by decide)) (am_pre_s am_wordsL 49 (111 : Int32) rfl (by decide)) rfl rfl ?_
  refine am_dupa (pc' := 688) dX12_init_687 rfl ?_
  refine am_bipush (pc' := 690) (v := 50) dX12_init_688 kb_50 rfl ?_
  refine am_bipush (pc' := 692) (v := 117) dX12_init_690 kb_117 rfl ?_
  refine am_iastP (pc' := 693) (ws' := (cm_131 S0)) (f' := am_pre am_wordsL 51) dX12_init_692 rfl (am_inC (by decide)) (am_pre_s am_wordsL 50 (117 : Int32) rfl (by decide)) rfl rfl ?_
  refine am_dupa (pc' := 694) dX12_init_693 rfl ?_
  refine am_bipush (pc' := 696) (v := 51) dX12_init_694 kb_51 rfl ?_
  refine am_bipush (pc' := 698) (v := 114) dX12_init_696 kb_114 rfl ?_
  refine am_iastP (pc' := 699) (ws' := (cm_132 S0)) (f' := am_pre am_wordsL 52) dX12_init_698 rfl (am_inC (by decide)) (am_pre_s am_wordsL 51 (114 : Int32) rfl (by decide)) rfl rfl ?_
  refine am_dupa (pc' := 700) dX12_init_699 rfl ?_
  refine am_bipush (pc' := 702) (v := 52) dX12_init_700 kb_52 rfl ?_
  refine am_bipush (pc' := 704) (v := 32) dX12_init_702 kb_32 rfl ?_
  refine am_iastP (pc' := 705) (ws' := (cm_133 S0)) (f' := am_pre am_wordsL 53) dX12_init_704 rfl (am_inC (by decide)) (am_pre_s am_wordsL 52 (32 : Int32) rfl (by decide)) rfl rfl ?_
  refine am_dupa (pc' := 706) dX12_init_705 rfl ?_
  refine am_bipush (pc' := 708) (v := 53) dX12_init_706 kb_53 rfl ?_
  refine am_bipush (pc' := 710) (v := 32) dX12_init_708 kb_32 rfl ?_
  refine am_iastP (pc' := 711) (ws' := (cm_134 S0)) (f' := am_pre am_wordsL 54) dX12_init_710 rfl (am_inC (by decide)) (am_pre_s am_wordsL 53 (32 : Int32) rfl (by decide)) rfl rfl ?_
  refine am_dupa (pc' := 712) dX12_init_711 rfl ?_
  refine am_bipush (pc' := 714) (v := 54) dX12_init_712 kb_54 rfl ?_
  refine am_bipush (pc' := 716) (v := 32) dX12_init_714 kb_32 rfl ?_
  refine am_iastP (pc' := 717) (ws' := (cm_135 S0)) (f' := am_pre am_wordsL 55) dX12_init_716 rfl (am_inC (by decide)) (am_pre_s am_wordsL 54 (32 : Int32) rfl (by decide)) rfl rfl ?_
  refine am_dupa (pc' := 718) dX12_init_717 rfl ?_
  refine am_bipush (pc' := 720) (v := 55) dX12_init_718 kb_55 rfl ?_
  refine am_bipush (pc' := 722) (v := 32) dX12_init_720 kb_32 rfl ?_
  refine am_iastP (pc' := 723) (ws' := (cm_136 S0)) (f' := am_pre am_wordsL 56) dX12_init_722 rfl (am_inC (by decide)) (am_pre_s am_wordsL 55 (32 : Int32) rfl (by decide)) rfl rfl ?_
  refine am_dupa (pc' := 724) dX12_init_723 rfl ?_
  refine am_bipush (pc' := 726) (v := 56) dX12_init_724 kb_56 rfl ?_
  refine am_bipush (pc' := 728) (v := 99) dX12_init_726 kb_99 rfl ?_
  refine am_iastP (pc' := 729) (ws' := (cm_137 S0)) (f' := am_pre am_wordsL 57) dX12_init_728 rfl (am_inC (by decide)) (am_pre_s am_wordsL 56 (99 : Int32) rfl (by decide)) rfl rfl ?_
  refine am_dupa (pc' := 730) dX12_init_729 rfl ?_
  refine am_bipush (pc' := 732) (v := 57) dX12_init_730 kb_57 rfl ?_
  refine am_bipush (pc' := 734) (v := 114) dX12_init_732 kb_114 rfl ?_
  refine am_iastP (pc' := 735) (ws' := (cm_138 S0)) (f' := am_pre am_wordsL 58) dX12_init_734 rfl (am_inC (by decide)) (am_pre_s am_wordsL 57 (114 : Int32) rfl (by decide)) rfl rfl ?_
  refine am_dupa (pc' := 736) dX12_init_735 rfl ?_
  refine am_bipush (pc' := 738) (v := 58) dX12_init_736 kb_58 rfl ?_
  refine am_bipush (pc' := 740) (v := 111) dX12_init_738 kb_111 rfl ?_
  refine am_iastP (pc' := 741) (ws' := (cm_139 S0)) (f' := am_pre am_wordsL 59) dX12_init_740 rfl (am_inC (by decide)) (am_pre_s am_wordsL 58 (111 : Int32) rfl (by decide)) rfl rfl ?_
  refine am_dupa (pc' := 742) dX12_init_741 rfl ?_
  refine am_bipush (pc' := 744) (v := 59) dX12_init_742 kb_59 rfl ?_
  refine am_bipush (pc' := 746) (v := 119) dX12_init_744 kb_119 rfl ?_
  refine am_iastP (pc' := 747) (ws' := (cm_140 S0)) (f' := am_pre am_wordsL 60) dX12_init_746 rfl (am_inC (by decide)) (am_pre_s am_wordsL 59 (119 : Int32) rfl (by decide)) rfl rfl ?_
  refine am_dupa (pc' := 748) dX12_init_747 rfl ?_
  refine am_bipush (pc' := 750) (v := 60) dX12_init_748 kb_60 rfl ?_
  refine am_bipush (pc' := 752) (v := 100) dX12_init_750 kb_100 rfl ?_
  refine am_iastP (pc' := 753) (ws' := (cm_141 S0)) (f' := am_pre am_wordsL 61) dX12_init_752 rfl (am_inC (by decide)) (am_pre_s am_wordsL 60 (100 : Int32) rfl (by decide)) rfl rfl ?_
  refine am_dupa (pc' := 754) dX12_init_753 rfl ?_
  refine am_bipush (pc' := 756) (v := 61) dX12_init_754 kb_61 rfl ?_
  refine am_bipush (pc' := 758) (v := 32) dX12_init_756 kb_32 rfl ?_
  refine am_iastP (pc' := 759) (ws' := (cm_142 S0)) (f' := am_pre am_wordsL 62) dX12_init_758 rfl (am_inC (by decide)) (am_pre_s am_wordsL 61 (32 : Int32) rfl (by decide)) rfl rfl ?_
  refine am_dupa (pc' := 760) dX12_init_759 rfl ?_
  refine am_bipush (pc' := 762) (v := 62) dX12_init_760 kb_62 rfl ?_
  refine am_bipush (pc' := 764) (v := 32) dX12_init_762 kb_32 rfl ?_
  refine am_iastP (pc' := 765) (ws' := (cm_143 S0)) (f' := am_pre am_wordsL 63) dX12_init_764 rfl (am_inC (by decide)) (am_pre_s am_wordsL 62 (32 : Int32) rfl (by decide)) rfl rfl ?_
  refine am_dupa (pc' := 766) dX12_init_765 rfl ?_
  refine am_bipush (pc' := 768) (v := 63) dX12_init_766 kb_63 rfl ?_
  refine am_bipush (pc' := 770) (v := 32) dX12_init_768 kb_32 rfl ?_
  refine am_iastP (pc' := 771) (ws' := (cm_144 S0)) (f' := am_pre am_wordsL 64) dX12_init_770 rfl (am_inC (by decide)) (am_pre_s am_wordsL 63 (32 : Int32) rfl (by decide)) rfl rfl ?_
  refine am_dupa (pc' := 772) dX12_init_771 rfl ?_
  refine am_bipush (pc' := 774) (v := 64) dX12_init_772 kb_64 rfl ?_
  refine am_bipush (pc' := 776) (v := 114) dX12_init_774 kb_114 rfl ?_
  refine am_iastP (pc' := 777) (ws' := (cm_145 S0)) (f' := am_pre am_wordsL 65) dX12_init_776 rfl (am_inC (by decide)) (am_pre_s am_wordsL 64 (114 : Int32) rfl (by decide)) rfl rfl ?_
  refine am_dupa (pc' := 778) dX12_init_777 rfl ?_
  refine am_bipush (pc' := 780) (v := 65) dX12_init_778 kb_65 rfl ?_
  refine am_bipush (pc' := 782) (v := 105) dX12_init_780 kb_105 rfl ?_
  refine am_iastP (pc' := 783) (ws' := (cm_146 S0)) (f' := am_pre am_wordsL 66) dX12_init_782 rfl (am_inC (by decide)) (am_pre_s am_wordsL 65 (105 : Int32) rfl (by decide)) rfl rfl ?_
  refine am_dupa (pc' := 784) dX12_init_783 rfl ?_
  refine am_bipush (pc' := 786) (v := 66) dX12_init_784 kb_66 rfl ?_
  refine am_bipush (pc' := 788) (v := 99) dX12_init_786 kb_99 rfl ?_
  refine am_iastP (pc' := 789) (ws' := (cm_147 S0)) (f' := am_pre am_wordsL 67) dX12_init_788 rfl (am_inC (by decide)) (am_pre_s am_wordsL 66 (99 : Int32) rfl (by decide)) rfl rfl ?_
  refine am_dupa (pc' := 790) dX12_init_789 rfl ?_
  refine am_bipush (pc' := 792) (v := 67) dX12_init_790 kb_67 rfl ?_
  refine am_bipush (pc' := 794) (v := 104) dX12_init_792 kb_104 rfl ?_
  refine am_iastP (pc' := 795) (ws' := (cm_148 S0)) (f' := am_pre am_wordsL 68) dX12_init_794 rfl (am_inC (by decide)) (am_pre_s am_wordsL 67 (104 : Int32) rfl (by decide)) rfl rfl ?_
  refine am_dupa (pc' := 796) dX12_init_795 rfl ?_
  refine am_bipush (pc' := 798) (v := 68) dX12_init_796 kb_68 rfl ?_
  refine am_bipush (pc' := 800) (v := 32) dX12_init_798 kb_32 rfl ?_
  refine am_iastP (pc' := 801) (ws' := (cm_149 S0)) (f' := am_pre am_wordsL 69) dX12_init_800 rfl (am_inC (by decide)) (am_pre_s am_wordsL 68 (32 : Int32) rfl (by decide)) rfl rfl ?_
  refine am_dupa (pc' := 802) dX12_init_801 rfl ?_
  refine am_bipush (pc' := 804) (v := 69) dX12_init_802 kb_69 rfl ?_
  refine am_bipush (pc' := 806) (v := 32) dX12_init_804 kb_32 rfl ?_
  refine am_iastP (pc' := 807) (ws' := (cm_150 S0)) (f' := am_pre am_wordsL 70) dX12_init_806 rfl (am_inC (by decide)) (am_pre_s am_wordsL 69 (32 : Int32) rfl (by decide)) rfl rfl ?_
  refine am_dupa (pc' := 808) dX12_init_807 rfl ?_
  refine am_bipush (pc' := 810) (v := 70) dX12_init_808 kb_70 rfl ?_
  refine am_bipush (pc' := 812) (v := 32) dX12_init_810 kb_32 rfl ?_
  refine am_iastP (pc' := 813) (ws' := (cm_151 S0)) (f' := am_pre am_wordsL 71) dX12_init_812 rfl (am_inC (by decide)) (am_pre_s am_wordsL 70 (32 : Int32) rfl (by decide)) rfl rfl ?_
  refine am_dupa (pc' := 814) dX12_init_813 rfl ?_
  refine am_bipush (pc' := 816) (v := 71) dX12_init_814 kb_71 rfl ?_
  refine am_bipush (pc' := 818) (v := 32) dX12_init_816 kb_32 rfl ?_
  refine am_iastP (pc' := 819) (ws' := (cm_152 S0)) (f' := am_pre am_wordsL 72) dX12_init_818 rfl (am_inC (by decide)) (am_pre_s am_wordsL 71 (32 : Int32) rfl (by decide)) rfl rfl ?_
  refine am_dupa (pc' := 820) dX12_init_819 rfl ?_
  refine am_bipush (pc' := 822) (v := 72) dX12_init_820 kb_72 rfl ?_
  refine am_bipush (pc' := 824) (v := 111) dX12_init_822 kb_111 rfl ?_
  refine am_iastP (pc' := 825) (ws' := (cm_153 S0)) (f' := am_pre am_wordsL 73) dX12_init_824 rfl (am_inC (by decide)) (am_pre_s am_wordsL 72 (111 : Int32) rfl (by decide)) rfl rfl ?_
  refine am_dupa (pc' := 826) dX12_init_825 rfl ?_
  refine am_bipush (pc' := 828) (v := 73) dX12_init_826 kb_73 rfl ?_
  refine am_bipush (pc' := 830) (v := 114) dX12_init_828 kb_114 rfl ?_
  refine am_iastP (pc' := 831) (ws' := (cm_154 S0)) (f' := am_pre am_wordsL 74) dX12_init_830 rfl (am_inC (by decide)) (am_pre_s am_wordsL 73 (114 : Int32) rfl (by decide)) rfl rfl ?_
  refine am_dupa (pc' := 832) dX12_init_831 rfl ?_
  refine am_bipush (pc' := 834) (v := 74) dX12_init_832 kb_74 rfl ?_
  refine am_bipush (pc' := 836) (v := 32) dX12_init_834 kb_32 rfl ?_
  refine am_iastP (pc' := 837) (ws' := (cm_155 S0)) (f' := am_pre am_wordsL 75) dX12_init_836 rfl (am_inC (by decide)) (am_pre_s am_wordsL 74 (32 : Int32) rfl (by decide)) rfl rfl ?_
  refine am_dupa (pc' := 838) dX12_init_837 rfl ?_
  refine am_bipush (pc' := 840) (v := 75) dX12_init_838 kb_75 rfl ?_
  refine am_bipush (pc' := 842) (v := 32) dX12_init_840 kb_32 rfl ?_
  refine am_iastP (pc' := 843) (ws' := (cm_156 S0)) (f' := am_pre am_wordsL 76) dX12_init_842 rfl (am_inC (by decide)) (am_pre_s am_wordsL 75 (32 : Int32) rfl (by decide)) rfl rfl ?_
  refine am_dupa (pc' := 844) dX12_init_843 rfl ?_
  refine am_bipush (pc' := 846) (v := 76) dX12_init_844 kb_76 rfl ?_
  refine am_bipush (pc' := 848) (v := 32) dX12_init_846 kb_32 rfl ?_
  refine am_iastP (pc' := 849) (ws' := (cm_157 S0)) (f' := am_pre am_wordsL 77) dX12_init_848 rfl (am_inC (by decide)) (am_pre_s am_wordsL 76 (32 : Int32) rfl (by decide)) rfl rfl ?_
  refine am_dupa (pc' := 850) dX12_init_849 rfl ?_
  refine am_bipush (pc' := 852) (v := 77) dX12_init_850 kb_77 rfl ?_
  refine am_bipush (pc' := 854) (v := 32) dX12_init_852 kb_32 rfl ?_
  refine am_iastP (pc' := 855) (ws' := (cm_158 S0)) (f' := am_pre am_wordsL 78) dX12_init_854 rfl (am_inC (by decide)) (am_pre_s am_wordsL 77 (32 : Int32) rfl (by decide)) rfl rfl ?_
  refine am_dupa (pc' := 856) dX12_init_855 rfl ?_
  refine am_bipush (pc' := 858) (v := 78) dX12_init_856 kb_78 rfl ?_
  refine am_bipush (pc' := 860) (v := 32) dX12_init_858 kb_32 rfl ?_
  refine am_iastP (pc' := 861) (ws' := (cm_159 S0)) (f' := am_pre am_wordsL 79) dX12_init_860 rfl (am_inC (by decide)) (am_pre_s am_wordsL 78 (32 : Int32) rfl (by decide)) rfl rfl ?_
  refine am_dupa (pc' := 862) dX12_init_861 rfl ?_
  refine am_bipush (pc' := 864) (v := 79) dX12_init_862 kb_79 rfl ?_
  refine am_bipush (pc' := 866) (v := 32) dX12_init_864 kb_32 rfl ?_
  refine am_iastP (pc' := 867) (ws' := (cm_160 S0)) (f' := am_pre am_wordsL 80) dX12_init_866 rfl (am_inC (by decide)) (am_pre_s am_wordsL 79 (32 : Int32) rfl (by decide)) rfl rfl ?_
  refine am_dupa (pc' := 868) dX12_init_867 rfl ?_
  refine am_bipush (pc' := 870) (v := 80) dX12_init_868 kb_80 rfl ?_
  refine am_bipush (pc' := 872) (v := 97) dX12_init_870 kb_97 rfl ?_
  refine am_iastP (pc' := 873) (ws' := (cm_161 S0)) (f' := am_pre am_wordsL 81) dX12_init_872 rfl (am_inC (by decide)) (am_pre_s am_wordsL 80 (97 : Int32) rfl (by decide)) rfl rfl ?_
  refine am_dupa (pc' := 874) dX12_init_873 rfl ?_
  refine am_bipush (pc' := 876) (v := 81) dX12_init_874 kb_81 rfl ?_
  refine am_bipush (pc' := 878) (v := 110) dX12_init_876 kb_110 rfl ?_
  refine am_iastP (pc' := 879) (ws' := (cm_162 S0)) (f' := am_pre am_wordsL 82) dX12_init_878 rfl (am_inC (by decide)) (am_pre_s am_wordsL 81 (110 : Int32) rfl (by decide)) rfl rfl ?_
  refine am_dupa (pc' := 880) dX12_init_879 rfl ?_
  refine am_bipush (pc' := 882) (v := 82) dX12_init_880 kb_82 rfl ?_
  refine am_bipush (pc' := 884) (v := 100) dX12_init_882 kb_100 rfl ?_
  refine am_iastP (pc' := 885) (ws' := (cm_163 S0)) (f' := am_pre am_wordsL 83) dX12_init_884 rfl (am_inC (by decide)) (am_pre_s am_wordsL 82 (100 : Int32) rfl (by decide)) rfl rfl ?_
  refine am_dupa (pc' := 886) dX12_init_885 rfl ?_
  refine am_bipush (pc' := 888) (v := 83) dX12_init_886 kb_83 rfl ?_
  refine am_bipush (pc' := 890) (v := 32) dX12_init_888 kb_32 rfl ?_
  refine am_iastP (pc' := 891) (ws' := (cm_164 S0)) (f' := am_pre am_wordsL 84) dX12_init_890 rfl (am_inC (by decide)) (am_pre_s am_wordsL 83 (32 : Int32) rfl (by decide)) rfl rfl ?_
  refine am_dupa (pc' := 892) dX12_init_891 rfl ?_
  refine am_bipush (pc' := 894) (v := 84) dX12_init_892 kb_84 rfl ?_
  refine am_bipush (pc' := 896) (v := 32) dX12_init_894 kb_32 rfl ?_
  refine am_iastP (pc' := 897) (ws' := (cm_165 S0)) (f' := am_pre am_wordsL 85) dX12_init_896 rfl (am_inC (by decide)) (am_pre_s am_wordsL 84 (32 : Int32) rfl (by decide)) rfl rfl ?_
  refine am_dupa (pc' := 898) dX12_init_897 rfl ?_
  refine am_bipush (pc' := 900) (v := 85) dX12_init_898 kb_85 rfl ?_
  refine am_bipush (pc' := 902) (v := 32) dX12_init_900 kb_32 rfl ?_
  refine am_iastP (pc' := 903) (ws' := (cm_166 S0)) (f' := am_pre am_wordsL 86) dX12_init_902 rfl (am_inC (by decide)) (am_pre_s am_wordsL 85 (32 : Int32) rfl (by decide)) rfl rfl ?_
  refine am_dupa (pc' := 904) dX12_init_903 rfl ?_
  refine am_bipush (pc' := 906) (v := 86) dX12_init_904 kb_86 rfl ?_
  refine am_bipush (pc' := 908) (v := 32) dX12_init_906 kb_32 rfl ?_
  refine am_iastP (pc' := 909) (ws' := (cm_167 S0)) (f' := am_pre am_wordsL 87) dX12_init_908 rfl (am_inC (by decide)) (am_pre_s am_wordsL 86 (32 : Int32) rfl (by decide)) rfl rfl ?_
  refine am_dupa (pc' := 910) dX12_init_909 rfl ?_
  refine am_bipush (pc' := 912) (v := 87) dX12_init_910 kb_87 rfl ?_
  refine am_bipush (pc' := 914) (v := 32) dX12_init_912 kb_32 rfl ?_
  refine am_iastP (pc' := 915) (ws' := (cm_168 S0)) (f' := am_pre am_wordsL 88) dX12_init_914 rfl (am_inC (by decide)) (am_pre_s am_wordsL 87 (32 : Int32) rfl (by decide)) rfl rfl ?_
  refine am_dupa (pc' := 916) dX12_init_915 rfl ?_
  refine am_bipush (pc' := 918) (v := 88) dX12_init_916 kb_88 rfl ?_
  refine am_bipush (pc' := 920) (v := 110) dX12_init_918 kb_110 rfl ?_
  refine am_iastP (pc' := 921) (ws' := (cm_169 S0)) (f' := am_pre am_wordsL 89) dX12_init_920 rfl (am_inC (by decide)) (am_pre_s am_wordsL 88 (110 : Int32) rfl (by decide)) rfl rfl ?_
  refine am_dupa (pc' := 922) dX12_init_921 rfl ?_
  refine am_bipush (pc' := 924) (v := 89) dX12_init_922 kb_89 rfl ?_
  refine am_bipush (pc' := 926) (v := 111) dX12_init_924 kb_111 rfl ?_
  refine am_iastP (pc' := 927) (ws' := (cm_170 S0)) (f' := am_pre am_wordsL 90) dX12_init_926 rfl (am_inC (by decide)) (am_pre_s am_wordsL 89 (111 : Int32) rfl (by decide)) rfl rfl ?_
  refine am_dupa (pc' := 928) dX12_init_927 rfl ?_
  refine am_bipush (pc' := 930) (v := 90) dX12_init_928 kb_90 rfl ?_
  refine am_bipush (pc' := 932) (v := 116) dX12_init_930 kb_116 rfl ?_
  refine am_iastP (pc' := 933) (ws' := (cm_171 S0)) (f' := am_pre am_wordsL 91) dX12_init_932 rfl (am_inC (by decide)) (am_pre_s am_wordsL 90 (116 : Int32) rfl (by decide)) rfl rfl ?_
  refine am_dupa (pc' := 934) dX12_init_933 rfl ?_
  refine am_bipush (pc' := 936) (v := 91) dX12_init_934 kb_91 rfl ?_
  refine am_bipush (pc' := 938) (v := 32) dX12_init_936 kb_32 rfl ?_
  refine am_iastP (pc' := 939) (ws' := (cm_172 S0)) (f' := am_pre am_wordsL 92) dX12_init_938 rfl (am_inC (by decide)) (am_pre_s am_wordsL 91 (32 : Int32) rfl (by decide)) rfl rfl ?_
  refine am_dupa (pc' := 940) dX12_init_939 rfl ?_
  refine am_bipush (pc' := 942) (v := 92) dX12_init_940 kb_92 rfl ?_
  refine am_bipush (pc' := 944) (v := 32) dX12_init_942 kb_32 rfl ?_
  refine am_iastP (pc' := 945) (ws' := (cm_173 S0)) (f' := am_pre am_wordsL 93) dX12_init_944 rfl (am_inC (by decide)) (am_pre_s am_wordsL 92 (32 : Int32) rfl (by decide)) rfl rfl ?_
  refine am_dupa (pc' := 946) dX12_init_945 rfl ?_
  refine am_bipush (pc' := 948) (v := 93) dX12_init_946 kb_93 rfl ?_
  refine am_bipush (pc' := 950) (v := 32) dX12_init_948 kb_32 rfl ?_
  refine am_iastP (pc' := 951) (ws' := (cm_174 S0)) (f' := am_pre am_wordsL 94) dX12_init_950 rfl (am_inC (by decide)) (am_pre_s am_wordsL 93 (32 : Int32) rfl (by decide)) rfl rfl ?_
  refine am_dupa (pc' := 952) dX12_init_951 rfl ?_
  refine am_bipush (pc' := 954) (v := 94) dX12_init_952 kb_94 rfl ?_
  refine am_bipush (pc' := 956) (v := 32) dX12_init_954 kb_32 rfl ?_
  refine am_iastP (pc' := 957) (ws' := (cm_175 S0)) (f' := am_pre am_wordsL 95) dX12_init_956 rfl (am_inC (by decide)) (am_pre_s am_wordsL 94 (32 : Int32) rfl (by decide)) rfl rfl ?_
  refine am_dupa (pc' := 958) dX12_init_957 rfl ?_
  refine am_bipush (pc' := 960) (v := 95) dX12_init_958 kb_95 rfl ?_
  refine am_bipush (pc' := 962) (v := 32) dX12_init_960 kb_32 rfl ?_
  refine am_iastP (pc' := 963) (ws' := (cm_176 S0)) (f' := am_pre am_wordsL 96) dX12_init_962 rfl (am_inC (by decide)) (am_pre_s am_wordsL 95 (32 : Int32) rfl (by decide)) rfl rfl ?_
  refine am_cellP (w1 := (cm_177 S0)) 59 am_words rfl (am_pre_full am_wordsL 96 rfl) rfl ?_
  refine am_putF (pc' := 966) (ws' := (cm_178 S0)) (v := .ref 59) dX12_init_963 rfl fp_X12_53 rfl (fun _ => ⟨rfl, rfl⟩) (Nat.le_of_ble_eq_true rfl) rfl rfl ?_
  refine am_aload_n (pc' := 967) 0 dX12_init_966 rfl rfl rfl ?_
  refine am_sipush (pc' := 970) (v := 200) dX12_init_967 ks_200 rfl ?_
  refine am_newa (pc' := 972) (ws' := (cm_179 S0)) (q := 60) (n' := 200) dX12_init_970 rfl rfl (by decide) rfl rfl ⟨Nat.le_of_ble_eq_true rfl, Nat.le_of_ble_eq_true rfl⟩ rfl rfl ?_
  refine am_putF (pc' := 975) (ws' := (cm_180 S0)) (v := .ref 60) dX12_init_972 rfl fp_X12_56 rfl (fun _ => ⟨rfl, rfl⟩) (Nat.le_of_ble_eq_true rfl) rfl rfl ?_
  refine am_aload_n (pc' := 976) 0 dX12_init_975 rfl rfl rfl ?_
  refine am_sipush (pc' := 979) (v := 200) dX12_init_976 ks_200 rfl ?_
  refine am_newa (pc' := 981) (ws' := (cm_181 S0)) (q := 61) (n' := 200) dX12_init_979 rfl rfl (by decide) rfl rfl ⟨Nat.le_of_ble_eq_true rfl, Nat.le_of_ble_eq_true rfl⟩ rfl rfl ?_
  refine am_putF (pc' := 984) (ws' := (cm_182 S0)) (v := .ref 61) dX12_init_981 rfl fp_X12_59 rfl (fun _ => ⟨rfl, rfl⟩) (Nat.le_of_ble_eq_true rfl) rfl rfl ?_
  refine am_aload_n (pc' := 985) 0 dX12_init_984 rfl rfl rfl ?_
  refine am_bipush (pc' := 987) (v := 6) dX12_init_985 kb_6 rfl ?_
  refine am_newa (pc' := 989) (ws' := (cm_183 S0)) (q := 62) (n' := 6) dX12_init_987 rfl rfl (by decide) rfl rfl ⟨Nat.le_of_ble_eq_true rfl, Nat.le_of_ble_eq_true rfl⟩ rfl rfl ?_
  refine am_putF (pc' := 992) (ws' := (cm_184 S0)) (v := .ref 62) dX12_init_989 rfl fp_X12_62 rfl (fun _ => ⟨rfl, rfl⟩) (Nat.le_of_ble_eq_true rfl) rfl rfl ?_
  refine am_aload_n (pc' := 993) 0 dX12_init_992 rfl rfl rfl ?_
  refine am_bipush (pc' := 995) (v := 6) dX12_init_993 kb_6 rfl ?_
  refine am_newa (pc' := 997) (ws' := (cm_185 S0)) (q := 63) (n' := 6) dX12_init_995 rfl rfl (by decide) rfl rfl ⟨Nat.le_of_ble_eq_true rfl, Nat.le_of_ble_eq_true rfl⟩ rfl rfl ?_
  refine am_putF (pc' := 1000) (ws' := (cm_186 S0)) (v := .ref 63) dX12_init_997 rfl fp_X12_65 rfl (fun _ => ⟨rfl, rfl⟩) (Nat.le_of_ble_eq_true rfl) rfl rfl ?_
  refine am_aload_n (pc' := 1001) 0 dX12_init_1000 rfl rfl rfl ?_
  refine am_bipush (pc' := 1003) (v := 36) dX12_init_1001 kb_36 rfl ?_
  refine am_newa (pc' := 1005) (ws' := (cm_187 S0)) (q := 64) (n' := 36) dX12_init_1003 rfl rfl (by decide) rfl rfl ⟨Nat.le_of_ble_eq_true rfl, Nat.le_of_ble_eq_true rfl⟩ rfl rfl ?_
  refine am_putF (pc' := 1008) (ws' := (cm_188 S0)) (v := .ref 64) dX12_init_1005 rfl fp_X12_68 rfl (fun _ => ⟨rfl, rfl⟩) (Nat.le_of_ble_eq_true rfl) rfl rfl ?_
  refine am_aload_n (pc' := 1009) 0 dX12_init_1008 rfl rfl rfl ?_
  refine am_bipush (pc' := 1011) (v := 72) dX12_init_1009 kb_72 rfl ?_
  refine am_newa (pc' := 1013) (ws' := (cm_189 S0)) (q := 65) (n' := 72) dX12_init_1011 rfl rfl (by decide) rfl rfl ⟨Nat.le_of_ble_eq_true rfl, Nat.le_of_ble_eq_true rfl⟩ rfl rfl ?_
  refine am_putF (pc' := 1016) (ws' := (cm_190 S0)) (v := .ref 65) dX12_init_1013 rfl fp_X12_71 rfl (fun _ => ⟨rfl, rfl⟩) (Nat.le_of_ble_eq_true rfl) rfl rfl ?_
  refine am_aload_n (pc' := 1017) 0 dX12_init_1016 rfl rfl rfl ?_
  refine am_bipush (pc' := 1019) (v := 8) dX12_init_1017 kb_8 rfl ?_
  refine am_newa (pc' := 1021) (ws' := (cm_191 S0)) (q := 66) (n' := 8) dX12_init_1019 rfl rfl (by decide) rfl rfl ⟨Nat.le_of_ble_eq_true rfl, Nat.le_of_ble_eq_true rfl⟩ rfl rfl ?_
  refine am_putF (pc' := 1024) (ws' := (cm_192 S0)) (v := .ref 66) dX12_init_1021 rfl fp_X12_74 rfl (fun _ => ⟨rfl, rfl⟩) (Nat.le_of_ble_eq_true rfl) rfl rfl ?_
  refine am_aload_n (pc' := 1025) 0 dX12_init_1024 rfl rfl rfl ?_
  refine am_bipush (pc' := 1027) (v := 6) dX12_init_1025 kb_6 rfl ?_
  refine am_newa (pc' := 1029) (ws' := (cm_193 S0)) (q := 67) (n' := 6) dX12_init_1027 rfl rfl (by decide) rfl rfl ⟨Nat.le_of_ble_eq_true rfl, Nat.le_of_ble_eq_true rfl⟩ rfl rfl ?_
  refine am_putF (pc' := 1032) (ws' := (cm_194 S0)) (v := .ref 67) dX12_init_1029 rfl fp_X12_77 rfl (fun _ => ⟨rfl, rfl⟩) (Nat.le_of_ble_eq_true rfl) rfl rfl ?_
  exact tx_X12_init_end S0 SM0 res hres
