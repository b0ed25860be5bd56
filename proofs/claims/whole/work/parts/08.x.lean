def fx_X11_within (a1 : Int32) (a2 : Int32) : Int32 := (if a1 < 0 then (0 : Int32) else (if a2 ≤ a1 then (0 : Int32) else (1 : Int32)))
set_option maxRecDepth 100000 in
set_option maxHeartbeats 4000000 in
theorem tx_X11_within (ws : am_W) (a1 : Int32) (a2 : Int32) (res : Int32) (hres : fx_X11_within a1 a2 = res) : am_T mX11_within 0 0 0 [.int a1, .int a2] ws (some (.int res)) ws := by
  refine am_meth (ls := [some (.int a1), some (.int a2)]) (by decide +kernel) rfl (Nat.le_of_ble_eq_true rfl) ⟨rfl, Or.inl rfl⟩ ?_
  rw [fx_X11_within] at hres
  refine am_iload_n (pc' := 1) 0 dX11_within_0 rfl rfl rfl ?_
  refine am_if_lt (pc' := 4) 13 dX11_within_1 rfl rfl (fun hc1 => ?_) (fun hc1 => ?_)
  · rw [if_pos hc1] at hres
    refine am_iconst (pc' := 14) (v := 0) dX11_within_13 kc_0 rfl ?_
    subst hres
    exact am_zret dX11_within_14 rfl rfl rfl rfl
  · rw [if_neg hc1] at hres
    refine am_iload_n (pc' := 5) 0 dX11_within_4 rfl rfl rfl ?_
    refine am_iload_n (pc' := 6) 1 dX11_within_5 rfl rfl rfl ?_
    refine am_icmp_ge (pc' := 9) 13 dX11_within_6 rfl rfl (fun hc2 => ?_) (fun hc2 => ?_)
    · rw [if_pos hc2] at hres
      refine am_iconst (pc' := 14) (v := 0) dX11_within_13 kc_0 rfl ?_
      subst hres
      exact am_zret dX11_within_14 rfl rfl rfl rfl
    · rw [if_neg hc2] at hres
      refine am_iconst (pc' := 10) (v := 1) dX11_within_9 kc_1 rfl ?_
      refine am_goto 14 dX11_within_10 rfl ?_
      subst hres
      exact am_zret dX11_within_14 rfl rfl rfl rfl
theorem bz_X11_within (a1 : Int32) (a2 : Int32) : narrow .boolean (.int (fx_X11_within a1 a2)) = .int (fx_X11_within a1 a2) := by
  rw [fx_X11_within]
  first | rfl | (repeat' split) <;> first | rfl
def fx_X11_isByte (a1 : Int32) : Int32 := (fx_X11_within a1 (256 : Int32))
set_option maxRecDepth 100000 in
set_option maxHeartbeats 4000000 in
theorem tx_X11_isByte (ws : am_W) (a1 : Int32) (res : Int32) (hres : fx_X11_isByte a1 = res) : am_T mX11_isByte 1 0 0 [.int a1] ws (some (.int res)) ws := by
  refine am_meth (ls := [some (.int a1)]) (by decide +kernel) rfl (Nat.le_of_ble_eq_true rfl) ⟨rfl, Or.inl rfl⟩ ?_
  rw [fx_X11_isByte] at hres
  refine am_iload_n (pc' := 1) 0 dX11_isByte_0 rfl rfl rfl ?_
  refine am_sipush (pc' := 4) (v := 256) dX11_isByte_1 ks_256 rfl ?_
  refine am_cS (pc' := 7) (st' := [.int (fx_X11_within a1 (256 : Int32))]) [] [.int a1, .int (256 : Int32)] dX11_isByte_4 cs_X11_129 (tx_X11_within ws a1 (256 : Int32) _ rfl) rfl rfl rfl rfl rfl rfl ?_
  subst hres
  exact am_zret dX11_isByte_7 rfl (bz_X11_within a1 (256 : Int32)) rfl rfl
theorem bz_X11_isByte (a1 : Int32) : narrow .boolean (.int (fx_X11_isByte a1)) = .int (fx_X11_isByte a1) := by
  rw [fx_X11_isByte]
  first | rfl | exact bz_X11_within _ _ | exact bz_X11_within _ _ | (repeat' split) <;> first | rfl | exact bz_X11_within _ _ | exact bz_X11_within _ _
def fx_X11_bound (a1 : Int32) (a2 : Int32) (a3 : Int32) : Int32 := (if a2 ≤ a1 then (if a1 ≤ a3 then (a1) else (a3)) else (a2))
set_option maxRecDepth 100000 in
set_option maxHeartbeats 4000000 in
theorem tx_X11_bound (ws : am_W) (a1 : Int32) (a2 : Int32) (a3 : Int32) (res : Int32) (hres : fx_X11_bound a1 a2 a3 = res) : am_T mX11_bound 0 0 0 [.int a1, .int a2, .int a3] ws (some (.int res)) ws := by
  refine am_meth (ls := [some (.int a1), some (.int a2), some (.int a3)]) (by decide +kernel) rfl (Nat.le_of_ble_eq_true rfl) ⟨rfl, Or.inl rfl⟩ ?_
  rw [fx_X11_bound] at hres
  refine am_iload_n (pc' := 1) 0 dX11_bound_0 rfl rfl rfl ?_
  refine am_iload_n (pc' := 2) 1 dX11_bound_1 rfl rfl rfl ?_
  refine am_icmp_ge (pc' := 5) 9 dX11_bound_2 rfl rfl (fun hc1 => ?_) (fun hc1 => ?_)
  · rw [if_pos hc1] at hres
    refine am_iload_n (pc' := 10) 0 dX11_bound_9 rfl rfl rfl ?_
    refine am_iload_n (pc' := 11) 2 dX11_bound_10 rfl rfl rfl ?_
    refine am_icmp_le (pc' := 14) 18 dX11_bound_11 rfl rfl (fun hc2 => ?_) (fun hc2 => ?_)
    · rw [if_pos hc2] at hres
      refine am_iload_n (pc' := 19) 0 dX11_bound_18 rfl rfl rfl ?_
      subst hres
      exact am_iret dX11_bound_19 rfl rfl rfl
    · rw [if_neg hc2] at hres
      refine am_iload_n (pc' := 15) 2 dX11_bound_14 rfl rfl rfl ?_
      refine am_goto 19 dX11_bound_15 rfl ?_
      subst hres
      exact am_iret dX11_bound_19 rfl rfl rfl
  · rw [if_neg hc1] at hres
    refine am_iload_n (pc' := 6) 1 dX11_bound_5 rfl rfl rfl ?_
    refine am_goto 19 dX11_bound_6 rfl ?_
    subst hres
    exact am_iret dX11_bound_19 rfl rfl rfl
def fx_X11_room (a1 : Int32) (a2 : Int32) (a3 : Int32) (S : sx_T) : Int32 × sx_T := (if (fx_X11_within a1 (6 : Int32)) = 0 then ((-5 : Int32), S) else (if (fx_X11_within a2 (2 : Int32)) = 0 then ((-7 : Int32), S) else (if (fx_X11_within a3 (100 : Int32)) = 0 then ((-7 : Int32), S) else (if a2 = 0 then ((am_rd 6 (sx_now_light S) a1), (ux_now_light S (am_up 6 (sx_now_light S) a1 a3))) else ((am_rd 6 (sx_now_damp S) a1), (ux_now_damp S (am_up 6 (sx_now_damp S) a1 a3)))))))
set_option maxRecDepth 100000 in
set_option maxHeartbeats 4000000 in
theorem tx_X11_room (r : am_W) (a1 : Int32) (a2 : Int32) (a3 : Int32) (S : sx_T) (res : Int32 × sx_T) (hres : fx_X11_room a1 a2 a3 S = res) : am_T mX11_room 1 0 0 [.ref 0, .int a1, .int a2, .int a3] (sx_w S r) (some (.int res.1)) (sx_w res.2 r) := by
  refine am_meth (ls := [some (.ref 0), some (.int a1), some (.int a2), some (.int a3), none, none]) (by decide +kernel) rfl (Nat.le_of_ble_eq_true rfl) (sx_len _ _ _) ?_
  rw [fx_X11_room] at hres
  refine am_iload_n (pc' := 1) 1 dX11_room_0 rfl rfl rfl ?_
  refine am_bipush (pc' := 3) (v := 6) dX11_room_1 kb_6 rfl ?_
  refine am_cS (pc' := 6) (st' := [.int (fx_X11_within a1 (6 : Int32))]) [] [.int a1, .int (6 : Int32)] dX11_room_3 cs_X11_129 (tx_X11_within (sx_w S r) a1 (6 : Int32) _ rfl) rfl rfl rfl rfl rfl rfl ?_
  refine am_if_ne (pc' := 9) 12 dX11_room_6 rfl rfl (fun hc1 => ?_) (fun hc1 => ?_)
  · rw [if_neg hc1] at hres
    refine am_iload_n (pc' := 13) 2 dX11_room_12 rfl rfl rfl ?_
    refine am_iconst (pc' := 14) (v := 2) dX11_room_13 kc_2 rfl ?_
    refine am_cS (pc' := 17) (st' := [.int (fx_X11_within a2 (2 : Int32))]) [] [.int a2, .int (2 : Int32)] dX11_room_14 cs_X11_129 (tx_X11_within (sx_w S r) a2 (2 : Int32) _ rfl) rfl rfl rfl rfl rfl rfl ?_
    refine am_if_eq (pc' := 20) 29 dX11_room_17 rfl rfl (fun hc2 => ?_) (fun hc2 => ?_)
    · rw [if_pos hc2] at hres
      refine am_bipush (pc' := 31) (v := (-7)) dX11_room_29 kb_m7 rfl ?_
      subst hres
      exact am_iret dX11_room_31 rfl rfl rfl
    · rw [if_neg hc2] at hres
      refine am_iload_n (pc' := 21) 3 dX11_room_20 rfl rfl rfl ?_
      refine am_bipush (pc' := 23) (v := 100) dX11_room_21 kb_100 rfl ?_
      refine am_cS (pc' := 26) (st' := [.int (fx_X11_within a3 (100 : Int32))]) [] [.int a3, .int (100 : Int32)] dX11_room_23 cs_X11_129 (tx_X11_within (sx_w S r) a3 (100 : Int32) _ rfl) rfl rfl rfl rfl rfl rfl ?_
      refine am_if_ne (pc' := 29) 32 dX11_room_26 rfl rfl (fun hc3 => ?_) (fun hc3 => ?_)
      · rw [if_neg hc3] at hres
        refine am_iload_n (pc' := 33) 2 dX11_room_32 rfl rfl rfl ?_
        refine am_if_ne (pc' := 36) 46 dX11_room_33 rfl rfl (fun hc4 => ?_) (fun hc4 => ?_)
        · rw [if_neg hc4] at hres
          refine am_aload_n (pc' := 47) 0 dX11_room_46 rfl rfl rfl ?_
          refine am_get (pc' := 50) (v := .ref 1) dX11_room_47 fl_X11_10 (sx_c0 _ _) rfl rfl ?_
          refine am_get (pc' := 53) (v := .ref 3) dX11_room_50 fl_X11_136 (sx_c1 _ _) rfl rfl ?_
          refine am_astore (pc' := 55) (ls' := [some (.ref 0), some (.int a1), some (.int a2), some (.int a3), some (.ref 3), none]) dX11_room_53 (Nat.le_of_ble_eq_true rfl) rfl rfl rfl ?_
          refine am_aload (pc' := 57) dX11_room_55 rfl rfl ?_
          refine am_iload_n (pc' := 58) 1 dX11_room_57 rfl rfl rfl ?_
          refine am_cS (pc' := 61) (st' := [.int (am_rd 6 (sx_now_damp S) a1)]) [] [.ref 3, .int a1] dX11_room_58 cs_X11_139 (tx_at (f := (sx_now_damp S)) (sx_c3 _ _) rfl a1) rfl rfl rfl rfl rfl rfl ?_
          refine am_istore (pc' := 63) (ls' := [some (.ref 0), some (.int a1), some (.int a2), some (.int a3), some (.ref 3), some (.int (am_rd 6 (sx_now_damp S) a1))]) dX11_room_61 (Nat.le_of_ble_eq_true rfl) rfl rfl rfl ?_
          refine am_aload (pc' := 65) dX11_room_63 rfl rfl ?_
          refine am_iload_n (pc' := 66) 1 dX11_room_65 rfl rfl rfl ?_
          refine am_iload_n (pc' := 67) 3 dX11_room_66 rfl rfl rfl ?_
          refine am_cS (pc' := 70) (st' := []) [] [.ref 3, .int a1, .int a3] dX11_room_67 cs_X11_143 (tx_set (f := (sx_now_damp S)) (w1 := (sx_w (ux_now_damp S (am_up 6 (sx_now_damp S) a1 a3)) r)) (sx_c3 _ _) rfl a1 a3 (sx_p_now_damp _ _ _)) rfl rfl rfl rfl rfl rfl ?_
          refine am_iload (pc' := 72) dX11_room_70 rfl rfl ?_
          subst hres
          exact am_iret dX11_room_72 rfl rfl rfl
        · rw [if_pos hc4] at hres
          refine am_aload_n (pc' := 37) 0 dX11_room_36 rfl rfl rfl ?_
          refine am_get (pc' := 40) (v := .ref 1) dX11_room_37 fl_X11_10 (sx_c0 _ _) rfl rfl ?_
          refine am_get (pc' := 43) (v := .ref 2) dX11_room_40 fl_X11_133 (sx_c1 _ _) rfl rfl ?_
          refine am_goto 53 dX11_room_43 rfl ?_
          refine am_astore (pc' := 55) (ls' := [some (.ref 0), some (.int a1), some (.int a2), some (.int a3), some (.ref 2), none]) dX11_room_53 (Nat.le_of_ble_eq_true rfl) rfl rfl rfl ?_
          refine am_aload (pc' := 57) dX11_room_55 rfl rfl ?_
          refine am_iload_n (pc' := 58) 1 dX11_room_57 rfl rfl rfl ?_
          refine am_cS (pc' := 61) (st' := [.int (am_rd 6 (sx_now_light S) a1)]) [] [.ref 2, .int a1] dX11_room_58 cs_X11_139 (tx_at (f := (sx_now_light S)) (sx_c2 _ _) rfl a1) rfl rfl rfl rfl rfl rfl ?_
          refine am_istore (pc' := 63) (ls' := [some (.ref 0), some (.int a1), some (.int a2), some (.int a3), some (.ref 2), some (.int (am_rd 6 (sx_now_light S) a1))]) dX11_room_61 (Nat.le_of_ble_eq_true rfl) rfl rfl rfl ?_
          refine am_aload (pc' := 65) dX11_room_63 rfl rfl ?_
          refine am_iload_n (pc' := 66) 1 dX11_room_65 rfl rfl rfl ?_
          refine am_iload_n (pc' := 67) 3 dX11_room_66 rfl rfl rfl ?_
          refine am_cS (pc' := 70) (st' := []) [] [.ref 2, .int a1, .int a3] dX11_room_67 cs_X11_143 (tx_set (f := (sx_now_light S)) (w1 := (sx_w (ux_now_light S (am_up 6 (sx_now_light S) a1 a3)) r)) (sx_c2 _ _) rfl a1 a3 (sx_p_now_light _ _ _)) rfl rfl rfl rfl rfl rfl ?_
          refine am_iload (pc' := 72) dX11_room_70 rfl rfl ?_
          subst hres
          exact am_iret dX11_room_72 rfl rfl rfl
      · rw [if_pos hc3] at hres
        refine am_bipush (pc' := 31) (v := (-7)) dX11_room_29 kb_m7 rfl ?_
        subst hres
        exact am_iret dX11_room_31 rfl rfl rfl
  · rw [if_pos hc1] at hres
    refine am_bipush (pc' := 11) (v := (-5)) dX11_room_9 kb_m5 rfl ?_
    subst hres
    exact am_iret dX11_room_11 rfl rfl rfl
def fx_X11_hours (a1 : Int32) (S : sx_T) : Int32 × sx_T := (if (fx_X11_within a1 (12 : Int32)) = 0 then ((-2 : Int32), S) else ((sx_now_hour S), (ux_now_hour S a1)))
set_option maxRecDepth 100000 in
set_option maxHeartbeats 4000000 in
theorem tx_X11_hours (r : am_W) (a1 : Int32) (S : sx_T) (res : Int32 × sx_T) (hres : fx_X11_hours a1 S = res) : am_T mX11_hours 1 0 0 [.ref 0, .int a1] (sx_w S r) (some (.int res.1)) (sx_w res.2 r) := by
  refine am_meth (ls := [some (.ref 0), some (.int a1), none]) (by decide +kernel) rfl (Nat.le_of_ble_eq_true rfl) (sx_len _ _ _) ?_
  rw [fx_X11_hours] at hres
  refine am_iload_n (pc' := 1) 1 dX11_hours_0 rfl rfl rfl ?_
  refine am_bipush (pc' := 3) (v := 12) dX11_hours_1 kb_12 rfl ?_
  refine am_cS (pc' := 6) (st' := [.int (fx_X11_within a1 (12 : Int32))]) [] [.int a1, .int (12 : Int32)] dX11_hours_3 cs_X11_129 (tx_X11_within (sx_w S r) a1 (12 : Int32) _ rfl) rfl rfl rfl rfl rfl rfl ?_
  refine am_if_ne (pc' := 9) 12 dX11_hours_6 rfl rfl (fun hc1 => ?_) (fun hc1 => ?_)
  · rw [if_neg hc1] at hres
    refine am_aload_n (pc' := 13) 0 dX11_hours_12 rfl rfl rfl ?_
    refine am_get (pc' := 16) (v := .ref 1) dX11_hours_13 fl_X11_10 (sx_c0 _ _) rfl rfl ?_
    refine am_get (pc' := 19) (v := .int (sx_now_hour S)) dX11_hours_16 fl_X11_123 (sx_c1 _ _) rfl rfl ?_
    refine am_istore_n (pc' := 20) (ls' := [some (.ref 0), some (.int a1), some (.int (sx_now_hour S))]) 2 dX11_hours_19 rfl (Nat.le_of_ble_eq_true rfl) rfl rfl rfl ?_
    refine am_aload_n (pc' := 21) 0 dX11_hours_20 rfl rfl rfl ?_
    refine am_get (pc' := 24) (v := .ref 1) dX11_hours_21 fl_X11_10 (sx_c0 _ _) rfl rfl ?_
    refine am_iload_n (pc' := 25) 1 dX11_hours_24 rfl rfl rfl ?_
    refine am_put (pc' := 28) (ws' := (sx_w (ux_now_hour S a1) r)) (v := .int a1) dX11_hours_25 fp_X11_123 (sx_c1 _ _) (fun _ => ⟨rfl, rfl⟩) (Nat.le_of_ble_eq_true rfl) (sx_p_now_hour _ _ _) rfl ?_
    refine am_iload_n (pc' := 29) 2 dX11_hours_28 rfl rfl rfl ?_
    subst hres
    exact am_iret dX11_hours_29 rfl rfl rfl
  · rw [if_pos hc1] at hres
    refine am_bipush (pc' := 11) (v := (-2)) dX11_hours_9 kb_m2 rfl ?_
    subst hres
    exact am_iret dX11_hours_11 rfl rfl rfl
def fx_X11_isViewer (a1 : Int32) (S : sx_T) : Int32 := (fx_X11_within a1 (sx_now_viewers S))
set_option maxRecDepth 100000 in
set_option maxHeartbeats 4000000 in
theorem tx_X11_isViewer (r : am_W) (a1 : Int32) (S : sx_T) (res : Int32) (hres : fx_X11_isViewer a1 S = res) : am_T mX11_isViewer 1 0 0 [.ref 0, .int a1] (sx_w S r) (some (.int res)) (sx_w S r) := by
  refine am_meth (ls := [some (.ref 0), some (.int a1)]) (by decide +kernel) rfl (Nat.le_of_ble_eq_true rfl) (sx_len _ _ _) ?_
  rw [fx_X11_isViewer] at hres
  refine am_iload_n (pc' := 1) 1 dX11_isViewer_0 rfl rfl rfl ?_
  refine am_aload_n (pc' := 2) 0 dX11_isViewer_1 rfl rfl rfl ?_
  refine am_get (pc' := 5) (v := .ref 1) dX11_isViewer_2 fl_X11_10 (sx_c0 _ _) rfl rfl ?_
  refine am_get (pc' := 8) (v := .int (sx_now_viewers S)) dX11_isViewer_5 fl_X11_120 (sx_c1 _ _) rfl rfl ?_
  refine am_cS (pc' := 11) (st' := [.int (fx_X11_within a1 (sx_now_viewers S))]) [] [.int a1, .int (sx_now_viewers S)] dX11_isViewer_8 cs_X11_129 (tx_X11_within (sx_w S r) a1 (sx_now_viewers S) _ rfl) rfl rfl rfl rfl rfl rfl ?_
  subst hres
  exact am_zret dX11_isViewer_11 rfl (bz_X11_within a1 (sx_now_viewers S)) rfl rfl
theorem bz_X11_isViewer (a1 : Int32) (S : sx_T) : narrow .boolean (.int (fx_X11_isViewer a1 S)) = .int (fx_X11_isViewer a1 S) := by
  rw [fx_X11_isViewer]
  first | rfl | exact bz_X11_within _ _ | exact bz_X11_within _ _ | (repeat' split) <;> first | rfl | exact bz_X11_within _ _ | exact bz_X11_within _ _
