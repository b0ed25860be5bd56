/-! ===== the reader: the reference's tokens, its loop against the yard ===== -/
def pd_tk (x : Int32) : Int32 := if 0 ≤ x then 1 else if fx_X8_isName x ≠ 0 then 2 else if x = -3 ∨ x = -4 ∨ x = -5 then 3 else if x = -6 then 4 else if x = -7 then 5 else if x = -8 then 6 else if x = -1 then 0 else if x = -2 then -1 else -x
def pd_ls : List Int32 := [-1, -2, -3, -4, -5, -6, -7, -8, -10, -11, -12, -13, -14, -15, -40, -41, -42, -43, -45, -59, -60, -61]
def pd_al (x : Int32) : Prop := (∃ j, j < 10000 ∧ x = nI j) ∨ x ∈ pd_ls
def pd_T (M : sm_T) (x : Int32) : Prop := pd_al x ∧ sm_token M = pd_tk x ∧ (0 ≤ x → sm_value M = x) ∧ (fx_X8_isName x ≠ 0 → sm_value M = -10 - x) ∧ (x = -3 ∨ x = -4 ∨ x = -5 → sm_value M = -3 - x)
theorem pd_n0 {j : Nat} (h : j < 10000) : (0 : Int32) ≤ nI j := (nI_leI (a := 0) (by decide) (by omega)).mpr (Nat.zero_le _)
theorem pd_nn {x y : Int32} (h : 0 ≤ x) (hy : ¬ 0 ≤ y) : x ≠ y := fun q => hy (q ▸ h)
theorem pd_k0 {x : Int32} (h : 0 ≤ x) : pd_tk x = 1 := if_pos h
theorem pd_tl : ∀ x ∈ pd_ls, (pd_tk x = 1 ↔ 0 ≤ x) ∧ (pd_tk x = 2 ↔ fx_X8_isName x ≠ 0) ∧ (pd_tk x = 6 ↔ x = -8) ∧ (pd_tk x = 45 ↔ x = -45) ∧ (pd_tk x = 40 ↔ x = -40) ∧ (pd_tk x = 59 ↔ x = -59) ∧ (pd_tk x = 41 ↔ x = -41) ∧ (pd_tk x = 3 ↔ (x = -3 ∨ x = -4 ∨ x = -5)) ∧ (pd_tk x = 0 ↔ x = -1) := by decide
theorem pd_tt {x : Int32} (h : pd_al x) : (pd_tk x = 1 ↔ 0 ≤ x) ∧ (pd_tk x = 2 ↔ fx_X8_isName x ≠ 0) ∧ (pd_tk x = 6 ↔ x = -8) ∧ (pd_tk x = 45 ↔ x = -45) ∧ (pd_tk x = 40 ↔ x = -40) ∧ (pd_tk x = 59 ↔ x = -59) ∧ (pd_tk x = 41 ↔ x = -41) ∧ (pd_tk x = 3 ↔ (x = -3 ∨ x = -4 ∨ x = -5)) ∧ (pd_tk x = 0 ↔ x = -1) := by
  rcases h with ⟨j, hj, rfl⟩ | h
  · have h0 := pd_n0 hj
    have hk := pd_k0 h0
    have nm : fx_X8_isName (nI j) = 0 := by
      unfold fx_X8_isName
      rw [if_pos]
      rw [Int32.lt_iff_toInt_lt, nI_toInt (by omega)]
      have : (-10 : Int32).toInt = -10 := by decide
      omega
    have f : ∀ (a y : Int32), a ≠ 1 → ¬ 0 ≤ y → (pd_tk (nI j) = a ↔ nI j = y) := fun a y ha hy => ⟨fun q => absurd (hk.symm.trans q) (fun w => ha w.symm), fun q => absurd q (pd_nn h0 hy)⟩
    refine ⟨⟨fun _ => h0, fun _ => hk⟩, ⟨fun q => absurd (hk.symm.trans q) (by decide), fun q => absurd nm q⟩, f _ _ (by decide) (by decide), f _ _ (by decide) (by decide), f _ _ (by decide) (by decide), f _ _ (by decide) (by decide), f _ _ (by decide) (by decide), ⟨fun q => absurd (hk.symm.trans q) (by decide), fun q => ?_⟩, f _ _ (by decide) (by decide)⟩
    rcases q with q | q | q
    · exact absurd q (pd_nn h0 (by decide))
    · exact absurd q (pd_nn h0 (by decide))
    · exact absurd q (pd_nn h0 (by decide))
  · exact pd_tl x h
def pd_sf (v : Int32) : Int32 := if v = 4 then 11 else if v = 5 then 12 else if v = 60 then 14 else if v = 61 then 15 else if v = 43 then 16 else if v = 45 then 17 else if v = 42 then 18 else -1
theorem pd_sl : ∀ x ∈ pd_ls, pd_sf (pd_tk x) = (if py_sg x = 0 then -1 else nI (py_sg x)) := by decide
theorem pd_sg {M : sm_T} {x : Int32} (h : pd_T M x) : fx_X12_signOf M = (if py_sg x = 0 then -1 else nI (py_sg x)) := by
  obtain ⟨h1, h2, -⟩ := h
  have e : fx_X12_signOf M = pd_sf (sm_token M) := rfl
  rw [e, h2]
  rcases h1 with ⟨j, hj, rfl⟩ | h1
  · have h0 := pd_n0 hj
    rw [pd_k0 h0, if_pos]
    · rfl
    · unfold py_sg
      rw [if_neg (pd_nn h0 (by decide)), if_neg (pd_nn h0 (by decide)), if_neg (pd_nn h0 (by decide)), if_neg (pd_nn h0 (by decide)), if_neg (pd_nn h0 (by decide)), if_neg (pd_nn h0 (by decide)), if_neg (pd_nn h0 (by decide))]
  · exact pd_sl x h1
theorem pd_sr {x : Int32} (h : py_sg x ≠ 0) : 11 ≤ py_sg x ∧ py_sg x ≤ 19 ∧ py_sg x ≠ 13 ∧ py_sg x ≠ 19 ∧ 1 ≤ py_r (py_sg x) ∧ py_r (py_sg x) < 8 := by
  rcases py_sgo x with q | ⟨-, q⟩ | ⟨-, q⟩ | ⟨-, q⟩ | ⟨-, q⟩ | ⟨-, q⟩ | ⟨-, q⟩ | ⟨-, q⟩
  · exact absurd q h
  all_goals (rw [q]; decide)
/-- a sign between two -/
theorem pd_btw {t s : Nat} {H : List Nat} {o : List Int32} {M : sm_T} (h : pd_C t H o M) (hl : H.length + o.length < 199) (hs : 11 ≤ s ∧ s ≤ 19 ∧ s ≠ 13 ∧ s ≠ 19 ∧ 1 ≤ py_r s ∧ py_r s < 8) : (py_r s = 4 → py_tp (py_u 5 H o).1 = 4 → ∃ M', fx_X12_between (nI s) M = some (0, M') ∧ pd_F t M M') ∧ (py_r s = 4 → py_tp (py_u 5 H o).1 ≠ 4 → ∃ M', fx_X12_between (nI s) M = some (1, M') ∧ pd_C t (s :: (py_u 5 H o).1) (py_u 5 H o).2 M' ∧ pd_F t M M') ∧ (py_r s ≠ 4 → ∃ M', fx_X12_between (nI s) M = some (1, M') ∧ pd_C t (s :: (py_u (py_r s) H o).1) (py_u (py_r s) H o).2 M' ∧ pd_F t M M') := by
  have rk := pd_rk s (by omega) (by omega)
  have fu : H.length < am_fu := by
    have : am_fu = 1000000 := rfl
    omega
  refine ⟨fun r4 tp => ?_, fun r4 tp => ?_, fun r4 => ?_⟩
  · obtain ⟨M1, u1, u2, u3⟩ := pd_uw (t := t) (r := 5) (by decide) H am_fu o M (by omega) fu h
    refine ⟨M1, ?_, u3⟩
    unfold fx_X12_between
    rw [rk, r4, if_pos (show nI 4 = (4 : Int32) from rfl)]
    unfold fx_X12_between_17 fx_X12_unwinds
    rw [show (5 : Int32) = nI 5 from rfl, u1, pz_bd, rk, r4, if_pos (show nI 4 = (4 : Int32) from rfl)]
    have ul := pd_ul (r := 5) H o
    cases hH : (py_u 5 H o).1 with
    | nil => rw [hH] at tp; exact absurd tp (by decide)
    | cons x X =>
      rw [hH] at u2 tp ul
      have ul' : X.length + 1 + _ = _ := ul
      obtain ⟨⟨a1, a2, a3⟩, -⟩ := u2
      have a1' : sm_heldMany M1 = nI (X.length + 1) := a1
      have x20 := a3 x (List.mem_cons_self ..)
      have rkx := pd_rk x (by omega) (by omega)
      have tp' : py_r x = 4 := tp
      have hh : sm_held M1 X.length = nI x := a2.1
      simp (disch := omega) only [pz_l, pz_ltT, pz_ltF, pz_leT, pz_leF, pz_eqT, pz_eqF, pz_nF, pz_nqF, pz_cl, pz_rd, pz_up, pz_bd, pz_let, pk_mul, nI_add, pz_sub, pz_div, pz_m, pz_neg1, eq_self, or_self, false_or, or_false, true_or, or_true, ↓reduceIte, if_true, if_false, a1', Nat.add_sub_cancel, hh, rkx, tp', pz_ltF (Nat.zero_le _)]
  · obtain ⟨M1, u1, u2, u3⟩ := pd_uw (t := t) (r := 5) (by decide) H am_fu o M (by omega) fu h
    have ul := pd_ul (r := 5) H o
    obtain ⟨M2, v1, v2, v3⟩ := pd_hold u2 (by omega) ⟨hs.1, hs.2.1, hs.2.2.1, hs.2.2.2.1⟩
    refine ⟨M2, ?_, v2, pd_Ft u3 v3⟩
    unfold fx_X12_between
    rw [rk, r4, if_pos (show nI 4 = (4 : Int32) from rfl)]
    unfold fx_X12_between_17 fx_X12_unwinds
    rw [show (5 : Int32) = nI 5 from rfl, u1, pz_bd, rk, r4, if_pos (show nI 4 = (4 : Int32) from rfl), v1, pz_bd]
    cases hH : (py_u 5 H o).1 with
    | nil =>
      rw [hH] at u2
      rw [u2.1.1]
      exact if_pos (by decide)
    | cons x X =>
      rw [hH] at u2 tp ul
      have ul' : X.length + 1 + _ = _ := ul
      obtain ⟨⟨a1, a2, a3⟩, -⟩ := u2
      have a1' : sm_heldMany M1 = nI (X.length + 1) := a1
      have x20 := a3 x (List.mem_cons_self ..)
      have rkx := pd_rk x (by omega) (by omega)
      have tp' : py_r x ≠ 4 := tp
      have r8 := pd_tr2 x (by omega)
      have hh : sm_held M1 X.length = nI x := a2.1
      simp (disch := omega) only [pz_l, pz_ltT, pz_ltF, pz_leT, pz_leF, pz_eqT, pz_eqF, pz_nF, pz_nqF, pz_cl, pz_rd, pz_up, pz_bd, pz_let, pk_mul, nI_add, pz_sub, pz_div, pz_m, pz_neg1, eq_self, or_self, false_or, or_false, true_or, or_true, ↓reduceIte, if_true, if_false, a1', Nat.add_sub_cancel, hh, rkx, tp', pz_ltF (Nat.zero_le _)]
  · obtain ⟨M1, u1, u2, u3⟩ := pd_uw (t := t) (r := py_r s) ⟨hs.2.2.2.2.1, hs.2.2.2.2.2⟩ H am_fu o M (by omega) fu h
    have ul := pd_ul (r := py_r s) H o
    obtain ⟨M2, v1, v2, v3⟩ := pd_hold u2 (by omega) ⟨hs.1, hs.2.1, hs.2.2.1, hs.2.2.2.1⟩
    refine ⟨M2, ?_, v2, pd_Ft u3 v3⟩
    have n4 : ¬ nI (py_r s) = (4 : Int32) := fun q => r4 ((nI_eq (b := 4) (by omega) (by decide)).mp q)
    unfold fx_X12_between
    rw [rk, if_neg n4]
    unfold fx_X12_between_17 fx_X12_unwinds
    rw [u1, pz_bd, rk, if_neg n4, v1, pz_bd]
