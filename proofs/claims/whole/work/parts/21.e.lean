/-! ===== sheets made, copied; the tape fed; images ===== -/
/-- a row with zeros put from a place to one -/
def pu_z (f : Nat → Int32) (a b : Nat) : Nat → Int32 := fun j => if a ≤ j ∧ j < b then 0 else f j
theorem pu_z0 {f : Nat → Int32} {a b : Nat} (h : a < b) : pu_z (upd f a 0) (a + 1) b = pu_z f a b := by
  funext j
  unfold pu_z
  rw [pz_u]
  by_cases e : j = a
  · subst e; rw [if_pos rfl, if_pos (show j ≤ j ∧ j < b by omega)]
    by_cases e2 : j + 1 ≤ j ∧ j < b
    · rw [if_pos e2]
    · rw [if_neg e2]
  · rw [if_neg e]
    by_cases e2 : a ≤ j ∧ j < b
    · rw [if_pos (show a + 1 ≤ j ∧ j < b by omega), if_pos e2]
    · rw [if_neg (show ¬ (a + 1 ≤ j ∧ j < b) by omega), if_neg e2]
theorem pu_zn {f : Nat → Int32} {a : Nat} : pu_z f a a = f := by
  funext j
  unfold pu_z
  rw [if_neg (by omega)]
theorem pu_id {α : Type} {f : Nat → α} {k : Nat} : am_us f k (f k) = f := by
  funext j
  unfold am_us
  cases e : Nat.beq j k with
  | false => rfl
  | true => rw [Nat.eq_of_beq_eq_true e]; rfl
theorem px_ce (S : sx_T) : ux_sh_cells S (sx_sh_cells S) = S := by
  show (S.1, am_us S.2.1 17 (S.2.1 17), S.2.2) = S
  rw [pu_id]
theorem pm_ce (M : sm_T) : um_cells M (sm_cells M) = M := by
  show (M.1, am_us M.2 11 (M.2 11)) = M
  rw [pu_id]
theorem px_cc (S : sx_T) (x y : Nat → Int32) : ux_sh_cells (ux_sh_cells S x) y = ux_sh_cells S y := by
  show (S.1, am_us (am_us S.2.1 17 x) 17 y, S.2.2) = (S.1, am_us S.2.1 17 y, S.2.2)
  rw [pu_uu]
theorem pm_cc (M : sm_T) (x y : Nat → Int32) : um_cells (um_cells M x) y = um_cells M y := by
  show (M.1, am_us (am_us M.2 11 x) 11 y) = (M.1, am_us M.2 11 y)
  rw [pu_uu]
theorem pf_lay {s n : Nat} (hs : s < 4) (hn : n < 41) : ∀ (d k fu : Nat) (S : sx_T), k + d = n → d < fu → fx_X5_lay_21 fu (nI s) (nI n) (nI k) S = some (ux_sh_cells S (pu_z (sx_sh_cells S) (40 * s + k) (40 * s + n))) := by
  intro d
  induction d with
  | zero =>
    intro k fu S h1 h2
    obtain ⟨f, rfl⟩ : ∃ f, fu = f + 1 := ⟨fu - 1, by omega⟩
    have hk : k = n := by omega
    subst hk
    simp (disch := omega) only [pz_l, pz_ltT, pz_ltF, pz_leT, pz_leF, pz_eqT, pz_eqF, pz_nF, pz_nqF, pz_cl, pz_rd, pz_up, pz_bd, pz_let, pk_mul, nI_add, pz_sub, pz_div, pz_m, pz_neg1, eq_self, or_self, false_or, or_false, true_or, or_true, ↓reduceIte, if_true, if_false, fx_X5_lay_21, pu_zn, px_ce]
  | succ d ih =>
    intro k fu S h1 h2
    obtain ⟨f, rfl⟩ : ∃ f, fu = f + 1 := ⟨fu - 1, by omega⟩
    rw [fx_X5_lay_21]
    simp (disch := omega) only [pz_l, pz_ltT, pz_ltF, pz_leT, pz_leF, pz_eqT, pz_eqF, pz_nF, pz_nqF, pz_cl, pz_rd, pz_up, pz_bd, pz_let, pk_mul, nI_add, pz_sub, pz_div, pz_m, pz_neg1, eq_self, or_self, false_or, or_false, true_or, or_true, ↓reduceIte, if_true, if_false, Nat.mul_comm s 40]
    rw [ih (k + 1) f _ (by omega) (by omega), px_cc]
    rw [show 40 * s + (k + 1) = (40 * s + k) + 1 by omega]
    have e : sx_sh_cells (ux_sh_cells S (upd (sx_sh_cells S) (40 * s + k) (nI 0))) = upd (sx_sh_cells S) (40 * s + k) 0 := rfl
    rw [e, pu_z0 (by omega)]
theorem pf_sheetm {s : Nat} (hs : s < 4) : ∀ (d k fu : Nat) (S : sm_T), k + d = 40 → d < fu → fx_X12_sheet_70 fu (nI s) (nI k) S = some (nI 1, um_cells S (pu_z (sm_cells S) (40 * s + k) (40 * s + 40))) := by
  intro d
  induction d with
  | zero =>
    intro k fu S h1 h2
    obtain ⟨f, rfl⟩ : ∃ f, fu = f + 1 := ⟨fu - 1, by omega⟩
    have hk : k = 40 := by omega
    subst hk
    simp (disch := omega) only [pz_l, pz_ltT, pz_ltF, pz_leT, pz_leF, pz_eqT, pz_eqF, pz_nF, pz_nqF, pz_cl, pz_rd, pz_up, pz_bd, pz_let, pk_mul, nI_add, pz_sub, pz_div, pz_m, pz_neg1, eq_self, or_self, false_or, or_false, true_or, or_true, ↓reduceIte, if_true, if_false, fx_X12_sheet_70, pu_zn, pm_ce]
  | succ d ih =>
    intro k fu S h1 h2
    obtain ⟨f, rfl⟩ : ∃ f, fu = f + 1 := ⟨fu - 1, by omega⟩
    rw [fx_X12_sheet_70]
    simp (disch := omega) only [pz_l, pz_ltT, pz_ltF, pz_leT, pz_leF, pz_eqT, pz_eqF, pz_nF, pz_nqF, pz_cl, pz_rd, pz_up, pz_bd, pz_let, pk_mul, nI_add, pz_sub, pz_div, pz_m, pz_neg1, eq_self, or_self, false_or, or_false, true_or, or_true, ↓reduceIte, if_true, if_false]
    rw [ih (k + 1) f _ (by omega) (by omega), pm_cc]
    rw [show 40 * s + (k + 1) = (40 * s + k) + 1 by omega]
    have e : sm_cells (um_cells S (upd (sm_cells S) (40 * s + k) (nI 0))) = upd (sm_cells S) (40 * s + k) 0 := rfl
    rw [e, pu_z0 (by omega)]
theorem pf_layS {s n : Nat} {so : Int32} (hs : s < 4) (hn : n < 41) (S : sx_T) : fx_X5_lay (nI s) so (nI n) S = some (ux_sh_cells (ux_sh_sizes (ux_sh_sorts S (upd (sx_sh_sorts S) s so)) (upd (sx_sh_sizes S) s (nI n))) (pu_z (sx_sh_cells S) (40 * s) (40 * s + n))) := by
  simp (disch := omega) only [pz_l, pz_ltT, pz_ltF, pz_leT, pz_leF, pz_eqT, pz_eqF, pz_nF, pz_nqF, pz_cl, pz_rd, pz_up, pz_bd, pz_let, pk_mul, nI_add, pz_sub, pz_div, pz_m, pz_neg1, eq_self, or_self, false_or, or_false, true_or, or_true, ↓reduceIte, if_true, if_false, fx_X5_lay]
  rw [pf_lay hs hn n 0 am_fu _ (by omega) (by rw [pf_u]; omega)]
  rfl
theorem pr_lay {S : sx_T} {M : sm_T} {s n b : Nat} {so : Int32} (hs : s < 4) (hn : n < 41) (hb : n ≤ b) (hb2 : b ≤ 40) (h : pr_sh S M) : pr_sh (ux_sh_cells (ux_sh_sizes (ux_sh_sorts S (upd (sx_sh_sorts S) s so)) (upd (sx_sh_sizes S) s (nI n))) (pu_z (sx_sh_cells S) (40 * s) (40 * s + n))) (um_cells (um_sheetSize (um_sheetSort M (upd (sm_sheetSort M) s so)) (upd (sm_sheetSize M) s (nI n))) (pu_z (sm_cells M) (40 * s) (40 * s + b))) := by
  intro t ht
  obtain ⟨a, m, hm, b1, c, d⟩ := h t ht
  by_cases e : t = s
  · subst e
    refine ⟨pz_us.trans pz_us.symm, n, hn, pz_us, pz_us, fun i hi => ?_⟩
    show pu_z (sm_cells M) (40 * t) (40 * t + b) (40 * t + i) = pu_z (sx_sh_cells S) (40 * t) (40 * t + n) (40 * t + i)
    unfold pu_z
    rw [if_pos (by omega), if_pos (by omega)]
  · refine ⟨(pz_un e).trans (a.trans (pz_un e).symm), m, hm, (pz_un e).trans b1, (pz_un e).trans c, fun i hi => ?_⟩
    show pu_z (sm_cells M) (40 * s) (40 * s + b) (40 * t + i) = pu_z (sx_sh_cells S) (40 * s) (40 * s + n) (40 * t + i)
    unfold pu_z
    rw [if_neg (by omega), if_neg (by omega)]
    exact d i hi
theorem pq_lay {T : Nat → Nat → List Int32} {S : sx_T} {M : sm_T} {s n b : Nat} {so : Int32} (hs : s < 4) (hn : n < 41) (hb : n ≤ b) (hb2 : b ≤ 40) (h : px_Q T S M) : px_Q T (ux_sh_cells (ux_sh_sizes (ux_sh_sorts S (upd (sx_sh_sorts S) s so)) (upd (sx_sh_sizes S) s (nI n))) (pu_z (sx_sh_cells S) (40 * s) (40 * s + n))) (um_cells (um_sheetSize (um_sheetSort M (upd (sm_sheetSort M) s so)) (upd (sm_sheetSize M) s (nI n))) (pu_z (sm_cells M) (40 * s) (40 * s + b))) := by
  obtain ⟨h1, h2, h3, h4, h5, h6, h7, h8⟩ := h
  exact ⟨h1, h2, h3, h4, h5, h6, h7, pr_lay hs hn hb hb2 h8⟩
theorem pn_so (a : Int32) : (a < -(nI 1) ∨ nI 2 < a) ∧ fx_X12_in a (-(nI 1)) (nI 2) = nI 0 ∨ (¬ a < -(nI 1) ∧ a ≤ nI 2) ∧ fx_X12_in a (-(nI 1)) (nI 2) = nI 1 := by
  unfold fx_X12_in
  by_cases h : a < -(nI 1)
  · rw [if_pos h]; exact Or.inl ⟨Or.inl h, rfl⟩
  · by_cases h2 : nI 2 < a
    · rw [if_neg h, if_pos h2]; exact Or.inl ⟨Or.inr h2, rfl⟩
    · rw [if_neg h, if_neg h2]; exact Or.inr ⟨⟨h, Int32.not_lt.mp h2⟩, rfl⟩
theorem pq_sheet : lq_sheet px_R := by
  rintro S M ⟨T, h⟩ a1 a2 a3
  obtain ⟨h1, h2, h3, h4, h5, h6, h7, h8⟩ := id h
  rcases pn_w a1 4 3 rfl (by decide) with ⟨g1, g2⟩ | ⟨s, hs, rfl, g1, g2⟩
  · refine ⟨-2, S, M, ?_, ?_, T, h⟩
    · simp (disch := omega) only [pz_l, pz_ltT, pz_ltF, pz_leT, pz_leF, pz_eqT, pz_eqF, pz_nF, pz_nqF, pz_cl, pz_rd, pz_up, pz_bd, pz_let, pk_mul, nI_add, pz_sub, pz_div, pz_m, pz_neg1, eq_self, or_self, false_or, or_false, true_or, or_true, ↓reduceIte, if_true, if_false, lx_sheet, fx_X11_sheet, g1]
    · simp (disch := omega) only [pz_l, pz_ltT, pz_ltF, pz_leT, pz_leF, pz_eqT, pz_eqF, pz_nF, pz_nqF, pz_cl, pz_rd, pz_up, pz_bd, pz_let, pk_mul, nI_add, pz_sub, pz_div, pz_m, pz_neg1, eq_self, or_self, false_or, or_false, true_or, or_true, ↓reduceIte, if_true, if_false, lm_sheet, fx_X12_sheet, g2]
  rcases pn_so a2 with ⟨f1, f2⟩ | ⟨⟨f0, f1⟩, f2⟩
  · refine ⟨-2, S, M, ?_, ?_, T, h⟩
    · rcases f1 with f1 | f1
      · simp (disch := omega) only [pz_l, pz_ltT, pz_ltF, pz_leT, pz_leF, pz_eqT, pz_eqF, pz_nF, pz_nqF, pz_cl, pz_rd, pz_up, pz_bd, pz_let, pk_mul, nI_add, pz_sub, pz_div, pz_m, pz_neg1, eq_self, or_self, false_or, or_false, true_or, or_true, ↓reduceIte, if_true, if_false, lx_sheet, fx_X11_sheet, g1, f1]
      · simp (disch := omega) only [pz_l, pz_ltT, pz_ltF, pz_leT, pz_leF, pz_eqT, pz_eqF, pz_nF, pz_nqF, pz_cl, pz_rd, pz_up, pz_bd, pz_let, pk_mul, nI_add, pz_sub, pz_div, pz_m, pz_neg1, eq_self, or_self, false_or, or_false, true_or, or_true, ↓reduceIte, if_true, if_false, lx_sheet, fx_X11_sheet, g1, Int32.not_le.mpr f1, ite_self]
    · simp (disch := omega) only [pz_l, pz_ltT, pz_ltF, pz_leT, pz_leF, pz_eqT, pz_eqF, pz_nF, pz_nqF, pz_cl, pz_rd, pz_up, pz_bd, pz_let, pk_mul, nI_add, pz_sub, pz_div, pz_m, pz_neg1, eq_self, or_self, false_or, or_false, true_or, or_true, ↓reduceIte, if_true, if_false, lm_sheet, fx_X12_sheet, g2, f2]
  by_cases em : a2 = -(nI 1)
  · subst em
    refine ⟨nI 1, _, _, ?_, ?_, T, pq_lay (so := -(nI 1)) (n := 0) (b := 40) hs (by decide) (by decide) (by decide) h⟩
    · simp (disch := omega) only [pz_l, pz_ltT, pz_ltF, pz_leT, pz_leF, pz_eqT, pz_eqF, pz_nF, pz_nqF, pz_cl, pz_rd, pz_up, pz_bd, pz_let, pk_mul, nI_add, pz_sub, pz_div, pz_m, pz_neg1, eq_self, or_self, false_or, or_false, true_or, or_true, ↓reduceIte, if_true, if_false, lx_sheet, fx_X11_sheet, g1, f0, f1, pf_layS hs (show 0 < 41 by decide)]
    · simp (disch := omega) only [pz_l, pz_ltT, pz_ltF, pz_leT, pz_leF, pz_eqT, pz_eqF, pz_nF, pz_nqF, pz_cl, pz_rd, pz_up, pz_bd, pz_let, pk_mul, nI_add, pz_sub, pz_div, pz_m, pz_neg1, eq_self, or_self, false_or, or_false, true_or, or_true, ↓reduceIte, if_true, if_false, lm_sheet, fx_X12_sheet, fx_X12_sheet_32, fx_X12_sheet_44, g2, f2, pf_sheetm hs 40 0 am_fu _ (by omega) (by rw [pf_u]; omega)]
      rfl
  by_cases e40 : a3 ≤ nI 40
  · by_cases e0 : a3 < nI 0
    · have e0' : ¬ nI 0 ≤ a3 := Int32.not_le.mpr e0
      refine ⟨-14, S, M, ?_, ?_, T, h⟩
      · simp (disch := omega) only [pz_l, pz_ltT, pz_ltF, pz_leT, pz_leF, pz_eqT, pz_eqF, pz_nF, pz_nqF, pz_cl, pz_rd, pz_up, pz_bd, pz_let, pk_mul, nI_add, pz_sub, pz_div, pz_m, pz_neg1, eq_self, or_self, false_or, or_false, true_or, or_true, ↓reduceIte, if_true, if_false, lx_sheet, fx_X11_sheet, g1, f0, f1, em, e40, e0']
      · simp (disch := omega) only [pz_l, pz_ltT, pz_ltF, pz_leT, pz_leF, pz_eqT, pz_eqF, pz_nF, pz_nqF, pz_cl, pz_rd, pz_up, pz_bd, pz_let, pk_mul, nI_add, pz_sub, pz_div, pz_m, pz_neg1, eq_self, or_self, false_or, or_false, true_or, or_true, ↓reduceIte, if_true, if_false, lm_sheet, fx_X12_sheet, fx_X12_sheet_32, g2, f2, em, e40, e0']
    · obtain ⟨n, hn, rfl⟩ := nI_of2 (n := 40) (M := nI 40) (by decide) e0 e40
      refine ⟨nI 1, _, _, ?_, ?_, T, pq_lay (so := a2) (n := n) (b := 40) hs (by omega) (by omega) (by decide) h⟩
      · simp (disch := omega) only [pz_l, pz_ltT, pz_ltF, pz_leT, pz_leF, pz_eqT, pz_eqF, pz_nF, pz_nqF, pz_cl, pz_rd, pz_up, pz_bd, pz_let, pk_mul, nI_add, pz_sub, pz_div, pz_m, pz_neg1, eq_self, or_self, false_or, or_false, true_or, or_true, ↓reduceIte, if_true, if_false, lx_sheet, fx_X11_sheet, g1, f0, f1, em, e40, pf_layS hs (show n < 41 by omega)]
      · simp (disch := omega) only [pz_l, pz_ltT, pz_ltF, pz_leT, pz_leF, pz_eqT, pz_eqF, pz_nF, pz_nqF, pz_cl, pz_rd, pz_up, pz_bd, pz_let, pk_mul, nI_add, pz_sub, pz_div, pz_m, pz_neg1, eq_self, or_self, false_or, or_false, true_or, or_true, ↓reduceIte, if_true, if_false, lm_sheet, fx_X12_sheet, fx_X12_sheet_32, fx_X12_sheet_44, g2, f2, em, e40, pf_sheetm hs 40 0 am_fu _ (by omega) (by rw [pf_u]; omega)]
        rfl
  · refine ⟨-2, S, M, ?_, ?_, T, h⟩
    · simp (disch := omega) only [pz_l, pz_ltT, pz_ltF, pz_leT, pz_leF, pz_eqT, pz_eqF, pz_nF, pz_nqF, pz_cl, pz_rd, pz_up, pz_bd, pz_let, pk_mul, nI_add, pz_sub, pz_div, pz_m, pz_neg1, eq_self, or_self, false_or, or_false, true_or, or_true, ↓reduceIte, if_true, if_false, lx_sheet, fx_X11_sheet, g1, f0, f1, em, e40]
    · simp (disch := omega) only [pz_l, pz_ltT, pz_ltF, pz_leT, pz_leF, pz_eqT, pz_eqF, pz_nF, pz_nqF, pz_cl, pz_rd, pz_up, pz_bd, pz_let, pk_mul, nI_add, pz_sub, pz_div, pz_m, pz_neg1, eq_self, or_self, false_or, or_false, true_or, or_true, ↓reduceIte, if_true, if_false, lm_sheet, fx_X12_sheet, g2, f2, em, e40]
/-! the tape -/
theorem pq_take {T : Nat → Nat → List Int32} {S : sx_T} {M : sm_T} {z : Nat} (hz : z < 160) (h : px_Q T S M) (e : sx_rd_size S = nI z) (e2 : sm_taped M = nI z) (b : Int32) : fx_X4_take b S = ux_rd_size (ux_rd_tape S (upd (sx_rd_tape S) z b)) (nI (z + 1)) ∧ px_Q T (ux_rd_size (ux_rd_tape S (upd (sx_rd_tape S) z b)) (nI (z + 1))) (um_taped (um_tape M (upd (sm_tape M) z b)) (nI (z + 1))) := by
  obtain ⟨h1, h2, h3, h4, h5, ⟨z', hz', z1, z2, z3⟩, h7, h8⟩ := h
  refine ⟨?_, h1, h2, h3, h4, h5, ⟨z + 1, by omega, rfl, rfl, fun i hi => ?_⟩, h7, h8⟩
  · simp (disch := omega) only [pz_l, pz_ltT, pz_ltF, pz_leT, pz_leF, pz_eqT, pz_eqF, pz_nF, pz_nqF, pz_cl, pz_rd, pz_up, pz_bd, pz_let, pk_mul, nI_add, pz_sub, pz_div, pz_m, pz_neg1, eq_self, or_self, false_or, or_false, true_or, or_true, ↓reduceIte, if_true, if_false, fx_X4_take, e]
  · have : z' = z := (nI_eq (by omega) (by omega)).mp (z1.symm.trans e)
    subst this
    by_cases q : i = z'
    · subst q; exact pz_us.trans pz_us.symm
    · exact (pz_un q).trans ((z3 i (by omega)).trans (pz_un q).symm)
theorem pg_t1 (M : sm_T) (v : Int32) : sm_taped (um_taped M v) = v := rfl
theorem pg_t2 (M : sm_T) (v : Int32) : sm_tape (um_taped M v) = sm_tape M := rfl
theorem pg_t3 (M : sm_T) (v : Nat → Int32) : sm_tape (um_tape M v) = v := rfl
theorem pg_t4 (S : sx_T) (v : Int32) : sx_rd_size (ux_rd_size S v) = v := rfl
def pt_by (a2 a3 a4 a5 a6 : Int32) (k : Nat) : Int32 := if k = 0 then a2 else if k = 1 then a3 else if k = 2 then a4 else if k = 3 then a5 else a6
def pt_tk (b : Nat → Int32) : Nat → Nat → sx_T → sx_T
  | 0, _, S => S
  | d + 1, k, S => pt_tk b d (k + 1) (fx_X4_take (b k) S)
theorem pf_feed1 {a2 a3 a4 a5 a6 : Int32} {n k f z : Nat} {M : sm_T} (hk : k < n) (hn : n < 6) (hz : z < 160) (e : sm_taped M = nI z) : fx_X12_feed_68 (f + 1) (nI n) a2 a3 a4 a5 a6 (nI k) M = fx_X12_feed_68 f (nI n) a2 a3 a4 a5 a6 (nI (k + 1)) (um_taped (um_tape M (upd (sm_tape M) z (pt_by a2 a3 a4 a5 a6 k))) (nI (z + 1))) := by
  have hk5 : k = 0 ∨ k = 1 ∨ k = 2 ∨ k = 3 ∨ k = 4 := by omega
  rw [fx_X12_feed_68]
  rcases hk5 with rfl | rfl | rfl | rfl | rfl
  · simp (disch := omega) only [pz_l, pz_ltT, pz_ltF, pz_leT, pz_leF, pz_eqT, pz_eqF, pz_nF, pz_nqF, pz_cl, pz_rd, pz_up, pz_bd, pz_let, pk_mul, nI_add, pz_sub, pz_div, pz_m, pz_neg1, eq_self, or_self, false_or, or_false, true_or, or_true, ↓reduceIte, if_true, if_false, e, pt_by]
  · simp (disch := omega) only [pz_l, pz_ltT, pz_ltF, pz_leT, pz_leF, pz_eqT, pz_eqF, pz_nF, pz_nqF, pz_cl, pz_rd, pz_up, pz_bd, pz_let, pk_mul, nI_add, pz_sub, pz_div, pz_m, pz_neg1, eq_self, or_self, false_or, or_false, true_or, or_true, ↓reduceIte, if_true, if_false, e, pt_by]
  · simp (disch := omega) only [pz_l, pz_ltT, pz_ltF, pz_leT, pz_leF, pz_eqT, pz_eqF, pz_nF, pz_nqF, pz_cl, pz_rd, pz_up, pz_bd, pz_let, pk_mul, nI_add, pz_sub, pz_div, pz_m, pz_neg1, eq_self, or_self, false_or, or_false, true_or, or_true, ↓reduceIte, if_true, if_false, e, pt_by]
  · simp (disch := omega) only [pz_l, pz_ltT, pz_ltF, pz_leT, pz_leF, pz_eqT, pz_eqF, pz_nF, pz_nqF, pz_cl, pz_rd, pz_up, pz_bd, pz_let, pk_mul, nI_add, pz_sub, pz_div, pz_m, pz_neg1, eq_self, or_self, false_or, or_false, true_or, or_true, ↓reduceIte, if_true, if_false, e, pt_by]
  · simp (disch := omega) only [pz_l, pz_ltT, pz_ltF, pz_leT, pz_leF, pz_eqT, pz_eqF, pz_nF, pz_nqF, pz_cl, pz_rd, pz_up, pz_bd, pz_let, pk_mul, nI_add, pz_sub, pz_div, pz_m, pz_neg1, eq_self, or_self, false_or, or_false, true_or, or_true, ↓reduceIte, if_true, if_false, e, pt_by]
theorem pf_feed {T : Nat → Nat → List Int32} {a2 a3 a4 a5 a6 : Int32} {n : Nat} (hn : n < 6) : ∀ (d k fu z : Nat) (S : sx_T) (M : sm_T), k + d = n → d < fu → z + d ≤ 160 → px_Q T S M → sx_rd_size S = nI z → sm_taped M = nI z → ∃ M', fx_X12_feed_68 fu (nI n) a2 a3 a4 a5 a6 (nI k) M = some (nI (z + d), M') ∧ px_Q T (pt_tk (pt_by a2 a3 a4 a5 a6) d k S) M' ∧ sx_rd_size (pt_tk (pt_by a2 a3 a4 a5 a6) d k S) = nI (z + d) := by
  intro d
  induction d with
  | zero =>
    intro k fu z S M h1 h2 h3 h e1 e2
    obtain ⟨f, rfl⟩ : ∃ f, fu = f + 1 := ⟨fu - 1, by omega⟩
    refine ⟨M, ?_, h, e1⟩
    rw [fx_X12_feed_68]
    simp (disch := omega) only [pz_l, pz_ltT, pz_ltF, pz_leT, pz_leF, pz_eqT, pz_eqF, pz_nF, pz_nqF, pz_cl, pz_rd, pz_up, pz_bd, pz_let, pk_mul, nI_add, pz_sub, pz_div, pz_m, pz_neg1, eq_self, or_self, false_or, or_false, true_or, or_true, ↓reduceIte, if_true, if_false, e2, Nat.add_zero]
  | succ d ih =>
    intro k fu z S M h1 h2 h3 h e1 e2
    obtain ⟨f, rfl⟩ : ∃ f, fu = f + 1 := ⟨fu - 1, by omega⟩
    rw [pf_feed1 (by omega) hn (by omega) e2]
    obtain ⟨t1, r1⟩ := pq_take (by omega) h e1 e2 (pt_by a2 a3 a4 a5 a6 k)
    rw [← t1] at r1
    obtain ⟨M', g1, g2, g3⟩ := ih (k + 1) f (z + 1) _ _ (by omega) (by omega) (by omega) r1 (by rw [t1]; rfl) rfl
    rw [show z + 1 + d = z + (d + 1) by omega] at g1 g3
    exact ⟨M', g1, g2, g3⟩
theorem pq_feed : lq_feed px_R := by
  rintro S M ⟨T, h⟩ a1 a2 a3 a4 a5 a6
  obtain ⟨h1, h2, h3, h4, h5, ⟨z, hz, z1, z2, z3⟩, h7, h8⟩ := id h
  by_cases c0 : a1 < nI 1
  · refine ⟨-2, S, M, ?_, ?_, T, h⟩
    · simp (disch := omega) only [pz_l, pz_ltT, pz_ltF, pz_leT, pz_leF, pz_eqT, pz_eqF, pz_nF, pz_nqF, pz_cl, pz_rd, pz_up, pz_bd, pz_let, pk_mul, nI_add, pz_sub, pz_div, pz_m, pz_neg1, eq_self, or_self, false_or, or_false, true_or, or_true, ↓reduceIte, if_true, if_false, lx_feed, fx_X11_feed, c0]
    · simp (disch := omega) only [pz_l, pz_ltT, pz_ltF, pz_leT, pz_leF, pz_eqT, pz_eqF, pz_nF, pz_nqF, pz_cl, pz_rd, pz_up, pz_bd, pz_let, pk_mul, nI_add, pz_sub, pz_div, pz_m, pz_neg1, eq_self, or_self, false_or, or_false, true_or, or_true, ↓reduceIte, if_true, if_false, lm_feed, fx_X12_feed, fx_X12_in, c0]
  by_cases c5 : a1 ≤ nI 5
  rotate_left
  · have c5' : nI 5 < a1 := Int32.not_le.mp c5
    refine ⟨-2, S, M, ?_, ?_, T, h⟩
    · simp (disch := omega) only [pz_l, pz_ltT, pz_ltF, pz_leT, pz_leF, pz_eqT, pz_eqF, pz_nF, pz_nqF, pz_cl, pz_rd, pz_up, pz_bd, pz_let, pk_mul, nI_add, pz_sub, pz_div, pz_m, pz_neg1, eq_self, or_self, false_or, or_false, true_or, or_true, ↓reduceIte, if_true, if_false, lx_feed, fx_X11_feed, c0, c5]
    · simp (disch := omega) only [pz_l, pz_ltT, pz_ltF, pz_leT, pz_leF, pz_eqT, pz_eqF, pz_nF, pz_nqF, pz_cl, pz_rd, pz_up, pz_bd, pz_let, pk_mul, nI_add, pz_sub, pz_div, pz_m, pz_neg1, eq_self, or_self, false_or, or_false, true_or, or_true, ↓reduceIte, if_true, if_false, lm_feed, fx_X12_feed, fx_X12_in, c0, c5']
  have c5' : ¬ nI 5 < a1 := Int32.not_lt.mpr c5
  rcases pn_w a2 256 255 rfl (by decide) with ⟨p1, q1⟩ | ⟨b1, hb1, rfl, p1, q1⟩
  · refine ⟨-2, S, M, ?_, ?_, T, h⟩
    · simp (disch := omega) only [pz_l, pz_ltT, pz_ltF, pz_leT, pz_leF, pz_eqT, pz_eqF, pz_nF, pz_nqF, pz_cl, pz_rd, pz_up, pz_bd, pz_let, pk_mul, nI_add, pz_sub, pz_div, pz_m, pz_neg1, eq_self, or_self, false_or, or_false, true_or, or_true, ↓reduceIte, if_true, if_false, lx_feed, fx_X11_feed, fx_X11_isByte, c0, c5, p1]
    · simp (disch := omega) only [pz_l, pz_ltT, pz_ltF, pz_leT, pz_leF, pz_eqT, pz_eqF, pz_nF, pz_nqF, pz_cl, pz_rd, pz_up, pz_bd, pz_let, pk_mul, nI_add, pz_sub, pz_div, pz_m, pz_neg1, eq_self, or_self, false_or, or_false, true_or, or_true, ↓reduceIte, if_true, if_false, lm_feed, fx_X12_feed, fx_X12_isByte, q1, ite_self]
  rcases pn_w a3 256 255 rfl (by decide) with ⟨p2, q2⟩ | ⟨b2, hb2, rfl, p2, q2⟩
  · refine ⟨-2, S, M, ?_, ?_, T, h⟩
    · simp (disch := omega) only [pz_l, pz_ltT, pz_ltF, pz_leT, pz_leF, pz_eqT, pz_eqF, pz_nF, pz_nqF, pz_cl, pz_rd, pz_up, pz_bd, pz_let, pk_mul, nI_add, pz_sub, pz_div, pz_m, pz_neg1, eq_self, or_self, false_or, or_false, true_or, or_true, ↓reduceIte, if_true, if_false, lx_feed, fx_X11_feed, fx_X11_isByte, c0, c5, p1, p2]
    · simp (disch := omega) only [pz_l, pz_ltT, pz_ltF, pz_leT, pz_leF, pz_eqT, pz_eqF, pz_nF, pz_nqF, pz_cl, pz_rd, pz_up, pz_bd, pz_let, pk_mul, nI_add, pz_sub, pz_div, pz_m, pz_neg1, eq_self, or_self, false_or, or_false, true_or, or_true, ↓reduceIte, if_true, if_false, lm_feed, fx_X12_feed, fx_X12_isByte, q1, q2, ite_self]
  rcases pn_w a4 256 255 rfl (by decide) with ⟨p3, q3⟩ | ⟨b3, hb3, rfl, p3, q3⟩
  · refine ⟨-2, S, M, ?_, ?_, T, h⟩
    · simp (disch := omega) only [pz_l, pz_ltT, pz_ltF, pz_leT, pz_leF, pz_eqT, pz_eqF, pz_nF, pz_nqF, pz_cl, pz_rd, pz_up, pz_bd, pz_let, pk_mul, nI_add, pz_sub, pz_div, pz_m, pz_neg1, eq_self, or_self, false_or, or_false, true_or, or_true, ↓reduceIte, if_true, if_false, lx_feed, fx_X11_feed, fx_X11_isByte, c0, c5, p1, p2, p3]
    · simp (disch := omega) only [pz_l, pz_ltT, pz_ltF, pz_leT, pz_leF, pz_eqT, pz_eqF, pz_nF, pz_nqF, pz_cl, pz_rd, pz_up, pz_bd, pz_let, pk_mul, nI_add, pz_sub, pz_div, pz_m, pz_neg1, eq_self, or_self, false_or, or_false, true_or, or_true, ↓reduceIte, if_true, if_false, lm_feed, fx_X12_feed, fx_X12_isByte, q1, q2, q3, ite_self]
  rcases pn_w a5 256 255 rfl (by decide) with ⟨p4, q4⟩ | ⟨b4, hb4, rfl, p4, q4⟩
  · refine ⟨-2, S, M, ?_, ?_, T, h⟩
    · simp (disch := omega) only [pz_l, pz_ltT, pz_ltF, pz_leT, pz_leF, pz_eqT, pz_eqF, pz_nF, pz_nqF, pz_cl, pz_rd, pz_up, pz_bd, pz_let, pk_mul, nI_add, pz_sub, pz_div, pz_m, pz_neg1, eq_self, or_self, false_or, or_false, true_or, or_true, ↓reduceIte, if_true, if_false, lx_feed, fx_X11_feed, fx_X11_isByte, c0, c5, p1, p2, p3, p4]
    · simp (disch := omega) only [pz_l, pz_ltT, pz_ltF, pz_leT, pz_leF, pz_eqT, pz_eqF, pz_nF, pz_nqF, pz_cl, pz_rd, pz_up, pz_bd, pz_let, pk_mul, nI_add, pz_sub, pz_div, pz_m, pz_neg1, eq_self, or_self, false_or, or_false, true_or, or_true, ↓reduceIte, if_true, if_false, lm_feed, fx_X12_feed, fx_X12_isByte, q1, q2, q3, q4, ite_self]
  rcases pn_w a6 256 255 rfl (by decide) with ⟨p5, q5⟩ | ⟨b5, hb5, rfl, p5, q5⟩
  · refine ⟨-2, S, M, ?_, ?_, T, h⟩
    · simp (disch := omega) only [pz_l, pz_ltT, pz_ltF, pz_leT, pz_leF, pz_eqT, pz_eqF, pz_nF, pz_nqF, pz_cl, pz_rd, pz_up, pz_bd, pz_let, pk_mul, nI_add, pz_sub, pz_div, pz_m, pz_neg1, eq_self, or_self, false_or, or_false, true_or, or_true, ↓reduceIte, if_true, if_false, lx_feed, fx_X11_feed, fx_X11_isByte, c0, c5, p1, p2, p3, p4, p5]
    · simp (disch := omega) only [pz_l, pz_ltT, pz_ltF, pz_leT, pz_leF, pz_eqT, pz_eqF, pz_nF, pz_nqF, pz_cl, pz_rd, pz_up, pz_bd, pz_let, pk_mul, nI_add, pz_sub, pz_div, pz_m, pz_neg1, eq_self, or_self, false_or, or_false, true_or, or_true, ↓reduceIte, if_true, if_false, lm_feed, fx_X12_feed, fx_X12_isByte, q1, q2, q3, q4, q5, ite_self]
  obtain ⟨n, hn, rfl⟩ : ∃ n, n ≤ 5 ∧ a1 = nI n := nI_of2 (n := 5) (M := nI 5) (by decide) (fun q => c0 (by
    rw [Int32.lt_iff_toInt_lt] at q ⊢
    have : (nI 1).toInt = 1 := by decide
    have : (0 : Int32).toInt = 0 := by decide
    omega)) c5
  have hn1 : 1 ≤ n := by
    rcases Nat.lt_or_ge n 1 with q | q
    · exact absurd (nI_lt q (by decide)) c0
    · exact q
  have q0 : fx_X12_in (nI n) (nI 1) (nI 5) = nI 1 := by
    unfold fx_X12_in
    rw [if_neg c0, if_neg c5']; rfl
  by_cases full : 160 < z + n
  · refine ⟨-4, S, M, ?_, ?_, T, h⟩
    · simp (disch := omega) only [pz_l, pz_ltT, pz_ltF, pz_leT, pz_leF, pz_eqT, pz_eqF, pz_nF, pz_nqF, pz_cl, pz_rd, pz_up, pz_bd, pz_let, pk_mul, nI_add, pz_sub, pz_div, pz_m, pz_neg1, eq_self, or_self, false_or, or_false, true_or, or_true, ↓reduceIte, if_true, if_false, lx_feed, fx_X11_feed, fx_X11_isByte, p1, p2, p3, p4, p5, z1]
    · simp (disch := omega) only [pz_l, pz_ltT, pz_ltF, pz_leT, pz_leF, pz_eqT, pz_eqF, pz_nF, pz_nqF, pz_cl, pz_rd, pz_up, pz_bd, pz_let, pk_mul, nI_add, pz_sub, pz_div, pz_m, pz_neg1, eq_self, or_self, false_or, or_false, true_or, or_true, ↓reduceIte, if_true, if_false, lm_feed, fx_X12_feed, fx_X12_isByte, q0, q1, q2, q3, q4, q5, z2]
  obtain ⟨M', r1, r2, r3⟩ := pf_feed (a2 := nI b1) (a3 := nI b2) (a4 := nI b3) (a5 := nI b4) (a6 := nI b5) (n := n) (by omega) n 0 am_fu z S M (by omega) (by rw [pf_u]; omega) (by omega) h z1 z2
  refine ⟨nI (z + n), _, M', ?_, ?_, T, r2⟩
  · rw [← r3]
    have hn5 : n = 1 ∨ n = 2 ∨ n = 3 ∨ n = 4 ∨ n = 5 := by omega
    clear r1 r2 r3 h
    rcases hn5 with rfl | rfl | rfl | rfl | rfl
    · simp (disch := omega) only [pz_l, pz_ltT, pz_ltF, pz_leT, pz_leF, pz_eqT, pz_eqF, pz_nF, pz_nqF, pz_cl, pz_rd, pz_up, pz_bd, pz_let, pk_mul, nI_add, pz_sub, pz_div, pz_m, pz_neg1, eq_self, or_self, false_or, or_false, true_or, or_true, ↓reduceIte, if_true, if_false, lx_feed, fx_X11_feed, fx_X11_feed_93, fx_X11_feed_107, fx_X11_isByte, p1, p2, p3, p4, p5, z1, pt_tk, pt_by]
    · simp (disch := omega) only [pz_l, pz_ltT, pz_ltF, pz_leT, pz_leF, pz_eqT, pz_eqF, pz_nF, pz_nqF, pz_cl, pz_rd, pz_up, pz_bd, pz_let, pk_mul, nI_add, pz_sub, pz_div, pz_m, pz_neg1, eq_self, or_self, false_or, or_false, true_or, or_true, ↓reduceIte, if_true, if_false, lx_feed, fx_X11_feed, fx_X11_feed_93, fx_X11_feed_107, fx_X11_isByte, p1, p2, p3, p4, p5, z1, pt_tk, pt_by]
    · simp (disch := omega) only [pz_l, pz_ltT, pz_ltF, pz_leT, pz_leF, pz_eqT, pz_eqF, pz_nF, pz_nqF, pz_cl, pz_rd, pz_up, pz_bd, pz_let, pk_mul, nI_add, pz_sub, pz_div, pz_m, pz_neg1, eq_self, or_self, false_or, or_false, true_or, or_true, ↓reduceIte, if_true, if_false, lx_feed, fx_X11_feed, fx_X11_feed_93, fx_X11_feed_107, fx_X11_isByte, p1, p2, p3, p4, p5, z1, pt_tk, pt_by]
    · simp (disch := omega) only [pz_l, pz_ltT, pz_ltF, pz_leT, pz_leF, pz_eqT, pz_eqF, pz_nF, pz_nqF, pz_cl, pz_rd, pz_up, pz_bd, pz_let, pk_mul, nI_add, pz_sub, pz_div, pz_m, pz_neg1, eq_self, or_self, false_or, or_false, true_or, or_true, ↓reduceIte, if_true, if_false, lx_feed, fx_X11_feed, fx_X11_feed_93, fx_X11_feed_107, fx_X11_isByte, p1, p2, p3, p4, p5, z1, pt_tk, pt_by]
    · simp (disch := omega) only [pz_l, pz_ltT, pz_ltF, pz_leT, pz_leF, pz_eqT, pz_eqF, pz_nF, pz_nqF, pz_cl, pz_rd, pz_up, pz_bd, pz_let, pk_mul, nI_add, pz_sub, pz_div, pz_m, pz_neg1, eq_self, or_self, false_or, or_false, true_or, or_true, ↓reduceIte, if_true, if_false, lx_feed, fx_X11_feed, fx_X11_feed_93, fx_X11_feed_107, fx_X11_isByte, p1, p2, p3, p4, p5, z1, pt_tk, pt_by]
  · simp (disch := omega) only [pz_l, pz_ltT, pz_ltF, pz_leT, pz_leF, pz_eqT, pz_eqF, pz_nF, pz_nqF, pz_cl, pz_rd, pz_up, pz_bd, pz_let, pk_mul, nI_add, pz_sub, pz_div, pz_m, pz_neg1, eq_self, or_self, false_or, or_false, true_or, or_true, ↓reduceIte, if_true, if_false, lm_feed, fx_X12_feed, fx_X12_isByte, q0, q1, q2, q3, q4, q5, z2]
    exact r1
