/-! ===== viewers, what is taken, sheets ===== -/
theorem pu_uu {α : Type} {f : Nat → α} {k : Nat} {x y : α} : am_us (am_us f k x) k y = am_us f k y := by
  funext j
  unfold am_us
  cases Nat.beq j k <;> rfl
theorem pu_e {f g : Nat → Int32} {k x : Nat} {v : Int32} (h : f x = g x) : upd f k v x = upd g k v x := by
  by_cases e : x = k
  · subst e; rw [pz_us, pz_us]
  · rw [pz_un e, pz_un e]; exact h
theorem pf_u : am_fu = 1000000 := rfl
theorem pq_viewer0 {T : Nat → Nat → List Int32} {S : sx_T} {M : sm_T} (h : px_Q T S M) (a1 a2 : Int32) : ∃ r S' M', fx_X11_viewer a1 a2 S = (r, S') ∧ fx_X12_viewer a1 a2 M = some (r, M') ∧ px_Q T S' M' := by
  obtain ⟨⟨⟨⟨n, hn, n1⟩, n2⟩, h1⟩, h2, h3, h4, h5, h6, h7, h8⟩ := id h
  rcases pn_w a1 60 59 rfl (by decide) with ⟨g1, g2⟩ | ⟨j, hj, rfl, g1, g2⟩
  · refine ⟨-2, S, M, ?_, ?_, h⟩
    · simp (disch := omega) only [pz_l, pz_ltT, pz_ltF, pz_leT, pz_leF, pz_eqT, pz_eqF, pz_nF, pz_nqF, pz_cl, pz_rd, pz_up, pz_bd, pz_let, pk_mul, nI_add, pz_sub, pz_div, pz_m, pz_neg1, eq_self, or_self, false_or, or_false, true_or, or_true, ↓reduceIte, if_true, if_false, fx_X11_viewer, g1]
    · simp (disch := omega) only [pz_l, pz_ltT, pz_ltF, pz_leT, pz_leF, pz_eqT, pz_eqF, pz_nF, pz_nqF, pz_cl, pz_rd, pz_up, pz_bd, pz_let, pk_mul, nI_add, pz_sub, pz_div, pz_m, pz_neg1, eq_self, or_self, false_or, or_false, true_or, or_true, ↓reduceIte, if_true, if_false, fx_X12_viewer, g2]
  rcases pn_w a2 100000 99999 rfl (by decide) with ⟨f1, f2⟩ | ⟨k, hk, rfl, f1, f2⟩
  · refine ⟨-2, S, M, ?_, ?_, h⟩
    · simp (disch := omega) only [pz_l, pz_ltT, pz_ltF, pz_leT, pz_leF, pz_eqT, pz_eqF, pz_nF, pz_nqF, pz_cl, pz_rd, pz_up, pz_bd, pz_let, pk_mul, nI_add, pz_sub, pz_div, pz_m, pz_neg1, eq_self, or_self, false_or, or_false, true_or, or_true, ↓reduceIte, if_true, if_false, fx_X11_viewer, g1, f1]
    · simp (disch := omega) only [pz_l, pz_ltT, pz_ltF, pz_leT, pz_leF, pz_eqT, pz_eqF, pz_nF, pz_nqF, pz_cl, pz_rd, pz_up, pz_bd, pz_let, pk_mul, nI_add, pz_sub, pz_div, pz_m, pz_neg1, eq_self, or_self, false_or, or_false, true_or, or_true, ↓reduceIte, if_true, if_false, fx_X12_viewer, g2, f2]
  have n3 : sm_viewers M = nI n := n2.trans n1
  by_cases e8 : n = 8
  · refine ⟨-4, S, M, ?_, ?_, h⟩
    · simp (disch := omega) only [pz_l, pz_ltT, pz_ltF, pz_leT, pz_leF, pz_eqT, pz_eqF, pz_nF, pz_nqF, pz_cl, pz_rd, pz_up, pz_bd, pz_let, pk_mul, nI_add, pz_sub, pz_div, pz_m, pz_neg1, eq_self, or_self, false_or, or_false, true_or, or_true, ↓reduceIte, if_true, if_false, fx_X11_viewer, g1, f1, n1]
    · simp (disch := omega) only [pz_l, pz_ltT, pz_ltF, pz_leT, pz_leF, pz_eqT, pz_eqF, pz_nF, pz_nqF, pz_cl, pz_rd, pz_up, pz_bd, pz_let, pk_mul, nI_add, pz_sub, pz_div, pz_m, pz_neg1, eq_self, or_self, false_or, or_false, true_or, or_true, ↓reduceIte, if_true, if_false, fx_X12_viewer, g2, f2, n3]
  refine ⟨nI n, ux_now_viewers (ux_now_quiet (ux_now_rich (ux_moreOf (ux_kindOf S (upd (sx_kindOf S) n (nI (j / 10)))) (upd (sx_moreOf S) n (nI (j - j / 10 * 10)))) (upd (sx_now_rich S) n (nI (k / 100)))) (upd (sx_now_quiet S) n (nI (k - k / 100 * 100)))) (nI (n + 1)), um_viewers (um_ones (um_ones (um_moreOf (um_kind M (upd (sm_kind M) n (nI (j / 10)))) (upd (sm_moreOf M) n (nI (j - j / 10 * 10)))) (upd (sm_ones M) (2 * n) (nI (k / 100)))) (upd (upd (sm_ones M) (2 * n) (nI (k / 100))) (2 * n + 1) (nI (k - k / 100 * 100)))) (nI (n + 1)), ?_, ?_, ⟨⟨⟨n + 1, by omega, rfl⟩, rfl⟩, h1⟩, h2, h3, pu_2' (pu_2 h4), ?_, h6, h7, h8⟩
  · simp (disch := omega) only [pz_l, pz_ltT, pz_ltF, pz_leT, pz_leF, pz_eqT, pz_eqF, pz_nF, pz_nqF, pz_cl, pz_rd, pz_up, pz_bd, pz_let, pk_mul, nI_add, pz_sub, pz_div, pz_m, pz_neg1, eq_self, or_self, false_or, or_false, true_or, or_true, ↓reduceIte, if_true, if_false, fx_X11_viewer, g1, f1, n1]
  · simp (disch := omega) only [pz_l, pz_ltT, pz_ltF, pz_leT, pz_leF, pz_eqT, pz_eqF, pz_nF, pz_nqF, pz_cl, pz_rd, pz_up, pz_bd, pz_let, pk_mul, nI_add, pz_sub, pz_div, pz_m, pz_neg1, eq_self, or_self, false_or, or_false, true_or, or_true, ↓reduceIte, if_true, if_false, fx_X12_viewer, g2, f2, n3]
    rw [Nat.add_sub_cancel]
  · intro v hv
    obtain ⟨⟨k1, k2⟩, m1, m2⟩ := h5 v hv
    by_cases e : v = n
    · subst e
      refine ⟨⟨⟨j / 10, by omega, pz_us⟩, ?_⟩, ⟨j - j / 10 * 10, by omega, pz_us⟩, ?_⟩
      · exact pz_us.trans pz_us.symm
      · exact pz_us.trans pz_us.symm
    · refine ⟨⟨?_, ?_⟩, ?_, ?_⟩
      · obtain ⟨i, hi, hi2⟩ := k1
        exact ⟨i, hi, (pz_un e).trans hi2⟩
      · exact (pz_un e).trans (k2.trans (pz_un e).symm)
      · obtain ⟨i, hi, hi2⟩ := m1
        exact ⟨i, hi, (pz_un e).trans hi2⟩
      · exact (pz_un e).trans (m2.trans (pz_un e).symm)
theorem pq_viewer : lq_viewer px_R := by
  rintro S M ⟨T, h⟩ a1 a2
  obtain ⟨r, S', M', e1, e2, e3⟩ := pq_viewer0 h a1 a2
  exact ⟨r, S', M', congrArg some e1, e2, T, e3⟩
theorem pk_of0 : ∀ k, k < 6 → ∀ o, o < 6 → (fx_X11_isOfKind (fx_X11_kindAt (nI k)) (nI o) SX0 = 0 ∧ fx_X12_isUnder (nI k) (nI o) = 0) ∨ (fx_X11_isOfKind (fx_X11_kindAt (nI k)) (nI o) SX0 = 1 ∧ fx_X12_isUnder (nI k) (nI o) = 1) := by decide +kernel
theorem pk_of (S : sx_T) {k o : Nat} (hk : k < 6) (ho : o < 6) : (fx_X11_isOfKind (fx_X11_kindAt (nI k)) (nI o) S = nI 0 ∧ fx_X12_isUnder (nI k) (nI o) = nI 0) ∨ (fx_X11_isOfKind (fx_X11_kindAt (nI k)) (nI o) S = nI 1 ∧ fx_X12_isUnder (nI k) (nI o) = nI 1) := pk_of0 k hk o ho
theorem pq_taken : lq_taken px_R := by
  rintro S M ⟨T, h⟩ a1 a2
  obtain ⟨⟨⟨⟨n, hn, n1⟩, n2⟩, h1⟩, h2, h3, h4, h5, h6, h7, h8⟩ := id h
  have n3 : sm_viewers M = nI n := n2.trans n1
  refine ⟨fx_X11_taken a1 a2 S, S, M, rfl, ?_, T, h⟩
  have eM : fx_X12_taken a1 a2 M = some (fx_X11_taken a1 a2 S) := by
    rcases pn_w a2 7 6 rfl (by decide) with ⟨g1, g2⟩ | ⟨o, ho, rfl, g1, g2⟩
    · simp (disch := omega) only [pz_l, pz_ltT, pz_ltF, pz_leT, pz_leF, pz_eqT, pz_eqF, pz_nF, pz_nqF, pz_cl, pz_rd, pz_up, pz_bd, pz_let, pk_mul, nI_add, pz_sub, pz_div, pz_m, pz_neg1, eq_self, or_self, false_or, or_false, true_or, or_true, ↓reduceIte, if_true, if_false, fx_X11_taken, fx_X12_taken, g1, g2]
    rcases pn_w a1 16 15 rfl (by decide) with ⟨f1, f2⟩ | ⟨i, hi, rfl, f1, f2⟩
    · simp (disch := omega) only [pz_l, pz_ltT, pz_ltF, pz_leT, pz_leF, pz_eqT, pz_eqF, pz_nF, pz_nqF, pz_cl, pz_rd, pz_up, pz_bd, pz_let, pk_mul, nI_add, pz_sub, pz_div, pz_m, pz_neg1, eq_self, or_self, false_or, or_false, true_or, or_true, ↓reduceIte, if_true, if_false, fx_X11_taken, fx_X12_taken, g1, g2, f1, f2]
    by_cases i8 : i < 8
    · rcases pn_v (nI i) (n := n) (by omega) with ⟨k1, k2⟩ | ⟨v, hv, ev, k1, k2⟩
      · have hni : n ≤ i := by
          rcases Nat.lt_or_ge i n with q | q
          · exfalso
            rcases pn_within (nI i) (n := n) (by omega) with ⟨_, w⟩ | ⟨_, _, _, w⟩
            · exact w i q rfl
            · rw [w] at k1; exact absurd k1 (by decide)
          · exact q
        simp (disch := omega) only [pz_l, pz_ltT, pz_ltF, pz_leT, pz_leF, pz_eqT, pz_eqF, pz_nF, pz_nqF, pz_cl, pz_rd, pz_up, pz_bd, pz_let, pk_mul, nI_add, pz_sub, pz_div, pz_m, pz_neg1, eq_self, or_self, false_or, or_false, true_or, or_true, ↓reduceIte, if_true, if_false, fx_X11_taken, fx_X11_taken_35, fx_X11_taken_48, fx_X11_isViewer, fx_X12_taken, g1, g2, f1, f2, n1, n3, k1]
      · have evv : i = v := (nI_eq (by omega) (by omega)).mp ev
        subst evv
        obtain ⟨⟨⟨kk, hkk, q1⟩, q2⟩, -⟩ := h5 i i8
        by_cases o6 : o = 6
        · subst o6
          simp (disch := omega) only [pz_l, pz_ltT, pz_ltF, pz_leT, pz_leF, pz_eqT, pz_eqF, pz_nF, pz_nqF, pz_cl, pz_rd, pz_up, pz_bd, pz_let, pk_mul, nI_add, pz_sub, pz_div, pz_m, pz_neg1, eq_self, or_self, false_or, or_false, true_or, or_true, ↓reduceIte, if_true, if_false, fx_X11_taken, fx_X11_taken_35, fx_X11_taken_48, fx_X11_isViewer, fx_X12_taken, g1, g2, f1, f2, n1, n3, k1]
        · rcases pk_of S hkk (show o < 6 by omega) with ⟨w1, w2⟩ | ⟨w1, w2⟩
          · simp (disch := omega) only [pz_l, pz_ltT, pz_ltF, pz_leT, pz_leF, pz_eqT, pz_eqF, pz_nF, pz_nqF, pz_cl, pz_rd, pz_up, pz_bd, pz_let, pk_mul, nI_add, pz_sub, pz_div, pz_m, pz_neg1, eq_self, or_self, false_or, or_false, true_or, or_true, ↓reduceIte, if_true, if_false, fx_X11_taken, fx_X11_taken_35, fx_X11_taken_48, fx_X11_isViewer, fx_X12_taken, g1, g2, f1, f2, n1, n3, k1, q2, q1, w1, w2]
          · simp (disch := omega) only [pz_l, pz_ltT, pz_ltF, pz_leT, pz_leF, pz_eqT, pz_eqF, pz_nF, pz_nqF, pz_cl, pz_rd, pz_up, pz_bd, pz_let, pk_mul, nI_add, pz_sub, pz_div, pz_m, pz_neg1, eq_self, or_self, false_or, or_false, true_or, or_true, ↓reduceIte, if_true, if_false, fx_X11_taken, fx_X11_taken_35, fx_X11_taken_48, fx_X11_isViewer, fx_X12_taken, g1, g2, f1, f2, n1, n3, k1, q2, q1, w1, w2]
    · rcases pn_v (nI (i - 8)) (n := n) (by omega) with ⟨k1, k2⟩ | ⟨v, hv, ev, k1, k2⟩
      · have hni : n ≤ i - 8 := by
          rcases Nat.lt_or_ge (i - 8) n with q | q
          · exfalso
            rcases pn_within (nI (i - 8)) (n := n) (by omega) with ⟨_, w⟩ | ⟨_, _, _, w⟩
            · exact w (i - 8) q rfl
            · rw [w] at k1; exact absurd k1 (by decide)
          · exact q
        simp (disch := omega) only [pz_l, pz_ltT, pz_ltF, pz_leT, pz_leF, pz_eqT, pz_eqF, pz_nF, pz_nqF, pz_cl, pz_rd, pz_up, pz_bd, pz_let, pk_mul, nI_add, pz_sub, pz_div, pz_m, pz_neg1, eq_self, or_self, false_or, or_false, true_or, or_true, ↓reduceIte, if_true, if_false, fx_X11_taken, fx_X11_taken_35, fx_X11_taken_48, fx_X11_isViewer, fx_X12_taken, g1, g2, f1, f2, n1, n3, k1]
      · have evv : i - 8 = v := (nI_eq (by omega) (by omega)).mp ev
        have o2 := (h4 (i - 8) (by omega)).2
        by_cases o6 : o = 6
        · subst o6
          simp (disch := omega) only [pz_l, pz_ltT, pz_ltF, pz_leT, pz_leF, pz_eqT, pz_eqF, pz_nF, pz_nqF, pz_cl, pz_rd, pz_up, pz_bd, pz_let, pk_mul, nI_add, pz_sub, pz_div, pz_m, pz_neg1, eq_self, or_self, false_or, or_false, true_or, or_true, ↓reduceIte, if_true, if_false, fx_X11_taken, fx_X11_taken_35, fx_X11_taken_48, fx_X11_isViewer, fx_X12_taken, g1, g2, f1, f2, n1, n3, k1, o2]
        · simp (disch := omega) only [pz_l, pz_ltT, pz_ltF, pz_leT, pz_leF, pz_eqT, pz_eqF, pz_nF, pz_nqF, pz_cl, pz_rd, pz_up, pz_bd, pz_let, pk_mul, nI_add, pz_sub, pz_div, pz_m, pz_neg1, eq_self, or_self, false_or, or_false, true_or, or_true, ↓reduceIte, if_true, if_false, fx_X11_taken, fx_X11_taken_35, fx_X11_taken_48, fx_X11_isViewer, fx_X12_taken, g1, g2, f1, f2, n1, n3, k1, o2]
  unfold lm_taken
  rw [eM]
  rfl
/-- a sheet that is there, or not -/
theorem pr_mis (S : sx_T) {s : Nat} (hs : s < 4) : (sx_sh_sorts S s = -(nI 1) ∧ fx_X5_isMissing (nI s) S = nI 1) ∨ (¬ sx_sh_sorts S s = -(nI 1) ∧ fx_X5_isMissing (nI s) S = nI 0) := by
  unfold fx_X5_isMissing
  rw [pz_rd hs (by decide)]
  by_cases e : sx_sh_sorts S s = -(nI 1)
  · rw [if_pos (show sx_sh_sorts S s = -1 from e)]; exact Or.inl ⟨e, rfl⟩
  · rw [if_neg (show ¬ sx_sh_sorts S s = -1 from e)]; exact Or.inr ⟨e, rfl⟩
theorem pu_shc {S : sx_T} {M : sm_T} {k : Nat} {v : Int32} (h : pr_sh S M) : pr_sh (ux_sh_cells S (upd (sx_sh_cells S) k v)) (um_cells M (upd (sm_cells M) k v)) := by
  intro s hs
  obtain ⟨a, n, hn, b, c, d⟩ := h s hs
  exact ⟨a, n, hn, b, c, fun i hi => pu_e (d i hi)⟩
theorem pq_cell : lq_cell px_R := by
  rintro S M ⟨T, h⟩ a1 a2 a3
  obtain ⟨h1, h2, h3, h4, h5, h6, h7, h8⟩ := id h
  rcases pn_w a1 4 3 rfl (by decide) with ⟨g1, g2⟩ | ⟨s, hs, rfl, g1, g2⟩
  · refine ⟨-2, S, M, ?_, ?_, T, h⟩
    · simp (disch := omega) only [pz_l, pz_ltT, pz_ltF, pz_leT, pz_leF, pz_eqT, pz_eqF, pz_nF, pz_nqF, pz_cl, pz_rd, pz_up, pz_bd, pz_let, pk_mul, nI_add, pz_sub, pz_div, pz_m, pz_neg1, eq_self, or_self, false_or, or_false, true_or, or_true, ↓reduceIte, if_true, if_false, lx_cell, fx_X11_cell, g1]
    · simp (disch := omega) only [pz_l, pz_ltT, pz_ltF, pz_leT, pz_leF, pz_eqT, pz_eqF, pz_nF, pz_nqF, pz_cl, pz_rd, pz_up, pz_bd, pz_let, pk_mul, nI_add, pz_sub, pz_div, pz_m, pz_neg1, eq_self, or_self, false_or, or_false, true_or, or_true, ↓reduceIte, if_true, if_false, lm_cell, fx_X12_cell, g2]
  obtain ⟨so, n, hn, s1, s2, s3⟩ := h8 s hs
  rcases pr_mis S hs with ⟨m1, m2⟩ | ⟨m1, m2⟩
  · refine ⟨-11, S, M, ?_, ?_, T, h⟩
    · simp (disch := omega) only [pz_l, pz_ltT, pz_ltF, pz_leT, pz_leF, pz_eqT, pz_eqF, pz_nF, pz_nqF, pz_cl, pz_rd, pz_up, pz_bd, pz_let, pk_mul, nI_add, pz_sub, pz_div, pz_m, pz_neg1, eq_self, or_self, false_or, or_false, true_or, or_true, ↓reduceIte, if_true, if_false, lx_cell, fx_X11_cell, g1, m2]
    · simp (disch := omega) only [pz_l, pz_ltT, pz_ltF, pz_leT, pz_leF, pz_eqT, pz_eqF, pz_nF, pz_nqF, pz_cl, pz_rd, pz_up, pz_bd, pz_let, pk_mul, nI_add, pz_sub, pz_div, pz_m, pz_neg1, eq_self, or_self, false_or, or_false, true_or, or_true, ↓reduceIte, if_true, if_false, lm_cell, fx_X12_cell, g2, so, m1]
  rcases pn_v a2 (n := n) (by omega) with ⟨f1, f2⟩ | ⟨i, hi, rfl, f1, f2⟩
  · refine ⟨-12, S, M, ?_, ?_, T, h⟩
    · simp (disch := omega) only [pz_l, pz_ltT, pz_ltF, pz_leT, pz_leF, pz_eqT, pz_eqF, pz_nF, pz_nqF, pz_cl, pz_rd, pz_up, pz_bd, pz_let, pk_mul, nI_add, pz_sub, pz_div, pz_m, pz_neg1, eq_self, or_self, false_or, or_false, true_or, or_true, ↓reduceIte, if_true, if_false, lx_cell, fx_X11_cell, fx_X5_size, s1, g1, m2, f1]
    · simp only [lm_cell, fx_X12_cell, pz_l, g2, if_neg (show ¬ nI 1 = nI 0 by decide), if_neg (nI_in hs (by decide)), pz_cl (show s < 2147483648 by omega), so, m1, s2, f2, if_true, if_false]
      simp (disch := omega) only [pz_l, pz_ltT, pz_ltF, pz_leT, pz_leF, pz_eqT, pz_eqF, pz_nF, pz_nqF, pz_cl, pz_rd, pz_up, pz_bd, pz_let, pk_mul, nI_add, pz_sub, pz_div, pz_m, pz_neg1, eq_self, or_self, false_or, or_false, true_or, or_true, ↓reduceIte, if_true, if_false]
  have hr : ∀ v, px_Q T (ux_sh_cells S (upd (sx_sh_cells S) (40 * s + i) v)) (um_cells M (upd (sm_cells M) (40 * s + i) v)) := fun v => ⟨h1, h2, h3, h4, h5, h6, h7, pu_shc h8⟩
  have ew : s * 40 + i = 40 * s + i := by omega
  have e0 : (lm_cell (nI s) (nI i) a3 M) = some (nI 1, um_cells M (upd (sm_cells M) (40 * s + i) (if sx_sh_sorts S s = nI 0 then a3.toInt8.toInt32 else if sx_sh_sorts S s = nI 1 then a3.toInt16.toInt32 else a3))) := by
    simp only [lm_cell, fx_X12_cell, pz_l, g2, if_neg (show ¬ nI 1 = nI 0 by decide), if_neg (nI_in hs (by decide)), pz_cl (show s < 2147483648 by omega), so, m1, s2, f2, if_true, if_false]
    by_cases c0 : sx_sh_sorts S s = nI 0
    · simp (disch := omega) only [pz_l, pz_ltT, pz_ltF, pz_leT, pz_leF, pz_eqT, pz_eqF, pz_nF, pz_nqF, pz_cl, pz_rd, pz_up, pz_bd, pz_let, pk_mul, nI_add, pz_sub, pz_div, pz_m, pz_neg1, eq_self, or_self, false_or, or_false, true_or, or_true, ↓reduceIte, if_true, if_false, c0]
    · by_cases c1 : sx_sh_sorts S s = nI 1
      · rw [if_neg c0, if_pos c1, if_neg c0, if_pos c1]
        simp (disch := omega) only [pz_l, pz_ltT, pz_ltF, pz_leT, pz_leF, pz_eqT, pz_eqF, pz_nF, pz_nqF, pz_cl, pz_rd, pz_up, pz_bd, pz_let, pk_mul, nI_add, pz_sub, pz_div, pz_m, pz_neg1, eq_self, or_self, false_or, or_false, true_or, or_true, ↓reduceIte, if_true, if_false, c1]
      · rw [if_neg c0, if_neg c1, if_neg c0, if_neg c1]
        simp (disch := omega) only [pz_l, pz_ltT, pz_ltF, pz_leT, pz_leF, pz_eqT, pz_eqF, pz_nF, pz_nqF, pz_cl, pz_rd, pz_up, pz_bd, pz_let, pk_mul, nI_add, pz_sub, pz_div, pz_m, pz_neg1, eq_self, or_self, false_or, or_false, true_or, or_true, ↓reduceIte, if_true, if_false]
  refine ⟨nI 1, _, _, ?_, e0, T, hr _⟩
  have e1 : fx_X5_write (nI s) (nI i) a3 S = ux_sh_cells S (upd (sx_sh_cells S) (40 * s + i) (if sx_sh_sorts S s = nI 0 then a3.toInt8.toInt32 else if sx_sh_sorts S s = nI 1 then a3.toInt16.toInt32 else a3)) := by
    simp only [fx_X5_write, pz_l, pz_rd hs (show 4 < 2147483648 by decide)]
    by_cases c0 : sx_sh_sorts S s = nI 0
    · rw [if_pos c0, if_pos c0]
      simp (disch := omega) only [pz_l, pz_ltT, pz_ltF, pz_leT, pz_leF, pz_eqT, pz_eqF, pz_nF, pz_nqF, pz_cl, pz_rd, pz_up, pz_bd, pz_let, pk_mul, nI_add, pz_sub, pz_div, pz_m, pz_neg1, eq_self, or_self, false_or, or_false, true_or, or_true, ↓reduceIte, if_true, if_false, ew]
    · by_cases c1 : sx_sh_sorts S s = nI 1
      · rw [if_neg c0, if_pos c1, if_neg c0, if_pos c1]
        simp (disch := omega) only [pz_l, pz_ltT, pz_ltF, pz_leT, pz_leF, pz_eqT, pz_eqF, pz_nF, pz_nqF, pz_cl, pz_rd, pz_up, pz_bd, pz_let, pk_mul, nI_add, pz_sub, pz_div, pz_m, pz_neg1, eq_self, or_self, false_or, or_false, true_or, or_true, ↓reduceIte, if_true, if_false, ew]
      · rw [if_neg c0, if_neg c1, if_neg c0, if_neg c1]
        simp (disch := omega) only [pz_l, pz_ltT, pz_ltF, pz_leT, pz_leF, pz_eqT, pz_eqF, pz_nF, pz_nqF, pz_cl, pz_rd, pz_up, pz_bd, pz_let, pk_mul, nI_add, pz_sub, pz_div, pz_m, pz_neg1, eq_self, or_self, false_or, or_false, true_or, or_true, ↓reduceIte, if_true, if_false, ew]
  simp (disch := omega) only [pz_l, pz_ltT, pz_ltF, pz_leT, pz_leF, pz_eqT, pz_eqF, pz_nF, pz_nqF, pz_cl, pz_rd, pz_up, pz_bd, pz_let, pk_mul, nI_add, pz_sub, pz_div, pz_m, pz_neg1, eq_self, or_self, false_or, or_false, true_or, or_true, ↓reduceIte, if_true, if_false, lx_cell, fx_X11_cell, fx_X5_size, s1, g1, m2, f1, e1]
