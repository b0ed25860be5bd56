/-! ===== the simple methods ===== -/
theorem pq_count : lq_count px_R := by
  rintro S M ⟨T, h⟩ a1
  obtain ⟨⟨⟨n1, e1⟩, n2, e2⟩, ⟨q, hq, c1, c2, ⟨l1, l2⟩, -⟩, -, -, -, ⟨z, hz, z1, z2, -⟩, -⟩ := id h
  refine ⟨fx_X11_count a1 S, S, M, rfl, ?_, T, h⟩
  unfold lm_count fx_X12_count fx_X11_count
  rw [e1, e2, c1, c2, l2, z1, z2]
theorem pq_hours : lq_hours px_R := by
  rintro S M ⟨T, h⟩ a1
  obtain ⟨h1, h2, h3, h4, h5, h6, h7, h8⟩ := id h
  rcases pn_w a1 12 11 rfl (by decide) with ⟨g1, g2⟩ | ⟨j, hj, rfl, g1, g2⟩
  · refine ⟨-2, S, M, ?_, ?_, T, h⟩
    · simp (disch := omega) only [pz_l, pz_ltT, pz_ltF, pz_leT, pz_leF, pz_eqT, pz_eqF, pz_nF, pz_nqF, pz_cl, pz_rd, pz_up, pz_bd, pz_let, pk_mul, nI_add, pz_sub, pz_div, pz_m, pz_neg1, eq_self, or_self, false_or, or_false, true_or, or_true, ↓reduceIte, if_true, if_false, lx_hours, fx_X11_hours, g1]
    · simp (disch := omega) only [pz_l, pz_ltT, pz_ltF, pz_leT, pz_leF, pz_eqT, pz_eqF, pz_nF, pz_nqF, pz_cl, pz_rd, pz_up, pz_bd, pz_let, pk_mul, nI_add, pz_sub, pz_div, pz_m, pz_neg1, eq_self, or_self, false_or, or_false, true_or, or_true, ↓reduceIte, if_true, if_false, lm_hours, fx_X12_hours, g2]
  · refine ⟨sx_now_hour S, ux_now_hour S (nI j), um_hour M (nI j), ?_, ?_, T, ⟨h1.1, ⟨j, hj, rfl⟩, rfl⟩, h2, h3, h4, h5, h6, h7, h8⟩
    · simp (disch := omega) only [pz_l, pz_ltT, pz_ltF, pz_leT, pz_leF, pz_eqT, pz_eqF, pz_nF, pz_nqF, pz_cl, pz_rd, pz_up, pz_bd, pz_let, pk_mul, nI_add, pz_sub, pz_div, pz_m, pz_neg1, eq_self, or_self, false_or, or_false, true_or, or_true, ↓reduceIte, if_true, if_false, lx_hours, fx_X11_hours, g1]
    · simp (disch := omega) only [pz_l, pz_ltT, pz_ltF, pz_leT, pz_leF, pz_eqT, pz_eqF, pz_nF, pz_nqF, pz_cl, pz_rd, pz_up, pz_bd, pz_let, pk_mul, nI_add, pz_sub, pz_div, pz_m, pz_neg1, eq_self, or_self, false_or, or_false, true_or, or_true, ↓reduceIte, if_true, if_false, lm_hours, fx_X12_hours, g2, h1.2.2]
theorem pu_2 {f g k : Nat → Int32} {n i : Nat} {v : Int32} (h : ∀ r, r < n → f (2 * r) = g r ∧ f (2 * r + 1) = k r) : ∀ r, r < n → upd f (2 * i) v (2 * r) = upd g i v r ∧ upd f (2 * i) v (2 * r + 1) = k r := by
  intro r hr
  obtain ⟨a, b⟩ := h r hr
  refine ⟨?_, ?_⟩
  · by_cases e : r = i
    · subst e; rw [pz_us, pz_us]
    · rw [pz_un (by omega), pz_un e]; exact a
  · rw [pz_un (by omega)]; exact b
theorem pu_2' {f g k : Nat → Int32} {n i : Nat} {v : Int32} (h : ∀ r, r < n → f (2 * r) = g r ∧ f (2 * r + 1) = k r) : ∀ r, r < n → upd f (2 * i + 1) v (2 * r) = g r ∧ upd f (2 * i + 1) v (2 * r + 1) = upd k i v r := by
  intro r hr
  obtain ⟨a, b⟩ := h r hr
  refine ⟨?_, ?_⟩
  · rw [pz_un (by omega)]; exact a
  · by_cases e : r = i
    · subst e; rw [pz_us, pz_us]
    · rw [pz_un (by omega), pz_un e]; exact b
theorem pq_room : lq_room px_R := by
  rintro S M ⟨T, h⟩ a1 a2 a3
  obtain ⟨h1, h2, h3, h4, h5, h6, h7, h8⟩ := id h
  rcases pn_w a1 6 5 rfl (by decide) with ⟨g1, g2⟩ | ⟨r, hr, rfl, g1, g2⟩
  · refine ⟨-5, S, M, ?_, ?_, T, h⟩
    · simp (disch := omega) only [pz_l, pz_ltT, pz_ltF, pz_leT, pz_leF, pz_eqT, pz_eqF, pz_nF, pz_nqF, pz_cl, pz_rd, pz_up, pz_bd, pz_let, pk_mul, nI_add, pz_sub, pz_div, pz_m, pz_neg1, eq_self, or_self, false_or, or_false, true_or, or_true, ↓reduceIte, if_true, if_false, lx_room, fx_X11_room, g1]
    · simp (disch := omega) only [pz_l, pz_ltT, pz_ltF, pz_leT, pz_leF, pz_eqT, pz_eqF, pz_nF, pz_nqF, pz_cl, pz_rd, pz_up, pz_bd, pz_let, pk_mul, nI_add, pz_sub, pz_div, pz_m, pz_neg1, eq_self, or_self, false_or, or_false, true_or, or_true, ↓reduceIte, if_true, if_false, lm_room, fx_X12_room, fx_X12_isRoom, g2]
  rcases pn_w a2 2 1 rfl (by decide) with ⟨f1, f2⟩ | ⟨w, hw, rfl, f1, f2⟩
  · refine ⟨-7, S, M, ?_, ?_, T, h⟩
    · simp (disch := omega) only [pz_l, pz_ltT, pz_ltF, pz_leT, pz_leF, pz_eqT, pz_eqF, pz_nF, pz_nqF, pz_cl, pz_rd, pz_up, pz_bd, pz_let, pk_mul, nI_add, pz_sub, pz_div, pz_m, pz_neg1, eq_self, or_self, false_or, or_false, true_or, or_true, ↓reduceIte, if_true, if_false, lx_room, fx_X11_room, g1, f1]
    · simp (disch := omega) only [pz_l, pz_ltT, pz_ltF, pz_leT, pz_leF, pz_eqT, pz_eqF, pz_nF, pz_nqF, pz_cl, pz_rd, pz_up, pz_bd, pz_let, pk_mul, nI_add, pz_sub, pz_div, pz_m, pz_neg1, eq_self, or_self, false_or, or_false, true_or, or_true, ↓reduceIte, if_true, if_false, lm_room, fx_X12_room, fx_X12_isRoom, g2, f2]
  rcases pn_w a3 100 99 rfl (by decide) with ⟨k1, k2⟩ | ⟨v, hv, rfl, k1, k2⟩
  · refine ⟨-7, S, M, ?_, ?_, T, h⟩
    · simp (disch := omega) only [pz_l, pz_ltT, pz_ltF, pz_leT, pz_leF, pz_eqT, pz_eqF, pz_nF, pz_nqF, pz_cl, pz_rd, pz_up, pz_bd, pz_let, pk_mul, nI_add, pz_sub, pz_div, pz_m, pz_neg1, eq_self, or_self, false_or, or_false, true_or, or_true, ↓reduceIte, if_true, if_false, lx_room, fx_X11_room, g1, f1, k1]
    · simp (disch := omega) only [pz_l, pz_ltT, pz_ltF, pz_leT, pz_leF, pz_eqT, pz_eqF, pz_nF, pz_nqF, pz_cl, pz_rd, pz_up, pz_bd, pz_let, pk_mul, nI_add, pz_sub, pz_div, pz_m, pz_neg1, eq_self, or_self, false_or, or_false, true_or, or_true, ↓reduceIte, if_true, if_false, lm_room, fx_X12_room, fx_X12_isRoom, g2, f2, k2]
  have hw2 : w = 0 ∨ w = 1 := by omega
  rcases hw2 with rfl | rfl
  · refine ⟨sx_now_light S r, ux_now_light S (upd (sx_now_light S) r (nI v)), um_flat M (upd (sm_flat M) (2 * r) (nI v)), ?_, ?_, T, h1, h2, pu_2 h3, h4, h5, h6, h7, h8⟩
    · simp (disch := omega) only [pz_l, pz_ltT, pz_ltF, pz_leT, pz_leF, pz_eqT, pz_eqF, pz_nF, pz_nqF, pz_cl, pz_rd, pz_up, pz_bd, pz_let, pk_mul, nI_add, pz_sub, pz_div, pz_m, pz_neg1, eq_self, or_self, false_or, or_false, true_or, or_true, ↓reduceIte, if_true, if_false, lx_room, fx_X11_room, g1, f1, k1]
    · simp (disch := omega) only [pz_l, pz_ltT, pz_ltF, pz_leT, pz_leF, pz_eqT, pz_eqF, pz_nF, pz_nqF, pz_cl, pz_rd, pz_up, pz_bd, pz_let, pk_mul, nI_add, pz_sub, pz_div, pz_m, pz_neg1, eq_self, or_self, false_or, or_false, true_or, or_true, ↓reduceIte, if_true, if_false, lm_room, fx_X12_room, fx_X12_isRoom, g2, f2, k2, Nat.add_zero, (h3 r hr).1]
  · refine ⟨sx_now_damp S r, ux_now_damp S (upd (sx_now_damp S) r (nI v)), um_flat M (upd (sm_flat M) (2 * r + 1) (nI v)), ?_, ?_, T, h1, h2, pu_2' h3, h4, h5, h6, h7, h8⟩
    · simp (disch := omega) only [pz_l, pz_ltT, pz_ltF, pz_leT, pz_leF, pz_eqT, pz_eqF, pz_nF, pz_nqF, pz_cl, pz_rd, pz_up, pz_bd, pz_let, pk_mul, nI_add, pz_sub, pz_div, pz_m, pz_neg1, eq_self, or_self, false_or, or_false, true_or, or_true, ↓reduceIte, if_true, if_false, lx_room, fx_X11_room, g1, f1, k1]
    · simp (disch := omega) only [pz_l, pz_ltT, pz_ltF, pz_leT, pz_leF, pz_eqT, pz_eqF, pz_nF, pz_nqF, pz_cl, pz_rd, pz_up, pz_bd, pz_let, pk_mul, nI_add, pz_sub, pz_div, pz_m, pz_neg1, eq_self, or_self, false_or, or_false, true_or, or_true, ↓reduceIte, if_true, if_false, lm_room, fx_X12_room, fx_X12_isRoom, g2, f2, k2, Nat.add_zero, (h3 r hr).2]
theorem pq_told : lq_told px_R := by
  rintro S M ⟨T, h⟩ a1 a2
  obtain ⟨h1, h2, h3, h4, h5, h6, h7, h8⟩ := id h
  rcases pn_w a1 6 5 rfl (by decide) with ⟨g1, g2⟩ | ⟨r, hr, rfl, g1, g2⟩
  · refine ⟨-5, S, M, ?_, ?_, T, h⟩
    · simp (disch := omega) only [pz_l, pz_ltT, pz_ltF, pz_leT, pz_leF, pz_eqT, pz_eqF, pz_nF, pz_nqF, pz_cl, pz_rd, pz_up, pz_bd, pz_let, pk_mul, nI_add, pz_sub, pz_div, pz_m, pz_neg1, eq_self, or_self, false_or, or_false, true_or, or_true, ↓reduceIte, if_true, if_false, lx_told, fx_X11_told, g1]
    · simp (disch := omega) only [pz_l, pz_ltT, pz_ltF, pz_leT, pz_leF, pz_eqT, pz_eqF, pz_nF, pz_nqF, pz_cl, pz_rd, pz_up, pz_bd, pz_let, pk_mul, nI_add, pz_sub, pz_div, pz_m, pz_neg1, eq_self, or_self, false_or, or_false, true_or, or_true, ↓reduceIte, if_true, if_false, lm_told, fx_X12_told, fx_X12_isRoom, g2, Option.map_some]
  rcases pn_w a2 2 1 rfl (by decide) with ⟨f1, f2⟩ | ⟨w, hw, rfl, f1, f2⟩
  · refine ⟨-7, S, M, ?_, ?_, T, h⟩
    · simp (disch := omega) only [pz_l, pz_ltT, pz_ltF, pz_leT, pz_leF, pz_eqT, pz_eqF, pz_nF, pz_nqF, pz_cl, pz_rd, pz_up, pz_bd, pz_let, pk_mul, nI_add, pz_sub, pz_div, pz_m, pz_neg1, eq_self, or_self, false_or, or_false, true_or, or_true, ↓reduceIte, if_true, if_false, lx_told, fx_X11_told, g1, f1]
    · simp (disch := omega) only [pz_l, pz_ltT, pz_ltF, pz_leT, pz_leF, pz_eqT, pz_eqF, pz_nF, pz_nqF, pz_cl, pz_rd, pz_up, pz_bd, pz_let, pk_mul, nI_add, pz_sub, pz_div, pz_m, pz_neg1, eq_self, or_self, false_or, or_false, true_or, or_true, ↓reduceIte, if_true, if_false, lm_told, fx_X12_told, fx_X12_isRoom, g2, f2, Option.map_some]
  have hw2 : w = 0 ∨ w = 1 := by omega
  rcases hw2 with rfl | rfl
  · refine ⟨sx_now_light S r, S, M, ?_, ?_, T, h⟩
    · simp (disch := omega) only [pz_l, pz_ltT, pz_ltF, pz_leT, pz_leF, pz_eqT, pz_eqF, pz_nF, pz_nqF, pz_cl, pz_rd, pz_up, pz_bd, pz_let, pk_mul, nI_add, pz_sub, pz_div, pz_m, pz_neg1, eq_self, or_self, false_or, or_false, true_or, or_true, ↓reduceIte, if_true, if_false, lx_told, fx_X11_told, g1, f1]
    · simp (disch := omega) only [pz_l, pz_ltT, pz_ltF, pz_leT, pz_leF, pz_eqT, pz_eqF, pz_nF, pz_nqF, pz_cl, pz_rd, pz_up, pz_bd, pz_let, pk_mul, nI_add, pz_sub, pz_div, pz_m, pz_neg1, eq_self, or_self, false_or, or_false, true_or, or_true, ↓reduceIte, if_true, if_false, lm_told, fx_X12_told, fx_X12_isRoom, g2, f2, Nat.add_zero, (h3 r hr).1, Option.map_some]
  · refine ⟨sx_now_damp S r, S, M, ?_, ?_, T, h⟩
    · simp (disch := omega) only [pz_l, pz_ltT, pz_ltF, pz_leT, pz_leF, pz_eqT, pz_eqF, pz_nF, pz_nqF, pz_cl, pz_rd, pz_up, pz_bd, pz_let, pk_mul, nI_add, pz_sub, pz_div, pz_m, pz_neg1, eq_self, or_self, false_or, or_false, true_or, or_true, ↓reduceIte, if_true, if_false, lx_told, fx_X11_told, g1, f1]
    · simp (disch := omega) only [pz_l, pz_ltT, pz_ltF, pz_leT, pz_leF, pz_eqT, pz_eqF, pz_nF, pz_nqF, pz_cl, pz_rd, pz_up, pz_bd, pz_let, pk_mul, nI_add, pz_sub, pz_div, pz_m, pz_neg1, eq_self, or_self, false_or, or_false, true_or, or_true, ↓reduceIte, if_true, if_false, lm_told, fx_X12_told, fx_X12_isRoom, g2, f2, Nat.add_zero, (h3 r hr).2, Option.map_some]
theorem pq_force : lq_force px_R := by
  rintro S M ⟨T, h⟩ a1
  obtain ⟨h1, ⟨q, hq, c1, c2, ⟨l1, l2⟩, i1, tx⟩, h3, h4, h5, h6, h7, h8⟩ := id h
  rcases pn_v a1 (n := q) (by omega) with ⟨g1, g2⟩ | ⟨t, ht, rfl, g1, g2⟩
  · refine ⟨-2, S, M, ?_, ?_, T, h⟩
    · simp (disch := omega) only [pz_l, pz_ltT, pz_ltF, pz_leT, pz_leF, pz_eqT, pz_eqF, pz_nF, pz_nqF, pz_cl, pz_rd, pz_up, pz_bd, pz_let, pk_mul, nI_add, pz_sub, pz_div, pz_m, pz_neg1, eq_self, or_self, false_or, or_false, true_or, or_true, ↓reduceIte, if_true, if_false, lx_force, fx_X11_force, c1, g1]
    · simp only [lm_force, fx_X12_force, c2, pz_l, g2, if_true]
  · refine ⟨sx_now_law S, ux_now_law S (nI t), um_rule M (nI t), ?_, ?_, T, h1, ⟨q, hq, c1, c2, ⟨⟨t, ht, rfl⟩, rfl⟩, i1, tx⟩, h3, h4, h5, h6, h7, h8⟩
    · simp (disch := omega) only [pz_l, pz_ltT, pz_ltF, pz_leT, pz_leF, pz_eqT, pz_eqF, pz_nF, pz_nqF, pz_cl, pz_rd, pz_up, pz_bd, pz_let, pk_mul, nI_add, pz_sub, pz_div, pz_m, pz_neg1, eq_self, or_self, false_or, or_false, true_or, or_true, ↓reduceIte, if_true, if_false, lx_force, fx_X11_force, c1, g1]
    · simp only [lm_force, fx_X12_force, c2, pz_l, g2, l2, pz_eqF (show 1 ≠ 0 by decide) (by decide) (by decide), if_false]
theorem pq_put : lq_put px_R := by
  rintro S M ⟨T, h⟩ a1 a2 a3
  obtain ⟨⟨⟨⟨n, hn, n1⟩, n2⟩, h1⟩, h2, h3, h4, h5, h6, h7, h8⟩ := id h
  rcases pn_v a1 (n := n) (by omega) with ⟨g1, g2⟩ | ⟨v, hv, rfl, g1, g2⟩
  · refine ⟨-5, S, M, ?_, ?_, T, h⟩
    · simp (disch := omega) only [pz_l, pz_ltT, pz_ltF, pz_leT, pz_leF, pz_eqT, pz_eqF, pz_nF, pz_nqF, pz_cl, pz_rd, pz_up, pz_bd, pz_let, pk_mul, nI_add, pz_sub, pz_div, pz_m, pz_neg1, eq_self, or_self, false_or, or_false, true_or, or_true, ↓reduceIte, if_true, if_false, lx_put, fx_X11_put, fx_X11_isViewer, n1, g1]
    · simp only [lm_put, fx_X12_put, fx_X12_isViewer, n2, n1, pz_l, g2, if_true]
  rcases pn_w a2 2 1 rfl (by decide) with ⟨f1, f2⟩ | ⟨w, hw, rfl, f1, f2⟩
  · refine ⟨-7, S, M, ?_, ?_, T, h⟩
    · simp (disch := omega) only [pz_l, pz_ltT, pz_ltF, pz_leT, pz_leF, pz_eqT, pz_eqF, pz_nF, pz_nqF, pz_cl, pz_rd, pz_up, pz_bd, pz_let, pk_mul, nI_add, pz_sub, pz_div, pz_m, pz_neg1, eq_self, or_self, false_or, or_false, true_or, or_true, ↓reduceIte, if_true, if_false, lx_put, fx_X11_put, fx_X11_isViewer, n1, g1, f1]
    · simp only [lm_put, fx_X12_put, fx_X12_isViewer, n2, n1, pz_l, g2, f2, if_true, pz_eqF (show 1 ≠ 0 by decide) (by decide) (by decide), if_false]
  have hw2 : w = 0 ∨ w = 1 := by omega
  rcases hw2 with rfl | rfl
  · rcases pn_w a3 1000 999 rfl (by decide) with ⟨k1, k2⟩ | ⟨x, hx, rfl, k1, k2⟩
    · refine ⟨-7, S, M, ?_, ?_, T, h⟩
      · simp (disch := omega) only [pz_l, pz_ltT, pz_ltF, pz_leT, pz_leF, pz_eqT, pz_eqF, pz_nF, pz_nqF, pz_cl, pz_rd, pz_up, pz_bd, pz_let, pk_mul, nI_add, pz_sub, pz_div, pz_m, pz_neg1, eq_self, or_self, false_or, or_false, true_or, or_true, ↓reduceIte, if_true, if_false, lx_put, fx_X11_put, fx_X11_put_32, fx_X11_isViewer, n1, g1, f1, k1]
      · simp only [lm_put, fx_X12_put, fx_X12_put_34, fx_X12_isViewer, n2, n1, pz_l, g2, f2, k2, if_true, pz_eqF (show 1 ≠ 0 by decide) (by decide) (by decide), if_false]
    · refine ⟨sx_now_rich S v, ux_now_rich S (upd (sx_now_rich S) v (nI x)), um_ones M (upd (sm_ones M) (2 * v) (nI x)), ?_, ?_, T, ⟨⟨⟨n, hn, n1⟩, n2⟩, h1⟩, h2, h3, pu_2 h4, h5, h6, h7, h8⟩
      · simp (disch := omega) only [pz_l, pz_ltT, pz_ltF, pz_leT, pz_leF, pz_eqT, pz_eqF, pz_nF, pz_nqF, pz_cl, pz_rd, pz_up, pz_bd, pz_let, pk_mul, nI_add, pz_sub, pz_div, pz_m, pz_neg1, eq_self, or_self, false_or, or_false, true_or, or_true, ↓reduceIte, if_true, if_false, lx_put, fx_X11_put, fx_X11_put_32, fx_X11_isViewer, n1, g1, f1, k1]
      · simp only [lm_put, fx_X12_put, fx_X12_isViewer, n2, n1, pz_l, g2, f2, if_true, pz_eqF (show 1 ≠ 0 by decide) (by decide) (by decide), if_false]
        simp (disch := omega) only [pz_l, pz_ltT, pz_ltF, pz_leT, pz_leF, pz_eqT, pz_eqF, pz_nF, pz_nqF, pz_cl, pz_rd, pz_up, pz_bd, pz_let, pk_mul, nI_add, pz_sub, pz_div, pz_m, pz_neg1, eq_self, or_self, false_or, or_false, true_or, or_true, ↓reduceIte, if_true, if_false, fx_X12_put_34, k2, Nat.add_zero, (h4 v (by omega)).1]
  · rcases pn_w a3 100 99 rfl (by decide) with ⟨k1, k2⟩ | ⟨x, hx, rfl, k1, k2⟩
    · refine ⟨-7, S, M, ?_, ?_, T, h⟩
      · simp (disch := omega) only [pz_l, pz_ltT, pz_ltF, pz_leT, pz_leF, pz_eqT, pz_eqF, pz_nF, pz_nqF, pz_cl, pz_rd, pz_up, pz_bd, pz_let, pk_mul, nI_add, pz_sub, pz_div, pz_m, pz_neg1, eq_self, or_self, false_or, or_false, true_or, or_true, ↓reduceIte, if_true, if_false, lx_put, fx_X11_put, fx_X11_put_32, fx_X11_isViewer, n1, g1, f1, k1]
      · simp only [lm_put, fx_X12_put, fx_X12_put_34, fx_X12_isViewer, n2, n1, pz_l, g2, f2, k2, if_true, pz_eqF (show 1 ≠ 0 by decide) (by decide) (by decide), if_false]
    · refine ⟨sx_now_quiet S v, ux_now_quiet S (upd (sx_now_quiet S) v (nI x)), um_ones M (upd (sm_ones M) (2 * v + 1) (nI x)), ?_, ?_, T, ⟨⟨⟨n, hn, n1⟩, n2⟩, h1⟩, h2, h3, pu_2' h4, h5, h6, h7, h8⟩
      · simp (disch := omega) only [pz_l, pz_ltT, pz_ltF, pz_leT, pz_leF, pz_eqT, pz_eqF, pz_nF, pz_nqF, pz_cl, pz_rd, pz_up, pz_bd, pz_let, pk_mul, nI_add, pz_sub, pz_div, pz_m, pz_neg1, eq_self, or_self, false_or, or_false, true_or, or_true, ↓reduceIte, if_true, if_false, lx_put, fx_X11_put, fx_X11_put_32, fx_X11_isViewer, n1, g1, f1, k1]
      · simp only [lm_put, fx_X12_put, fx_X12_isViewer, n2, n1, pz_l, g2, f2, if_true, pz_eqF (show 1 ≠ 0 by decide) (by decide) (by decide), if_false]
        simp (disch := omega) only [pz_l, pz_ltT, pz_ltF, pz_leT, pz_leF, pz_eqT, pz_eqF, pz_nF, pz_nqF, pz_cl, pz_rd, pz_up, pz_bd, pz_let, pk_mul, nI_add, pz_sub, pz_div, pz_m, pz_neg1, eq_self, or_self, false_or, or_false, true_or, or_true, ↓reduceIte, if_true, if_false, fx_X12_put_34, k2, Nat.add_zero, (h4 v (by omega)).2]
theorem pq_one : lq_one px_R := by
  rintro S M ⟨T, h⟩ a1 a2
  obtain ⟨⟨⟨⟨n, hn, n1⟩, n2⟩, h1⟩, h2, h3, h4, h5, h6, h7, h8⟩ := id h
  rcases pn_v a1 (n := n) (by omega) with ⟨g1, g2⟩ | ⟨v, hv, rfl, g1, g2⟩
  · refine ⟨-5, S, M, ?_, ?_, T, h⟩
    · simp (disch := omega) only [pz_l, pz_ltT, pz_ltF, pz_leT, pz_leF, pz_eqT, pz_eqF, pz_nF, pz_nqF, pz_cl, pz_rd, pz_up, pz_bd, pz_let, pk_mul, nI_add, pz_sub, pz_div, pz_m, pz_neg1, eq_self, or_self, false_or, or_false, true_or, or_true, ↓reduceIte, if_true, if_false, lx_one, fx_X11_one, fx_X11_isViewer, n1, g1]
    · simp only [lm_one, fx_X12_one, fx_X12_isViewer, n2, n1, pz_l, g2, if_true, Option.map_some]
  have hv8 : v < 8 := by omega
  obtain ⟨o1, o2⟩ := h4 v hv8
  obtain ⟨⟨k1, k2⟩, m1, m2⟩ := h5 v hv8
  refine ⟨fx_X11_one (nI v) a2 S, S, M, rfl, ?_, T, h⟩
  by_cases b0 : a2 = 0
  · subst b0
    simp only [lm_one, fx_X12_one, fx_X12_isViewer, n2, n1, pz_l, g2, if_true, pz_eqF (show 1 ≠ 0 by decide) (by decide) (by decide), if_false]
    simp (disch := omega) only [pz_l, pz_ltT, pz_ltF, pz_leT, pz_leF, pz_eqT, pz_eqF, pz_nF, pz_nqF, pz_cl, pz_rd, pz_up, pz_bd, pz_let, pk_mul, nI_add, pz_sub, pz_div, pz_m, pz_neg1, eq_self, or_self, false_or, or_false, true_or, or_true, ↓reduceIte, if_true, if_false, fx_X11_one, fx_X11_isViewer, n1, g1, Nat.add_zero, o1, Option.map_some]
  by_cases b1 : a2 = 1
  · subst b1
    simp only [lm_one, fx_X12_one, fx_X12_isViewer, n2, n1, pz_l, g2, if_true, pz_eqF (show 1 ≠ 0 by decide) (by decide) (by decide), pz_eqF (show 0 ≠ 1 by decide) (by decide) (by decide), if_false]
    simp (disch := omega) only [pz_l, pz_ltT, pz_ltF, pz_leT, pz_leF, pz_eqT, pz_eqF, pz_nF, pz_nqF, pz_cl, pz_rd, pz_up, pz_bd, pz_let, pk_mul, nI_add, pz_sub, pz_div, pz_m, pz_neg1, eq_self, or_self, false_or, or_false, true_or, or_true, ↓reduceIte, if_true, if_false, fx_X11_one, fx_X11_isViewer, n1, g1, Nat.add_zero, o2, Option.map_some]
  have g3 : fx_X12_isViewer (nI v) M = 1 := by
    unfold fx_X12_isViewer; rw [n2, n1]; exact g2
  have g4 : fx_X11_isViewer (nI v) S = 1 := by
    unfold fx_X11_isViewer; rw [n1]; exact g1
  have eM : fx_X12_one (nI v) a2 M = some (fx_X11_one (nI v) a2 S) := by
    unfold fx_X12_one fx_X11_one
    rw [if_neg (show ¬ fx_X12_isViewer (nI v) M = 0 by rw [g3]; decide), if_neg (show ¬ fx_X11_isViewer (nI v) S = 0 by rw [g4]; decide), if_neg b0, if_neg b1, if_neg b0, if_neg b1]
    by_cases b2 : a2 = 2
    · rw [if_pos b2, if_pos b2, if_neg (nI_in hv8 (by decide)), pz_cl (by omega), k2, pz_rd hv8 (by decide)]
    · rw [if_neg b2, if_neg b2]
      by_cases b3 : a2 = 3
      · rw [if_pos b3, if_pos b3, if_neg (nI_in hv8 (by decide)), pz_cl (by omega), m2, pz_rd hv8 (by decide)]
      · rw [if_neg b3, if_neg b3]
  unfold lm_one
  rw [eM]
  rfl
