/-! ===== tour, asks, paint ===== -/
theorem pz_20 : (-(nI 2) = nI 0) = False := eq_false (by decide)
theorem pz_110 : (-(nI 11) = nI 0) = False := eq_false (by decide)
theorem pz_f2 : -(nI 1000000) + -(nI 2) = -(nI 1000002) := by decide
theorem pz_f11 : -(nI 1000000) + -(nI 11) = -(nI 1000011) := by decide
theorem pn_cr (a : Int32) : (fx_X11_isCrowd a = nI 0 ∧ fx_X12_in a (nI 1) (nI 8) = nI 0) ∨ ∃ c, c < 9 ∧ 1 ≤ c ∧ a = nI c ∧ fx_X11_isCrowd a = nI 1 ∧ fx_X12_in a (nI 1) (nI 8) = nI 1 := by
  have e : fx_X11_isCrowd a = fx_X12_in a (nI 1) (nI 8) := rfl
  by_cases h : a < nI 1
  · refine Or.inl ⟨?_, ?_⟩
    · unfold fx_X11_isCrowd; rw [if_pos (show a < 1 from h)]; rfl
    · unfold fx_X12_in; rw [if_pos h]; rfl
  by_cases h2 : nI 8 < a
  · refine Or.inl ⟨?_, ?_⟩
    · unfold fx_X11_isCrowd; rw [if_neg (show ¬ a < 1 from h), if_pos (show (8 : Int32) < a from h2)]; rfl
    · unfold fx_X12_in; rw [if_neg h, if_pos h2]; rfl
  have h3 : ¬ a < 0 := fun q => h (by
    rw [Int32.lt_iff_toInt_lt] at q ⊢
    have : (nI 1).toInt = 1 := by decide
    have : (0 : Int32).toInt = 0 := by decide
    omega)
  obtain ⟨c, hc, rfl⟩ := nI_of2 (n := 8) (M := nI 8) (by decide) h3 (Int32.not_lt.mp h2)
  refine Or.inr ⟨c, by omega, ?_, rfl, ?_, ?_⟩
  · rcases Nat.lt_or_ge c 1 with q | q
    · exact absurd (nI_lt q (by decide)) h
    · exact q
  · unfold fx_X11_isCrowd; rw [if_neg (show ¬ nI c < 1 from h), if_neg (show ¬ (8 : Int32) < nI c from h2)]; rfl
  · unfold fx_X12_in; rw [if_neg h, if_neg h2]; rfl
theorem pn_iv {S : sx_T} {M : sm_T} {n : Nat} (hn : n < 9) (n1 : sx_now_viewers S = nI n) (n3 : sm_viewers M = nI n) (a : Int32) : (fx_X11_isViewer a S = nI 0 ∧ fx_X12_isViewer a M = nI 0) ∨ ∃ v, v < n ∧ a = nI v ∧ fx_X11_isViewer a S = nI 1 ∧ fx_X12_isViewer a M = nI 1 := by
  have e1 : fx_X11_isViewer a S = fx_X11_within a (nI n) := by unfold fx_X11_isViewer; rw [n1]
  have e2 : fx_X12_isViewer a M = fx_X12_in a (nI 0) (nI n - nI 1) := by unfold fx_X12_isViewer; rw [n3]; rfl
  rw [e1, e2]
  exact pn_v a (by omega)
theorem pf_liked {V : pv_V} {r : Nat} {M : sm_T} {S : sx_T} (h : px_B0 V M S) (hr : r < 6) : ∃ S', fx_X10_liked (nI r) S = some (pv_lk V r, S') ∧ px_e S S' := by
  obtain ⟨S1, e1, f1, g1, s1⟩ := pf_saidN (p := 0) h (by decide) (sx_vi_light S r) (sx_vi_damp S r) (nI r)
  obtain ⟨⟨t, ht, lt, tx⟩, k1, m1, -, -, -, ld⟩ := id h
  obtain ⟨l1, l2⟩ := ld r hr
  refine ⟨S1, ?_, f1⟩
  have mm1 : sx_vi_more S1 = V.2.2.1 0 := (f1.1.1 16 (by decide)).trans m1
  have law1 : sx_vi_law (ux_vi_names S (upd (upd (upd (sx_vi_names S) 0 (sx_vi_light S r)) 1 (sx_vi_damp S r)) 2 (nI r))) = sx_vi_law S := rfl
  unfold fx_X10_liked
  rw [pf_look hr, pz_let, law1]
  have e1' : fx_X8_said_r38 (sx_vi_law S) 0 (ux_vi_names S (upd (upd (upd (sx_vi_names S) 0 (sx_vi_light S r)) 1 (sx_vi_damp S r)) 2 (nI r))) = _ := e1
  rw [e1', pz_bd]
  show some (fk_likes (sx_vi_kind S) (nI r) (pe_bd 0 (pe_val (pv_nm (sx_vi_light S r) (sx_vi_damp S r) (nI r) (V.2.2.1 3) (V.2.2.1 1) (V.2.2.1 2)) (V.1 0))) (sx_vi_more S1), S1) = some (pv_lk V r, S1)
  rw [k1, mm1, l1, l2]
  rfl
theorem pf_sayd {V : pv_V} {p r : Nat} {M : sm_T} {S : sx_T} (h : px_B0 V M S) (hp : p < 3) (hr : r < 6) : ∃ S', fx_X10_said (nI p) (nI r) S = some (pe_bd p (pe_val (if p = 2 then pv_n0 V else pv_nr V r) (V.1 p)), S') ∧ px_e S S' := by
  unfold fx_X10_said
  by_cases p2 : p = 2
  · obtain ⟨S1, e1, f1, g1, s1⟩ := pf_saidN (p := p) h hp (nI 0) (nI 0) (nI 0)
    refine ⟨S1, ?_, f1⟩
    rw [if_pos p2, if_pos (show nI p = 2 by rw [p2]; rfl), pf_look0, pz_let]
    show am_bd (fx_X8_said_r38 (sx_vi_law S) (nI p) (ux_vi_names S (upd (upd (upd (sx_vi_names S) 0 (nI 0)) 1 (nI 0)) 2 (nI 0)))) _ = _
    rw [e1, pz_bd]
    rfl
  · obtain ⟨S1, e1, f1, g1, s1⟩ := pf_saidN (p := p) h hp (sx_vi_light S r) (sx_vi_damp S r) (nI r)
    obtain ⟨-, -, -, -, -, -, ld⟩ := id h
    obtain ⟨l1, l2⟩ := ld r hr
    refine ⟨S1, ?_, f1⟩
    rw [if_neg p2, if_neg (show ¬ nI p = 2 from fun q => p2 ((nI_eq (by omega) (by decide)).mp q)), pf_look hr, pz_let]
    show am_bd (fx_X8_said_r38 (sx_vi_law S) (nI p) (ux_vi_names S (upd (upd (upd (sx_vi_names S) 0 (sx_vi_light S r)) 1 (sx_vi_damp S r)) 2 (nI r)))) _ = _
    rw [e1, pz_bd, l1, l2]
    rfl
theorem pq_asks : lq_asks px_R := by
  rintro S M ⟨T, h⟩ a1 a2 a3 a4
  obtain ⟨⟨⟨nv, hnv, n1⟩, n2⟩, -⟩ := id h.1
  rcases pn_w a1 3 2 rfl (by decide) with ⟨g1, g2⟩ | ⟨p, hp, rfl, g1, g2⟩
  · refine ⟨-1000, S, M, ?_, ?_, T, h⟩
    · simp (disch := omega) only [pz_l, pz_ltT, pz_ltF, pz_leT, pz_leF, pz_eqT, pz_eqF, pz_nF, pz_nqF, pz_cl, pz_rd, pz_up, pz_bd, pz_let, pk_mul, nI_add, pz_sub, pz_div, pz_m, pz_neg1, eq_self, or_self, false_or, or_false, true_or, or_true, ↓reduceIte, if_true, if_false, lx_asks, fx_X11_asks, g1]
    · simp (disch := omega) only [pz_l, pz_ltT, pz_ltF, pz_leT, pz_leF, pz_eqT, pz_eqF, pz_nF, pz_nqF, pz_cl, pz_rd, pz_up, pz_bd, pz_let, pk_mul, nI_add, pz_sub, pz_div, pz_m, pz_neg1, eq_self, or_self, false_or, or_false, true_or, or_true, ↓reduceIte, if_true, if_false, lm_asks, fx_X12_asks, g2]
  rcases pn_iv hnv n1 (n2.trans n1) a2 with ⟨k1, k2⟩ | ⟨v, hv, rfl, k1, k2⟩
  · refine ⟨-1000, S, M, ?_, ?_, T, h⟩
    · simp (disch := omega) only [pz_l, pz_ltT, pz_ltF, pz_leT, pz_leF, pz_eqT, pz_eqF, pz_nF, pz_nqF, pz_cl, pz_rd, pz_up, pz_bd, pz_let, pk_mul, nI_add, pz_sub, pz_div, pz_m, pz_neg1, eq_self, or_self, false_or, or_false, true_or, or_true, ↓reduceIte, if_true, if_false, lx_asks, fx_X11_asks, g1, k1]
    · simp (disch := omega) only [pz_l, pz_ltT, pz_ltF, pz_leT, pz_leF, pz_eqT, pz_eqF, pz_nF, pz_nqF, pz_cl, pz_rd, pz_up, pz_bd, pz_let, pk_mul, nI_add, pz_sub, pz_div, pz_m, pz_neg1, eq_self, or_self, false_or, or_false, true_or, or_true, ↓reduceIte, if_true, if_false, lm_asks, fx_X12_asks, g2, k2]
  rcases pn_w a3 6 5 rfl (by decide) with ⟨q1, q2⟩ | ⟨r, hr, rfl, q1, q2⟩
  · refine ⟨-1000, S, M, ?_, ?_, T, h⟩
    · simp (disch := omega) only [pz_l, pz_ltT, pz_ltF, pz_leT, pz_leF, pz_eqT, pz_eqF, pz_nF, pz_nqF, pz_cl, pz_rd, pz_up, pz_bd, pz_let, pk_mul, nI_add, pz_sub, pz_div, pz_m, pz_neg1, eq_self, or_self, false_or, or_false, true_or, or_true, ↓reduceIte, if_true, if_false, lx_asks, fx_X11_asks, g1, k1, q1]
    · simp (disch := omega) only [pz_l, pz_ltT, pz_ltF, pz_leT, pz_leF, pz_eqT, pz_eqF, pz_nF, pz_nqF, pz_cl, pz_rd, pz_up, pz_bd, pz_let, pk_mul, nI_add, pz_sub, pz_div, pz_m, pz_neg1, eq_self, or_self, false_or, or_false, true_or, or_true, ↓reduceIte, if_true, if_false, lm_asks, fx_X12_asks, fx_X12_isRoom, g2, k2, q2]
  rcases pn_cr a4 with ⟨c1, c2⟩ | ⟨cr, hcr, hc1, rfl, c1, c2⟩
  · refine ⟨-1000, S, M, ?_, ?_, T, h⟩
    · simp (disch := omega) only [pz_l, pz_ltT, pz_ltF, pz_leT, pz_leF, pz_eqT, pz_eqF, pz_nF, pz_nqF, pz_cl, pz_rd, pz_up, pz_bd, pz_let, pk_mul, nI_add, pz_sub, pz_div, pz_m, pz_neg1, eq_self, or_self, false_or, or_false, true_or, or_true, ↓reduceIte, if_true, if_false, lx_asks, fx_X11_asks, g1, k1, q1, c1]
    · simp (disch := omega) only [pz_l, pz_ltT, pz_ltF, pz_leT, pz_leF, pz_eqT, pz_eqF, pz_nF, pz_nqF, pz_cl, pz_rd, pz_up, pz_bd, pz_let, pk_mul, nI_add, pz_sub, pz_div, pz_m, pz_neg1, eq_self, or_self, false_or, or_false, true_or, or_true, ↓reduceIte, if_true, if_false, lm_asks, fx_X12_asks, fx_X12_isRoom, g2, k2, q2, c2]
  obtain ⟨S1, t, p1, p2, p3, p4, p5⟩ := pf_supA h
  have f1 : px_f px_es px_ea S S1 := px_fm p2 (by decide) (by decide)
  have b0 := px_lcB (v := v) (cr := cr) p5
  rw [show sx_kindOf S1 = sx_kindOf S from p2.2 8 (by decide), show sx_moreOf S1 = sx_moreOf S from p2.2 9 (by decide), show sx_now_rich S1 = sx_now_rich S from p2.2 2 (by decide)] at b0
  obtain ⟨S2, e2, f2⟩ := pf_sayd b0 hp hr
  obtain ⟨M2, s2, m2⟩ := pe_asks (pq_mC h p4 p3 (show v < 8 by omega) hcr) hp hr
  have f3 : px_f px_es px_ea S S2 := px_ft (px_ft f1 (px_fm (px_lcf v cr S1) (by decide) (by decide))) (px_fm f2.1 (by decide) (by decide))
  refine ⟨pe_bd p (pe_val (if p = 2 then pv_n0 (pv_cur T t S v cr) else pv_nr (pv_cur T t S v cr) r) (T t p)), S2, M2, ?_, ?_, T, px_Qf h f3 (pm_fe m2)⟩
  · simp (disch := omega) only [pz_l, pz_ltT, pz_ltF, pz_leT, pz_leF, pz_eqT, pz_eqF, pz_nF, pz_nqF, pz_cl, pz_rd, pz_up, pz_bd, pz_let, pk_mul, nI_add, pz_sub, pz_div, pz_m, pz_neg1, eq_self, or_self, false_or, or_false, true_or, or_true, ↓reduceIte, if_true, if_false, lx_asks, fx_X11_asks, g1, k1, q1, c1, p1, pf_lc (show v < 8 by omega) hcr]
    exact (congrArg (fun o => am_bd o _) e2).trans rfl
  · simp (disch := omega) only [pz_l, pz_ltT, pz_ltF, pz_leT, pz_leF, pz_eqT, pz_eqF, pz_nF, pz_nqF, pz_cl, pz_rd, pz_up, pz_bd, pz_let, pk_mul, nI_add, pz_sub, pz_div, pz_m, pz_neg1, eq_self, or_self, false_or, or_false, true_or, or_true, ↓reduceIte, if_true, if_false, lm_asks, fx_X12_asks, fx_X12_isRoom, g2, k2, q2, c2]
    exact (congrArg (fun o => am_bd o _) s2).trans rfl
theorem pq_tour : lq_tour px_R := by
  rintro S M ⟨T, h⟩ a1 a2 a3 a4
  obtain ⟨⟨⟨nv, hnv, n1⟩, n2⟩, -⟩ := id h.1
  rcases pq_start h a1 with ⟨M1, e, he, e1, e2, f2⟩ | ⟨s, W, n, t, S1, M1, rfl, hs, e1, e2, f1, f2', ⟨ht, lt⟩, hA, hL, ⟨wl, wy⟩, hW, -, -⟩
  · rcases he with rfl | ⟨rfl, -⟩
    · refine ⟨-1000002, S, M1, ?_, ?_, T, px_Qf h px_fr f2⟩
      · simp (disch := omega) only [pz_l, pz_ltT, pz_ltF, pz_leT, pz_leF, pz_eqT, pz_eqF, pz_nF, pz_nqF, pz_cl, pz_rd, pz_up, pz_bd, pz_let, pk_mul, nI_add, pz_sub, pz_div, pz_m, pz_neg1, eq_self, or_self, false_or, or_false, true_or, or_true, ↓reduceIte, if_true, if_false, lx_tour, fx_X11_tour, e1, pz_20, pz_110, pz_f2, pz_f11]
      · simp (disch := omega) only [pz_l, pz_ltT, pz_ltF, pz_leT, pz_leF, pz_eqT, pz_eqF, pz_nF, pz_nqF, pz_cl, pz_rd, pz_up, pz_bd, pz_let, pk_mul, nI_add, pz_sub, pz_div, pz_m, pz_neg1, eq_self, or_self, false_or, or_false, true_or, or_true, ↓reduceIte, if_true, if_false, lm_tour, fx_X12_tour, e2, pz_20, pz_110, pz_f2, pz_f11]
    · refine ⟨-1000011, S, M1, ?_, ?_, T, px_Qf h px_fr f2⟩
      · simp (disch := omega) only [pz_l, pz_ltT, pz_ltF, pz_leT, pz_leF, pz_eqT, pz_eqF, pz_nF, pz_nqF, pz_cl, pz_rd, pz_up, pz_bd, pz_let, pk_mul, nI_add, pz_sub, pz_div, pz_m, pz_neg1, eq_self, or_self, false_or, or_false, true_or, or_true, ↓reduceIte, if_true, if_false, lx_tour, fx_X11_tour, e1, pz_20, pz_110, pz_f2, pz_f11]
      · simp (disch := omega) only [pz_l, pz_ltT, pz_ltF, pz_leT, pz_leF, pz_eqT, pz_eqF, pz_nF, pz_nqF, pz_cl, pz_rd, pz_up, pz_bd, pz_let, pk_mul, nI_add, pz_sub, pz_div, pz_m, pz_neg1, eq_self, or_self, false_or, or_false, true_or, or_true, ↓reduceIte, if_true, if_false, lm_tour, fx_X12_tour, e2, pz_20, pz_110, pz_f2, pz_f11]
  have f2 : pm_f pm_es pm_ea M M1 := pm_fm f2' (by decide) (by decide)
  have n1' : sx_now_viewers S1 = nI nv := (f1.1 2 (by decide)).trans n1
  have n3' : sm_viewers M1 = nI nv := (f2.1 0 (by decide)).trans (n2.trans n1)
  have hq1 : px_Q T S1 M1 := px_Qf h f1 f2
  rcases pn_iv hnv n1' n3' a2 with ⟨k1, k2⟩ | ⟨v, hv, rfl, k1, k2⟩
  · refine ⟨-1000007, S1, M1, ?_, ?_, T, hq1⟩
    · simp (disch := omega) only [pz_l, pz_ltT, pz_ltF, pz_leT, pz_leF, pz_eqT, pz_eqF, pz_nF, pz_nqF, pz_cl, pz_rd, pz_up, pz_bd, pz_let, pk_mul, nI_add, pz_sub, pz_div, pz_m, pz_neg1, eq_self, or_self, false_or, or_false, true_or, or_true, ↓reduceIte, if_true, if_false, lx_tour, fx_X11_tour, e1, k1]
    · simp (disch := omega) only [pz_l, pz_ltT, pz_ltF, pz_leT, pz_leF, pz_eqT, pz_eqF, pz_nF, pz_nqF, pz_cl, pz_rd, pz_up, pz_bd, pz_let, pk_mul, nI_add, pz_sub, pz_div, pz_m, pz_neg1, eq_self, or_self, false_or, or_false, true_or, or_true, ↓reduceIte, if_true, if_false, lm_tour, fx_X12_tour, e2, k2]
  rcases pn_cr a3 with ⟨c1, c2⟩ | ⟨cr, hcr, hc1, rfl, c1, c2⟩
  · refine ⟨-1000007, S1, M1, ?_, ?_, T, hq1⟩
    · simp (disch := omega) only [pz_l, pz_ltT, pz_ltF, pz_leT, pz_leF, pz_eqT, pz_eqF, pz_nF, pz_nqF, pz_cl, pz_rd, pz_up, pz_bd, pz_let, pk_mul, nI_add, pz_sub, pz_div, pz_m, pz_neg1, eq_self, or_self, false_or, or_false, true_or, or_true, ↓reduceIte, if_true, if_false, lx_tour, fx_X11_tour, e1, k1, c1]
    · simp (disch := omega) only [pz_l, pz_ltT, pz_ltF, pz_leT, pz_leF, pz_eqT, pz_eqF, pz_nF, pz_nqF, pz_cl, pz_rd, pz_up, pz_bd, pz_let, pk_mul, nI_add, pz_sub, pz_div, pz_m, pz_neg1, eq_self, or_self, false_or, or_false, true_or, or_true, ↓reduceIte, if_true, if_false, lm_tour, fx_X12_tour, e2, k2, c2]
  rcases pn_w a4 3 2 rfl (by decide) with ⟨q1, q2⟩ | ⟨w, hw, rfl, q1, q2⟩
  · refine ⟨-1000007, S1, M1, ?_, ?_, T, hq1⟩
    · simp (disch := omega) only [pz_l, pz_ltT, pz_ltF, pz_leT, pz_leF, pz_eqT, pz_eqF, pz_nF, pz_nqF, pz_cl, pz_rd, pz_up, pz_bd, pz_let, pk_mul, nI_add, pz_sub, pz_div, pz_m, pz_neg1, eq_self, or_self, false_or, or_false, true_or, or_true, ↓reduceIte, if_true, if_false, lx_tour, fx_X11_tour, e1, k1, c1, q1]
    · simp (disch := omega) only [pz_l, pz_ltT, pz_ltF, pz_leT, pz_leF, pz_eqT, pz_eqF, pz_nF, pz_nqF, pz_cl, pz_rd, pz_up, pz_bd, pz_let, pk_mul, nI_add, pz_sub, pz_div, pz_m, pz_neg1, eq_self, or_self, false_or, or_false, true_or, or_true, ↓reduceIte, if_true, if_false, lm_tour, fx_X12_tour, e2, k2, c2, q2]
  have v8 : v < 8 := by omega
  have hC := pq_lcC f1 hA hL v cr
  have hM := pm_Cf (pq_mC h lt ht v8 hcr) f2
  have fl : px_f px_es px_ea S1 (pt_lc v cr S1) := px_fm (px_lcf v cr S1) (by decide) (by decide)
  have hw3 : w = 0 ∨ w = 1 ∨ w = 2 := by omega
  rcases hw3 with rfl | rfl | rfl
  · obtain ⟨S2, x1, x2, x3⟩ := pf_mind hC
    obtain ⟨M2, y1, y2⟩ := pe_mind hM hW
    refine ⟨pv_mi (pv_cur T t S v cr) W n, S2, M2, ?_, ?_, T, px_Qf (px_Qf hq1 fl pm_fr) (px_ge x2) (pm_fe y2)⟩
    · simp (disch := omega) only [pz_l, pz_ltT, pz_ltF, pz_leT, pz_leF, pz_eqT, pz_eqF, pz_nF, pz_nqF, pz_cl, pz_rd, pz_up, pz_bd, pz_let, pk_mul, nI_add, pz_sub, pz_div, pz_m, pz_neg1, eq_self, or_self, false_or, or_false, true_or, or_true, ↓reduceIte, if_true, if_false, lx_tour, fx_X11_tour, e1, k1, c1, q1, pf_lc v8 hcr, x1]
    · simp (disch := omega) only [pz_l, pz_ltT, pz_ltF, pz_leT, pz_leF, pz_eqT, pz_eqF, pz_nF, pz_nqF, pz_cl, pz_rd, pz_up, pz_bd, pz_let, pk_mul, nI_add, pz_sub, pz_div, pz_m, pz_neg1, eq_self, or_self, false_or, or_false, true_or, or_true, ↓reduceIte, if_true, if_false, lm_tour, fx_X12_tour, e2, k2, c2, q2, y1]
  · obtain ⟨S2, x1, x2, x3⟩ := pf_offer hC
    obtain ⟨M2, y1, y2⟩ := pe_offer hM hW
    refine ⟨pv_of (pv_cur T t S v cr) W n, S2, M2, ?_, ?_, T, px_Qf (px_Qf hq1 fl pm_fr) (px_ge x2) (pm_fe y2)⟩
    · simp (disch := omega) only [pz_l, pz_ltT, pz_ltF, pz_leT, pz_leF, pz_eqT, pz_eqF, pz_nF, pz_nqF, pz_cl, pz_rd, pz_up, pz_bd, pz_let, pk_mul, nI_add, pz_sub, pz_div, pz_m, pz_neg1, eq_self, or_self, false_or, or_false, true_or, or_true, ↓reduceIte, if_true, if_false, lx_tour, fx_X11_tour, e1, k1, c1, q1, pf_lc v8 hcr, x1]
    · simp (disch := omega) only [pz_l, pz_ltT, pz_ltF, pz_leT, pz_leF, pz_eqT, pz_eqF, pz_nF, pz_nqF, pz_cl, pz_rd, pz_up, pz_bd, pz_let, pk_mul, nI_add, pz_sub, pz_div, pz_m, pz_neg1, eq_self, or_self, false_or, or_false, true_or, or_true, ↓reduceIte, if_true, if_false, lm_tour, fx_X12_tour, e2, k2, c2, q2, y1]
  · have wl2 : sx_wayLength (pt_lc v cr S1) = nI n := wl
    obtain ⟨r1, r2, r3⟩ := id hW
    by_cases n0 : n = 0
    · subst n0
      refine ⟨0, pt_lc v cr S1, M1, ?_, ?_, T, px_Qf hq1 fl pm_fr⟩
      · simp (disch := omega) only [pz_l, pz_ltT, pz_ltF, pz_leT, pz_leF, pz_eqT, pz_eqF, pz_nF, pz_nqF, pz_cl, pz_rd, pz_up, pz_bd, pz_let, pk_mul, nI_add, pz_sub, pz_div, pz_m, pz_neg1, eq_self, or_self, false_or, or_false, true_or, or_true, ↓reduceIte, if_true, if_false, lx_tour, fx_X11_tour, e1, k1, c1, q1, pf_lc v8 hcr, wl2]
      · simp (disch := omega) only [pz_l, pz_ltT, pz_ltF, pz_leT, pz_leF, pz_eqT, pz_eqF, pz_nF, pz_nqF, pz_cl, pz_rd, pz_up, pz_bd, pz_let, pk_mul, nI_add, pz_sub, pz_div, pz_m, pz_neg1, eq_self, or_self, false_or, or_false, true_or, or_true, ↓reduceIte, if_true, if_false, lm_tour, fx_X12_tour, e2, k2, c2, q2, r1]
    · obtain ⟨w6, row⟩ := r3 (n - 1) (by omega)
      obtain ⟨S2, x1, x2⟩ := pf_liked hC.1.1 w6
      obtain ⟨M2, y1, y2⟩ := pe_likes hM w6
      have wy2 : sx_way (pt_lc v cr S1) (n - 1) = nI (W (n - 1)) := wy (n - 1) (by omega)
      refine ⟨pv_lk (pv_cur T t S v cr) (W (n - 1)), S2, M2, ?_, ?_, T, px_Qf (px_Qf hq1 fl pm_fr) (px_ge (px_eg x2)) (pm_fe y2)⟩
      · simp (disch := omega) only [pz_l, pz_ltT, pz_ltF, pz_leT, pz_leF, pz_eqT, pz_eqF, pz_nF, pz_nqF, pz_cl, pz_rd, pz_up, pz_bd, pz_let, pk_mul, nI_add, pz_sub, pz_div, pz_m, pz_neg1, eq_self, or_self, false_or, or_false, true_or, or_true, ↓reduceIte, if_true, if_false, lx_tour, fx_X11_tour, e1, k1, c1, q1, pf_lc v8 hcr, wl2, wy2, x1]
      · simp (disch := omega) only [pz_l, pz_ltT, pz_ltF, pz_leT, pz_leF, pz_eqT, pz_eqF, pz_nF, pz_nqF, pz_cl, pz_rd, pz_up, pz_bd, pz_let, pk_mul, nI_add, pz_sub, pz_div, pz_m, pz_neg1, eq_self, or_self, false_or, or_false, true_or, or_true, ↓reduceIte, if_true, if_false, lm_tour, fx_X12_tour, e2, k2, c2, q2, r1, row, y1]
