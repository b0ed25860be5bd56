/-! ===== drawn, odds ===== -/
theorem pf_dig {P : Nat → Nat} {S : sx_T} {M : sm_T} (hP : ∀ i, i < 6 → P i < 6 ∧ sx_order S i = nI (P i)) (hR : ∀ i, i < 6 → sm_row M i = nI (P i)) : ∀ (d i g g' : Nat) (x : Int32), i + d = 6 → d < g → d < g' → ∃ y, fx_X11_digitsOfOrder_4 S g x (nI i) = some y ∧ fx_X12_drawn_66 g' x (nI i) M = some (y, M) := by
  intro d
  induction d with
  | zero =>
    intro i g g' x h1 h2 h3
    obtain ⟨f, rfl⟩ : ∃ f, g = f + 1 := ⟨g - 1, by omega⟩
    obtain ⟨f', rfl⟩ : ∃ f, g' = f + 1 := ⟨g' - 1, by omega⟩
    have hi : i = 6 := by omega
    subst hi
    refine ⟨x, ?_, ?_⟩
    · rw [fx_X11_digitsOfOrder_4, if_pos (show (6 : Int32) ≤ nI 6 by decide)]
    · rw [fx_X12_drawn_66, if_pos (show (6 : Int32) ≤ nI 6 by decide)]
  | succ d ih =>
    intro i g g' x h1 h2 h3
    obtain ⟨f, rfl⟩ : ∃ f, g = f + 1 := ⟨g - 1, by omega⟩
    obtain ⟨f', rfl⟩ : ∃ f, g' = f + 1 := ⟨g' - 1, by omega⟩
    obtain ⟨y, b1, b2⟩ := ih (i + 1) f f' (10 * x + nI (P i) + 1) (by omega) (by omega) (by omega)
    refine ⟨y, Eq.trans ?_ b1, Eq.trans ?_ b2⟩
    · rw [fx_X11_digitsOfOrder_4, if_neg (show ¬ (6 : Int32) ≤ nI i from nI_ge (b := 6) (by omega) (by decide)), pz_rd (by omega) (by decide), (hP i (by omega)).2, show nI i + 1 = nI (i + 1) from (nI_succ i).symm]
    · rw [fx_X12_drawn_66, if_neg (show ¬ (6 : Int32) ≤ nI i from nI_ge (b := 6) (by omega) (by decide)), if_neg (nI_in (show i < 6 by omega) (by decide)), pz_cl (by omega), hR i (by omega), show nI i + 1 = nI (i + 1) from (nI_succ i).symm]
theorem pq_drawn : lq_drawn px_R := by
  rintro S M ⟨T, h⟩ a1 a2 a3
  obtain ⟨⟨⟨nv, hnv, n1⟩, n2⟩, -⟩ := id h.1
  rcases pn_w a1 100000 99999 rfl (by decide) with ⟨g1, g2⟩ | ⟨sd, hsd, rfl, g1, g2⟩
  · refine ⟨-1000007, S, M, ?_, ?_, T, h⟩
    · simp (disch := omega) only [pz_l, pz_ltT, pz_ltF, pz_leT, pz_leF, pz_eqT, pz_eqF, pz_nF, pz_nqF, pz_cl, pz_rd, pz_up, pz_bd, pz_let, pk_mul, nI_add, pz_sub, pz_div, pz_m, pz_neg1, eq_self, or_self, false_or, or_false, true_or, or_true, ↓reduceIte, if_true, if_false, lx_drawn, fx_X11_drawn, g1]
    · simp (disch := omega) only [pz_l, pz_ltT, pz_ltF, pz_leT, pz_leF, pz_eqT, pz_eqF, pz_nF, pz_nqF, pz_cl, pz_rd, pz_up, pz_bd, pz_let, pk_mul, nI_add, pz_sub, pz_div, pz_m, pz_neg1, eq_self, or_self, false_or, or_false, true_or, or_true, ↓reduceIte, if_true, if_false, lm_drawn, fx_X12_drawn, g2]
  rcases pn_iv hnv n1 (n2.trans n1) a2 with ⟨k1, k2⟩ | ⟨v, hv, rfl, k1, k2⟩
  · refine ⟨-1000007, S, M, ?_, ?_, T, h⟩
    · simp (disch := omega) only [pz_l, pz_ltT, pz_ltF, pz_leT, pz_leF, pz_eqT, pz_eqF, pz_nF, pz_nqF, pz_cl, pz_rd, pz_up, pz_bd, pz_let, pk_mul, nI_add, pz_sub, pz_div, pz_m, pz_neg1, eq_self, or_self, false_or, or_false, true_or, or_true, ↓reduceIte, if_true, if_false, lx_drawn, fx_X11_drawn, g1, k1]
    · simp (disch := omega) only [pz_l, pz_ltT, pz_ltF, pz_leT, pz_leF, pz_eqT, pz_eqF, pz_nF, pz_nqF, pz_cl, pz_rd, pz_up, pz_bd, pz_let, pk_mul, nI_add, pz_sub, pz_div, pz_m, pz_neg1, eq_self, or_self, false_or, or_false, true_or, or_true, ↓reduceIte, if_true, if_false, lm_drawn, fx_X12_drawn, g2, k2]
  rcases pn_w a3 3 2 rfl (by decide) with ⟨q1, q2⟩ | ⟨w, hw, rfl, q1, q2⟩
  · refine ⟨-1000007, S, M, ?_, ?_, T, h⟩
    · simp (disch := omega) only [pz_l, pz_ltT, pz_ltF, pz_leT, pz_leF, pz_eqT, pz_eqF, pz_nF, pz_nqF, pz_cl, pz_rd, pz_up, pz_bd, pz_let, pk_mul, nI_add, pz_sub, pz_div, pz_m, pz_neg1, eq_self, or_self, false_or, or_false, true_or, or_true, ↓reduceIte, if_true, if_false, lx_drawn, fx_X11_drawn, g1, k1, q1]
    · simp (disch := omega) only [pz_l, pz_ltT, pz_ltF, pz_leT, pz_leF, pz_eqT, pz_eqF, pz_nF, pz_nqF, pz_cl, pz_rd, pz_up, pz_bd, pz_let, pk_mul, nI_add, pz_sub, pz_div, pz_m, pz_neg1, eq_self, or_self, false_or, or_false, true_or, or_true, ↓reduceIte, if_true, if_false, lm_drawn, fx_X12_drawn, g2, k2, q2]
  have v8 : v < 8 := by omega
  have x1 : ¬ fx_X11_within (nI sd) 100000 = 0 := by rw [show fx_X11_within (nI sd) 100000 = nI 1 from g1]; decide
  have x2 : ¬ fx_X11_isViewer (nI v) S = 0 := by rw [k1]; decide
  have x3 : ¬ fx_X11_within (nI w) 3 = 0 := by rw [show fx_X11_within (nI w) 3 = nI 1 from q1]; decide
  have y1 : ¬ fx_X12_in (nI sd) 0 99999 = 0 := by rw [show fx_X12_in (nI sd) 0 99999 = nI 1 from g2]; decide
  have y2 : ¬ fx_X12_isViewer (nI v) M = 0 := by rw [k2]; decide
  have y3 : ¬ fx_X12_in (nI w) 0 2 = 0 := by rw [show fx_X12_in (nI w) 0 2 = nI 1 from q2]; decide
  obtain ⟨P, S1, M1, o1, o2, o3, o4, o5, o6, o7⟩ := pq_orders (show sd < 200000 by omega) S M
  have fS1 : px_f px_es px_ea S S1 := px_fm o3 (by decide) (by decide)
  have fM1 : pm_f pm_es pm_ea M M1 := pm_fm o5 (by decide) (by decide)
  have hq1 : px_Q T S1 M := px_Qf h fS1 pm_fr
  by_cases w0 : w = 0
  · subst w0
    obtain ⟨y, d1, d2⟩ := pf_dig o6 (fun i hi => (o7.2.2 i hi).2) 6 0 am_fu am_fu 0 (by omega) (by rw [pf_u]; decide) (by rw [pf_u]; decide)
    have d1' : fx_X11_digitsOfOrder S1 = some y := d1
    refine ⟨y, S1, M1, ?_, ?_, T, px_Qf h fS1 fM1⟩
    · unfold lx_drawn fx_X11_drawn
      rw [if_neg x1, if_neg x2, if_neg x3, o1, pz_bd, if_pos (show nI 0 = 0 from rfl), d1', pz_bd]
    · unfold lm_drawn fx_X12_drawn
      rw [if_neg y1, if_neg y2, if_neg y3, o2, pz_bd, if_pos (show nI 0 ≤ 0 by decide)]
      exact d2
  have w0' : ¬ nI w = 0 := nI_ne0 (by omega) (by omega)
  have w0'' : ¬ nI w ≤ 0 := nI_nle (by omega) (by omega)
  obtain ⟨S2, t, p1, p2, p3, p4, p5⟩ := pf_supA hq1
  have b0 := px_lcB (v := v) (cr := 1) p5
  have o3' : px_f px_es px_ea S S2 := px_ft fS1 (px_fm p2 (by decide) (by decide))
  have lc : fx_X11_letCome (nI v) 1 S2 = pt_lc v 1 S2 := pf_lc v8 (show 1 < 9 by decide) S2
  have ho : ∀ i, i < 6 → P i < 6 ∧ sx_order (pt_lc v 1 S2) i = nI (P i) := by
    intro i hi
    have e1 : sx_order (pt_lc v 1 S2) = sx_order S2 := (px_lcf v 1 S2).2 25 (by decide)
    have e2 : sx_order S2 = sx_order S1 := p2.2 25 (by decide)
    rw [e1, e2]; exact o6 i hi
  obtain ⟨S3, r1, r2, r3, r4, r5⟩ := pf_wk0_r41 (n := 6) (by decide) (pt_lc v 1 S2) ho
  have r1' : fx_X10_walk_r41 6 (-1) (pt_lc v 1 S2) = some S3 := r1
  have hC : px_C (pv_cur T t S v 1) P 6 M S3 := by
    have hb := px_B0w b0 r2 r3
    rw [show sx_kindOf S2 = sx_kindOf S from o3'.2 8 (by decide), show sx_moreOf S2 = sx_moreOf S from o3'.2 9 (by decide), show sx_now_rich S2 = sx_now_rich S from o3'.2 2 (by decide), show sx_now_hour S1 = sx_now_hour S from fS1.1 3 (by decide), show sx_now_light S1 = sx_now_light S from fS1.2 0 (by decide), show sx_now_damp S1 = sx_now_damp S from fS1.2 1 (by decide)] at hb
    exact ⟨⟨hb, r5⟩, px_K0 r4⟩
  have lt : sx_now_law S = nI t := (fS1.1 4 (by decide)).symm.trans p4
  have hM := pm_Cf (pq_mC (cr := 1) h lt p3 v8 (by decide)) fM1
  have fS3 : px_f px_es px_ea S S3 := px_ft o3' (px_ft (px_fm (px_lcf v 1 S2) (by decide) (by decide)) (px_fm r2 (by decide) (by decide)))
  by_cases w1 : w = 1
  · subst w1
    obtain ⟨S4, u1, u2, -⟩ := pf_mind hC
    obtain ⟨M2, z1, z2⟩ := pe_mind hM o7
    refine ⟨pv_mi (pv_cur T t S v 1) P 6, S4, M2, ?_, ?_, T, px_Qf h (px_ft fS3 (px_ge u2)) (pm_ft fM1 (pm_fe z2))⟩
    · unfold lx_drawn fx_X11_drawn
      rw [if_neg x1, if_neg x2, if_neg x3, o1, pz_bd, if_neg w0', p1, pz_bd, lc, pz_let, r1', pz_bd, if_pos (show nI 1 = 1 from rfl), u1, pz_bd]
    · have z1' : fx_X12_mindOf (nI v) 1 M1 = _ := z1
      unfold lm_drawn fx_X12_drawn
      rw [if_neg y1, if_neg y2, if_neg y3, o2, pz_bd, if_neg w0'', if_pos (show nI 1 = 1 from rfl), z1', pz_bd]
  · have w1' : ¬ nI w = 1 := fun q => w1 ((nI_eq (b := 1) (by omega) (by decide)).mp q)
    obtain ⟨S4, u1, u2, -⟩ := pf_offer hC
    obtain ⟨M2, z1, z2⟩ := pe_offer hM o7
    refine ⟨pv_of (pv_cur T t S v 1) P 6, S4, M2, ?_, ?_, T, px_Qf h (px_ft fS3 (px_ge u2)) (pm_ft fM1 (pm_fe z2))⟩
    · unfold lx_drawn fx_X11_drawn
      rw [if_neg x1, if_neg x2, if_neg x3, o1, pz_bd, if_neg w0', p1, pz_bd, lc, pz_let, r1', pz_bd, if_neg w1', u1, pz_bd]
    · have z1' : fx_X12_offerOf (nI v) 1 M1 = _ := z1
      unfold lm_drawn fx_X12_drawn
      rw [if_neg y1, if_neg y2, if_neg y3, o2, pz_bd, if_neg w0'', if_neg w1', z1', pz_bd]
theorem px_B0y {V : pv_V} {M : sm_T} {S S' : sx_T} (h : px_B0 V M S) (f : px_f [1, 15, 20] [22, 25, 26, 27, 28] S S') (kk : sx_vi_kind S' = sx_vi_kind S) : px_B0 V M S' := by
  obtain ⟨x, y⟩ := f
  have a16 : sx_vi_more S' = sx_vi_more S := x 16 (by decide)
  have a17 : sx_vi_crowd S' = sx_vi_crowd S := x 17 (by decide)
  have a18 : sx_vi_law S' = sx_vi_law S := x 18 (by decide)
  have a19 : sx_vi_hour S' = sx_vi_hour S := x 19 (by decide)
  have b10 : sx_tx_steps S' = sx_tx_steps S := y 10 (by decide)
  have b11 : sx_tx_ends S' = sx_tx_ends S := y 11 (by decide)
  have b12 : sx_tx_named S' = sx_tx_named S := y 12 (by decide)
  have b20 : sx_vi_light S' = sx_vi_light S := y 20 (by decide)
  have b21 : sx_vi_damp S' = sx_vi_damp S := y 21 (by decide)
  have b23 : sx_vi_names S' = sx_vi_names S := y 23 (by decide)
  unfold px_B0 pr_tx1 at h ⊢
  rw [a16, a17, a18, a19, b10, b11, b12, b20, b21, b23, kk]
  exact h
theorem pf_odd {T : Nat → Nat → List Int32} {t v sd n x p : Nat} {S : sx_T} {M : sm_T} (h : px_Q T S M) (lt : sx_now_law S = nI t) (ht : t < 6) (hv : v < 8) (hsd : sd < 100000) (hn : n < 41) (hn1 : 0 < n) (hx : x < 80000) (hxv : x / 10000 = v) (hp : p < 2) : ∀ (d k g g' a : Nat) (S' : sx_T) (M' : sm_T), k + d = n → d < g → d < g' → a ≤ k → px_f px_es px_ea S S' → px_B0 (pv_cur T t S v 1) M S' → pm_f pm_es pm_ea M M' → ∃ r S2 M2, fx_X11_odds_80 g (nI sd) (nI n) (nI x) (nI p) (nI a) (nI k) S' = some (r, S2) ∧ fx_X12_odds_75 g' (nI sd) (nI n) (nI x) (nI p) (lN a) (nI k) M' = some (r, M2) ∧ px_f px_es px_ea S S2 ∧ pm_f pm_es pm_ea M M2 := by
  intro d
  induction d with
  | zero =>
    intro k g g' a S' M' h1 h2 h3 ha fS hB fM
    obtain ⟨f, rfl⟩ : ∃ f, g = f + 1 := ⟨g - 1, by omega⟩
    obtain ⟨f', rfl⟩ : ∃ f, g' = f + 1 := ⟨g' - 1, by omega⟩
    have hk : k = n := by omega
    subst hk
    obtain ⟨r, l1, l2⟩ := pl_low (a := a) (b := k) (p := p) ha (by omega) hn1 hp
    refine ⟨r, S', M', ?_, ?_, fS, fM⟩
    · rw [fx_X11_odds_80, if_pos (nI_le (Nat.le_refl k) (by omega)), l1, pz_bd]
    · rw [fx_X12_odds_75, if_pos (nI_le (Nat.le_refl k) (by omega)), nI_l (by omega), l2, pz_bd]
  | succ d ih =>
    intro k g g' a S' M' h1 h2 h3 ha fS hB fM
    obtain ⟨f, rfl⟩ : ∃ f, g = f + 1 := ⟨g - 1, by omega⟩
    obtain ⟨f', rfl⟩ : ∃ f, g' = f + 1 := ⟨g' - 1, by omega⟩
    obtain ⟨P, S1, M1, o1, o2, o3, o4, o5, o6, o7⟩ := pq_orders (show sd + k < 200000 by omega) S' M'
    obtain ⟨S3, r1, r2, r3, r4, r5⟩ := pf_wk0_r41 (n := 6) (by decide) S1 o6
    have r1' : fx_X10_walk_r41 6 (-1) S1 = some S3 := r1
    have hB1 : px_B0 (pv_cur T t S v 1) M S1 := px_B0y hB (px_fm o3 (by decide) (by decide)) o4
    have hC : px_C (pv_cur T t S v 1) P 6 M S3 := ⟨⟨px_B0w hB1 r2 r3, r5⟩, px_K0 r4⟩
    have fM1 : pm_f pm_es pm_ea M M1 := pm_ft fM (pm_fm o5 (by decide) (by decide))
    have hM := pm_Cf (pq_mC (cr := 1) h lt ht hv (by decide)) fM1
    obtain ⟨S4, u1, u2, u3⟩ := pf_offer hC
    obtain ⟨M2, z1, z2⟩ := pe_offer hM o7
    have fS4 : px_f px_es px_ea S S4 := px_ft fS (px_ft (px_fm o3 (by decide) (by decide)) (px_ft (px_fm r2 (by decide) (by decide)) (px_ge u2)))
    have fM2 : pm_f pm_es pm_ea M M2 := pm_ft fM1 (pm_fe z2)
    generalize pv_of (pv_cur T t S v 1) P 6 = o at u1 z1
    have e1 : nI sd + nI k = nI (sd + k) := nI_add sd k
    have e2 : nI x / 10000 = nI v := by rw [← hxv]; exact pz_div (d := 10000) (by omega) (by decide) (by decide)
    have z1' : fx_X12_offerOf (nI v) 1 M1 = some (o, M2) := z1
    have e3 : nI k + 1 = nI (k + 1) := (nI_succ k).symm
    have e4 : nI a + 1 = nI (a + 1) := (nI_succ a).symm
    have e5 : lN a + 0 = lN a := lN_add a 0
    have e6 : lN a + 1 = lN (a + 1) := lN_1 a
    generalize hth : nI x - nI x / 10000 * 10000 = th
    have hc0 : ¬ nI n ≤ nI k := nI_ge (by omega) (by omega)
    by_cases c : o < th
    · obtain ⟨r, S5, M5, b1, b2, b3, b4⟩ := ih (k + 1) f f' a S4 M2 (by omega) (by omega) (by omega) (by omega) fS4 u3.1.1 fM2
      refine ⟨r, S5, M5, ?_, ?_, b3, b4⟩
      · rw [fx_X11_odds_80, if_neg hc0, e1, o1, pz_bd, r1', pz_bd, u1, pz_bd]
        show (if o < nI x - nI x / 10000 * 10000 then _ else _) = _
        rw [hth, if_pos c, e3]
        exact b1
      · rw [fx_X12_odds_75, if_neg hc0, e1, o2, pz_bd, e2, z1', pz_bd]
        rw [← e2, hth]
        show (if o < th then _ else _) = _
        rw [if_pos c, e5, e3]
        exact b2
    · obtain ⟨r, S5, M5, b1, b2, b3, b4⟩ := ih (k + 1) f f' (a + 1) S4 M2 (by omega) (by omega) (by omega) (by omega) fS4 u3.1.1 fM2
      refine ⟨r, S5, M5, ?_, ?_, b3, b4⟩
      · rw [fx_X11_odds_80, if_neg hc0, e1, o1, pz_bd, r1', pz_bd, u1, pz_bd]
        show (if o < nI x - nI x / 10000 * 10000 then _ else _) = _
        rw [hth, if_neg c, e3, e4]
        exact b1
      · rw [fx_X12_odds_75, if_neg hc0, e1, o2, pz_bd, e2, z1', pz_bd]
        rw [← e2, hth]
        show (if o < th then _ else _) = _
        rw [if_neg c, e6, e3]
        exact b2
theorem pq_odds : lq_odds px_R := by
  rintro S M ⟨T, h⟩ a1 a2 a3 a4
  obtain ⟨⟨⟨nv, hnv, n1⟩, n2⟩, -⟩ := id h.1
  rcases pn_w a1 100000 99999 rfl (by decide) with ⟨g1, g2⟩ | ⟨sd, hsd, rfl, g1, g2⟩
  · refine ⟨-4611686018427387904, S, M, ?_, ?_, T, h⟩
    · simp (disch := omega) only [pz_l, pz_ltT, pz_ltF, pz_leT, pz_leF, pz_eqT, pz_eqF, pz_nF, pz_nqF, pz_cl, pz_rd, pz_up, pz_bd, pz_let, pk_mul, nI_add, pz_sub, pz_div, pz_m, pz_neg1, eq_self, or_self, false_or, or_false, true_or, or_true, ↓reduceIte, if_true, if_false, lx_odds, fx_X11_odds, g1]
    · simp (disch := omega) only [pz_l, pz_ltT, pz_ltF, pz_leT, pz_leF, pz_eqT, pz_eqF, pz_nF, pz_nqF, pz_cl, pz_rd, pz_up, pz_bd, pz_let, pk_mul, nI_add, pz_sub, pz_div, pz_m, pz_neg1, eq_self, or_self, false_or, or_false, true_or, or_true, ↓reduceIte, if_true, if_false, lm_odds, fx_X12_odds, fx_X12_odds_45, fx_X12_odds_46, g2]
  by_cases l1 : a2 < nI 1
  · refine ⟨-4611686018427387904, S, M, ?_, ?_, T, h⟩
    · simp (disch := omega) only [pz_l, pz_ltT, pz_ltF, pz_leT, pz_leF, pz_eqT, pz_eqF, pz_nF, pz_nqF, pz_cl, pz_rd, pz_up, pz_bd, pz_let, pk_mul, nI_add, pz_sub, pz_div, pz_m, pz_neg1, eq_self, or_self, false_or, or_false, true_or, or_true, ↓reduceIte, if_true, if_false, lx_odds, fx_X11_odds, g1, l1]
    · simp (disch := omega) only [pz_l, pz_ltT, pz_ltF, pz_leT, pz_leF, pz_eqT, pz_eqF, pz_nF, pz_nqF, pz_cl, pz_rd, pz_up, pz_bd, pz_let, pk_mul, nI_add, pz_sub, pz_div, pz_m, pz_neg1, eq_self, or_self, false_or, or_false, true_or, or_true, ↓reduceIte, if_true, if_false, lm_odds, fx_X12_odds, fx_X12_odds_45, fx_X12_odds_46, g2, fx_X12_in, l1, ite_self]
  by_cases l40 : nI 40 < a2
  · have l40' : ¬ a2 ≤ nI 40 := Int32.not_le.mpr l40
    refine ⟨-4611686018427387904, S, M, ?_, ?_, T, h⟩
    · simp (disch := omega) only [pz_l, pz_ltT, pz_ltF, pz_leT, pz_leF, pz_eqT, pz_eqF, pz_nF, pz_nqF, pz_cl, pz_rd, pz_up, pz_bd, pz_let, pk_mul, nI_add, pz_sub, pz_div, pz_m, pz_neg1, eq_self, or_self, false_or, or_false, true_or, or_true, ↓reduceIte, if_true, if_false, lx_odds, fx_X11_odds, g1, l1, l40']
    · simp (disch := omega) only [pz_l, pz_ltT, pz_ltF, pz_leT, pz_leF, pz_eqT, pz_eqF, pz_nF, pz_nqF, pz_cl, pz_rd, pz_up, pz_bd, pz_let, pk_mul, nI_add, pz_sub, pz_div, pz_m, pz_neg1, eq_self, or_self, false_or, or_false, true_or, or_true, ↓reduceIte, if_true, if_false, lm_odds, fx_X12_odds, fx_X12_odds_45, fx_X12_odds_46, g2, fx_X12_in, l1, l40, ite_self]
  have l0 : ¬ a2 < 0 := fun q => l1 (by
    rw [Int32.lt_iff_toInt_lt] at q ⊢
    have : (nI 1).toInt = 1 := by decide
    have : (0 : Int32).toInt = 0 := by decide
    omega)
  obtain ⟨n, hn, rfl⟩ := nI_of2 (n := 40) (M := nI 40) (by decide) l0 (Int32.not_lt.mp l40)
  have hn1 : 0 < n := by
    rcases Nat.eq_zero_or_pos n with q | q
    · subst q; exact absurd (by decide) l1
    · exact q
  have inn : fx_X12_in (nI n) (nI 1) (nI 40) = nI 1 := by unfold fx_X12_in; rw [if_neg l1, if_neg l40]; rfl
  -- the class's tests of the last two
  by_cases c0 : a3 < nI 0
  · refine ⟨-4611686018427387904, S, M, ?_, ?_, T, h⟩
    · simp (disch := omega) only [pz_l, pz_ltT, pz_ltF, pz_leT, pz_leF, pz_eqT, pz_eqF, pz_nF, pz_nqF, pz_cl, pz_rd, pz_up, pz_bd, pz_let, pk_mul, nI_add, pz_sub, pz_div, pz_m, pz_neg1, eq_self, or_self, false_or, or_false, true_or, or_true, ↓reduceIte, if_true, if_false, lx_odds, fx_X11_odds, g1, c0]
    · rcases pn_w a4 2 1 rfl (by decide) with ⟨q1, q2⟩ | ⟨p, hp, rfl, q1, q2⟩
      · simp (disch := omega) only [pz_l, pz_ltT, pz_ltF, pz_leT, pz_leF, pz_eqT, pz_eqF, pz_nF, pz_nqF, pz_cl, pz_rd, pz_up, pz_bd, pz_let, pk_mul, nI_add, pz_sub, pz_div, pz_m, pz_neg1, eq_self, or_self, false_or, or_false, true_or, or_true, ↓reduceIte, if_true, if_false, lm_odds, fx_X12_odds, fx_X12_odds_45, fx_X12_odds_46, g2, inn, fx_X12_in, c0]
      · simp (disch := omega) only [pz_l, pz_ltT, pz_ltF, pz_leT, pz_leF, pz_eqT, pz_eqF, pz_nF, pz_nqF, pz_cl, pz_rd, pz_up, pz_bd, pz_let, pk_mul, nI_add, pz_sub, pz_div, pz_m, pz_neg1, eq_self, or_self, false_or, or_false, true_or, or_true, ↓reduceIte, if_true, if_false, lm_odds, fx_X12_odds, fx_X12_odds_45, fx_X12_odds_46, g2, inn, fx_X12_in, c0]
  obtain ⟨x, hx, rfl⟩ := nI_of c0
  rcases pn_iv hnv n1 (n2.trans n1) (nI (x / 10000)) with ⟨k1, k2⟩ | ⟨v, hv, ev, k1, k2⟩
  · refine ⟨-4611686018427387904, S, M, ?_, ?_, T, h⟩
    · simp (disch := omega) only [pz_l, pz_ltT, pz_ltF, pz_leT, pz_leF, pz_eqT, pz_eqF, pz_nF, pz_nqF, pz_cl, pz_rd, pz_up, pz_bd, pz_let, pk_mul, nI_add, pz_sub, pz_div, pz_m, pz_neg1, eq_self, or_self, false_or, or_false, true_or, or_true, ↓reduceIte, if_true, if_false, lx_odds, fx_X11_odds, g1, k1]
    · rcases pn_w (nI x) 80000 79999 rfl (by decide) with ⟨y1, y2⟩ | ⟨x', hx', -, y1, y2⟩
      · simp (disch := omega) only [pz_l, pz_ltT, pz_ltF, pz_leT, pz_leF, pz_eqT, pz_eqF, pz_nF, pz_nqF, pz_cl, pz_rd, pz_up, pz_bd, pz_let, pk_mul, nI_add, pz_sub, pz_div, pz_m, pz_neg1, eq_self, or_self, false_or, or_false, true_or, or_true, ↓reduceIte, if_true, if_false, lm_odds, fx_X12_odds, fx_X12_odds_45, fx_X12_odds_46, g2, inn, y2]
      · rcases pn_w a4 2 1 rfl (by decide) with ⟨q1, q2⟩ | ⟨p, hp, rfl, q1, q2⟩
        · simp (disch := omega) only [pz_l, pz_ltT, pz_ltF, pz_leT, pz_leF, pz_eqT, pz_eqF, pz_nF, pz_nqF, pz_cl, pz_rd, pz_up, pz_bd, pz_let, pk_mul, nI_add, pz_sub, pz_div, pz_m, pz_neg1, eq_self, or_self, false_or, or_false, true_or, or_true, ↓reduceIte, if_true, if_false, lm_odds, fx_X12_odds, fx_X12_odds_45, fx_X12_odds_46, g2, inn, y2, q2]
        · simp (disch := omega) only [pz_l, pz_ltT, pz_ltF, pz_leT, pz_leF, pz_eqT, pz_eqF, pz_nF, pz_nqF, pz_cl, pz_rd, pz_up, pz_bd, pz_let, pk_mul, nI_add, pz_sub, pz_div, pz_m, pz_neg1, eq_self, or_self, false_or, or_false, true_or, or_true, ↓reduceIte, if_true, if_false, lm_odds, fx_X12_odds, fx_X12_odds_45, fx_X12_odds_46, g2, inn, y2, q2, k2]
  have hxv : x / 10000 = v := (nI_eq (by omega) (by omega)).mp ev
  have v8 : v < 8 := by omega
  have hx8 : x < 80000 := by omega
  have y2 : fx_X12_in (nI x) (nI 0) (nI 79999) = nI 1 := by simp (disch := omega) only [pz_l, pz_ltT, pz_ltF, pz_leT, pz_leF, pz_eqT, pz_eqF, pz_nF, pz_nqF, pz_cl, pz_rd, pz_up, pz_bd, pz_let, pk_mul, nI_add, pz_sub, pz_div, pz_m, pz_neg1, eq_self, or_self, false_or, or_false, true_or, or_true, ↓reduceIte, if_true, if_false, fx_X12_in]
  rcases pn_w a4 2 1 rfl (by decide) with ⟨q1, q2⟩ | ⟨p, hp, rfl, q1, q2⟩
  · refine ⟨-4611686018427387904, S, M, ?_, ?_, T, h⟩
    · simp (disch := omega) only [pz_l, pz_ltT, pz_ltF, pz_leT, pz_leF, pz_eqT, pz_eqF, pz_nF, pz_nqF, pz_cl, pz_rd, pz_up, pz_bd, pz_let, pk_mul, nI_add, pz_sub, pz_div, pz_m, pz_neg1, eq_self, or_self, false_or, or_false, true_or, or_true, ↓reduceIte, if_true, if_false, lx_odds, fx_X11_odds, g1, k1, q1]
    · simp (disch := omega) only [pz_l, pz_ltT, pz_ltF, pz_leT, pz_leF, pz_eqT, pz_eqF, pz_nF, pz_nqF, pz_cl, pz_rd, pz_up, pz_bd, pz_let, pk_mul, nI_add, pz_sub, pz_div, pz_m, pz_neg1, eq_self, or_self, false_or, or_false, true_or, or_true, ↓reduceIte, if_true, if_false, lm_odds, fx_X12_odds, fx_X12_odds_45, fx_X12_odds_46, g2, inn, y2, q2]
  obtain ⟨S1, t, p1, p2, p3, p4, p5⟩ := pf_supA h
  have f1 : px_f px_es px_ea S S1 := px_fm p2 (by decide) (by decide)
  have b0 := px_lcB (v := v) (cr := 1) p5
  rw [show sx_kindOf S1 = sx_kindOf S from p2.2 8 (by decide), show sx_moreOf S1 = sx_moreOf S from p2.2 9 (by decide), show sx_now_rich S1 = sx_now_rich S from p2.2 2 (by decide)] at b0
  have lc : fx_X11_letCome (nI v) 1 S1 = pt_lc v 1 S1 := pf_lc v8 (show 1 < 9 by decide) S1
  obtain ⟨r, S2, M2, b1, b2, b3, b4⟩ := pf_odd (sd := sd) (n := n) (x := x) (p := p) h p4 p3 v8 hsd (by omega) hn1 hx8 hxv hp n 0 am_fu am_fu 0 (pt_lc v 1 S1) M (by omega) (by rw [pf_u]; omega) (by rw [pf_u]; omega) (by omega) (px_ft f1 (px_fm (px_lcf v 1 S1) (by decide) (by decide))) b0 pm_fr
  have e2 : nI x / 10000 = nI v := by rw [← hxv]; exact pz_div (d := 10000) (by omega) (by decide) (by decide)
  rw [ev] at k1 k2
  have w1 : ¬ fx_X11_within (nI sd) 100000 = 0 := by rw [show fx_X11_within (nI sd) 100000 = nI 1 from g1]; decide
  have w2 : ¬ nI n < 1 := l1
  have w3 : nI n ≤ 40 := Int32.not_lt.mp l40
  have w5 : ¬ fx_X11_isViewer (nI v) S = 0 := by rw [k1]; decide
  have w6 : ¬ fx_X11_within (nI p) 2 = 0 := by rw [show fx_X11_within (nI p) 2 = nI 1 from q1]; decide
  have z1 : ¬ fx_X12_in (nI sd) 0 99999 = 0 := by rw [show fx_X12_in (nI sd) 0 99999 = nI 1 from g2]; decide
  have z2 : ¬ fx_X12_in (nI n) 1 40 = 0 := by rw [show fx_X12_in (nI n) 1 40 = nI 1 from inn]; decide
  have z3 : ¬ fx_X12_in (nI x) 0 79999 = 0 := by rw [show fx_X12_in (nI x) 0 79999 = nI 1 from y2]; decide
  have z4 : ¬ fx_X12_in (nI p) 0 1 = 0 := by rw [show fx_X12_in (nI p) 0 1 = nI 1 from q2]; decide
  have z5 : ¬ fx_X12_isViewer (nI v) M = 0 := by rw [k2]; decide
  refine ⟨r, S2, M2, ?_, ?_, T, px_Qf h b3 b4⟩
  · unfold lx_odds fx_X11_odds
    rw [if_neg w1, if_neg w2, if_pos w3, if_neg (show ¬ nI x < 0 from c0), e2, if_neg w5, if_neg w6, p1, pz_bd, lc, pz_let]
    exact b1
  · unfold lm_odds fx_X12_odds fx_X12_odds_46
    rw [if_neg z1, if_neg z2, if_neg z3, if_neg z4, if_neg (show ¬ (1 : Int32) = 0 by decide), e2, if_neg z5]
    exact b2
