/-! ===== riches, laws ===== -/
theorem pr_txm {T : Nat → List Int32} {t : Nat} {S : sx_T} {M M' : sm_T} (h : pr_tx1 T t S M) (c5 : sm_codes M' = sm_codes M) (c6 : sm_starts M' = sm_starts M) : pr_tx1 T t S M' := by
  unfold pr_tx1 at h ⊢
  rw [c5, c6]
  exact h
theorem pv_srs (V : pv_V) (x y x' : Int32) : pv_sr (pv_sh (pv_sr V x) y) x' = pv_sh (pv_sr V x') y := by
  unfold pv_sr pv_sh
  have : upd (upd (upd V.2.2.1 2 x) 3 y) 2 x' = upd (upd V.2.2.1 2 x') 3 y := by
    funext j
    simp only [pz_u]
    by_cases q : j = 2
    · subst q; rfl
    · rw [if_neg q, if_neg q, if_neg q]
  rw [this]
theorem pv_sri {V : pv_V} {x : Int32} (h : V.2.2.1 2 = x) : pv_sr V x = V := by
  unfold pv_sr
  have e : upd V.2.2.1 2 x = V.2.2.1 := by
    funext j
    rw [pz_u]
    by_cases q : j = 2
    · rw [if_pos q, q, h]
    · rw [if_neg q]
  rw [e]
theorem pu_rest {f g : Nat → Int32} {k : Nat} (h : ∀ j, j ≠ k → g j = f j) : upd g k (f k) = f := by
  funext j
  rw [pz_u]
  by_cases q : j = k
  · rw [if_pos q, q]
  · rw [if_neg q, h j q]
theorem pf_ri {T : Nat → Nat → List Int32} {u z v w : Nat} {W : Nat → Nat} {n t : Nat} {S S1 : sx_T} {M M1 : sm_T} (td : px_td T u z v W n t S M S1 M1) (hw : w < 2) : ∀ (d k g g' many : Nat) (least : Int32) (Sk : sx_T) (Mk : sm_T), k + d = 1000 → d < g → d < g' → ((many = 0 ∧ least = -(nI 1)) ∨ (0 < many ∧ ∃ j, j < 1000 ∧ least = nI j)) → many ≤ k → (∃ x, px_H (pv_sr (pv_cur T t S v 1) x) W n M Sk) → px_f px_es px_ea S Sk → pm_f [] [2, 13, 14] M1 Mk → (∀ j, j ≠ 2 * v → sm_ones Mk j = sm_ones M1 j) → ∃ r S' M', fx_X11_riches_38 g (nI u) (nI w) (nI many) least (nI k) Sk = some (r, S') ∧ fx_X12_riches_49 g' (nI u) (nI v) (nI w) (sm_ones M1 (2 * v)) (nI many) least (nI k) Mk = some (r, M') ∧ px_f px_es px_ea S S' ∧ pm_f [] [13, 14] M1 M' := by
  obtain ⟨⟨hv, hu, hz, ht, lt⟩, f1, f2, -, hM, hW, z1, z2, z3⟩ := td
  have hw2 : w = 0 ∨ w = 1 := by omega
  intro d
  induction d with
  | zero =>
    intro k g g' many least Sk Mk h1 h2 h3 hml hmk hH fS fM fo
    obtain ⟨f, rfl⟩ : ∃ f, g = f + 1 := ⟨g - 1, by omega⟩
    obtain ⟨f', rfl⟩ : ∃ f, g' = f + 1 := ⟨g' - 1, by omega⟩
    have hk : k = 1000 := by omega
    subst hk
    have fr : pm_f [] [13, 14] M1 (um_ones Mk (upd (sm_ones Mk) (2 * v) (sm_ones M1 (2 * v)))) := pm_fz (j := 2) (pm_fa (j := 2) (S' := Mk) fM (by decide)) (pu_rest fo)
    rcases hw2 with rfl | rfl
    · refine ⟨nI many, Sk, _, ?_, ?_, fS, fr⟩
      · rw [fx_X11_riches_38]; simp (disch := omega) only [pz_l, pz_ltT, pz_ltF, pz_leT, pz_leF, pz_eqT, pz_eqF, pz_nF, pz_nqF, pz_cl, pz_rd, pz_up, pz_bd, pz_let, pk_mul, nI_add, pz_sub, pz_div, pz_m, pz_neg1, eq_self, or_self, false_or, or_false, true_or, or_true, ↓reduceIte, if_true, if_false]
      · rw [fx_X12_riches_49]; simp (disch := omega) only [pz_l, pz_ltT, pz_ltF, pz_leT, pz_leF, pz_eqT, pz_eqF, pz_nF, pz_nqF, pz_cl, pz_rd, pz_up, pz_bd, pz_let, pk_mul, nI_add, pz_sub, pz_div, pz_m, pz_neg1, eq_self, or_self, false_or, or_false, true_or, or_true, ↓reduceIte, if_true, if_false]
    · refine ⟨least, Sk, _, ?_, ?_, fS, fr⟩
      · rw [fx_X11_riches_38]; simp (disch := omega) only [pz_l, pz_ltT, pz_ltF, pz_leT, pz_leF, pz_eqT, pz_eqF, pz_nF, pz_nqF, pz_cl, pz_rd, pz_up, pz_bd, pz_let, pk_mul, nI_add, pz_sub, pz_div, pz_m, pz_neg1, eq_self, or_self, false_or, or_false, true_or, or_true, ↓reduceIte, if_true, if_false]
      · rw [fx_X12_riches_49]; simp (disch := omega) only [pz_l, pz_ltT, pz_ltF, pz_leT, pz_leF, pz_eqT, pz_eqF, pz_nF, pz_nqF, pz_cl, pz_rd, pz_up, pz_bd, pz_let, pk_mul, nI_add, pz_sub, pz_div, pz_m, pz_neg1, eq_self, or_self, false_or, or_false, true_or, or_true, ↓reduceIte, if_true, if_false]
  | succ d ih =>
    intro k g g' many least Sk Mk h1 h2 h3 hml hmk hH fS fM fo
    obtain ⟨f, rfl⟩ : ∃ f, g = f + 1 := ⟨g - 1, by omega⟩
    obtain ⟨f', rfl⟩ : ∃ f, g' = f + 1 := ⟨g' - 1, by omega⟩
    obtain ⟨x0, y, hC⟩ := hH
    obtain ⟨hC1, fC1⟩ := px_srC hC (nI k)
    rw [pv_srs] at hC1
    have hMk : pm_C S (pv_sr (pv_cur T t S v 1) (nI k)) v 1 (um_ones Mk (upd (sm_ones Mk) (2 * v) (nI k))) := by
      obtain ⟨a, ⟨t', ht', rt, tx⟩, c, dd, e, fh, gg⟩ := hM
      refine ⟨a, ⟨t', ht', (fM.1 4 (by decide)).trans rt, pr_txm tx (fM.2 5 (by decide)) (fM.2 6 (by decide))⟩, ?_, ?_, ?_, (fM.1 1 (by decide)).trans fh, pz_us⟩
      · show ∃ k, k < 6 ∧ sm_kind Mk v = nI k ∧ _
        rw [show sm_kind Mk = sm_kind M1 from fM.2 0 (by decide)]; exact c
      · show ∃ m, m < 10 ∧ sm_moreOf Mk v = nI m ∧ _
        rw [show sm_moreOf Mk = sm_moreOf M1 from fM.2 1 (by decide)]; exact dd
      · show ∀ r, r < 6 → sm_flat Mk (2 * r) = _ ∧ sm_flat Mk (2 * r + 1) = _
        rw [show sm_flat Mk = sm_flat M1 from fM.2 3 (by decide)]; exact e
    have fo' : pm_f [] [2, 13, 14] M1 (um_ones Mk (upd (sm_ones Mk) (2 * v) (nI k))) := pm_fa (j := 2) (S' := Mk) fM (by decide)
    have hWk : pm_W W n (um_ones Mk (upd (sm_ones Mk) (2 * v) (nI k))) := pm_Wfl hW (pm_fm fo' (by decide) (by decide))
    have fS1 : px_f px_es px_ea S (fx_X10_setRich (nI k) Sk) := px_ft fS fC1
    have q1 : sx_sh_sizes (fx_X10_setRich (nI k) Sk) u = nI z := by rw [show sx_sh_sizes (fx_X10_setRich (nI k) Sk) = sx_sh_sizes S from fS1.2 19 (by decide)]; exact z1
    have q2 : sm_sheetSize (um_ones Mk (upd (sm_ones Mk) (2 * v) (nI k))) u = nI z := by
      rw [show sm_sheetSize (um_ones Mk (upd (sm_ones Mk) (2 * v) (nI k))) = sm_sheetSize M1 from fo'.2 10 (by decide), show sm_sheetSize M1 = sm_sheetSize M from f2.2 10 (by decide)]; exact z2
    obtain ⟨x, S2, M2, a1, a2, a3, a4, a5, a6⟩ := pq_ot hu hz ⟨y, hC1⟩ hMk hWk q1 q2 (fun i hi => by
      rw [show sm_cells (um_ones Mk (upd (sm_ones Mk) (2 * v) (nI k))) = sm_cells M1 from fo'.2 11 (by decide), show sm_cells M1 = sm_cells M from f2.2 11 (by decide), show sx_sh_cells (fx_X10_setRich (nI k) Sk) = sx_sh_cells S from fS1.2 17 (by decide)]
      exact z3 i hi)
    have fS2 : px_f px_es px_ea S S2 := px_ft fS1 a4
    have fM2 : pm_f [] [2, 13, 14] M1 M2 := pm_ft fo' (pm_fm a5 (by decide) (by decide))
    have fo2 : ∀ j, j ≠ 2 * v → sm_ones M2 j = sm_ones M1 j := by
      intro j hj
      rw [show sm_ones M2 = upd (sm_ones Mk) (2 * v) (nI k) from a5.2 2 (by decide), pz_un hj]
      exact fo j hj
    rcases a6 with rfl | ⟨j, hj, rfl⟩
    · by_cases m0 : many = 0
      · obtain ⟨r, S3, M3, b1, b2, b3, b4⟩ := ih (k + 1) f f' (many + 1) (nI k) S2 M2 (by omega) (by omega) (by omega) (Or.inr ⟨by omega, k, by omega, rfl⟩) (by omega) ⟨nI k, a3⟩ fS2 fM2 fo2
        have hl : least = -(nI 1) := by
          rcases hml with ⟨-, q⟩ | ⟨q, -⟩
          · exact q
          · omega
        subst hl
        refine ⟨r, S3, M3, ?_, ?_, b3, b4⟩
        · rw [fx_X11_riches_38]
          simp (disch := omega) only [pz_l, pz_ltT, pz_ltF, pz_leT, pz_leF, pz_eqT, pz_eqF, pz_nF, pz_nqF, pz_cl, pz_rd, pz_up, pz_bd, pz_let, pk_mul, nI_add, pz_sub, pz_div, pz_m, pz_neg1, eq_self, or_self, false_or, or_false, true_or, or_true, ↓reduceIte, if_true, if_false, a1]
          exact b1
        · rw [fx_X12_riches_49]
          simp (disch := omega) only [pz_l, pz_ltT, pz_ltF, pz_leT, pz_leF, pz_eqT, pz_eqF, pz_nF, pz_nqF, pz_cl, pz_rd, pz_up, pz_bd, pz_let, pk_mul, nI_add, pz_sub, pz_div, pz_m, pz_neg1, eq_self, or_self, false_or, or_false, true_or, or_true, ↓reduceIte, if_true, if_false, a2, fx_X12_riches_82]
          exact b2
      · obtain ⟨r, S3, M3, b1, b2, b3, b4⟩ := ih (k + 1) f f' (many + 1) least S2 M2 (by omega) (by omega) (by omega) (by
          rcases hml with ⟨q, -⟩ | ⟨q, q'⟩
          · omega
          · exact Or.inr ⟨by omega, q'⟩) (by omega) ⟨nI k, a3⟩ fS2 fM2 fo2
        have hl : (least = -(nI 1)) = False := by
          rcases hml with ⟨q, -⟩ | ⟨q, j, hj, rfl⟩
          · omega
          · exact pz_neg1 (by omega)
        refine ⟨r, S3, M3, ?_, ?_, b3, b4⟩
        · rw [fx_X11_riches_38]
          simp (disch := omega) only [pz_l, pz_ltT, pz_ltF, pz_leT, pz_leF, pz_eqT, pz_eqF, pz_nF, pz_nqF, pz_cl, pz_rd, pz_up, pz_bd, pz_let, pk_mul, nI_add, pz_sub, pz_div, pz_m, pz_neg1, eq_self, or_self, false_or, or_false, true_or, or_true, ↓reduceIte, if_true, if_false, a1]
          exact b1
        · rw [fx_X12_riches_49]
          simp (disch := omega) only [pz_l, pz_ltT, pz_ltF, pz_leT, pz_leF, pz_eqT, pz_eqF, pz_nF, pz_nqF, pz_cl, pz_rd, pz_up, pz_bd, pz_let, pk_mul, nI_add, pz_sub, pz_div, pz_m, pz_neg1, eq_self, or_self, false_or, or_false, true_or, or_true, ↓reduceIte, if_true, if_false, a2, fx_X12_riches_82, hl]
          exact b2
    · obtain ⟨r, S3, M3, b1, b2, b3, b4⟩ := ih (k + 1) f f' many least S2 M2 (by omega) (by omega) (by omega) hml (by omega) ⟨nI k, a3⟩ fS2 fM2 fo2
      refine ⟨r, S3, M3, ?_, ?_, b3, b4⟩
      · rw [fx_X11_riches_38]
        simp (disch := omega) only [pz_l, pz_ltT, pz_ltF, pz_leT, pz_leF, pz_eqT, pz_eqF, pz_nF, pz_nqF, pz_cl, pz_rd, pz_up, pz_bd, pz_let, pk_mul, nI_add, pz_sub, pz_div, pz_m, pz_neg1, eq_self, or_self, false_or, or_false, true_or, or_true, ↓reduceIte, if_true, if_false, a1]
        exact b1
      · rw [fx_X12_riches_49]
        simp (disch := omega) only [pz_l, pz_ltT, pz_ltF, pz_leT, pz_leF, pz_eqT, pz_eqF, pz_nF, pz_nqF, pz_cl, pz_rd, pz_up, pz_bd, pz_let, pk_mul, nI_add, pz_sub, pz_div, pz_m, pz_neg1, eq_self, or_self, false_or, or_false, true_or, or_true, ↓reduceIte, if_true, if_false, a2, fx_X12_riches_82, Nat.add_zero]
        exact b2
theorem pq_riches : lq_riches px_R := by
  rintro S M ⟨T, h⟩ a1 a2 a3 a4
  rcases pq_told0 h a1 a2 a3 with ⟨e, S1, M1, he, e1, e2, f1, f2⟩ | ⟨u, z, v, W, n, t, S1, M1, rfl, rfl, e1, e2, td⟩
  · have e0 := pz_n0 he
    refine ⟨e, S1, M1, ?_, ?_, T, px_Qf h f1 f2⟩
    · simp (disch := omega) only [pz_l, pz_ltT, pz_ltF, pz_leT, pz_leF, pz_eqT, pz_eqF, pz_nF, pz_nqF, pz_cl, pz_rd, pz_up, pz_bd, pz_let, pk_mul, nI_add, pz_sub, pz_div, pz_m, pz_neg1, eq_self, or_self, false_or, or_false, true_or, or_true, ↓reduceIte, if_true, if_false, lx_riches, fx_X11_riches, e1, e0]
    · simp (disch := omega) only [pz_l, pz_ltT, pz_ltF, pz_leT, pz_leF, pz_eqT, pz_eqF, pz_nF, pz_nqF, pz_cl, pz_rd, pz_up, pz_bd, pz_let, pk_mul, nI_add, pz_sub, pz_div, pz_m, pz_neg1, eq_self, or_self, false_or, or_false, true_or, or_true, ↓reduceIte, if_true, if_false, lm_riches, fx_X12_riches, e2, e0]
  obtain ⟨⟨hv, hu, hz, ht, lt⟩, f1, f2, hH, hM, hW, z1, z2, z3⟩ := id td
  rcases pn_w a4 2 1 rfl (by decide) with ⟨q1, q2⟩ | ⟨w, hw, rfl, q1, q2⟩
  · refine ⟨-7, S1, M1, ?_, ?_, T, px_Qf h f1 f2⟩
    · simp (disch := omega) only [pz_l, pz_ltT, pz_ltF, pz_leT, pz_leF, pz_eqT, pz_eqF, pz_nF, pz_nqF, pz_cl, pz_rd, pz_up, pz_bd, pz_let, pk_mul, nI_add, pz_sub, pz_div, pz_m, pz_neg1, eq_self, or_self, false_or, or_false, true_or, or_true, ↓reduceIte, if_true, if_false, lx_riches, fx_X11_riches, e1, q1]
    · simp (disch := omega) only [pz_l, pz_ltT, pz_ltF, pz_leT, pz_leF, pz_eqT, pz_eqF, pz_nF, pz_nqF, pz_cl, pz_rd, pz_up, pz_bd, pz_let, pk_mul, nI_add, pz_sub, pz_div, pz_m, pz_neg1, eq_self, or_self, false_or, or_false, true_or, or_true, ↓reduceIte, if_true, if_false, lm_riches, fx_X12_riches, e2, q2]
  obtain ⟨r, S2, M2, b1, b2, b3, b4⟩ := pf_ri (w := w) td hw 1000 0 am_fu am_fu 0 (-(nI 1)) S1 M1 (by omega) (by rw [pf_u]; omega) (by rw [pf_u]; omega) (Or.inl ⟨rfl, rfl⟩) (by omega) ⟨(pv_cur T t S v 1).2.2.1 2, by rw [pv_sri rfl]; exact hH⟩ f1 pm_fr (fun _ _ => rfl)
  have q1' : ¬ fx_X11_within (nI w) 2 = 0 := by
    rw [show fx_X11_within (nI w) 2 = nI 1 from q1]; decide
  refine ⟨r, S2, M2, ?_, ?_, T, px_Qf h b3 (pm_ft f2 (pm_fe b4))⟩
  · unfold lx_riches fx_X11_riches
    rw [e1, pz_bd, if_pos (show (nI 0, S1).1 = 0 from rfl), if_neg q1']
    exact b1
  · have q2' : ¬ fx_X12_in (nI w) 0 1 = 0 := by
      rw [show fx_X12_in (nI w) 0 1 = nI 1 from q2]; decide
    have ix : 2 * nI v = nI (2 * v) := pk_mul 2 v
    unfold lm_riches fx_X12_riches
    rw [e2, pz_bd, if_pos (show (nI 0, M1).1 = 0 from rfl), if_neg q2', ix, if_neg (nI_in (by omega) (by decide)), pz_cl (by omega)]
    exact b2
