/-! ===== told offers ===== -/
def px_H (V : pv_V) (W : Nat → Nat) (n : Nat) (M : sm_T) (S : sx_T) : Prop := ∃ y, px_C (pv_sh V y) W n M S
theorem pv_shh (V : pv_V) (x y : Int32) : pv_sh (pv_sh V x) y = pv_sh V y := by
  unfold pv_sh
  have : upd (upd V.2.2.1 3 x) 3 y = upd V.2.2.1 3 y := by
    funext j; rw [pz_u, pz_u, pz_u]; split <;> rfl
  rw [this]
theorem px_CH {V : pv_V} {W : Nat → Nat} {n : Nat} {M : sm_T} {S : sx_T} (h : px_C V W n M S) : px_H V W n M S := ⟨V.2.2.1 3, by rw [pv_shi rfl]; exact h⟩
theorem pm_Ch {S : sx_T} {V : pv_V} {v cr : Nat} {M M' : sm_T} (h : pm_C S V v cr M) (f : pm_f [1] [13, 14] M M') (x : Int32) : pm_C S (pv_sh V x) v cr (um_hour M' x) := by
  obtain ⟨u, w⟩ := f
  have c4 : sm_rule M' = sm_rule M := u 4 (by decide)
  have d0 : sm_kind M' = sm_kind M := w 0 (by decide)
  have d1 : sm_moreOf M' = sm_moreOf M := w 1 (by decide)
  have d2 : sm_ones M' = sm_ones M := w 2 (by decide)
  have d3 : sm_flat M' = sm_flat M := w 3 (by decide)
  have d5 : sm_codes M' = sm_codes M := w 5 (by decide)
  have d6 : sm_starts M' = sm_starts M := w 6 (by decide)
  obtain ⟨a, ⟨t, ht, rt, tx⟩, c, d, e, -, g⟩ := h
  refine ⟨a, ⟨t, ht, c4.trans rt, ?_⟩, ?_, ?_, ?_, rfl, ?_⟩
  · show pr_tx1 V.1 t S (um_hour M' x)
    unfold pr_tx1 at tx ⊢
    show pt_off V.1 3 ≤ 160 ∧ ∀ p, p < 3 → ((∀ s ∈ V.1 p, pt_ok s) ∧ pt_wf (V.1 p) 0 = some 1) ∧ (sx_tx_ends S (3 * t + p) = nI (160 * t + pt_off V.1 (p + 1)) ∧ sm_starts M' (4 * t + p) = nI (pt_off V.1 p) ∧ sm_starts M' (4 * t + p + 1) = nI (pt_off V.1 (p + 1))) ∧ (∀ k, k < 6 → pb_it (sx_tx_named S (3 * t + p)) k = false → (-10 - nI k) ∉ V.1 p) ∧ ∀ i, i < (V.1 p).length → sx_tx_steps S (160 * t + pt_off V.1 p + i) = (V.1 p).getD i 0 ∧ sm_codes M' (200 * t + pt_off V.1 p + i) = pt_tr ((V.1 p).getD i 0)
    rw [d5, d6]
    exact tx
  · show ∃ k, k < 6 ∧ sm_kind M' v = nI k ∧ V.2.1 = fx_X11_kindAt (nI k)
    rw [d0]; exact c
  · show ∃ m, m < 10 ∧ sm_moreOf M' v = nI m ∧ V.2.2.1 0 = nI m
    rw [d1]; exact d
  · show ∀ r, r < 6 → sm_flat M' (2 * r) = V.2.2.2.1 r ∧ sm_flat M' (2 * r + 1) = V.2.2.2.2 r
    rw [d3]; exact e
  · show sm_ones M' (2 * v) = V.2.2.1 2
    rw [d2]; exact g
theorem pm_fh {M M' : sm_T} (f : pm_f [1] [13, 14] M M') : pm_f [] [13, 14] M (um_hour M' (sm_hour M)) := pm_fzs (j := 1) (pm_fs (j := 1) (S' := M') f (by decide)) rfl
theorem pq_otl {V : pv_V} {W : Nat → Nat} {n v u z : Nat} {M0 M : sm_T} {S0 S : sx_T} (hu : u < 4) (hz : z < 13) (hM : pm_C S0 V v 1 M) (hW : pm_W W n M) (s1 : sm_sheetSize M u = nI z) (s3 : ∀ i, i < z → sm_cells M (40 * u + i) = sx_sh_cells S (40 * u + i)) : ∀ (d k g g' : Nat) (Sk : sx_T) (Mk : sm_T), k + d = z → d < g → d < g' → px_H V W n M0 Sk → px_f px_es px_ea S Sk → pm_f [1] [13, 14] M Mk → ∃ x S' M', fx_X11_firstOtherwise_11 g (nI u) (nI z) (nI k) Sk = some (x, S') ∧ fx_X12_unlike_11 g' (nI u) (nI v) (sm_hour M) (-(nI 1)) (nI k) Mk = some (x, M') ∧ px_H V W n M0 S' ∧ px_f px_es px_ea S S' ∧ pm_f [] [13, 14] M M' ∧ (x = -(nI 1) ∨ ∃ j, j < 13 ∧ x = nI j) := by
  have hv : v < 8 := hM.1.1
  intro d
  induction d with
  | zero =>
    intro k g g' Sk Mk h1 h2 h3 hH fS fM
    obtain ⟨f, rfl⟩ : ∃ f, g = f + 1 := ⟨g - 1, by omega⟩
    obtain ⟨f', rfl⟩ : ∃ f, g' = f + 1 := ⟨g' - 1, by omega⟩
    have e1 : sm_sheetSize Mk u = nI z := by rw [show sm_sheetSize Mk = sm_sheetSize M from fM.2 10 (by decide)]; exact s1
    refine ⟨-(nI 1), Sk, um_hour Mk (sm_hour M), ?_, ?_, hH, fS, pm_fh fM, Or.inl rfl⟩
    · rw [fx_X11_firstOtherwise_11]; simp (disch := omega) only [pz_l, pz_ltT, pz_ltF, pz_leT, pz_leF, pz_eqT, pz_eqF, pz_nF, pz_nqF, pz_cl, pz_rd, pz_up, pz_bd, pz_let, pk_mul, nI_add, pz_sub, pz_div, pz_m, pz_neg1, eq_self, or_self, false_or, or_false, true_or, or_true, ↓reduceIte, if_true, if_false]
    · rw [fx_X12_unlike_11]; simp (disch := omega) only [pz_l, pz_ltT, pz_ltF, pz_leT, pz_leF, pz_eqT, pz_eqF, pz_nF, pz_nqF, pz_cl, pz_rd, pz_up, pz_bd, pz_let, pk_mul, nI_add, pz_sub, pz_div, pz_m, pz_neg1, eq_self, or_self, false_or, or_false, true_or, or_true, ↓reduceIte, if_true, if_false, e1]
  | succ d ih =>
    intro k g g' Sk Mk h1 h2 h3 hH fS fM
    obtain ⟨f, rfl⟩ : ∃ f, g = f + 1 := ⟨g - 1, by omega⟩
    obtain ⟨f', rfl⟩ : ∃ f, g' = f + 1 := ⟨g' - 1, by omega⟩
    have e1 : sm_sheetSize Mk u = nI z := by rw [show sm_sheetSize Mk = sm_sheetSize M from fM.2 10 (by decide)]; exact s1
    obtain ⟨y, hC⟩ := hH
    have hC1 := px_shC hC (x := nI k) ⟨k, by omega, rfl⟩
    rw [pv_shh] at hC1
    obtain ⟨S2, x1, x2, x3⟩ := pf_offer hC1
    have hM1 := pm_Ch hM fM (nI k)
    have hW1 : pm_W W n (um_hour Mk (nI k)) := by
      obtain ⟨a, b, c⟩ := hW
      refine ⟨?_, b, fun i hi => ⟨(c i hi).1, ?_⟩⟩
      · exact (fM.1 13 (by decide)).trans a
      · show sm_row Mk i = _
        rw [show sm_row Mk = sm_row M from fM.2 15 (by decide)]
        exact (c i hi).2
    obtain ⟨M2, y1, y2⟩ := pe_offer hM1 hW1
    have fS2 : px_f px_es px_ea S S2 := px_ft fS (px_ft (px_shf (nI k) Sk) (px_ge x2))
    have fM2 : pm_f [1] [13, 14] M M2 := pm_ft fM (pm_ft (pm_fs (j := 1) (S' := Mk) pm_fr (by decide)) (pm_fm y2 (by decide) (by decide)))
    generalize ho : pv_of (pv_sh V (nI k)) W n = o at x1 y1
    have rd : fx_X5_read (nI u) (nI k) S2 = sx_sh_cells S (40 * u + k) := by
      rw [pf_rd hu (by omega), show sx_sh_cells S2 = sx_sh_cells S from fS2.2 17 (by decide)]
    have cm : sm_cells Mk (40 * u + k) = sx_sh_cells S (40 * u + k) := by
      rw [show sm_cells Mk = sm_cells M from fM.2 11 (by decide)]; exact s3 k (by omega)
    have y1' : fx_X12_offerOf (nI v) (nI 1) (um_hour Mk (nI k)) = some (o, M2) := y1
    by_cases c : o = sx_sh_cells S (40 * u + k)
    · obtain ⟨x, S3, M3, a1, a2, a3, a4, a5, a6⟩ := ih (k + 1) f f' S2 M2 (by omega) (by omega) (by omega) ⟨nI k, x3⟩ fS2 fM2
      have c' : sx_sh_cells S (40 * u + k) = o := c.symm
      refine ⟨x, S3, M3, ?_, ?_, a3, a4, a5, a6⟩
      · rw [fx_X11_firstOtherwise_11, if_neg (nI_ge (by omega) (by omega)), pz_let, x1, pz_bd]
        show (if o = fx_X5_read (nI u) (nI k) S2 then _ else _) = _
        rw [rd, if_pos c, show nI k + 1 = nI (k + 1) from (nI_succ k).symm]; exact a1
      · rw [fx_X12_unlike_11]
        simp (disch := omega) only [pz_l, pz_ltF, pz_nF, pz_cl, or_self, e1, pz_leF, pk_mul, nI_add, y1', pz_bd, cm, ↓reduceIte]
        rw [if_pos c']; exact a2
    · have c' : ¬ sx_sh_cells S (40 * u + k) = o := fun q => c q.symm
      obtain ⟨f2, rfl⟩ : ∃ q, f' = q + 1 := ⟨f' - 1, by omega⟩
      have e2 : sm_sheetSize M2 u = nI z := by rw [show sm_sheetSize M2 = sm_sheetSize M from fM2.2 10 (by decide)]; exact s1
      have nk : (nI k = -(nI 1)) = False := pz_neg1 (by omega)
      refine ⟨nI k, S2, um_hour M2 (sm_hour M), ?_, ?_, ⟨nI k, x3⟩, fS2, pm_fh fM2, Or.inr ⟨k, by omega, rfl⟩⟩
      · rw [fx_X11_firstOtherwise_11, if_neg (nI_ge (by omega) (by omega)), pz_let, x1, pz_bd]
        show (if o = fx_X5_read (nI u) (nI k) S2 then _ else _) = _
        rw [rd, if_neg c]
      · rw [fx_X12_unlike_11]
        simp (disch := omega) only [pz_l, pz_ltF, pz_nF, pz_cl, or_self, e1, pz_leF, pk_mul, nI_add, y1', pz_bd, cm, c', ↓reduceIte]
        rw [fx_X12_unlike_11]
        by_cases l : z ≤ k + 1
        · simp (disch := omega) only [pz_l, pz_ltF, pz_nF, pz_cl, or_self, e2, pz_leT, nI_add, ↓reduceIte]
        · simp (disch := omega) only [pz_l, pz_ltF, pz_nF, pz_cl, or_self, e2, pz_leF, nI_add, nk, ↓reduceIte]
theorem pq_ot {V : pv_V} {W : Nat → Nat} {n v u z : Nat} {M0 M : sm_T} {S0 S : sx_T} (hu : u < 4) (hz : z < 13) (hH : px_H V W n M0 S) (hM : pm_C S0 V v 1 M) (hW : pm_W W n M) (s2 : sx_sh_sizes S u = nI z) (s1 : sm_sheetSize M u = nI z) (s3 : ∀ i, i < z → sm_cells M (40 * u + i) = sx_sh_cells S (40 * u + i)) : ∃ x S' M', fx_X11_firstOtherwise (nI u) S = some (x, S') ∧ fx_X12_unlike (nI u) (nI v) M = some (x, M') ∧ px_H V W n M0 S' ∧ px_f px_es px_ea S S' ∧ pm_f [] [13, 14] M M' ∧ (x = -(nI 1) ∨ ∃ j, j < 13 ∧ x = nI j) := by
  obtain ⟨x, S', M', a1, a2, a3⟩ := pq_otl hu hz hM hW s1 s3 z 0 am_fu am_fu S M (Nat.zero_add z) (by rw [pf_u]; omega) (by rw [pf_u]; omega) hH px_fr pm_fr
  refine ⟨x, S', M', ?_, a2, a3⟩
  unfold fx_X11_firstOtherwise fx_X5_size
  rw [pz_rd hu (by decide), s2]
  exact a1
/-- what is told of one who comes alone -/
def px_td (T : Nat → Nat → List Int32) (u z v : Nat) (W : Nat → Nat) (n t : Nat) (S : sx_T) (M : sm_T) (S1 : sx_T) (M1 : sm_T) : Prop := (v < 8 ∧ u < 4 ∧ z < 13 ∧ t < 6 ∧ sx_now_law S = nI t) ∧ px_f px_es px_ea S S1 ∧ pm_f pm_es pm_ea M M1 ∧ px_H (pv_cur T t S v 1) W n M S1 ∧ pm_C S (pv_cur T t S v 1) v 1 M1 ∧ pm_W W n M1 ∧ sx_sh_sizes S u = nI z ∧ sm_sheetSize M u = nI z ∧ ∀ i, i < z → sm_cells M (40 * u + i) = sx_sh_cells S (40 * u + i)
theorem pq_told0 {T : Nat → Nat → List Int32} {S : sx_T} {M : sm_T} (h : px_Q T S M) (a1 a2 a3 : Int32) : (∃ e S1 M1, (e = -(nI 2) ∨ e = -(nI 11) ∨ e = -(nI 5)) ∧ fx_X11_startTold a1 a2 a3 S = some (e, S1) ∧ fx_X12_toldWrong a1 a2 a3 M = some (e, M1) ∧ px_f px_es px_ea S S1 ∧ pm_f pm_es pm_ea M M1) ∨ (∃ u z v W n t S1 M1, a2 = nI u ∧ a3 = nI v ∧ fx_X11_startTold a1 a2 a3 S = some (nI 0, S1) ∧ fx_X12_toldWrong a1 a2 a3 M = some (nI 0, M1) ∧ px_td T u z v W n t S M S1 M1) := by
  obtain ⟨⟨⟨nv, hnv, n1⟩, n2⟩, -⟩ := id h.1
  rcases pn_w a1 4 3 rfl (by decide) with ⟨g1, g2⟩ | ⟨s, hs, rfl, g1, g2⟩
  · refine Or.inl ⟨-(nI 2), S, M, Or.inl rfl, ?_, ?_, px_fr, pm_fr⟩
    · simp (disch := omega) only [pz_l, pz_ltT, pz_ltF, pz_leT, pz_leF, pz_eqT, pz_eqF, pz_nF, pz_nqF, pz_cl, pz_rd, pz_up, pz_bd, pz_let, pk_mul, nI_add, pz_sub, pz_div, pz_m, pz_neg1, eq_self, or_self, false_or, or_false, true_or, or_true, ↓reduceIte, if_true, if_false, fx_X11_startTold, g1]
    · simp (disch := omega) only [pz_l, pz_ltT, pz_ltF, pz_leT, pz_leF, pz_eqT, pz_eqF, pz_nF, pz_nqF, pz_cl, pz_rd, pz_up, pz_bd, pz_let, pk_mul, nI_add, pz_sub, pz_div, pz_m, pz_neg1, eq_self, or_self, false_or, or_false, true_or, or_true, ↓reduceIte, if_true, if_false, fx_X12_toldWrong, g2]
  rcases pn_w a2 4 3 rfl (by decide) with ⟨k1, k2⟩ | ⟨u, hu, rfl, k1, k2⟩
  · refine Or.inl ⟨-(nI 2), S, M, Or.inl rfl, ?_, ?_, px_fr, pm_fr⟩
    · simp (disch := omega) only [pz_l, pz_ltT, pz_ltF, pz_leT, pz_leF, pz_eqT, pz_eqF, pz_nF, pz_nqF, pz_cl, pz_rd, pz_up, pz_bd, pz_let, pk_mul, nI_add, pz_sub, pz_div, pz_m, pz_neg1, eq_self, or_self, false_or, or_false, true_or, or_true, ↓reduceIte, if_true, if_false, fx_X11_startTold, g1, k1]
    · simp (disch := omega) only [pz_l, pz_ltT, pz_ltF, pz_leT, pz_leF, pz_eqT, pz_eqF, pz_nF, pz_nqF, pz_cl, pz_rd, pz_up, pz_bd, pz_let, pk_mul, nI_add, pz_sub, pz_div, pz_m, pz_neg1, eq_self, or_self, false_or, or_false, true_or, or_true, ↓reduceIte, if_true, if_false, fx_X12_toldWrong, g2, k2]
  obtain ⟨so, zs, hzs, s1, s2, s3⟩ := h.2.2.2.2.2.2.2 s hs
  obtain ⟨ro, z, hz, r1, r2, r3⟩ := h.2.2.2.2.2.2.2 u hu
  rcases pr_mis S hs with ⟨m1, m2⟩ | ⟨m1, m2⟩
  · refine Or.inl ⟨-(nI 11), S, M, Or.inr (Or.inl rfl), ?_, ?_, px_fr, pm_fr⟩
    · simp (disch := omega) only [pz_l, pz_ltT, pz_ltF, pz_leT, pz_leF, pz_eqT, pz_eqF, pz_nF, pz_nqF, pz_cl, pz_rd, pz_up, pz_bd, pz_let, pk_mul, nI_add, pz_sub, pz_div, pz_m, pz_neg1, eq_self, or_self, false_or, or_false, true_or, or_true, ↓reduceIte, if_true, if_false, fx_X11_startTold, g1, k1, m2]
    · simp (disch := omega) only [pz_l, pz_ltT, pz_ltF, pz_leT, pz_leF, pz_eqT, pz_eqF, pz_nF, pz_nqF, pz_cl, pz_rd, pz_up, pz_bd, pz_let, pk_mul, nI_add, pz_sub, pz_div, pz_m, pz_neg1, eq_self, or_self, false_or, or_false, true_or, or_true, ↓reduceIte, if_true, if_false, fx_X12_toldWrong, g2, k2, so, m1]
  rcases pr_mis S hu with ⟨q1, q2⟩ | ⟨q1, q2⟩
  · refine Or.inl ⟨-(nI 11), S, M, Or.inr (Or.inl rfl), ?_, ?_, px_fr, pm_fr⟩
    · simp (disch := omega) only [pz_l, pz_ltT, pz_ltF, pz_leT, pz_leF, pz_eqT, pz_eqF, pz_nF, pz_nqF, pz_cl, pz_rd, pz_up, pz_bd, pz_let, pk_mul, nI_add, pz_sub, pz_div, pz_m, pz_neg1, eq_self, or_self, false_or, or_false, true_or, or_true, ↓reduceIte, if_true, if_false, fx_X11_startTold, g1, k1, m2, q2]
    · simp (disch := omega) only [pz_l, pz_ltT, pz_ltF, pz_leT, pz_leF, pz_eqT, pz_eqF, pz_nF, pz_nqF, pz_cl, pz_rd, pz_up, pz_bd, pz_let, pk_mul, nI_add, pz_sub, pz_div, pz_m, pz_neg1, eq_self, or_self, false_or, or_false, true_or, or_true, ↓reduceIte, if_true, if_false, fx_X12_toldWrong, g2, k2, so, m1, ro, q1]
  rcases pq_start h (nI s) with ⟨M1, e, he, e1, e2, f2⟩ | ⟨s', W, n, t, S1, M1, es, hs', e1, e2, f1, f2', ⟨ht, lt⟩, hA, hL, ⟨wl, wy⟩, hW, -, -⟩
  · have he2 : e = -2 := by
      rcases he with rfl | ⟨-, s', hs', es, mm⟩
      · rfl
      · have : s = s' := (nI_eq (by omega) (by omega)).mp es
        subst this
        exact absurd mm m1
    subst he2
    refine Or.inl ⟨-(nI 2), S, M1, Or.inl rfl, ?_, ?_, px_fr, f2⟩
    · simp (disch := omega) only [pz_l, pz_ltT, pz_ltF, pz_leT, pz_leF, pz_eqT, pz_eqF, pz_nF, pz_nqF, pz_cl, pz_rd, pz_up, pz_bd, pz_let, pk_mul, nI_add, pz_sub, pz_div, pz_m, pz_neg1, eq_self, or_self, false_or, or_false, true_or, or_true, ↓reduceIte, if_true, if_false, fx_X11_startTold, g1, k1, m2, q2, e1, pz_20]
    · simp (disch := omega) only [pz_l, pz_ltT, pz_ltF, pz_leT, pz_leF, pz_eqT, pz_eqF, pz_nF, pz_nqF, pz_cl, pz_rd, pz_up, pz_bd, pz_let, pk_mul, nI_add, pz_sub, pz_div, pz_m, pz_neg1, eq_self, or_self, false_or, or_false, true_or, or_true, ↓reduceIte, if_true, if_false, fx_X12_toldWrong, g2, k2, so, m1, ro, q1, e2, pz_20]
  have f2 : pm_f pm_es pm_ea M M1 := pm_fm f2' (by decide) (by decide)
  have n1' : sx_now_viewers S1 = nI nv := (f1.1 2 (by decide)).trans n1
  have n3' : sm_viewers M1 = nI nv := (f2.1 0 (by decide)).trans (n2.trans n1)
  have z1 : sx_sh_sizes S1 u = nI z := by rw [show sx_sh_sizes S1 = sx_sh_sizes S from f1.2 19 (by decide)]; exact r1
  have z2 : sm_sheetSize M1 u = nI z := by rw [show sm_sheetSize M1 = sm_sheetSize M from f2.2 10 (by decide)]; exact r2
  by_cases zz : 12 < z
  · refine Or.inl ⟨-(nI 2), S1, M1, Or.inl rfl, ?_, ?_, f1, f2⟩
    · simp (disch := omega) only [pz_l, pz_ltT, pz_ltF, pz_leT, pz_leF, pz_eqT, pz_eqF, pz_nF, pz_nqF, pz_cl, pz_rd, pz_up, pz_bd, pz_let, pk_mul, nI_add, pz_sub, pz_div, pz_m, pz_neg1, eq_self, or_self, false_or, or_false, true_or, or_true, ↓reduceIte, if_true, if_false, fx_X11_startTold, g1, k1, m2, q2, e1, fx_X5_size, z1]
    · simp (disch := omega) only [pz_l, pz_ltT, pz_ltF, pz_leT, pz_leF, pz_eqT, pz_eqF, pz_nF, pz_nqF, pz_cl, pz_rd, pz_up, pz_bd, pz_let, pk_mul, nI_add, pz_sub, pz_div, pz_m, pz_neg1, eq_self, or_self, false_or, or_false, true_or, or_true, ↓reduceIte, if_true, if_false, fx_X12_toldWrong, g2, k2, so, m1, ro, q1, e2, z2]
  rcases pn_iv hnv n1' n3' a3 with ⟨v1, v2⟩ | ⟨v, hv, rfl, v1, v2⟩
  · refine Or.inl ⟨-(nI 5), S1, M1, Or.inr (Or.inr rfl), ?_, ?_, f1, f2⟩
    · simp (disch := omega) only [pz_l, pz_ltT, pz_ltF, pz_leT, pz_leF, pz_eqT, pz_eqF, pz_nF, pz_nqF, pz_cl, pz_rd, pz_up, pz_bd, pz_let, pk_mul, nI_add, pz_sub, pz_div, pz_m, pz_neg1, eq_self, or_self, false_or, or_false, true_or, or_true, ↓reduceIte, if_true, if_false, fx_X11_startTold, g1, k1, m2, q2, e1, fx_X5_size, z1, v1]
    · simp (disch := omega) only [pz_l, pz_ltT, pz_ltF, pz_leT, pz_leF, pz_eqT, pz_eqF, pz_nF, pz_nqF, pz_cl, pz_rd, pz_up, pz_bd, pz_let, pk_mul, nI_add, pz_sub, pz_div, pz_m, pz_neg1, eq_self, or_self, false_or, or_false, true_or, or_true, ↓reduceIte, if_true, if_false, fx_X12_toldWrong, g2, k2, so, m1, ro, q1, e2, z2, v2]
  have v8 : v < 8 := by omega
  refine Or.inr ⟨u, z, v, W, n, t, pt_lc v 1 S1, M1, rfl, rfl, ?_, ?_, ⟨v8, hu, by omega, ht, lt⟩, px_ft f1 (px_fm (px_lcf v 1 S1) (by decide) (by decide)), f2, px_CH (pq_lcC f1 hA hL v 1), pm_Cf (pq_mC h lt ht v8 (by decide)) f2, hW, r1, r2, r3⟩
  · simp (disch := omega) only [pz_l, pz_ltT, pz_ltF, pz_leT, pz_leF, pz_eqT, pz_eqF, pz_nF, pz_nqF, pz_cl, pz_rd, pz_up, pz_bd, pz_let, pk_mul, nI_add, pz_sub, pz_div, pz_m, pz_neg1, eq_self, or_self, false_or, or_false, true_or, or_true, ↓reduceIte, if_true, if_false, fx_X11_startTold, g1, k1, m2, q2, e1, fx_X5_size, z1, v1, pf_lc v8 (show 1 < 9 by decide)]
  · simp (disch := omega) only [pz_l, pz_ltT, pz_ltF, pz_leT, pz_leF, pz_eqT, pz_eqF, pz_nF, pz_nqF, pz_cl, pz_rd, pz_up, pz_bd, pz_let, pk_mul, nI_add, pz_sub, pz_div, pz_m, pz_neg1, eq_self, or_self, false_or, or_false, true_or, or_true, ↓reduceIte, if_true, if_false, fx_X12_toldWrong, g2, k2, so, m1, ro, q1, e2, z2, v2]
theorem pz_50 : (-(nI 5) = nI 0) = False := eq_false (by decide)
theorem pz_n0 {e : Int32} (he : e = -(nI 2) ∨ e = -(nI 11) ∨ e = -(nI 5)) : (e = nI 0) = False := eq_false (by
  rcases he with rfl | rfl | rfl <;> decide)
theorem pq_judge : lq_judge px_R := by
  rintro S M ⟨T, h⟩ a1 a2 a3
  rcases pq_told0 h a1 a2 a3 with ⟨e, S1, M1, he, e1, e2, f1, f2⟩ | ⟨u, z, v, W, n, t, S1, M1, rfl, rfl, e1, e2, ⟨hv, hu, hz, ht, lt⟩, f1, f2, hH, hM, hW, z1, z2, z3⟩
  · have e0 := pz_n0 he
    refine ⟨e, S1, M1, ?_, ?_, T, px_Qf h f1 f2⟩
    · simp (disch := omega) only [pz_l, pz_ltT, pz_ltF, pz_leT, pz_leF, pz_eqT, pz_eqF, pz_nF, pz_nqF, pz_cl, pz_rd, pz_up, pz_bd, pz_let, pk_mul, nI_add, pz_sub, pz_div, pz_m, pz_neg1, eq_self, or_self, false_or, or_false, true_or, or_true, ↓reduceIte, if_true, if_false, lx_judge, fx_X11_judge, e1, e0]
    · simp (disch := omega) only [pz_l, pz_ltT, pz_ltF, pz_leT, pz_leF, pz_eqT, pz_eqF, pz_nF, pz_nqF, pz_cl, pz_rd, pz_up, pz_bd, pz_let, pk_mul, nI_add, pz_sub, pz_div, pz_m, pz_neg1, eq_self, or_self, false_or, or_false, true_or, or_true, ↓reduceIte, if_true, if_false, lm_judge, fx_X12_judge, e2, e0]
  have q1 : sx_sh_sizes S1 u = nI z := by rw [show sx_sh_sizes S1 = sx_sh_sizes S from f1.2 19 (by decide)]; exact z1
  have q2 : sm_sheetSize M1 u = nI z := by rw [show sm_sheetSize M1 = sm_sheetSize M from f2.2 10 (by decide)]; exact z2
  obtain ⟨x, S2, M2, a1', a2', a3', a4, a5, -⟩ := pq_ot (S := S1) hu hz hH hM hW q1 q2 (fun i hi => by
    rw [show sm_cells M1 = sm_cells M from f2.2 11 (by decide), show sx_sh_cells S1 = sx_sh_cells S from f1.2 17 (by decide)]
    exact z3 i hi)
  refine ⟨x, S2, M2, ?_, ?_, T, px_Qf h (px_ft f1 a4) (pm_ft f2 (pm_fe a5))⟩
  · simp (disch := omega) only [pz_l, pz_ltT, pz_ltF, pz_leT, pz_leF, pz_eqT, pz_eqF, pz_nF, pz_nqF, pz_cl, pz_rd, pz_up, pz_bd, pz_let, pk_mul, nI_add, pz_sub, pz_div, pz_m, pz_neg1, eq_self, or_self, false_or, or_false, true_or, or_true, ↓reduceIte, if_true, if_false, lx_judge, fx_X11_judge, e1, a1']
  · simp (disch := omega) only [pz_l, pz_ltT, pz_ltF, pz_leT, pz_leF, pz_eqT, pz_eqF, pz_nF, pz_nqF, pz_cl, pz_rd, pz_up, pz_bd, pz_let, pk_mul, nI_add, pz_sub, pz_div, pz_m, pz_neg1, eq_self, or_self, false_or, or_false, true_or, or_true, ↓reduceIte, if_true, if_false, lm_judge, fx_X12_judge, e2, a2']
