/-! ===== film ===== -/
theorem px_Q7 {T : Nat → Nat → List Int32} {S S' : sx_T} {M M' : sm_T} (h : px_Q T S M) (hx : px_f px_es (17 :: 18 :: 19 :: px_ea) S S') (hm : pm_f pm_es (9 :: 10 :: 11 :: pm_ea) M M') (hs : pr_sh S' M') : px_Q T S' M' := by
  have q : px_Q T (ux_sh_sizes (ux_sh_sorts (ux_sh_cells S' (sx_sh_cells S)) (sx_sh_sorts S)) (sx_sh_sizes S)) (um_cells (um_sheetSize (um_sheetSort M' (sm_sheetSort M)) (sm_sheetSize M)) (sm_cells M)) := by
    refine px_Qf h ⟨hx.1, fun k hk => ?_⟩ ⟨hm.1, fun k hk => ?_⟩
    · by_cases k19 : k = 19
      · subst k19; rfl
      by_cases k18 : k = 18
      · subst k18; rfl
      by_cases k17 : k = 17
      · subst k17; rfl
      refine Eq.trans ?_ (hx.2 k (fun m => ?_))
      · show am_us (am_us (am_us S'.2.1 17 _) 18 _) 19 _ k = S'.2.1 k
        rw [pu_n k19, pu_n k18, pu_n k17]
      · rcases List.mem_cons.mp m with m | m
        · exact k17 m
        rcases List.mem_cons.mp m with m | m
        · exact k18 m
        rcases List.mem_cons.mp m with m | m
        · exact k19 m
        exact hk m
    · by_cases k11 : k = 11
      · subst k11; rfl
      by_cases k10 : k = 10
      · subst k10; rfl
      by_cases k9 : k = 9
      · subst k9; rfl
      refine Eq.trans ?_ (hm.2 k (fun m => ?_))
      · show am_us (am_us (am_us M'.2 9 _) 10 _) 11 _ k = M'.2 k
        rw [pu_n k11, pu_n k10, pu_n k9]
      · rcases List.mem_cons.mp m with m | m
        · exact k9 m
        rcases List.mem_cons.mp m with m | m
        · exact k10 m
        rcases List.mem_cons.mp m with m | m
        · exact k11 m
        exact hk m
  obtain ⟨a1, a2, a3, a4, a5, a6, a7, -⟩ := q
  exact ⟨a1, a2, a3, a4, a5, a6, a7, hs⟩
theorem px_Hc {V : pv_V} {W : Nat → Nat} {n : Nat} {M : sm_T} {S : sx_T} (x y z : Nat → Int32) (h : px_H V W n M S) : px_H V W n M (ux_sh_cells (ux_sh_sizes (ux_sh_sorts S x) y) z) := h
theorem px_Hc1 {V : pv_V} {W : Nat → Nat} {n : Nat} {M : sm_T} {S : sx_T} (z : Nat → Int32) (h : px_H V W n M S) : px_H V W n M (ux_sh_cells S z) := h
/-- the first twelve -/
theorem pf_fi {V : pv_V} {W : Nat → Nat} {n v u : Nat} {M0 M : sm_T} {S0 S : sx_T} {was : Int32} (hu : u < 4) (hM : pm_C S0 V v 1 M) (hW : pm_W W n M) (so : sx_sh_sorts S u = nI 2) : ∀ (d k g g' : Nat) (Sk : sx_T) (Mk : sm_T), k + d = 12 → d < g → d + 30 < g' → px_H V W n M0 Sk → px_f px_es (17 :: px_ea) S Sk → pm_f [1] [11, 13, 14] M Mk → (∀ j, j < 40 * u ∨ 40 * u + 40 ≤ j → sx_sh_cells Sk j = sx_sh_cells S j ∧ sm_cells Mk j = sm_cells M j) → (∀ j, j < k → sm_cells Mk (40 * u + j) = sx_sh_cells Sk (40 * u + j)) → ∃ g2 g2' S' M', fx_X11_film_70 g (nI u) (nI k) Sk = fx_X11_film_70 (g2 + 1) (nI u) (nI 12) S' ∧ fx_X12_film_76 g' (nI u) (nI v) was (nI k) Mk = fx_X12_film_76 g2' (nI u) (nI v) was (nI 12) M' ∧ 29 < g2' ∧ px_f px_es (17 :: px_ea) S S' ∧ pm_f [1] [11, 13, 14] M M' ∧ (∀ j, j < 40 * u ∨ 40 * u + 40 ≤ j → sx_sh_cells S' j = sx_sh_cells S j ∧ sm_cells M' j = sm_cells M j) ∧ (∀ j, j < 12 → sm_cells M' (40 * u + j) = sx_sh_cells S' (40 * u + j)) := by
  have hv : v < 8 := hM.1.1
  intro d
  induction d with
  | zero =>
    intro k g g' Sk Mk h1 h2 h3 hH fS fM out eq
    obtain ⟨f, rfl⟩ : ∃ f, g = f + 1 := ⟨g - 1, by omega⟩
    have hk : k = 12 := by omega
    subst hk
    exact ⟨f, g', Sk, Mk, rfl, rfl, by omega, fS, fM, out, eq⟩
  | succ d ih =>
    intro k g g' Sk Mk h1 h2 h3 hH fS fM out eq
    obtain ⟨f, rfl⟩ : ∃ f, g = f + 1 := ⟨g - 1, by omega⟩
    obtain ⟨f', rfl⟩ : ∃ f, g' = f + 1 := ⟨g' - 1, by omega⟩
    obtain ⟨y, hC⟩ := hH
    have hC1 := px_shC hC (x := nI k) ⟨k, by omega, rfl⟩
    rw [pv_shh] at hC1
    obtain ⟨S2, x1, x2, x3⟩ := pf_offer hC1
    have hM1 : pm_C S0 (pv_sh V (nI k)) v 1 (um_hour Mk (nI k)) := by
      obtain ⟨a, ⟨t', ht', rt, tx'⟩, c, dd, e, fh, gg⟩ := hM
      refine ⟨a, ⟨t', ht', (fM.1 4 (by decide)).trans rt, pr_txm tx' (fM.2 5 (by decide)) (fM.2 6 (by decide))⟩, ?_, ?_, ?_, rfl, ?_⟩
      · show ∃ k, k < 6 ∧ sm_kind Mk v = nI k ∧ _
        rw [show sm_kind Mk = sm_kind M from fM.2 0 (by decide)]; exact c
      · show ∃ m, m < 10 ∧ sm_moreOf Mk v = nI m ∧ _
        rw [show sm_moreOf Mk = sm_moreOf M from fM.2 1 (by decide)]; exact dd
      · show ∀ r, r < 6 → sm_flat Mk (2 * r) = _ ∧ sm_flat Mk (2 * r + 1) = _
        rw [show sm_flat Mk = sm_flat M from fM.2 3 (by decide)]; exact e
      · show sm_ones Mk (2 * v) = _
        rw [show sm_ones Mk = sm_ones M from fM.2 2 (by decide)]; exact gg
    have hW1 : pm_W W n (um_hour Mk (nI k)) := by
      obtain ⟨a, b, c⟩ := hW
      refine ⟨(fM.1 13 (by decide)).trans a, b, fun i hi => ⟨(c i hi).1, ?_⟩⟩
      show sm_row Mk i = _
      rw [show sm_row Mk = sm_row M from fM.2 15 (by decide)]
      exact (c i hi).2
    obtain ⟨M2, y1, y2⟩ := pe_offer hM1 hW1
    generalize pv_of (pv_sh V (nI k)) W n = o at x1 y1
    have y1' : fx_X12_offerOf (nI v) (nI 1) (um_hour Mk (nI k)) = some (o, M2) := y1
    have sS : sx_sh_sorts S2 u = nI 2 := by
      rw [show sx_sh_sorts S2 = sx_sh_sorts Sk from (x2.1.2 18 (by decide)).trans ((px_shf (nI k) Sk).2 18 (by decide)), show sx_sh_sorts Sk = sx_sh_sorts S from fS.2 18 (by decide)]
      exact so
    have cS : sx_sh_cells S2 = sx_sh_cells Sk := (x2.1.2 17 (by decide)).trans ((px_shf (nI k) Sk).2 17 (by decide))
    have cM : sm_cells M2 = sm_cells Mk := y2.2 11 (by decide)
    have ix : u * 40 + k = 40 * u + k := by omega
    have wr : fx_X5_write (nI u) (nI k) o S2 = ux_sh_cells S2 (upd (sx_sh_cells S2) (40 * u + k) o) := by
      simp (disch := omega) only [pz_l, pz_ltT, pz_ltF, pz_leT, pz_leF, pz_eqT, pz_eqF, pz_nF, pz_nqF, pz_cl, pz_rd, pz_up, pz_bd, pz_let, pk_mul, nI_add, pz_sub, pz_div, pz_m, pz_neg1, eq_self, or_self, false_or, or_false, true_or, or_true, ↓reduceIte, if_true, if_false, fx_X5_write, sS, ix]
    have fS2 : px_f px_es (17 :: px_ea) S (ux_sh_cells S2 (upd (sx_sh_cells S2) (40 * u + k) o)) := px_fa (j := 17) (S' := S2) (px_ft fS (px_ft (px_fm (px_shf (nI k) Sk) (by decide) (by decide)) (px_fm x2.1 (by decide) (by decide)))) (by decide)
    have fM2 : pm_f [1] [11, 13, 14] M (um_cells M2 (upd (sm_cells M2) (40 * u + k) o)) := pm_fa (j := 11) (S' := M2) (pm_ft fM (pm_ft (pm_fs (j := 1) (S' := Mk) pm_fr (by decide)) (pm_fm y2 (by decide) (by decide)))) (by decide)
    obtain ⟨g2, g2', S3, M3, b1, b2, b3, b4, b5, b6, b7⟩ := ih (k + 1) f f' _ _ (by omega) (by omega) (by omega) (px_Hc1 (upd (sx_sh_cells S2) (40 * u + k) o) ⟨nI k, x3⟩) fS2 fM2 (by
      intro j hj
      obtain ⟨o1, o2⟩ := out j hj
      refine ⟨?_, ?_⟩
      · show upd (sx_sh_cells S2) (40 * u + k) o j = _
        rw [pz_un (by omega), cS]; exact o1
      · show upd (sm_cells M2) (40 * u + k) o j = _
        rw [pz_un (by omega), cM]; exact o2) (by
      intro j hj
      show upd (sm_cells M2) (40 * u + k) o (40 * u + j) = upd (sx_sh_cells S2) (40 * u + k) o (40 * u + j)
      by_cases q : j = k
      · subst q; rw [pz_us, pz_us]
      · rw [pz_un (by omega), pz_un (by omega), cM, cS]
        exact eq j (by omega))
    refine ⟨g2, g2', S3, M3, Eq.trans ?_ b1, Eq.trans ?_ b2, b3, b4, b5, b6, b7⟩
    · rw [fx_X11_film_70, if_neg (show ¬ (12 : Int32) ≤ nI k from nI_ge (a := k) (b := 12) (by omega) (by decide)), pz_let, x1, pz_bd]
      show am_let (fx_X5_write (nI u) (nI k) o S2) (fun q => fx_X11_film_70 f (nI u) (nI k + 1) q) = _
      rw [wr, pz_let, show nI k + 1 = nI (k + 1) from (nI_succ k).symm]
    · rw [fx_X12_film_76]
      simp (disch := omega) only [pz_l, pz_ltT, pz_ltF, pz_leT, pz_leF, pz_eqT, pz_eqF, pz_nF, pz_nqF, pz_cl, pz_rd, pz_up, pz_bd, pz_let, pk_mul, nI_add, pz_sub, pz_div, pz_m, pz_neg1, eq_self, or_self, false_or, or_false, true_or, or_true, ↓reduceIte, if_true, if_false, fx_X12_film_98, y1']
/-- the places behind them -/
theorem pf_fi2 {v u hh : Nat} (hu : u < 4) (hhl : hh < 12) : ∀ (d k g : Nat) (Mk : sm_T), k + d = 40 → 12 ≤ k → d < g → ∃ M', fx_X12_film_76 g (nI u) (nI v) (nI hh) (nI k) Mk = some (sm_cells M' (40 * u + hh), um_hour M' (nI hh)) ∧ pm_f [1] [11] Mk M' ∧ (∀ j, j < 40 * u + 12 ∨ 40 * u + 40 ≤ j → sm_cells M' j = sm_cells Mk j) := by
  intro d
  induction d with
  | zero =>
    intro k g Mk h1 hk h2
    obtain ⟨f, rfl⟩ : ∃ f, g = f + 1 := ⟨g - 1, by omega⟩
    have hk : k = 40 := by omega
    subst hk
    refine ⟨Mk, ?_, pm_fr, fun _ _ => rfl⟩
    have wi : fx_X12_within (nI hh) (nI 0) (nI 11) = nI hh := by simp (disch := omega) only [pz_l, pz_ltT, pz_ltF, pz_leT, pz_leF, pz_eqT, pz_eqF, pz_nF, pz_nqF, pz_cl, pz_rd, pz_up, pz_bd, pz_let, pk_mul, nI_add, pz_sub, pz_div, pz_m, pz_neg1, eq_self, or_self, false_or, or_false, true_or, or_true, ↓reduceIte, if_true, if_false, fx_X12_within]
    rw [fx_X12_film_76]
    simp (disch := omega) only [pz_l, pz_ltT, pz_ltF, pz_leT, pz_leF, pz_eqT, pz_eqF, pz_nF, pz_nqF, pz_cl, pz_rd, pz_up, pz_bd, pz_let, pk_mul, nI_add, pz_sub, pz_div, pz_m, pz_neg1, eq_self, or_self, false_or, or_false, true_or, or_true, ↓reduceIte, if_true, if_false, wi]
  | succ d ih =>
    intro k g Mk h1 hk h2
    obtain ⟨f, rfl⟩ : ∃ f, g = f + 1 := ⟨g - 1, by omega⟩
    obtain ⟨M', b1, b2, b3⟩ := ih (k + 1) f (um_cells (um_hour Mk (nI hh)) (upd (sm_cells Mk) (40 * u + k) (nI 0))) (by omega) (by omega) (by omega)
    refine ⟨M', Eq.trans ?_ b1, pm_ft (pm_fa (j := 11) (S' := um_hour Mk (nI hh)) (pm_fs (j := 1) (S' := Mk) pm_fr (by decide)) (by decide)) b2, fun j hj => ?_⟩
    · rw [fx_X12_film_76]
      simp (disch := omega) only [pz_l, pz_ltT, pz_ltF, pz_leT, pz_leF, pz_eqT, pz_eqF, pz_nF, pz_nqF, pz_cl, pz_rd, pz_up, pz_bd, pz_let, pk_mul, nI_add, pz_sub, pz_div, pz_m, pz_neg1, eq_self, or_self, false_or, or_false, true_or, or_true, ↓reduceIte, if_true, if_false, fx_X12_film_98]
    · rw [b3 j hj]
      show upd (sm_cells Mk) (40 * u + k) (nI 0) j = _
      rw [pz_un (by omega)]
theorem pq_film : lq_film px_R := by
  rintro S M ⟨T, h⟩ a1 a2 a3
  obtain ⟨⟨⟨nv, hnv, n1⟩, n2⟩, ⟨hh, hhl, hh1⟩, hh2⟩ := id h.1
  rcases pn_w a1 4 3 rfl (by decide) with ⟨g1, g2⟩ | ⟨s, hs, rfl, g1, g2⟩
  · refine ⟨-2, S, M, ?_, ?_, T, h⟩
    · simp (disch := omega) only [pz_l, pz_ltT, pz_ltF, pz_leT, pz_leF, pz_eqT, pz_eqF, pz_nF, pz_nqF, pz_cl, pz_rd, pz_up, pz_bd, pz_let, pk_mul, nI_add, pz_sub, pz_div, pz_m, pz_neg1, eq_self, or_self, false_or, or_false, true_or, or_true, ↓reduceIte, if_true, if_false, lx_film, fx_X11_film, g1]
    · simp (disch := omega) only [pz_l, pz_ltT, pz_ltF, pz_leT, pz_leF, pz_eqT, pz_eqF, pz_nF, pz_nqF, pz_cl, pz_rd, pz_up, pz_bd, pz_let, pk_mul, nI_add, pz_sub, pz_div, pz_m, pz_neg1, eq_self, or_self, false_or, or_false, true_or, or_true, ↓reduceIte, if_true, if_false, lm_film, fx_X12_film, g2]
  rcases pn_w a2 4 3 rfl (by decide) with ⟨k1, k2⟩ | ⟨u, hu, rfl, k1, k2⟩
  · refine ⟨-2, S, M, ?_, ?_, T, h⟩
    · simp (disch := omega) only [pz_l, pz_ltT, pz_ltF, pz_leT, pz_leF, pz_eqT, pz_eqF, pz_nF, pz_nqF, pz_cl, pz_rd, pz_up, pz_bd, pz_let, pk_mul, nI_add, pz_sub, pz_div, pz_m, pz_neg1, eq_self, or_self, false_or, or_false, true_or, or_true, ↓reduceIte, if_true, if_false, lx_film, fx_X11_film, g1, k1]
    · simp (disch := omega) only [pz_l, pz_ltT, pz_ltF, pz_leT, pz_leF, pz_eqT, pz_eqF, pz_nF, pz_nqF, pz_cl, pz_rd, pz_up, pz_bd, pz_let, pk_mul, nI_add, pz_sub, pz_div, pz_m, pz_neg1, eq_self, or_self, false_or, or_false, true_or, or_true, ↓reduceIte, if_true, if_false, lm_film, fx_X12_film, g2, k2]
  by_cases su : s = u
  · refine ⟨-2, S, M, ?_, ?_, T, h⟩
    · simp (disch := omega) only [pz_l, pz_ltT, pz_ltF, pz_leT, pz_leF, pz_eqT, pz_eqF, pz_nF, pz_nqF, pz_cl, pz_rd, pz_up, pz_bd, pz_let, pk_mul, nI_add, pz_sub, pz_div, pz_m, pz_neg1, eq_self, or_self, false_or, or_false, true_or, or_true, ↓reduceIte, if_true, if_false, lx_film, fx_X11_film, g1, k1]
    · simp (disch := omega) only [pz_l, pz_ltT, pz_ltF, pz_leT, pz_leF, pz_eqT, pz_eqF, pz_nF, pz_nqF, pz_cl, pz_rd, pz_up, pz_bd, pz_let, pk_mul, nI_add, pz_sub, pz_div, pz_m, pz_neg1, eq_self, or_self, false_or, or_false, true_or, or_true, ↓reduceIte, if_true, if_false, lm_film, fx_X12_film, g2, k2]
  have x1 : ¬ fx_X11_within (nI s) 4 = 0 := by rw [show fx_X11_within (nI s) 4 = nI 1 from g1]; decide
  have x2 : ¬ fx_X11_within (nI u) 4 = 0 := by rw [show fx_X11_within (nI u) 4 = nI 1 from k1]; decide
  have x3 : ¬ nI s = nI u := fun q => su ((nI_eq (by omega) (by omega)).mp q)
  rcases pq_start h (nI s) with ⟨M1, e, he, e1, e2, f2⟩ | ⟨s', W, n, t, S1, M1, es, hs', e1, e2, f1, f2', ⟨ht, lt⟩, hA, hL, ⟨wl, wy⟩, hW, -, -⟩
  · refine ⟨e, S, M1, ?_, ?_, T, px_Qf h px_fr f2⟩
    · rcases he with rfl | ⟨rfl, -⟩
      · unfold lx_film fx_X11_film
        rw [if_neg x1, if_neg x2, if_neg x3, e1, pz_bd]
        exact if_neg (show ¬ (-2 : Int32) = 0 by decide)
      · unfold lx_film fx_X11_film
        rw [if_neg x1, if_neg x2, if_neg x3, e1, pz_bd]
        exact if_neg (show ¬ (-11 : Int32) = 0 by decide)
    · rcases he with rfl | ⟨rfl, -⟩
      · simp (disch := omega) only [pz_l, pz_ltT, pz_ltF, pz_leT, pz_leF, pz_eqT, pz_eqF, pz_nF, pz_nqF, pz_cl, pz_rd, pz_up, pz_bd, pz_let, pk_mul, nI_add, pz_sub, pz_div, pz_m, pz_neg1, eq_self, or_self, false_or, or_false, true_or, or_true, ↓reduceIte, if_true, if_false, lm_film, fx_X12_film, g2, k2, e2, pz_20, pz_110]
      · simp (disch := omega) only [pz_l, pz_ltT, pz_ltF, pz_leT, pz_leF, pz_eqT, pz_eqF, pz_nF, pz_nqF, pz_cl, pz_rd, pz_up, pz_bd, pz_let, pk_mul, nI_add, pz_sub, pz_div, pz_m, pz_neg1, eq_self, or_self, false_or, or_false, true_or, or_true, ↓reduceIte, if_true, if_false, lm_film, fx_X12_film, g2, k2, e2, pz_20, pz_110]
  have f2 : pm_f pm_es pm_ea M M1 := pm_fm f2' (by decide) (by decide)
  have n1' : sx_now_viewers S1 = nI nv := (f1.1 2 (by decide)).trans n1
  have n3' : sm_viewers M1 = nI nv := (f2.1 0 (by decide)).trans (n2.trans n1)
  have hq1 : px_Q T S1 M1 := px_Qf h f1 f2
  rcases pn_iv hnv n1' n3' a3 with ⟨v1, v2⟩ | ⟨v, hv, rfl, v1, v2⟩
  · refine ⟨-5, S1, M1, ?_, ?_, T, hq1⟩
    · unfold lx_film fx_X11_film
      rw [if_neg x1, if_neg x2, if_neg x3, e1, pz_bd, if_pos (show ((0 : Int32), S1).1 = 0 from rfl)]
      exact if_pos v1
    · simp (disch := omega) only [pz_l, pz_ltT, pz_ltF, pz_leT, pz_leF, pz_eqT, pz_eqF, pz_nF, pz_nqF, pz_cl, pz_rd, pz_up, pz_bd, pz_let, pk_mul, nI_add, pz_sub, pz_div, pz_m, pz_neg1, eq_self, or_self, false_or, or_false, true_or, or_true, ↓reduceIte, if_true, if_false, lm_film, fx_X12_film, g2, k2, e2, v2]
  have v8 : v < 8 := by omega
  have hC := px_CH (pq_lcC f1 hA hL v 1)
  have hM := pm_Cf (pq_mC (cr := 1) h lt ht v8 (by decide)) f2
  -- behind the sheet made
  have lay := pf_layS (n := 12) (so := 2) hu (by decide) (pt_lc v 1 S1)
  generalize hSL : ux_sh_cells (ux_sh_sizes (ux_sh_sorts (pt_lc v 1 S1) (upd (sx_sh_sorts (pt_lc v 1 S1)) u 2)) (upd (sx_sh_sizes (pt_lc v 1 S1)) u (nI 12))) (pu_z (sx_sh_cells (pt_lc v 1 S1)) (40 * u) (40 * u + 12)) = SL at lay
  have hHL : px_H (pv_cur T t S v 1) W n M SL := by
    rw [← hSL]; exact px_Hc _ _ _ hC
  have soL : sx_sh_sorts SL u = nI 2 := by
    rw [← hSL]
    exact pz_us
  have szL : sx_sh_sizes SL = upd (sx_sh_sizes S1) u (nI 12) := by rw [← hSL]; rfl
  have soL2 : sx_sh_sorts SL = upd (sx_sh_sorts S1) u 2 := by rw [← hSL]; rfl
  have ceL : sx_sh_cells SL = pu_z (sx_sh_cells S1) (40 * u) (40 * u + 12) := by rw [← hSL]; rfl
  have frL : px_f px_es (17 :: 18 :: 19 :: px_ea) S1 SL := by
    rw [← hSL]
    exact px_fa (j := 17) (S' := ux_sh_sizes (ux_sh_sorts (pt_lc v 1 S1) (upd (sx_sh_sorts (pt_lc v 1 S1)) u 2)) (upd (sx_sh_sizes (pt_lc v 1 S1)) u (nI 12))) (px_fa (j := 19) (S' := ux_sh_sorts (pt_lc v 1 S1) (upd (sx_sh_sorts (pt_lc v 1 S1)) u 2)) (px_fa (j := 18) (S' := pt_lc v 1 S1) (px_fm (px_lcf v 1 S1) (by decide) (by decide)) (by decide)) (by decide)) (by decide)
  have hML : pm_C S (pv_cur T t S v 1) v 1 (um_sheetSize (um_sheetSort M1 (upd (sm_sheetSort M1) u 2)) (upd (sm_sheetSize M1) u (nI 12))) := hM
  have hWL : pm_W W n (um_sheetSize (um_sheetSort M1 (upd (sm_sheetSort M1) u 2)) (upd (sm_sheetSize M1) u (nI 12))) := hW
  obtain ⟨g3, g3', S3, M3, b1, b2, b3, b4, b5, b6, b7⟩ := pf_fi (S := SL) (was := nI hh) hu hML hWL soL 12 0 am_fu am_fu SL _ (by omega) (by rw [pf_u]; omega) (by rw [pf_u]; omega) hHL px_fr pm_fr (fun j _ => ⟨rfl, rfl⟩) (fun j hj => absurd hj (Nat.not_lt_zero j))
  obtain ⟨M4, c1, c2, c3⟩ := pf_fi2 (v := v) hu hhl 28 12 g3' M3 (by omega) (by omega) (by omega)
  have hour1 : sm_hour M1 = nI hh := (f2.1 1 (by decide)).trans (hh2.trans hh1)
  have hourS : sx_now_hour S3 = nI hh := (b4.1 3 (by decide)).trans ((frL.1 3 (by decide)).trans ((f1.1 3 (by decide)).trans hh1))
  have x4 : ¬ fx_X11_isViewer (nI v) S1 = 0 := by rw [v1]; decide
  have y1 : ¬ fx_X12_in (nI s) 0 3 = 0 := by rw [show fx_X12_in (nI s) 0 3 = nI 1 from g2]; decide
  have y2 : ¬ fx_X12_in (nI u) 0 3 = 0 := by rw [show fx_X12_in (nI u) 0 3 = nI 1 from k2]; decide
  have y4 : ¬ fx_X12_isViewer (nI v) M1 = 0 := by rw [v2]; decide
  have lc : fx_X11_letCome (nI v) 1 S1 = pt_lc v 1 S1 := pf_lc v8 (show 1 < 9 by decide) S1
  have lay' : fx_X5_lay (nI u) 2 12 (pt_lc v 1 S1) = some SL := lay
  have b1' : fx_X11_film_70 am_fu (nI u) 0 SL = some (sx_sh_cells S3 (40 * u + hh), S3) := by
    refine Eq.trans b1 ?_
    rw [fx_X11_film_70, if_pos (show (12 : Int32) ≤ nI 12 from nI_le (a := 12) (b := 12) (by decide) (by decide)), hourS, pf_rd hu (by omega)]
  have cc : sm_cells M4 (40 * u + hh) = sx_sh_cells S3 (40 * u + hh) := by
    rw [c3 _ (Or.inl (by omega))]
    exact b7 hh hhl
  have szM3 : sm_sheetSize M3 = upd (sm_sheetSize M1) u (nI 12) := b5.2 10 (by decide)
  have soM3 : sm_sheetSort M3 = upd (sm_sheetSort M1) u 2 := b5.2 9 (by decide)
  have szM4 : sm_sheetSize M4 = sm_sheetSize M3 := c2.2 10 (by decide)
  have soM4 : sm_sheetSort M4 = sm_sheetSort M3 := c2.2 9 (by decide)
  have szS3 : sx_sh_sizes S3 = sx_sh_sizes SL := b4.2 19 (by decide)
  have soS3 : sx_sh_sorts S3 = sx_sh_sorts SL := b4.2 18 (by decide)
  have hsh : pr_sh S3 (um_hour M4 (nI hh)) := by
    intro x hx
    obtain ⟨p1, m, hm, p2, p3, p4⟩ := hq1.2.2.2.2.2.2.2 x hx
    show sm_sheetSort M4 x = sx_sh_sorts S3 x ∧ ∃ n, n < 41 ∧ sx_sh_sizes S3 x = nI n ∧ sm_sheetSize M4 x = nI n ∧ ∀ i, i < n → sm_cells M4 (40 * x + i) = sx_sh_cells S3 (40 * x + i)
    rw [soM4, soM3, soS3, soL2, szS3, szL, szM4, szM3]
    by_cases q : x = u
    · subst q
      refine ⟨pz_us.trans pz_us.symm, 12, by decide, pz_us, pz_us, fun i hi => ?_⟩
      rw [c3 _ (Or.inl (by omega))]
      exact b7 i hi
    · refine ⟨by rw [pz_un q, pz_un q]; exact p1, m, hm, by rw [pz_un q]; exact p2, by rw [pz_un q]; exact p3, fun i hi => ?_⟩
      have hj : 40 * x + i < 40 * u ∨ 40 * u + 40 ≤ 40 * x + i := by omega
      obtain ⟨w1, w2⟩ := b6 _ hj
      rw [c3 _ (by omega), w1, w2, ceL]
      show sm_cells M1 (40 * x + i) = pu_z (sx_sh_cells S1) (40 * u) (40 * u + 12) (40 * x + i)
      unfold pu_z
      rw [if_neg (by omega)]
      exact p4 i hi
  have frS : px_f px_es (17 :: 18 :: 19 :: px_ea) S1 S3 := px_ft frL (px_fm b4 (by decide) (by decide))
  have frM : pm_f pm_es (9 :: 10 :: 11 :: pm_ea) M1 (um_hour M4 (nI hh)) := by
    have w : pm_f (1 :: pm_es) (9 :: 10 :: 11 :: pm_ea) M1 (um_hour M4 (nI hh)) := pm_fs (j := 1) (S' := M4) (pm_ft (pm_fa (j := 10) (S' := um_sheetSort M1 (upd (sm_sheetSort M1) u 2)) (pm_fa (j := 9) (S' := M1) pm_fr (by decide)) (by decide)) (pm_ft (pm_fm b5 (by decide) (by decide)) (pm_fm c2 (by decide) (by decide)))) (by decide)
    exact pm_fzs w hour1.symm
  refine ⟨sx_sh_cells S3 (40 * u + hh), S3, um_hour M4 (nI hh), ?_, ?_, T, px_Q7 hq1 frS frM hsh⟩
  · unfold lx_film fx_X11_film
    rw [if_neg x1, if_neg x2, if_neg x3, e1, pz_bd, if_pos (show ((0 : Int32), S1).1 = 0 from rfl), if_neg x4]
    show am_let (fx_X11_letCome (nI v) 1 S1) _ = _
    rw [lc, pz_let, lay', pz_bd]
    exact b1'
  · unfold lm_film fx_X12_film
    rw [if_neg y1, if_neg y2, if_neg x3, e2, pz_bd, if_pos (show ((0 : Int32), M1).1 = 0 from rfl), if_neg y4, if_neg (nI_in hu (by decide)), if_neg (nI_in hu (by decide)), pz_cl (by omega)]
    show fx_X12_film_76 am_fu (nI u) (nI v) (sm_hour M1) 0 _ = _
    rw [hour1]
    refine Eq.trans b2 (c1.trans ?_)
    rw [cc]
