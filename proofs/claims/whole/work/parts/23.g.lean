/-! ===== laws, kinds, film ===== -/
theorem pr_txx {T : Nat → List Int32} {t : Nat} {S S' : sx_T} {M : sm_T} (h : pr_tx1 T t S M) (f : px_f px_es px_ea S S') : pr_tx1 T t S' M := by
  have b10 : sx_tx_steps S' = sx_tx_steps S := f.2 10 (by decide)
  have b11 : sx_tx_ends S' = sx_tx_ends S := f.2 11 (by decide)
  have b12 : sx_tx_named S' = sx_tx_named S := f.2 12 (by decide)
  unfold pr_tx1 at h ⊢
  rw [b10, b11, b12]
  exact h
theorem pz_or0 (x : Int32) : x ||| nI 0 = x := Int32.or_zero
theorem pf_la {T : Nat → Nat → List Int32} {u z v q : Nat} {W : Nat → Nat} {n t : Nat} {S S1 : sx_T} {M M1 : sm_T} (td : px_td T u z v W n t S M S1 M1) (hq : q < 7) (c1 : sx_tx_count S = nI q) (c2 : sm_texts M = nI q) (tx : pr_tx T q S M) : ∀ (d k g g' : Nat) (bits : Int32) (Sk : sx_T) (Mk : sm_T), k + d = q → d < g → d < g' → (∃ X, px_H (pv_st (pv_cur T t S v 1) X) W n M Sk) → px_f px_es px_ea S Sk → pm_f [4] [13, 14] M1 Mk → ∃ r S' M', fx_X11_laws_23 g (nI u) bits (nI k) Sk = some (r, S') ∧ fx_X12_laws_29 g' (nI u) (nI v) (sm_rule M1) bits (nI k) Mk = some (r, M') ∧ px_f px_es px_ea S S' ∧ pm_f [] [13, 14] M1 M' := by
  obtain ⟨⟨hv, hu, hz, ht, lt⟩, f1, f2, -, hM, hW, z1, z2, z3⟩ := td
  intro d
  induction d with
  | zero =>
    intro k g g' bits Sk Mk h1 h2 h3 hH fS fM
    obtain ⟨f, rfl⟩ : ∃ f, g = f + 1 := ⟨g - 1, by omega⟩
    obtain ⟨f', rfl⟩ : ∃ f, g' = f + 1 := ⟨g' - 1, by omega⟩
    have hk : k = q := by omega
    subst hk
    have e1 : sx_tx_count Sk = nI k := (fS.1 8 (by decide)).trans c1
    have e2 : sm_texts Mk = nI k := (fM.1 3 (by decide)).trans ((f2.1 3 (by decide)).trans c2)
    refine ⟨bits, Sk, um_rule Mk (sm_rule M1), ?_, ?_, fS, pm_fzs (j := 4) (pm_fs (j := 4) (S' := Mk) fM (by decide)) rfl⟩
    · rw [fx_X11_laws_23]; simp (disch := omega) only [pz_l, pz_ltT, pz_ltF, pz_leT, pz_leF, pz_eqT, pz_eqF, pz_nF, pz_nqF, pz_cl, pz_rd, pz_up, pz_bd, pz_let, pk_mul, nI_add, pz_sub, pz_div, pz_m, pz_neg1, eq_self, or_self, false_or, or_false, true_or, or_true, ↓reduceIte, if_true, if_false, e1]
    · rw [fx_X12_laws_29]; simp (disch := omega) only [pz_l, pz_ltT, pz_ltF, pz_leT, pz_leF, pz_eqT, pz_eqF, pz_nF, pz_nqF, pz_cl, pz_rd, pz_up, pz_bd, pz_let, pk_mul, nI_add, pz_sub, pz_div, pz_m, pz_neg1, eq_self, or_self, false_or, or_false, true_or, or_true, ↓reduceIte, if_true, if_false, e2]
  | succ d ih =>
    intro k g g' bits Sk Mk h1 h2 h3 hH fS fM
    obtain ⟨f, rfl⟩ : ∃ f, g = f + 1 := ⟨g - 1, by omega⟩
    obtain ⟨f', rfl⟩ : ∃ f, g' = f + 1 := ⟨g' - 1, by omega⟩
    have e1 : sx_tx_count Sk = nI q := (fS.1 8 (by decide)).trans c1
    have e2 : sm_texts Mk = nI q := (fM.1 3 (by decide)).trans ((f2.1 3 (by decide)).trans c2)
    obtain ⟨X0, y, hC⟩ := hH
    have tk := tx k (by omega)
    have hC1 := px_stC (t := k) (T := T k) hC (by omega) (pr_txx tk fS)
    have hC1' : px_C (pv_sh (pv_st (pv_cur T t S v 1) (T k)) y) W n M (fx_X10_setLaw (nI k) Sk) := hC1
    have hMk : pm_C S (pv_st (pv_cur T t S v 1) (T k)) v 1 (um_rule Mk (nI k)) := by
      obtain ⟨a, ⟨t', ht', rt, tx'⟩, c, dd, e, fh, gg⟩ := hM
      refine ⟨a, ⟨k, by omega, rfl, pr_txm tk ((fM.2 5 (by decide)).trans (f2.2 5 (by decide))) ((fM.2 6 (by decide)).trans (f2.2 6 (by decide)))⟩, ?_, ?_, ?_, (fM.1 1 (by decide)).trans fh, ?_⟩
      · show ∃ k, k < 6 ∧ sm_kind Mk v = nI k ∧ _
        rw [show sm_kind Mk = sm_kind M1 from fM.2 0 (by decide)]; exact c
      · show ∃ m, m < 10 ∧ sm_moreOf Mk v = nI m ∧ _
        rw [show sm_moreOf Mk = sm_moreOf M1 from fM.2 1 (by decide)]; exact dd
      · show ∀ r, r < 6 → sm_flat Mk (2 * r) = _ ∧ sm_flat Mk (2 * r + 1) = _
        rw [show sm_flat Mk = sm_flat M1 from fM.2 3 (by decide)]; exact e
      · show sm_ones Mk (2 * v) = _
        rw [show sm_ones Mk = sm_ones M1 from fM.2 2 (by decide)]; exact gg
    have fo' : pm_f [4] [13, 14] M1 (um_rule Mk (nI k)) := pm_fs (j := 4) (S' := Mk) fM (by decide)
    have hWk : pm_W W n (um_rule Mk (nI k)) := pm_Wfl hW (pm_fm fo' (by decide) (by decide))
    have fS1 : px_f px_es px_ea S (fx_X10_setLaw (nI k) Sk) := px_ft fS (px_stf (nI k) Sk)
    have q1 : sx_sh_sizes (fx_X10_setLaw (nI k) Sk) u = nI z := by rw [show sx_sh_sizes (fx_X10_setLaw (nI k) Sk) = sx_sh_sizes S from fS1.2 19 (by decide)]; exact z1
    have q2 : sm_sheetSize (um_rule Mk (nI k)) u = nI z := by
      rw [show sm_sheetSize (um_rule Mk (nI k)) = sm_sheetSize M1 from fo'.2 10 (by decide), show sm_sheetSize M1 = sm_sheetSize M from f2.2 10 (by decide)]; exact z2
    obtain ⟨x, S2, M2, a1, a2, a3, a4, a5, a6⟩ := pq_ot hu hz ⟨y, hC1'⟩ hMk hWk q1 q2 (fun i hi => by
      rw [show sm_cells (um_rule Mk (nI k)) = sm_cells M1 from fo'.2 11 (by decide), show sm_cells M1 = sm_cells M from f2.2 11 (by decide), show sx_sh_cells (fx_X10_setLaw (nI k) Sk) = sx_sh_cells S from fS1.2 17 (by decide)]
      exact z3 i hi)
    have fS2 : px_f px_es px_ea S S2 := px_ft fS1 a4
    have fM2 : pm_f [4] [13, 14] M1 M2 := pm_ft fo' (pm_fm a5 (by decide) (by decide))
    rcases a6 with rfl | ⟨j, hj, rfl⟩
    · obtain ⟨r, S3, M3, b1, b2, b3, b4⟩ := ih (k + 1) f f' (bits ||| ((1 : Int32) <<< (nI k &&& 31))) S2 M2 (by omega) (by omega) (by omega) ⟨T k, a3⟩ fS2 fM2
      refine ⟨r, S3, M3, ?_, ?_, b3, b4⟩
      · rw [fx_X11_laws_23]
        simp (disch := omega) only [pz_l, pz_ltT, pz_ltF, pz_leT, pz_leF, pz_eqT, pz_eqF, pz_nF, pz_nqF, pz_cl, pz_rd, pz_up, pz_bd, pz_let, pk_mul, nI_add, pz_sub, pz_div, pz_m, pz_neg1, eq_self, or_self, false_or, or_false, true_or, or_true, ↓reduceIte, if_true, if_false, e1, a1]
        exact b1
      · rw [fx_X12_laws_29]
        simp (disch := omega) only [pz_l, pz_ltT, pz_ltF, pz_leT, pz_leF, pz_eqT, pz_eqF, pz_nF, pz_nqF, pz_cl, pz_rd, pz_up, pz_bd, pz_let, pk_mul, nI_add, pz_sub, pz_div, pz_m, pz_neg1, eq_self, or_self, false_or, or_false, true_or, or_true, ↓reduceIte, if_true, if_false, e2, a2]
        exact b2
    · obtain ⟨r, S3, M3, b1, b2, b3, b4⟩ := ih (k + 1) f f' bits S2 M2 (by omega) (by omega) (by omega) ⟨T k, a3⟩ fS2 fM2
      refine ⟨r, S3, M3, ?_, ?_, b3, b4⟩
      · rw [fx_X11_laws_23]
        simp (disch := omega) only [pz_l, pz_ltT, pz_ltF, pz_leT, pz_leF, pz_eqT, pz_eqF, pz_nF, pz_nqF, pz_cl, pz_rd, pz_up, pz_bd, pz_let, pk_mul, nI_add, pz_sub, pz_div, pz_m, pz_neg1, eq_self, or_self, false_or, or_false, true_or, or_true, ↓reduceIte, if_true, if_false, e1, a1]
        exact b1
      · rw [fx_X12_laws_29]
        simp (disch := omega) only [pz_l, pz_ltT, pz_ltF, pz_leT, pz_leF, pz_eqT, pz_eqF, pz_nF, pz_nqF, pz_cl, pz_rd, pz_up, pz_bd, pz_let, pk_mul, nI_add, pz_sub, pz_div, pz_m, pz_neg1, eq_self, or_self, false_or, or_false, true_or, or_true, ↓reduceIte, if_true, if_false, e2, a2, pz_or0]
        exact b2
theorem pq_laws : lq_laws px_R := by
  rintro S M ⟨T, h⟩ a1 a2 a3
  rcases pq_told0 h a1 a2 a3 with ⟨e, S1, M1, he, e1, e2, f1, f2⟩ | ⟨u, z, v, W, n, t, S1, M1, rfl, rfl, e1, e2, td⟩
  · have e0 := pz_n0 he
    refine ⟨e, S1, M1, ?_, ?_, T, px_Qf h f1 f2⟩
    · simp (disch := omega) only [pz_l, pz_ltT, pz_ltF, pz_leT, pz_leF, pz_eqT, pz_eqF, pz_nF, pz_nqF, pz_cl, pz_rd, pz_up, pz_bd, pz_let, pk_mul, nI_add, pz_sub, pz_div, pz_m, pz_neg1, eq_self, or_self, false_or, or_false, true_or, or_true, ↓reduceIte, if_true, if_false, lx_laws, fx_X11_laws, e1, e0]
    · simp (disch := omega) only [pz_l, pz_ltT, pz_ltF, pz_leT, pz_leF, pz_eqT, pz_eqF, pz_nF, pz_nqF, pz_cl, pz_rd, pz_up, pz_bd, pz_let, pk_mul, nI_add, pz_sub, pz_div, pz_m, pz_neg1, eq_self, or_self, false_or, or_false, true_or, or_true, ↓reduceIte, if_true, if_false, lm_laws, fx_X12_laws, e2, e0]
  obtain ⟨⟨hv, hu, hz, ht, lt⟩, f1, f2, hH, hM, hW, z1, z2, z3⟩ := id td
  obtain ⟨q, hq, c1, c2, -, -, tx⟩ := h.2.1
  obtain ⟨r, S2, M2, b1, b2, b3, b4⟩ := pf_la td hq c1 c2 tx q 0 am_fu am_fu (nI 0) S1 M1 (by omega) (by rw [pf_u]; omega) (by rw [pf_u]; omega) ⟨(pv_cur T t S v 1).1, hH⟩ f1 pm_fr
  refine ⟨r, S2, M2, ?_, ?_, T, px_Qf h b3 (pm_ft f2 (pm_fe b4))⟩
  · unfold lx_laws fx_X11_laws
    rw [e1, pz_bd, if_pos (show (nI 0, S1).1 = 0 from rfl)]
    exact b1
  · unfold lm_laws fx_X12_laws
    rw [e2, pz_bd, if_pos (show (nI 0, M1).1 = 0 from rfl)]
    exact b2
theorem pv_sms (V : pv_V) (x y x' : Int32) : pv_sm (pv_sh (pv_sm V x) y) x' = pv_sh (pv_sm V x') y := by
  unfold pv_sm pv_sh
  have : upd (upd (upd V.2.2.1 0 x) 3 y) 0 x' = upd (upd V.2.2.1 0 x') 3 y := by
    funext j
    simp only [pz_u]
    by_cases q : j = 0
    · subst q; rfl
    · rw [if_neg q, if_neg q, if_neg q]
  rw [this]
theorem pv_smi {V : pv_V} {x : Int32} (h : V.2.2.1 0 = x) : pv_sm V x = V := by
  unfold pv_sm
  rw [← h, pu_sf]
theorem pf_ki0 {T : Nat → Nat → List Int32} {u z v : Nat} {W : Nat → Nat} {n t : Nat} {S S1 : sx_T} {M M1 : sm_T} (td : px_td T u z v W n t S M S1 M1) : ∀ (d k g g' : Nat) (bits : Int32) (Sk : sx_T) (Mk : sm_T), k + d = 6 → d < g → d < g' → (∃ X, px_H (pv_sk (pv_cur T t S v 1) X) W n M Sk) → px_f px_es px_ea S Sk → pm_f [] [0, 1, 13, 14] M1 Mk → (∀ j, j ≠ v → sm_kind Mk j = sm_kind M1 j ∧ sm_moreOf Mk j = sm_moreOf M1 j) → ∃ r S' M', fx_X11_kinds_35 g (nI u) (nI 0) bits (nI k) Sk = some (r, S') ∧ fx_X12_kinds_52 g' (nI u) (nI v) (nI 0) (sm_kind M1 v) (sm_moreOf M1 v) bits (nI k) Mk = some (r, M') ∧ px_f px_es px_ea S S' ∧ pm_f [] [13, 14] M1 M' := by
  obtain ⟨⟨hv, hu, hz, ht, lt⟩, f1, f2, -, hM, hW, z1, z2, z3⟩ := td
  intro d
  induction d with
  | zero =>
    intro k g g' bits Sk Mk h1 h2 h3 hH fS fM fo
    obtain ⟨f, rfl⟩ : ∃ f, g = f + 1 := ⟨g - 1, by omega⟩
    obtain ⟨f', rfl⟩ : ∃ f, g' = f + 1 := ⟨g' - 1, by omega⟩
    have hk : k = 6 := by omega
    subst hk
    have fr : pm_f [] [13, 14] M1 (um_moreOf (um_kind Mk (upd (sm_kind Mk) v (sm_kind M1 v))) (upd (sm_moreOf Mk) v (sm_moreOf M1 v))) := pm_fz (j := 1) (pm_fz (j := 0) (pm_fa (j := 1) (S' := um_kind Mk (upd (sm_kind Mk) v (sm_kind M1 v))) (pm_fa (j := 0) (S' := Mk) fM (by decide)) (by decide)) (pu_rest (fun j hj => (fo j hj).1))) (pu_rest (fun j hj => (fo j hj).2))
    refine ⟨bits, Sk, _, ?_, ?_, fS, fr⟩
    · rw [fx_X11_kinds_35]; simp (disch := omega) only [pz_l, pz_ltT, pz_ltF, pz_leT, pz_leF, pz_eqT, pz_eqF, pz_nF, pz_nqF, pz_cl, pz_rd, pz_up, pz_bd, pz_let, pk_mul, nI_add, pz_sub, pz_div, pz_m, pz_neg1, eq_self, or_self, false_or, or_false, true_or, or_true, ↓reduceIte, if_true, if_false, fx_X11_kinds_49]
    · rw [fx_X12_kinds_52]; simp (disch := omega) only [pz_l, pz_ltT, pz_ltF, pz_leT, pz_leF, pz_eqT, pz_eqF, pz_nF, pz_nqF, pz_cl, pz_rd, pz_up, pz_bd, pz_let, pk_mul, nI_add, pz_sub, pz_div, pz_m, pz_neg1, eq_self, or_self, false_or, or_false, true_or, or_true, ↓reduceIte, if_true, if_false, fx_X12_kinds_66]
  | succ d ih =>
    intro k g g' bits Sk Mk h1 h2 h3 hH fS fM fo
    obtain ⟨f, rfl⟩ : ∃ f, g = f + 1 := ⟨g - 1, by omega⟩
    obtain ⟨f', rfl⟩ : ∃ f, g' = f + 1 := ⟨g' - 1, by omega⟩
    obtain ⟨X0, y, hC⟩ := hH
    have hC1' : px_C (pv_sh (pv_sk (pv_cur T t S v 1) (fx_X11_kindAt (nI k))) y) W n M (fx_X10_setKind (fx_X11_kindAt (nI k)) Sk) := px_skC hC (fx_X11_kindAt (nI k))
    have hMk : pm_C S (pv_sk (pv_cur T t S v 1) (fx_X11_kindAt (nI k))) v 1 (um_moreOf (um_kind Mk (upd (sm_kind Mk) v (nI k))) (upd (sm_moreOf Mk) v (sm_moreOf M1 v))) := by
      obtain ⟨a, ⟨t', ht', rt, tx'⟩, c, dd, e, fh, gg⟩ := hM
      refine ⟨a, ⟨t', ht', (fM.1 4 (by decide)).trans rt, pr_txm tx' (fM.2 5 (by decide)) (fM.2 6 (by decide))⟩, ?_, ?_, ?_, (fM.1 1 (by decide)).trans fh, ?_⟩
      · exact ⟨k, by omega, pz_us, rfl⟩
      · obtain ⟨mm, hmm, mm1, mm2⟩ := dd
        exact ⟨mm, hmm, pz_us.trans mm1, mm2⟩
      · show ∀ r, r < 6 → sm_flat Mk (2 * r) = _ ∧ sm_flat Mk (2 * r + 1) = _
        rw [show sm_flat Mk = sm_flat M1 from fM.2 3 (by decide)]; exact e
      · show sm_ones Mk (2 * v) = _
        rw [show sm_ones Mk = sm_ones M1 from fM.2 2 (by decide)]; exact gg
    have fo' : pm_f [] [0, 1, 13, 14] M1 (um_moreOf (um_kind Mk (upd (sm_kind Mk) v (nI k))) (upd (sm_moreOf Mk) v (sm_moreOf M1 v))) := pm_fa (j := 1) (S' := um_kind Mk (upd (sm_kind Mk) v (nI k))) (pm_fa (j := 0) (S' := Mk) fM (by decide)) (by decide)
    have hWk : pm_W W n (um_moreOf (um_kind Mk (upd (sm_kind Mk) v (nI k))) (upd (sm_moreOf Mk) v (sm_moreOf M1 v))) := pm_Wfl hW (pm_fm fo' (by decide) (by decide))
    have fS1 : px_f px_es px_ea S (fx_X10_setKind (fx_X11_kindAt (nI k)) Sk) := px_ft fS (px_skf (fx_X11_kindAt (nI k)) Sk)
    have q1 : sx_sh_sizes (fx_X10_setKind (fx_X11_kindAt (nI k)) Sk) u = nI z := by rw [show sx_sh_sizes (fx_X10_setKind (fx_X11_kindAt (nI k)) Sk) = sx_sh_sizes S from fS1.2 19 (by decide)]; exact z1
    have q2 : sm_sheetSize (um_moreOf (um_kind Mk (upd (sm_kind Mk) v (nI k))) (upd (sm_moreOf Mk) v (sm_moreOf M1 v))) u = nI z := by
      rw [show sm_sheetSize (um_moreOf (um_kind Mk (upd (sm_kind Mk) v (nI k))) (upd (sm_moreOf Mk) v (sm_moreOf M1 v))) = sm_sheetSize M1 from fo'.2 10 (by decide), show sm_sheetSize M1 = sm_sheetSize M from f2.2 10 (by decide)]; exact z2
    obtain ⟨x, S2, M2, a1, a2, a3, a4, a5, a6⟩ := pq_ot hu hz ⟨y, hC1'⟩ hMk hWk q1 q2 (fun i hi => by
      rw [show sm_cells (um_moreOf (um_kind Mk (upd (sm_kind Mk) v (nI k))) (upd (sm_moreOf Mk) v (sm_moreOf M1 v))) = sm_cells M1 from fo'.2 11 (by decide), show sm_cells M1 = sm_cells M from f2.2 11 (by decide), show sx_sh_cells (fx_X10_setKind (fx_X11_kindAt (nI k)) Sk) = sx_sh_cells S from fS1.2 17 (by decide)]
      exact z3 i hi)
    have fS2 : px_f px_es px_ea S S2 := px_ft fS1 a4
    have fM2 : pm_f [] [0, 1, 13, 14] M1 M2 := pm_ft fo' (pm_fm a5 (by decide) (by decide))
    have fo2 : ∀ j, j ≠ v → sm_kind M2 j = sm_kind M1 j ∧ sm_moreOf M2 j = sm_moreOf M1 j := by
      intro j hj
      rw [show sm_kind M2 = upd (sm_kind Mk) v (nI k) from a5.2 0 (by decide), show sm_moreOf M2 = upd (sm_moreOf Mk) v (sm_moreOf M1 v) from a5.2 1 (by decide), pz_un hj, pz_un hj]
      exact fo j hj
    rcases a6 with rfl | ⟨j, hj, rfl⟩
    · obtain ⟨r, S3, M3, b1, b2, b3, b4⟩ := ih (k + 1) f f' (bits ||| ((1 : Int32) <<< (nI k &&& 31))) S2 M2 (by omega) (by omega) (by omega) ⟨(fx_X11_kindAt (nI k)), a3⟩ fS2 fM2 fo2
      refine ⟨r, S3, M3, ?_, ?_, b3, b4⟩
      · rw [fx_X11_kinds_35]
        simp (disch := omega) only [pz_l, pz_ltT, pz_ltF, pz_leT, pz_leF, pz_eqT, pz_eqF, pz_nF, pz_nqF, pz_cl, pz_rd, pz_up, pz_bd, pz_let, pk_mul, nI_add, pz_sub, pz_div, pz_m, pz_neg1, eq_self, or_self, false_or, or_false, true_or, or_true, ↓reduceIte, if_true, if_false, fx_X11_kinds_49, a1]
        exact b1
      · rw [fx_X12_kinds_52]
        simp (disch := omega) only [pz_l, pz_ltT, pz_ltF, pz_leT, pz_leF, pz_eqT, pz_eqF, pz_nF, pz_nqF, pz_cl, pz_rd, pz_up, pz_bd, pz_let, pk_mul, nI_add, pz_sub, pz_div, pz_m, pz_neg1, eq_self, or_self, false_or, or_false, true_or, or_true, ↓reduceIte, if_true, if_false, fx_X12_kinds_66, fx_X12_kinds_86, fx_X12_kinds_105]
        refine (congrArg (fun o => am_bd o _) a2).trans ?_
        simp (disch := omega) only [pz_l, pz_ltT, pz_ltF, pz_leT, pz_leF, pz_eqT, pz_eqF, pz_nF, pz_nqF, pz_cl, pz_rd, pz_up, pz_bd, pz_let, pk_mul, nI_add, pz_sub, pz_div, pz_m, pz_neg1, eq_self, or_self, false_or, or_false, true_or, or_true, ↓reduceIte, if_true, if_false]
        exact b2
    · obtain ⟨r, S3, M3, b1, b2, b3, b4⟩ := ih (k + 1) f f' bits S2 M2 (by omega) (by omega) (by omega) ⟨(fx_X11_kindAt (nI k)), a3⟩ fS2 fM2 fo2
      refine ⟨r, S3, M3, ?_, ?_, b3, b4⟩
      · rw [fx_X11_kinds_35]
        simp (disch := omega) only [pz_l, pz_ltT, pz_ltF, pz_leT, pz_leF, pz_eqT, pz_eqF, pz_nF, pz_nqF, pz_cl, pz_rd, pz_up, pz_bd, pz_let, pk_mul, nI_add, pz_sub, pz_div, pz_m, pz_neg1, eq_self, or_self, false_or, or_false, true_or, or_true, ↓reduceIte, if_true, if_false, fx_X11_kinds_49, a1]
        exact b1
      · rw [fx_X12_kinds_52]
        simp (disch := omega) only [pz_l, pz_ltT, pz_ltF, pz_leT, pz_leF, pz_eqT, pz_eqF, pz_nF, pz_nqF, pz_cl, pz_rd, pz_up, pz_bd, pz_let, pk_mul, nI_add, pz_sub, pz_div, pz_m, pz_neg1, eq_self, or_self, false_or, or_false, true_or, or_true, ↓reduceIte, if_true, if_false, fx_X12_kinds_66, fx_X12_kinds_86, fx_X12_kinds_105]
        refine (congrArg (fun o => am_bd o _) a2).trans ?_
        simp (disch := omega) only [pz_l, pz_ltT, pz_ltF, pz_leT, pz_leF, pz_eqT, pz_eqF, pz_nF, pz_nqF, pz_cl, pz_rd, pz_up, pz_bd, pz_let, pk_mul, nI_add, pz_sub, pz_div, pz_m, pz_neg1, eq_self, or_self, false_or, or_false, true_or, or_true, ↓reduceIte, if_true, if_false, pz_or0]
        exact b2
theorem pf_ki1 {T : Nat → Nat → List Int32} {u z v : Nat} {W : Nat → Nat} {n t : Nat} {S S1 : sx_T} {M M1 : sm_T} (td : px_td T u z v W n t S M S1 M1) : ∀ (d k g g' : Nat) (bits : Int32) (Sk : sx_T) (Mk : sm_T), k + d = 10 → d < g → d < g' → (∃ X, px_H (pv_sm (pv_cur T t S v 1) X) W n M Sk) → px_f px_es px_ea S Sk → pm_f [] [0, 1, 13, 14] M1 Mk → (∀ j, j ≠ v → sm_kind Mk j = sm_kind M1 j ∧ sm_moreOf Mk j = sm_moreOf M1 j) → ∃ r S' M', fx_X11_kinds_35 g (nI u) (nI 1) bits (nI k) Sk = some (r, S') ∧ fx_X12_kinds_52 g' (nI u) (nI v) (nI 1) (sm_kind M1 v) (sm_moreOf M1 v) bits (nI k) Mk = some (r, M') ∧ px_f px_es px_ea S S' ∧ pm_f [] [13, 14] M1 M' := by
  obtain ⟨⟨hv, hu, hz, ht, lt⟩, f1, f2, -, hM, hW, z1, z2, z3⟩ := td
  intro d
  induction d with
  | zero =>
    intro k g g' bits Sk Mk h1 h2 h3 hH fS fM fo
    obtain ⟨f, rfl⟩ : ∃ f, g = f + 1 := ⟨g - 1, by omega⟩
    obtain ⟨f', rfl⟩ : ∃ f, g' = f + 1 := ⟨g' - 1, by omega⟩
    have hk : k = 10 := by omega
    subst hk
    have fr : pm_f [] [13, 14] M1 (um_moreOf (um_kind Mk (upd (sm_kind Mk) v (sm_kind M1 v))) (upd (sm_moreOf Mk) v (sm_moreOf M1 v))) := pm_fz (j := 1) (pm_fz (j := 0) (pm_fa (j := 1) (S' := um_kind Mk (upd (sm_kind Mk) v (sm_kind M1 v))) (pm_fa (j := 0) (S' := Mk) fM (by decide)) (by decide)) (pu_rest (fun j hj => (fo j hj).1))) (pu_rest (fun j hj => (fo j hj).2))
    refine ⟨bits, Sk, _, ?_, ?_, fS, fr⟩
    · rw [fx_X11_kinds_35]; simp (disch := omega) only [pz_l, pz_ltT, pz_ltF, pz_leT, pz_leF, pz_eqT, pz_eqF, pz_nF, pz_nqF, pz_cl, pz_rd, pz_up, pz_bd, pz_let, pk_mul, nI_add, pz_sub, pz_div, pz_m, pz_neg1, eq_self, or_self, false_or, or_false, true_or, or_true, ↓reduceIte, if_true, if_false, fx_X11_kinds_49]
    · rw [fx_X12_kinds_52]; simp (disch := omega) only [pz_l, pz_ltT, pz_ltF, pz_leT, pz_leF, pz_eqT, pz_eqF, pz_nF, pz_nqF, pz_cl, pz_rd, pz_up, pz_bd, pz_let, pk_mul, nI_add, pz_sub, pz_div, pz_m, pz_neg1, eq_self, or_self, false_or, or_false, true_or, or_true, ↓reduceIte, if_true, if_false, fx_X12_kinds_66]
  | succ d ih =>
    intro k g g' bits Sk Mk h1 h2 h3 hH fS fM fo
    obtain ⟨f, rfl⟩ : ∃ f, g = f + 1 := ⟨g - 1, by omega⟩
    obtain ⟨f', rfl⟩ : ∃ f, g' = f + 1 := ⟨g' - 1, by omega⟩
    obtain ⟨X0, y, hC⟩ := hH
    have hC1' := px_smC hC (nI k)
    rw [pv_sms] at hC1'
    have hMk : pm_C S (pv_sm (pv_cur T t S v 1) (nI k)) v 1 (um_moreOf (um_kind Mk (upd (sm_kind Mk) v (sm_kind M1 v))) (upd (sm_moreOf Mk) v (nI k))) := by
      obtain ⟨a, ⟨t', ht', rt, tx'⟩, c, dd, e, fh, gg⟩ := hM
      refine ⟨a, ⟨t', ht', (fM.1 4 (by decide)).trans rt, pr_txm tx' (fM.2 5 (by decide)) (fM.2 6 (by decide))⟩, ?_, ?_, ?_, (fM.1 1 (by decide)).trans fh, ?_⟩
      · obtain ⟨kk, hkk, kk1, kk2⟩ := c
        exact ⟨kk, hkk, pz_us.trans kk1, kk2⟩
      · exact ⟨k, by omega, pz_us, rfl⟩
      · show ∀ r, r < 6 → sm_flat Mk (2 * r) = _ ∧ sm_flat Mk (2 * r + 1) = _
        rw [show sm_flat Mk = sm_flat M1 from fM.2 3 (by decide)]; exact e
      · show sm_ones Mk (2 * v) = _
        rw [show sm_ones Mk = sm_ones M1 from fM.2 2 (by decide)]; exact gg
    have fo' : pm_f [] [0, 1, 13, 14] M1 (um_moreOf (um_kind Mk (upd (sm_kind Mk) v (sm_kind M1 v))) (upd (sm_moreOf Mk) v (nI k))) := pm_fa (j := 1) (S' := um_kind Mk (upd (sm_kind Mk) v (sm_kind M1 v))) (pm_fa (j := 0) (S' := Mk) fM (by decide)) (by decide)
    have hWk : pm_W W n (um_moreOf (um_kind Mk (upd (sm_kind Mk) v (sm_kind M1 v))) (upd (sm_moreOf Mk) v (nI k))) := pm_Wfl hW (pm_fm fo' (by decide) (by decide))
    have fS1 : px_f px_es px_ea S (fx_X10_setMore (nI k) Sk) := px_ft fS (px_smf (nI k) Sk)
    have q1 : sx_sh_sizes (fx_X10_setMore (nI k) Sk) u = nI z := by rw [show sx_sh_sizes (fx_X10_setMore (nI k) Sk) = sx_sh_sizes S from fS1.2 19 (by decide)]; exact z1
    have q2 : sm_sheetSize (um_moreOf (um_kind Mk (upd (sm_kind Mk) v (sm_kind M1 v))) (upd (sm_moreOf Mk) v (nI k))) u = nI z := by
      rw [show sm_sheetSize (um_moreOf (um_kind Mk (upd (sm_kind Mk) v (sm_kind M1 v))) (upd (sm_moreOf Mk) v (nI k))) = sm_sheetSize M1 from fo'.2 10 (by decide), show sm_sheetSize M1 = sm_sheetSize M from f2.2 10 (by decide)]; exact z2
    obtain ⟨x, S2, M2, a1, a2, a3, a4, a5, a6⟩ := pq_ot hu hz ⟨y, hC1'⟩ hMk hWk q1 q2 (fun i hi => by
      rw [show sm_cells (um_moreOf (um_kind Mk (upd (sm_kind Mk) v (sm_kind M1 v))) (upd (sm_moreOf Mk) v (nI k))) = sm_cells M1 from fo'.2 11 (by decide), show sm_cells M1 = sm_cells M from f2.2 11 (by decide), show sx_sh_cells (fx_X10_setMore (nI k) Sk) = sx_sh_cells S from fS1.2 17 (by decide)]
      exact z3 i hi)
    have fS2 : px_f px_es px_ea S S2 := px_ft fS1 a4
    have fM2 : pm_f [] [0, 1, 13, 14] M1 M2 := pm_ft fo' (pm_fm a5 (by decide) (by decide))
    have fo2 : ∀ j, j ≠ v → sm_kind M2 j = sm_kind M1 j ∧ sm_moreOf M2 j = sm_moreOf M1 j := by
      intro j hj
      rw [show sm_kind M2 = upd (sm_kind Mk) v (sm_kind M1 v) from a5.2 0 (by decide), show sm_moreOf M2 = upd (sm_moreOf Mk) v (nI k) from a5.2 1 (by decide), pz_un hj, pz_un hj]
      exact fo j hj
    rcases a6 with rfl | ⟨j, hj, rfl⟩
    · obtain ⟨r, S3, M3, b1, b2, b3, b4⟩ := ih (k + 1) f f' (bits ||| ((1 : Int32) <<< (nI k &&& 31))) S2 M2 (by omega) (by omega) (by omega) ⟨(nI k), a3⟩ fS2 fM2 fo2
      refine ⟨r, S3, M3, ?_, ?_, b3, b4⟩
      · rw [fx_X11_kinds_35]
        simp (disch := omega) only [pz_l, pz_ltT, pz_ltF, pz_leT, pz_leF, pz_eqT, pz_eqF, pz_nF, pz_nqF, pz_cl, pz_rd, pz_up, pz_bd, pz_let, pk_mul, nI_add, pz_sub, pz_div, pz_m, pz_neg1, eq_self, or_self, false_or, or_false, true_or, or_true, ↓reduceIte, if_true, if_false, fx_X11_kinds_49, a1]
        exact b1
      · rw [fx_X12_kinds_52]
        simp (disch := omega) only [pz_l, pz_ltT, pz_ltF, pz_leT, pz_leF, pz_eqT, pz_eqF, pz_nF, pz_nqF, pz_cl, pz_rd, pz_up, pz_bd, pz_let, pk_mul, nI_add, pz_sub, pz_div, pz_m, pz_neg1, eq_self, or_self, false_or, or_false, true_or, or_true, ↓reduceIte, if_true, if_false, fx_X12_kinds_66, fx_X12_kinds_86, fx_X12_kinds_105]
        refine (congrArg (fun o => am_bd o _) a2).trans ?_
        simp (disch := omega) only [pz_l, pz_ltT, pz_ltF, pz_leT, pz_leF, pz_eqT, pz_eqF, pz_nF, pz_nqF, pz_cl, pz_rd, pz_up, pz_bd, pz_let, pk_mul, nI_add, pz_sub, pz_div, pz_m, pz_neg1, eq_self, or_self, false_or, or_false, true_or, or_true, ↓reduceIte, if_true, if_false]
        exact b2
    · obtain ⟨r, S3, M3, b1, b2, b3, b4⟩ := ih (k + 1) f f' bits S2 M2 (by omega) (by omega) (by omega) ⟨(nI k), a3⟩ fS2 fM2 fo2
      refine ⟨r, S3, M3, ?_, ?_, b3, b4⟩
      · rw [fx_X11_kinds_35]
        simp (disch := omega) only [pz_l, pz_ltT, pz_ltF, pz_leT, pz_leF, pz_eqT, pz_eqF, pz_nF, pz_nqF, pz_cl, pz_rd, pz_up, pz_bd, pz_let, pk_mul, nI_add, pz_sub, pz_div, pz_m, pz_neg1, eq_self, or_self, false_or, or_false, true_or, or_true, ↓reduceIte, if_true, if_false, fx_X11_kinds_49, a1]
        exact b1
      · rw [fx_X12_kinds_52]
        simp (disch := omega) only [pz_l, pz_ltT, pz_ltF, pz_leT, pz_leF, pz_eqT, pz_eqF, pz_nF, pz_nqF, pz_cl, pz_rd, pz_up, pz_bd, pz_let, pk_mul, nI_add, pz_sub, pz_div, pz_m, pz_neg1, eq_self, or_self, false_or, or_false, true_or, or_true, ↓reduceIte, if_true, if_false, fx_X12_kinds_66, fx_X12_kinds_86, fx_X12_kinds_105]
        refine (congrArg (fun o => am_bd o _) a2).trans ?_
        simp (disch := omega) only [pz_l, pz_ltT, pz_ltF, pz_leT, pz_leF, pz_eqT, pz_eqF, pz_nF, pz_nqF, pz_cl, pz_rd, pz_up, pz_bd, pz_let, pk_mul, nI_add, pz_sub, pz_div, pz_m, pz_neg1, eq_self, or_self, false_or, or_false, true_or, or_true, ↓reduceIte, if_true, if_false, pz_or0]
        exact b2
theorem pq_kinds : lq_kinds px_R := by
  rintro S M ⟨T, h⟩ a1 a2 a3 a4
  rcases pq_told0 h a1 a2 a3 with ⟨e, S1, M1, he, e1, e2, f1, f2⟩ | ⟨u, z, v, W, n, t, S1, M1, rfl, rfl, e1, e2, td⟩
  · have e0 := pz_n0 he
    refine ⟨e, S1, M1, ?_, ?_, T, px_Qf h f1 f2⟩
    · simp (disch := omega) only [pz_l, pz_ltT, pz_ltF, pz_leT, pz_leF, pz_eqT, pz_eqF, pz_nF, pz_nqF, pz_cl, pz_rd, pz_up, pz_bd, pz_let, pk_mul, nI_add, pz_sub, pz_div, pz_m, pz_neg1, eq_self, or_self, false_or, or_false, true_or, or_true, ↓reduceIte, if_true, if_false, lx_kinds, fx_X11_kinds, e1, e0]
    · simp (disch := omega) only [pz_l, pz_ltT, pz_ltF, pz_leT, pz_leF, pz_eqT, pz_eqF, pz_nF, pz_nqF, pz_cl, pz_rd, pz_up, pz_bd, pz_let, pk_mul, nI_add, pz_sub, pz_div, pz_m, pz_neg1, eq_self, or_self, false_or, or_false, true_or, or_true, ↓reduceIte, if_true, if_false, lm_kinds, fx_X12_kinds, e2, e0]
  obtain ⟨⟨hv, hu, hz, ht, lt⟩, f1, f2, hH, hM, hW, z1, z2, z3⟩ := id td
  rcases pn_w a4 2 1 rfl (by decide) with ⟨q1, q2⟩ | ⟨w, hw, rfl, q1, q2⟩
  · refine ⟨-7, S1, M1, ?_, ?_, T, px_Qf h f1 f2⟩
    · simp (disch := omega) only [pz_l, pz_ltT, pz_ltF, pz_leT, pz_leF, pz_eqT, pz_eqF, pz_nF, pz_nqF, pz_cl, pz_rd, pz_up, pz_bd, pz_let, pk_mul, nI_add, pz_sub, pz_div, pz_m, pz_neg1, eq_self, or_self, false_or, or_false, true_or, or_true, ↓reduceIte, if_true, if_false, lx_kinds, fx_X11_kinds, e1, q1]
    · simp (disch := omega) only [pz_l, pz_ltT, pz_ltF, pz_leT, pz_leF, pz_eqT, pz_eqF, pz_nF, pz_nqF, pz_cl, pz_rd, pz_up, pz_bd, pz_let, pk_mul, nI_add, pz_sub, pz_div, pz_m, pz_neg1, eq_self, or_self, false_or, or_false, true_or, or_true, ↓reduceIte, if_true, if_false, lm_kinds, fx_X12_kinds, e2, q2]
  have x1 : ¬ fx_X11_within (nI w) 2 = 0 := by rw [show fx_X11_within (nI w) 2 = nI 1 from q1]; decide
  have x2 : ¬ fx_X12_in (nI w) 0 1 = 0 := by rw [show fx_X12_in (nI w) 0 1 = nI 1 from q2]; decide
  have hw2 : w = 0 ∨ w = 1 := by omega
  rcases hw2 with rfl | rfl
  · obtain ⟨r, S2, M2, b1, b2, b3, b4⟩ := pf_ki0 td 6 0 am_fu am_fu (nI 0) S1 M1 (by omega) (by rw [pf_u]; omega) (by rw [pf_u]; omega) ⟨(pv_cur T t S v 1).2.1, hH⟩ f1 pm_fr (fun _ _ => ⟨rfl, rfl⟩)
    refine ⟨r, S2, M2, ?_, ?_, T, px_Qf h b3 (pm_ft f2 (pm_fe b4))⟩
    · unfold lx_kinds fx_X11_kinds
      rw [e1, pz_bd, if_pos (show (nI 0, S1).1 = 0 from rfl), if_neg x1]
      exact b1
    · unfold lm_kinds fx_X12_kinds
      rw [e2, pz_bd, if_pos (show (nI 0, M1).1 = 0 from rfl), if_neg x2, if_neg (nI_in hv (by decide)), if_neg (nI_in hv (by decide)), pz_cl (by omega)]
      exact b2
  · obtain ⟨r, S2, M2, b1, b2, b3, b4⟩ := pf_ki1 td 10 0 am_fu am_fu (nI 0) S1 M1 (by omega) (by rw [pf_u]; omega) (by rw [pf_u]; omega) ⟨(pv_cur T t S v 1).2.2.1 0, by rw [pv_smi rfl]; exact hH⟩ f1 pm_fr (fun _ _ => ⟨rfl, rfl⟩)
    refine ⟨r, S2, M2, ?_, ?_, T, px_Qf h b3 (pm_ft f2 (pm_fe b4))⟩
    · unfold lx_kinds fx_X11_kinds
      rw [e1, pz_bd, if_pos (show (nI 0, S1).1 = 0 from rfl), if_neg x1]
      exact b1
    · unfold lm_kinds fx_X12_kinds
      rw [e2, pz_bd, if_pos (show (nI 0, M1).1 = 0 from rfl), if_neg x2, if_neg (nI_in hv (by decide)), if_neg (nI_in hv (by decide)), pz_cl (by omega)]
      exact b2
