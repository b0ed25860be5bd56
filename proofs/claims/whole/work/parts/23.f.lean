/-! ===== rooms ===== -/
theorem pu_tw (f : Nat → Int32) (k : Nat) (x y : Int32) : upd (upd f k x) k y = upd f k y := by
  funext j
  rw [pz_u, pz_u, pz_u]
  split <;> rfl
theorem pu_sf (f : Nat → Int32) (k : Nat) : upd f k (f k) = f := by
  funext j
  rw [pz_u]
  by_cases q : j = k
  · rw [if_pos q, q]
  · rw [if_neg q]
theorem pv_sls (V : pv_V) (r : Nat) (x y x' : Int32) : pv_sl (pv_sh (pv_sl V r x) y) r x' = pv_sh (pv_sl V r x') y := by
  unfold pv_sl pv_sh
  show (V.1, V.2.1, upd V.2.2.1 3 y, upd (upd V.2.2.2.1 r x) r x', V.2.2.2.2) = (V.1, V.2.1, upd V.2.2.1 3 y, upd V.2.2.2.1 r x', V.2.2.2.2)
  rw [pu_tw]
theorem pv_sli (V : pv_V) (r : Nat) : pv_sl V r (V.2.2.2.1 r) = V := by
  unfold pv_sl
  rw [pu_sf]
theorem pf_rm0 {T : Nat → Nat → List Int32} {u z v w r b4 : Nat} {W : Nat → Nat} {n t : Nat} {S S1 : sx_T} {M M1 : sm_T} (td : px_td T u z v W n t S M S1 M1) (hw : w < 2) (hr : r < 6) (hb : b4 < 600) (hbw : b4 % 10 = w) : ∀ (d k g g' many : Nat) (least : Int32) (Sk : sx_T) (Mk : sm_T), k + d = 100 → d < g → d < g' → ((many = 0 ∧ least = -(nI 1)) ∨ (0 < many ∧ ∃ j, j < 100 ∧ least = nI j)) → many ≤ k → (∃ x, px_H (pv_sl (pv_cur T t S v 1) r x) W n M Sk) → px_f px_es px_ea S Sk → pm_f [] [3, 13, 14] M1 Mk → (∀ j, j ≠ 2 * r → sm_flat Mk j = sm_flat M1 j) → ∃ o S' M', fx_X11_rooms_85 g (nI u) (nI r) (nI 0) (nI w) (nI many) least (nI k) Sk = some (o, S') ∧ fx_X12_rooms_87 g' (nI u) (nI v) (nI b4) (nI (2 * r)) (sm_flat M1 (2 * r)) (nI many) least (nI k) Mk = some (o, M') ∧ px_f px_es px_ea S S' ∧ pm_f [] [13, 14] M1 M' := by
  obtain ⟨⟨hv, hu, hz, ht, lt⟩, f1, f2, -, hM, hW, z1, z2, z3⟩ := td
  have hw2 : w = 0 ∨ w = 1 := by omega
  intro d
  induction d with
  | zero =>
    intro k g g' many least Sk Mk h1 h2 h3 hml hmk hH fS fM fo
    obtain ⟨f, rfl⟩ : ∃ f, g = f + 1 := ⟨g - 1, by omega⟩
    obtain ⟨f', rfl⟩ : ∃ f, g' = f + 1 := ⟨g' - 1, by omega⟩
    have hk : k = 100 := by omega
    subst hk
    have fr : pm_f [] [13, 14] M1 (um_flat Mk (upd (sm_flat Mk) (2 * r) (sm_flat M1 (2 * r)))) := pm_fz (j := 3) (pm_fa (j := 3) (S' := Mk) fM (by decide)) (pu_rest fo)
    rcases hw2 with rfl | rfl
    · refine ⟨nI many, Sk, _, ?_, ?_, fS, fr⟩
      · rw [fx_X11_rooms_85]; simp (disch := omega) only [pz_l, pz_ltT, pz_ltF, pz_leT, pz_leF, pz_eqT, pz_eqF, pz_nF, pz_nqF, pz_cl, pz_rd, pz_up, pz_bd, pz_let, pk_mul, nI_add, pz_sub, pz_div, pz_m, pz_neg1, eq_self, or_self, false_or, or_false, true_or, or_true, ↓reduceIte, if_true, if_false]
      · rw [fx_X12_rooms_87]; simp (disch := omega) only [pz_l, pz_ltT, pz_ltF, pz_leT, pz_leF, pz_eqT, pz_eqF, pz_nF, pz_nqF, pz_cl, pz_rd, pz_up, pz_bd, pz_let, pk_mul, nI_add, pz_sub, pz_div, pz_m, pz_neg1, eq_self, or_self, false_or, or_false, true_or, or_true, ↓reduceIte, if_true, if_false]
    · refine ⟨least, Sk, _, ?_, ?_, fS, fr⟩
      · rw [fx_X11_rooms_85]; simp (disch := omega) only [pz_l, pz_ltT, pz_ltF, pz_leT, pz_leF, pz_eqT, pz_eqF, pz_nF, pz_nqF, pz_cl, pz_rd, pz_up, pz_bd, pz_let, pk_mul, nI_add, pz_sub, pz_div, pz_m, pz_neg1, eq_self, or_self, false_or, or_false, true_or, or_true, ↓reduceIte, if_true, if_false]
      · rw [fx_X12_rooms_87]; simp (disch := omega) only [pz_l, pz_ltT, pz_ltF, pz_leT, pz_leF, pz_eqT, pz_eqF, pz_nF, pz_nqF, pz_cl, pz_rd, pz_up, pz_bd, pz_let, pk_mul, nI_add, pz_sub, pz_div, pz_m, pz_neg1, eq_self, or_self, false_or, or_false, true_or, or_true, ↓reduceIte, if_true, if_false]
  | succ d ih =>
    intro k g g' many least Sk Mk h1 h2 h3 hml hmk hH fS fM fo
    obtain ⟨f, rfl⟩ : ∃ f, g = f + 1 := ⟨g - 1, by omega⟩
    obtain ⟨f', rfl⟩ : ∃ f, g' = f + 1 := ⟨g' - 1, by omega⟩
    obtain ⟨x0, y, hC⟩ := hH
    have hC1 := px_slC hC hr (nI k)
    have fC1 := px_slf r hr (nI k) Sk
    rw [pv_sls] at hC1
    have hMk : pm_C S (pv_sl (pv_cur T t S v 1) r (nI k)) v 1 (um_flat Mk (upd (sm_flat Mk) (2 * r) (nI k))) := by
      obtain ⟨a, ⟨t', ht', rt, tx⟩, c, dd, e, fh, gg⟩ := hM
      refine ⟨a, ⟨t', ht', (fM.1 4 (by decide)).trans rt, pr_txm tx (fM.2 5 (by decide)) (fM.2 6 (by decide))⟩, ?_, ?_, ?_, (fM.1 1 (by decide)).trans fh, ?_⟩
      · show ∃ k, k < 6 ∧ sm_kind Mk v = nI k ∧ _
        rw [show sm_kind Mk = sm_kind M1 from fM.2 0 (by decide)]; exact c
      · show ∃ m, m < 10 ∧ sm_moreOf Mk v = nI m ∧ _
        rw [show sm_moreOf Mk = sm_moreOf M1 from fM.2 1 (by decide)]; exact dd
      · intro r' hr'
        obtain ⟨w1, w2⟩ := pu_2 (i := r) (v := nI k) e r' hr'
        refine ⟨Eq.trans ?_ w1, Eq.trans ?_ w2⟩
        · show upd (sm_flat Mk) (2 * r) (nI k) (2 * r') = upd (sm_flat M1) (2 * r) (nI k) (2 * r')
          rw [pz_u, pz_u]
          by_cases q : 2 * r' = 2 * r
          · rw [if_pos q, if_pos q]
          · rw [if_neg q, if_neg q, fo _ q]
        · show upd (sm_flat Mk) (2 * r) (nI k) (2 * r' + 1) = upd (sm_flat M1) (2 * r) (nI k) (2 * r' + 1)
          rw [pz_u, pz_u]
          by_cases q : 2 * r' + 1 = 2 * r
          · rw [if_pos q, if_pos q]
          · rw [if_neg q, if_neg q, fo _ q]
      · show sm_ones Mk (2 * v) = _
        rw [show sm_ones Mk = sm_ones M1 from fM.2 2 (by decide)]; exact gg
    have fo' : pm_f [] [3, 13, 14] M1 (um_flat Mk (upd (sm_flat Mk) (2 * r) (nI k))) := pm_fa (j := 3) (S' := Mk) fM (by decide)
    have hWk : pm_W W n (um_flat Mk (upd (sm_flat Mk) (2 * r) (nI k))) := pm_Wfl hW (pm_fm fo' (by decide) (by decide))
    have fS1 : px_f px_es px_ea S (fx_X10_setLight (nI r) (nI k) Sk) := px_ft fS fC1
    have q1 : sx_sh_sizes (fx_X10_setLight (nI r) (nI k) Sk) u = nI z := by rw [show sx_sh_sizes (fx_X10_setLight (nI r) (nI k) Sk) = sx_sh_sizes S from fS1.2 19 (by decide)]; exact z1
    have q2 : sm_sheetSize (um_flat Mk (upd (sm_flat Mk) (2 * r) (nI k))) u = nI z := by
      rw [show sm_sheetSize (um_flat Mk (upd (sm_flat Mk) (2 * r) (nI k))) = sm_sheetSize M1 from fo'.2 10 (by decide), show sm_sheetSize M1 = sm_sheetSize M from f2.2 10 (by decide)]; exact z2
    obtain ⟨x, S2, M2, a1, a2, a3, a4, a5, a6⟩ := pq_ot hu hz ⟨y, hC1⟩ hMk hWk q1 q2 (fun i hi => by
      rw [show sm_cells (um_flat Mk (upd (sm_flat Mk) (2 * r) (nI k))) = sm_cells M1 from fo'.2 11 (by decide), show sm_cells M1 = sm_cells M from f2.2 11 (by decide), show sx_sh_cells (fx_X10_setLight (nI r) (nI k) Sk) = sx_sh_cells S from fS1.2 17 (by decide)]
      exact z3 i hi)
    have fS2 : px_f px_es px_ea S S2 := px_ft fS1 a4
    have fM2 : pm_f [] [3, 13, 14] M1 M2 := pm_ft fo' (pm_fm a5 (by decide) (by decide))
    have fo2 : ∀ j, j ≠ 2 * r → sm_flat M2 j = sm_flat M1 j := by
      intro j hj
      rw [show sm_flat M2 = upd (sm_flat Mk) (2 * r) (nI k) from a5.2 3 (by decide), pz_un hj]
      exact fo j hj
    rcases a6 with rfl | ⟨j, hj, rfl⟩
    · by_cases m0 : many = 0
      · obtain ⟨o, S3, M3, b1, b2, b3, b4⟩ := ih (k + 1) f f' (many + 1) (nI k) S2 M2 (by omega) (by omega) (by omega) (Or.inr ⟨by omega, k, by omega, rfl⟩) (by omega) ⟨nI k, a3⟩ fS2 fM2 fo2
        have hl : least = -(nI 1) := by
          rcases hml with ⟨-, q⟩ | ⟨q, -⟩
          · exact q
          · omega
        subst hl
        refine ⟨o, S3, M3, ?_, ?_, b3, b4⟩
        · rw [fx_X11_rooms_85]
          simp (disch := omega) only [pz_l, pz_ltT, pz_ltF, pz_leT, pz_leF, pz_eqT, pz_eqF, pz_nF, pz_nqF, pz_cl, pz_rd, pz_up, pz_bd, pz_let, pk_mul, nI_add, pz_sub, pz_div, pz_m, pz_neg1, eq_self, or_self, false_or, or_false, true_or, or_true, ↓reduceIte, if_true, if_false, a1]
          exact b1
        · rw [fx_X12_rooms_87]
          simp (disch := omega) only [pz_l, pz_ltT, pz_ltF, pz_leT, pz_leF, pz_eqT, pz_eqF, pz_nF, pz_nqF, pz_cl, pz_rd, pz_up, pz_bd, pz_let, pk_mul, nI_add, pz_sub, pz_div, pz_m, pz_neg1, eq_self, or_self, false_or, or_false, true_or, or_true, ↓reduceIte, if_true, if_false, a2, fx_X12_rooms_118]
          exact b2
      · obtain ⟨o, S3, M3, b1, b2, b3, b4⟩ := ih (k + 1) f f' (many + 1) least S2 M2 (by omega) (by omega) (by omega) (by
          rcases hml with ⟨q, -⟩ | ⟨q, q'⟩
          · omega
          · exact Or.inr ⟨by omega, q'⟩) (by omega) ⟨nI k, a3⟩ fS2 fM2 fo2
        have hl : (least = -(nI 1)) = False := by
          rcases hml with ⟨q, -⟩ | ⟨q, j, hj, rfl⟩
          · omega
          · exact pz_neg1 (by omega)
        refine ⟨o, S3, M3, ?_, ?_, b3, b4⟩
        · rw [fx_X11_rooms_85]
          simp (disch := omega) only [pz_l, pz_ltT, pz_ltF, pz_leT, pz_leF, pz_eqT, pz_eqF, pz_nF, pz_nqF, pz_cl, pz_rd, pz_up, pz_bd, pz_let, pk_mul, nI_add, pz_sub, pz_div, pz_m, pz_neg1, eq_self, or_self, false_or, or_false, true_or, or_true, ↓reduceIte, if_true, if_false, a1]
          exact b1
        · rw [fx_X12_rooms_87]
          simp (disch := omega) only [pz_l, pz_ltT, pz_ltF, pz_leT, pz_leF, pz_eqT, pz_eqF, pz_nF, pz_nqF, pz_cl, pz_rd, pz_up, pz_bd, pz_let, pk_mul, nI_add, pz_sub, pz_div, pz_m, pz_neg1, eq_self, or_self, false_or, or_false, true_or, or_true, ↓reduceIte, if_true, if_false, a2, fx_X12_rooms_118, hl]
          exact b2
    · obtain ⟨o, S3, M3, b1, b2, b3, b4⟩ := ih (k + 1) f f' many least S2 M2 (by omega) (by omega) (by omega) hml (by omega) ⟨nI k, a3⟩ fS2 fM2 fo2
      refine ⟨o, S3, M3, ?_, ?_, b3, b4⟩
      · rw [fx_X11_rooms_85]
        simp (disch := omega) only [pz_l, pz_ltT, pz_ltF, pz_leT, pz_leF, pz_eqT, pz_eqF, pz_nF, pz_nqF, pz_cl, pz_rd, pz_up, pz_bd, pz_let, pk_mul, nI_add, pz_sub, pz_div, pz_m, pz_neg1, eq_self, or_self, false_or, or_false, true_or, or_true, ↓reduceIte, if_true, if_false, a1]
        exact b1
      · rw [fx_X12_rooms_87]
        simp (disch := omega) only [pz_l, pz_ltT, pz_ltF, pz_leT, pz_leF, pz_eqT, pz_eqF, pz_nF, pz_nqF, pz_cl, pz_rd, pz_up, pz_bd, pz_let, pk_mul, nI_add, pz_sub, pz_div, pz_m, pz_neg1, eq_self, or_self, false_or, or_false, true_or, or_true, ↓reduceIte, if_true, if_false, a2, fx_X12_rooms_118, Nat.add_zero]
        exact b2
theorem pv_sds (V : pv_V) (r : Nat) (x y x' : Int32) : pv_sd (pv_sh (pv_sd V r x) y) r x' = pv_sh (pv_sd V r x') y := by
  unfold pv_sd pv_sh
  show (V.1, V.2.1, upd V.2.2.1 3 y, V.2.2.2.1, upd (upd V.2.2.2.2 r x) r x') = (V.1, V.2.1, upd V.2.2.1 3 y, V.2.2.2.1, upd V.2.2.2.2 r x')
  rw [pu_tw]
theorem pv_sdi (V : pv_V) (r : Nat) : pv_sd V r (V.2.2.2.2 r) = V := by
  unfold pv_sd
  rw [pu_sf]
theorem pf_rm1 {T : Nat → Nat → List Int32} {u z v w r b4 : Nat} {W : Nat → Nat} {n t : Nat} {S S1 : sx_T} {M M1 : sm_T} (td : px_td T u z v W n t S M S1 M1) (hw : w < 2) (hr : r < 6) (hb : b4 < 600) (hbw : b4 % 10 = w) : ∀ (d k g g' many : Nat) (least : Int32) (Sk : sx_T) (Mk : sm_T), k + d = 100 → d < g → d < g' → ((many = 0 ∧ least = -(nI 1)) ∨ (0 < many ∧ ∃ j, j < 100 ∧ least = nI j)) → many ≤ k → (∃ x, px_H (pv_sd (pv_cur T t S v 1) r x) W n M Sk) → px_f px_es px_ea S Sk → pm_f [] [3, 13, 14] M1 Mk → (∀ j, j ≠ 2 * r + 1 → sm_flat Mk j = sm_flat M1 j) → ∃ o S' M', fx_X11_rooms_85 g (nI u) (nI r) (nI 1) (nI w) (nI many) least (nI k) Sk = some (o, S') ∧ fx_X12_rooms_87 g' (nI u) (nI v) (nI b4) (nI (2 * r + 1)) (sm_flat M1 (2 * r + 1)) (nI many) least (nI k) Mk = some (o, M') ∧ px_f px_es px_ea S S' ∧ pm_f [] [13, 14] M1 M' := by
  obtain ⟨⟨hv, hu, hz, ht, lt⟩, f1, f2, -, hM, hW, z1, z2, z3⟩ := td
  have hw2 : w = 0 ∨ w = 1 := by omega
  intro d
  induction d with
  | zero =>
    intro k g g' many least Sk Mk h1 h2 h3 hml hmk hH fS fM fo
    obtain ⟨f, rfl⟩ : ∃ f, g = f + 1 := ⟨g - 1, by omega⟩
    obtain ⟨f', rfl⟩ : ∃ f, g' = f + 1 := ⟨g' - 1, by omega⟩
    have hk : k = 100 := by omega
    subst hk
    have fr : pm_f [] [13, 14] M1 (um_flat Mk (upd (sm_flat Mk) (2 * r + 1) (sm_flat M1 (2 * r + 1)))) := pm_fz (j := 3) (pm_fa (j := 3) (S' := Mk) fM (by decide)) (pu_rest fo)
    rcases hw2 with rfl | rfl
    · refine ⟨nI many, Sk, _, ?_, ?_, fS, fr⟩
      · rw [fx_X11_rooms_85]; simp (disch := omega) only [pz_l, pz_ltT, pz_ltF, pz_leT, pz_leF, pz_eqT, pz_eqF, pz_nF, pz_nqF, pz_cl, pz_rd, pz_up, pz_bd, pz_let, pk_mul, nI_add, pz_sub, pz_div, pz_m, pz_neg1, eq_self, or_self, false_or, or_false, true_or, or_true, ↓reduceIte, if_true, if_false]
      · rw [fx_X12_rooms_87]; simp (disch := omega) only [pz_l, pz_ltT, pz_ltF, pz_leT, pz_leF, pz_eqT, pz_eqF, pz_nF, pz_nqF, pz_cl, pz_rd, pz_up, pz_bd, pz_let, pk_mul, nI_add, pz_sub, pz_div, pz_m, pz_neg1, eq_self, or_self, false_or, or_false, true_or, or_true, ↓reduceIte, if_true, if_false]
    · refine ⟨least, Sk, _, ?_, ?_, fS, fr⟩
      · rw [fx_X11_rooms_85]; simp (disch := omega) only [pz_l, pz_ltT, pz_ltF, pz_leT, pz_leF, pz_eqT, pz_eqF, pz_nF, pz_nqF, pz_cl, pz_rd, pz_up, pz_bd, pz_let, pk_mul, nI_add, pz_sub, pz_div, pz_m, pz_neg1, eq_self, or_self, false_or, or_false, true_or, or_true, ↓reduceIte, if_true, if_false]
      · rw [fx_X12_rooms_87]; simp (disch := omega) only [pz_l, pz_ltT, pz_ltF, pz_leT, pz_leF, pz_eqT, pz_eqF, pz_nF, pz_nqF, pz_cl, pz_rd, pz_up, pz_bd, pz_let, pk_mul, nI_add, pz_sub, pz_div, pz_m, pz_neg1, eq_self, or_self, false_or, or_false, true_or, or_true, ↓reduceIte, if_true, if_false]
  | succ d ih =>
    intro k g g' many least Sk Mk h1 h2 h3 hml hmk hH fS fM fo
    obtain ⟨f, rfl⟩ : ∃ f, g = f + 1 := ⟨g - 1, by omega⟩
    obtain ⟨f', rfl⟩ : ∃ f, g' = f + 1 := ⟨g' - 1, by omega⟩
    obtain ⟨x0, y, hC⟩ := hH
    have hC1 := px_sdC hC hr (nI k)
    have fC1 := px_sdf r hr (nI k) Sk
    rw [pv_sds] at hC1
    have hMk : pm_C S (pv_sd (pv_cur T t S v 1) r (nI k)) v 1 (um_flat Mk (upd (sm_flat Mk) (2 * r + 1) (nI k))) := by
      obtain ⟨a, ⟨t', ht', rt, tx⟩, c, dd, e, fh, gg⟩ := hM
      refine ⟨a, ⟨t', ht', (fM.1 4 (by decide)).trans rt, pr_txm tx (fM.2 5 (by decide)) (fM.2 6 (by decide))⟩, ?_, ?_, ?_, (fM.1 1 (by decide)).trans fh, ?_⟩
      · show ∃ k, k < 6 ∧ sm_kind Mk v = nI k ∧ _
        rw [show sm_kind Mk = sm_kind M1 from fM.2 0 (by decide)]; exact c
      · show ∃ m, m < 10 ∧ sm_moreOf Mk v = nI m ∧ _
        rw [show sm_moreOf Mk = sm_moreOf M1 from fM.2 1 (by decide)]; exact dd
      · intro r' hr'
        obtain ⟨w1, w2⟩ := pu_2' (i := r) (v := nI k) e r' hr'
        refine ⟨Eq.trans ?_ w1, Eq.trans ?_ w2⟩
        · show upd (sm_flat Mk) (2 * r + 1) (nI k) (2 * r') = upd (sm_flat M1) (2 * r + 1) (nI k) (2 * r')
          rw [pz_u, pz_u]
          by_cases q : 2 * r' = 2 * r + 1
          · rw [if_pos q, if_pos q]
          · rw [if_neg q, if_neg q, fo _ q]
        · show upd (sm_flat Mk) (2 * r + 1) (nI k) (2 * r' + 1) = upd (sm_flat M1) (2 * r + 1) (nI k) (2 * r' + 1)
          rw [pz_u, pz_u]
          by_cases q : 2 * r' + 1 = 2 * r + 1
          · rw [if_pos q, if_pos q]
          · rw [if_neg q, if_neg q, fo _ q]
      · show sm_ones Mk (2 * v) = _
        rw [show sm_ones Mk = sm_ones M1 from fM.2 2 (by decide)]; exact gg
    have fo' : pm_f [] [3, 13, 14] M1 (um_flat Mk (upd (sm_flat Mk) (2 * r + 1) (nI k))) := pm_fa (j := 3) (S' := Mk) fM (by decide)
    have hWk : pm_W W n (um_flat Mk (upd (sm_flat Mk) (2 * r + 1) (nI k))) := pm_Wfl hW (pm_fm fo' (by decide) (by decide))
    have fS1 : px_f px_es px_ea S (fx_X10_setDamp (nI r) (nI k) Sk) := px_ft fS fC1
    have q1 : sx_sh_sizes (fx_X10_setDamp (nI r) (nI k) Sk) u = nI z := by rw [show sx_sh_sizes (fx_X10_setDamp (nI r) (nI k) Sk) = sx_sh_sizes S from fS1.2 19 (by decide)]; exact z1
    have q2 : sm_sheetSize (um_flat Mk (upd (sm_flat Mk) (2 * r + 1) (nI k))) u = nI z := by
      rw [show sm_sheetSize (um_flat Mk (upd (sm_flat Mk) (2 * r + 1) (nI k))) = sm_sheetSize M1 from fo'.2 10 (by decide), show sm_sheetSize M1 = sm_sheetSize M from f2.2 10 (by decide)]; exact z2
    obtain ⟨x, S2, M2, a1, a2, a3, a4, a5, a6⟩ := pq_ot hu hz ⟨y, hC1⟩ hMk hWk q1 q2 (fun i hi => by
      rw [show sm_cells (um_flat Mk (upd (sm_flat Mk) (2 * r + 1) (nI k))) = sm_cells M1 from fo'.2 11 (by decide), show sm_cells M1 = sm_cells M from f2.2 11 (by decide), show sx_sh_cells (fx_X10_setDamp (nI r) (nI k) Sk) = sx_sh_cells S from fS1.2 17 (by decide)]
      exact z3 i hi)
    have fS2 : px_f px_es px_ea S S2 := px_ft fS1 a4
    have fM2 : pm_f [] [3, 13, 14] M1 M2 := pm_ft fo' (pm_fm a5 (by decide) (by decide))
    have fo2 : ∀ j, j ≠ 2 * r + 1 → sm_flat M2 j = sm_flat M1 j := by
      intro j hj
      rw [show sm_flat M2 = upd (sm_flat Mk) (2 * r + 1) (nI k) from a5.2 3 (by decide), pz_un hj]
      exact fo j hj
    rcases a6 with rfl | ⟨j, hj, rfl⟩
    · by_cases m0 : many = 0
      · obtain ⟨o, S3, M3, b1, b2, b3, b4⟩ := ih (k + 1) f f' (many + 1) (nI k) S2 M2 (by omega) (by omega) (by omega) (Or.inr ⟨by omega, k, by omega, rfl⟩) (by omega) ⟨nI k, a3⟩ fS2 fM2 fo2
        have hl : least = -(nI 1) := by
          rcases hml with ⟨-, q⟩ | ⟨q, -⟩
          · exact q
          · omega
        subst hl
        refine ⟨o, S3, M3, ?_, ?_, b3, b4⟩
        · rw [fx_X11_rooms_85]
          simp (disch := omega) only [pz_l, pz_ltT, pz_ltF, pz_leT, pz_leF, pz_eqT, pz_eqF, pz_nF, pz_nqF, pz_cl, pz_rd, pz_up, pz_bd, pz_let, pk_mul, nI_add, pz_sub, pz_div, pz_m, pz_neg1, eq_self, or_self, false_or, or_false, true_or, or_true, ↓reduceIte, if_true, if_false, a1]
          exact b1
        · rw [fx_X12_rooms_87]
          simp (disch := omega) only [pz_l, pz_ltT, pz_ltF, pz_leT, pz_leF, pz_eqT, pz_eqF, pz_nF, pz_nqF, pz_cl, pz_rd, pz_up, pz_bd, pz_let, pk_mul, nI_add, pz_sub, pz_div, pz_m, pz_neg1, eq_self, or_self, false_or, or_false, true_or, or_true, ↓reduceIte, if_true, if_false, a2, fx_X12_rooms_118]
          exact b2
      · obtain ⟨o, S3, M3, b1, b2, b3, b4⟩ := ih (k + 1) f f' (many + 1) least S2 M2 (by omega) (by omega) (by omega) (by
          rcases hml with ⟨q, -⟩ | ⟨q, q'⟩
          · omega
          · exact Or.inr ⟨by omega, q'⟩) (by omega) ⟨nI k, a3⟩ fS2 fM2 fo2
        have hl : (least = -(nI 1)) = False := by
          rcases hml with ⟨q, -⟩ | ⟨q, j, hj, rfl⟩
          · omega
          · exact pz_neg1 (by omega)
        refine ⟨o, S3, M3, ?_, ?_, b3, b4⟩
        · rw [fx_X11_rooms_85]
          simp (disch := omega) only [pz_l, pz_ltT, pz_ltF, pz_leT, pz_leF, pz_eqT, pz_eqF, pz_nF, pz_nqF, pz_cl, pz_rd, pz_up, pz_bd, pz_let, pk_mul, nI_add, pz_sub, pz_div, pz_m, pz_neg1, eq_self, or_self, false_or, or_false, true_or, or_true, ↓reduceIte, if_true, if_false, a1]
          exact b1
        · rw [fx_X12_rooms_87]
          simp (disch := omega) only [pz_l, pz_ltT, pz_ltF, pz_leT, pz_leF, pz_eqT, pz_eqF, pz_nF, pz_nqF, pz_cl, pz_rd, pz_up, pz_bd, pz_let, pk_mul, nI_add, pz_sub, pz_div, pz_m, pz_neg1, eq_self, or_self, false_or, or_false, true_or, or_true, ↓reduceIte, if_true, if_false, a2, fx_X12_rooms_118, hl]
          exact b2
    · obtain ⟨o, S3, M3, b1, b2, b3, b4⟩ := ih (k + 1) f f' many least S2 M2 (by omega) (by omega) (by omega) hml (by omega) ⟨nI k, a3⟩ fS2 fM2 fo2
      refine ⟨o, S3, M3, ?_, ?_, b3, b4⟩
      · rw [fx_X11_rooms_85]
        simp (disch := omega) only [pz_l, pz_ltT, pz_ltF, pz_leT, pz_leF, pz_eqT, pz_eqF, pz_nF, pz_nqF, pz_cl, pz_rd, pz_up, pz_bd, pz_let, pk_mul, nI_add, pz_sub, pz_div, pz_m, pz_neg1, eq_self, or_self, false_or, or_false, true_or, or_true, ↓reduceIte, if_true, if_false, a1]
        exact b1
      · rw [fx_X12_rooms_87]
        simp (disch := omega) only [pz_l, pz_ltT, pz_ltF, pz_leT, pz_leF, pz_eqT, pz_eqF, pz_nF, pz_nqF, pz_cl, pz_rd, pz_up, pz_bd, pz_let, pk_mul, nI_add, pz_sub, pz_div, pz_m, pz_neg1, eq_self, or_self, false_or, or_false, true_or, or_true, ↓reduceIte, if_true, if_false, a2, fx_X12_rooms_118, Nat.add_zero]
        exact b2
theorem pq_rooms : lq_rooms px_R := by
  rintro S M ⟨T, h⟩ a1 a2 a3 a4
  rcases pq_told0 h a1 a2 a3 with ⟨e, S1, M1, he, e1, e2, f1, f2⟩ | ⟨u, z, v, W, n, t, S1, M1, rfl, rfl, e1, e2, td⟩
  · have e0 := pz_n0 he
    refine ⟨e, S1, M1, ?_, ?_, T, px_Qf h f1 f2⟩
    · simp (disch := omega) only [pz_l, pz_ltT, pz_ltF, pz_leT, pz_leF, pz_eqT, pz_eqF, pz_nF, pz_nqF, pz_cl, pz_rd, pz_up, pz_bd, pz_let, pk_mul, nI_add, pz_sub, pz_div, pz_m, pz_neg1, eq_self, or_self, false_or, or_false, true_or, or_true, ↓reduceIte, if_true, if_false, lx_rooms, fx_X11_rooms, e1, e0]
    · simp (disch := omega) only [pz_l, pz_ltT, pz_ltF, pz_leT, pz_leF, pz_eqT, pz_eqF, pz_nF, pz_nqF, pz_cl, pz_rd, pz_up, pz_bd, pz_let, pk_mul, nI_add, pz_sub, pz_div, pz_m, pz_neg1, eq_self, or_self, false_or, or_false, true_or, or_true, ↓reduceIte, if_true, if_false, lm_rooms, fx_X12_rooms, e2, e0]
  obtain ⟨⟨hv, hu, hz, ht, lt⟩, f1, f2, hH, hM, hW, z1, z2, z3⟩ := id td
  rcases pn_w a4 512 511 rfl (by decide) with ⟨p1, p2⟩ | ⟨x, hx, rfl, p1, p2⟩
  · refine ⟨-7, S1, M1, ?_, ?_, T, px_Qf h f1 f2⟩
    · rcases pn_within a4 (n := 600) (by decide) with ⟨w1, -⟩ | ⟨x, hx, rfl, w1⟩
      · have w1' : fx_X11_within a4 (nI 600) = nI 0 := w1
        simp (disch := omega) only [pz_l, pz_ltT, pz_ltF, pz_leT, pz_leF, pz_eqT, pz_eqF, pz_nF, pz_nqF, pz_cl, pz_rd, pz_up, pz_bd, pz_let, pk_mul, nI_add, pz_sub, pz_div, pz_m, pz_neg1, eq_self, or_self, false_or, or_false, true_or, or_true, ↓reduceIte, if_true, if_false, lx_rooms, fx_X11_rooms, e1, w1']
      · have w1' : fx_X11_within (nI x) (nI 600) = nI 1 := w1
        have hx5 : 512 ≤ x := by
          rcases Nat.lt_or_ge x 512 with q | q
          · rcases pn_within (nI x) (n := 512) (by decide) with ⟨y1, y2⟩ | ⟨_, _, _, y1⟩
            · exact absurd rfl (y2 x q)
            · rw [show fx_X11_within (nI x) (nI 512) = nI 0 from p1] at y1; exact absurd y1 (by decide)
          · exact q
        rcases pn_w (nI (x / 10 - x / 10 / 10 * 10)) 2 1 rfl (by decide) with ⟨y1, -⟩ | ⟨so, hso, eso, y1, -⟩
        · simp (disch := omega) only [pz_l, pz_ltT, pz_ltF, pz_leT, pz_leF, pz_eqT, pz_eqF, pz_nF, pz_nqF, pz_cl, pz_rd, pz_up, pz_bd, pz_let, pk_mul, nI_add, pz_sub, pz_div, pz_m, pz_neg1, eq_self, or_self, false_or, or_false, true_or, or_true, ↓reduceIte, if_true, if_false, lx_rooms, fx_X11_rooms, e1, w1', y1]
        · have : x / 10 - x / 10 / 10 * 10 = so := (nI_eq (by omega) (by omega)).mp eso
          rcases pn_w (nI (x - x / 10 * 10)) 2 1 rfl (by decide) with ⟨y2, -⟩ | ⟨wh, hwh, ewh, y2, -⟩
          · simp (disch := omega) only [pz_l, pz_ltT, pz_ltF, pz_leT, pz_leF, pz_eqT, pz_eqF, pz_nF, pz_nqF, pz_cl, pz_rd, pz_up, pz_bd, pz_let, pk_mul, nI_add, pz_sub, pz_div, pz_m, pz_neg1, eq_self, or_self, false_or, or_false, true_or, or_true, ↓reduceIte, if_true, if_false, lx_rooms, fx_X11_rooms, e1, w1', y1, y2]
          · have : x - x / 10 * 10 = wh := (nI_eq (by omega) (by omega)).mp ewh
            omega
    · simp (disch := omega) only [pz_l, pz_ltT, pz_ltF, pz_leT, pz_leF, pz_eqT, pz_eqF, pz_nF, pz_nqF, pz_cl, pz_rd, pz_up, pz_bd, pz_let, pk_mul, nI_add, pz_sub, pz_div, pz_m, pz_neg1, eq_self, or_self, false_or, or_false, true_or, or_true, ↓reduceIte, if_true, if_false, lm_rooms, fx_X12_rooms, e2, p2]
  have w1' : fx_X11_within (nI x) (nI 600) = nI 1 := by
    rcases pn_within (nI x) (n := 600) (by decide) with ⟨-, w2⟩ | ⟨_, _, _, w1⟩
    · exact absurd rfl (w2 x (by omega))
    · exact w1
  rcases pn_w (nI (x / 10 - x / 10 / 10 * 10)) 2 1 rfl (by decide) with ⟨y1, y1'⟩ | ⟨so, hso, eso, y1, -⟩
  · have big : 1 < x / 10 - x / 10 / 10 * 10 := by
      rcases Nat.lt_or_ge 1 (x / 10 - x / 10 / 10 * 10) with q | q
      · exact q
      · rcases pn_within (nI (x / 10 - x / 10 / 10 * 10)) (n := 2) (by decide) with ⟨_, w2⟩ | ⟨_, _, _, w1⟩
        · exact absurd rfl (w2 _ (by omega))
        · rw [show fx_X11_within (nI (x / 10 - x / 10 / 10 * 10)) (nI 2) = nI 0 from y1] at w1; exact absurd w1 (by decide)
    refine ⟨-7, S1, M1, ?_, ?_, T, px_Qf h f1 f2⟩
    · simp (disch := omega) only [pz_l, pz_ltT, pz_ltF, pz_leT, pz_leF, pz_eqT, pz_eqF, pz_nF, pz_nqF, pz_cl, pz_rd, pz_up, pz_bd, pz_let, pk_mul, nI_add, pz_sub, pz_div, pz_m, pz_neg1, eq_self, or_self, false_or, or_false, true_or, or_true, ↓reduceIte, if_true, if_false, lx_rooms, fx_X11_rooms, e1, w1', y1]
    · simp (disch := omega) only [pz_l, pz_ltT, pz_ltF, pz_leT, pz_leF, pz_eqT, pz_eqF, pz_nF, pz_nqF, pz_cl, pz_rd, pz_up, pz_bd, pz_let, pk_mul, nI_add, pz_sub, pz_div, pz_m, pz_neg1, eq_self, or_self, false_or, or_false, true_or, or_true, ↓reduceIte, if_true, if_false, lm_rooms, fx_X12_rooms, e2, p2]
  have eso' : x / 10 - x / 10 / 10 * 10 = so := (nI_eq (by omega) (by omega)).mp eso
  rcases pn_w (nI (x - x / 10 * 10)) 2 1 rfl (by decide) with ⟨y2, y2'⟩ | ⟨wh, hwh, ewh, y2, -⟩
  · have big : 1 < x - x / 10 * 10 := by
      rcases Nat.lt_or_ge 1 (x - x / 10 * 10) with q | q
      · exact q
      · rcases pn_within (nI (x - x / 10 * 10)) (n := 2) (by decide) with ⟨_, w2⟩ | ⟨_, _, _, w1⟩
        · exact absurd rfl (w2 _ (by omega))
        · rw [show fx_X11_within (nI (x - x / 10 * 10)) (nI 2) = nI 0 from y2] at w1; exact absurd w1 (by decide)
    refine ⟨-7, S1, M1, ?_, ?_, T, px_Qf h f1 f2⟩
    · simp (disch := omega) only [pz_l, pz_ltT, pz_ltF, pz_leT, pz_leF, pz_eqT, pz_eqF, pz_nF, pz_nqF, pz_cl, pz_rd, pz_up, pz_bd, pz_let, pk_mul, nI_add, pz_sub, pz_div, pz_m, pz_neg1, eq_self, or_self, false_or, or_false, true_or, or_true, ↓reduceIte, if_true, if_false, lx_rooms, fx_X11_rooms, e1, w1', y1, y2]
    · simp (disch := omega) only [pz_l, pz_ltT, pz_ltF, pz_leT, pz_leF, pz_eqT, pz_eqF, pz_nF, pz_nqF, pz_cl, pz_rd, pz_up, pz_bd, pz_let, pk_mul, nI_add, pz_sub, pz_div, pz_m, pz_neg1, eq_self, or_self, false_or, or_false, true_or, or_true, ↓reduceIte, if_true, if_false, lm_rooms, fx_X12_rooms, e2, p2]
  have ewh' : x - x / 10 * 10 = wh := (nI_eq (by omega) (by omega)).mp ewh
  have c1 : nI x / 100 = nI (x / 100) := pz_div (d := 100) (by omega) (by decide) (by decide)
  have c2 : nI x / 10 - nI x / 10 / 10 * 10 = nI so := by
    rw [← eso']
    simp (disch := omega) only [pz_l, pz_ltT, pz_ltF, pz_leT, pz_leF, pz_eqT, pz_eqF, pz_nF, pz_nqF, pz_cl, pz_rd, pz_up, pz_bd, pz_let, pk_mul, nI_add, pz_sub, pz_div, pz_m, pz_neg1, eq_self, or_self, false_or, or_false, true_or, or_true, ↓reduceIte, if_true, if_false]
  have c3 : nI x - nI x / 10 * 10 = nI wh := by
    rw [← ewh']
    simp (disch := omega) only [pz_l, pz_ltT, pz_ltF, pz_leT, pz_leF, pz_eqT, pz_eqF, pz_nF, pz_nqF, pz_cl, pz_rd, pz_up, pz_bd, pz_let, pk_mul, nI_add, pz_sub, pz_div, pz_m, pz_neg1, eq_self, or_self, false_or, or_false, true_or, or_true, ↓reduceIte, if_true, if_false]
  have x1 : ¬ fx_X11_within (nI x) 600 = 0 := by rw [show fx_X11_within (nI x) 600 = nI 1 from w1']; decide
  have x2 : ¬ fx_X11_within (nI so) 2 = 0 := by rw [← eso', show fx_X11_within (nI (x / 10 - x / 10 / 10 * 10)) 2 = nI 1 from y1]; decide
  have x3 : ¬ fx_X11_within (nI wh) 2 = 0 := by rw [← ewh', show fx_X11_within (nI (x - x / 10 * 10)) 2 = nI 1 from y2]; decide
  have x4 : ¬ fx_X12_in (nI x) 0 511 = 0 := by rw [show fx_X12_in (nI x) 0 511 = nI 1 from p2]; decide
  have x5 : ¬ (1 : Int32) < nI so := nI_nlt (a := 1) (by omega) (by decide)
  have x6 : nI wh ≤ 1 := nI_le (b := 1) (by omega) (by decide)
  have ix : 2 * nI (x / 100) + nI so = nI (2 * (x / 100) + so) := by
    simp (disch := omega) only [pz_l, pz_ltT, pz_ltF, pz_leT, pz_leF, pz_eqT, pz_eqF, pz_nF, pz_nqF, pz_cl, pz_rd, pz_up, pz_bd, pz_let, pk_mul, nI_add, pz_sub, pz_div, pz_m, pz_neg1, eq_self, or_self, false_or, or_false, true_or, or_true, ↓reduceIte, if_true, if_false]
  have hso2 : so = 0 ∨ so = 1 := by omega
  rcases hso2 with rfl | rfl
  · obtain ⟨o, S2, M2, b1, b2, b3, b4⟩ := pf_rm0 (w := wh) (r := x / 100) (b4 := x) td hwh (by omega) (by omega) (by omega) 100 0 am_fu am_fu 0 (-(nI 1)) S1 M1 (by omega) (by rw [pf_u]; omega) (by rw [pf_u]; omega) (Or.inl ⟨rfl, rfl⟩) (by omega) ⟨_, by rw [pv_sli]; exact hH⟩ f1 pm_fr (fun _ _ => rfl)
    refine ⟨o, S2, M2, ?_, ?_, T, px_Qf h b3 (pm_ft f2 (pm_fe b4))⟩
    · unfold lx_rooms fx_X11_rooms
      rw [e1, pz_bd, if_pos (show (nI 0, S1).1 = 0 from rfl), c1, c2, c3, if_neg x1, if_neg x2, if_neg x3]
      exact b1
    · unfold lm_rooms fx_X12_rooms
      rw [e2, pz_bd, if_pos (show (nI 0, M1).1 = 0 from rfl), c1, c2, c3, if_neg x4, if_neg x5, if_pos x6, ix, if_neg (nI_in (by omega) (by decide)), pz_cl (by omega)]
      exact b2
  · obtain ⟨o, S2, M2, b1, b2, b3, b4⟩ := pf_rm1 (w := wh) (r := x / 100) (b4 := x) td hwh (by omega) (by omega) (by omega) 100 0 am_fu am_fu 0 (-(nI 1)) S1 M1 (by omega) (by rw [pf_u]; omega) (by rw [pf_u]; omega) (Or.inl ⟨rfl, rfl⟩) (by omega) ⟨_, by rw [pv_sdi]; exact hH⟩ f1 pm_fr (fun _ _ => rfl)
    refine ⟨o, S2, M2, ?_, ?_, T, px_Qf h b3 (pm_ft f2 (pm_fe b4))⟩
    · unfold lx_rooms fx_X11_rooms
      rw [e1, pz_bd, if_pos (show (nI 0, S1).1 = 0 from rfl), c1, c2, c3, if_neg x1, if_neg x2, if_neg x3]
      exact b1
    · unfold lm_rooms fx_X12_rooms
      rw [e2, pz_bd, if_pos (show (nI 0, M1).1 = 0 from rfl), c1, c2, c3, if_neg x4, if_neg x5, if_pos x6, ix, if_neg (nI_in (by omega) (by decide)), pz_cl (by omega)]
      exact b2
