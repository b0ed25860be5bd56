/-! ===== paint, without ===== -/
theorem pm_fz {es ea : List Nat} {j : Nat} {M M' : sm_T} (h : pm_f es (j :: ea) M M') (e : M'.2 j = M.2 j) : pm_f es ea M M' := ⟨h.1, fun k hk => by
  by_cases q : k = j
  · subst q; exact e
  · exact h.2 k (fun m => (List.mem_cons.mp m).elim q hk)⟩
theorem pm_fzs {es ea : List Nat} {j : Nat} {M M' : sm_T} (h : pm_f (j :: es) ea M M') (e : M'.1 j = M.1 j) : pm_f es ea M M' := ⟨fun k hk => by
  by_cases q : k = j
  · subst q; exact e
  · exact h.1 k (fun m => (List.mem_cons.mp m).elim q hk), h.2⟩
theorem pu_back {f : Nat → Int32} {k : Nat} {x : Int32} : upd (upd f k x) k (f k) = f := by
  funext j
  rw [pz_u, pz_u]
  by_cases q : j = k
  · rw [if_pos q, q]
  · rw [if_neg q, if_neg q]
theorem pm_Wfl {W : Nat → Nat} {n : Nat} {M M' : sm_T} (h : pm_W W n M) (f : pm_f [0, 1, 2, 3, 4, 5] [0, 1, 2, 3, 13, 14] M M') : pm_W W n M' := by
  have c : sm_rooms0 M' = sm_rooms0 M := f.1 13 (by decide)
  have d : sm_row M' = sm_row M := f.2 15 (by decide)
  unfold pm_W at h ⊢
  rw [c, d]
  exact h
theorem pq_paint : lq_paint px_R := by
  rintro S M ⟨T, h⟩ a1 a2 a3
  obtain ⟨⟨⟨nv, hnv, n1⟩, n2⟩, -⟩ := id h.1
  rcases pq_start h a1 with ⟨M1, e, he, e1, e2, f2⟩ | ⟨s, W, n, t, S1, M1, rfl, hs, e1, e2, f1, f2', ⟨ht, lt⟩, hA, hL, ⟨wl, wy⟩, hW, -, -⟩
  · rcases he with rfl | ⟨rfl, -⟩
    · refine ⟨-1000002, S, M1, ?_, ?_, T, px_Qf h px_fr f2⟩
      · simp (disch := omega) only [pz_l, pz_ltT, pz_ltF, pz_leT, pz_leF, pz_eqT, pz_eqF, pz_nF, pz_nqF, pz_cl, pz_rd, pz_up, pz_bd, pz_let, pk_mul, nI_add, pz_sub, pz_div, pz_m, pz_neg1, eq_self, or_self, false_or, or_false, true_or, or_true, ↓reduceIte, if_true, if_false, lx_paint, fx_X11_paint, e1, pz_20, pz_110, pz_f2, pz_f11]
      · simp (disch := omega) only [pz_l, pz_ltT, pz_ltF, pz_leT, pz_leF, pz_eqT, pz_eqF, pz_nF, pz_nqF, pz_cl, pz_rd, pz_up, pz_bd, pz_let, pk_mul, nI_add, pz_sub, pz_div, pz_m, pz_neg1, eq_self, or_self, false_or, or_false, true_or, or_true, ↓reduceIte, if_true, if_false, lm_paint, fx_X12_paint, e2, pz_20, pz_110, pz_f2, pz_f11]
    · refine ⟨-1000011, S, M1, ?_, ?_, T, px_Qf h px_fr f2⟩
      · simp (disch := omega) only [pz_l, pz_ltT, pz_ltF, pz_leT, pz_leF, pz_eqT, pz_eqF, pz_nF, pz_nqF, pz_cl, pz_rd, pz_up, pz_bd, pz_let, pk_mul, nI_add, pz_sub, pz_div, pz_m, pz_neg1, eq_self, or_self, false_or, or_false, true_or, or_true, ↓reduceIte, if_true, if_false, lx_paint, fx_X11_paint, e1, pz_20, pz_110, pz_f2, pz_f11]
      · simp (disch := omega) only [pz_l, pz_ltT, pz_ltF, pz_leT, pz_leF, pz_eqT, pz_eqF, pz_nF, pz_nqF, pz_cl, pz_rd, pz_up, pz_bd, pz_let, pk_mul, nI_add, pz_sub, pz_div, pz_m, pz_neg1, eq_self, or_self, false_or, or_false, true_or, or_true, ↓reduceIte, if_true, if_false, lm_paint, fx_X12_paint, e2, pz_20, pz_110, pz_f2, pz_f11]
  have f2 : pm_f pm_es pm_ea M M1 := pm_fm f2' (by decide) (by decide)
  have n1' : sx_now_viewers S1 = nI nv := (f1.1 2 (by decide)).trans n1
  have n3' : sm_viewers M1 = nI nv := (f2.1 0 (by decide)).trans (n2.trans n1)
  have hq1 : px_Q T S1 M1 := px_Qf h f1 f2
  rcases pn_iv hnv n1' n3' a2 with ⟨k1, k2⟩ | ⟨v, hv, rfl, k1, k2⟩
  · refine ⟨-1000005, S1, M1, ?_, ?_, T, hq1⟩
    · simp (disch := omega) only [pz_l, pz_ltT, pz_ltF, pz_leT, pz_leF, pz_eqT, pz_eqF, pz_nF, pz_nqF, pz_cl, pz_rd, pz_up, pz_bd, pz_let, pk_mul, nI_add, pz_sub, pz_div, pz_m, pz_neg1, eq_self, or_self, false_or, or_false, true_or, or_true, ↓reduceIte, if_true, if_false, lx_paint, fx_X11_paint, e1, k1]
    · simp (disch := omega) only [pz_l, pz_ltT, pz_ltF, pz_leT, pz_leF, pz_eqT, pz_eqF, pz_nF, pz_nqF, pz_cl, pz_rd, pz_up, pz_bd, pz_let, pk_mul, nI_add, pz_sub, pz_div, pz_m, pz_neg1, eq_self, or_self, false_or, or_false, true_or, or_true, ↓reduceIte, if_true, if_false, lm_paint, fx_X12_paint, e2, k2]
  rcases pn_w a3 6 5 rfl (by decide) with ⟨q1, q2⟩ | ⟨r, hr, rfl, q1, q2⟩
  · refine ⟨-1000005, S1, M1, ?_, ?_, T, hq1⟩
    · simp (disch := omega) only [pz_l, pz_ltT, pz_ltF, pz_leT, pz_leF, pz_eqT, pz_eqF, pz_nF, pz_nqF, pz_cl, pz_rd, pz_up, pz_bd, pz_let, pk_mul, nI_add, pz_sub, pz_div, pz_m, pz_neg1, eq_self, or_self, false_or, or_false, true_or, or_true, ↓reduceIte, if_true, if_false, lx_paint, fx_X11_paint, e1, k1, q1]
    · simp (disch := omega) only [pz_l, pz_ltT, pz_ltF, pz_leT, pz_leF, pz_eqT, pz_eqF, pz_nF, pz_nqF, pz_cl, pz_rd, pz_up, pz_bd, pz_let, pk_mul, nI_add, pz_sub, pz_div, pz_m, pz_neg1, eq_self, or_self, false_or, or_false, true_or, or_true, ↓reduceIte, if_true, if_false, lm_paint, fx_X12_paint, fx_X12_isRoom, e2, k2, q2]
  have v8 : v < 8 := by omega
  have hC := pq_lcC f1 hA hL v 1
  have hM := pm_Cf (pq_mC (cr := 1) h lt ht v8 (by decide)) f2
  obtain ⟨S2, x1, x2, x3⟩ := pf_offer hC
  obtain ⟨M2, y1, y2⟩ := pe_offer hM hW
  have hC2 := px_sdC x3 hr (nI 0)
  obtain ⟨S3, x4, x5, x6⟩ := pf_offer hC2
  have hM2 := pm_Cf hM (pm_fe y2)
  have hM3 : pm_C S (pv_sd (pv_cur T t S v 1) r (nI 0)) v 1 (um_flat M2 (upd (sm_flat M2) (2 * r + 1) (nI 0))) := by
    obtain ⟨a, b, c, d, e, f, g⟩ := hM2
    refine ⟨a, b, c, d, fun r' hr' => ?_, f, g⟩
    exact pu_2' (n := 6) (i := r) (v := nI 0) e r' hr'
  have hW3 : pm_W W n (um_flat M2 (upd (sm_flat M2) (2 * r + 1) (nI 0))) := (have w2 : pm_W W n M2 := pm_Wf hW y2; w2)
  obtain ⟨M3, y3, y4⟩ := pe_offer hM3 hW3
  have flat3 : sm_flat M3 = upd (sm_flat M2) (2 * r + 1) (nI 0) := y4.2 3 (by decide)
  have frM : pm_f pm_es pm_ea M1 (um_flat M3 (upd (sm_flat M3) (2 * r + 1) (sm_flat M2 (2 * r + 1)))) := by
    refine pm_fz (j := 3) (pm_fa (j := 3) (S' := M3) (pm_ft (pm_ft (pm_fm y2 (by decide) (by decide)) (pm_fa (j := 3) (S' := M2) pm_fr (by decide))) (pm_fm y4 (by decide) (by decide))) (by decide)) ?_
    show upd (sm_flat M3) (2 * r + 1) (sm_flat M2 (2 * r + 1)) = sm_flat M1
    rw [flat3, pu_back]
    exact y2.2 3 (by decide)
  have frS : px_f px_es px_ea S1 S3 := px_ft (px_ft (px_fm (px_lcf v 1 S1) (by decide) (by decide)) (px_ge x2)) (px_ft (px_sdf r hr (nI 0) S2) (px_ge x5))
  refine ⟨pv_of (pv_sd (pv_cur T t S v 1) r (nI 0)) W n - pv_of (pv_cur T t S v 1) W n, S3, _, ?_, ?_, T, px_Qf hq1 frS frM⟩
  · simp (disch := omega) only [pz_l, pz_ltT, pz_ltF, pz_leT, pz_leF, pz_eqT, pz_eqF, pz_nF, pz_nqF, pz_cl, pz_rd, pz_up, pz_bd, pz_let, pk_mul, nI_add, pz_sub, pz_div, pz_m, pz_neg1, eq_self, or_self, false_or, or_false, true_or, or_true, ↓reduceIte, if_true, if_false, lx_paint, fx_X11_paint, e1, k1, q1, pf_lc v8 (show 1 < 9 by decide), x1, x4]
  · simp (disch := omega) only [pz_l, pz_ltT, pz_ltF, pz_leT, pz_leF, pz_eqT, pz_eqF, pz_nF, pz_nqF, pz_cl, pz_rd, pz_up, pz_bd, pz_let, pk_mul, nI_add, pz_sub, pz_div, pz_m, pz_neg1, eq_self, or_self, false_or, or_false, true_or, or_true, ↓reduceIte, if_true, if_false, lm_paint, fx_X12_paint, fx_X12_isRoom, e2, k2, q2, y1, y3]
/-! without -/
theorem px_B0w {V : pv_V} {M : sm_T} {S S' : sx_T} (h : px_B0 V M S) (f : px_f [15, 20] [22] S S') (kk : sx_vi_kind S' = sx_vi_kind S) : px_B0 V M S' := by
  obtain ⟨x, y⟩ := f
  have a16 : sx_vi_more S' = sx_vi_more S := x 16 (by decide)
  have a17 : sx_vi_crowd S' = sx_vi_crowd S := x 17 (by decide)
  have a18 : sx_vi_law S' = sx_vi_law S := x 18 (by decide)
  have a19 : sx_vi_hour S' = sx_vi_hour S := x 19 (by decide)
  have b10 : sx_tx_steps S' = sx_tx_steps S := y 10 (by decide)
  have b11 : sx_tx_ends S' = sx_tx_ends S := y 11 (by decide)
  have b12 : sx_tx_named S' = sx_tx_named S := y 12 (by decide)
  have b20 : sx_vi_light S' = sx_vi_light S := y 20 (by decide)
  have b21 : sx_vi_damp S' = sx_vi_damp S := y 21 (by decide)
  have b23 : sx_vi_names S' = sx_vi_names S := y 23 (by decide)
  unfold px_B0 pr_tx1 at h ⊢
  rw [a16, a17, a18, a19, b10, b11, b12, b20, b21, b23, kk]
  exact h
theorem pf_wo75 {W : Nat → Nat} {n k s : Nat} (hs : s < 4) (hn : n < 7) (hk : k < n) (k60 : Int32 → Int32 → Int32 → Int32 → Int32 → Int32 → Int32 → sm_T → Option (Int32 × sm_T)) (v2 v3 v6 v7 : Int32) : ∀ (d o g : Nat) (M : sm_T), o + d = n → d < g → (∀ i, i < n → W i < 6 ∧ sm_cells M (40 * s + i) = nI (W i)) → sm_rooms0 M = nI (if o ≤ k then o else o - 1) → (∀ m, m < (if o ≤ k then o else o - 1) → sm_row M m = nI (pt_wl W k m)) → ∃ g' M', fx_X12_without_75 k60 g (nI s) v2 v3 (nI n) v6 v7 (nI k) (nI o) M = fx_X12_without_75 k60 (g' + 1) (nI s) v2 v3 (nI n) v6 v7 (nI k) (nI n) M' ∧ pm_f [13] [15] M M' ∧ pm_W (pt_wl W k) (if n ≤ k then n else n - 1) M' := by
  intro d
  induction d with
  | zero =>
    intro o g M h1 h2 hw l1 l2
    obtain ⟨f, rfl⟩ : ∃ f, g = f + 1 := ⟨g - 1, by omega⟩
    have hi : o = n := by omega
    subst hi
    refine ⟨f, M, rfl, pm_fr, l1, by split <;> omega, fun m hm => ⟨?_, l2 m hm⟩⟩
    unfold pt_wl
    by_cases c : o ≤ k
    · rw [if_pos c] at hm
      rw [if_pos (by omega)]
      exact (hw m hm).1
    · rw [if_neg c] at hm
      by_cases c2 : m < k
      · rw [if_pos c2]; exact (hw m (by omega)).1
      · rw [if_neg c2]; exact (hw (m + 1) (by omega)).1
  | succ d ih =>
    intro o g M h1 h2 hw l1 l2
    obtain ⟨f, rfl⟩ : ∃ f, g = f + 1 := ⟨g - 1, by omega⟩
    by_cases e : o = k
    · subst e
      obtain ⟨g', M', s1, s2, s3⟩ := ih (o + 1) f M (by omega) (by omega) hw (by
        rw [if_pos (Nat.le_refl o)] at l1
        rw [if_neg (by omega)]; exact l1) (by
        rw [if_pos (Nat.le_refl o)] at l2
        rw [if_neg (by omega)]; exact l2)
      refine ⟨g', M', Eq.trans ?_ s1, s2, s3⟩
      rw [fx_X12_without_75, if_neg (nI_ge (by omega) (by omega)), if_pos rfl, show nI o + 1 = nI (o + 1) from (nI_succ o).symm]
    · have hwi := hw o (by omega)
      have hj : (if o ≤ k then o else o - 1) < 6 := by split <;> omega
      generalize hjj : (if o ≤ k then o else o - 1) = j at l1 l2 hj
      have hj2 : (if o + 1 ≤ k then o + 1 else o + 1 - 1) = j + 1 := by
        subst hjj
        by_cases c : o + 1 ≤ k
        · rw [if_pos c, if_pos (by omega)]
        · rw [if_neg c, if_neg (by omega)]; omega
      have hjw : nI (W o) = nI (pt_wl W k j) := by
        unfold pt_wl
        subst hjj
        by_cases c : o ≤ k
        · rw [if_pos c, if_pos (by omega)]
        · rw [if_neg c, if_neg (by omega), show o - 1 + 1 = o by omega]
      have fr : pm_f [13] [15] M (um_rooms0 (um_row M (upd (sm_row M) j (nI (W o)))) (nI (j + 1))) := pm_fs (j := 13) (S' := um_row M (upd (sm_row M) j (nI (W o)))) (pm_fa (j := 15) (S' := M) pm_fr (by decide)) (by decide)
      obtain ⟨g', M', s1, s2, s3⟩ := ih (o + 1) f (um_rooms0 (um_row M (upd (sm_row M) j (nI (W o)))) (nI (j + 1))) (by omega) (by omega) hw (by rw [hj2]; rfl) (by
        rw [hj2]
        intro m hm
        show upd (sm_row M) j (nI (W o)) m = _
        by_cases q : m = j
        · subst q; rw [pz_us]; exact hjw
        · rw [pz_un q]; exact l2 m (by omega))
      refine ⟨g', M', Eq.trans ?_ s1, pm_ft fr s2, s3⟩
      rw [fx_X12_without_75]
      simp (disch := omega) only [pz_l, pz_ltT, pz_ltF, pz_leT, pz_leF, pz_eqT, pz_eqF, pz_nF, pz_nqF, pz_cl, pz_rd, pz_up, pz_bd, pz_let, pk_mul, nI_add, pz_sub, pz_div, pz_m, pz_neg1, eq_self, or_self, false_or, or_false, true_or, or_true, ↓reduceIte, if_true, if_false, l1, hwi.2]
theorem pf_wo {T : Nat → Nat → List Int32} {t : Nat} {W : Nat → Nat} {n v s w : Nat} {S : sx_T} {M : sm_T} (h : px_Q T S M) (lt : sx_now_law S = nI t) (ht : t < 6) (hv : v < 8) (hs : s < 4) (hn : n < 7) (hw : w < 2) : ∀ (d i g g' : Nat) (x y : Int32) (S' : sx_T) (M' : sm_T), i + d = n → d < g → d < g' → px_f px_es px_ea S S' → pm_f pm_es pm_ea M M' → px_B0 (pv_cur T t S v 1) M S' → sx_wayLength S' = nI n → (∀ i, i < n → W i < 6 ∧ sx_way S' i = nI (W i)) → (∀ i, i < n → W i < 6 ∧ sm_cells M' (40 * s + i) = nI (W i)) → ∃ r S2 M2, fx_X11_without_58 g (nI w) x y (nI i) S' = some (r, S2) ∧ fx_X12_without_60 g' (nI s) (nI v) (nI w) (nI n) y x (nI i) M' = some (r, M2) ∧ px_f px_es px_ea S S2 ∧ pm_f pm_es pm_ea M M2 := by
  intro d
  induction d with
  | zero =>
    intro i g g' x y S' M' h1 h2 h3 fS fM hB wl wy cy
    obtain ⟨f, rfl⟩ : ∃ f, g = f + 1 := ⟨g - 1, by omega⟩
    obtain ⟨f', rfl⟩ : ∃ f, g' = f + 1 := ⟨g' - 1, by omega⟩
    have hw2 : w = 0 ∨ w = 1 := by omega
    rcases hw2 with rfl | rfl
    · refine ⟨y, S', M', ?_, ?_, fS, fM⟩
      · rw [fx_X11_without_58]; simp (disch := omega) only [pz_l, pz_ltT, pz_ltF, pz_leT, pz_leF, pz_eqT, pz_eqF, pz_nF, pz_nqF, pz_cl, pz_rd, pz_up, pz_bd, pz_let, pk_mul, nI_add, pz_sub, pz_div, pz_m, pz_neg1, eq_self, or_self, false_or, or_false, true_or, or_true, ↓reduceIte, if_true, if_false, wl]
      · rw [fx_X12_without_60]; simp (disch := omega) only [pz_l, pz_ltT, pz_ltF, pz_leT, pz_leF, pz_eqT, pz_eqF, pz_nF, pz_nqF, pz_cl, pz_rd, pz_up, pz_bd, pz_let, pk_mul, nI_add, pz_sub, pz_div, pz_m, pz_neg1, eq_self, or_self, false_or, or_false, true_or, or_true, ↓reduceIte, if_true, if_false]
    · refine ⟨x, S', M', ?_, ?_, fS, fM⟩
      · rw [fx_X11_without_58]; simp (disch := omega) only [pz_l, pz_ltT, pz_ltF, pz_leT, pz_leF, pz_eqT, pz_eqF, pz_nF, pz_nqF, pz_cl, pz_rd, pz_up, pz_bd, pz_let, pk_mul, nI_add, pz_sub, pz_div, pz_m, pz_neg1, eq_self, or_self, false_or, or_false, true_or, or_true, ↓reduceIte, if_true, if_false, wl]
      · rw [fx_X12_without_60]; simp (disch := omega) only [pz_l, pz_ltT, pz_ltF, pz_leT, pz_leF, pz_eqT, pz_eqF, pz_nF, pz_nqF, pz_cl, pz_rd, pz_up, pz_bd, pz_let, pk_mul, nI_add, pz_sub, pz_div, pz_m, pz_neg1, eq_self, or_self, false_or, or_false, true_or, or_true, ↓reduceIte, if_true, if_false]
  | succ d ih =>
    intro i g g' x y S' M' h1 h2 h3 fS fM hB wl wy cy
    obtain ⟨f, rfl⟩ : ∃ f, g = f + 1 := ⟨g - 1, by omega⟩
    obtain ⟨f', rfl⟩ : ∃ f, g' = f + 1 := ⟨g' - 1, by omega⟩
    obtain ⟨S1, p1, p2, p3, p4, p5⟩ := pf_wk_r42 (W := W) (n := n) (k := i) (lo := nI i) hn (fun j hj => by rw [pz_eq (by omega) (by omega)]) n 0 am_fu (ux_vi_length S' 0) (by omega) (by rw [pf_u]; omega) wy (by rw [if_pos (Nat.zero_le i)]; rfl) (by rw [if_pos (Nat.zero_le i)]; intro m hm; exact absurd hm (Nat.not_lt_zero m))
    have p1' : fx_X10_walk_r42 (nI n) (nI i) S' = some S1 := p1
    have p2' : px_f [15, 20] [22] S' S1 := px_ft (px_fs (j := 15) (S' := S') px_fr (by decide)) p2
    have hC1 : px_C (pv_cur T t S v 1) (pt_wl W i) (if n ≤ i then n else n - 1) M S1 := ⟨⟨px_B0w hB p2' p3, p5⟩, px_K0 p4⟩
    obtain ⟨S2, x1, x2, x3⟩ := pf_mind hC1
    obtain ⟨S3, x4, x5, x6⟩ := pf_mind x3
    obtain ⟨k', M1, y1, y2, y3⟩ := pf_wo75 (W := W) (n := n) (k := i) (s := s) hs hn (by omega) (fun a0 a1 a2 a3 a4 a5 a6 a7 => fx_X12_without_60 f' a0 a1 a2 a3 a4 a5 a6 a7) (nI v) (nI w) y x n 0 am_fu (um_rooms0 M' 0) (by omega) (by rw [pf_u]; omega) cy (by rw [if_pos (Nat.zero_le i)]; rfl) (by rw [if_pos (Nat.zero_le i)]; intro m hm; exact absurd hm (Nat.not_lt_zero m))
    have f1 : pm_f pm_es pm_ea M M1 := pm_ft fM (pm_ft (pm_fs (j := 13) (S' := M') pm_fr (by decide)) (pm_fm y2 (by decide) (by decide)))
    have hM1 := pm_Cf (pq_mC (cr := 1) h lt ht hv (by decide)) f1
    obtain ⟨M2, z1, z2⟩ := pe_mind hM1 y3
    have f2 : pm_f pm_es pm_ea M M2 := pm_ft f1 (pm_fe z2)
    have cy2 : ∀ i, i < n → W i < 6 ∧ sm_cells M2 (40 * s + i) = nI (W i) := by
      intro j hj
      have q1 : sm_cells M2 = sm_cells M1 := z2.2 11 (by decide)
      have q2 : sm_cells M1 = sm_cells M' := y2.2 11 (by decide)
      rw [q1, q2]
      exact cy j hj
    have g2 : px_g S1 S2 := x2
    have s2f : px_f px_es px_ea S S2 := px_ft fS (px_ft (px_fm p2' (by decide) (by decide)) (px_ge x2))
    have s3f : px_f px_es px_ea S S3 := px_ft s2f (px_ge x5)
    have w1 : sx_way S1 = sx_way S' := p2'.2 26 (by decide)
    have w2 : sx_way S2 = sx_way S1 := x2.1.2 26 (by decide)
    have w3 : sx_way S3 = sx_way S2 := x5.1.2 26 (by decide)
    have l1 : sx_wayLength S1 = sx_wayLength S' := p2'.1 1 (by decide)
    have l2 : sx_wayLength S2 = sx_wayLength S1 := x2.1.1 1 (by decide)
    have l3 : sx_wayLength S3 = sx_wayLength S2 := x5.1.1 1 (by decide)
    rw [fx_X11_without_58, fx_X12_without_60]
    generalize hmi : pv_mi (pv_cur T t S v 1) (pt_wl W i) (if n ≤ i then n else n - 1) = mi at x1 x4 z1
    have m0 : fx_X12_without_75 (fun a0 a1 a2 a3 a4 a5 a6 a7 => fx_X12_without_60 f' a0 a1 a2 a3 a4 a5 a6 a7) am_fu (nI s) (nI v) (nI w) (nI n) y x (nI i) 0 (um_rooms0 M' 0) = (if mi ≤ x then fx_X12_without_60 f' (nI s) (nI v) (nI w) (nI n) y x (nI (i + 1)) M2 else fx_X12_without_60 f' (nI s) (nI v) (nI w) (nI n) (nI (W i)) mi (nI (i + 1)) M2) := by
      refine Eq.trans y1 ?_
      rw [fx_X12_without_75]
      have c2 := (cy2 i (by omega)).2
      by_cases c : mi ≤ x
      · simp (disch := omega) only [pz_l, pz_ltT, pz_ltF, pz_leT, pz_leF, pz_eqT, pz_eqF, pz_nF, pz_nqF, pz_cl, pz_rd, pz_up, pz_bd, pz_let, pk_mul, nI_add, pz_sub, pz_div, pz_m, pz_neg1, eq_self, or_self, false_or, or_false, true_or, or_true, ↓reduceIte, if_true, if_false, z1, c]
      · simp (disch := omega) only [pz_l, pz_ltT, pz_ltF, pz_leT, pz_leF, pz_eqT, pz_eqF, pz_nF, pz_nqF, pz_cl, pz_rd, pz_up, pz_bd, pz_let, pk_mul, nI_add, pz_sub, pz_div, pz_m, pz_neg1, eq_self, or_self, false_or, or_false, true_or, or_true, ↓reduceIte, if_true, if_false, z1, c, c2]
    by_cases c : mi ≤ x
    · obtain ⟨r, S4, M4, a1, a2, a3, a4⟩ := ih (i + 1) f f' x y S2 M2 (by omega) (by omega) (by omega) s2f f2 (px_B0g (px_B0w hB p2' p3) x2) (by rw [l2, l1, wl]) (by rw [w2, w1]; exact wy) cy2
      refine ⟨r, S4, M4, ?_, ?_, a3, a4⟩
      · simp (disch := omega) only [pz_l, pz_ltT, pz_ltF, pz_leT, pz_leF, pz_eqT, pz_eqF, pz_nF, pz_nqF, pz_cl, pz_rd, pz_up, pz_bd, pz_let, pk_mul, nI_add, pz_sub, pz_div, pz_m, pz_neg1, eq_self, or_self, false_or, or_false, true_or, or_true, ↓reduceIte, if_true, if_false, wl, p1', x1, c]; exact a1
      · rw [if_neg (nI_ge (by omega) (by omega)), m0, if_pos c]; exact a2
    · obtain ⟨r, S4, M4, a1, a2, a3, a4⟩ := ih (i + 1) f f' mi (nI (W i)) S3 M2 (by omega) (by omega) (by omega) s3f f2 (px_B0g (px_B0g (px_B0w hB p2' p3) x2) x5) (by rw [l3, l2, l1, wl]) (by rw [w3, w2, w1]; exact wy) cy2
      have wi : sx_way S3 i = nI (W i) := by rw [w3, w2, w1]; exact (wy i (by omega)).2
      refine ⟨r, S4, M4, ?_, ?_, a3, a4⟩
      · simp (disch := omega) only [pz_l, pz_ltT, pz_ltF, pz_leT, pz_leF, pz_eqT, pz_eqF, pz_nF, pz_nqF, pz_cl, pz_rd, pz_up, pz_bd, pz_let, pk_mul, nI_add, pz_sub, pz_div, pz_m, pz_neg1, eq_self, or_self, false_or, or_false, true_or, or_true, ↓reduceIte, if_true, if_false, wl, p1', x1, c, x4, wi]; exact a1
      · rw [if_neg (nI_ge (by omega) (by omega)), m0, if_neg c]; exact a2
theorem pq_without1 {T : Nat → Nat → List Int32} {t : Nat} {W : Nat → Nat} {n v s w : Nat} {S S1 : sx_T} {M M1 : sm_T} (h : px_Q T S M) (lt : sx_now_law S = nI t) (ht : t < 6) (v8 : v < 8) (hs : s < 4) (hw : w < 2) (f1 : px_f px_es px_ea S S1) (f2' : pm_f [13] [15] M M1) (hA : px_A (T t) (sx_now_hour S) (sx_now_light S) (sx_now_damp S) M S1) (hL : px_L W n S1) (wl : sx_wayLength S1 = nI n) (wy : ∀ i, i < n → sx_way S1 i = nI (W i)) (hW : pm_W W n M1) (cl : ∀ i, i < n → sm_cells M (40 * s + i) = nI (W i)) : ∃ S2 M2 r S3 M3, fx_X10_mind (pt_lc v 1 S1) = some (pv_mi (pv_cur T t S v 1) W n, S2) ∧ fx_X12_mindOf (nI v) (nI 1) M1 = some (pv_mi (pv_cur T t S v 1) W n, M2) ∧ fx_X11_without_58 am_fu (nI w) (pv_mi (pv_cur T t S v 1) W n) (-(nI 1)) (nI 0) S2 = some (r, S3) ∧ fx_X12_without_60 am_fu (nI s) (nI v) (nI w) (nI n) (-(nI 1)) (pv_mi (pv_cur T t S v 1) W n) (nI 0) M2 = some (r, M3) ∧ px_f px_es px_ea S S3 ∧ pm_f pm_es pm_ea M M3 := by
  have f2 : pm_f pm_es pm_ea M M1 := pm_fm f2' (by decide) (by decide)
  have hC := pq_lcC f1 hA hL v 1
  have hM := pm_Cf (pq_mC (cr := 1) h lt ht v8 (by decide)) f2
  obtain ⟨S2, x1, x2, x3⟩ := pf_mind hC
  obtain ⟨M2, y1, y2⟩ := pe_mind hM hW
  have s2f : px_f px_es px_ea S S2 := px_ft f1 (px_ft (px_fm (px_lcf v 1 S1) (by decide) (by decide)) (px_ge x2))
  have w2 : sx_way S2 = sx_way S1 := (x2.1.2 26 (by decide)).trans ((px_lcf v 1 S1).2 26 (by decide))
  have l2 : sx_wayLength S2 = sx_wayLength S1 := (x2.1.1 1 (by decide)).trans ((px_lcf v 1 S1).1 1 (by decide))
  have c2 : sm_cells M2 = sm_cells M := (y2.2 11 (by decide)).trans (f2'.2 11 (by decide))
  have hn : n < am_fu := by rw [pf_u]; have := hL.2.1; omega
  obtain ⟨r, S3, M3, a1, a2, a3, a4⟩ := pf_wo (W := W) (n := n) (s := s) (w := w) h lt ht v8 hs hL.2.1 hw n 0 am_fu am_fu (pv_mi (pv_cur T t S v 1) W n) (-(nI 1)) S2 M2 (Nat.zero_add n) hn hn s2f (pm_ft f2 (pm_fe y2)) x3.1.1 (l2.trans wl) (fun i hi => ⟨(hL.2.2 i hi).1, by rw [w2]; exact wy i hi⟩) (fun i hi => ⟨(hL.2.2 i hi).1, by rw [c2]; exact cl i hi⟩)
  exact ⟨S2, M2, r, S3, M3, x1, y1, a1, a2, a3, a4⟩
theorem pq_without : lq_without px_R := by
  rintro S M ⟨T, h⟩ a1 a2 a3
  obtain ⟨⟨⟨nv, hnv, n1⟩, n2⟩, -⟩ := id h.1
  rcases pq_start h a1 with ⟨M1, e, he, e1, e2, f2⟩ | ⟨s, W, n, t, S1, M1, rfl, hs, e1, e2, f1, f2', ⟨ht, lt⟩, hA, hL, ⟨wl, wy⟩, hW, sz, cl⟩
  · rcases he with rfl | ⟨rfl, -⟩
    · refine ⟨-1000002, S, M1, ?_, ?_, T, px_Qf h px_fr f2⟩
      · simp (disch := omega) only [pz_l, pz_ltT, pz_ltF, pz_leT, pz_leF, pz_eqT, pz_eqF, pz_nF, pz_nqF, pz_cl, pz_rd, pz_up, pz_bd, pz_let, pk_mul, nI_add, pz_sub, pz_div, pz_m, pz_neg1, eq_self, or_self, false_or, or_false, true_or, or_true, ↓reduceIte, if_true, if_false, lx_without, fx_X11_without, e1, pz_20, pz_110, pz_f2, pz_f11]
      · simp (disch := omega) only [pz_l, pz_ltT, pz_ltF, pz_leT, pz_leF, pz_eqT, pz_eqF, pz_nF, pz_nqF, pz_cl, pz_rd, pz_up, pz_bd, pz_let, pk_mul, nI_add, pz_sub, pz_div, pz_m, pz_neg1, eq_self, or_self, false_or, or_false, true_or, or_true, ↓reduceIte, if_true, if_false, lm_without, fx_X12_without, e2, pz_20, pz_110, pz_f2, pz_f11]
    · refine ⟨-1000011, S, M1, ?_, ?_, T, px_Qf h px_fr f2⟩
      · simp (disch := omega) only [pz_l, pz_ltT, pz_ltF, pz_leT, pz_leF, pz_eqT, pz_eqF, pz_nF, pz_nqF, pz_cl, pz_rd, pz_up, pz_bd, pz_let, pk_mul, nI_add, pz_sub, pz_div, pz_m, pz_neg1, eq_self, or_self, false_or, or_false, true_or, or_true, ↓reduceIte, if_true, if_false, lx_without, fx_X11_without, e1, pz_20, pz_110, pz_f2, pz_f11]
      · simp (disch := omega) only [pz_l, pz_ltT, pz_ltF, pz_leT, pz_leF, pz_eqT, pz_eqF, pz_nF, pz_nqF, pz_cl, pz_rd, pz_up, pz_bd, pz_let, pk_mul, nI_add, pz_sub, pz_div, pz_m, pz_neg1, eq_self, or_self, false_or, or_false, true_or, or_true, ↓reduceIte, if_true, if_false, lm_without, fx_X12_without, e2, pz_20, pz_110, pz_f2, pz_f11]
  have f2 : pm_f pm_es pm_ea M M1 := pm_fm f2' (by decide) (by decide)
  have n1' : sx_now_viewers S1 = nI nv := (f1.1 2 (by decide)).trans n1
  have n3' : sm_viewers M1 = nI nv := (f2.1 0 (by decide)).trans (n2.trans n1)
  have hq1 : px_Q T S1 M1 := px_Qf h f1 f2
  rcases pn_iv hnv n1' n3' a2 with ⟨k1, k2⟩ | ⟨v, hv, rfl, k1, k2⟩
  · refine ⟨-1000007, S1, M1, ?_, ?_, T, hq1⟩
    · simp (disch := omega) only [pz_l, pz_ltT, pz_ltF, pz_leT, pz_leF, pz_eqT, pz_eqF, pz_nF, pz_nqF, pz_cl, pz_rd, pz_up, pz_bd, pz_let, pk_mul, nI_add, pz_sub, pz_div, pz_m, pz_neg1, eq_self, or_self, false_or, or_false, true_or, or_true, ↓reduceIte, if_true, if_false, lx_without, fx_X11_without, e1, k1]
    · simp (disch := omega) only [pz_l, pz_ltT, pz_ltF, pz_leT, pz_leF, pz_eqT, pz_eqF, pz_nF, pz_nqF, pz_cl, pz_rd, pz_up, pz_bd, pz_let, pk_mul, nI_add, pz_sub, pz_div, pz_m, pz_neg1, eq_self, or_self, false_or, or_false, true_or, or_true, ↓reduceIte, if_true, if_false, lm_without, fx_X12_without, e2, k2]
  rcases pn_w a3 2 1 rfl (by decide) with ⟨q1, q2⟩ | ⟨w, hw, rfl, q1, q2⟩
  · refine ⟨-1000007, S1, M1, ?_, ?_, T, hq1⟩
    · simp (disch := omega) only [pz_l, pz_ltT, pz_ltF, pz_leT, pz_leF, pz_eqT, pz_eqF, pz_nF, pz_nqF, pz_cl, pz_rd, pz_up, pz_bd, pz_let, pk_mul, nI_add, pz_sub, pz_div, pz_m, pz_neg1, eq_self, or_self, false_or, or_false, true_or, or_true, ↓reduceIte, if_true, if_false, lx_without, fx_X11_without, e1, k1, q1]
    · simp (disch := omega) only [pz_l, pz_ltT, pz_ltF, pz_leT, pz_leF, pz_eqT, pz_eqF, pz_nF, pz_nqF, pz_cl, pz_rd, pz_up, pz_bd, pz_let, pk_mul, nI_add, pz_sub, pz_div, pz_m, pz_neg1, eq_self, or_self, false_or, or_false, true_or, or_true, ↓reduceIte, if_true, if_false, lm_without, fx_X12_without, e2, k2, q2]
  have v8 : v < 8 := by omega
  have sz1 : sm_sheetSize M1 s = nI n := by rw [show sm_sheetSize M1 = sm_sheetSize M from f2'.2 10 (by decide)]; exact sz
  obtain ⟨S2, M2, r, S3, M3, x1, y1, a1, a2, a3, a4⟩ := pq_without1 (w := w) h lt ht v8 hs hw f1 f2' hA hL wl wy hW cl
  refine ⟨r, S3, M3, ?_, ?_, T, px_Qf h a3 a4⟩
  · have k1' : ¬ fx_X11_isViewer (nI v) S1 = 0 := by rw [k1]; decide
    have q1' : ¬ fx_X11_within (nI w) 2 = 0 := by
      rw [show fx_X11_within (nI w) 2 = nI 1 from q1]; decide
    have lc : fx_X11_letCome (nI v) 1 S1 = pt_lc v 1 S1 := pf_lc v8 (show 1 < 9 by decide) S1
    unfold lx_without fx_X11_without
    rw [e1, pz_bd, if_pos rfl, if_neg k1', if_neg q1', lc, pz_let, x1, pz_bd]
    exact a1
  · simp (disch := omega) only [pz_l, pz_ltT, pz_ltF, pz_leT, pz_leF, pz_eqT, pz_eqF, pz_nF, pz_nqF, pz_cl, pz_rd, pz_up, pz_bd, pz_let, pk_mul, nI_add, pz_sub, pz_div, pz_m, pz_neg1, eq_self, or_self, false_or, or_false, true_or, or_true, ↓reduceIte, if_true, if_false, lm_without, fx_X12_without, e2, k2, q2, y1, sz1, a2]
