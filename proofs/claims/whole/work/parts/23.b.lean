/-! ===== setters of the visit; one step; tenant, paint ===== -/
def pv_sd (V : pv_V) (r : Nat) (x : Int32) : pv_V := (V.1, V.2.1, V.2.2.1, V.2.2.2.1, upd V.2.2.2.2 r x)
def pv_sl (V : pv_V) (r : Nat) (x : Int32) : pv_V := (V.1, V.2.1, V.2.2.1, upd V.2.2.2.1 r x, V.2.2.2.2)
def pv_sk (V : pv_V) (c : Fin 8) : pv_V := (V.1, c, V.2.2)
def pv_sm (V : pv_V) (x : Int32) : pv_V := (V.1, V.2.1, upd V.2.2.1 0 x, V.2.2.2)
def pv_st (V : pv_V) (T : Nat → List Int32) : pv_V := (T, V.2)
theorem pf_setDamp {r : Nat} (hr : r < 6) (x : Int32) (S : sx_T) : fx_X10_setDamp (nI r) x S = ux_vi_known (ux_vi_damp S (upd (sx_vi_damp S) r x)) 0 := by
  unfold fx_X10_setDamp; rw [pz_up hr (by decide)]
theorem pf_setLight {r : Nat} (hr : r < 6) (x : Int32) (S : sx_T) : fx_X10_setLight (nI r) x S = ux_vi_known (ux_vi_light S (upd (sx_vi_light S) r x)) 0 := by
  unfold fx_X10_setLight; rw [pz_up hr (by decide)]
theorem pf_setHour (x : Int32) (S : sx_T) : fx_X10_setHour x S = ux_vi_names (ux_vi_hour S x) (upd (sx_vi_names S) 3 x) := by
  unfold fx_X10_setHour
  rw [show am_up 6 (sx_vi_names S) 3 x = upd (sx_vi_names S) 3 x from pz_up (j := 3) (by decide) (by decide)]
theorem px_sdC {V : pv_V} {W : Nat → Nat} {n r : Nat} {M : sm_T} {S : sx_T} (h : px_C V W n M S) (hr : r < 6) (x : Int32) : px_C (pv_sd V r x) W n M (fx_X10_setDamp (nI r) x S) := by
  rw [pf_setDamp hr]
  obtain ⟨⟨⟨a, b, c, d, e, f, g⟩, l⟩, k⟩ := h
  refine ⟨⟨⟨a, b, c, d, e, f, fun r' hr' => ⟨(g r' hr').1, ?_⟩⟩, l⟩, px_K0 rfl⟩
  show upd (sx_vi_damp S) r x r' = upd V.2.2.2.2 r x r'
  exact pu_e (g r' hr').2
theorem px_slC {V : pv_V} {W : Nat → Nat} {n r : Nat} {M : sm_T} {S : sx_T} (h : px_C V W n M S) (hr : r < 6) (x : Int32) : px_C (pv_sl V r x) W n M (fx_X10_setLight (nI r) x S) := by
  rw [pf_setLight hr]
  obtain ⟨⟨⟨a, b, c, d, e, f, g⟩, l⟩, k⟩ := h
  refine ⟨⟨⟨a, b, c, d, e, f, fun r' hr' => ⟨?_, (g r' hr').2⟩⟩, l⟩, px_K0 rfl⟩
  show upd (sx_vi_light S) r x r' = upd V.2.2.2.1 r x r'
  exact pu_e (g r' hr').1
theorem px_skC {V : pv_V} {W : Nat → Nat} {n : Nat} {M : sm_T} {S : sx_T} (h : px_C V W n M S) (x : Fin 8) : px_C (pv_sk V x) W n M (fx_X10_setKind x S) := by
  obtain ⟨⟨⟨a, b, c, d, e, f, g⟩, l⟩, k⟩ := h
  exact ⟨⟨⟨a, rfl, c, d, e, f, g⟩, l⟩, px_K0 rfl⟩
theorem px_smC {V : pv_V} {W : Nat → Nat} {n : Nat} {M : sm_T} {S : sx_T} (h : px_C V W n M S) (x : Int32) : px_C (pv_sm V x) W n M (fx_X10_setMore x S) := by
  obtain ⟨⟨⟨a, b, c, d, e, f, g⟩, l⟩, k⟩ := h
  exact ⟨⟨⟨a, b, rfl, d, e, f, g⟩, l⟩, px_K0 rfl⟩
theorem px_stC {V : pv_V} {W : Nat → Nat} {n t : Nat} {M : sm_T} {S : sx_T} {T : Nat → List Int32} (h : px_C V W n M S) (ht : t < 6) (tx : pr_tx1 T t S M) : px_C (pv_st V T) W n M (fx_X10_setLaw (nI t) S) := by
  obtain ⟨⟨⟨a, b, c, d, e, f, g⟩, l⟩, k⟩ := h
  exact ⟨⟨⟨⟨t, ht, rfl, tx⟩, b, c, d, e, f, g⟩, l⟩, px_K0 rfl⟩
theorem px_shC {V : pv_V} {W : Nat → Nat} {n : Nat} {M : sm_T} {S : sx_T} (h : px_C V W n M S) {x : Int32} (hx : pn_b 12 x) : px_C (pv_sh V x) W n M (fx_X10_setHour x S) := by
  rw [pf_setHour]
  obtain ⟨⟨⟨a, b, c, ⟨d1, d2⟩, e, f, g⟩, l⟩, k⟩ := h
  refine ⟨⟨⟨a, b, c, ⟨d1, d2⟩, e, ⟨rfl, rfl, hx⟩, g⟩, l⟩, fun h' hh' bt => ?_⟩
  · have e1 : pv_sh (pv_sh V x) (nI h') = pv_sh V (nI h') := by
      unfold pv_sh
      have : upd (upd V.2.2.1 3 x) 3 (nI h') = upd V.2.2.1 3 (nI h') := by
        funext j; rw [pz_u, pz_u, pz_u]; split <;> rfl
      rw [this]
    rw [e1]
    exact k h' hh' bt
theorem px_srC {V : pv_V} {W : Nat → Nat} {n : Nat} {M : sm_T} {S : sx_T} (h : px_C V W n M S) (x : Int32) : px_C (pv_sr V x) W n M (fx_X10_setRich x S) ∧ px_f px_es px_ea S (fx_X10_setRich x S) := by
  have up : am_up 6 (sx_vi_names S) 5 x = upd (sx_vi_names S) 5 x := pz_up (j := 5) (by decide) (by decide)
  unfold fx_X10_setRich
  rw [up]
  obtain ⟨⟨⟨⟨t, ht, lt, tx⟩, b, c, ⟨d1, d2⟩, e, ⟨f1, f2, f3⟩, g⟩, l⟩, k⟩ := h
  rw [lt]
  have fr : px_f px_es px_ea S (ux_vi_names S (upd (sx_vi_names S) 5 x)) := px_fa (j := 23) (S' := S) px_fr (by decide)
  have b0 : px_B0 (pv_sr V x) M (ux_vi_names S (upd (sx_vi_names S) 5 x)) := ⟨⟨t, ht, lt, tx⟩, b, c, ⟨d1, d2⟩, rfl, ⟨f1, f2, f3⟩, g⟩
  rcases pf_nam (S := ux_vi_names S (upd (sx_vi_names S) 5 x)) (M := M) tx ht (show 5 < 6 by decide) (-15) (by decide) with ⟨q, n0, n1⟩ | q
  · rw [if_pos (show fx_X8_mindNames (nI t) (-15) (ux_vi_names S (upd (sx_vi_names S) 5 x)) = 0 from q)]
    refine ⟨⟨⟨b0, l⟩, fun h' hh' bt => ?_⟩, fr⟩
    have := k h' hh' bt
    refine this.trans ?_
    have e1 : pv_sh (pv_sr V x) (nI h') = pv_sr (pv_sh V (nI h')) x := by
      unfold pv_sh pv_sr
      have : upd (upd V.2.2.1 2 x) 3 (nI h') = upd (upd V.2.2.1 3 (nI h')) 2 x := by
        funext j; rw [pz_u, pz_u, pz_u, pz_u]
        by_cases q3 : j = 3
        · subst q3; rfl
        · rw [if_neg q3, if_neg q3]
      rw [this]
    rw [e1]
    exact (pv_mir (V := pv_sh V (nI h')) (pt_goodi tx) n0 n1 W n x).symm
  · rw [if_neg (show ¬ fx_X8_mindNames (nI t) (-15) (ux_vi_names S (upd (sx_vi_names S) 5 x)) = 0 by rw [q]; decide)]
    exact ⟨⟨⟨b0, l⟩, px_K0 rfl⟩, px_fs (j := 20) (S' := ux_vi_names S (upd (sx_vi_names S) 5 x)) fr (by decide)⟩
theorem px_sdf (r : Nat) (hr : r < 6) (x : Int32) (S : sx_T) : px_f px_es px_ea S (fx_X10_setDamp (nI r) x S) := by
  rw [pf_setDamp hr]; exact px_fs (j := 20) (S' := ux_vi_damp S (upd (sx_vi_damp S) r x)) (px_fa (j := 21) (S' := S) px_fr (by decide)) (by decide)
theorem px_slf (r : Nat) (hr : r < 6) (x : Int32) (S : sx_T) : px_f px_es px_ea S (fx_X10_setLight (nI r) x S) := by
  rw [pf_setLight hr]; exact px_fs (j := 20) (S' := ux_vi_light S (upd (sx_vi_light S) r x)) (px_fa (j := 20) (S' := S) px_fr (by decide)) (by decide)
theorem px_skf (x : Fin 8) (S : sx_T) : px_f px_es px_ea S (fx_X10_setKind x S) := px_fs (j := 20) (S' := ux_vi_kind S x) (px_fk px_fr) (by decide)
theorem px_smf (x : Int32) (S : sx_T) : px_f px_es px_ea S (fx_X10_setMore x S) := px_fs (j := 20) (S' := ux_vi_more S x) (px_fs (j := 16) (S' := S) px_fr (by decide)) (by decide)
theorem px_stf (x : Int32) (S : sx_T) : px_f px_es px_ea S (fx_X10_setLaw x S) := px_fs (j := 20) (S' := ux_vi_law S x) (px_fs (j := 18) (S' := S) px_fr (by decide)) (by decide)
theorem px_shf (x : Int32) (S : sx_T) : px_f px_es px_ea S (fx_X10_setHour x S) := by
  rw [pf_setHour]; exact px_fa (j := 23) (S' := ux_vi_hour S x) (px_fs (j := 19) (S' := S) px_fr (by decide)) (by decide)
/-- what is left of the flat behind one who came -/
theorem px_CA {V : pv_V} {W : Nat → Nat} {n : Nat} {M : sm_T} {S : sx_T} (h : px_C V W n M S) : px_A V.1 (V.2.2.1 3) V.2.2.2.1 V.2.2.2.2 M S ∧ px_L W n S := by
  obtain ⟨⟨⟨a, b, c, d, e, f, g⟩, l⟩, k⟩ := h
  exact ⟨⟨a, f, g⟩, l⟩
/-- on the way: the class -/
def px_run (T : Nat → Nat → List Int32) (t : Nat) (W : Nat → Nat) (n : Nat) (M : sm_T) (S S' : sx_T) : Prop := px_f px_es px_ea S S' ∧ px_A (T t) (sx_now_hour S) (sx_now_light S) (sx_now_damp S) M S' ∧ px_L W n S'
def pm_run (W : Nat → Nat) (n : Nat) (M M' : sm_T) : Prop := pm_f pm_es pm_ea M M' ∧ pm_W W n M'
theorem pm_rune {W : Nat → Nat} {n : Nat} {M M1 M' : sm_T} (h : pm_run W n M M1) (f : pm_f [] [13, 14] M1 M') : pm_run W n M M' := ⟨pm_ft h.1 (pm_fe f), pm_Wf h.2 f⟩
theorem pq_one_offer {T : Nat → Nat → List Int32} {t : Nat} {W : Nat → Nat} {n v cr : Nat} {S S' : sx_T} {M M' : sm_T} (h : px_Q T S M) (lt : sx_now_law S = nI t) (ht : t < 6) (hv : v < 8) (hc : cr < 9) (r : px_run T t W n M S S') (m : pm_run W n M M') : ∃ S2 M2, fx_X10_offer (pt_lc v cr S') = some (pv_of (pv_cur T t S v cr) W n, S2) ∧ fx_X12_offerOf (nI v) (nI cr) M' = some (pv_of (pv_cur T t S v cr) W n, M2) ∧ px_run T t W n M S S2 ∧ px_f [16, 17, 20] [13, 23, 24] S' S2 ∧ pm_run W n M M2 ∧ pm_f [] [13, 14] M' M2 := by
  obtain ⟨f1, hA, hL⟩ := r
  have hC := pq_lcC f1 hA hL v cr
  have hM := pm_Cf (pq_mC h lt ht hv hc) m.1
  obtain ⟨S2, x1, x2, x3⟩ := pf_offer hC
  obtain ⟨M2, y1, y2⟩ := pe_offer hM m.2
  have fl : px_f [16, 17, 20] [13, 23, 24] S' S2 := px_ft (px_fm (px_lcf v cr S') (by decide) (by decide)) (px_fm x2.1 (by decide) (by decide))
  exact ⟨S2, M2, x1, y1, ⟨px_ft f1 (px_fm fl (by decide) (by decide)), px_CA x3⟩, fl, pm_rune m y2, y2⟩
theorem pf_ten {T : Nat → Nat → List Int32} {t : Nat} {W : Nat → Nat} {n nv : Nat} {S : sx_T} {M : sm_T} {q l : Int32} (h : px_Q T S M) (lt : sx_now_law S = nI t) (ht : t < 6) (hnv : nv < 9) (n1 : sx_now_viewers S = nI nv) : ∀ (d v g g' : Nat) (x y z : Int32) (S' : sx_T) (M' : sm_T), v + d = nv → d < g → d < g' → px_run T t W n M S S' → pm_run W n M M' → ∃ r S2 M2, fx_X11_tenant_49 g q l x y z (nI v) S' = some (r, S2) ∧ fx_X12_tenant_51 g' q l x y z (nI v) M' = some (r, M2) ∧ px_f px_es px_ea S S2 ∧ pm_f pm_es pm_ea M M2 := by
  have n2 := h.1.1.2
  intro d
  induction d with
  | zero =>
    intro v g g' x y z S' M' h1 h2 h3 r m
    obtain ⟨f, rfl⟩ : ∃ f, g = f + 1 := ⟨g - 1, by omega⟩
    obtain ⟨f', rfl⟩ : ∃ f, g' = f + 1 := ⟨g' - 1, by omega⟩
    have e1 : sx_now_viewers S' = nI nv := (r.1.1 2 (by decide)).trans n1
    have e2 : sm_viewers M' = nI nv := (m.1.1 0 (by decide)).trans (n2.trans n1)
    refine ⟨x, S', M', ?_, ?_, r.1, m.1⟩
    · rw [fx_X11_tenant_49]; simp (disch := omega) only [pz_l, pz_ltT, pz_ltF, pz_leT, pz_leF, pz_eqT, pz_eqF, pz_nF, pz_nqF, pz_cl, pz_rd, pz_up, pz_bd, pz_let, pk_mul, nI_add, pz_sub, pz_div, pz_m, pz_neg1, eq_self, or_self, false_or, or_false, true_or, or_true, ↓reduceIte, if_true, if_false, e1]
    · rw [fx_X12_tenant_51]; simp (disch := omega) only [pz_l, pz_ltT, pz_ltF, pz_leT, pz_leF, pz_eqT, pz_eqF, pz_nF, pz_nqF, pz_cl, pz_rd, pz_up, pz_bd, pz_let, pk_mul, nI_add, pz_sub, pz_div, pz_m, pz_neg1, eq_self, or_self, false_or, or_false, true_or, or_true, ↓reduceIte, if_true, if_false, e2]
  | succ d ih =>
    intro v g g' x y z S' M' h1 h2 h3 r m
    obtain ⟨f, rfl⟩ : ∃ f, g = f + 1 := ⟨g - 1, by omega⟩
    obtain ⟨f', rfl⟩ : ∃ f, g' = f + 1 := ⟨g' - 1, by omega⟩
    have v8 : v < 8 := by omega
    have e1 : sx_now_viewers S' = nI nv := (r.1.1 2 (by decide)).trans n1
    have e2 : sm_viewers M' = nI nv := (m.1.1 0 (by decide)).trans (n2.trans n1)
    obtain ⟨S2, M2, x1, y1, r2, fl, m2, y2⟩ := pq_one_offer (v := v) (cr := 1) h lt ht v8 (by decide) r m
    have q1 : sx_now_quiet S' = sx_now_quiet S := r.1.2 3 (by decide)
    have q1' : sx_now_quiet (pt_lc v 1 S') = sx_now_quiet S' := (px_lcf v 1 S').2 3 (by decide)
    have q1'' : sx_now_quiet S2 = sx_now_quiet S := r2.1.2 3 (by decide)
    have q2 : sm_ones M2 (2 * v + 1) = sx_now_quiet S v := by
      have : sm_ones M2 = sm_ones M := m2.1.2 2 (by decide)
      rw [this]; exact (h.2.2.2.1 v v8).2
    rw [fx_X11_tenant_49, fx_X12_tenant_51]
    have step : ∀ x' y' z', ∃ r S3 M3, fx_X11_tenant_49 f q l x' y' z' (nI (v + 1)) S2 = some (r, S3) ∧ fx_X12_tenant_51 f' q l x' y' z' (nI (v + 1)) M2 = some (r, M3) ∧ px_f px_es px_ea S S3 ∧ pm_f pm_es pm_ea M M3 := fun x' y' z' => ih (v + 1) f f' x' y' z' S2 M2 (by omega) (by omega) (by omega) r2 m2
    generalize hof : pv_of (pv_cur T t S v 1) W n = o at x1 y1
    generalize hqu : sx_now_quiet S v = qu at q2
    have qv : ∀ X : sx_T, sx_now_quiet X = sx_now_quiet S → am_rd 8 (sx_now_quiet X) (nI v) = qu := by
      intro X hX
      rw [pz_rd v8 (by decide), hX, hqu]
    have qa := qv S' q1
    have qb := qv S2 q1''
    have qc := qv (pt_lc v 1 S') (q1'.trans q1)
    have lc := pf_lc v8 (show 1 < 9 by decide) S'
    by_cases c1 : qu < q
    · obtain ⟨r, S3, M3, a1, a2, a3, a4⟩ := step x y z
      refine ⟨r, S3, M3, ?_, ?_, a3, a4⟩
      · simp (disch := omega) only [pz_l, pz_ltT, pz_ltF, pz_leT, pz_leF, pz_eqT, pz_eqF, pz_nF, pz_nqF, pz_cl, pz_rd, pz_up, pz_bd, pz_let, pk_mul, nI_add, pz_sub, pz_div, pz_m, pz_neg1, eq_self, or_self, false_or, or_false, true_or, or_true, ↓reduceIte, if_true, if_false, e1, lc, x1, qa, qb, qc, c1]; exact a1
      · simp (disch := omega) only [pz_l, pz_ltT, pz_ltF, pz_leT, pz_leF, pz_eqT, pz_eqF, pz_nF, pz_nqF, pz_cl, pz_rd, pz_up, pz_bd, pz_let, pk_mul, nI_add, pz_sub, pz_div, pz_m, pz_neg1, eq_self, or_self, false_or, or_false, true_or, or_true, ↓reduceIte, if_true, if_false, e2, y1, q2, c1, fx_X12_tenant_98, fx_X12_tenant_99, fx_X12_tenant_137, fx_X12_tenant_138, fx_X12_tenant_152]; exact a2
    by_cases c2 : o < l
    · have c2' : ¬ l ≤ o := Int32.not_le.mpr c2
      obtain ⟨r, S3, M3, a1, a2, a3, a4⟩ := step x y z
      refine ⟨r, S3, M3, ?_, ?_, a3, a4⟩
      · simp (disch := omega) only [pz_l, pz_ltT, pz_ltF, pz_leT, pz_leF, pz_eqT, pz_eqF, pz_nF, pz_nqF, pz_cl, pz_rd, pz_up, pz_bd, pz_let, pk_mul, nI_add, pz_sub, pz_div, pz_m, pz_neg1, eq_self, or_self, false_or, or_false, true_or, or_true, ↓reduceIte, if_true, if_false, e1, lc, x1, qa, qb, qc, c1, c2']; exact a1
      · simp (disch := omega) only [pz_l, pz_ltT, pz_ltF, pz_leT, pz_leF, pz_eqT, pz_eqF, pz_nF, pz_nqF, pz_cl, pz_rd, pz_up, pz_bd, pz_let, pk_mul, nI_add, pz_sub, pz_div, pz_m, pz_neg1, eq_self, or_self, false_or, or_false, true_or, or_true, ↓reduceIte, if_true, if_false, e2, y1, q2, c1, c2, fx_X12_tenant_98, fx_X12_tenant_99, fx_X12_tenant_137, fx_X12_tenant_138, fx_X12_tenant_152]; exact a2
    have c2' : l ≤ o := Int32.not_lt.mp c2
    by_cases c3 : x = -(nI 1)
    · obtain ⟨r, S3, M3, a1, a2, a3, a4⟩ := step (nI v) o qu
      refine ⟨r, S3, M3, ?_, ?_, a3, a4⟩
      · simp (disch := omega) only [pz_l, pz_ltT, pz_ltF, pz_leT, pz_leF, pz_eqT, pz_eqF, pz_nF, pz_nqF, pz_cl, pz_rd, pz_up, pz_bd, pz_let, pk_mul, nI_add, pz_sub, pz_div, pz_m, pz_neg1, eq_self, or_self, false_or, or_false, true_or, or_true, ↓reduceIte, if_true, if_false, e1, lc, x1, qa, qb, qc, c1, c2', c3]; exact a1
      · simp (disch := omega) only [pz_l, pz_ltT, pz_ltF, pz_leT, pz_leF, pz_eqT, pz_eqF, pz_nF, pz_nqF, pz_cl, pz_rd, pz_up, pz_bd, pz_let, pk_mul, nI_add, pz_sub, pz_div, pz_m, pz_neg1, eq_self, or_self, false_or, or_false, true_or, or_true, ↓reduceIte, if_true, if_false, e2, y1, q2, c1, c2, c3, fx_X12_tenant_98, fx_X12_tenant_99, fx_X12_tenant_133, fx_X12_tenant_137, fx_X12_tenant_138, fx_X12_tenant_152]; exact a2
    by_cases c4 : y < o
    · obtain ⟨r, S3, M3, a1, a2, a3, a4⟩ := step (nI v) o qu
      refine ⟨r, S3, M3, ?_, ?_, a3, a4⟩
      · simp (disch := omega) only [pz_l, pz_ltT, pz_ltF, pz_leT, pz_leF, pz_eqT, pz_eqF, pz_nF, pz_nqF, pz_cl, pz_rd, pz_up, pz_bd, pz_let, pk_mul, nI_add, pz_sub, pz_div, pz_m, pz_neg1, eq_self, or_self, false_or, or_false, true_or, or_true, ↓reduceIte, if_true, if_false, e1, lc, x1, qa, qb, qc, c1, c2', c3, c4]; exact a1
      · simp (disch := omega) only [pz_l, pz_ltT, pz_ltF, pz_leT, pz_leF, pz_eqT, pz_eqF, pz_nF, pz_nqF, pz_cl, pz_rd, pz_up, pz_bd, pz_let, pk_mul, nI_add, pz_sub, pz_div, pz_m, pz_neg1, eq_self, or_self, false_or, or_false, true_or, or_true, ↓reduceIte, if_true, if_false, e2, y1, q2, c1, c2, c3, c4, fx_X12_tenant_98, fx_X12_tenant_99, fx_X12_tenant_133, fx_X12_tenant_137, fx_X12_tenant_138, fx_X12_tenant_152]; exact a2
    by_cases c5 : o = y
    · by_cases c6 : qu ≤ z
      · obtain ⟨r, S3, M3, a1, a2, a3, a4⟩ := step x y z
        refine ⟨r, S3, M3, ?_, ?_, a3, a4⟩
        · simp (disch := omega) only [pz_l, e1, lc, x1, qa, qb, qc, c1, c2', c3, c4, c6, pz_let, pz_bd, pz_leF, nI_add, ↓reduceIte]
          rw [if_pos c5]; exact a1
        · simp (disch := omega) only [pz_l, e2, y1, q2, c1, c2, c3, c4, c6, fx_X12_tenant_98, fx_X12_tenant_99, fx_X12_tenant_133, fx_X12_tenant_137, fx_X12_tenant_138, fx_X12_tenant_152, pz_bd, pz_leF, nI_add, pk_mul, pz_ltF, pz_nF, pz_cl, or_self, pz_eqF, pz_eqT, ↓reduceIte]
          rw [if_pos c5]; exact a2
      · obtain ⟨r, S3, M3, a1, a2, a3, a4⟩ := step (nI v) o qu
        refine ⟨r, S3, M3, ?_, ?_, a3, a4⟩
        · simp (disch := omega) only [pz_l, e1, lc, x1, qa, qb, qc, c1, c2', c3, c4, c6, pz_let, pz_bd, pz_leF, nI_add, ↓reduceIte]
          rw [if_pos c5]; exact a1
        · simp (disch := omega) only [pz_l, e2, y1, q2, c1, c2, c3, c4, c6, fx_X12_tenant_98, fx_X12_tenant_99, fx_X12_tenant_133, fx_X12_tenant_137, fx_X12_tenant_138, fx_X12_tenant_152, pz_bd, pz_leF, nI_add, pk_mul, pz_ltF, pz_nF, pz_cl, or_self, pz_eqF, pz_eqT, ↓reduceIte]
          rw [if_pos c5]; exact a2
    · obtain ⟨r, S3, M3, a1, a2, a3, a4⟩ := step x y z
      refine ⟨r, S3, M3, ?_, ?_, a3, a4⟩
      · simp (disch := omega) only [pz_l, pz_ltT, pz_ltF, pz_leT, pz_leF, pz_eqT, pz_eqF, pz_nF, pz_nqF, pz_cl, pz_rd, pz_up, pz_bd, pz_let, pk_mul, nI_add, pz_sub, pz_div, pz_m, pz_neg1, eq_self, or_self, false_or, or_false, true_or, or_true, ↓reduceIte, if_true, if_false, e1, lc, x1, qa, qb, qc, c1, c2', c3, c4, c5]; exact a1
      · simp (disch := omega) only [pz_l, pz_ltT, pz_ltF, pz_leT, pz_leF, pz_eqT, pz_eqF, pz_nF, pz_nqF, pz_cl, pz_rd, pz_up, pz_bd, pz_let, pk_mul, nI_add, pz_sub, pz_div, pz_m, pz_neg1, eq_self, or_self, false_or, or_false, true_or, or_true, ↓reduceIte, if_true, if_false, e2, y1, q2, c1, c2, c3, c4, c5, fx_X12_tenant_98, fx_X12_tenant_99, fx_X12_tenant_133, fx_X12_tenant_137, fx_X12_tenant_138, fx_X12_tenant_152]; exact a2
theorem pq_tenant : lq_tenant px_R := by
  rintro S M ⟨T, h⟩ a1 a2 a3
  obtain ⟨⟨⟨nv, hnv, n1⟩, n2⟩, -⟩ := id h.1
  rcases pq_start h a1 with ⟨M1, e, he, e1, e2, f2⟩ | ⟨s, W, n, t, S1, M1, rfl, hs, e1, e2, f1, f2', ⟨ht, lt⟩, hA, hL, ⟨wl, wy⟩, hW, -, -⟩
  · refine ⟨e, S, M1, ?_, ?_, T, px_Qf h px_fr f2⟩
    · rcases he with rfl | ⟨rfl, -⟩
      · simp (disch := omega) only [pz_l, pz_ltT, pz_ltF, pz_leT, pz_leF, pz_eqT, pz_eqF, pz_nF, pz_nqF, pz_cl, pz_rd, pz_up, pz_bd, pz_let, pk_mul, nI_add, pz_sub, pz_div, pz_m, pz_neg1, eq_self, or_self, false_or, or_false, true_or, or_true, ↓reduceIte, if_true, if_false, lx_tenant, fx_X11_tenant, e1, pz_20, pz_110]
      · simp (disch := omega) only [pz_l, pz_ltT, pz_ltF, pz_leT, pz_leF, pz_eqT, pz_eqF, pz_nF, pz_nqF, pz_cl, pz_rd, pz_up, pz_bd, pz_let, pk_mul, nI_add, pz_sub, pz_div, pz_m, pz_neg1, eq_self, or_self, false_or, or_false, true_or, or_true, ↓reduceIte, if_true, if_false, lx_tenant, fx_X11_tenant, e1, pz_20, pz_110]
    · rcases he with rfl | ⟨rfl, -⟩
      · simp (disch := omega) only [pz_l, pz_ltT, pz_ltF, pz_leT, pz_leF, pz_eqT, pz_eqF, pz_nF, pz_nqF, pz_cl, pz_rd, pz_up, pz_bd, pz_let, pk_mul, nI_add, pz_sub, pz_div, pz_m, pz_neg1, eq_self, or_self, false_or, or_false, true_or, or_true, ↓reduceIte, if_true, if_false, lm_tenant, fx_X12_tenant, e2, pz_20, pz_110]
      · simp (disch := omega) only [pz_l, pz_ltT, pz_ltF, pz_leT, pz_leF, pz_eqT, pz_eqF, pz_nF, pz_nqF, pz_cl, pz_rd, pz_up, pz_bd, pz_let, pk_mul, nI_add, pz_sub, pz_div, pz_m, pz_neg1, eq_self, or_self, false_or, or_false, true_or, or_true, ↓reduceIte, if_true, if_false, lm_tenant, fx_X12_tenant, e2, pz_20, pz_110]
  have f2 : pm_f pm_es pm_ea M M1 := pm_fm f2' (by decide) (by decide)
  have hq1 : px_Q T S1 M1 := px_Qf h f1 f2
  rcases pn_w a2 100 99 rfl (by decide) with ⟨q1, q2⟩ | ⟨q, hq, rfl, q1, q2⟩
  · refine ⟨-7, S1, M1, ?_, ?_, T, hq1⟩
    · simp (disch := omega) only [pz_l, pz_ltT, pz_ltF, pz_leT, pz_leF, pz_eqT, pz_eqF, pz_nF, pz_nqF, pz_cl, pz_rd, pz_up, pz_bd, pz_let, pk_mul, nI_add, pz_sub, pz_div, pz_m, pz_neg1, eq_self, or_self, false_or, or_false, true_or, or_true, ↓reduceIte, if_true, if_false, lx_tenant, fx_X11_tenant, e1, q1]
    · simp (disch := omega) only [pz_l, pz_ltT, pz_ltF, pz_leT, pz_leF, pz_eqT, pz_eqF, pz_nF, pz_nqF, pz_cl, pz_rd, pz_up, pz_bd, pz_let, pk_mul, nI_add, pz_sub, pz_div, pz_m, pz_neg1, eq_self, or_self, false_or, or_false, true_or, or_true, ↓reduceIte, if_true, if_false, lm_tenant, fx_X12_tenant, e2, q2]
  rcases pn_w a3 10000 9999 rfl (by decide) with ⟨k1, k2⟩ | ⟨l, hl, rfl, k1, k2⟩
  · refine ⟨-7, S1, M1, ?_, ?_, T, hq1⟩
    · simp (disch := omega) only [pz_l, pz_ltT, pz_ltF, pz_leT, pz_leF, pz_eqT, pz_eqF, pz_nF, pz_nqF, pz_cl, pz_rd, pz_up, pz_bd, pz_let, pk_mul, nI_add, pz_sub, pz_div, pz_m, pz_neg1, eq_self, or_self, false_or, or_false, true_or, or_true, ↓reduceIte, if_true, if_false, lx_tenant, fx_X11_tenant, e1, q1, k1]
    · simp (disch := omega) only [pz_l, pz_ltT, pz_ltF, pz_leT, pz_leF, pz_eqT, pz_eqF, pz_nF, pz_nqF, pz_cl, pz_rd, pz_up, pz_bd, pz_let, pk_mul, nI_add, pz_sub, pz_div, pz_m, pz_neg1, eq_self, or_self, false_or, or_false, true_or, or_true, ↓reduceIte, if_true, if_false, lm_tenant, fx_X12_tenant, e2, q2, k2]
  obtain ⟨r, S2, M2, x1, x2, x3, x4⟩ := pf_ten (q := nI q) (l := nI l) h lt ht hnv n1 nv 0 am_fu am_fu (-(nI 1)) (nI 0) (nI 0) S1 M1 (by omega) (by rw [pf_u]; omega) (by rw [pf_u]; omega) ⟨f1, hA, hL⟩ ⟨f2, hW⟩
  refine ⟨r, S2, M2, ?_, ?_, T, px_Qf h x3 x4⟩
  · simp (disch := omega) only [pz_l, pz_ltT, pz_ltF, pz_leT, pz_leF, pz_eqT, pz_eqF, pz_nF, pz_nqF, pz_cl, pz_rd, pz_up, pz_bd, pz_let, pk_mul, nI_add, pz_sub, pz_div, pz_m, pz_neg1, eq_self, or_self, false_or, or_false, true_or, or_true, ↓reduceIte, if_true, if_false, lx_tenant, fx_X11_tenant, e1, q1, k1]
    exact x1
  · simp (disch := omega) only [pz_l, pz_ltT, pz_ltF, pz_leT, pz_leF, pz_eqT, pz_eqF, pz_nF, pz_nqF, pz_cl, pz_rd, pz_up, pz_bd, pz_let, pk_mul, nI_add, pz_sub, pz_div, pz_m, pz_neg1, eq_self, or_self, false_or, or_false, true_or, or_true, ↓reduceIte, if_true, if_false, lm_tenant, fx_X12_tenant, e2, q2, k2]
    exact x2
