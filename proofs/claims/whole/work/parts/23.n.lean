/-! ===== when ===== -/
theorem px_rh {T : Nat → Nat → List Int32} {t : Nat} {hr : Int32} {W : Nat → Nat} {n k : Nat} {M : sm_T} {S S' : sx_T} (r : px_runH T t hr W n M S S') (hk : k < 12) : px_runH T t (nI k) W n M S (fx_X10_setHour (nI k) S') := by
  obtain ⟨f1, ⟨a, b, c⟩, l⟩ := r
  have fr := px_shf (nI k) S'
  rw [pf_setHour] at fr ⊢
  exact ⟨px_ft f1 fr, ⟨a, ⟨rfl, rfl, k, hk, rfl⟩, c⟩, l⟩
theorem pm_rh {hr : Int32} {W : Nat → Nat} {n : Nat} {M M' : sm_T} (r : pm_runH hr W n M M') (x : Int32) : pm_runH x W n M (um_hour M' x) := ⟨pm_fs (j := 1) (S' := M') r.1 (by decide), rfl, r.2.2⟩
theorem pf_wh {T : Nat → Nat → List Int32} {t s w : Nat} {W : Nat → Nat} {n nv : Nat} {S : sx_T} {M : sm_T} (h : px_Q T S M) (lt : sx_now_law S = nI t) (ht : t < 6) (hnv : nv < 9) (n1 : sx_now_viewers S = nI nv) (hs : s < 256) (hw : w < 2) : ∀ (d k g g' : Nat) (x y hr hr' : Int32) (S' : sx_T) (M' : sm_T), k + d = 12 → d < g → d < g' → px_runH T t hr W n M S S' → pm_runH hr' W n M M' → ∃ r S2 M2, fx_X11_when_43 g (nI s) (nI w) x y (nI k) S' = some (r, S2) ∧ fx_X12_when_50 g' (nI s) (nI w) (sm_hour M) y x (nI k) M' = some (r, M2) ∧ px_f px_es px_ea S S2 ∧ pm_f pm_es pm_ea M M2 := by
  have hw2 : w = 0 ∨ w = 1 := by omega
  have bc : fx_J6_bitCount_0f7a4 (nI s) = nI (pn_pc s) := (pn_bc s hs).1
  intro d
  induction d with
  | zero =>
    intro k g g' x y hr hr' S' M' h1 h2 h3 r m
    obtain ⟨e, rfl⟩ : ∃ e, g = e + 1 := ⟨g - 1, by omega⟩
    obtain ⟨e', rfl⟩ : ∃ e, g' = e + 1 := ⟨g' - 1, by omega⟩
    have hk : k = 12 := by omega
    subst hk
    have fr : pm_f pm_es pm_ea M (um_hour M' (sm_hour M)) := pm_rHb (pm_rh m (sm_hour M)) rfl
    rw [fx_X11_when_43, fx_X12_when_50, if_pos (show (12 : Int32) ≤ nI 12 by decide), if_pos (show (12 : Int32) ≤ nI 12 by decide)]
    rcases hw2 with rfl | rfl
    · exact ⟨y, S', _, if_pos rfl, if_pos rfl, r.1, fr⟩
    · exact ⟨x, S', _, if_neg (by decide), if_neg (by decide), r.1, fr⟩
  | succ d ih =>
    intro k g g' x y hr hr' S' M' h1 h2 h3 r m
    obtain ⟨e, rfl⟩ : ∃ e, g = e + 1 := ⟨g - 1, by omega⟩
    obtain ⟨e', rfl⟩ : ∃ e, g' = e + 1 := ⟨g' - 1, by omega⟩
    have k12 : ¬ (12 : Int32) ≤ nI k := nI_ge (b := 12) (by omega) (by decide)
    have e3 : nI k + 1 = nI (k + 1) := (nI_succ k).symm
    obtain ⟨S2, M2, p1, p2, p3, p4, p5, p6, p7, p8, p9⟩ := pf_shS (s := s) h lt ht hnv n1 hs (px_rh r (show k < 12 by omega)) (pm_rh m (nI k))
    have n1'' : sx_now_viewers S2 = nI nv := (p3.1.1 2 (by decide)).trans n1
    have hf : ∀ j, j < nv → pv_ofN T t S (pn_pc s) (nI k) W n j < 2147483648 := fun j _ => (pv_ofE T t S (pn_bc s hs).2 _ W n j).2
    have mo := pf_most hnv n1'' p6 hf
    generalize pm_v (pv_ofN T t S (pn_pc s) (nI k) W n) (pb_it (nI s)) nv = mv at mo p8
    rw [fx_X11_when_43, fx_X12_when_50, if_neg k12, if_neg k12, pz_let, bc, p1, pz_bd, mo, pz_bd, p2, pz_bd, p8, e3]
    by_cases c : nI mv ≤ x
    · rw [if_pos c, if_pos c, if_pos c]
      exact ih (k + 1) e e' x y _ _ S2 M2 (by omega) (by omega) (by omega) p3 p5
    · rw [if_neg c, if_neg c, if_neg c]
      exact ih (k + 1) e e' (nI mv) (nI k) _ _ S2 M2 (by omega) (by omega) (by omega) p3 p5
theorem pq_when : lq_when px_R := by
  rintro S M ⟨T, h⟩ a1 a2 a3
  obtain ⟨⟨⟨nv, hnv, n1⟩, n2⟩, nh, hh2⟩ := id h.1
  rcases pq_start h a1 with ⟨M1, e, he, e1, e2, f2⟩ | ⟨s', W, n, t, S1, M1, rfl, hs', e1, e2, f1, f2', ⟨ht, lt⟩, hA, hL, ⟨wl, wy⟩, hW, -, -⟩
  · refine ⟨e, S, M1, ?_, ?_, T, px_Qf h px_fr f2⟩
    · rcases he with rfl | ⟨rfl, -⟩
      · unfold lx_when fx_X11_when; rw [e1, pz_bd]; exact if_neg (show ¬ (-2 : Int32) = 0 by decide)
      · unfold lx_when fx_X11_when; rw [e1, pz_bd]; exact if_neg (show ¬ (-11 : Int32) = 0 by decide)
    · rcases he with rfl | ⟨rfl, -⟩
      · unfold lm_when fx_X12_when; rw [e2, pz_bd]; exact if_neg (show ¬ (-2 : Int32) = 0 by decide)
      · unfold lm_when fx_X12_when; rw [e2, pz_bd]; exact if_neg (show ¬ (-11 : Int32) = 0 by decide)
  have f2 : pm_f pm_es pm_ea M M1 := pm_fm f2' (by decide) (by decide)
  have n1' : sx_now_viewers S1 = nI nv := (f1.1 2 (by decide)).trans n1
  have n3' : sm_viewers M1 = nI nv := (f2.1 0 (by decide)).trans (n2.trans n1)
  have hq1 : px_Q T S1 M1 := px_Qf h f1 f2
  have z1 : ((0 : Int32), S1).1 = 0 := rfl
  have z2 : ((0 : Int32), M1).1 = 0 := rfl
  rcases pn_so2 hnv n1' n3' a2 with ⟨k1, k2⟩ | ⟨s, hs, rfl, k1, k2⟩
  · refine ⟨-7, S1, M1, ?_, ?_, T, hq1⟩
    · unfold lx_when fx_X11_when; rw [e1, pz_bd, if_pos z1]; exact if_pos k1
    · unfold lm_when fx_X12_when; rw [e2, pz_bd, if_pos z2]; exact if_pos k2
  have x1 : ¬ fx_X11_areViewers (nI s) S1 = 0 := by rw [k1]; decide
  have y1 : ¬ fx_X12_isSome (nI s) M1 = 0 := by rw [k2]; decide
  rcases pn_w a3 2 1 rfl (by decide) with ⟨q1, q2⟩ | ⟨w, hw, rfl, q1, q2⟩
  · refine ⟨-7, S1, M1, ?_, ?_, T, hq1⟩
    · unfold lx_when fx_X11_when; rw [e1, pz_bd, if_pos z1, if_neg x1]; exact if_pos q1
    · unfold lm_when fx_X12_when; rw [e2, pz_bd, if_pos z2, if_neg y1]; exact if_pos q2
  have x2 : ¬ fx_X11_within (nI w) 2 = 0 := by rw [show fx_X11_within (nI w) 2 = nI 1 from q1]; decide
  have y2 : ¬ fx_X12_in (nI w) 0 1 = 0 := by rw [show fx_X12_in (nI w) 0 1 = nI 1 from q2]; decide
  have hs2 : s < 256 := by
    have : 2 ^ nv ≤ 2 ^ 8 := Nat.pow_le_pow_right (by decide) (by omega)
    have : (2 : Nat) ^ 8 = 256 := rfl
    omega
  obtain ⟨r, S2, M2, b1, b2, b3, b4⟩ := pf_wh (s := s) (w := w) h lt ht hnv n1 hs2 hw 12 0 am_fu am_fu (nI 0) (nI 0) _ _ S1 M1 (by omega) (by rw [pf_u]; decide) (by rw [pf_u]; decide) (⟨f1, hA, hL⟩ : px_runH T t (sx_now_hour S) W n M S S1) (pm_rH0 f2' hW)
  have hr1 : sm_hour M1 = sm_hour M := f2'.1 1 (by decide)
  refine ⟨r, S2, M2, ?_, ?_, T, px_Qf h b3 b4⟩
  · unfold lx_when fx_X11_when
    rw [e1, pz_bd, if_pos z1, if_neg x1, if_neg x2]
    exact b1
  · unfold lm_when fx_X12_when
    rw [e2, pz_bd, if_pos z2, if_neg y1, if_neg y2]
    show fx_X12_when_50 am_fu (nI s) (nI w) (sm_hour M1) 0 0 0 M1 = _
    rw [hr1]
    exact b2
