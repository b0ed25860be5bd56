/-! ===== keeps, mind, offer: the reference ===== -/
theorem pe_keeps {S : sx_T} {V : pv_V} {v cr r : Nat} {M : sm_T} (h : pm_C S V v cr M) (hr : r < 6) (f l : Nat) (hf : f < 2) (hl : l < 2) : ∃ M', fx_X12_keepsOf (nI v) (nI r) (nI cr) (pv_lk V r) (nI f) (nI l) M = some (fk_keeps V.2.1 (pe_bd 1 (pe_val (pv_nr V r) (V.1 1))) (pv_lk V r) (V.2.2.1 0) (nI f) (nI l), M') ∧ pm_f [] [13, 14] M M' := by
  obtain ⟨⟨hv, e1, hcr⟩, -, ⟨k, hk, k1, k2⟩, ⟨m, hm, m1, m2⟩, -, -, -⟩ := id h
  obtain ⟨M', s1, fr⟩ := pe_asks h (p := 1) (by decide) hr
  rw [if_neg (by decide)] at s1
  refine ⟨M', ?_, fr⟩
  rw [k2, m2]
  generalize pe_bd 1 (pe_val (pv_nr V r) (V.1 1)) = s at s1
  generalize pv_lk V r = lk
  have kk : sm_kind M' = sm_kind M := fr.2 0 (by decide)
  have mm : sm_moreOf M' = sm_moreOf M := fr.2 1 (by decide)
  have hf2 : f = 0 ∨ f = 1 := by omega
  have hl2 : l = 0 ∨ l = 1 := by omega
  have hk6 : k = 0 ∨ k = 1 ∨ k = 2 ∨ k = 3 ∨ k = 4 ∨ k = 5 := by omega
  rcases hk6 with rfl | rfl | rfl | rfl | rfl | rfl
  · rw [show fk_keeps (fx_X11_kindAt (nI 0)) s lk (nI m) (nI f) (nI l) = s from rfl]
    simp (disch := omega) only [pz_l, pz_ltT, pz_ltF, pz_leT, pz_leF, pz_eqT, pz_eqF, pz_nF, pz_nqF, pz_cl, pz_rd, pz_up, pz_bd, pz_let, pk_mul, nI_add, pz_sub, pz_div, pz_m, pz_neg1, eq_self, or_self, false_or, or_false, true_or, or_true, ↓reduceIte, if_true, if_false, fx_X12_keepsOf, k1, kk, mm, m1, s1]
  · rw [show fk_keeps (fx_X11_kindAt (nI 1)) s lk (nI m) (nI f) (nI l) = fx_X1_keeps s lk (nI m) (nI f) (nI l) from rfl]
    rcases hf2 with rfl | rfl
    · simp (disch := omega) only [pz_l, pz_ltT, pz_ltF, pz_leT, pz_leF, pz_eqT, pz_eqF, pz_nF, pz_nqF, pz_cl, pz_rd, pz_up, pz_bd, pz_let, pk_mul, nI_add, pz_sub, pz_div, pz_m, pz_neg1, eq_self, or_self, false_or, or_false, true_or, or_true, ↓reduceIte, if_true, if_false, fx_X12_keepsOf, fx_X1_keeps, k1, kk, mm, m1, s1]
    · simp (disch := omega) only [pz_l, pz_ltT, pz_ltF, pz_leT, pz_leF, pz_eqT, pz_eqF, pz_nF, pz_nqF, pz_cl, pz_rd, pz_up, pz_bd, pz_let, pk_mul, nI_add, pz_sub, pz_div, pz_m, pz_neg1, eq_self, or_self, false_or, or_false, true_or, or_true, ↓reduceIte, if_true, if_false, fx_X12_keepsOf, fx_X1_keeps, k1, kk, mm, m1, s1]
  · rw [show fk_keeps (fx_X11_kindAt (nI 2)) s lk (nI m) (nI f) (nI l) = fx_X7_keeps s lk (nI m) (nI f) (nI l) from rfl]
    rcases hl2 with rfl | rfl
    · simp (disch := omega) only [pz_l, pz_ltT, pz_ltF, pz_leT, pz_leF, pz_eqT, pz_eqF, pz_nF, pz_nqF, pz_cl, pz_rd, pz_up, pz_bd, pz_let, pk_mul, nI_add, pz_sub, pz_div, pz_m, pz_neg1, eq_self, or_self, false_or, or_false, true_or, or_true, ↓reduceIte, if_true, if_false, fx_X12_keepsOf, fx_X7_keeps, k1, kk, mm, m1, s1]
    · simp (disch := omega) only [pz_l, pz_ltT, pz_ltF, pz_leT, pz_leF, pz_eqT, pz_eqF, pz_nF, pz_nqF, pz_cl, pz_rd, pz_up, pz_bd, pz_let, pk_mul, nI_add, pz_sub, pz_div, pz_m, pz_neg1, eq_self, or_self, false_or, or_false, true_or, or_true, ↓reduceIte, if_true, if_false, fx_X12_keepsOf, fx_X7_keeps, k1, kk, mm, m1, s1]
  · rw [show fk_keeps (fx_X11_kindAt (nI 3)) s lk (nI m) (nI f) (nI l) = fx_X1_keeps s lk (nI m) (nI f) (nI l) from rfl]
    rcases hf2 with rfl | rfl
    · simp (disch := omega) only [pz_l, pz_ltT, pz_ltF, pz_leT, pz_leF, pz_eqT, pz_eqF, pz_nF, pz_nqF, pz_cl, pz_rd, pz_up, pz_bd, pz_let, pk_mul, nI_add, pz_sub, pz_div, pz_m, pz_neg1, eq_self, or_self, false_or, or_false, true_or, or_true, ↓reduceIte, if_true, if_false, fx_X12_keepsOf, fx_X1_keeps, k1, kk, mm, m1, s1]
    · simp (disch := omega) only [pz_l, pz_ltT, pz_ltF, pz_leT, pz_leF, pz_eqT, pz_eqF, pz_nF, pz_nqF, pz_cl, pz_rd, pz_up, pz_bd, pz_let, pk_mul, nI_add, pz_sub, pz_div, pz_m, pz_neg1, eq_self, or_self, false_or, or_false, true_or, or_true, ↓reduceIte, if_true, if_false, fx_X12_keepsOf, fx_X1_keeps, k1, kk, mm, m1, s1]
  · rw [show fk_keeps (fx_X11_kindAt (nI 4)) s lk (nI m) (nI f) (nI l) = fx_X3_keeps s lk (nI m) (nI f) (nI l) from rfl]
    by_cases z : nI 0 ≤ lk
    · rcases hl2 with rfl | rfl
      · simp (disch := omega) only [pz_l, pz_ltT, pz_ltF, pz_leT, pz_leF, pz_eqT, pz_eqF, pz_nF, pz_nqF, pz_cl, pz_rd, pz_up, pz_bd, pz_let, pk_mul, nI_add, pz_sub, pz_div, pz_m, pz_neg1, eq_self, or_self, false_or, or_false, true_or, or_true, ↓reduceIte, if_true, if_false, fx_X12_keepsOf, fx_X3_keeps, fx_X7_keeps, k1, kk, mm, m1, s1, z]
      · simp (disch := omega) only [pz_l, pz_ltT, pz_ltF, pz_leT, pz_leF, pz_eqT, pz_eqF, pz_nF, pz_nqF, pz_cl, pz_rd, pz_up, pz_bd, pz_let, pk_mul, nI_add, pz_sub, pz_div, pz_m, pz_neg1, eq_self, or_self, false_or, or_false, true_or, or_true, ↓reduceIte, if_true, if_false, fx_X12_keepsOf, fx_X3_keeps, fx_X7_keeps, k1, kk, mm, m1, s1, z]
    · simp (disch := omega) only [pz_l, pz_ltT, pz_ltF, pz_leT, pz_leF, pz_eqT, pz_eqF, pz_nF, pz_nqF, pz_cl, pz_rd, pz_up, pz_bd, pz_let, pk_mul, nI_add, pz_sub, pz_div, pz_m, pz_neg1, eq_self, or_self, false_or, or_false, true_or, or_true, ↓reduceIte, if_true, if_false, fx_X12_keepsOf, fx_X3_keeps, fx_X7_keeps, k1, kk, mm, m1, s1, z]
  · rw [show fk_keeps (fx_X11_kindAt (nI 5)) s lk (nI m) (nI f) (nI l) = s from rfl]
    simp (disch := omega) only [pz_l, pz_ltT, pz_ltF, pz_leT, pz_leF, pz_eqT, pz_eqF, pz_nF, pz_nqF, pz_cl, pz_rd, pz_up, pz_bd, pz_let, pk_mul, nI_add, pz_sub, pz_div, pz_m, pz_neg1, eq_self, or_self, false_or, or_false, true_or, or_true, ↓reduceIte, if_true, if_false, fx_X12_keepsOf, k1, kk, mm, m1, s1]
theorem pe_mind1 {S : sx_T} {V : pv_V} {v cr : Nat} {W : Nat → Nat} {n i g : Nat} {M : sm_T} {x : Int32} (h : pm_C S V v cr M) (w : pm_W W n M) (hi : i < n) : ∃ M', fx_X12_mindOf_5 (g + 1) (nI v) (nI cr) x (nI i) M = fx_X12_mindOf_5 g (nI v) (nI cr) (x + pv_kp V (W i) (nI (if i = 0 then 1 else 0)) (nI (if i + 1 = n then 1 else 0))) (nI (i + 1)) M' ∧ pm_f [] [13, 14] M M' := by
  obtain ⟨w1, w2, w3⟩ := id w
  obtain ⟨w4, w5⟩ := w3 i hi
  obtain ⟨M1, s1, f1⟩ := pe_likes h w4
  have h1 := pm_Cf h (pm_fe f1)
  have w1' := pm_Wf w f1
  obtain ⟨M2, s2, f2⟩ := pe_keeps h1 w4 (if i = 0 then 1 else 0) (if i + 1 = n then 1 else 0) (by split <;> omega) (by split <;> omega)
  refine ⟨M2, ?_, pm_ft f1 f2⟩
  have w5' : sm_row M1 i = nI (W i) := (w1'.2.2 i hi).2
  have r0 : sm_rooms0 M1 = nI n := w1'.1
  rw [fx_X12_mindOf_5]
  have e : i = n - 1 ∨ i ≠ n - 1 := by omega
  unfold pv_kp
  by_cases i0 : i = 0
  · subst i0
    by_cases l0 : 0 + 1 = n
    · subst l0
      rw [if_pos rfl, if_pos rfl] at s2 ⊢
      simp (disch := omega) only [pz_l, pz_ltT, pz_ltF, pz_leT, pz_leF, pz_eqT, pz_eqF, pz_nF, pz_nqF, pz_cl, pz_rd, pz_up, pz_bd, pz_let, pk_mul, nI_add, pz_sub, pz_div, pz_m, pz_neg1, eq_self, or_self, false_or, or_false, true_or, or_true, ↓reduceIte, if_true, if_false, fx_X12_mindOf_54, w1, w5, s1, w5', r0, s2]
    · rw [if_pos rfl, if_neg l0] at s2 ⊢
      simp (disch := omega) only [pz_l, pz_ltT, pz_ltF, pz_leT, pz_leF, pz_eqT, pz_eqF, pz_nF, pz_nqF, pz_cl, pz_rd, pz_up, pz_bd, pz_let, pk_mul, nI_add, pz_sub, pz_div, pz_m, pz_neg1, eq_self, or_self, false_or, or_false, true_or, or_true, ↓reduceIte, if_true, if_false, fx_X12_mindOf_54, w1, w5, s1, w5', r0, s2]
  · by_cases l0 : i + 1 = n
    · subst l0
      rw [if_neg i0, if_pos rfl] at s2 ⊢
      simp (disch := omega) only [pz_l, pz_ltT, pz_ltF, pz_leT, pz_leF, pz_eqT, pz_eqF, pz_nF, pz_nqF, pz_cl, pz_rd, pz_up, pz_bd, pz_let, pk_mul, nI_add, pz_sub, pz_div, pz_m, pz_neg1, eq_self, or_self, false_or, or_false, true_or, or_true, ↓reduceIte, if_true, if_false, fx_X12_mindOf_54, w1, w5, s1, w5', r0, s2]
    · rw [if_neg i0, if_neg l0] at s2 ⊢
      simp (disch := omega) only [pz_l, pz_ltT, pz_ltF, pz_leT, pz_leF, pz_eqT, pz_eqF, pz_nF, pz_nqF, pz_cl, pz_rd, pz_up, pz_bd, pz_let, pk_mul, nI_add, pz_sub, pz_div, pz_m, pz_neg1, eq_self, or_self, false_or, or_false, true_or, or_true, ↓reduceIte, if_true, if_false, fx_X12_mindOf_54, w1, w5, s1, w5', r0, s2]
theorem pe_mindl {S : sx_T} {V : pv_V} {v cr : Nat} {W : Nat → Nat} {n : Nat} : ∀ (d i g : Nat) (M : sm_T), i + d = n → d < g → pm_C S V v cr M → pm_W W n M → ∃ M', fx_X12_mindOf_5 g (nI v) (nI cr) (pv_ms V W n i) (nI i) M = some (pv_mi V W n, M') ∧ pm_f [] [13, 14] M M' := by
  intro d
  induction d with
  | zero =>
    intro i g M h1 h2 h w
    obtain ⟨f, rfl⟩ : ∃ f, g = f + 1 := ⟨g - 1, by omega⟩
    have hi : i = n := by omega
    subst hi
    refine ⟨M, ?_, pm_fr⟩
    have w2 := w.2.1
    rw [fx_X12_mindOf_5]
    simp (disch := omega) only [pz_l, pz_ltT, pz_ltF, pz_leT, pz_leF, pz_eqT, pz_eqF, pz_nF, pz_nqF, pz_cl, pz_rd, pz_up, pz_bd, pz_let, pk_mul, nI_add, pz_sub, pz_div, pz_m, pz_neg1, eq_self, or_self, false_or, or_false, true_or, or_true, ↓reduceIte, if_true, if_false, w.1, pv_mi]
  | succ d ih =>
    intro i g M h1 h2 h w
    obtain ⟨f, rfl⟩ : ∃ f, g = f + 1 := ⟨g - 1, by omega⟩
    obtain ⟨M1, s1, f1⟩ := pe_mind1 (g := f) (x := pv_ms V W n i) h w (show i < n by omega)
    obtain ⟨M2, s2, f2⟩ := ih (i + 1) f M1 (by omega) (by omega) (pm_Cf h (pm_fe f1)) (pm_Wf w f1)
    exact ⟨M2, s1.trans s2, pm_ft f1 f2⟩
theorem pe_mind {S : sx_T} {V : pv_V} {v cr : Nat} {W : Nat → Nat} {n : Nat} {M : sm_T} (h : pm_C S V v cr M) (w : pm_W W n M) : ∃ M', fx_X12_mindOf (nI v) (nI cr) M = some (pv_mi V W n, M') ∧ pm_f [] [13, 14] M M' := pe_mindl n 0 am_fu M (by omega) (by rw [pf_u]; have := w.2.1; omega) h w
theorem pe_offers {S : sx_T} {V : pv_V} {v cr : Nat} {M : sm_T} (h : pm_C S V v cr M) (mi : Int32) : ∃ M', fx_X12_offersOf (nI v) (nI cr) mi M = some (fk_offers V.2.1 (pe_bd 2 (pe_val (pv_n0 V) (V.1 2))) mi (V.2.2.1 1), M') ∧ pm_f [] [13, 14] M M' := by
  obtain ⟨⟨hv, e1, hcr⟩, -, ⟨k, hk, k1, k2⟩, -⟩ := id h
  rw [k2, e1]
  have key : ∀ (s : Int32) (M' : sm_T), pm_f [] [13, 14] M M' → k ≠ 5 → fx_X12_offersOf_28 (nI v) (nI cr) mi (if mi ≤ nI 0 then nI 0 else s) M' = some (fk_offers (fx_X11_kindAt (nI k)) s mi (nI cr), M') := by
    intro s M' fr k5
    have kk : sm_kind M' = sm_kind M := fr.2 0 (by decide)
    have k1' : sm_kind M' v = nI k := by rw [kk]; exact k1
    have hk6 : k = 0 ∨ k = 1 ∨ k = 2 ∨ k = 3 ∨ k = 4 := by omega
    have e9 : fx_X9_offers s mi (nI cr) = if mi ≤ nI 0 then nI 0 else s := rfl
    generalize hw : (if mi ≤ nI 0 then nI 0 else s) = w at e9 ⊢
    rcases hk6 with rfl | rfl | rfl | rfl | rfl
    · rw [show fk_offers (fx_X11_kindAt (nI 0)) s mi (nI cr) = fx_X9_offers s mi (nI cr) from rfl, e9]
      by_cases c2 : cr ≤ 2
      · simp (disch := omega) only [pz_l, pz_ltT, pz_ltF, pz_leT, pz_leF, pz_eqT, pz_eqF, pz_nF, pz_nqF, pz_cl, pz_rd, pz_up, pz_bd, pz_let, pk_mul, nI_add, pz_sub, pz_div, pz_m, pz_neg1, eq_self, or_self, false_or, or_false, true_or, or_true, ↓reduceIte, if_true, if_false, fx_X12_offersOf_28, fx_X12_offersOf_47, k1']
      · simp (disch := omega) only [pz_l, pz_ltT, pz_ltF, pz_leT, pz_leF, pz_eqT, pz_eqF, pz_nF, pz_nqF, pz_cl, pz_rd, pz_up, pz_bd, pz_let, pk_mul, nI_add, pz_sub, pz_div, pz_m, pz_neg1, eq_self, or_self, false_or, or_false, true_or, or_true, ↓reduceIte, if_true, if_false, fx_X12_offersOf_28, fx_X12_offersOf_47, k1']
    · rw [show fk_offers (fx_X11_kindAt (nI 1)) s mi (nI cr) = fx_X9_offers s mi (nI cr) from rfl, e9]
      by_cases c2 : cr ≤ 2
      · simp (disch := omega) only [pz_l, pz_ltT, pz_ltF, pz_leT, pz_leF, pz_eqT, pz_eqF, pz_nF, pz_nqF, pz_cl, pz_rd, pz_up, pz_bd, pz_let, pk_mul, nI_add, pz_sub, pz_div, pz_m, pz_neg1, eq_self, or_self, false_or, or_false, true_or, or_true, ↓reduceIte, if_true, if_false, fx_X12_offersOf_28, fx_X12_offersOf_47, k1']
      · simp (disch := omega) only [pz_l, pz_ltT, pz_ltF, pz_leT, pz_leF, pz_eqT, pz_eqF, pz_nF, pz_nqF, pz_cl, pz_rd, pz_up, pz_bd, pz_let, pk_mul, nI_add, pz_sub, pz_div, pz_m, pz_neg1, eq_self, or_self, false_or, or_false, true_or, or_true, ↓reduceIte, if_true, if_false, fx_X12_offersOf_28, fx_X12_offersOf_47, k1']
    · rw [show fk_offers (fx_X11_kindAt (nI 2)) s mi (nI cr) = fx_X7_offers s mi (nI cr) from rfl]
      by_cases c2 : cr ≤ 2
      · simp (disch := omega) only [pz_l, pz_ltT, pz_ltF, pz_leT, pz_leF, pz_eqT, pz_eqF, pz_nF, pz_nqF, pz_cl, pz_rd, pz_up, pz_bd, pz_let, pk_mul, nI_add, pz_sub, pz_div, pz_m, pz_neg1, eq_self, or_self, false_or, or_false, true_or, or_true, ↓reduceIte, if_true, if_false, fx_X12_offersOf_28, fx_X12_offersOf_47, k1', fx_X7_offers, e9]
      · simp (disch := omega) only [pz_l, pz_ltT, pz_ltF, pz_leT, pz_leF, pz_eqT, pz_eqF, pz_nF, pz_nqF, pz_cl, pz_rd, pz_up, pz_bd, pz_let, pk_mul, nI_add, pz_sub, pz_div, pz_m, pz_neg1, eq_self, or_self, false_or, or_false, true_or, or_true, ↓reduceIte, if_true, if_false, fx_X12_offersOf_28, fx_X12_offersOf_47, k1', fx_X7_offers, e9]
    · rw [show fk_offers (fx_X11_kindAt (nI 3)) s mi (nI cr) = am_mx 0 (fx_X9_offers s mi (nI cr) + mi) from rfl, e9]
      have c3 : fx_X12_offersOf_28 (nI v) (nI cr) mi w M' = fx_X12_offersOf_47 (nI v) mi w w M' ∨ fx_X12_offersOf_28 (nI v) (nI cr) mi w M' = fx_X12_offersOf_47 (nI v) mi w (w + nI 10 * nI cr) M' := by
        by_cases c2 : cr ≤ 2
        · exact Or.inl (by simp (disch := omega) only [pz_l, pz_ltT, pz_ltF, pz_leT, pz_leF, pz_eqT, pz_eqF, pz_nF, pz_nqF, pz_cl, pz_rd, pz_up, pz_bd, pz_let, pk_mul, nI_add, pz_sub, pz_div, pz_m, pz_neg1, eq_self, or_self, false_or, or_false, true_or, or_true, ↓reduceIte, if_true, if_false, fx_X12_offersOf_28])
        · refine Or.inr ?_
          unfold fx_X12_offersOf_28
          exact if_neg (nI_ge (a := 2) (b := cr) (by omega) (by omega))
      have c4 : ∀ u, fx_X12_offersOf_47 (nI v) mi w u M' = some (am_mx 0 (w + mi), M') := by
        intro u
        unfold am_mx
        by_cases z : nI 0 ≤ w + mi
        · by_cases z2 : nI 0 < w + mi
          · simp (disch := omega) only [pz_l, pz_ltT, pz_ltF, pz_leT, pz_leF, pz_eqT, pz_eqF, pz_nF, pz_nqF, pz_cl, pz_rd, pz_up, pz_bd, pz_let, pk_mul, nI_add, pz_sub, pz_div, pz_m, pz_neg1, eq_self, or_self, false_or, or_false, true_or, or_true, ↓reduceIte, if_true, if_false, fx_X12_offersOf_47, k1', z, z2]
          · have z3 : w + mi = nI 0 := Int32.le_antisymm (Int32.not_lt.mp z2) z
            rw [z3]
            simp (disch := omega) only [pz_l, pz_ltT, pz_ltF, pz_leT, pz_leF, pz_eqT, pz_eqF, pz_nF, pz_nqF, pz_cl, pz_rd, pz_up, pz_bd, pz_let, pk_mul, nI_add, pz_sub, pz_div, pz_m, pz_neg1, eq_self, or_self, false_or, or_false, true_or, or_true, ↓reduceIte, if_true, if_false, fx_X12_offersOf_47, k1', z3]
        · have z2 : ¬ nI 0 < w + mi := fun q => z (Int32.le_of_lt q)
          simp (disch := omega) only [pz_l, pz_ltT, pz_ltF, pz_leT, pz_leF, pz_eqT, pz_eqF, pz_nF, pz_nqF, pz_cl, pz_rd, pz_up, pz_bd, pz_let, pk_mul, nI_add, pz_sub, pz_div, pz_m, pz_neg1, eq_self, or_self, false_or, or_false, true_or, or_true, ↓reduceIte, if_true, if_false, fx_X12_offersOf_47, k1', z, z2]
      rcases c3 with c3 | c3
      · rw [c3]; exact c4 _
      · rw [c3]; exact c4 _
    · rw [show fk_offers (fx_X11_kindAt (nI 4)) s mi (nI cr) = fx_X7_offers s mi (nI cr) / 2 from rfl]
      by_cases c2 : cr ≤ 2
      · simp (disch := omega) only [pz_l, pz_ltT, pz_ltF, pz_leT, pz_leF, pz_eqT, pz_eqF, pz_nF, pz_nqF, pz_cl, pz_rd, pz_up, pz_bd, pz_let, pk_mul, nI_add, pz_sub, pz_div, pz_m, pz_neg1, eq_self, or_self, false_or, or_false, true_or, or_true, ↓reduceIte, if_true, if_false, fx_X12_offersOf_28, fx_X12_offersOf_47, k1', fx_X7_offers, e9]
      · simp (disch := omega) only [pz_l, pz_ltT, pz_ltF, pz_leT, pz_leF, pz_eqT, pz_eqF, pz_nF, pz_nqF, pz_cl, pz_rd, pz_up, pz_bd, pz_let, pk_mul, nI_add, pz_sub, pz_div, pz_m, pz_neg1, eq_self, or_self, false_or, or_false, true_or, or_true, ↓reduceIte, if_true, if_false, fx_X12_offersOf_28, fx_X12_offersOf_47, k1', fx_X7_offers, e9]
  by_cases k5 : k = 5
  · subst k5
    refine ⟨M, ?_, pm_fr⟩
    rw [show fk_offers (fx_X11_kindAt (nI 5)) (pe_bd 2 (pe_val (pv_n0 V) (V.1 2))) mi (nI cr) = nI 0 from rfl]
    simp (disch := omega) only [pz_l, pz_ltT, pz_ltF, pz_leT, pz_leF, pz_eqT, pz_eqF, pz_nF, pz_nqF, pz_cl, pz_rd, pz_up, pz_bd, pz_let, pk_mul, nI_add, pz_sub, pz_div, pz_m, pz_neg1, eq_self, or_self, false_or, or_false, true_or, or_true, ↓reduceIte, if_true, if_false, fx_X12_offersOf, k1]
  by_cases c : mi ≤ nI 0
  · refine ⟨M, ?_, pm_fr⟩
    have := key (pe_bd 2 (pe_val (pv_n0 V) (V.1 2))) M pm_fr k5
    rw [if_pos c] at this
    refine Eq.trans ?_ this
    simp (disch := omega) only [pz_l, pz_ltT, pz_ltF, pz_leT, pz_leF, pz_eqT, pz_eqF, pz_nF, pz_nqF, pz_cl, pz_rd, pz_up, pz_bd, pz_let, pk_mul, nI_add, pz_sub, pz_div, pz_m, pz_neg1, eq_self, or_self, false_or, or_false, true_or, or_true, ↓reduceIte, if_true, if_false, fx_X12_offersOf, k1, c]
  · obtain ⟨M', s1, fr⟩ := pe_asks h (p := 2) (r := 0) (by decide) (by decide)
    rw [if_pos rfl] at s1
    refine ⟨M', ?_, fr⟩
    have := key (pe_bd 2 (pe_val (pv_n0 V) (V.1 2))) M' fr k5
    rw [if_neg c] at this
    refine Eq.trans ?_ this
    simp (disch := omega) only [pz_l, pz_ltT, pz_ltF, pz_leT, pz_leF, pz_eqT, pz_eqF, pz_nF, pz_nqF, pz_cl, pz_rd, pz_up, pz_bd, pz_let, pk_mul, nI_add, pz_sub, pz_div, pz_m, pz_neg1, eq_self, or_self, false_or, or_false, true_or, or_true, ↓reduceIte, if_true, if_false, fx_X12_offersOf, k1, c, s1]
theorem pe_offer {S : sx_T} {V : pv_V} {v cr : Nat} {W : Nat → Nat} {n : Nat} {M : sm_T} (h : pm_C S V v cr M) (w : pm_W W n M) : ∃ M', fx_X12_offerOf (nI v) (nI cr) M = some (pv_of V W n, M') ∧ pm_f [] [13, 14] M M' := by
  obtain ⟨M1, s1, f1⟩ := pe_mind h w
  obtain ⟨M2, s2, f2⟩ := pe_offers (pm_Cf h (pm_fe f1)) (pv_mi V W n)
  refine ⟨M2, ?_, pm_ft f1 f2⟩
  unfold fx_X12_offerOf
  rw [s1, pz_bd, s2, pz_bd]
  rfl
