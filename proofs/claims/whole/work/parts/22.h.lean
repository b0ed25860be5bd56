/-! ===== a sheet's tour, read by both ===== -/
def pb_pc (m : Int32) : Nat := (pb_it m 0).toNat + (pb_it m 1).toNat + (pb_it m 2).toNat + (pb_it m 3).toNat + (pb_it m 4).toNat + (pb_it m 5).toNat
theorem pb_pcs {m : Int32} {r : Nat} (hr : r < 6) (hb : pb_it m r = false) : pb_pc (m ||| ((1 : Int32) <<< (nI r &&& 31))) = pb_pc m + 1 := by
  unfold pb_pc
  rw [pb_set m (h := r) (k := 0) (by omega) (by omega), pb_set m (h := r) (k := 1) (by omega) (by omega), pb_set m (h := r) (k := 2) (by omega) (by omega), pb_set m (h := r) (k := 3) (by omega) (by omega), pb_set m (h := r) (k := 4) (by omega) (by omega), pb_set m (h := r) (k := 5) (by omega) (by omega)]
  have h : r = 0 ∨ r = 1 ∨ r = 2 ∨ r = 3 ∨ r = 4 ∨ r = 5 := by omega
  rcases h with rfl | rfl | rfl | rfl | rfl | rfl <;> simp [hb] <;> omega
theorem pb_pc6 {m : Int32} {r : Nat} (hr : r < 6) (h6 : pb_pc m = 6) : pb_it m r = true := by
  unfold pb_pc at h6
  have b0 := Bool.toNat_le (pb_it m 0)
  have b1 := Bool.toNat_le (pb_it m 1)
  have b2 := Bool.toNat_le (pb_it m 2)
  have b3 := Bool.toNat_le (pb_it m 3)
  have b4 := Bool.toNat_le (pb_it m 4)
  have b5 := Bool.toNat_le (pb_it m 5)
  cases e : pb_it m r with
  | true => rfl
  | false =>
    exfalso
    have h : r = 0 ∨ r = 1 ∨ r = 2 ∨ r = 3 ∨ r = 4 ∨ r = 5 := by omega
    rcases h with rfl | rfl | rfl | rfl | rfl | rfl <;> rw [e] at h6 <;> simp at h6 <;> omega
theorem pf_rd {S : sx_T} {s i : Nat} (hs : s < 4) (hi : i < 40) : fx_X5_read (nI s) (nI i) S = sx_sh_cells S (40 * s + i) := by
  have e : s * 40 + i = 40 * s + i := by omega
  simp (disch := omega) only [pz_l, pz_ltT, pz_ltF, pz_leT, pz_leF, pz_eqT, pz_eqF, pz_nF, pz_nqF, pz_cl, pz_rd, pz_up, pz_bd, pz_let, pk_mul, nI_add, pz_sub, pz_div, pz_m, pz_neg1, eq_self, or_self, false_or, or_false, true_or, or_true, ↓reduceIte, if_true, if_false, fx_X5_read, e]
theorem pf_wi {i : Nat} (hi : i < 6) : fx_X12_within (nI i) (nI 0) (nI 5) = nI i := by
  simp (disch := omega) only [pz_l, pz_ltT, pz_ltF, pz_leT, pz_leF, pz_eqT, pz_eqF, pz_nF, pz_nqF, pz_cl, pz_rd, pz_up, pz_bd, pz_let, pk_mul, nI_add, pz_sub, pz_div, pz_m, pz_neg1, eq_self, or_self, false_or, or_false, true_or, or_true, ↓reduceIte, if_true, if_false, fx_X12_within]
theorem pf_tell {S : sx_T} {s z : Nat} (hs : s < 4) (hz : z < 7) (s1 : sx_sh_sizes S s = nI z) : ∀ (d i g g' : Nat) (m : Int32) (M : sm_T), i + d = z → d < g → d < g' → sm_sheetSize M s = nI z → (∀ j, j < z → sm_cells M (40 * s + j) = sx_sh_cells S (40 * s + j)) → (fx_X5_tellsTour_4 S g (nI s) m (nI i) = some 0 ∧ ∃ M', fx_X12_reads_43 g' (nI s) m (nI i) M = some (-2, M') ∧ pm_f [13] [15] M M') ∨ (fx_X5_tellsTour_4 S g (nI s) m (nI i) = some 1 ∧ ∃ M', fx_X12_reads_43 g' (nI s) m (nI i) M = some (0, M') ∧ pm_f [13] [15] M M' ∧ sm_rooms0 M' = nI z ∧ (∀ j, j < i → sm_row M' j = sm_row M j) ∧ ∀ j, i ≤ j → j < z → ∃ r, r < 6 ∧ sx_sh_cells S (40 * s + j) = nI r ∧ sm_row M' j = nI r) := by
  intro d
  induction d with
  | zero =>
    intro i g g' m M h1 h2 h3 m1 m2
    obtain ⟨f, rfl⟩ : ∃ f, g = f + 1 := ⟨g - 1, by omega⟩
    obtain ⟨f', rfl⟩ : ∃ f, g' = f + 1 := ⟨g' - 1, by omega⟩
    have hi : i = z := by omega
    subst hi
    refine Or.inr ⟨?_, um_rooms0 M (nI i), ?_, pm_fs (j := 13) (S' := M) pm_fr (by decide), rfl, fun _ _ => rfl, fun j a b => absurd a (by omega)⟩
    · rw [fx_X5_tellsTour_4]
      simp (disch := omega) only [pz_l, pz_ltT, pz_ltF, pz_leT, pz_leF, pz_eqT, pz_eqF, pz_nF, pz_nqF, pz_cl, pz_rd, pz_up, pz_bd, pz_let, pk_mul, nI_add, pz_sub, pz_div, pz_m, pz_neg1, eq_self, or_self, false_or, or_false, true_or, or_true, ↓reduceIte, if_true, if_false, fx_X5_size, s1]
    · rw [fx_X12_reads_43]
      simp (disch := omega) only [pz_l, pz_ltT, pz_ltF, pz_leT, pz_leF, pz_eqT, pz_eqF, pz_nF, pz_nqF, pz_cl, pz_rd, pz_up, pz_bd, pz_let, pk_mul, nI_add, pz_sub, pz_div, pz_m, pz_neg1, eq_self, or_self, false_or, or_false, true_or, or_true, ↓reduceIte, if_true, if_false, m1]
  | succ d ih =>
    intro i g g' m M h1 h2 h3 m1 m2
    obtain ⟨f, rfl⟩ : ∃ f, g = f + 1 := ⟨g - 1, by omega⟩
    obtain ⟨f', rfl⟩ : ∃ f, g' = f + 1 := ⟨g' - 1, by omega⟩
    have c1 := m2 i (by omega)
    have c2 := pf_rd (S := S) hs (show i < 40 by omega)
    rw [fx_X5_tellsTour_4, fx_X12_reads_43]
    rcases pn_w (sx_sh_cells S (40 * s + i)) 6 5 rfl (by decide) with ⟨g1, g2⟩ | ⟨r, hr, er, g1, g2⟩
    · refine Or.inl ⟨?_, M, ?_, pm_fr⟩
      · simp (disch := omega) only [pz_l, pz_ltT, pz_ltF, pz_leT, pz_leF, pz_eqT, pz_eqF, pz_nF, pz_nqF, pz_cl, pz_rd, pz_up, pz_bd, pz_let, pk_mul, nI_add, pz_sub, pz_div, pz_m, pz_neg1, eq_self, or_self, false_or, or_false, true_or, or_true, ↓reduceIte, if_true, if_false, fx_X5_size, s1, c2, g1]
      · simp (disch := omega) only [pz_l, pz_ltT, pz_ltF, pz_leT, pz_leF, pz_eqT, pz_eqF, pz_nF, pz_nqF, pz_cl, pz_rd, pz_up, pz_bd, pz_let, pk_mul, nI_add, pz_sub, pz_div, pz_m, pz_neg1, eq_self, or_self, false_or, or_false, true_or, or_true, ↓reduceIte, if_true, if_false, m1, c1, fx_X12_isRoom, g2]
    · rw [er] at c1 c2 g1 g2
      rcases pb_tst m (k := r) (by omega) with ⟨b1, b2⟩ | ⟨b1, b2⟩
      · have b1' : (m >>> (nI r &&& nI 31)) &&& nI 1 = nI 0 := b1
        have fr : pm_f [13] [15] M (um_row M (upd (sm_row M) i (nI r))) := pm_fa (j := 15) (S' := M) pm_fr (by decide)
        rcases ih (i + 1) f f' (m ||| ((1 : Int32) <<< (nI r &&& 31))) (um_row M (upd (sm_row M) i (nI r))) (by omega) (by omega) (by omega) m1 m2 with ⟨x1, M', x2, x3⟩ | ⟨x1, M', x2, x3, x4, x5, x6⟩
        · refine Or.inl ⟨?_, M', ?_, pm_ft fr x3⟩
          · simp (disch := omega) only [pz_l, pz_ltT, pz_ltF, pz_leT, pz_leF, pz_eqT, pz_eqF, pz_nF, pz_nqF, pz_cl, pz_rd, pz_up, pz_bd, pz_let, pk_mul, nI_add, pz_sub, pz_div, pz_m, pz_neg1, eq_self, or_self, false_or, or_false, true_or, or_true, ↓reduceIte, if_true, if_false, fx_X5_size, s1, c2, g1, b1']
            exact x1
          · simp (disch := omega) only [pz_l, pz_ltT, pz_ltF, pz_leT, pz_leF, pz_eqT, pz_eqF, pz_nF, pz_nqF, pz_cl, pz_rd, pz_up, pz_bd, pz_let, pk_mul, nI_add, pz_sub, pz_div, pz_m, pz_neg1, eq_self, or_self, false_or, or_false, true_or, or_true, ↓reduceIte, if_true, if_false, m1, c1, fx_X12_isRoom, g2, b1', pf_wi (show i < 6 by omega)]
            exact x2
        · refine Or.inr ⟨?_, M', ?_, pm_ft fr x3, x4, fun j hj => ?_, fun j hj hj2 => ?_⟩
          · simp (disch := omega) only [pz_l, pz_ltT, pz_ltF, pz_leT, pz_leF, pz_eqT, pz_eqF, pz_nF, pz_nqF, pz_cl, pz_rd, pz_up, pz_bd, pz_let, pk_mul, nI_add, pz_sub, pz_div, pz_m, pz_neg1, eq_self, or_self, false_or, or_false, true_or, or_true, ↓reduceIte, if_true, if_false, fx_X5_size, s1, c2, g1, b1']
            exact x1
          · simp (disch := omega) only [pz_l, pz_ltT, pz_ltF, pz_leT, pz_leF, pz_eqT, pz_eqF, pz_nF, pz_nqF, pz_cl, pz_rd, pz_up, pz_bd, pz_let, pk_mul, nI_add, pz_sub, pz_div, pz_m, pz_neg1, eq_self, or_self, false_or, or_false, true_or, or_true, ↓reduceIte, if_true, if_false, m1, c1, fx_X12_isRoom, g2, b1', pf_wi (show i < 6 by omega)]
            exact x2
          · exact (x5 j (by omega)).trans (pz_un (by omega))
          · by_cases q : j = i
            · subst q
              exact ⟨r, hr, er, (x5 j (by omega)).trans pz_us⟩
            · exact x6 j (by omega) hj2
      · have b1' : (m >>> (nI r &&& nI 31)) &&& nI 1 = nI 1 := b1
        refine Or.inl ⟨?_, M, ?_, pm_fr⟩
        · simp (disch := omega) only [pz_l, pz_ltT, pz_ltF, pz_leT, pz_leF, pz_eqT, pz_eqF, pz_nF, pz_nqF, pz_cl, pz_rd, pz_up, pz_bd, pz_let, pk_mul, nI_add, pz_sub, pz_div, pz_m, pz_neg1, eq_self, or_self, false_or, or_false, true_or, or_true, ↓reduceIte, if_true, if_false, fx_X5_size, s1, c2, g1, b1']
        · simp (disch := omega) only [pz_l, pz_ltT, pz_ltF, pz_leT, pz_leF, pz_eqT, pz_eqF, pz_nF, pz_nqF, pz_cl, pz_rd, pz_up, pz_bd, pz_let, pk_mul, nI_add, pz_sub, pz_div, pz_m, pz_neg1, eq_self, or_self, false_or, or_false, true_or, or_true, ↓reduceIte, if_true, if_false, m1, c1, fx_X12_isRoom, g2, b1']
theorem pf_tell7 {S : sx_T} {s z : Nat} (hs : s < 4) (hz : 7 ≤ z) (hz2 : z < 41) (s1 : sx_sh_sizes S s = nI z) : ∀ (d i g : Nat) (m : Int32), i + d = 6 → d + 1 < g → pb_pc m = i → fx_X5_tellsTour_4 S g (nI s) m (nI i) = some 0 := by
  intro d
  induction d with
  | zero =>
    intro i g m h1 h2 h3
    obtain ⟨f, rfl⟩ : ∃ f, g = f + 1 := ⟨g - 1, by omega⟩
    have hi : i = 6 := by omega
    subst hi
    have c2 := pf_rd (S := S) hs (show 6 < 40 by omega)
    rw [fx_X5_tellsTour_4]
    rcases pn_w (sx_sh_cells S (40 * s + 6)) 6 5 rfl (by decide) with ⟨g1, g2⟩ | ⟨r, hr, er, g1, g2⟩
    · simp (disch := omega) only [pz_l, pz_ltT, pz_ltF, pz_leT, pz_leF, pz_eqT, pz_eqF, pz_nF, pz_nqF, pz_cl, pz_rd, pz_up, pz_bd, pz_let, pk_mul, nI_add, pz_sub, pz_div, pz_m, pz_neg1, eq_self, or_self, false_or, or_false, true_or, or_true, ↓reduceIte, if_true, if_false, fx_X5_size, s1, c2, g1]
    · rw [er] at c2 g1
      rcases pb_tst m (k := r) (by omega) with ⟨b1, b2⟩ | ⟨b1, b2⟩
      · rw [pb_pc6 hr h3] at b2; cases b2
      · have b1' : (m >>> (nI r &&& nI 31)) &&& nI 1 = nI 1 := b1
        simp (disch := omega) only [pz_l, pz_ltT, pz_ltF, pz_leT, pz_leF, pz_eqT, pz_eqF, pz_nF, pz_nqF, pz_cl, pz_rd, pz_up, pz_bd, pz_let, pk_mul, nI_add, pz_sub, pz_div, pz_m, pz_neg1, eq_self, or_self, false_or, or_false, true_or, or_true, ↓reduceIte, if_true, if_false, fx_X5_size, s1, c2, g1, b1']
  | succ d ih =>
    intro i g m h1 h2 h3
    obtain ⟨f, rfl⟩ : ∃ f, g = f + 1 := ⟨g - 1, by omega⟩
    have c2 := pf_rd (S := S) hs (show i < 40 by omega)
    rw [fx_X5_tellsTour_4]
    rcases pn_w (sx_sh_cells S (40 * s + i)) 6 5 rfl (by decide) with ⟨g1, g2⟩ | ⟨r, hr, er, g1, g2⟩
    · simp (disch := omega) only [pz_l, pz_ltT, pz_ltF, pz_leT, pz_leF, pz_eqT, pz_eqF, pz_nF, pz_nqF, pz_cl, pz_rd, pz_up, pz_bd, pz_let, pk_mul, nI_add, pz_sub, pz_div, pz_m, pz_neg1, eq_self, or_self, false_or, or_false, true_or, or_true, ↓reduceIte, if_true, if_false, fx_X5_size, s1, c2, g1]
    · rw [er] at c2 g1
      rcases pb_tst m (k := r) (by omega) with ⟨b1, b2⟩ | ⟨b1, b2⟩
      · have b1' : (m >>> (nI r &&& nI 31)) &&& nI 1 = nI 0 := b1
        have := ih (i + 1) f (m ||| ((1 : Int32) <<< (nI r &&& 31))) (by omega) (by omega) (by rw [pb_pcs hr b2, h3])
        simp (disch := omega) only [pz_l, pz_ltT, pz_ltF, pz_leT, pz_leF, pz_eqT, pz_eqF, pz_nF, pz_nqF, pz_cl, pz_rd, pz_up, pz_bd, pz_let, pk_mul, nI_add, pz_sub, pz_div, pz_m, pz_neg1, eq_self, or_self, false_or, or_false, true_or, or_true, ↓reduceIte, if_true, if_false, fx_X5_size, s1, c2, g1, b1']
        exact this
      · have b1' : (m >>> (nI r &&& nI 31)) &&& nI 1 = nI 1 := b1
        simp (disch := omega) only [pz_l, pz_ltT, pz_ltF, pz_leT, pz_leF, pz_eqT, pz_eqF, pz_nF, pz_nqF, pz_cl, pz_rd, pz_up, pz_bd, pz_let, pk_mul, nI_add, pz_sub, pz_div, pz_m, pz_neg1, eq_self, or_self, false_or, or_false, true_or, or_true, ↓reduceIte, if_true, if_false, fx_X5_size, s1, c2, g1, b1']
theorem px_wy (S : sx_T) (x y : Nat → Int32) : ux_way (ux_way S x) y = ux_way S y := by
  show (S.1, am_us (am_us S.2.1 26 x) 26 y, S.2.2) = (S.1, am_us S.2.1 26 y, S.2.2)
  rw [pu_uu]
theorem px_wi (S : sx_T) : ux_way S (sx_way S) = S := by
  show (S.1, am_us S.2.1 26 (S.2.1 26), S.2.2) = S
  rw [pu_id]
theorem pf_st53 {s z : Nat} (hs : s < 4) (hz : z < 7) : ∀ (d i g : Nat) (S : sx_T) (X : Nat → Int32), i + d = z → d < g → sx_wayLength S = nI z → fx_X11_startTour_53 g (nI s) (nI i) (ux_way S X) = am_bd (fx_X10_suppose_r1 (ux_way S (pu_c (fun j => sx_sh_cells S (40 * s + j)) X i z))) (fun q7 => am_bd (fx_X10_walk_r42 (sx_wayLength q7) (-1) q7) (fun q9 => some (0, q9))) := by
  intro d
  induction d with
  | zero =>
    intro i g S X h1 h2 w
    obtain ⟨f, rfl⟩ : ∃ f, g = f + 1 := ⟨g - 1, by omega⟩
    have hi : i = z := by omega
    subst hi
    rw [fx_X11_startTour_53, pu_cn, show sx_wayLength (ux_way S X) = nI i from w, if_pos (nI_le (Nat.le_refl i) (by omega))]
  | succ d ih =>
    intro i g S X h1 h2 w
    obtain ⟨f, rfl⟩ : ∃ f, g = f + 1 := ⟨g - 1, by omega⟩
    rw [fx_X11_startTour_53, show sx_wayLength (ux_way S X) = nI z from w, if_neg (nI_ge (by omega) (by omega)), pf_rd hs (by omega), pz_up (by omega) (by decide), show nI i + 1 = nI (i + 1) from (nI_succ i).symm]
    refine (congrArg (fx_X11_startTour_53 f (nI s) (nI (i + 1))) (px_wy S X _)).trans ?_
    refine (ih (i + 1) f S (upd X i (sx_sh_cells S (40 * s + i))) (by omega) (by omega) w).trans ?_
    rw [← pu_cs (f := fun j => sx_sh_cells S (40 * s + j)) (g := X) (show i < z by omega)]
/-- one of the viewers, in the flat as it is -/
def pv_cur (T : Nat → Nat → List Int32) (t : Nat) (S : sx_T) (v cr : Nat) : pv_V := (T t, fx_X11_kindAt (sx_kindOf S v), pv_sc (sx_moreOf S v) (nI cr) (sx_now_rich S v) (sx_now_hour S), sx_now_light S, sx_now_damp S)
theorem pq_mC {T : Nat → Nat → List Int32} {S : sx_T} {M : sm_T} (h : px_Q T S M) {t v cr : Nat} (ht : sx_now_law S = nI t) (ht2 : t < 6) (hv : v < 8) (hc : cr < 9) : pm_C S (pv_cur T t S v cr) v cr M := by
  obtain ⟨⟨-, n3, n4⟩, ⟨q, hq, c1, c2, ⟨⟨t', ht', l1⟩, l2⟩, i1, tx⟩, h3, h4, h5, -⟩ := h
  have : t' = t := (nI_eq (by omega) (by omega)).mp (l1.symm.trans ht)
  subst this
  obtain ⟨⟨⟨k, hk, k1⟩, k2⟩, ⟨m, hm, m1⟩, m2⟩ := h5 v hv
  refine ⟨⟨hv, rfl, hc⟩, ⟨t', ht2, l2.trans l1, tx t' ht'⟩, ⟨k, hk, k2.trans k1, ?_⟩, ⟨m, hm, m2.trans m1, m1⟩, h3, n4, (h4 v hv).1⟩
  show fx_X11_kindAt (sx_kindOf S v) = fx_X11_kindAt (nI k)
  rw [k1]
theorem pq_lcC {T : Nat → Nat → List Int32} {t : Nat} {S S' : sx_T} {M : sm_T} {W : Nat → Nat} {n : Nat} (f : px_f px_es px_ea S S') (a : px_A (T t) (sx_now_hour S) (sx_now_light S) (sx_now_damp S) M S') (l : px_L W n S') (v cr : Nat) : px_C (pv_cur T t S v cr) W n M (pt_lc v cr S') := by
  have := px_lcC (v := v) (cr := cr) a l
  have e1 : sx_kindOf S' = sx_kindOf S := f.2 8 (by decide)
  have e2 : sx_moreOf S' = sx_moreOf S := f.2 9 (by decide)
  have e3 : sx_now_rich S' = sx_now_rich S := f.2 2 (by decide)
  rw [e1, e2, e3] at this
  exact this
/-- where a tour is told -/
def px_st (T : Nat → Nat → List Int32) (s : Nat) (W : Nat → Nat) (n t : Nat) (S : sx_T) (M : sm_T) (S' : sx_T) (M' : sm_T) : Prop := px_f px_es px_ea S S' ∧ pm_f [13] [15] M M' ∧ (t < 6 ∧ sx_now_law S = nI t) ∧ px_A (T t) (sx_now_hour S) (sx_now_light S) (sx_now_damp S) M S' ∧ px_L W n S' ∧ (sx_wayLength S' = nI n ∧ ∀ i, i < n → sx_way S' i = nI (W i)) ∧ pm_W W n M' ∧ sm_sheetSize M s = nI n ∧ ∀ i, i < n → sm_cells M (40 * s + i) = nI (W i)
theorem pq_start {T : Nat → Nat → List Int32} {S : sx_T} {M : sm_T} (h : px_Q T S M) (a1 : Int32) : (∃ M' e, (e = -2 ∨ (e = -11 ∧ ∃ s, s < 4 ∧ a1 = nI s ∧ sx_sh_sorts S s = -(nI 1))) ∧ fx_X11_startTour a1 S = some (e, S) ∧ fx_X12_reads a1 M = some (e, M') ∧ pm_f pm_es pm_ea M M') ∨ (∃ s W n t S' M', a1 = nI s ∧ s < 4 ∧ fx_X11_startTour a1 S = some (0, S') ∧ fx_X12_reads a1 M = some (0, M') ∧ px_st T s W n t S M S' M') := by
  rcases pn_w a1 4 3 rfl (by decide) with ⟨g1, g2⟩ | ⟨s, hs, rfl, g1, g2⟩
  · refine Or.inl ⟨M, -2, Or.inl rfl, ?_, ?_, pm_fr⟩
    · simp (disch := omega) only [pz_l, pz_ltT, pz_ltF, pz_leT, pz_leF, pz_eqT, pz_eqF, pz_nF, pz_nqF, pz_cl, pz_rd, pz_up, pz_bd, pz_let, pk_mul, nI_add, pz_sub, pz_div, pz_m, pz_neg1, eq_self, or_self, false_or, or_false, true_or, or_true, ↓reduceIte, if_true, if_false, fx_X11_startTour, g1]
    · simp (disch := omega) only [pz_l, pz_ltT, pz_ltF, pz_leT, pz_leF, pz_eqT, pz_eqF, pz_nF, pz_nqF, pz_cl, pz_rd, pz_up, pz_bd, pz_let, pk_mul, nI_add, pz_sub, pz_div, pz_m, pz_neg1, eq_self, or_self, false_or, or_false, true_or, or_true, ↓reduceIte, if_true, if_false, fx_X12_reads, g2]
  obtain ⟨so, z, hz, s1, s2, s3⟩ := h.2.2.2.2.2.2.2 s hs
  rcases pr_mis S hs with ⟨m1, m2⟩ | ⟨m1, m2⟩
  · refine Or.inl ⟨M, -11, Or.inr ⟨rfl, s, hs, rfl, m1⟩, ?_, ?_, pm_fr⟩
    · simp (disch := omega) only [pz_l, pz_ltT, pz_ltF, pz_leT, pz_leF, pz_eqT, pz_eqF, pz_nF, pz_nqF, pz_cl, pz_rd, pz_up, pz_bd, pz_let, pk_mul, nI_add, pz_sub, pz_div, pz_m, pz_neg1, eq_self, or_self, false_or, or_false, true_or, or_true, ↓reduceIte, if_true, if_false, fx_X11_startTour, g1, m2]
    · simp (disch := omega) only [pz_l, pz_ltT, pz_ltF, pz_leT, pz_leF, pz_eqT, pz_eqF, pz_nF, pz_nqF, pz_cl, pz_rd, pz_up, pz_bd, pz_let, pk_mul, nI_add, pz_sub, pz_div, pz_m, pz_neg1, eq_self, or_self, false_or, or_false, true_or, or_true, ↓reduceIte, if_true, if_false, fx_X12_reads, g2, so, m1]
  by_cases z7 : 7 ≤ z
  · have := pf_tell7 (S := S) hs z7 hz s1 6 0 am_fu 0 (by omega) (by rw [pf_u]; omega) (by decide)
    have e : fx_X5_tellsTour (nI s) S = some (nI 0) := this
    refine Or.inl ⟨M, -2, Or.inl rfl, ?_, ?_, pm_fr⟩
    · simp (disch := omega) only [pz_l, pz_ltT, pz_ltF, pz_leT, pz_leF, pz_eqT, pz_eqF, pz_nF, pz_nqF, pz_cl, pz_rd, pz_up, pz_bd, pz_let, pk_mul, nI_add, pz_sub, pz_div, pz_m, pz_neg1, eq_self, or_self, false_or, or_false, true_or, or_true, ↓reduceIte, if_true, if_false, fx_X11_startTour, g1, m2, e]
    · simp (disch := omega) only [pz_l, pz_ltT, pz_ltF, pz_leT, pz_leF, pz_eqT, pz_eqF, pz_nF, pz_nqF, pz_cl, pz_rd, pz_up, pz_bd, pz_let, pk_mul, nI_add, pz_sub, pz_div, pz_m, pz_neg1, eq_self, or_self, false_or, or_false, true_or, or_true, ↓reduceIte, if_true, if_false, fx_X12_reads, g2, so, m1, s2]
  rcases pf_tell (S := S) hs (show z < 7 by omega) s1 z 0 am_fu am_fu 0 M (by omega) (by rw [pf_u]; omega) (by rw [pf_u]; omega) s2 s3 with ⟨x1, M', x2, x3⟩ | ⟨x1, M', x2, x3, x4, x5, x6⟩
  · have e : fx_X5_tellsTour (nI s) S = some (nI 0) := x1
    have e2 : fx_X12_reads_43 am_fu (nI s) (nI 0) (nI 0) M = some (-(nI 2), M') := x2
    refine Or.inl ⟨M', -2, Or.inl rfl, ?_, ?_, pm_fm x3 (by decide) (by decide)⟩
    · simp (disch := omega) only [pz_l, pz_ltT, pz_ltF, pz_leT, pz_leF, pz_eqT, pz_eqF, pz_nF, pz_nqF, pz_cl, pz_rd, pz_up, pz_bd, pz_let, pk_mul, nI_add, pz_sub, pz_div, pz_m, pz_neg1, eq_self, or_self, false_or, or_false, true_or, or_true, ↓reduceIte, if_true, if_false, fx_X11_startTour, g1, m2, e]
    · simp (disch := omega) only [pz_l, pz_ltT, pz_ltF, pz_leT, pz_leF, pz_eqT, pz_eqF, pz_nF, pz_nqF, pz_cl, pz_rd, pz_up, pz_bd, pz_let, pk_mul, nI_add, pz_sub, pz_div, pz_m, pz_neg1, eq_self, or_self, false_or, or_false, true_or, or_true, ↓reduceIte, if_true, if_false, fx_X12_reads, g2, so, m1, s2, e2]
  · have e : fx_X5_tellsTour (nI s) S = some (nI 1) := x1
    have e2 : fx_X12_reads_43 am_fu (nI s) (nI 0) (nI 0) M = some (nI 0, M') := x2
    have w6 : ∀ j, j < z → (sx_sh_cells S (40 * s + j)).toNatClampNeg < 6 ∧ sx_sh_cells S (40 * s + j) = nI (sx_sh_cells S (40 * s + j)).toNatClampNeg ∧ sm_row M' j = nI (sx_sh_cells S (40 * s + j)).toNatClampNeg := by
      intro j hj
      obtain ⟨r, hr, er, er2⟩ := x6 j (Nat.zero_le j) hj
      rw [er, pz_cl (by omega)]
      exact ⟨hr, rfl, er2⟩
    have hA : px_Q T (ux_way (ux_wayLength S (nI z)) (pu_c (fun j => sx_sh_cells S (40 * s + j)) (sx_way S) 0 z)) M := px_Qf h (px_fa (j := 26) (S' := ux_wayLength S (nI z)) (px_fs (j := 1) (S' := S) px_fr (by decide)) (by decide)) pm_fr
    obtain ⟨S1, t, p1, p2, p3, p4, p5⟩ := pf_supA hA
    have wl1 : sx_wayLength S1 = nI z := p2.1 1 (by decide)
    have wy1 : sx_way S1 = pu_c (fun j => sx_sh_cells S (40 * s + j)) (sx_way S) 0 z := p2.2 26 (by decide)
    obtain ⟨S2, q1, q2, q3, q4, q5⟩ := pf_wk0_r42 (W := fun j => (sx_sh_cells S (40 * s + j)).toNatClampNeg) (n := z) (by omega) S1 (fun i hi => ⟨(w6 i hi).1, by
      rw [wy1, pu_ci (Nat.zero_le i) hi]
      exact (w6 i hi).2.1⟩)
    have f1 : px_f px_es px_ea S S1 := px_ft (px_fa (j := 26) (S' := ux_wayLength S (nI z)) (px_fs (j := 1) (S' := S) px_fr (by decide)) (by decide)) (px_fm p2 (by decide) (by decide))
    have f2 : px_f px_es px_ea S S2 := px_ft f1 (px_fm q2 (by decide) (by decide))
    have st : fx_X11_startTour (nI s) S = some (0, S2) := by
      have l := pf_st53 (s := s) (z := z) hs (by omega) z 0 am_fu (ux_wayLength S (nI z)) (sx_way S) (by omega) (by rw [pf_u]; omega) rfl
      have l2 : fx_X11_startTour_53 am_fu (nI s) (nI 0) (ux_wayLength S (nI z)) = some (0, S2) := by
        refine Eq.trans ?_ (l.trans ?_)
        · exact congrArg (fx_X11_startTour_53 am_fu (nI s) (nI 0)) (px_wi (ux_wayLength S (nI z))).symm
        · refine (congrArg (fun o => am_bd o _) p1).trans ?_
          rw [pz_bd, wl1, q1, pz_bd]
      simp (disch := omega) only [pz_l, pz_ltT, pz_ltF, pz_leT, pz_leF, pz_eqT, pz_eqF, pz_nF, pz_nqF, pz_cl, pz_rd, pz_up, pz_bd, pz_let, pk_mul, nI_add, pz_sub, pz_div, pz_m, pz_neg1, eq_self, or_self, false_or, or_false, true_or, or_true, ↓reduceIte, if_true, if_false, fx_X11_startTour, g1, m2, e, fx_X5_size, s1]
      exact l2
    refine Or.inr ⟨s, fun j => (sx_sh_cells S (40 * s + j)).toNatClampNeg, z, t, S2, M', rfl, hs, st, ?_, f2, x3, ⟨p3, p4⟩, ?_, q5, ⟨?_, fun i hi => ?_⟩, ⟨x4, by omega, fun i hi => ⟨(w6 i hi).1, (w6 i hi).2.2⟩⟩, s2, fun i hi => ?_⟩
    · simp (disch := omega) only [pz_l, pz_ltT, pz_ltF, pz_leT, pz_leF, pz_eqT, pz_eqF, pz_nF, pz_nqF, pz_cl, pz_rd, pz_up, pz_bd, pz_let, pk_mul, nI_add, pz_sub, pz_div, pz_m, pz_neg1, eq_self, or_self, false_or, or_false, true_or, or_true, ↓reduceIte, if_true, if_false, fx_X12_reads, g2, so, m1, s2, e2]
    · obtain ⟨⟨tt, w1, w2, w3⟩, ⟨w4, w5, w6'⟩, w7⟩ := p5
      have n18 : sx_vi_law S2 = sx_vi_law S1 := q2.1 18 (by decide)
      have n19 : sx_vi_hour S2 = sx_vi_hour S1 := q2.1 19 (by decide)
      have n23 : sx_vi_names S2 = sx_vi_names S1 := q2.2 23 (by decide)
      have n20 : sx_vi_light S2 = sx_vi_light S1 := q2.2 20 (by decide)
      have n21 : sx_vi_damp S2 = sx_vi_damp S1 := q2.2 21 (by decide)
      have b10 : sx_tx_steps S2 = sx_tx_steps S1 := q2.2 10 (by decide)
      have b11 : sx_tx_ends S2 = sx_tx_ends S1 := q2.2 11 (by decide)
      have b12 : sx_tx_named S2 = sx_tx_named S1 := q2.2 12 (by decide)
      unfold px_A pr_tx1
      rw [n18, n19, n23, n20, n21, b10, b11, b12]
      exact ⟨⟨tt, w1, w2, w3⟩, ⟨w4, w5, w6'⟩, w7⟩
    · exact (q2.1 1 (by decide)).trans wl1
    · have e : sx_way S2 = sx_way S1 := q2.2 26 (by decide)
      rw [e, wy1, pu_ci (Nat.zero_le i) hi]
      exact (w6 i hi).2.1
    · exact (s3 i hi).trans (w6 i hi).2.1
