/-! ===== the flat supposed, a tour walked ===== -/
theorem px_o_vi (S : sx_T) (L D L' D' : Nat → Int32) : ux_vi_damp (ux_vi_light (ux_vi_damp (ux_vi_light S L) D) L') D' = ux_vi_damp (ux_vi_light S L') D' := by
  show (S.1, am_us (am_us (am_us (am_us S.2.1 20 L) 21 D) 20 L') 21 D', S.2.2) = (S.1, am_us (am_us S.2.1 20 L') 21 D', S.2.2)
  rw [pu_o2]
theorem px_i_vi (S : sx_T) : ux_vi_damp (ux_vi_light S (sx_vi_light S)) (sx_vi_damp S) = S := by
  show (S.1, am_us (am_us S.2.1 20 (S.2.1 20)) 21 (S.2.1 21), S.2.2) = S
  rw [pu_id, pu_id]
def pt_sup (S : sx_T) (L D : Nat → Int32) : sx_T := ux_vi_known (ux_vi_law (ux_vi_names (ux_vi_hour (ux_vi_damp (ux_vi_light S L) D) (sx_now_hour S)) (upd (sx_vi_names S) 3 (sx_now_hour S))) (sx_now_law S)) 0
theorem pf_sup2 : ∀ (d k fu : Nat) (S : sx_T) (L D : Nat → Int32), k + d = 6 → d < fu → fx_X10_suppose_r1_2 fu (nI k) (ux_vi_damp (ux_vi_light S L) D) = some (pt_sup S (pu_c (sx_now_light S) L k 6) (pu_c (sx_now_damp S) D k 6)) := by
  intro d
  induction d with
  | zero =>
    intro k fu S L D h1 h2
    obtain ⟨f, rfl⟩ : ∃ f, fu = f + 1 := ⟨fu - 1, by omega⟩
    have hk : k = 6 := by omega
    subst hk
    rw [fx_X10_suppose_r1_2]
    simp (disch := omega) only [pz_l, pz_ltT, pz_ltF, pz_leT, pz_leF, pz_eqT, pz_eqF, pz_nF, pz_nqF, pz_cl, pz_rd, pz_up, pz_bd, pz_let, pk_mul, nI_add, pz_sub, pz_div, pz_m, pz_neg1, eq_self, or_self, false_or, or_false, true_or, or_true, ↓reduceIte, if_true, if_false, pu_cn, fx_X10_setHour]
    rfl
  | succ d ih =>
    intro k fu S L D h1 h2
    obtain ⟨f, rfl⟩ : ∃ f, fu = f + 1 := ⟨fu - 1, by omega⟩
    rw [fx_X10_suppose_r1_2]
    simp (disch := omega) only [pz_l, pz_ltT, pz_ltF, pz_leT, pz_leF, pz_eqT, pz_eqF, pz_nF, pz_nqF, pz_cl, pz_rd, pz_up, pz_bd, pz_let, pk_mul, nI_add, pz_sub, pz_div, pz_m, pz_neg1, eq_self, or_self, false_or, or_false, true_or, or_true, ↓reduceIte, if_true, if_false]
    refine (congrArg (fx_X10_suppose_r1_2 f (nI (k + 1))) (px_o_vi S L D _ _)).trans ?_
    refine (ih (k + 1) f S (upd L k (sx_now_light S k)) (upd D k (sx_now_damp S k)) (by omega) (by omega)).trans ?_
    rw [pu_cs (by omega), pu_cs (by omega)]
theorem pf_sup (S : sx_T) : fx_X10_suppose_r1 S = some (pt_sup S (pu_c (sx_now_light S) (sx_vi_light S) 0 6) (pu_c (sx_now_damp S) (sx_vi_damp S) 0 6)) := by
  unfold fx_X10_suppose_r1
  refine (congrArg (fx_X10_suppose_r1_2 am_fu 0) (px_i_vi S).symm).trans ?_
  exact pf_sup2 6 0 am_fu S _ _ (by omega) (by rw [pf_u]; omega)
theorem px_supf (S : sx_T) (L D : Nat → Int32) : px_f [18, 19, 20] [20, 21, 23] S (pt_sup S L D) := px_fs (j := 20) (S' := ux_vi_law (ux_vi_names (ux_vi_hour (ux_vi_damp (ux_vi_light S L) D) (sx_now_hour S)) (upd (sx_vi_names S) 3 (sx_now_hour S))) (sx_now_law S)) (px_fs (j := 18) (S' := ux_vi_names (ux_vi_hour (ux_vi_damp (ux_vi_light S L) D) (sx_now_hour S)) (upd (sx_vi_names S) 3 (sx_now_hour S))) (px_fa (j := 23) (S' := ux_vi_hour (ux_vi_damp (ux_vi_light S L) D) (sx_now_hour S)) (px_fs (j := 19) (S' := ux_vi_damp (ux_vi_light S L) D) (px_fa (j := 21) (S' := ux_vi_light S L) (px_fa (j := 20) (S' := S) px_fr (by decide)) (by decide)) (by decide)) (by decide)) (by decide)) (by decide)
/-- the flat as it is, supposed -/
theorem pf_supA {T : Nat → Nat → List Int32} {S : sx_T} {M : sm_T} (h : px_Q T S M) : ∃ S' t, fx_X10_suppose_r1 S = some S' ∧ px_f [18, 19, 20] [20, 21, 23] S S' ∧ t < 6 ∧ sx_now_law S = nI t ∧ px_A (T t) (sx_now_hour S) (sx_now_light S) (sx_now_damp S) M S' := by
  obtain ⟨⟨-, n3, n4⟩, ⟨q, hq, c1, c2, ⟨⟨t, ht, l1⟩, l2⟩, i1, tx⟩, -⟩ := h
  refine ⟨_, t, pf_sup S, px_supf S _ _, by omega, l1, ⟨t, by omega, l1, tx t ht⟩, ⟨rfl, rfl, n3⟩, fun r hr => ⟨?_, ?_⟩⟩
  · exact pu_ci (Nat.zero_le r) hr
  · exact pu_ci (Nat.zero_le r) hr
/-- the walk along a row, one place left out or none -/
def pt_wl (W : Nat → Nat) (k : Nat) : Nat → Nat := fun m => if m < k then W m else W (m + 1)
theorem pf_wk_r42 {W : Nat → Nat} {n k : Nat} {lo : Int32} (hn : n < 7) (hl : ∀ i, i < n → (nI i = lo) = (i = k)) : ∀ (d i g : Nat) (S : sx_T), i + d = n → d < g → (∀ i, i < n → W i < 6 ∧ sx_way S i = nI (W i)) → sx_vi_length S = nI (if i ≤ k then i else i - 1) → (∀ m, m < (if i ≤ k then i else i - 1) → sx_vi_walked S m = nI (pt_wl W k m)) → ∃ S', fx_X10_walk_r42_8 g (nI n) lo (nI i) S = some S' ∧ px_f [15, 20] [22] S S' ∧ sx_vi_kind S' = sx_vi_kind S ∧ sx_vi_known S' = 0 ∧ px_L (pt_wl W k) (if n ≤ k then n else n - 1) S' := by
  intro d
  induction d with
  | zero =>
    intro i g S h1 h2 hw l1 l2
    obtain ⟨f, rfl⟩ : ∃ f, g = f + 1 := ⟨g - 1, by omega⟩
    have hi : i = n := by omega
    subst hi
    refine ⟨ux_vi_known S 0, ?_, px_fs (j := 20) px_fr (by decide), rfl, rfl, l1, by split <;> omega, fun m hm => ⟨?_, l2 m hm⟩⟩
    · rw [fx_X10_walk_r42_8]
      simp (disch := omega) only [pz_l, pz_ltT, pz_ltF, pz_leT, pz_leF, pz_eqT, pz_eqF, pz_nF, pz_nqF, pz_cl, pz_rd, pz_up, pz_bd, pz_let, pk_mul, nI_add, pz_sub, pz_div, pz_m, pz_neg1, eq_self, or_self, false_or, or_false, true_or, or_true, ↓reduceIte, if_true, if_false]
    · unfold pt_wl
      by_cases c : i ≤ k
      · rw [if_pos c] at hm
        rw [if_pos (by omega)]
        exact (hw m hm).1
      · rw [if_neg c] at hm
        by_cases c2 : m < k
        · rw [if_pos c2]; exact (hw m (by omega)).1
        · rw [if_neg c2]; exact (hw (m + 1) (by omega)).1
  | succ d ih =>
    intro i g S h1 h2 hw l1 l2
    obtain ⟨f, rfl⟩ : ∃ f, g = f + 1 := ⟨g - 1, by omega⟩
    have hc := hl i (by omega)
    rw [fx_X10_walk_r42_8]
    by_cases e : i = k
    · subst e
      have hc' : (nI i = lo) = True := by rw [hc]; exact eq_true rfl
      obtain ⟨S', s1, s2, s3, s4, s5⟩ := ih (i + 1) f S (by omega) (by omega) hw (by
        rw [if_pos (Nat.le_refl i)] at l1
        rw [if_neg (by omega)]; exact l1) (by
        rw [if_pos (Nat.le_refl i)] at l2
        rw [if_neg (by omega)]; exact l2)
      refine ⟨S', ?_, s2, s3, s4, s5⟩
      simp (disch := omega) only [pz_l, pz_ltT, pz_ltF, pz_leT, pz_leF, pz_eqT, pz_eqF, pz_nF, pz_nqF, pz_cl, pz_rd, pz_up, pz_bd, pz_let, pk_mul, nI_add, pz_sub, pz_div, pz_m, pz_neg1, eq_self, or_self, false_or, or_false, true_or, or_true, ↓reduceIte, if_true, if_false, hc']
      exact s1
    · have hc' : (nI i = lo) = False := by rw [hc]; exact eq_false e
      have hwi := hw i (by omega)
      have hj : (if i ≤ k then i else i - 1) < 6 := by split <;> omega
      generalize hjj : (if i ≤ k then i else i - 1) = j at l1 l2 hj
      have hj2 : (if i + 1 ≤ k then i + 1 else i + 1 - 1) = j + 1 := by
        subst hjj
        by_cases c : i + 1 ≤ k
        · rw [if_pos c, if_pos (by omega)]
        · rw [if_neg c, if_neg (by omega)]; omega
      have hjw : nI (W i) = nI (pt_wl W k j) := by
        unfold pt_wl
        subst hjj
        by_cases c : i ≤ k
        · rw [if_pos c, if_pos (by omega)]
        · rw [if_neg c, if_neg (by omega), show i - 1 + 1 = i by omega]
      have fr : px_f [15, 20] [22] S (ux_vi_length (ux_vi_walked S (upd (sx_vi_walked S) j (nI (W i)))) (nI (j + 1))) := px_fs (j := 15) (S' := ux_vi_walked S (upd (sx_vi_walked S) j (nI (W i)))) (px_fa (j := 22) (S' := S) px_fr (by decide)) (by decide)
      obtain ⟨S', s1, s2, s3, s4, s5⟩ := ih (i + 1) f (ux_vi_length (ux_vi_walked S (upd (sx_vi_walked S) j (nI (W i)))) (nI (j + 1))) (by omega) (by omega) hw (by rw [hj2]; rfl) (by
        rw [hj2]
        intro m hm
        show upd (sx_vi_walked S) j (nI (W i)) m = _
        by_cases q : m = j
        · subst q; rw [pz_us]; exact hjw
        · rw [pz_un q]; exact l2 m (by omega))
      refine ⟨S', ?_, px_ft fr s2, s3, s4, s5⟩
      simp (disch := omega) only [pz_l, pz_ltT, pz_ltF, pz_leT, pz_leF, pz_eqT, pz_eqF, pz_nF, pz_nqF, pz_cl, pz_rd, pz_up, pz_bd, pz_let, pk_mul, nI_add, pz_sub, pz_div, pz_m, pz_neg1, eq_self, or_self, false_or, or_false, true_or, or_true, ↓reduceIte, if_true, if_false, hc', l1, hwi.2]
      exact s1
theorem pf_wk0_r42 {W : Nat → Nat} {n : Nat} (hn : n < 7) (S : sx_T) (hw : ∀ i, i < n → W i < 6 ∧ sx_way S i = nI (W i)) : ∃ S', fx_X10_walk_r42 (nI n) (-1) S = some S' ∧ px_f [15, 20] [22] S S' ∧ sx_vi_kind S' = sx_vi_kind S ∧ sx_vi_known S' = 0 ∧ px_L W n S' := by
  obtain ⟨S', s1, s2, s3, s4, s5⟩ := pf_wk_r42 (W := W) (n := n) (k := n) (lo := -1) hn (fun i hi => by
    rw [show ((-1 : Int32)) = -(nI 1) from rfl, pz_neg1 (by omega)]
    exact (eq_false (by omega)).symm) n 0 am_fu (ux_vi_length S 0) (by omega) (by rw [pf_u]; omega) hw (by rw [if_pos (Nat.zero_le n)]; rfl) (by rw [if_pos (Nat.zero_le n)]; intro m hm; exact absurd hm (Nat.not_lt_zero m))
  refine ⟨S', s1, px_ft (px_fs (j := 15) (S' := S) px_fr (by decide)) s2, s3, s4, ?_⟩
  obtain ⟨t1, t2, t3⟩ := s5
  rw [if_pos (Nat.le_refl n)] at t1 t2 t3
  refine ⟨t1, t2, fun i hi => ?_⟩
  have := t3 i hi
  unfold pt_wl at this
  rw [if_pos hi] at this
  exact this
theorem pf_wk_r41 {W : Nat → Nat} {n k : Nat} {lo : Int32} (hn : n < 7) (hl : ∀ i, i < n → (nI i = lo) = (i = k)) : ∀ (d i g : Nat) (S : sx_T), i + d = n → d < g → (∀ i, i < n → W i < 6 ∧ sx_order S i = nI (W i)) → sx_vi_length S = nI (if i ≤ k then i else i - 1) → (∀ m, m < (if i ≤ k then i else i - 1) → sx_vi_walked S m = nI (pt_wl W k m)) → ∃ S', fx_X10_walk_r41_8 g (nI n) lo (nI i) S = some S' ∧ px_f [15, 20] [22] S S' ∧ sx_vi_kind S' = sx_vi_kind S ∧ sx_vi_known S' = 0 ∧ px_L (pt_wl W k) (if n ≤ k then n else n - 1) S' := by
  intro d
  induction d with
  | zero =>
    intro i g S h1 h2 hw l1 l2
    obtain ⟨f, rfl⟩ : ∃ f, g = f + 1 := ⟨g - 1, by omega⟩
    have hi : i = n := by omega
    subst hi
    refine ⟨ux_vi_known S 0, ?_, px_fs (j := 20) px_fr (by decide), rfl, rfl, l1, by split <;> omega, fun m hm => ⟨?_, l2 m hm⟩⟩
    · rw [fx_X10_walk_r41_8]
      simp (disch := omega) only [pz_l, pz_ltT, pz_ltF, pz_leT, pz_leF, pz_eqT, pz_eqF, pz_nF, pz_nqF, pz_cl, pz_rd, pz_up, pz_bd, pz_let, pk_mul, nI_add, pz_sub, pz_div, pz_m, pz_neg1, eq_self, or_self, false_or, or_false, true_or, or_true, ↓reduceIte, if_true, if_false]
    · unfold pt_wl
      by_cases c : i ≤ k
      · rw [if_pos c] at hm
        rw [if_pos (by omega)]
        exact (hw m hm).1
      · rw [if_neg c] at hm
        by_cases c2 : m < k
        · rw [if_pos c2]; exact (hw m (by omega)).1
        · rw [if_neg c2]; exact (hw (m + 1) (by omega)).1
  | succ d ih =>
    intro i g S h1 h2 hw l1 l2
    obtain ⟨f, rfl⟩ : ∃ f, g = f + 1 := ⟨g - 1, by omega⟩
    have hc := hl i (by omega)
    rw [fx_X10_walk_r41_8]
    by_cases e : i = k
    · subst e
      have hc' : (nI i = lo) = True := by rw [hc]; exact eq_true rfl
      obtain ⟨S', s1, s2, s3, s4, s5⟩ := ih (i + 1) f S (by omega) (by omega) hw (by
        rw [if_pos (Nat.le_refl i)] at l1
        rw [if_neg (by omega)]; exact l1) (by
        rw [if_pos (Nat.le_refl i)] at l2
        rw [if_neg (by omega)]; exact l2)
      refine ⟨S', ?_, s2, s3, s4, s5⟩
      simp (disch := omega) only [pz_l, pz_ltT, pz_ltF, pz_leT, pz_leF, pz_eqT, pz_eqF, pz_nF, pz_nqF, pz_cl, pz_rd, pz_up, pz_bd, pz_let, pk_mul, nI_add, pz_sub, pz_div, pz_m, pz_neg1, eq_self, or_self, false_or, or_false, true_or, or_true, ↓reduceIte, if_true, if_false, hc']
      exact s1
    · have hc' : (nI i = lo) = False := by rw [hc]; exact eq_false e
      have hwi := hw i (by omega)
      have hj : (if i ≤ k then i else i - 1) < 6 := by split <;> omega
      generalize hjj : (if i ≤ k then i else i - 1) = j at l1 l2 hj
      have hj2 : (if i + 1 ≤ k then i + 1 else i + 1 - 1) = j + 1 := by
        subst hjj
        by_cases c : i + 1 ≤ k
        · rw [if_pos c, if_pos (by omega)]
        · rw [if_neg c, if_neg (by omega)]; omega
      have hjw : nI (W i) = nI (pt_wl W k j) := by
        unfold pt_wl
        subst hjj
        by_cases c : i ≤ k
        · rw [if_pos c, if_pos (by omega)]
        · rw [if_neg c, if_neg (by omega), show i - 1 + 1 = i by omega]
      have fr : px_f [15, 20] [22] S (ux_vi_length (ux_vi_walked S (upd (sx_vi_walked S) j (nI (W i)))) (nI (j + 1))) := px_fs (j := 15) (S' := ux_vi_walked S (upd (sx_vi_walked S) j (nI (W i)))) (px_fa (j := 22) (S' := S) px_fr (by decide)) (by decide)
      obtain ⟨S', s1, s2, s3, s4, s5⟩ := ih (i + 1) f (ux_vi_length (ux_vi_walked S (upd (sx_vi_walked S) j (nI (W i)))) (nI (j + 1))) (by omega) (by omega) hw (by rw [hj2]; rfl) (by
        rw [hj2]
        intro m hm
        show upd (sx_vi_walked S) j (nI (W i)) m = _
        by_cases q : m = j
        · subst q; rw [pz_us]; exact hjw
        · rw [pz_un q]; exact l2 m (by omega))
      refine ⟨S', ?_, px_ft fr s2, s3, s4, s5⟩
      simp (disch := omega) only [pz_l, pz_ltT, pz_ltF, pz_leT, pz_leF, pz_eqT, pz_eqF, pz_nF, pz_nqF, pz_cl, pz_rd, pz_up, pz_bd, pz_let, pk_mul, nI_add, pz_sub, pz_div, pz_m, pz_neg1, eq_self, or_self, false_or, or_false, true_or, or_true, ↓reduceIte, if_true, if_false, hc', l1, hwi.2]
      exact s1
theorem pf_wk0_r41 {W : Nat → Nat} {n : Nat} (hn : n < 7) (S : sx_T) (hw : ∀ i, i < n → W i < 6 ∧ sx_order S i = nI (W i)) : ∃ S', fx_X10_walk_r41 (nI n) (-1) S = some S' ∧ px_f [15, 20] [22] S S' ∧ sx_vi_kind S' = sx_vi_kind S ∧ sx_vi_known S' = 0 ∧ px_L W n S' := by
  obtain ⟨S', s1, s2, s3, s4, s5⟩ := pf_wk_r41 (W := W) (n := n) (k := n) (lo := -1) hn (fun i hi => by
    rw [show ((-1 : Int32)) = -(nI 1) from rfl, pz_neg1 (by omega)]
    exact (eq_false (by omega)).symm) n 0 am_fu (ux_vi_length S 0) (by omega) (by rw [pf_u]; omega) hw (by rw [if_pos (Nat.zero_le n)]; rfl) (by rw [if_pos (Nat.zero_le n)]; intro m hm; exact absurd hm (Nat.not_lt_zero m))
  refine ⟨S', s1, px_ft (px_fs (j := 15) (S' := S) px_fr (by decide)) s2, s3, s4, ?_⟩
  obtain ⟨t1, t2, t3⟩ := s5
  rw [if_pos (Nat.le_refl n)] at t1 t2 t3
  refine ⟨t1, t2, fun i hi => ?_⟩
  have := t3 i hi
  unfold pt_wl at this
  rw [if_pos hi] at this
  exact this
