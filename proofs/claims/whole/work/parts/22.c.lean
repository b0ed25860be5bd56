/-! ===== what one likes, keeps, offers: the reference ===== -/
def pv_nm (li da ro hr cr ri : Int32) : Nat → Int32 := fun i => if i = 0 then li else if i = 1 then da else if i = 2 then ro else if i = 3 then hr else if i = 4 then cr else ri
/-- one who comes: the text, the kind, (more, crowd, rich, hour), light, damp -/
abbrev pv_V : Type := (Nat → List Int32) × Fin 8 × (Nat → Int32) × (Nat → Int32) × (Nat → Int32)
def pv_nr (V : pv_V) (r : Nat) : Nat → Int32 := pv_nm (V.2.2.2.1 r) (V.2.2.2.2 r) (nI r) (V.2.2.1 3) (V.2.2.1 1) (V.2.2.1 2)
def pv_n0 (V : pv_V) : Nat → Int32 := pv_nm (nI 0) (nI 0) (nI 0) (V.2.2.1 3) (V.2.2.1 1) (V.2.2.1 2)
def pv_lk (V : pv_V) (r : Nat) : Int32 := fk_likes V.2.1 (nI r) (pe_bd 0 (pe_val (pv_nr V r) (V.1 0))) (V.2.2.1 0)
def pv_kp (V : pv_V) (r : Nat) (f l : Int32) : Int32 := pv_lk V r * fk_keeps V.2.1 (pe_bd 1 (pe_val (pv_nr V r) (V.1 1))) (pv_lk V r) (V.2.2.1 0) f l
def pv_ms (V : pv_V) (W : Nat → Nat) (n : Nat) : Nat → Int32
  | 0 => nI 0
  | i + 1 => pv_ms V W n i + pv_kp V (W i) (nI (if i = 0 then 1 else 0)) (nI (if i + 1 = n then 1 else 0))
def pv_mi (V : pv_V) (W : Nat → Nat) (n : Nat) : Int32 := pv_ms V W n n
def pv_of (V : pv_V) (W : Nat → Nat) (n : Nat) : Int32 := fk_offers V.2.1 (pe_bd 2 (pe_val (pv_n0 V) (V.1 2))) (pv_mi V W n) (V.2.2.1 1)
theorem pm_nn (M : sm_T) (x y : Nat → Int32) : um_named (um_named M x) y = um_named M y := by
  show (M.1, am_us (am_us M.2 14 x) 14 y) = (M.1, am_us M.2 14 y)
  rw [pu_uu]
theorem pm_nk (M : sm_T) (x g : Nat → Int32) : pm_f [] [13, 14] M (um_stack (um_named M x) g) := pm_fa (j := 13) (S' := um_named M x) (pm_fa (j := 14) (S' := M) pm_fr (by decide)) (by decide)
theorem pg_n1 (M : sm_T) (x : Nat → Int32) : sm_named (um_named M x) = x := rfl
theorem pg_n2 (M : sm_T) (x : Nat → Int32) : sm_flat (um_named M x) = sm_flat M := rfl
theorem pg_n3 (M : sm_T) (x : Nat → Int32) : sm_hour (um_named M x) = sm_hour M := rfl
theorem pg_n4 (M : sm_T) (x : Nat → Int32) : sm_ones (um_named M x) = sm_ones M := rfl
theorem pv_N (f : Nat → Int32) (a b c d e g : Int32) : ∀ k, k < 6 → upd (upd (upd (upd (upd (upd f 0 a) 1 b) 2 c) 3 d) 4 e) 5 g k = pv_nm a b c d e g k := by
  intro k hk
  have h : k = 0 ∨ k = 1 ∨ k = 2 ∨ k = 3 ∨ k = 4 ∨ k = 5 := by omega
  rcases h with rfl | rfl | rfl | rfl | rfl | rfl <;> rfl
/-- the reference holds one who comes -/
def pm_C (S : sx_T) (V : pv_V) (v cr : Nat) (M : sm_T) : Prop := (v < 8 ∧ V.2.2.1 1 = nI cr ∧ cr < 9) ∧ (∃ t, t < 6 ∧ sm_rule M = nI t ∧ pr_tx1 V.1 t S M) ∧ (∃ k, k < 6 ∧ sm_kind M v = nI k ∧ V.2.1 = fx_X11_kindAt (nI k)) ∧ (∃ m, m < 10 ∧ sm_moreOf M v = nI m ∧ V.2.2.1 0 = nI m) ∧ (∀ r, r < 6 → sm_flat M (2 * r) = V.2.2.2.1 r ∧ sm_flat M (2 * r + 1) = V.2.2.2.2 r) ∧ sm_hour M = V.2.2.1 3 ∧ sm_ones M (2 * v) = V.2.2.1 2
theorem pm_Cf {S : sx_T} {V : pv_V} {v cr : Nat} {M M' : sm_T} (h : pm_C S V v cr M) (f : pm_f pm_es pm_ea M M') : pm_C S V v cr M' := by
  obtain ⟨u, w⟩ := f
  have c1 : sm_hour M' = sm_hour M := u 1 (by decide)
  have c4 : sm_rule M' = sm_rule M := u 4 (by decide)
  have d0 : sm_kind M' = sm_kind M := w 0 (by decide)
  have d1 : sm_moreOf M' = sm_moreOf M := w 1 (by decide)
  have d2 : sm_ones M' = sm_ones M := w 2 (by decide)
  have d3 : sm_flat M' = sm_flat M := w 3 (by decide)
  have d5 : sm_codes M' = sm_codes M := w 5 (by decide)
  have d6 : sm_starts M' = sm_starts M := w 6 (by decide)
  unfold pm_C pr_tx1 at h ⊢
  rw [c1, c4, d0, d1, d2, d3, d5, d6]
  exact h
def pm_W (W : Nat → Nat) (n : Nat) (M : sm_T) : Prop := sm_rooms0 M = nI n ∧ n < 7 ∧ ∀ i, i < n → W i < 6 ∧ sm_row M i = nI (W i)
theorem pm_Wf {W : Nat → Nat} {n : Nat} {M M' : sm_T} (h : pm_W W n M) (f : pm_f [] [13, 14] M M') : pm_W W n M' := by
  have c : sm_rooms0 M' = sm_rooms0 M := f.1 13 (by decide)
  have d : sm_row M' = sm_row M := f.2 15 (by decide)
  unfold pm_W at h ⊢
  rw [c, d]
  exact h
theorem pm_fe {M M' : sm_T} (f : pm_f [] [13, 14] M M') : pm_f pm_es pm_ea M M' := pm_fm f (by decide) (by decide)
theorem pe_asks {S : sx_T} {V : pv_V} {v cr p r : Nat} {M : sm_T} (h : pm_C S V v cr M) (hp : p < 3) (hr : r < 6) : ∃ M', fx_X12_asksOf (nI p) (nI v) (nI r) (nI cr) M = some (pe_bd p (pe_val (if p = 2 then pv_n0 V else pv_nr V r) (V.1 p)), M') ∧ pm_f [] [13, 14] M M' := by
  obtain ⟨⟨hv, e1, hcr⟩, ⟨t, ht, rt, tx⟩, -, -, fl, ho, on⟩ := h
  obtain ⟨f1, f2⟩ := fl r hr
  have hh := tx.2 p hp
  have q : ∀ a b c, ∃ M', fx_X12_says (nI p) (um_named M (upd (upd (upd (upd (upd (upd (sm_named M) 0 a) 1 b) 2 c) 3 (sm_hour M)) 4 (nI cr)) 5 (sm_ones M (2 * v)))) = some (pe_val (pv_nm a b c (V.2.2.1 3) (V.2.2.1 1) (V.2.2.1 2)) (V.1 p), M') ∧ pm_f [] [13, 14] M M' := by
    intro a b c
    obtain ⟨g, e⟩ := pe_says (T := V.1) (S := S) (M := (um_named M (upd (upd (upd (upd (upd (upd (sm_named M) 0 a) 1 b) 2 c) 3 (sm_hour M)) 4 (nI cr)) 5 (sm_ones M (2 * v))))) (t := t) (p := p) tx ht hp rt
    have ev : pe_val (sm_named (um_named M (upd (upd (upd (upd (upd (upd (sm_named M) 0 a) 1 b) 2 c) 3 (sm_hour M)) 4 (nI cr)) 5 (sm_ones M (2 * v))))) (V.1 p) = pe_val (pv_nm a b c (V.2.2.1 3) (V.2.2.1 1) (V.2.2.1 2)) (V.1 p) := pe_vag hh.1.1 hh.1.2 (fun k hk _ => by
      rw [pg_n1, ← ho, e1, ← on]
      exact pv_N _ a b c _ _ _ k hk)
    rw [ev] at e
    exact ⟨_, e, pm_nk M _ g⟩
  have h3 : p = 0 ∨ p = 1 ∨ p = 2 := by omega
  rcases h3 with rfl | rfl | rfl
  · obtain ⟨M', e, fr⟩ := q (V.2.2.2.1 r) (V.2.2.2.2 r) (nI r)
    refine ⟨M', ?_, fr⟩
    simp (disch := omega) only [pz_l, pz_ltT, pz_ltF, pz_leT, pz_leF, pz_eqT, pz_eqF, pz_nF, pz_nqF, pz_cl, pz_rd, pz_up, pz_bd, pz_let, pk_mul, nI_add, pz_sub, pz_div, pz_m, pz_neg1, eq_self, or_self, false_or, or_false, true_or, or_true, ↓reduceIte, if_true, if_false, fx_X12_asksOf, fx_X12_asksOf_22, fx_X12_asksOf_47, fx_X12_asksOf_63, pm_nn, pg_n1, pg_n2, pg_n3, pg_n4, f1, f2, e]
    rfl
  · obtain ⟨M', e, fr⟩ := q (V.2.2.2.1 r) (V.2.2.2.2 r) (nI r)
    refine ⟨M', ?_, fr⟩
    simp (disch := omega) only [pz_l, pz_ltT, pz_ltF, pz_leT, pz_leF, pz_eqT, pz_eqF, pz_nF, pz_nqF, pz_cl, pz_rd, pz_up, pz_bd, pz_let, pk_mul, nI_add, pz_sub, pz_div, pz_m, pz_neg1, eq_self, or_self, false_or, or_false, true_or, or_true, ↓reduceIte, if_true, if_false, fx_X12_asksOf, fx_X12_asksOf_22, fx_X12_asksOf_47, fx_X12_asksOf_63, pm_nn, pg_n1, pg_n2, pg_n3, pg_n4, f1, f2, e]
    rfl
  · obtain ⟨M', e, fr⟩ := q (nI 0) (nI 0) (nI 0)
    refine ⟨M', ?_, fr⟩
    simp (disch := omega) only [pz_l, pz_ltT, pz_ltF, pz_leT, pz_leF, pz_eqT, pz_eqF, pz_nF, pz_nqF, pz_cl, pz_rd, pz_up, pz_bd, pz_let, pk_mul, nI_add, pz_sub, pz_div, pz_m, pz_neg1, eq_self, or_self, false_or, or_false, true_or, or_true, ↓reduceIte, if_true, if_false, fx_X12_asksOf, fx_X12_asksOf_22, fx_X12_asksOf_47, fx_X12_asksOf_63, pm_nn, pg_n1, pg_n2, pg_n3, pg_n4, f1, f2, e]
    rfl
theorem pe_b0 (x : Int32) : ∃ a, a < 199 ∧ pe_bd 0 x = nI a - nI 99 := by
  have e : pe_bd 0 x = fx_X11_bound x (-(nI 99)) (nI 99) := rfl
  rw [e]
  unfold fx_X11_bound
  have m : (-(nI 99)).toInt = -99 := by decide
  have m2 : (nI 99).toInt = 99 := by decide
  by_cases h : -(nI 99) ≤ x
  · rw [if_pos h]
    by_cases h2 : x ≤ nI 99
    · rw [if_pos h2]
      rw [Int32.le_iff_toInt_le] at h h2
      refine ⟨(x.toInt + 99).toNat, by omega, ?_⟩
      rw [← Int32.toInt_inj, pk_sub_toInt (by omega) (by decide)]
      omega
    · rw [if_neg h2]; exact ⟨198, by decide, by decide⟩
  · rw [if_neg h]; exact ⟨0, by decide, by decide⟩
theorem pe_k1 : ∀ a, a < 199 → fx_X12_within (nI a - nI 99) (-(nI 99)) (nI 99) = nI a - nI 99 ∧ fx_X1_likes (nI 1) (nI a - nI 99) (nI 0) = nI a - nI 99 := by decide +kernel
theorem pe_k2 : ∀ a, a < 199 → ∀ m, m < 10 → fx_X12_within (nI a - nI 99 - nI 2 * nI m) (-(nI 99)) (nI 99) = fx_X1_likes (nI 0) (nI a - nI 99) (nI m) := by decide +kernel
theorem pe_k3 : ∀ a, a < 199 → ¬ nI 0 ≤ nI a - nI 99 → fx_X12_within ((nI a - nI 99) * nI 2) (-(nI 99)) (nI 99) = am_mx (-(nI 99)) (nI 2 * (nI a - nI 99)) := by decide +kernel
theorem pe_k4 : ∀ a, a < 199 → ∀ m, m < 10 → ¬ nI 0 ≤ nI a - nI 99 → fx_X12_within ((nI a - nI 99 - nI 2 * nI m) * nI 2) (-(nI 99)) (nI 99) = am_mx (-(nI 99)) (nI 2 * fx_X1_likes (nI 0) (nI a - nI 99) (nI m)) := by decide +kernel
theorem pe_k5 {r : Nat} (hr : r < 6) (h0 : r ≠ 0) {a : Nat} (ha : a < 199) (m : Int32) : fx_X1_likes (nI r) (nI a - nI 99) m = nI a - nI 99 := by
  have := (pe_k1 a ha).2
  unfold fx_X1_likes at this ⊢
  rw [if_neg (nI_ne0 (by omega) (by omega))]
  rw [if_neg (by decide)] at this
  exact this
/-- the reference's likes -/
theorem pe_likes {S : sx_T} {V : pv_V} {v cr r : Nat} {M : sm_T} (h : pm_C S V v cr M) (hr : r < 6) : ∃ M', fx_X12_likesOf (nI v) (nI r) (nI cr) M = some (pv_lk V r, M') ∧ pm_f [] [13, 14] M M' := by
  obtain ⟨⟨hv, e1, hcr⟩, -, ⟨k, hk, k1, k2⟩, ⟨m, hm, m1, m2⟩, -, -, -⟩ := id h
  unfold pv_lk
  rw [k2, m2]
  by_cases k5 : k = 5
  · subst k5
    refine ⟨M, ?_, pm_fr⟩
    have e : fk_likes (fx_X11_kindAt (nI 5)) (nI r) (pe_bd 0 (pe_val (pv_nr V r) (V.1 0))) (nI m) = fx_X0_likes (nI r) (pe_bd 0 (pe_val (pv_nr V r) (V.1 0))) (nI m) := rfl
    rw [e]
    by_cases c : r = m - m / 6 * 6
    · simp (disch := omega) only [pz_l, pz_ltT, pz_ltF, pz_leT, pz_leF, pz_eqT, pz_eqF, pz_nF, pz_nqF, pz_cl, pz_rd, pz_up, pz_bd, pz_let, pk_mul, nI_add, pz_sub, pz_div, pz_m, pz_neg1, eq_self, or_self, false_or, or_false, true_or, or_true, ↓reduceIte, if_true, if_false, fx_X12_likesOf, fx_X0_likes, k1, m1]
    · simp (disch := omega) only [pz_l, pz_ltT, pz_ltF, pz_leT, pz_leF, pz_eqT, pz_eqF, pz_nF, pz_nqF, pz_cl, pz_rd, pz_up, pz_bd, pz_let, pk_mul, nI_add, pz_sub, pz_div, pz_m, pz_neg1, eq_self, or_self, false_or, or_false, true_or, or_true, ↓reduceIte, if_true, if_false, fx_X12_likesOf, fx_X0_likes, k1, m1]
  obtain ⟨M', s1, fr⟩ := pe_asks h (p := 0) (by decide) hr
  rw [if_neg (by decide)] at s1
  refine ⟨M', ?_, fr⟩
  obtain ⟨a, ha, ea⟩ := pe_b0 (pe_val (pv_nr V r) (V.1 0))
  rw [ea] at s1 ⊢
  have kk : sm_kind M' = sm_kind M := fr.2 0 (by decide)
  have mm : sm_moreOf M' = sm_moreOf M := fr.2 1 (by decide)
  have w1 := (pe_k1 a ha).1
  have hk6 : k = 0 ∨ k = 1 ∨ k = 2 ∨ k = 3 ∨ k = 4 := by omega
  rcases hk6 with rfl | rfl | rfl | rfl | rfl
  · have e : fk_likes (fx_X11_kindAt (nI 0)) (nI r) (nI a - nI 99) (nI m) = nI a - nI 99 := rfl
    rw [e]
    simp (disch := omega) only [fx_X12_likesOf, fx_X12_likesOf_81, pz_l, pz_ltF, pz_nF, pz_cl, pz_eqF, pz_eqT, k1, kk, s1, w1, pz_bd, or_self, ↓reduceIte]
  · have e : fk_likes (fx_X11_kindAt (nI 1)) (nI r) (nI a - nI 99) (nI m) = fx_X1_likes (nI r) (nI a - nI 99) (nI m) := rfl
    rw [e]
    by_cases r0 : r = 0
    · subst r0
      simp (disch := omega) only [fx_X12_likesOf, fx_X12_likesOf_81, fx_X12_likesOf_64, pz_l, pz_ltF, pz_nF, pz_cl, pz_eqF, pz_eqT, k1, kk, mm, m1, s1, pz_bd, or_self, ↓reduceIte, pe_k2 a ha m hm]
    · simp (disch := omega) only [fx_X12_likesOf, fx_X12_likesOf_81, fx_X12_likesOf_64, pz_l, pz_ltF, pz_nF, pz_cl, pz_eqF, pz_eqT, k1, kk, mm, m1, s1, w1, pz_bd, or_self, ↓reduceIte, pe_k5 hr r0 ha]
  · have e : fk_likes (fx_X11_kindAt (nI 2)) (nI r) (nI a - nI 99) (nI m) = nI a - nI 99 := rfl
    rw [e]
    simp (disch := omega) only [fx_X12_likesOf, fx_X12_likesOf_81, pz_l, pz_ltF, pz_nF, pz_cl, pz_eqF, pz_eqT, k1, kk, s1, w1, pz_bd, or_self, ↓reduceIte]
  · have e : fk_likes (fx_X11_kindAt (nI 3)) (nI r) (nI a - nI 99) (nI m) = (if 0 ≤ nI a - nI 99 then fx_X1_likes (nI r) (nI a - nI 99) (nI m) else am_mx (-99) (2 * fx_X1_likes (nI r) (nI a - nI 99) (nI m))) := rfl
    rw [e]
    by_cases r0 : r = 0
    · subst r0
      by_cases z : nI 0 ≤ nI a - nI 99
      · simp (disch := omega) only [fx_X12_likesOf, fx_X12_likesOf_81, fx_X12_likesOf_64, pz_l, pz_ltF, pz_nF, pz_cl, pz_eqF, pz_eqT, k1, kk, mm, m1, s1, pz_bd, or_self, z, ↓reduceIte, pe_k2 a ha m hm]
      · simp (disch := omega) only [fx_X12_likesOf, fx_X12_likesOf_81, fx_X12_likesOf_64, pz_l, pz_ltF, pz_nF, pz_cl, pz_eqF, pz_eqT, k1, kk, mm, m1, s1, pz_bd, or_self, z, ↓reduceIte, pe_k4 a ha m hm z]
    · by_cases z : nI 0 ≤ nI a - nI 99
      · simp (disch := omega) only [fx_X12_likesOf, fx_X12_likesOf_81, fx_X12_likesOf_64, pz_l, pz_ltF, pz_nF, pz_cl, pz_eqF, pz_eqT, k1, kk, mm, m1, s1, w1, pz_bd, or_self, z, ↓reduceIte, pe_k5 hr r0 ha]
      · simp (disch := omega) only [fx_X12_likesOf, fx_X12_likesOf_81, fx_X12_likesOf_64, pz_l, pz_ltF, pz_nF, pz_cl, pz_eqF, pz_eqT, k1, kk, mm, m1, s1, pz_bd, or_self, z, ↓reduceIte, pe_k3 a ha z, pe_k5 hr r0 ha]
  · have e : fk_likes (fx_X11_kindAt (nI 4)) (nI r) (nI a - nI 99) (nI m) = nI a - nI 99 := rfl
    rw [e]
    simp (disch := omega) only [fx_X12_likesOf, fx_X12_likesOf_81, pz_l, pz_ltF, pz_nF, pz_cl, pz_eqF, pz_eqT, k1, kk, s1, w1, pz_bd, or_self, ↓reduceIte]
