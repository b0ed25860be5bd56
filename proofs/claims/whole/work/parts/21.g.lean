/-! ===== copies, viewers by a sheet ===== -/
theorem pf_has {S : sx_T} {s i n z : Nat} (hs : s < 4) (e : sx_sh_sizes S s = nI z) (hz : z < 41) (hi : i < 2147483648) (hn : n < 2147483648) : fx_X5_has (nI s) (nI i) (nI n) S = if i + n ≤ z then nI 1 else nI 0 := by
  by_cases c : i + n ≤ z
  · rw [if_pos c]
    simp (disch := omega) only [pz_l, pz_ltT, pz_ltF, pz_leT, pz_leF, pz_eqT, pz_eqF, pz_nF, pz_nqF, pz_cl, pz_rd, pz_up, pz_bd, pz_let, pk_mul, nI_add, pz_sub, pz_div, pz_m, pz_neg1, eq_self, or_self, false_or, or_false, true_or, or_true, ↓reduceIte, if_true, if_false, fx_X5_has, fx_X5_size, e]
  · rw [if_neg c]
    by_cases c2 : z < n
    · simp (disch := omega) only [pz_l, pz_ltT, pz_ltF, pz_leT, pz_leF, pz_eqT, pz_eqF, pz_nF, pz_nqF, pz_cl, pz_rd, pz_up, pz_bd, pz_let, pk_mul, nI_add, pz_sub, pz_div, pz_m, pz_neg1, eq_self, or_self, false_or, or_false, true_or, or_true, ↓reduceIte, if_true, if_false, fx_X5_has, fx_X5_size, e]
    · simp (disch := omega) only [pz_l, pz_ltT, pz_ltF, pz_leT, pz_leF, pz_eqT, pz_eqF, pz_nF, pz_nqF, pz_cl, pz_rd, pz_up, pz_bd, pz_let, pk_mul, nI_add, pz_sub, pz_div, pz_m, pz_neg1, eq_self, or_self, false_or, or_false, true_or, or_true, ↓reduceIte, if_true, if_false, fx_X5_has, fx_X5_size, e]
theorem pu_cp1 {f : Nat → Int32} {a b k : Nat} (h : b ≤ a) : upd (va_cpy f f a b k) (b + k) (va_cpy f f a b k (a + k)) = va_cpy f f a b (k + 1) := by
  funext j
  rw [pz_u]
  unfold va_cpy
  by_cases e : j = b + k
  · subst e
    rw [if_pos rfl, if_neg (show ¬ (b ≤ a + k ∧ a + k < b + k) by omega), if_pos (show b ≤ b + k ∧ b + k < b + (k + 1) by omega), Nat.add_sub_cancel_left]
  · rw [if_neg e]
    by_cases e2 : b ≤ j ∧ j < b + k
    · rw [if_pos e2, if_pos (show b ≤ j ∧ j < b + (k + 1) by omega)]
    · rw [if_neg e2, if_neg (show ¬ (b ≤ j ∧ j < b + (k + 1)) by omega)]
/-- the copy from its end on: k numbers are still wanting -/
def pu_cd (f : Nat → Int32) (a b k n : Nat) : Nat → Int32 := fun j => if b + k ≤ j ∧ j < b + n then f (a + (j - b)) else f j
theorem pu_cd1 {f : Nat → Int32} {a b k n : Nat} (h : a < b) (hk : k < n) : upd (pu_cd f a b (k + 1) n) (b + k) (pu_cd f a b (k + 1) n (a + k)) = pu_cd f a b k n := by
  funext j
  rw [pz_u]
  unfold pu_cd
  by_cases e : j = b + k
  · subst e
    rw [if_pos rfl, if_neg (show ¬ (b + (k + 1) ≤ a + k ∧ a + k < b + n) by omega), if_pos (show b + k ≤ b + k ∧ b + k < b + n by omega), Nat.add_sub_cancel_left]
  · rw [if_neg e]
    by_cases e2 : b + (k + 1) ≤ j ∧ j < b + n
    · rw [if_pos e2, if_pos (show b + k ≤ j ∧ j < b + n by omega)]
    · rw [if_neg e2, if_neg (show ¬ (b + k ≤ j ∧ j < b + n) by omega)]
theorem pf_cpU {a b n : Nat} (h : b ≤ a) (ha : a + n ≤ 160) : ∀ (d k fu : Nat) (M : sm_T) (f : Nat → Int32), k + d = n → d < fu → fx_X12_copy_147 fu (nI n) (nI a) (nI b) (nI k) (um_cells M (va_cpy f f a b k)) = some (nI n, um_cells M (va_cpy f f a b n)) := by
  intro d
  induction d with
  | zero =>
    intro k fu M f h1 h2
    obtain ⟨g, rfl⟩ : ∃ g, fu = g + 1 := ⟨fu - 1, by omega⟩
    have hk : k = n := by omega
    subst hk
    rw [fx_X12_copy_147]
    simp (disch := omega) only [pz_l, pz_ltT, pz_ltF, pz_leT, pz_leF, pz_eqT, pz_eqF, pz_nF, pz_nqF, pz_cl, pz_rd, pz_up, pz_bd, pz_let, pk_mul, nI_add, pz_sub, pz_div, pz_m, pz_neg1, eq_self, or_self, false_or, or_false, true_or, or_true, ↓reduceIte, if_true, if_false]
  | succ d ih =>
    intro k fu M f h1 h2
    obtain ⟨g, rfl⟩ : ∃ g, fu = g + 1 := ⟨fu - 1, by omega⟩
    rw [fx_X12_copy_147]
    simp (disch := omega) only [pz_l, pz_ltT, pz_ltF, pz_leT, pz_leF, pz_eqT, pz_eqF, pz_nF, pz_nqF, pz_cl, pz_rd, pz_up, pz_bd, pz_let, pk_mul, nI_add, pz_sub, pz_div, pz_m, pz_neg1, eq_self, or_self, false_or, or_false, true_or, or_true, ↓reduceIte, if_true, if_false, fx_X12_copy_173]
    refine (congrArg (fx_X12_copy_147 g (nI n) (nI a) (nI b) (nI (k + 1))) (pm_cc M _ _)).trans ?_
    have e : upd (sm_cells (um_cells M (va_cpy f f a b k))) (b + k) (sm_cells (um_cells M (va_cpy f f a b k)) (a + k)) = va_cpy f f a b (k + 1) := pu_cp1 h
    rw [e]
    exact ih (k + 1) g M f (by omega) (by omega)
theorem pf_cpD {a b n : Nat} (h : a < b) (hb : b + n ≤ 160) : ∀ (d k fu : Nat) (M : sm_T) (f : Nat → Int32), k + d = n → d < fu → fx_X12_copy_147 fu (nI n) (nI a) (nI b) (nI k) (um_cells M (pu_cd f a b d n)) = some (nI n, um_cells M (pu_cd f a b 0 n)) := by
  intro d
  induction d with
  | zero =>
    intro k fu M f h1 h2
    obtain ⟨g, rfl⟩ : ∃ g, fu = g + 1 := ⟨fu - 1, by omega⟩
    have hk : k = n := by omega
    subst hk
    rw [fx_X12_copy_147]
    simp (disch := omega) only [pz_l, pz_ltT, pz_ltF, pz_leT, pz_leF, pz_eqT, pz_eqF, pz_nF, pz_nqF, pz_cl, pz_rd, pz_up, pz_bd, pz_let, pk_mul, nI_add, pz_sub, pz_div, pz_m, pz_neg1, eq_self, or_self, false_or, or_false, true_or, or_true, ↓reduceIte, if_true, if_false]
  | succ d ih =>
    intro k fu M f h1 h2
    obtain ⟨g, rfl⟩ : ∃ g, fu = g + 1 := ⟨fu - 1, by omega⟩
    rw [fx_X12_copy_147]
    simp (disch := omega) only [pz_l, pz_ltT, pz_ltF, pz_leT, pz_leF, pz_eqT, pz_eqF, pz_nF, pz_nqF, pz_cl, pz_rd, pz_up, pz_bd, pz_let, pk_mul, nI_add, pz_sub, pz_div, pz_m, pz_neg1, eq_self, or_self, false_or, or_false, true_or, or_true, ↓reduceIte, if_true, if_false, fx_X12_copy_173]
    rw [show n - 1 - k = d by omega]
    refine (congrArg (fx_X12_copy_147 g (nI n) (nI a) (nI b) (nI (k + 1))) (pm_cc M _ _)).trans ?_
    have e : upd (sm_cells (um_cells M (pu_cd f a b (d + 1) n))) (b + d) (sm_cells (um_cells M (pu_cd f a b (d + 1) n)) (a + d)) = pu_cd f a b d n := pu_cd1 h (by omega)
    rw [e]
    exact ih (k + 1) g M f (by omega) (by omega)
theorem pf_cp {a b n : Nat} (ha : a + n ≤ 160) (hb : b + n ≤ 160) (M : sm_T) : fx_X12_copy_147 am_fu (nI n) (nI a) (nI b) (nI 0) M = some (nI n, um_cells M (va_cpy (sm_cells M) (sm_cells M) a b n)) := by
  rcases Nat.lt_or_ge a b with h | h
  · have e : pu_cd (sm_cells M) a b n n = sm_cells M := by
      funext j; unfold pu_cd; rw [if_neg (by omega)]
    have e2 : pu_cd (sm_cells M) a b 0 n = va_cpy (sm_cells M) (sm_cells M) a b n := by
      funext j; unfold pu_cd va_cpy; rw [Nat.add_zero]
    have := pf_cpD h hb n 0 am_fu M (sm_cells M) (by omega) (by rw [pf_u]; omega)
    rw [e, e2, pm_ce] at this
    exact this
  · have e : va_cpy (sm_cells M) (sm_cells M) a b 0 = sm_cells M := by
      funext j; unfold va_cpy; rw [if_neg (by omega)]
    have := pf_cpU h ha n 0 am_fu M (sm_cells M) (by omega) (by rw [pf_u]; omega)
    rw [e, pm_ce] at this
    exact this
theorem pr_cp {S : sx_T} {M : sm_T} {s o i j n : Nat} {z w : Nat} (hs : s < 4) (ho : o < 4) (es : sx_sh_sizes S s = nI z) (hz : z < 41) (ez : sx_sh_sizes S o = nI w) (hw : w < 41) (h1 : i + n ≤ z) (h2 : j + n ≤ w) (h : pr_sh S M) : pr_sh (ux_sh_cells S (va_cpy (sx_sh_cells S) (sx_sh_cells S) (40 * s + i) (40 * o + j) n)) (um_cells M (va_cpy (sm_cells M) (sm_cells M) (40 * s + i) (40 * o + j) n)) := by
  intro t ht
  obtain ⟨a, m, hm, b1, c, d⟩ := h t ht
  refine ⟨a, m, hm, b1, c, fun x hx => ?_⟩
  show va_cpy (sm_cells M) (sm_cells M) (40 * s + i) (40 * o + j) n (40 * t + x) = va_cpy (sx_sh_cells S) (sx_sh_cells S) (40 * s + i) (40 * o + j) n (40 * t + x)
  unfold va_cpy
  by_cases c1 : 40 * o + j ≤ 40 * t + x ∧ 40 * t + x < 40 * o + j + n
  · rw [if_pos c1, if_pos c1]
    obtain ⟨_, z', hz', b2, _, d2⟩ := h s hs
    have : z' = z := (nI_eq (by omega) (by omega)).mp (b2.symm.trans es)
    subst this
    have := d2 (i + (40 * t + x - (40 * o + j))) (by omega)
    rw [show 40 * s + i + (40 * t + x - (40 * o + j)) = 40 * s + (i + (40 * t + x - (40 * o + j))) by omega]
    exact this
  · rw [if_neg c1, if_neg c1]
    exact d x hx
theorem pq_copy : lq_copy px_R := by
  rintro S M ⟨T, h⟩ a1 a2 a3 a4 a5
  obtain ⟨h1, h2, h3, h4, h5, h6, h7, h8⟩ := id h
  rcases pn_w a1 4 3 rfl (by decide) with ⟨g1, g2⟩ | ⟨s, hs, rfl, g1, g2⟩
  · refine ⟨-2, S, M, ?_, ?_, T, h⟩
    · simp (disch := omega) only [pz_l, pz_ltT, pz_ltF, pz_leT, pz_leF, pz_eqT, pz_eqF, pz_nF, pz_nqF, pz_cl, pz_rd, pz_up, pz_bd, pz_let, pk_mul, nI_add, pz_sub, pz_div, pz_m, pz_neg1, eq_self, or_self, false_or, or_false, true_or, or_true, ↓reduceIte, if_true, if_false, lx_copy, fx_X11_copy, g1]
    · simp (disch := omega) only [pz_l, pz_ltT, pz_ltF, pz_leT, pz_leF, pz_eqT, pz_eqF, pz_nF, pz_nqF, pz_cl, pz_rd, pz_up, pz_bd, pz_let, pk_mul, nI_add, pz_sub, pz_div, pz_m, pz_neg1, eq_self, or_self, false_or, or_false, true_or, or_true, ↓reduceIte, if_true, if_false, lm_copy, fx_X12_copy, g2]
  rcases pn_w a3 4 3 rfl (by decide) with ⟨k1, k2⟩ | ⟨o, ho, rfl, k1, k2⟩
  · refine ⟨-2, S, M, ?_, ?_, T, h⟩
    · simp (disch := omega) only [pz_l, pz_ltT, pz_ltF, pz_leT, pz_leF, pz_eqT, pz_eqF, pz_nF, pz_nqF, pz_cl, pz_rd, pz_up, pz_bd, pz_let, pk_mul, nI_add, pz_sub, pz_div, pz_m, pz_neg1, eq_self, or_self, false_or, or_false, true_or, or_true, ↓reduceIte, if_true, if_false, lx_copy, fx_X11_copy, g1, k1]
    · simp (disch := omega) only [pz_l, pz_ltT, pz_ltF, pz_leT, pz_leF, pz_eqT, pz_eqF, pz_nF, pz_nqF, pz_cl, pz_rd, pz_up, pz_bd, pz_let, pk_mul, nI_add, pz_sub, pz_div, pz_m, pz_neg1, eq_self, or_self, false_or, or_false, true_or, or_true, ↓reduceIte, if_true, if_false, lm_copy, fx_X12_copy, g2, k2]
  obtain ⟨so, z, hz, s1, s2, s3⟩ := h8 s hs
  obtain ⟨ro, w, hw, r1, r2, r3⟩ := h8 o ho
  rcases pr_mis S hs with ⟨m1, m2⟩ | ⟨m1, m2⟩
  · refine ⟨-11, S, M, ?_, ?_, T, h⟩
    · simp (disch := omega) only [pz_l, pz_ltT, pz_ltF, pz_leT, pz_leF, pz_eqT, pz_eqF, pz_nF, pz_nqF, pz_cl, pz_rd, pz_up, pz_bd, pz_let, pk_mul, nI_add, pz_sub, pz_div, pz_m, pz_neg1, eq_self, or_self, false_or, or_false, true_or, or_true, ↓reduceIte, if_true, if_false, lx_copy, fx_X11_copy, g1, k1, m2]
    · simp (disch := omega) only [pz_l, pz_ltT, pz_ltF, pz_leT, pz_leF, pz_eqT, pz_eqF, pz_nF, pz_nqF, pz_cl, pz_rd, pz_up, pz_bd, pz_let, pk_mul, nI_add, pz_sub, pz_div, pz_m, pz_neg1, eq_self, or_self, false_or, or_false, true_or, or_true, ↓reduceIte, if_true, if_false, lm_copy, fx_X12_copy, g2, k2, so, m1]
  rcases pr_mis S ho with ⟨q1, q2⟩ | ⟨q1, q2⟩
  · refine ⟨-11, S, M, ?_, ?_, T, h⟩
    · simp (disch := omega) only [pz_l, pz_ltT, pz_ltF, pz_leT, pz_leF, pz_eqT, pz_eqF, pz_nF, pz_nqF, pz_cl, pz_rd, pz_up, pz_bd, pz_let, pk_mul, nI_add, pz_sub, pz_div, pz_m, pz_neg1, eq_self, or_self, false_or, or_false, true_or, or_true, ↓reduceIte, if_true, if_false, lx_copy, fx_X11_copy, g1, k1, m2, q2]
    · simp (disch := omega) only [pz_l, pz_ltT, pz_ltF, pz_leT, pz_leF, pz_eqT, pz_eqF, pz_nF, pz_nqF, pz_cl, pz_rd, pz_up, pz_bd, pz_let, pk_mul, nI_add, pz_sub, pz_div, pz_m, pz_neg1, eq_self, or_self, false_or, or_false, true_or, or_true, ↓reduceIte, if_true, if_false, lm_copy, fx_X12_copy, g2, k2, so, m1, ro, q1]
  by_cases e : sx_sh_sorts S s = sx_sh_sorts S o
  rotate_left
  · refine ⟨-13, S, M, ?_, ?_, T, h⟩
    · simp (disch := omega) only [pz_l, pz_ltT, pz_ltF, pz_leT, pz_leF, pz_eqT, pz_eqF, pz_nF, pz_nqF, pz_cl, pz_rd, pz_up, pz_bd, pz_let, pk_mul, nI_add, pz_sub, pz_div, pz_m, pz_neg1, eq_self, or_self, false_or, or_false, true_or, or_true, ↓reduceIte, if_true, if_false, lx_copy, fx_X11_copy, fx_X5_sort, g1, k1, m2, q2, e]
    · simp (disch := omega) only [pz_l, pz_ltT, pz_ltF, pz_leT, pz_leF, pz_eqT, pz_eqF, pz_nF, pz_nqF, pz_cl, pz_rd, pz_up, pz_bd, pz_let, pk_mul, nI_add, pz_sub, pz_div, pz_m, pz_neg1, eq_self, or_self, false_or, or_false, true_or, or_true, ↓reduceIte, if_true, if_false, lm_copy, fx_X12_copy, g2, k2, so, m1, ro, q1, e]
  have fx : fx_X11_copy (nI s) a2 (nI o) a4 a5 S = (if fx_X5_has (nI s) a2 a5 S = nI 0 then some (-(nI 12), S) else if fx_X5_has (nI o) a4 a5 S = nI 0 then some (-(nI 12), S) else am_bd (fx_X5_move (nI s) a2 (nI o) a4 a5 S) (fun q => some (a5, q))) := by
    simp (disch := omega) only [pz_l, pz_ltT, pz_ltF, pz_leT, pz_leF, pz_eqT, pz_eqF, pz_nF, pz_nqF, pz_cl, pz_rd, pz_up, pz_bd, pz_let, pk_mul, nI_add, pz_sub, pz_div, pz_m, pz_neg1, eq_self, or_self, false_or, or_false, true_or, or_true, ↓reduceIte, if_true, if_false, fx_X11_copy, fx_X5_sort, g1, k1, m2, q2, e]
    rfl
  have hneg : ∀ {a b : Int32} {t : Nat}, (a < 0 ∨ b < 0) → fx_X5_has (nI t) a b S = nI 0 := by
    intro a b t hab
    unfold fx_X5_has
    by_cases c : a < 0
    · rw [if_pos c]; rfl
    · rw [if_neg c, if_pos (hab.resolve_left c)]; rfl
  by_cases c5 : a5 < nI 0
  · refine ⟨-12, S, M, ?_, ?_, T, h⟩
    · unfold lx_copy; rw [fx, if_pos (hneg (Or.inr c5))]; rfl
    · simp (disch := omega) only [pz_l, pz_ltT, pz_ltF, pz_leT, pz_leF, pz_eqT, pz_eqF, pz_nF, pz_nqF, pz_cl, pz_rd, pz_up, pz_bd, pz_let, pk_mul, nI_add, pz_sub, pz_div, pz_m, pz_neg1, eq_self, or_self, false_or, or_false, true_or, or_true, ↓reduceIte, if_true, if_false, lm_copy, fx_X12_copy, g2, k2, so, m1, ro, q1, e, c5]
  by_cases c2 : a2 < nI 0
  · refine ⟨-12, S, M, ?_, ?_, T, h⟩
    · unfold lx_copy; rw [fx, if_pos (hneg (Or.inl c2))]; rfl
    · simp (disch := omega) only [pz_l, pz_ltT, pz_ltF, pz_leT, pz_leF, pz_eqT, pz_eqF, pz_nF, pz_nqF, pz_cl, pz_rd, pz_up, pz_bd, pz_let, pk_mul, nI_add, pz_sub, pz_div, pz_m, pz_neg1, eq_self, or_self, false_or, or_false, true_or, or_true, ↓reduceIte, if_true, if_false, lm_copy, fx_X12_copy, g2, k2, so, m1, ro, q1, e, c5, c2]
  by_cases c4 : a4 < nI 0
  · refine ⟨-12, S, M, ?_, ?_, T, h⟩
    · unfold lx_copy; rw [fx, if_pos (c := fx_X5_has (nI o) a4 a5 S = nI 0) (hneg (Or.inl c4)), ite_self]; rfl
    · simp (disch := omega) only [pz_l, pz_ltT, pz_ltF, pz_leT, pz_leF, pz_eqT, pz_eqF, pz_nF, pz_nqF, pz_cl, pz_rd, pz_up, pz_bd, pz_let, pk_mul, nI_add, pz_sub, pz_div, pz_m, pz_neg1, eq_self, or_self, false_or, or_false, true_or, or_true, ↓reduceIte, if_true, if_false, lm_copy, fx_X12_copy, g2, k2, so, m1, ro, q1, e, c5, c2, c4]
  obtain ⟨i, hi, rfl⟩ := nI_of c2
  obtain ⟨j, hj, rfl⟩ := nI_of c4
  obtain ⟨n, hn, rfl⟩ := nI_of c5
  rw [pf_has hs s1 hz hi hn, pf_has ho r1 hw hj hn] at fx
  by_cases b1 : i + n ≤ z
  · by_cases b2 : j + n ≤ w
    · refine ⟨nI n, _, _, ?_, ?_, T, show px_Q T (ux_sh_cells S (va_cpy (sx_sh_cells S) (sx_sh_cells S) (40 * s + i) (40 * o + j) n)) (um_cells M (va_cpy (sm_cells M) (sm_cells M) (40 * s + i) (40 * o + j) n)) from ⟨h1, h2, h3, h4, h5, h6, h7, pr_cp hs ho s1 hz r1 hw b1 b2 h8⟩⟩
      · unfold lx_copy
        rw [fx, if_pos b1, if_pos b2]
        have w1 : ¬ 160 < s * 40 + i + n := by omega
        have w2 : ¬ 160 < o * 40 + j + n := by omega
        simp (disch := omega) only [pz_l, pz_ltT, pz_ltF, pz_leT, pz_leF, pz_eqT, pz_eqF, pz_nF, pz_nqF, pz_cl, pz_rd, pz_up, pz_bd, pz_let, pk_mul, nI_add, pz_sub, pz_div, pz_m, pz_neg1, eq_self, or_self, false_or, or_false, true_or, or_true, ↓reduceIte, if_true, if_false, fx_X5_move, w1, w2]
        rw [Nat.mul_comm s 40, Nat.mul_comm o 40]
      · simp (disch := omega) only [pz_l, pz_ltT, pz_ltF, pz_leT, pz_leF, pz_eqT, pz_eqF, pz_nF, pz_nqF, pz_cl, pz_rd, pz_up, pz_bd, pz_let, pk_mul, nI_add, pz_sub, pz_div, pz_m, pz_neg1, eq_self, or_self, false_or, or_false, true_or, or_true, ↓reduceIte, if_true, if_false, lm_copy, fx_X12_copy, g2, k2, so, m1, ro, q1, e, s2, r2, pf_cp (show 40 * s + i + n ≤ 160 by omega) (show 40 * o + j + n ≤ 160 by omega)]
    · refine ⟨-12, S, M, ?_, ?_, T, h⟩
      · unfold lx_copy; rw [fx, if_pos b1, if_neg b2]; rfl
      · by_cases d1 : w < j
        · simp (disch := omega) only [pz_l, pz_ltT, pz_ltF, pz_leT, pz_leF, pz_eqT, pz_eqF, pz_nF, pz_nqF, pz_cl, pz_rd, pz_up, pz_bd, pz_let, pk_mul, nI_add, pz_sub, pz_div, pz_m, pz_neg1, eq_self, or_self, false_or, or_false, true_or, or_true, ↓reduceIte, if_true, if_false, lm_copy, fx_X12_copy, g2, k2, so, m1, ro, q1, e, s2, r2]
        · simp (disch := omega) only [pz_l, pz_ltT, pz_ltF, pz_leT, pz_leF, pz_eqT, pz_eqF, pz_nF, pz_nqF, pz_cl, pz_rd, pz_up, pz_bd, pz_let, pk_mul, nI_add, pz_sub, pz_div, pz_m, pz_neg1, eq_self, or_self, false_or, or_false, true_or, or_true, ↓reduceIte, if_true, if_false, lm_copy, fx_X12_copy, g2, k2, so, m1, ro, q1, e, s2, r2]
  · refine ⟨-12, S, M, ?_, ?_, T, h⟩
    · unfold lx_copy; rw [fx, if_neg b1]; rfl
    · by_cases d1 : z < i
      · simp (disch := omega) only [pz_l, pz_ltT, pz_ltF, pz_leT, pz_leF, pz_eqT, pz_eqF, pz_nF, pz_nqF, pz_cl, pz_rd, pz_up, pz_bd, pz_let, pk_mul, nI_add, pz_sub, pz_div, pz_m, pz_neg1, eq_self, or_self, false_or, or_false, true_or, or_true, ↓reduceIte, if_true, if_false, lm_copy, fx_X12_copy, g2, k2, so, m1, ro, q1, e, s2, r2]
      · by_cases d2 : w < j
        · simp (disch := omega) only [pz_l, pz_ltT, pz_ltF, pz_leT, pz_leF, pz_eqT, pz_eqF, pz_nF, pz_nqF, pz_cl, pz_rd, pz_up, pz_bd, pz_let, pk_mul, nI_add, pz_sub, pz_div, pz_m, pz_neg1, eq_self, or_self, false_or, or_false, true_or, or_true, ↓reduceIte, if_true, if_false, lm_copy, fx_X12_copy, g2, k2, so, m1, ro, q1, e, s2, r2]
        · simp (disch := omega) only [pz_l, pz_ltT, pz_ltF, pz_leT, pz_leF, pz_eqT, pz_eqF, pz_nF, pz_nqF, pz_cl, pz_rd, pz_up, pz_bd, pz_let, pk_mul, nI_add, pz_sub, pz_div, pz_m, pz_neg1, eq_self, or_self, false_or, or_false, true_or, or_true, ↓reduceIte, if_true, if_false, lm_copy, fx_X12_copy, g2, k2, so, m1, ro, q1, e, s2, r2]
/-! viewers by a sheet -/
theorem pi_ti {n : Nat} (h : n < 4294967296) (h2 : 2147483648 ≤ n) : (nI n).toInt = (n : Int) - 4294967296 := by
  unfold nI
  rw [Int32.toInt_ofNat']
  rw [Int.bmod_def]
  have : Int32.size = 4294967296 := rfl
  rw [this]
  omega
theorem pi_ov {f e : Nat} (hf : f < 2147483648) (he : e < 2147483648) (h : 2147483648 ≤ f + e) : (nI (f + e) < nI f) = True := eq_true (by
  rw [Int32.lt_iff_toInt_lt, pi_ti (by omega) h, nI_toInt hf]
  omega)
theorem pi_m2 {n a : Nat} (hn : n < 2) (ha : a < 2147483648) : (nI a ≤ nI n - nI 2) = False := eq_false (by
  rw [Int32.le_iff_toInt_le, nI_toInt ha, pk_sub_toInt (by omega) (by decide)]
  omega)
theorem pf_vb {T : Nat → Nat → List Int32} {s n : Nat} {a3 : Int32} (hs : s < 4) (hn : n < 9) : ∀ (d k c fu gu : Nat) (S : sx_T) (M : sm_T), k + d = n → d < fu → d < gu → c ≤ k → px_Q T S M → ∃ r S' M', fx_X11_viewersBy_66 fu (nI s) a3 (nI n) (nI c) (nI k) S = some (r, S') ∧ fx_X12_viewersBy_64 gu (nI s) a3 (nI n) (nI c) (nI k) M = some (r, M') ∧ px_Q T S' M' := by
  intro d
  induction d with
  | zero =>
    intro k c fu gu S M h1 h2 h3 hc h
    obtain ⟨f, rfl⟩ : ∃ f, fu = f + 1 := ⟨fu - 1, by omega⟩
    obtain ⟨g, rfl⟩ : ∃ g, gu = g + 1 := ⟨gu - 1, by omega⟩
    refine ⟨nI c, S, M, ?_, ?_, h⟩
    · rw [fx_X11_viewersBy_66]; simp (disch := omega) only [pz_l, pz_ltT, pz_ltF, pz_leT, pz_leF, pz_eqT, pz_eqF, pz_nF, pz_nqF, pz_cl, pz_rd, pz_up, pz_bd, pz_let, pk_mul, nI_add, pz_sub, pz_div, pz_m, pz_neg1, eq_self, or_self, false_or, or_false, true_or, or_true, ↓reduceIte, if_true, if_false]
    · rw [fx_X12_viewersBy_64]; simp (disch := omega) only [pz_l, pz_ltT, pz_ltF, pz_leT, pz_leF, pz_eqT, pz_eqF, pz_nF, pz_nqF, pz_cl, pz_rd, pz_up, pz_bd, pz_let, pk_mul, nI_add, pz_sub, pz_div, pz_m, pz_neg1, eq_self, or_self, false_or, or_false, true_or, or_true, ↓reduceIte, if_true, if_false]
  | succ d ih =>
    intro k c fu gu S M h1 h2 h3 hc h
    obtain ⟨f, rfl⟩ : ∃ f, fu = f + 1 := ⟨fu - 1, by omega⟩
    obtain ⟨g, rfl⟩ : ∃ g, gu = g + 1 := ⟨gu - 1, by omega⟩
    obtain ⟨so, z, hz, s1, s2, s3⟩ := h.2.2.2.2.2.2.2 s hs
    by_cases c0 : a3 < nI 0
    · refine ⟨-12, S, M, ?_, ?_, h⟩
      · rw [fx_X11_viewersBy_66]; simp (disch := omega) only [pz_l, pz_ltT, pz_ltF, pz_leT, pz_leF, pz_eqT, pz_eqF, pz_nF, pz_nqF, pz_cl, pz_rd, pz_up, pz_bd, pz_let, pk_mul, nI_add, pz_sub, pz_div, pz_m, pz_neg1, eq_self, or_self, false_or, or_false, true_or, or_true, ↓reduceIte, if_true, if_false, fx_X5_has, c0]
      · rw [fx_X12_viewersBy_64]; simp (disch := omega) only [pz_l, pz_ltT, pz_ltF, pz_leT, pz_leF, pz_eqT, pz_eqF, pz_nF, pz_nqF, pz_cl, pz_rd, pz_up, pz_bd, pz_let, pk_mul, nI_add, pz_sub, pz_div, pz_m, pz_neg1, eq_self, or_self, false_or, or_false, true_or, or_true, ↓reduceIte, if_true, if_false, c0]
    obtain ⟨i, hi, rfl⟩ := nI_of c0
    have hh := pf_has (i := i) (n := 2 * k + 2) hs s1 hz hi (by omega)
    by_cases b : i + (2 * k + 2) ≤ z
    · rw [if_pos b] at hh
      have e1 : nI (40 * s + (i + 2 * k)) = nI (40 * s + (i + 2 * k)) := rfl
      obtain ⟨r, S1, M1, v1, v2, v3⟩ := pq_viewer0 h (sx_sh_cells S (40 * s + (i + 2 * k))) (sx_sh_cells S (40 * s + (i + 2 * k + 1)))
      have x1 := s3 (i + 2 * k) (by omega)
      have x2 := s3 (i + 2 * k + 1) (by omega)
      have y1 : s * 40 + (i + 2 * k) = 40 * s + (i + 2 * k) := by omega
      have y2 : s * 40 + (i + 2 * k + 1) = 40 * s + (i + 2 * k + 1) := by omega
      have y3 : 40 * s + (i + 2 * k) + 1 = 40 * s + (i + 2 * k + 1) := by omega
      by_cases rn : r < nI 0
      · obtain ⟨q, S2, M2, w1, w2, w3⟩ := ih (k + 1) c f g S1 M1 (by omega) (by omega) (by omega) (by omega) v3
        refine ⟨q, S2, M2, ?_, ?_, w3⟩
        · rw [fx_X11_viewersBy_66]
          simp (disch := omega) only [pz_l, pz_ltT, pz_ltF, pz_leT, pz_leF, pz_eqT, pz_eqF, pz_nF, pz_nqF, pz_cl, pz_rd, pz_up, pz_bd, pz_let, pk_mul, nI_add, pz_sub, pz_div, pz_m, pz_neg1, eq_self, or_self, false_or, or_false, true_or, or_true, ↓reduceIte, if_true, if_false, hh, fx_X5_read, y1, y2, v1, rn]
          exact w1
        · rw [fx_X12_viewersBy_64]
          simp (disch := omega) only [pz_l, pz_ltT, pz_ltF, pz_leT, pz_leF, pz_eqT, pz_eqF, pz_nF, pz_nqF, pz_cl, pz_rd, pz_up, pz_bd, pz_let, pk_mul, nI_add, pz_sub, pz_div, pz_m, pz_neg1, eq_self, or_self, false_or, or_false, true_or, or_true, ↓reduceIte, if_true, if_false, s2, y3, x1, x2, v2, rn, Nat.add_zero]
          exact w2
      · obtain ⟨q, S2, M2, w1, w2, w3⟩ := ih (k + 1) (c + 1) f g S1 M1 (by omega) (by omega) (by omega) (by omega) v3
        refine ⟨q, S2, M2, ?_, ?_, w3⟩
        · rw [fx_X11_viewersBy_66]
          simp (disch := omega) only [pz_l, pz_ltT, pz_ltF, pz_leT, pz_leF, pz_eqT, pz_eqF, pz_nF, pz_nqF, pz_cl, pz_rd, pz_up, pz_bd, pz_let, pk_mul, nI_add, pz_sub, pz_div, pz_m, pz_neg1, eq_self, or_self, false_or, or_false, true_or, or_true, ↓reduceIte, if_true, if_false, hh, fx_X5_read, y1, y2, v1, rn]
          exact w1
        · rw [fx_X12_viewersBy_64]
          simp (disch := omega) only [pz_l, pz_ltT, pz_ltF, pz_leT, pz_leF, pz_eqT, pz_eqF, pz_nF, pz_nqF, pz_cl, pz_rd, pz_up, pz_bd, pz_let, pk_mul, nI_add, pz_sub, pz_div, pz_m, pz_neg1, eq_self, or_self, false_or, or_false, true_or, or_true, ↓reduceIte, if_true, if_false, s2, y3, x1, x2, v2, rn, Nat.add_zero]
          exact w2
    · rw [if_neg b] at hh
      refine ⟨-12, S, M, ?_, ?_, h⟩
      · rw [fx_X11_viewersBy_66]; simp (disch := omega) only [pz_l, pz_ltT, pz_ltF, pz_leT, pz_leF, pz_eqT, pz_eqF, pz_nF, pz_nqF, pz_cl, pz_rd, pz_up, pz_bd, pz_let, pk_mul, nI_add, pz_sub, pz_div, pz_m, pz_neg1, eq_self, or_self, false_or, or_false, true_or, or_true, ↓reduceIte, if_true, if_false, hh]
      · rw [fx_X12_viewersBy_64]
        by_cases ov : 2147483648 ≤ i + 2 * k
        · simp (disch := omega) only [pz_l, pz_ltT, pz_ltF, pz_leT, pz_leF, pz_eqT, pz_eqF, pz_nF, pz_nqF, pz_cl, pz_rd, pz_up, pz_bd, pz_let, pk_mul, nI_add, pz_sub, pz_div, pz_m, pz_neg1, eq_self, or_self, false_or, or_false, true_or, or_true, ↓reduceIte, if_true, if_false, pi_ov]
        · by_cases z2 : z < 2
          · simp (disch := omega) only [pz_l, pk_mul, nI_add, pz_leF, pz_ltF, pz_nF, pz_cl, s2, pi_m2, or_self, if_false]
          · simp (disch := omega) only [pz_l, pz_ltT, pz_ltF, pz_leT, pz_leF, pz_eqT, pz_eqF, pz_nF, pz_nqF, pz_cl, pz_rd, pz_up, pz_bd, pz_let, pk_mul, nI_add, pz_sub, pz_div, pz_m, pz_neg1, eq_self, or_self, false_or, or_false, true_or, or_true, ↓reduceIte, if_true, if_false, s2]
theorem pq_viewersBy : lq_viewersBy px_R := by
  rintro S M ⟨T, h⟩ a1 a2 a3 a4
  rcases pn_w a1 4 3 rfl (by decide) with ⟨g1, g2⟩ | ⟨s, hs, rfl, g1, g2⟩
  · refine ⟨-2, S, M, ?_, ?_, T, h⟩
    · simp (disch := omega) only [pz_l, pz_ltT, pz_ltF, pz_leT, pz_leF, pz_eqT, pz_eqF, pz_nF, pz_nqF, pz_cl, pz_rd, pz_up, pz_bd, pz_let, pk_mul, nI_add, pz_sub, pz_div, pz_m, pz_neg1, eq_self, or_self, false_or, or_false, true_or, or_true, ↓reduceIte, if_true, if_false, lx_viewersBy, fx_X11_viewersBy, g1]
    · simp (disch := omega) only [pz_l, pz_ltT, pz_ltF, pz_leT, pz_leF, pz_eqT, pz_eqF, pz_nF, pz_nqF, pz_cl, pz_rd, pz_up, pz_bd, pz_let, pk_mul, nI_add, pz_sub, pz_div, pz_m, pz_neg1, eq_self, or_self, false_or, or_false, true_or, or_true, ↓reduceIte, if_true, if_false, lm_viewersBy, fx_X12_viewersBy, g2]
  rcases pn_w a2 3 2 rfl (by decide) with ⟨k1, k2⟩ | ⟨o, ho, rfl, k1, k2⟩
  · refine ⟨-2, S, M, ?_, ?_, T, h⟩
    · simp (disch := omega) only [pz_l, pz_ltT, pz_ltF, pz_leT, pz_leF, pz_eqT, pz_eqF, pz_nF, pz_nqF, pz_cl, pz_rd, pz_up, pz_bd, pz_let, pk_mul, nI_add, pz_sub, pz_div, pz_m, pz_neg1, eq_self, or_self, false_or, or_false, true_or, or_true, ↓reduceIte, if_true, if_false, lx_viewersBy, fx_X11_viewersBy, g1, k1]
    · simp (disch := omega) only [pz_l, pz_ltT, pz_ltF, pz_leT, pz_leF, pz_eqT, pz_eqF, pz_nF, pz_nqF, pz_cl, pz_rd, pz_up, pz_bd, pz_let, pk_mul, nI_add, pz_sub, pz_div, pz_m, pz_neg1, eq_self, or_self, false_or, or_false, true_or, or_true, ↓reduceIte, if_true, if_false, lm_viewersBy, fx_X12_viewersBy, g2, k2]
  obtain ⟨so, z, hz, s1, s2, s3⟩ := h.2.2.2.2.2.2.2 s hs
  by_cases c0 : a4 < nI 0
  · refine ⟨-2, S, M, ?_, ?_, T, h⟩
    · simp (disch := omega) only [pz_l, pz_ltT, pz_ltF, pz_leT, pz_leF, pz_eqT, pz_eqF, pz_nF, pz_nqF, pz_cl, pz_rd, pz_up, pz_bd, pz_let, pk_mul, nI_add, pz_sub, pz_div, pz_m, pz_neg1, eq_self, or_self, false_or, or_false, true_or, or_true, ↓reduceIte, if_true, if_false, lx_viewersBy, fx_X11_viewersBy, g1, k1, c0]
    · simp (disch := omega) only [pz_l, pz_ltT, pz_ltF, pz_leT, pz_leF, pz_eqT, pz_eqF, pz_nF, pz_nqF, pz_cl, pz_rd, pz_up, pz_bd, pz_let, pk_mul, nI_add, pz_sub, pz_div, pz_m, pz_neg1, eq_self, or_self, false_or, or_false, true_or, or_true, ↓reduceIte, if_true, if_false, lm_viewersBy, fx_X12_viewersBy, g2, k2, fx_X12_in, c0]
  obtain ⟨n, hn, rfl⟩ := nI_of c0
  by_cases c8 : 8 < n
  · refine ⟨-2, S, M, ?_, ?_, T, h⟩
    · simp (disch := omega) only [pz_l, pz_ltT, pz_ltF, pz_leT, pz_leF, pz_eqT, pz_eqF, pz_nF, pz_nqF, pz_cl, pz_rd, pz_up, pz_bd, pz_let, pk_mul, nI_add, pz_sub, pz_div, pz_m, pz_neg1, eq_self, or_self, false_or, or_false, true_or, or_true, ↓reduceIte, if_true, if_false, lx_viewersBy, fx_X11_viewersBy, g1, k1, c0]
    · have e : fx_X12_in (nI n) (nI 0) (nI 8) = nI 0 := by simp (disch := omega) only [pz_l, pz_ltT, pz_ltF, pz_leT, pz_leF, pz_eqT, pz_eqF, pz_nF, pz_nqF, pz_cl, pz_rd, pz_up, pz_bd, pz_let, pk_mul, nI_add, pz_sub, pz_div, pz_m, pz_neg1, eq_self, or_self, false_or, or_false, true_or, or_true, ↓reduceIte, if_true, if_false, fx_X12_in]
      simp (disch := omega) only [pz_l, pz_ltT, pz_ltF, pz_leT, pz_leF, pz_eqT, pz_eqF, pz_nF, pz_nqF, pz_cl, pz_rd, pz_up, pz_bd, pz_let, pk_mul, nI_add, pz_sub, pz_div, pz_m, pz_neg1, eq_self, or_self, false_or, or_false, true_or, or_true, ↓reduceIte, if_true, if_false, lm_viewersBy, fx_X12_viewersBy, g2, k2, e]
  have e : fx_X12_in (nI n) (nI 0) (nI 8) = nI 1 := by simp (disch := omega) only [pz_l, pz_ltT, pz_ltF, pz_leT, pz_leF, pz_eqT, pz_eqF, pz_nF, pz_nqF, pz_cl, pz_rd, pz_up, pz_bd, pz_let, pk_mul, nI_add, pz_sub, pz_div, pz_m, pz_neg1, eq_self, or_self, false_or, or_false, true_or, or_true, ↓reduceIte, if_true, if_false, fx_X12_in]
  rcases pr_mis S hs with ⟨m1, m2⟩ | ⟨m1, m2⟩
  · refine ⟨-11, S, M, ?_, ?_, T, h⟩
    · simp (disch := omega) only [pz_l, pz_ltT, pz_ltF, pz_leT, pz_leF, pz_eqT, pz_eqF, pz_nF, pz_nqF, pz_cl, pz_rd, pz_up, pz_bd, pz_let, pk_mul, nI_add, pz_sub, pz_div, pz_m, pz_neg1, eq_self, or_self, false_or, or_false, true_or, or_true, ↓reduceIte, if_true, if_false, lx_viewersBy, fx_X11_viewersBy, g1, k1, m2]
    · simp (disch := omega) only [pz_l, pz_ltT, pz_ltF, pz_leT, pz_leF, pz_eqT, pz_eqF, pz_nF, pz_nqF, pz_cl, pz_rd, pz_up, pz_bd, pz_let, pk_mul, nI_add, pz_sub, pz_div, pz_m, pz_neg1, eq_self, or_self, false_or, or_false, true_or, or_true, ↓reduceIte, if_true, if_false, lm_viewersBy, fx_X12_viewersBy, g2, k2, e, so, m1]
  by_cases es : sx_sh_sorts S s = nI o
  rotate_left
  · refine ⟨-13, S, M, ?_, ?_, T, h⟩
    · simp (disch := omega) only [pz_l, pz_ltT, pz_ltF, pz_leT, pz_leF, pz_eqT, pz_eqF, pz_nF, pz_nqF, pz_cl, pz_rd, pz_up, pz_bd, pz_let, pk_mul, nI_add, pz_sub, pz_div, pz_m, pz_neg1, eq_self, or_self, false_or, or_false, true_or, or_true, ↓reduceIte, if_true, if_false, lx_viewersBy, fx_X11_viewersBy, fx_X5_sort, g1, k1, m2, es]
    · simp (disch := omega) only [pz_l, pz_ltT, pz_ltF, pz_leT, pz_leF, pz_eqT, pz_eqF, pz_nF, pz_nqF, pz_cl, pz_rd, pz_up, pz_bd, pz_let, pk_mul, nI_add, pz_sub, pz_div, pz_m, pz_neg1, eq_self, or_self, false_or, or_false, true_or, or_true, ↓reduceIte, if_true, if_false, lm_viewersBy, fx_X12_viewersBy, g2, k2, e, so, m1, es]
  obtain ⟨r, S1, M1, w1, w2, w3⟩ := pf_vb (a3 := a3) hs (show n < 9 by omega) n 0 0 am_fu am_fu S M (by omega) (by rw [pf_u]; omega) (by rw [pf_u]; omega) (by omega) h
  refine ⟨r, S1, M1, ?_, ?_, T, w3⟩
  · simp (disch := omega) only [lx_viewersBy, fx_X11_viewersBy, pz_l, g1, k1, m2, c0, pz_leT, fx_X5_sort, pz_rd, es, if_true, if_false, pz_eqT, pz_eqF]
    exact w1
  · have es' : (nI o = -(nI 1)) = False := pz_neg1 (by omega)
    simp (disch := omega) only [lm_viewersBy, fx_X12_viewersBy, pz_l, g2, k2, e, pz_ltF, pz_nF, pz_cl, or_self, so, es, es', if_true, if_false, pz_eqT, pz_eqF]
    exact w2
