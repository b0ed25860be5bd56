/-! ===== what a text says: the stack, run ===== -/
def pe_st (nm : Nat → Int32) (s : Int32) (q : (Nat → Int32) × Nat) : (Nat → Int32) × Nat := if 0 ≤ s then (upd q.1 q.2 s, q.2 + 1) else if fx_X8_isName s = 0 then (if s = -8 then (upd q.1 (q.2 - 1) (if q.1 (q.2 - 1) = 0 then 1 else 0), q.2) else if s = -9 then (upd q.1 (q.2 - 1) (-(q.1 (q.2 - 1))), q.2) else (upd q.1 (q.2 - 2) (fx_X8_joined s (q.1 (q.2 - 2)) (q.1 (q.2 - 1))), q.2 - 1)) else (upd q.1 q.2 (nm (-10 - s).toNatClampNeg), q.2 + 1)
def pe_run (nm : Nat → Int32) : List Int32 → (Nat → Int32) × Nat → (Nat → Int32) × Nat
  | [], q => q
  | s :: l, q => pe_run nm l (pe_st nm s q)
def pe_val (nm : Nat → Int32) (l : List Int32) : Int32 := (pe_run nm l (fun _ => 0, 0)).1 0
def pe_bd (p : Nat) (x : Int32) : Int32 := if p = 0 then fx_X11_bound x (-(nI 99)) (nI 99) else if p = 1 then fx_X11_bound x (nI 0) (nI 9) else fx_X11_bound x (nI 0) (nI 999)
/-- the kinds of steps -/
theorem pe_bin : ∀ s ∈ ([-6, -7, -60, -61, -43, -45, -42] : List Int32), ¬ 0 ≤ s ∧ fx_X8_isName s = 0 ∧ s ≠ -8 ∧ s ≠ -9 ∧ ∃ c, c < 19 ∧ 11 ≤ c ∧ c ≠ 13 ∧ pt_tr s = nI c := by
  intro s hs
  rcases List.mem_cons.mp hs with rfl | hs
  · exact ⟨by decide, by decide, by decide, by decide, 11, by decide, by decide, by decide, by decide⟩
  rcases List.mem_cons.mp hs with rfl | hs
  · exact ⟨by decide, by decide, by decide, by decide, 12, by decide, by decide, by decide, by decide⟩
  rcases List.mem_cons.mp hs with rfl | hs
  · exact ⟨by decide, by decide, by decide, by decide, 14, by decide, by decide, by decide, by decide⟩
  rcases List.mem_cons.mp hs with rfl | hs
  · exact ⟨by decide, by decide, by decide, by decide, 15, by decide, by decide, by decide, by decide⟩
  rcases List.mem_cons.mp hs with rfl | hs
  · exact ⟨by decide, by decide, by decide, by decide, 16, by decide, by decide, by decide, by decide⟩
  rcases List.mem_cons.mp hs with rfl | hs
  · exact ⟨by decide, by decide, by decide, by decide, 17, by decide, by decide, by decide, by decide⟩
  rcases List.mem_cons.mp hs with rfl | hs
  · exact ⟨by decide, by decide, by decide, by decide, 18, by decide, by decide, by decide, by decide⟩
  · exact absurd hs List.not_mem_nil
theorem pe_two : ∀ s ∈ ([-6, -7, -60, -61, -43, -45, -42] : List Int32), ∀ a b, fx_X12_two (pt_tr s) a b = fx_X8_joined s a b := by
  intro s hs a b
  rcases List.mem_cons.mp hs with rfl | hs
  · rw [show pt_tr (-6) = 11 by decide]; rfl
  rcases List.mem_cons.mp hs with rfl | hs
  · rw [show pt_tr (-7) = 12 by decide]; rfl
  rcases List.mem_cons.mp hs with rfl | hs
  · rw [show pt_tr (-60) = 14 by decide]; rfl
  rcases List.mem_cons.mp hs with rfl | hs
  · rw [show pt_tr (-61) = 15 by decide]; rfl
  rcases List.mem_cons.mp hs with rfl | hs
  · rw [show pt_tr (-43) = 16 by decide]; rfl
  rcases List.mem_cons.mp hs with rfl | hs
  · rw [show pt_tr (-45) = 17 by decide]; rfl
  rcases List.mem_cons.mp hs with rfl | hs
  · rw [show pt_tr (-42) = 18 by decide]; rfl
  · exact absurd hs List.not_mem_nil
theorem pe_nam : ∀ k, k < 6 → ¬ (0 : Int32) ≤ -(nI 10) - nI k ∧ fx_X8_isName (-(nI 10) - nI k) = 1 ∧ (-(nI 10)) - (-(nI 10) - nI k) = nI k ∧ pt_tr (-(nI 10) - nI k) = nI k ∧ (-(nI 10) - nI k) < 0 := by decide
theorem pe_cases {s : Int32} (h : pt_ok s) : (∃ j, j < 10000 ∧ s = nI j) ∨ (∃ k, k < 6 ∧ s = -(nI 10) - nI k) ∨ s = -8 ∨ s = -9 ∨ s ∈ ([-6, -7, -60, -61, -43, -45, -42] : List Int32) := by
  rcases h with h | hs
  · exact Or.inl h
  refine Or.inr ?_
  rcases List.mem_cons.mp hs with rfl | hs
  · exact Or.inr (Or.inr (Or.inr (by decide)))
  rcases List.mem_cons.mp hs with rfl | hs
  · exact Or.inr (Or.inr (Or.inr (by decide)))
  rcases List.mem_cons.mp hs with rfl | hs
  · exact Or.inr (Or.inl rfl)
  rcases List.mem_cons.mp hs with rfl | hs
  · exact Or.inr (Or.inr (Or.inl rfl))
  rcases List.mem_cons.mp hs with rfl | hs
  · exact Or.inl ⟨0, by decide, by decide⟩
  rcases List.mem_cons.mp hs with rfl | hs
  · exact Or.inl ⟨1, by decide, by decide⟩
  rcases List.mem_cons.mp hs with rfl | hs
  · exact Or.inl ⟨2, by decide, by decide⟩
  rcases List.mem_cons.mp hs with rfl | hs
  · exact Or.inl ⟨3, by decide, by decide⟩
  rcases List.mem_cons.mp hs with rfl | hs
  · exact Or.inl ⟨4, by decide, by decide⟩
  rcases List.mem_cons.mp hs with rfl | hs
  · exact Or.inl ⟨5, by decide, by decide⟩
  exact Or.inr (Or.inr (Or.inr (by
    rcases List.mem_cons.mp hs with rfl | hs
    · decide
    rcases List.mem_cons.mp hs with rfl | hs
    · decide
    rcases List.mem_cons.mp hs with rfl | hs
    · decide
    rcases List.mem_cons.mp hs with rfl | hs
    · decide
    rcases List.mem_cons.mp hs with rfl | hs
    · decide
    · exact absurd hs List.not_mem_nil)))
theorem px_ks (S : sx_T) (x y : Nat → Int32) : ux_tx_stack (ux_tx_stack S x) y = ux_tx_stack S y := by
  show (S.1, am_us (am_us S.2.1 13 x) 13 y, S.2.2) = (S.1, am_us S.2.1 13 y, S.2.2)
  rw [pu_uu]
theorem pm_ks (M : sm_T) (x y : Nat → Int32) : um_stack (um_stack M x) y = um_stack M y := by
  show (M.1, am_us (am_us M.2 13 x) 13 y) = (M.1, am_us M.2 13 y)
  rw [pu_uu]
theorem px_ki (S : sx_T) : ux_tx_stack S (sx_tx_stack S) = S := by
  show (S.1, am_us S.2.1 13 (S.2.1 13), S.2.2) = S
  rw [pu_id]
theorem pm_ki (M : sm_T) : um_stack M (sm_stack M) = M := by
  show (M.1, am_us M.2 13 (M.2 13)) = M
  rw [pu_id]
theorem pg_k1 (S : sx_T) (x : Nat → Int32) : sx_tx_stack (ux_tx_stack S x) = x := rfl
theorem pg_k2 (S : sx_T) (x : Nat → Int32) : sx_tx_steps (ux_tx_stack S x) = sx_tx_steps S := rfl
theorem pg_k3 (S : sx_T) (x : Nat → Int32) : sx_vi_names (ux_tx_stack S x) = sx_vi_names S := rfl
theorem pg_k4 (S : sm_T) (x : Nat → Int32) : sm_stack (um_stack S x) = x := rfl
theorem pg_k5 (S : sm_T) (x : Nat → Int32) : sm_codes (um_stack S x) = sm_codes S := rfl
theorem pg_k6 (S : sm_T) (x : Nat → Int32) : sm_named (um_stack S x) = sm_named S := rfl
theorem pg_k7 (S : sm_T) (x : Nat → Int32) : sm_rule (um_stack S x) = sm_rule S := rfl
theorem pg_k8 (S : sm_T) (x : Nat → Int32) : sm_starts (um_stack S x) = sm_starts S := rfl
theorem pe_F {a : Prop} (h : ¬ a) : a = False := eq_false h
/-- one step of the class -/
theorem pe_c1 {S : sx_T} {f : Nat → Int32} {n p i e d d' : Nat} {v6 s : Int32} (hs : pt_ok s) (hd : pt_dp s d = some d') (hd2 : d < 160) (e6 : v6 = nI d - nI 1) (hi : i < e) (he : e ≤ 960) (hst : sx_tx_steps S i = s) : fx_X8_said_r38_49 (n + 1) (nI p) (nI e) v6 (nI i) (ux_tx_stack S f) = fx_X8_said_r38_49 n (nI p) (nI e) (nI d' - nI 1) (nI (i + 1)) (ux_tx_stack S (pe_st (sx_vi_names S) s (f, d)).1) ∧ (pe_st (sx_vi_names S) s (f, d)).2 = d' := by
  rw [fx_X8_said_r38_49]
  have v1 : v6 + nI 1 = nI d := by rw [e6]; exact Int32.sub_add_cancel _ _
  have w1 : nI (d + 1) - nI 1 = nI d := nI_pred d
  unfold pt_dp at hd
  rcases pe_cases hs with ⟨j, hj, rfl⟩ | ⟨k, hk, rfl⟩ | rfl | rfl | hb
  · rw [if_pos (nI_pos' (by omega))] at hd
    obtain rfl := Option.some.inj hd
    simp (disch := omega) only [pz_l, pz_ltT, pz_ltF, pz_leT, pz_leF, pz_eqT, pz_eqF, pz_nF, pz_nqF, pz_cl, pz_rd, pz_up, pz_bd, pz_let, pk_mul, nI_add, pz_sub, pz_div, pz_m, pz_neg1, eq_self, or_self, false_or, or_false, true_or, or_true, ↓reduceIte, if_true, if_false, pg_k1, pg_k2, pg_k3, hst, fx_X8_said_r38_80, v1, px_ks, pe_st]
    exact ⟨rfl, trivial⟩
  · obtain ⟨a1, a2, a3, a4, a5⟩ := pe_nam k hk
    have a2' : ¬ fx_X8_isName (-(nI 10) - nI k) = 0 := by rw [a2]; decide
    rw [if_neg a1, if_neg a2'] at hd
    obtain rfl := Option.some.inj hd
    have b1 := pe_F (show ¬ nI 0 ≤ -(nI 10) - nI k from a1)
    have b2 : fx_X8_isName (-(nI 10) - nI k) = nI 1 := a2
    have b5 : (-(nI 10) - nI k < nI 0) = True := eq_true a5
    simp (disch := omega) only [pz_l, pz_ltT, pz_ltF, pz_leT, pz_leF, pz_eqT, pz_eqF, pz_nF, pz_nqF, pz_cl, pz_rd, pz_up, pz_bd, pz_let, pk_mul, nI_add, pz_sub, pz_div, pz_m, pz_neg1, eq_self, or_self, false_or, or_false, true_or, or_true, ↓reduceIte, if_true, if_false, pg_k1, pg_k2, pg_k3, hst, fx_X8_said_r38_80, v1, px_ks, pe_st, b1, b2, b5, a3]
    exact ⟨rfl, trivial⟩
  · rw [if_neg (by decide), if_pos (by decide), if_pos (Or.inl rfl)] at hd
    have hd1 : 1 ≤ d := by
      rcases Nat.lt_or_ge d 1 with q | q
      · rw [if_neg (by omega)] at hd; cases hd
      · exact q
    rw [if_pos hd1] at hd
    obtain rfl := Option.some.inj hd
    have b1 := pe_F (show ¬ nI 0 ≤ -(nI 8) by decide)
    have b2 : fx_X8_isName (-(nI 8)) = nI 0 := by decide
    have v2 : v6 = nI (d - 1) := by rw [e6]; exact pz_sub hd1
    subst v2
    by_cases z : f (d - 1) = nI 0
    · simp (disch := omega) only [pz_l, pz_ltT, pz_ltF, pz_leT, pz_leF, pz_eqT, pz_eqF, pz_nF, pz_nqF, pz_cl, pz_rd, pz_up, pz_bd, pz_let, pk_mul, nI_add, pz_sub, pz_div, pz_m, pz_neg1, eq_self, or_self, false_or, or_false, true_or, or_true, ↓reduceIte, if_true, if_false, pg_k1, pg_k2, pg_k3, hst, px_ks, pe_st, b1, b2, z]
      exact ⟨trivial, trivial⟩
    · simp (disch := omega) only [pz_l, pz_ltT, pz_ltF, pz_leT, pz_leF, pz_eqT, pz_eqF, pz_nF, pz_nqF, pz_cl, pz_rd, pz_up, pz_bd, pz_let, pk_mul, nI_add, pz_sub, pz_div, pz_m, pz_neg1, eq_self, or_self, false_or, or_false, true_or, or_true, ↓reduceIte, if_true, if_false, pg_k1, pg_k2, pg_k3, hst, px_ks, pe_st, b1, b2, z]
      exact ⟨trivial, trivial⟩
  · rw [if_neg (by decide), if_pos (by decide), if_pos (Or.inr rfl)] at hd
    have hd1 : 1 ≤ d := by
      rcases Nat.lt_or_ge d 1 with q | q
      · rw [if_neg (by omega)] at hd; cases hd
      · exact q
    rw [if_pos hd1] at hd
    obtain rfl := Option.some.inj hd
    have b1 := pe_F (show ¬ nI 0 ≤ -(nI 9) by decide)
    have b2 : fx_X8_isName (-(nI 9)) = nI 0 := by decide
    have b3 := pe_F (show ¬ -(nI 9) = -(nI 8) by decide)
    have v2 : v6 = nI (d - 1) := by rw [e6]; exact pz_sub hd1
    subst v2
    simp (disch := omega) only [pz_l, pz_ltT, pz_ltF, pz_leT, pz_leF, pz_eqT, pz_eqF, pz_nF, pz_nqF, pz_cl, pz_rd, pz_up, pz_bd, pz_let, pk_mul, nI_add, pz_sub, pz_div, pz_m, pz_neg1, eq_self, or_self, false_or, or_false, true_or, or_true, ↓reduceIte, if_true, if_false, pg_k1, pg_k2, pg_k3, hst, px_ks, pe_st, b1, b2, b3]
    exact ⟨trivial, trivial⟩
  · obtain ⟨a1, a2, a3, a4, -⟩ := pe_bin s hb
    rw [if_neg a1, if_pos a2, if_neg (fun q => q.elim a3 a4)] at hd
    have hd1 : 2 ≤ d := by
      rcases Nat.lt_or_ge d 2 with q | q
      · rw [if_neg (by omega)] at hd; cases hd
      · exact q
    rw [if_pos hd1] at hd
    obtain rfl := Option.some.inj hd
    have b1 := pe_F (show ¬ nI 0 ≤ s from a1)
    have b2 : fx_X8_isName s = nI 0 := a2
    have b3 := pe_F (show ¬ s = -(nI 8) from a3)
    have b4 := pe_F (show ¬ s = -(nI 9) from a4)
    have v2 : v6 = nI (d - 1) := by rw [e6]; exact pz_sub (by omega)
    subst v2
    have c1 : d - 1 - 1 = d - 2 := by omega
    have c2 : d - 2 + 1 = d - 1 := by omega
    simp (disch := omega) only [pz_l, pz_ltT, pz_ltF, pz_leT, pz_leF, pz_eqT, pz_eqF, pz_nF, pz_nqF, pz_cl, pz_rd, pz_up, pz_bd, pz_let, pk_mul, nI_add, pz_sub, pz_div, pz_m, pz_neg1, eq_self, or_self, false_or, or_false, true_or, or_true, ↓reduceIte, if_true, if_false, pg_k1, pg_k2, pg_k3, hst, px_ks, pe_st, b1, b2, b3, b4, c1, c2]
    exact ⟨trivial, trivial⟩
