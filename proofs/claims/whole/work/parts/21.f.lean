/-! ===== images, copies, viewers by a sheet ===== -/
theorem pu_o2 {α : Type} {f : Nat → α} {i j : Nat} {x y x' y' : α} : am_us (am_us (am_us (am_us f i x) j y) i x') j y' = am_us (am_us f i x') j y' := by
  funext k
  unfold am_us
  cases Nat.beq k i <;> cases Nat.beq k j <;> rfl
def pu_c (f g : Nat → Int32) (a b : Nat) : Nat → Int32 := fun j => if a ≤ j ∧ j < b then f j else g j
theorem pu_cs {f g : Nat → Int32} {a b : Nat} (h : a < b) : pu_c f (upd g a (f a)) (a + 1) b = pu_c f g a b := by
  funext j
  unfold pu_c
  rw [pz_u]
  by_cases e : j = a
  · subst e; rw [if_pos rfl, if_neg (show ¬ (j + 1 ≤ j ∧ j < b) by omega), if_pos (show j ≤ j ∧ j < b by omega)]
  · rw [if_neg e]
    by_cases e2 : a ≤ j ∧ j < b
    · rw [if_pos (show a + 1 ≤ j ∧ j < b by omega), if_pos e2]
    · rw [if_neg (show ¬ (a + 1 ≤ j ∧ j < b) by omega), if_neg e2]
theorem pu_cn {f g : Nat → Int32} {a : Nat} : pu_c f g a a = g := by
  funext j
  unfold pu_c
  rw [if_neg (by omega)]
theorem pu_ci {f g : Nat → Int32} {a b j : Nat} (h : a ≤ j) (h2 : j < b) : pu_c f g a b j = f j := if_pos ⟨h, h2⟩
def pu_g (f g : Nat → Int32) (p a b : Nat) : Nat → Int32 := fun j => if p + a ≤ j ∧ j < p + b then f (j - p) else g j
theorem pu_gs {f g : Nat → Int32} {p a b : Nat} (h : a < b) : pu_g f (upd g (p + a) (f a)) p (a + 1) b = pu_g f g p a b := by
  funext j
  unfold pu_g
  rw [pz_u]
  by_cases e : j = p + a
  · subst e; rw [if_pos rfl, if_neg (show ¬ (p + (a + 1) ≤ p + a ∧ p + a < p + b) by omega), if_pos (show p + a ≤ p + a ∧ p + a < p + b by omega), Nat.add_sub_cancel_left]
  · rw [if_neg e]
    by_cases e2 : p + a ≤ j ∧ j < p + b
    · rw [if_pos (show p + (a + 1) ≤ j ∧ j < p + b by omega), if_pos e2]
    · rw [if_neg (show ¬ (p + (a + 1) ≤ j ∧ j < p + b) by omega), if_neg e2]
theorem pu_gn {f g : Nat → Int32} {p a : Nat} : pu_g f g p a a = g := by
  funext j
  unfold pu_g
  rw [if_neg (by omega)]
theorem px_o_kept2 (S : sx_T) (L D L' D' : Nat → Int32) : ux_kept_damp (ux_kept_light (ux_kept_damp (ux_kept_light S L) D) L') D' = ux_kept_damp (ux_kept_light S L') D' := by
  show (S.1, am_us (am_us (am_us (am_us S.2.1 4 L) 5 D) 4 L') 5 D', S.2.2) = (S.1, am_us (am_us S.2.1 4 L') 5 D', S.2.2)
  rw [pu_o2]
theorem px_i_kept2 (S : sx_T) : ux_kept_damp (ux_kept_light S (sx_kept_light S)) (sx_kept_damp S) = S := by
  show (S.1, am_us (am_us S.2.1 4 (S.2.1 4)) 5 (S.2.1 5), S.2.2) = S
  rw [pu_id, pu_id]
theorem pf_bc_kept2 : ∀ (d k fu : Nat) (S : sx_T) (L D : Nat → Int32), k + d = 6 → d < fu → fx_X6_become_o6_r1_2 fu (nI k) (ux_kept_damp (ux_kept_light S L) D) = fx_X6_become_o6_r1_48 am_fu (nI 0) (ux_kept_damp (ux_kept_light S (pu_c (sx_now_light S) L k 6)) (pu_c (sx_now_damp S) D k 6)) := by
  intro d
  induction d with
  | zero =>
    intro k fu S L D h1 h2
    obtain ⟨f, rfl⟩ : ∃ f, fu = f + 1 := ⟨fu - 1, by omega⟩
    have hk : k = 6 := by omega
    subst hk
    rw [fx_X6_become_o6_r1_2]
    simp (disch := omega) only [pz_l, pz_ltT, pz_ltF, pz_leT, pz_leF, pz_eqT, pz_eqF, pz_nF, pz_nqF, pz_cl, pz_rd, pz_up, pz_bd, pz_let, pk_mul, nI_add, pz_sub, pz_div, pz_m, pz_neg1, eq_self, or_self, false_or, or_false, true_or, or_true, ↓reduceIte, if_true, if_false, pu_cn]
    
  | succ d ih =>
    intro k fu S L D h1 h2
    obtain ⟨f, rfl⟩ : ∃ f, fu = f + 1 := ⟨fu - 1, by omega⟩
    rw [fx_X6_become_o6_r1_2]
    simp (disch := omega) only [pz_l, pz_ltT, pz_ltF, pz_leT, pz_leF, pz_eqT, pz_eqF, pz_nF, pz_nqF, pz_cl, pz_rd, pz_up, pz_bd, pz_let, pk_mul, nI_add, pz_sub, pz_div, pz_m, pz_neg1, eq_self, or_self, false_or, or_false, true_or, or_true, ↓reduceIte, if_true, if_false]
    refine (congrArg (fx_X6_become_o6_r1_2 f (nI (k + 1))) (px_o_kept2 S L D _ _)).trans ?_
    refine (ih (k + 1) f S (upd L k (sx_now_light S k)) (upd D k (sx_now_damp S k)) (by omega) (by omega)).trans ?_
    rw [pu_cs (by omega), pu_cs (by omega)]
theorem px_o_kept48 (S : sx_T) (L D L' D' : Nat → Int32) : ux_kept_quiet (ux_kept_rich (ux_kept_quiet (ux_kept_rich S L) D) L') D' = ux_kept_quiet (ux_kept_rich S L') D' := by
  show (S.1, am_us (am_us (am_us (am_us S.2.1 6 L) 7 D) 6 L') 7 D', S.2.2) = (S.1, am_us (am_us S.2.1 6 L') 7 D', S.2.2)
  rw [pu_o2]
theorem px_i_kept48 (S : sx_T) : ux_kept_quiet (ux_kept_rich S (sx_kept_rich S)) (sx_kept_quiet S) = S := by
  show (S.1, am_us (am_us S.2.1 6 (S.2.1 6)) 7 (S.2.1 7), S.2.2) = S
  rw [pu_id, pu_id]
theorem pf_bc_kept48 : ∀ (d k fu : Nat) (S : sx_T) (L D : Nat → Int32), k + d = 8 → d < fu → fx_X6_become_o6_r1_48 fu (nI k) (ux_kept_quiet (ux_kept_rich S L) D) = some (ux_kept_law (ux_kept_hour (ux_kept_viewers (ux_kept_quiet (ux_kept_rich S (pu_c (sx_now_rich S) L k 8)) (pu_c (sx_now_quiet S) D k 8)) (sx_now_viewers S)) (sx_now_hour S)) (sx_now_law S)) := by
  intro d
  induction d with
  | zero =>
    intro k fu S L D h1 h2
    obtain ⟨f, rfl⟩ : ∃ f, fu = f + 1 := ⟨fu - 1, by omega⟩
    have hk : k = 8 := by omega
    subst hk
    rw [fx_X6_become_o6_r1_48]
    simp (disch := omega) only [pz_l, pz_ltT, pz_ltF, pz_leT, pz_leF, pz_eqT, pz_eqF, pz_nF, pz_nqF, pz_cl, pz_rd, pz_up, pz_bd, pz_let, pk_mul, nI_add, pz_sub, pz_div, pz_m, pz_neg1, eq_self, or_self, false_or, or_false, true_or, or_true, ↓reduceIte, if_true, if_false, pu_cn]
    rfl
  | succ d ih =>
    intro k fu S L D h1 h2
    obtain ⟨f, rfl⟩ : ∃ f, fu = f + 1 := ⟨fu - 1, by omega⟩
    rw [fx_X6_become_o6_r1_48]
    simp (disch := omega) only [pz_l, pz_ltT, pz_ltF, pz_leT, pz_leF, pz_eqT, pz_eqF, pz_nF, pz_nqF, pz_cl, pz_rd, pz_up, pz_bd, pz_let, pk_mul, nI_add, pz_sub, pz_div, pz_m, pz_neg1, eq_self, or_self, false_or, or_false, true_or, or_true, ↓reduceIte, if_true, if_false]
    refine (congrArg (fx_X6_become_o6_r1_48 f (nI (k + 1))) (px_o_kept48 S L D _ _)).trans ?_
    refine (ih (k + 1) f S (upd L k (sx_now_rich S k)) (upd D k (sx_now_quiet S k)) (by omega) (by omega)).trans ?_
    rw [pu_cs (by omega), pu_cs (by omega)]
def pt_bc_kept (S : sx_T) : sx_T := ux_kept_law (ux_kept_hour (ux_kept_viewers (ux_kept_quiet (ux_kept_rich (ux_kept_damp (ux_kept_light S (pu_c (sx_now_light S) (sx_kept_light S) 0 6)) (pu_c (sx_now_damp S) (sx_kept_damp S) 0 6)) (pu_c (sx_now_rich S) (sx_kept_rich S) 0 8)) (pu_c (sx_now_quiet S) (sx_kept_quiet S) 0 8)) (sx_now_viewers S)) (sx_now_hour S)) (sx_now_law S)
theorem pf_bc_kept (S : sx_T) : fx_X6_become_o6_r1 S = some (pt_bc_kept S) := by
  unfold fx_X6_become_o6_r1
  refine (congrArg (fx_X6_become_o6_r1_2 am_fu 0) (px_i_kept2 S).symm).trans ?_
  refine (pf_bc_kept2 6 0 am_fu S _ _ (by omega) (by rw [pf_u]; omega)).trans ?_
  refine (congrArg (fx_X6_become_o6_r1_48 am_fu (nI 0)) (px_i_kept48 (ux_kept_damp (ux_kept_light S (pu_c (sx_now_light S) (sx_kept_light S) 0 6)) (pu_c (sx_now_damp S) (sx_kept_damp S) 0 6))).symm).trans ?_
  exact pf_bc_kept48 8 0 am_fu (ux_kept_damp (ux_kept_light S (pu_c (sx_now_light S) (sx_kept_light S) 0 6)) (pu_c (sx_now_damp S) (sx_kept_damp S) 0 6)) _ _ (by omega) (by rw [pf_u]; omega)
theorem px_o_now2 (S : sx_T) (L D L' D' : Nat → Int32) : ux_now_damp (ux_now_light (ux_now_damp (ux_now_light S L) D) L') D' = ux_now_damp (ux_now_light S L') D' := by
  show (S.1, am_us (am_us (am_us (am_us S.2.1 0 L) 1 D) 0 L') 1 D', S.2.2) = (S.1, am_us (am_us S.2.1 0 L') 1 D', S.2.2)
  rw [pu_o2]
theorem px_i_now2 (S : sx_T) : ux_now_damp (ux_now_light S (sx_now_light S)) (sx_now_damp S) = S := by
  show (S.1, am_us (am_us S.2.1 0 (S.2.1 0)) 1 (S.2.1 1), S.2.2) = S
  rw [pu_id, pu_id]
theorem pf_bc_now2 : ∀ (d k fu : Nat) (S : sx_T) (L D : Nat → Int32), k + d = 6 → d < fu → fx_X6_become_o1_r6_2 fu (nI k) (ux_now_damp (ux_now_light S L) D) = fx_X6_become_o1_r6_48 am_fu (nI 0) (ux_now_damp (ux_now_light S (pu_c (sx_kept_light S) L k 6)) (pu_c (sx_kept_damp S) D k 6)) := by
  intro d
  induction d with
  | zero =>
    intro k fu S L D h1 h2
    obtain ⟨f, rfl⟩ : ∃ f, fu = f + 1 := ⟨fu - 1, by omega⟩
    have hk : k = 6 := by omega
    subst hk
    rw [fx_X6_become_o1_r6_2]
    simp (disch := omega) only [pz_l, pz_ltT, pz_ltF, pz_leT, pz_leF, pz_eqT, pz_eqF, pz_nF, pz_nqF, pz_cl, pz_rd, pz_up, pz_bd, pz_let, pk_mul, nI_add, pz_sub, pz_div, pz_m, pz_neg1, eq_self, or_self, false_or, or_false, true_or, or_true, ↓reduceIte, if_true, if_false, pu_cn]
    
  | succ d ih =>
    intro k fu S L D h1 h2
    obtain ⟨f, rfl⟩ : ∃ f, fu = f + 1 := ⟨fu - 1, by omega⟩
    rw [fx_X6_become_o1_r6_2]
    simp (disch := omega) only [pz_l, pz_ltT, pz_ltF, pz_leT, pz_leF, pz_eqT, pz_eqF, pz_nF, pz_nqF, pz_cl, pz_rd, pz_up, pz_bd, pz_let, pk_mul, nI_add, pz_sub, pz_div, pz_m, pz_neg1, eq_self, or_self, false_or, or_false, true_or, or_true, ↓reduceIte, if_true, if_false]
    refine (congrArg (fx_X6_become_o1_r6_2 f (nI (k + 1))) (px_o_now2 S L D _ _)).trans ?_
    refine (ih (k + 1) f S (upd L k (sx_kept_light S k)) (upd D k (sx_kept_damp S k)) (by omega) (by omega)).trans ?_
    rw [pu_cs (by omega), pu_cs (by omega)]
theorem px_o_now48 (S : sx_T) (L D L' D' : Nat → Int32) : ux_now_quiet (ux_now_rich (ux_now_quiet (ux_now_rich S L) D) L') D' = ux_now_quiet (ux_now_rich S L') D' := by
  show (S.1, am_us (am_us (am_us (am_us S.2.1 2 L) 3 D) 2 L') 3 D', S.2.2) = (S.1, am_us (am_us S.2.1 2 L') 3 D', S.2.2)
  rw [pu_o2]
theorem px_i_now48 (S : sx_T) : ux_now_quiet (ux_now_rich S (sx_now_rich S)) (sx_now_quiet S) = S := by
  show (S.1, am_us (am_us S.2.1 2 (S.2.1 2)) 3 (S.2.1 3), S.2.2) = S
  rw [pu_id, pu_id]
theorem pf_bc_now48 : ∀ (d k fu : Nat) (S : sx_T) (L D : Nat → Int32), k + d = 8 → d < fu → fx_X6_become_o1_r6_48 fu (nI k) (ux_now_quiet (ux_now_rich S L) D) = some (ux_now_law (ux_now_hour (ux_now_viewers (ux_now_quiet (ux_now_rich S (pu_c (sx_kept_rich S) L k 8)) (pu_c (sx_kept_quiet S) D k 8)) (sx_kept_viewers S)) (sx_kept_hour S)) (sx_kept_law S)) := by
  intro d
  induction d with
  | zero =>
    intro k fu S L D h1 h2
    obtain ⟨f, rfl⟩ : ∃ f, fu = f + 1 := ⟨fu - 1, by omega⟩
    have hk : k = 8 := by omega
    subst hk
    rw [fx_X6_become_o1_r6_48]
    simp (disch := omega) only [pz_l, pz_ltT, pz_ltF, pz_leT, pz_leF, pz_eqT, pz_eqF, pz_nF, pz_nqF, pz_cl, pz_rd, pz_up, pz_bd, pz_let, pk_mul, nI_add, pz_sub, pz_div, pz_m, pz_neg1, eq_self, or_self, false_or, or_false, true_or, or_true, ↓reduceIte, if_true, if_false, pu_cn]
    rfl
  | succ d ih =>
    intro k fu S L D h1 h2
    obtain ⟨f, rfl⟩ : ∃ f, fu = f + 1 := ⟨fu - 1, by omega⟩
    rw [fx_X6_become_o1_r6_48]
    simp (disch := omega) only [pz_l, pz_ltT, pz_ltF, pz_leT, pz_leF, pz_eqT, pz_eqF, pz_nF, pz_nqF, pz_cl, pz_rd, pz_up, pz_bd, pz_let, pk_mul, nI_add, pz_sub, pz_div, pz_m, pz_neg1, eq_self, or_self, false_or, or_false, true_or, or_true, ↓reduceIte, if_true, if_false]
    refine (congrArg (fx_X6_become_o1_r6_48 f (nI (k + 1))) (px_o_now48 S L D _ _)).trans ?_
    refine (ih (k + 1) f S (upd L k (sx_kept_rich S k)) (upd D k (sx_kept_quiet S k)) (by omega) (by omega)).trans ?_
    rw [pu_cs (by omega), pu_cs (by omega)]
def pt_bc_now (S : sx_T) : sx_T := ux_now_law (ux_now_hour (ux_now_viewers (ux_now_quiet (ux_now_rich (ux_now_damp (ux_now_light S (pu_c (sx_kept_light S) (sx_now_light S) 0 6)) (pu_c (sx_kept_damp S) (sx_now_damp S) 0 6)) (pu_c (sx_kept_rich S) (sx_now_rich S) 0 8)) (pu_c (sx_kept_quiet S) (sx_now_quiet S) 0 8)) (sx_kept_viewers S)) (sx_kept_hour S)) (sx_kept_law S)
theorem pf_bc_now (S : sx_T) : fx_X6_become_o1_r6 S = some (pt_bc_now S) := by
  unfold fx_X6_become_o1_r6
  refine (congrArg (fx_X6_become_o1_r6_2 am_fu 0) (px_i_now2 S).symm).trans ?_
  refine (pf_bc_now2 6 0 am_fu S _ _ (by omega) (by rw [pf_u]; omega)).trans ?_
  refine (congrArg (fx_X6_become_o1_r6_48 am_fu (nI 0)) (px_i_now48 (ux_now_damp (ux_now_light S (pu_c (sx_kept_light S) (sx_now_light S) 0 6)) (pu_c (sx_kept_damp S) (sx_now_damp S) 0 6))).symm).trans ?_
  exact pf_bc_now48 8 0 am_fu (ux_now_damp (ux_now_light S (pu_c (sx_kept_light S) (sx_now_light S) 0 6)) (pu_c (sx_kept_damp S) (sx_now_damp S) 0 6)) _ _ (by omega) (by rw [pf_u]; omega)
theorem pm_o7 (M : sm_T) (x y : Nat → Int32) : um_imageRows (um_imageRows M x) y = um_imageRows M y := by
  show (M.1, am_us (am_us M.2 7 x) 7 y) = (M.1, am_us M.2 7 y)
  rw [pu_uu]
theorem pm_i7 (M : sm_T) : um_imageRows M (sm_imageRows M) = M := by
  show (M.1, am_us M.2 7 (M.2 7)) = M
  rw [pu_id]
theorem pm_o3 (M : sm_T) (x y : Nat → Int32) : um_flat (um_flat M x) y = um_flat M y := by
  show (M.1, am_us (am_us M.2 3 x) 3 y) = (M.1, am_us M.2 3 y)
  rw [pu_uu]
theorem pm_i3 (M : sm_T) : um_flat M (sm_flat M) = M := by
  show (M.1, am_us M.2 3 (M.2 3)) = M
  rw [pu_id]
theorem pm_o2 (M : sm_T) (x y : Nat → Int32) : um_ones (um_ones M x) y = um_ones M y := by
  show (M.1, am_us (am_us M.2 2 x) 2 y) = (M.1, am_us M.2 2 y)
  rw [pu_uu]
theorem pm_i2 (M : sm_T) : um_ones M (sm_ones M) = M := by
  show (M.1, am_us M.2 2 (M.2 2)) = M
  rw [pu_id]
def pt_him (M : sm_T) : sm_T := um_imageHeld (um_imageHeld (um_imageHeld M (upd (sm_imageHeld M) 0 (sm_viewers M))) (upd (upd (sm_imageHeld M) 0 (sm_viewers M)) 1 (sm_hour M))) (upd (upd (upd (sm_imageHeld M) 0 (sm_viewers M)) 1 (sm_hour M)) 2 (sm_rule M))
theorem pf_im33 : ∀ (d k fu : Nat) (M : sm_T) (X : Nat → Int32), k + d = 16 → d < fu → fx_X12_image_33 fu (nI k) (um_imageRows M X) = some (sm_viewers M, pt_him (um_imageRows M (pu_g (sm_ones M) X 12 k 16))) := by
  intro d
  induction d with
  | zero =>
    intro k fu M X h1 h2
    obtain ⟨f, rfl⟩ : ∃ f, fu = f + 1 := ⟨fu - 1, by omega⟩
    have hk : k = 16 := by omega
    subst hk
    rw [fx_X12_image_33]
    simp (disch := omega) only [pz_l, pz_ltT, pz_ltF, pz_leT, pz_leF, pz_eqT, pz_eqF, pz_nF, pz_nqF, pz_cl, pz_rd, pz_up, pz_bd, pz_let, pk_mul, nI_add, pz_sub, pz_div, pz_m, pz_neg1, eq_self, or_self, false_or, or_false, true_or, or_true, ↓reduceIte, if_true, if_false, pu_gn]
    rfl
  | succ d ih =>
    intro k fu M X h1 h2
    obtain ⟨f, rfl⟩ : ∃ f, fu = f + 1 := ⟨fu - 1, by omega⟩
    rw [fx_X12_image_33]
    simp (disch := omega) only [pz_l, pz_ltT, pz_ltF, pz_leT, pz_leF, pz_eqT, pz_eqF, pz_nF, pz_nqF, pz_cl, pz_rd, pz_up, pz_bd, pz_let, pk_mul, nI_add, pz_sub, pz_div, pz_m, pz_neg1, eq_self, or_self, false_or, or_false, true_or, or_true, ↓reduceIte, if_true, if_false]
    refine (congrArg (fx_X12_image_33 f (nI (k + 1))) (pm_o7 M X _)).trans ?_
    refine (ih (k + 1) f M (upd X (12 + k) (sm_ones M k)) (by omega) (by omega)).trans ?_
    rw [pu_gs (by omega)]
theorem pf_im7 : ∀ (d k fu : Nat) (M : sm_T) (X : Nat → Int32), k + d = 12 → d < fu → fx_X12_image_7 fu (nI k) (um_imageRows M X) = fx_X12_image_33 am_fu (nI 0) (um_imageRows M (pu_c (sm_flat M) X k 12)) := by
  intro d
  induction d with
  | zero =>
    intro k fu M X h1 h2
    obtain ⟨f, rfl⟩ : ∃ f, fu = f + 1 := ⟨fu - 1, by omega⟩
    have hk : k = 12 := by omega
    subst hk
    rw [fx_X12_image_7]
    simp (disch := omega) only [pz_l, pz_ltT, pz_ltF, pz_leT, pz_leF, pz_eqT, pz_eqF, pz_nF, pz_nqF, pz_cl, pz_rd, pz_up, pz_bd, pz_let, pk_mul, nI_add, pz_sub, pz_div, pz_m, pz_neg1, eq_self, or_self, false_or, or_false, true_or, or_true, ↓reduceIte, if_true, if_false, pu_cn]
    
  | succ d ih =>
    intro k fu M X h1 h2
    obtain ⟨f, rfl⟩ : ∃ f, fu = f + 1 := ⟨fu - 1, by omega⟩
    rw [fx_X12_image_7]
    simp (disch := omega) only [pz_l, pz_ltT, pz_ltF, pz_leT, pz_leF, pz_eqT, pz_eqF, pz_nF, pz_nqF, pz_cl, pz_rd, pz_up, pz_bd, pz_let, pk_mul, nI_add, pz_sub, pz_div, pz_m, pz_neg1, eq_self, or_self, false_or, or_false, true_or, or_true, ↓reduceIte, if_true, if_false]
    refine (congrArg (fx_X12_image_7 f (nI (k + 1))) (pm_o7 M X _)).trans ?_
    refine (ih (k + 1) f M (upd X k (sm_flat M k)) (by omega) (by omega)).trans ?_
    rw [pu_cs (by omega)]
theorem pf_bk38 : ∀ (d k fu : Nat) (M : sm_T) (X : Nat → Int32), k + d = 16 → d < fu → fx_X12_back_38 fu (nI k) (um_ones M X) = some (sm_imageHeld M 0, um_rule (um_hour (um_viewers (um_ones M (pu_c (fun i => sm_imageRows M (12 + i)) X k 16)) (sm_imageHeld M 0)) (sm_imageHeld M 1)) (sm_imageHeld M 2)) := by
  intro d
  induction d with
  | zero =>
    intro k fu M X h1 h2
    obtain ⟨f, rfl⟩ : ∃ f, fu = f + 1 := ⟨fu - 1, by omega⟩
    have hk : k = 16 := by omega
    subst hk
    rw [fx_X12_back_38]
    simp (disch := omega) only [pz_l, pz_ltT, pz_ltF, pz_leT, pz_leF, pz_eqT, pz_eqF, pz_nF, pz_nqF, pz_cl, pz_rd, pz_up, pz_bd, pz_let, pk_mul, nI_add, pz_sub, pz_div, pz_m, pz_neg1, eq_self, or_self, false_or, or_false, true_or, or_true, ↓reduceIte, if_true, if_false, pu_cn]
    rfl
  | succ d ih =>
    intro k fu M X h1 h2
    obtain ⟨f, rfl⟩ : ∃ f, fu = f + 1 := ⟨fu - 1, by omega⟩
    rw [fx_X12_back_38]
    simp (disch := omega) only [pz_l, pz_ltT, pz_ltF, pz_leT, pz_leF, pz_eqT, pz_eqF, pz_nF, pz_nqF, pz_cl, pz_rd, pz_up, pz_bd, pz_let, pk_mul, nI_add, pz_sub, pz_div, pz_m, pz_neg1, eq_self, or_self, false_or, or_false, true_or, or_true, ↓reduceIte, if_true, if_false]
    refine (congrArg (fx_X12_back_38 f (nI (k + 1))) (pm_o2 M X _)).trans ?_
    refine (ih (k + 1) f M (upd X k (sm_imageRows M (12 + k))) (by omega) (by omega)).trans ?_
    rw [← pu_cs (f := fun i => sm_imageRows M (12 + i)) (g := X) (show k < 16 by omega)]
theorem pf_bk12 : ∀ (d k fu : Nat) (M : sm_T) (X : Nat → Int32), k + d = 12 → d < fu → fx_X12_back_12 fu (nI k) (um_flat M X) = fx_X12_back_38 am_fu (nI 0) (um_flat M (pu_c (sm_imageRows M) X k 12)) := by
  intro d
  induction d with
  | zero =>
    intro k fu M X h1 h2
    obtain ⟨f, rfl⟩ : ∃ f, fu = f + 1 := ⟨fu - 1, by omega⟩
    have hk : k = 12 := by omega
    subst hk
    rw [fx_X12_back_12]
    simp (disch := omega) only [pz_l, pz_ltT, pz_ltF, pz_leT, pz_leF, pz_eqT, pz_eqF, pz_nF, pz_nqF, pz_cl, pz_rd, pz_up, pz_bd, pz_let, pk_mul, nI_add, pz_sub, pz_div, pz_m, pz_neg1, eq_self, or_self, false_or, or_false, true_or, or_true, ↓reduceIte, if_true, if_false, pu_cn]
    
  | succ d ih =>
    intro k fu M X h1 h2
    obtain ⟨f, rfl⟩ : ∃ f, fu = f + 1 := ⟨fu - 1, by omega⟩
    rw [fx_X12_back_12]
    simp (disch := omega) only [pz_l, pz_ltT, pz_ltF, pz_leT, pz_leF, pz_eqT, pz_eqF, pz_nF, pz_nqF, pz_cl, pz_rd, pz_up, pz_bd, pz_let, pk_mul, nI_add, pz_sub, pz_div, pz_m, pz_neg1, eq_self, or_self, false_or, or_false, true_or, or_true, ↓reduceIte, if_true, if_false]
    refine (congrArg (fx_X12_back_12 f (nI (k + 1))) (pm_o3 M X _)).trans ?_
    refine (ih (k + 1) f M (upd X k (sm_imageRows M k)) (by omega) (by omega)).trans ?_
    rw [pu_cs (by omega)]
theorem pq_image : lq_image px_R := by
  rintro S M ⟨T, h⟩
  obtain ⟨⟨⟨n1, n2⟩, n3, n4⟩, ⟨q, hq, c1, c2, ⟨l1, l2⟩, i1, tx⟩, h3, h4, h5, h6, h7, h8⟩ := id h
  have e1 : lx_image S = some (sx_now_viewers S, ux_imageKept (pt_bc_kept S) 1) := by
    unfold lx_image fx_X11_image
    rw [pf_bc_kept]
    rfl
  have e2 : lm_image M = some (sm_viewers M, pt_him (um_imageRows (um_imageRows (um_hasImage M 1) (pu_c (sm_flat M) (sm_imageRows M) 0 12)) (pu_g (sm_ones M) (pu_c (sm_flat M) (sm_imageRows M) 0 12) 12 0 16))) := by
    unfold lm_image fx_X12_image
    refine (congrArg (fx_X12_image_7 am_fu 0) (pm_i7 (um_hasImage M 1)).symm).trans ?_
    refine (pf_im7 12 0 am_fu _ _ (by omega) (by rw [pf_u]; omega)).trans ?_
    refine (congrArg (fx_X12_image_33 am_fu (nI 0)) (pm_i7 _).symm).trans ?_
    exact pf_im33 16 0 am_fu _ _ (by omega) (by rw [pf_u]; omega)
  have hR : px_Q T (ux_imageKept (pt_bc_kept S) 1) (pt_him (um_imageRows (um_imageRows (um_hasImage M 1) (pu_c (sm_flat M) (sm_imageRows M) 0 12)) (pu_g (sm_ones M) (pu_c (sm_flat M) (sm_imageRows M) 0 12) 12 0 16))) := by
    refine ⟨⟨⟨n1, n2⟩, n3, n4⟩, ⟨q, hq, c1, c2, ⟨l1, l2⟩, fun _ => l1, tx⟩, h3, h4, h5, h6, ⟨rfl, fun _ => ⟨⟨n1, n2⟩, ⟨n3, n4⟩, l2, fun r hr => ?_, fun v hv => ?_⟩⟩, h8⟩
    · obtain ⟨p1, p2⟩ := h3 r hr
      show pu_g (sm_ones M) (pu_c (sm_flat M) (sm_imageRows M) 0 12) 12 0 16 (2 * r) = pu_c (sx_now_light S) (sx_kept_light S) 0 6 r ∧ pu_g (sm_ones M) (pu_c (sm_flat M) (sm_imageRows M) 0 12) 12 0 16 (2 * r + 1) = pu_c (sx_now_damp S) (sx_kept_damp S) 0 6 r
      unfold pu_g
      rw [if_neg (by omega), if_neg (by omega), pu_ci (by omega) (by omega), pu_ci (by omega) (by omega), pu_ci (by omega) (by omega), pu_ci (by omega) (by omega)]
      exact ⟨p1, p2⟩
    · obtain ⟨p1, p2⟩ := h4 v hv
      show pu_g (sm_ones M) (pu_c (sm_flat M) (sm_imageRows M) 0 12) 12 0 16 (12 + 2 * v) = pu_c (sx_now_rich S) (sx_kept_rich S) 0 8 v ∧ pu_g (sm_ones M) (pu_c (sm_flat M) (sm_imageRows M) 0 12) 12 0 16 (12 + (2 * v + 1)) = pu_c (sx_now_quiet S) (sx_kept_quiet S) 0 8 v
      unfold pu_g
      rw [if_pos (by omega), if_pos (by omega), Nat.add_sub_cancel_left, Nat.add_sub_cancel_left, pu_ci (by omega) (by omega), pu_ci (by omega) (by omega)]
      exact ⟨p1, p2⟩
  exact ⟨sx_now_viewers S, _, _, e1, e2.trans (by rw [n2]), T, hR⟩
theorem pq_back : lq_back px_R := by
  rintro S M ⟨T, h⟩
  obtain ⟨⟨⟨n1, n2⟩, n3, n4⟩, ⟨q, hq, c1, c2, ⟨l1, l2⟩, i1, tx⟩, h3, h4, h5, h6, ⟨k1, k2⟩, h8⟩ := id h
  by_cases e0 : sx_imageKept S = 0
  · refine ⟨-3, S, M, ?_, ?_, T, h⟩
    · unfold lx_back fx_X11_back
      rw [if_pos e0]
    · unfold lm_back fx_X12_back
      rw [if_pos (k1.trans e0)]
  obtain ⟨⟨v1, v2⟩, ⟨v3, v4⟩, v5, v6, v7⟩ := k2 e0
  have e1 : lx_back S = some (sx_kept_viewers S, pt_bc_now S) := by
    unfold lx_back fx_X11_back
    rw [if_neg e0, pf_bc_now]
    rfl
  have e2 : lm_back M = some (sm_imageHeld M 0, um_rule (um_hour (um_viewers (um_ones (um_flat M (pu_c (sm_imageRows M) (sm_flat M) 0 12)) (pu_c (fun i => sm_imageRows M (12 + i)) (sm_ones M) 0 16)) (sm_imageHeld M 0)) (sm_imageHeld M 1)) (sm_imageHeld M 2)) := by
    unfold lm_back fx_X12_back
    rw [if_neg (fun q => e0 (k1.symm.trans q))]
    refine (congrArg (fx_X12_back_12 am_fu 0) (pm_i3 M).symm).trans ?_
    refine (pf_bk12 12 0 am_fu _ _ (by omega) (by rw [pf_u]; omega)).trans ?_
    refine (congrArg (fx_X12_back_38 am_fu (nI 0)) (pm_i2 _).symm).trans ?_
    exact pf_bk38 16 0 am_fu _ _ (by omega) (by rw [pf_u]; omega)
  have hR : px_Q T (pt_bc_now S) (um_rule (um_hour (um_viewers (um_ones (um_flat M (pu_c (sm_imageRows M) (sm_flat M) 0 12)) (pu_c (fun i => sm_imageRows M (12 + i)) (sm_ones M) 0 16)) (sm_imageHeld M 0)) (sm_imageHeld M 1)) (sm_imageHeld M 2)) := by
    refine ⟨⟨⟨v1, v2⟩, v3, v4⟩, ⟨q, hq, c1, c2, ⟨i1 e0, v5⟩, i1, tx⟩, fun r hr => ?_, fun v hv => ?_, h5, h6, ⟨k1, k2⟩, h8⟩
    · obtain ⟨p1, p2⟩ := v6 r hr
      show pu_c (sm_imageRows M) (sm_flat M) 0 12 (2 * r) = pu_c (sx_kept_light S) (sx_now_light S) 0 6 r ∧ pu_c (sm_imageRows M) (sm_flat M) 0 12 (2 * r + 1) = pu_c (sx_kept_damp S) (sx_now_damp S) 0 6 r
      rw [pu_ci (by omega) (by omega), pu_ci (by omega) (by omega), pu_ci (by omega) (by omega), pu_ci (by omega) (by omega)]
      exact ⟨p1, p2⟩
    · obtain ⟨p1, p2⟩ := v7 v hv
      show pu_c (fun i => sm_imageRows M (12 + i)) (sm_ones M) 0 16 (2 * v) = pu_c (sx_kept_rich S) (sx_now_rich S) 0 8 v ∧ pu_c (fun i => sm_imageRows M (12 + i)) (sm_ones M) 0 16 (2 * v + 1) = pu_c (sx_kept_quiet S) (sx_now_quiet S) 0 8 v
      rw [pu_ci (by omega) (by omega), pu_ci (by omega) (by omega), pu_ci (by omega) (by omega), pu_ci (by omega) (by omega)]
      exact ⟨p1, p2⟩
  exact ⟨sx_kept_viewers S, _, _, e1, e2.trans (by rw [v2]), T, hR⟩
