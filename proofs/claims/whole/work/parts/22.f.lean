/-! ===== mind and offer with what is known ===== -/
theorem pf_nam {T : Nat → List Int32} {t k : Nat} {S : sx_T} {M : sm_T} (tx : pr_tx1 T t S M) (ht : t < 6) (hk : k < 6) (a : Int32) (ha : -(nI 10) - a = nI k) : (fx_X8_mindNames (nI t) a S = nI 0 ∧ (-10 - nI k) ∉ T 0 ∧ (-10 - nI k) ∉ T 1) ∨ fx_X8_mindNames (nI t) a S = nI 1 := by
  have c0 : t * 3 + 0 = 3 * t + 0 := by omega
  have c1 : t * 3 + 1 = 3 * t + 1 := by omega
  have e : fx_X8_mindNames (nI t) a S = (if (((sx_tx_named S (3 * t + 0) ||| sx_tx_named S (3 * t + 1)) >>> (nI k &&& 31)) &&& 1) = 0 then 0 else 1) := by
    unfold fx_X8_mindNames
    have h1 : am_rd 18 (sx_tx_named S) (nI t * 3 + 0) = sx_tx_named S (3 * t + 0) := by
      simp (disch := omega) only [pz_l, pz_ltT, pz_ltF, pz_leT, pz_leF, pz_eqT, pz_eqF, pz_nF, pz_nqF, pz_cl, pz_rd, pz_up, pz_bd, pz_let, pk_mul, nI_add, pz_sub, pz_div, pz_m, pz_neg1, eq_self, or_self, false_or, or_false, true_or, or_true, ↓reduceIte, if_true, if_false, c0]
    have h2 : am_rd 18 (sx_tx_named S) (nI t * 3 + 1) = sx_tx_named S (3 * t + 1) := by
      simp (disch := omega) only [pz_l, pz_ltT, pz_ltF, pz_leT, pz_leF, pz_eqT, pz_eqF, pz_nF, pz_nqF, pz_cl, pz_rd, pz_up, pz_bd, pz_let, pk_mul, nI_add, pz_sub, pz_div, pz_m, pz_neg1, eq_self, or_self, false_or, or_false, true_or, or_true, ↓reduceIte, if_true, if_false, c1]
    have h3 : (-10 : Int32) - a = nI k := ha
    rw [h1, h2, h3]
  rw [e]
  rcases pb_tst (sx_tx_named S (3 * t + 0) ||| sx_tx_named S (3 * t + 1)) (k := k) (by omega) with ⟨b1, b2⟩ | ⟨b1, b2⟩
  · rw [if_pos b1]
    rw [pb_orr, Bool.or_eq_false_iff] at b2
    exact Or.inl ⟨rfl, (tx.2 0 (by decide)).2.2.1 k hk b2.1, (tx.2 1 (by decide)).2.2.1 k hk b2.2⟩
  · rw [if_neg (by rw [b1]; decide)]
    exact Or.inr rfl
theorem pf_m49 {V : pv_V} {W : Nat → Nat} {n h : Nat} {M : sm_T} (hh : h < 12) : ∀ (d i g : Nat) (S : sx_T), i + d = n → d < g → px_B V W n M S → ∃ S', fx_X10_mind_49 g (nI h) (pv_ms V W n i) (nI i) S = some (pv_mi V W n, ux_vi_known (ux_vi_minds S' (upd (sx_vi_minds S') h (pv_mi V W n))) (sx_vi_known S' ||| ((1 : Int32) <<< (nI h &&& 31)))) ∧ px_e S S' := by
  intro d
  induction d with
  | zero =>
    intro i g S h1 h2 b
    obtain ⟨f, rfl⟩ : ∃ f, g = f + 1 := ⟨g - 1, by omega⟩
    have hi : i = n := by omega
    subst hi
    obtain ⟨-, l1, l2, -⟩ := b
    refine ⟨S, ?_, px_er⟩
    rw [fx_X10_mind_49, l1, if_pos (nI_le (Nat.le_refl i) (by omega)), pz_up hh (by decide)]
    rfl
  | succ d ih =>
    intro i g S h1 h2 b
    obtain ⟨f, rfl⟩ : ∃ f, g = f + 1 := ⟨g - 1, by omega⟩
    obtain ⟨b0, l1, l2, l3⟩ := id b
    obtain ⟨l4, l5⟩ := l3 i (by omega)
    obtain ⟨S1, e1, f1⟩ := pf_kept b0 l4 (nI (if i = 0 then 1 else 0)) (nI (if i + 1 = n then 1 else 0))
    obtain ⟨S2, e2, f2⟩ := ih (i + 1) f S1 (by omega) (by omega) (px_Bg b (px_eg f1))
    refine ⟨S2, Eq.trans ?_ e2, px_et f1 f2⟩
    rw [fx_X10_mind_49]
    show _ = fx_X10_mind_49 f (nI h) (pv_ms V W n i + pv_kp V (W i) (nI (if i = 0 then 1 else 0)) (nI (if i + 1 = n then 1 else 0))) (nI (i + 1)) S1
    by_cases i0 : i = 0
    · subst i0
      by_cases l0 : 0 + 1 = n
      · subst l0
        rw [if_pos rfl, if_pos rfl] at e1 ⊢
        simp (disch := omega) only [pz_l, pz_ltT, pz_ltF, pz_leT, pz_leF, pz_eqT, pz_eqF, pz_nF, pz_nqF, pz_cl, pz_rd, pz_up, pz_bd, pz_let, pk_mul, nI_add, pz_sub, pz_div, pz_m, pz_neg1, eq_self, or_self, false_or, or_false, true_or, or_true, ↓reduceIte, if_true, if_false, l1, l5, e1]
      · rw [if_pos rfl, if_neg l0] at e1 ⊢
        simp (disch := omega) only [pz_l, pz_ltT, pz_ltF, pz_leT, pz_leF, pz_eqT, pz_eqF, pz_nF, pz_nqF, pz_cl, pz_rd, pz_up, pz_bd, pz_let, pk_mul, nI_add, pz_sub, pz_div, pz_m, pz_neg1, eq_self, or_self, false_or, or_false, true_or, or_true, ↓reduceIte, if_true, if_false, l1, l5, e1]
    · by_cases l0 : i + 1 = n
      · subst l0
        rw [if_neg i0, if_pos rfl] at e1 ⊢
        simp (disch := omega) only [pz_l, pz_ltT, pz_ltF, pz_leT, pz_leF, pz_eqT, pz_eqF, pz_nF, pz_nqF, pz_cl, pz_rd, pz_up, pz_bd, pz_let, pk_mul, nI_add, pz_sub, pz_div, pz_m, pz_neg1, eq_self, or_self, false_or, or_false, true_or, or_true, ↓reduceIte, if_true, if_false, l1, l5, e1]
      · rw [if_neg i0, if_neg l0] at e1 ⊢
        simp (disch := omega) only [pz_l, pz_ltT, pz_ltF, pz_leT, pz_leF, pz_eqT, pz_eqF, pz_nF, pz_nqF, pz_cl, pz_rd, pz_up, pz_bd, pz_let, pk_mul, nI_add, pz_sub, pz_div, pz_m, pz_neg1, eq_self, or_self, false_or, or_false, true_or, or_true, ↓reduceIte, if_true, if_false, l1, l5, e1]
theorem pf_m24 {V : pv_V} {W : Nat → Nat} {n h : Nat} {M : sm_T} {S : sx_T} (hh : h < 12) (c : px_C V W n M S) (hv : pv_mi (pv_sh V (nI h)) W n = pv_mi V W n) : ∃ S', fx_X10_mind_24 (nI h) S = some (pv_mi V W n, S') ∧ px_g S S' ∧ px_C V W n M S' := by
  obtain ⟨b, k⟩ := id c
  unfold fx_X10_mind_24
  rcases pb_tst (sx_vi_known S) (k := h) (by omega) with ⟨b1, b2⟩ | ⟨b1, b2⟩
  · rw [if_pos b1]
    obtain ⟨S1, e1, f1⟩ := pf_m49 hh n 0 am_fu S (by omega) (by rw [pf_u]; have := b.2.2.1; omega) b
    have g2 : px_g S1 (ux_vi_known (ux_vi_minds S1 (upd (sx_vi_minds S1) h (pv_mi V W n))) (sx_vi_known S1 ||| ((1 : Int32) <<< (nI h &&& 31)))) := ⟨px_fs (j := 20) (S' := ux_vi_minds S1 (upd (sx_vi_minds S1) h (pv_mi V W n))) (px_fa (j := 24) (S' := S1) px_fr (by decide)) (by decide), fun _ _ => rfl, rfl⟩
    refine ⟨_, e1, px_gt (px_eg f1) g2, px_Bg (px_Bg b (px_eg f1)) g2, fun h' hh' bt => ?_⟩
    have k1 := px_Ke k f1
    have bt' : pb_it (sx_vi_known S1 ||| ((1 : Int32) <<< (nI h &&& 31))) h' = true := bt
    rw [pb_set _ (by omega) (by omega)] at bt'
    show upd (sx_vi_minds S1) h (pv_mi V W n) h' = pv_mi (pv_sh V (nI h')) W n
    by_cases q : h' = h
    · subst q; rw [pz_us, hv]
    · rw [pz_un q]
      rw [Bool.or_eq_true] at bt'
      exact k1 h' hh' (bt'.resolve_right (by simp [q]))
  · rw [if_neg (by rw [b1]; decide), pz_rd hh (by decide), k h hh b2, hv]
    exact ⟨S, rfl, px_gr, c⟩
theorem pf_mind {V : pv_V} {W : Nat → Nat} {n : Nat} {M : sm_T} {S : sx_T} (c : px_C V W n M S) : ∃ S', fx_X10_mind S = some (pv_mi V W n, S') ∧ px_g S S' ∧ px_C V W n M S' := by
  obtain ⟨⟨⟨⟨t, ht, lt, tx⟩, -, -, -, -, ⟨h1, h2, ⟨hh, hhl, h3⟩⟩, -⟩, -⟩, -⟩ := id c
  unfold fx_X10_mind
  rw [lt, h1, h3]
  rcases pf_nam tx ht (show 3 < 6 by decide) (-13) (by decide) with ⟨e, n0, n1⟩ | e
  · rw [if_pos (show fx_X8_mindNames (nI t) (-13) S = 0 from e)]
    exact pf_m24 (h := 0) (by decide) c (pv_mih (pt_goodi tx) n0 n1 W n (nI 0))
  · rw [if_neg (show ¬ fx_X8_mindNames (nI t) (-13) S = 0 by rw [e]; decide)]
    exact pf_m24 hhl c (by rw [pv_shi h3])
theorem pf_offer {V : pv_V} {W : Nat → Nat} {n : Nat} {M : sm_T} {S : sx_T} (c : px_C V W n M S) : ∃ S', fx_X10_offer S = some (pv_of V W n, S') ∧ px_g S S' ∧ px_C V W n M S' := by
  obtain ⟨S1, e1, g1, c1⟩ := pf_mind c
  obtain ⟨S2, e2, f2, g2, s2⟩ := pf_saidN (p := 2) c1.1.1 (by decide) (nI 0) (nI 0) (nI 0)
  obtain ⟨⟨⟨-, k1, m1, ⟨r1, -⟩, -⟩, -⟩, -⟩ := id c1
  refine ⟨S2, ?_, px_gt g1 (px_eg f2), px_Ce c1 f2⟩
  unfold fx_X10_offer
  rw [e1, pz_bd]
  show am_let (fx_X10_lookAtNoRoom S1) _ = _
  rw [pf_look0, pz_let]
  show am_bd (fx_X8_said_r38 (sx_vi_law S1) (nI 2) (ux_vi_names S1 (upd (upd (upd (sx_vi_names S1) 0 (nI 0)) 1 (nI 0)) 2 (nI 0)))) _ = _
  rw [e2, pz_bd]
  show some (fk_offers (sx_vi_kind S1) (pe_bd 2 (pe_val (pv_nm (nI 0) (nI 0) (nI 0) (V.2.2.1 3) (V.2.2.1 1) (V.2.2.1 2)) (V.1 2))) (pv_mi V W n) (sx_vi_crowd S2), S2) = some (pv_of V W n, S2)
  have r2 : sx_vi_crowd S2 = V.2.2.1 1 := (f2.1.1 17 (by decide)).trans r1
  rw [k1, r2]
  rfl
/-! setters -/
def pv_sc (a b c d : Int32) : Nat → Int32 := fun i => if i = 0 then a else if i = 1 then b else if i = 2 then c else d
/-- the flat supposed, ahead of who comes -/
def px_A (T : Nat → List Int32) (hr : Int32) (li da : Nat → Int32) (M : sm_T) (S : sx_T) : Prop := (∃ t, t < 6 ∧ sx_vi_law S = nI t ∧ pr_tx1 T t S M) ∧ (sx_vi_hour S = hr ∧ sx_vi_names S 3 = hr ∧ pn_b 12 hr) ∧ (∀ r, r < 6 → sx_vi_light S r = li r ∧ sx_vi_damp S r = da r)
theorem px_K0 {V : pv_V} {W : Nat → Nat} {n : Nat} {S : sx_T} (h : sx_vi_known S = 0) : px_K V W n S := fun h' _ b => by
  rw [h, pb_0] at b
  cases b
/-- the state behind letCome -/
def pt_lc (v cr : Nat) (S : sx_T) : sx_T := ux_vi_known (ux_vi_names (ux_vi_crowd (ux_vi_more (ux_vi_kind S (fx_X11_kindAt (sx_kindOf S v))) (sx_moreOf S v)) (nI cr)) (upd (upd (sx_vi_names S) 5 (sx_now_rich S v)) 4 (nI cr))) 0
theorem px_lc1 (S : sx_T) (a b c d : Int32) (k : Fin 8) (x y : Nat → Int32) : ux_vi_known (ux_vi_names (ux_vi_crowd (ux_vi_names (ux_vi_known (ux_vi_more (ux_vi_known (ux_vi_kind S k) a) b) c) x) d) y) (nI 0) = ux_vi_known (ux_vi_names (ux_vi_crowd (ux_vi_more (ux_vi_kind S k) b) d) y) 0 := by
  have e1 : am_us (am_us (am_us (am_us (am_us S.1 20 a) 16 b) 20 c) 17 d) 20 (nI 0) = am_us (am_us (am_us S.1 16 b) 17 d) 20 (nI 0) := by
    funext j
    unfold am_us
    cases Nat.beq j 20 <;> cases Nat.beq j 16 <;> cases Nat.beq j 17 <;> rfl
  have e2 : am_us (am_us S.2.1 23 x) 23 y = am_us S.2.1 23 y := pu_uu
  show ((am_us (am_us (am_us (am_us (am_us S.1 20 a) 16 b) 20 c) 17 d) 20 (nI 0), am_us (am_us S.2.1 23 x) 23 y, k) : sx_T) = (am_us (am_us (am_us S.1 16 b) 17 d) 20 (nI 0), am_us S.2.1 23 y, k)
  rw [e1, e2]
theorem px_lc2 (S : sx_T) (a b c d e : Int32) (k : Fin 8) (x y : Nat → Int32) : ux_vi_known (ux_vi_names (ux_vi_crowd (ux_vi_known (ux_vi_names (ux_vi_known (ux_vi_more (ux_vi_known (ux_vi_kind S k) a) b) c) x) e) d) y) (nI 0) = ux_vi_known (ux_vi_names (ux_vi_crowd (ux_vi_more (ux_vi_kind S k) b) d) y) 0 := by
  have e1 : am_us (am_us (am_us (am_us (am_us (am_us S.1 20 a) 16 b) 20 c) 20 e) 17 d) 20 (nI 0) = am_us (am_us (am_us S.1 16 b) 17 d) 20 (nI 0) := by
    funext j
    unfold am_us
    cases Nat.beq j 20 <;> cases Nat.beq j 16 <;> cases Nat.beq j 17 <;> rfl
  have e2 : am_us (am_us S.2.1 23 x) 23 y = am_us S.2.1 23 y := pu_uu
  show ((am_us (am_us (am_us (am_us (am_us (am_us S.1 20 a) 16 b) 20 c) 20 e) 17 d) 20 (nI 0), am_us (am_us S.2.1 23 x) 23 y, k) : sx_T) = (am_us (am_us (am_us S.1 16 b) 17 d) 20 (nI 0), am_us S.2.1 23 y, k)
  rw [e1, e2]
theorem pf_lc {v cr : Nat} (hv : v < 8) (hc : cr < 9) (S : sx_T) : fx_X11_letCome (nI v) (nI cr) S = pt_lc v cr S := by
  unfold fx_X11_letCome fx_X10_setKind fx_X10_setMore fx_X10_setCrowd fx_X10_setRich
  rw [pz_rd hv (by decide)]
  simp only [pz_let]
  have q1 : am_rd 8 (sx_moreOf (ux_vi_known (ux_vi_kind S (fx_X11_kindAt (sx_kindOf S v))) 0)) (nI v) = sx_moreOf S v := pz_rd hv (by decide)
  rw [q1]
  generalize hX : ux_vi_known (ux_vi_more (ux_vi_known (ux_vi_kind S (fx_X11_kindAt (sx_kindOf S v))) 0) (sx_moreOf S v)) 0 = X
  have q2 : am_rd 8 (sx_now_rich X) (nI v) = sx_now_rich S v := by
    subst hX
    exact pz_rd hv (by decide)
  rw [q2]
  have q3 : ∀ x, am_up 6 (sx_vi_names X) 5 x = upd (sx_vi_names S) 5 x := by
    intro x
    subst hX
    exact pz_up (j := 5) (by decide) (by decide)
  rw [q3]
  have q4 : ∀ (Y : sx_T) x, am_up 6 (sx_vi_names Y) 4 x = upd (sx_vi_names Y) 4 x := fun Y x => pz_up (j := 4) (by decide) (by decide)
  rw [q4]
  subst hX
  by_cases c : fx_X8_mindNames (sx_vi_law (ux_vi_known (ux_vi_more (ux_vi_known (ux_vi_kind S (fx_X11_kindAt (sx_kindOf S v))) 0) (sx_moreOf S v)) 0)) (-15) (ux_vi_names (ux_vi_known (ux_vi_more (ux_vi_known (ux_vi_kind S (fx_X11_kindAt (sx_kindOf S v))) 0) (sx_moreOf S v)) 0) (upd (sx_vi_names S) 5 (sx_now_rich S v))) = 0
  · rw [if_pos c]
    exact px_lc1 S 0 (sx_moreOf S v) 0 (nI cr) (fx_X11_kindAt (sx_kindOf S v)) _ _
  · rw [if_neg c]
    exact px_lc2 S 0 (sx_moreOf S v) 0 (nI cr) 0 (fx_X11_kindAt (sx_kindOf S v)) _ _
theorem px_lcB {T : Nat → List Int32} {hr : Int32} {li da : Nat → Int32} {M : sm_T} {S : sx_T} {v cr : Nat} (a : px_A T hr li da M S) : px_B0 (T, fx_X11_kindAt (sx_kindOf S v), pv_sc (sx_moreOf S v) (nI cr) (sx_now_rich S v) hr, li, da) M (pt_lc v cr S) := by
  obtain ⟨⟨t, ht, lt, tx⟩, ⟨h1, h2, h3⟩, h4⟩ := a
  refine ⟨⟨t, ht, lt, tx⟩, rfl, rfl, ⟨rfl, rfl⟩, rfl, ⟨h1, h2, h3⟩, h4⟩
theorem px_lcf (v cr : Nat) (S : sx_T) : px_f [16, 17, 20] [23] S (pt_lc v cr S) := px_fs (j := 20) (S' := ux_vi_names (ux_vi_crowd (ux_vi_more (ux_vi_kind S (fx_X11_kindAt (sx_kindOf S v))) (sx_moreOf S v)) (nI cr)) (upd (upd (sx_vi_names S) 5 (sx_now_rich S v)) 4 (nI cr))) (px_fa (j := 23) (S' := ux_vi_crowd (ux_vi_more (ux_vi_kind S (fx_X11_kindAt (sx_kindOf S v))) (sx_moreOf S v)) (nI cr)) (px_fs (j := 17) (S' := ux_vi_more (ux_vi_kind S (fx_X11_kindAt (sx_kindOf S v))) (sx_moreOf S v)) (px_fs (j := 16) (S' := ux_vi_kind S (fx_X11_kindAt (sx_kindOf S v))) (px_fk px_fr) (by decide)) (by decide)) (by decide)) (by decide)
theorem px_lcC {T : Nat → List Int32} {hr : Int32} {li da : Nat → Int32} {M : sm_T} {S : sx_T} {v cr : Nat} {W : Nat → Nat} {n : Nat} (a : px_A T hr li da M S) (l : px_L W n S) : px_C (T, fx_X11_kindAt (sx_kindOf S v), pv_sc (sx_moreOf S v) (nI cr) (sx_now_rich S v) hr, li, da) W n M (pt_lc v cr S) := ⟨⟨px_lcB a, l⟩, px_K0 rfl⟩
