/-! ===== mind and offer: the class ===== -/
def pv_sh (V : pv_V) (x : Int32) : pv_V := (V.1, V.2.1, upd V.2.2.1 3 x, V.2.2.2)
def pv_sr (V : pv_V) (x : Int32) : pv_V := (V.1, V.2.1, upd V.2.2.1 2 x, V.2.2.2)
theorem pv_shi {V : pv_V} {x : Int32} (h : V.2.2.1 3 = x) : pv_sh V x = V := by
  unfold pv_sh
  have e : upd V.2.2.1 3 x = V.2.2.1 := by
    funext j
    rw [pz_u]
    by_cases q : j = 3
    · rw [if_pos q, q, h]
    · rw [if_neg q]
  rw [e]
def pt_good (T : Nat → List Int32) : Prop := ∀ p, p < 3 → (∀ s ∈ T p, pt_ok s) ∧ pt_wf (T p) 0 = some 1
theorem pt_goodi {T : Nat → List Int32} {t : Nat} {S : sx_T} {M : sm_T} (h : pr_tx1 T t S M) : pt_good T := fun p hp => (h.2 p hp).1
theorem pv_mic {V V' : pv_V} (e1 : V'.1 = V.1) (e2 : V'.2.1 = V.2.1) (e3 : V'.2.2.1 0 = V.2.2.1 0) {W : Nat → Nat} {n : Nat} (h : ∀ i, i < n → ∀ p, p < 2 → pe_val (pv_nr V' (W i)) (V.1 p) = pe_val (pv_nr V (W i)) (V.1 p)) : pv_mi V' W n = pv_mi V W n := by
  have key : ∀ i, i ≤ n → pv_ms V' W n i = pv_ms V W n i := by
    intro i
    induction i with
    | zero => intro _; rfl
    | succ i ih =>
      intro hi
      unfold pv_ms pv_kp pv_lk
      rw [ih (by omega), e1, e2, e3, h i (by omega) 0 (by decide), h i (by omega) 1 (by decide)]
  exact key n (Nat.le_refl n)
theorem pv_mih {V : pv_V} (g : pt_good V.1) (n0 : (-10 - nI 3) ∉ V.1 0) (n1 : (-10 - nI 3) ∉ V.1 1) (W : Nat → Nat) (n : Nat) (x : Int32) : pv_mi (pv_sh V x) W n = pv_mi V W n := by
  refine pv_mic (V := V) (V' := pv_sh V x) rfl rfl rfl (fun i hi p hp => ?_)
  obtain ⟨g1, g2⟩ := g p (by omega)
  refine pe_vag g1 g2 (fun k hk hm => ?_)
  have hk3 : k ≠ 3 := by
    intro e
    subst e
    have : p = 0 ∨ p = 1 := by omega
    rcases this with rfl | rfl
    · exact n0 hm
    · exact n1 hm
  have h : k = 0 ∨ k = 1 ∨ k = 2 ∨ k = 4 ∨ k = 5 := by omega
  rcases h with rfl | rfl | rfl | rfl | rfl <;> rfl
theorem pv_mir {V : pv_V} (g : pt_good V.1) (n0 : (-10 - nI 5) ∉ V.1 0) (n1 : (-10 - nI 5) ∉ V.1 1) (W : Nat → Nat) (n : Nat) (x : Int32) : pv_mi (pv_sr V x) W n = pv_mi V W n := by
  refine pv_mic (V := V) (V' := pv_sr V x) rfl rfl rfl (fun i hi p hp => ?_)
  obtain ⟨g1, g2⟩ := g p (by omega)
  refine pe_vag g1 g2 (fun k hk hm => ?_)
  have hk3 : k ≠ 5 := by
    intro e
    subst e
    have : p = 0 ∨ p = 1 := by omega
    rcases this with rfl | rfl
    · exact n0 hm
    · exact n1 hm
  have h : k = 0 ∨ k = 1 ∨ k = 2 ∨ k = 3 ∨ k = 4 := by omega
  rcases h with rfl | rfl | rfl | rfl | rfl <;> rfl
/-- the class's visit is at one who comes -/
def px_B0 (V : pv_V) (M : sm_T) (S : sx_T) : Prop := (∃ t, t < 6 ∧ sx_vi_law S = nI t ∧ pr_tx1 V.1 t S M) ∧ sx_vi_kind S = V.2.1 ∧ sx_vi_more S = V.2.2.1 0 ∧ (sx_vi_crowd S = V.2.2.1 1 ∧ sx_vi_names S 4 = V.2.2.1 1) ∧ sx_vi_names S 5 = V.2.2.1 2 ∧ (sx_vi_hour S = V.2.2.1 3 ∧ sx_vi_names S 3 = V.2.2.1 3 ∧ pn_b 12 (V.2.2.1 3)) ∧ (∀ r, r < 6 → sx_vi_light S r = V.2.2.2.1 r ∧ sx_vi_damp S r = V.2.2.2.2 r)
def px_L (W : Nat → Nat) (n : Nat) (S : sx_T) : Prop := sx_vi_length S = nI n ∧ n < 7 ∧ ∀ i, i < n → W i < 6 ∧ sx_vi_walked S i = nI (W i)
def px_B (V : pv_V) (W : Nat → Nat) (n : Nat) (M : sm_T) (S : sx_T) : Prop := px_B0 V M S ∧ px_L W n S
def px_K (V : pv_V) (W : Nat → Nat) (n : Nat) (S : sx_T) : Prop := ∀ h, h < 12 → pb_it (sx_vi_known S) h = true → sx_vi_minds S h = pv_mi (pv_sh V (nI h)) W n
def px_C (V : pv_V) (W : Nat → Nat) (n : Nat) (M : sm_T) (S : sx_T) : Prop := px_B V W n M S ∧ px_K V W n S
def px_g (S S' : sx_T) : Prop := px_f [20] [13, 23, 24] S S' ∧ (∀ k, 3 ≤ k → sx_vi_names S' k = sx_vi_names S k) ∧ sx_vi_kind S' = sx_vi_kind S
def px_e (S S' : sx_T) : Prop := px_f [] [13, 23] S S' ∧ (∀ k, 3 ≤ k → sx_vi_names S' k = sx_vi_names S k) ∧ sx_vi_kind S' = sx_vi_kind S
theorem px_gr {S : sx_T} : px_g S S := ⟨px_fr, fun _ _ => rfl, rfl⟩
theorem px_er {S : sx_T} : px_e S S := ⟨px_fr, fun _ _ => rfl, rfl⟩
theorem px_gt {S S' S'' : sx_T} (h : px_g S S') (h' : px_g S' S'') : px_g S S'' := ⟨px_ft h.1 h'.1, fun k hk => (h'.2.1 k hk).trans (h.2.1 k hk), h'.2.2.trans h.2.2⟩
theorem px_et {S S' S'' : sx_T} (h : px_e S S') (h' : px_e S' S'') : px_e S S'' := ⟨px_ft h.1 h'.1, fun k hk => (h'.2.1 k hk).trans (h.2.1 k hk), h'.2.2.trans h.2.2⟩
theorem px_eg {S S' : sx_T} (h : px_e S S') : px_g S S' := ⟨px_fm h.1 (by decide) (by decide), h.2.1, h.2.2⟩
theorem px_ge {S S' : sx_T} (h : px_g S S') : px_f px_es px_ea S S' := px_fm h.1 (by decide) (by decide)
theorem px_B0g {V : pv_V} {M : sm_T} {S S' : sx_T} (h : px_B0 V M S) (g : px_g S S') : px_B0 V M S' := by
  obtain ⟨⟨x, y⟩, nn, kk⟩ := g
  have a16 : sx_vi_more S' = sx_vi_more S := x 16 (by decide)
  have a17 : sx_vi_crowd S' = sx_vi_crowd S := x 17 (by decide)
  have a18 : sx_vi_law S' = sx_vi_law S := x 18 (by decide)
  have a19 : sx_vi_hour S' = sx_vi_hour S := x 19 (by decide)
  have b10 : sx_tx_steps S' = sx_tx_steps S := y 10 (by decide)
  have b11 : sx_tx_ends S' = sx_tx_ends S := y 11 (by decide)
  have b12 : sx_tx_named S' = sx_tx_named S := y 12 (by decide)
  have b20 : sx_vi_light S' = sx_vi_light S := y 20 (by decide)
  have b21 : sx_vi_damp S' = sx_vi_damp S := y 21 (by decide)
  unfold px_B0 pr_tx1 at h ⊢
  rw [a16, a17, a18, a19, b10, b11, b12, b20, b21, kk, nn 3 (by decide), nn 4 (by decide), nn 5 (by decide)]
  exact h
theorem px_Lg {W : Nat → Nat} {n : Nat} {S S' : sx_T} (h : px_L W n S) (g : px_g S S') : px_L W n S' := by
  obtain ⟨⟨x, y⟩, nn, kk⟩ := g
  have a15 : sx_vi_length S' = sx_vi_length S := x 15 (by decide)
  have b22 : sx_vi_walked S' = sx_vi_walked S := y 22 (by decide)
  unfold px_L at h ⊢
  rw [a15, b22]
  exact h
theorem px_Bg {V : pv_V} {W : Nat → Nat} {n : Nat} {M : sm_T} {S S' : sx_T} (h : px_B V W n M S) (g : px_g S S') : px_B V W n M S' := ⟨px_B0g h.1 g, px_Lg h.2 g⟩
theorem px_Ke {V : pv_V} {W : Nat → Nat} {n : Nat} {S S' : sx_T} (h : px_K V W n S) (g : px_e S S') : px_K V W n S' := by
  have a20 : sx_vi_known S' = sx_vi_known S := g.1.1 20 (by decide)
  have b24 : sx_vi_minds S' = sx_vi_minds S := g.1.2 24 (by decide)
  unfold px_K at h ⊢
  rw [a20, b24]
  exact h
theorem px_Ce {V : pv_V} {W : Nat → Nat} {n : Nat} {M : sm_T} {S S' : sx_T} (h : px_C V W n M S) (g : px_e S S') : px_C V W n M S' := ⟨px_Bg h.1 (px_eg g), px_Ke h.2 g⟩
theorem px_nn (S : sx_T) (x y : Nat → Int32) : ux_vi_names (ux_vi_names S x) y = ux_vi_names S y := by
  show (S.1, am_us (am_us S.2.1 23 x) 23 y, S.2.2) = (S.1, am_us S.2.1 23 y, S.2.2)
  rw [pu_uu]
theorem px_enk (S : sx_T) (a b c : Int32) (g : Nat → Int32) : px_e S (ux_tx_stack (ux_vi_names S (upd (upd (upd (sx_vi_names S) 0 a) 1 b) 2 c)) g) := ⟨px_fa (j := 13) (S' := ux_vi_names S (upd (upd (upd (sx_vi_names S) 0 a) 1 b) 2 c)) (px_fa (j := 23) (S' := S) px_fr (by decide)) (by decide), fun k hk => by
  show upd (upd (upd (sx_vi_names S) 0 a) 1 b) 2 c k = sx_vi_names S k
  rw [pz_un (by omega), pz_un (by omega), pz_un (by omega)], rfl⟩
theorem pf_look {S : sx_T} {r : Nat} (hr : r < 6) : fx_X10_lookAt (nI r) S = ux_vi_names S (upd (upd (upd (sx_vi_names S) 0 (sx_vi_light S r)) 1 (sx_vi_damp S r)) 2 (nI r)) := by
  simp (disch := omega) only [pz_l, pz_ltT, pz_ltF, pz_leT, pz_leF, pz_eqT, pz_eqF, pz_nF, pz_nqF, pz_cl, pz_rd, pz_up, pz_bd, pz_let, pk_mul, nI_add, pz_sub, pz_div, pz_m, pz_neg1, eq_self, or_self, false_or, or_false, true_or, or_true, ↓reduceIte, if_true, if_false, fx_X10_lookAt, px_nn]
theorem pf_look0 (S : sx_T) : fx_X10_lookAtNoRoom S = ux_vi_names S (upd (upd (upd (sx_vi_names S) 0 (nI 0)) 1 (nI 0)) 2 (nI 0)) := by
  simp (disch := omega) only [pz_l, pz_ltT, pz_ltF, pz_leT, pz_leF, pz_eqT, pz_eqF, pz_nF, pz_nqF, pz_cl, pz_rd, pz_up, pz_bd, pz_let, pk_mul, nI_add, pz_sub, pz_div, pz_m, pz_neg1, eq_self, or_self, false_or, or_false, true_or, or_true, ↓reduceIte, if_true, if_false, fx_X10_lookAtNoRoom, px_nn]
theorem pv_N3 {f : Nat → Int32} {a b c d e g : Int32} (h3 : f 3 = d) (h4 : f 4 = e) (h5 : f 5 = g) : ∀ k, k < 6 → upd (upd (upd f 0 a) 1 b) 2 c k = pv_nm a b c d e g k := by
  intro k hk
  have h : k = 0 ∨ k = 1 ∨ k = 2 ∨ k = 3 ∨ k = 4 ∨ k = 5 := by omega
  rcases h with rfl | rfl | rfl | rfl | rfl | rfl
  · rfl
  · rfl
  · rfl
  · exact h3
  · exact h4
  · exact h5
/-- what the law says, the names being set -/
theorem pf_saidN {V : pv_V} {p : Nat} {M : sm_T} {S : sx_T} (h : px_B0 V M S) (hp : p < 3) (a b c : Int32) : ∃ S', fx_X8_said_r38 (sx_vi_law S) (nI p) (ux_vi_names S (upd (upd (upd (sx_vi_names S) 0 a) 1 b) 2 c)) = some (pe_bd p (pe_val (pv_nm a b c (V.2.2.1 3) (V.2.2.1 1) (V.2.2.1 2)) (V.1 p)), S') ∧ px_e S S' ∧ ∃ g, S' = ux_tx_stack (ux_vi_names S (upd (upd (upd (sx_vi_names S) 0 a) 1 b) 2 c)) g := by
  obtain ⟨⟨t, ht, lt, tx⟩, -, -, ⟨-, n4⟩, n5, ⟨-, n3, -⟩, -⟩ := h
  obtain ⟨g, e⟩ := pe_said (T := V.1) (S := ux_vi_names S (upd (upd (upd (sx_vi_names S) 0 a) 1 b) 2 c)) (M := M) (t := t) (p := p) tx ht hp
  have hh := (tx.2 p hp).1
  have ev : pe_val (sx_vi_names (ux_vi_names S (upd (upd (upd (sx_vi_names S) 0 a) 1 b) 2 c))) (V.1 p) = pe_val (pv_nm a b c (V.2.2.1 3) (V.2.2.1 1) (V.2.2.1 2)) (V.1 p) := pe_vag hh.1 hh.2 (fun k hk _ => pv_N3 n3 n4 n5 k hk)
  rw [ev] at e
  rw [lt]
  exact ⟨_, e, px_enk S a b c g, g, rfl⟩
theorem pf_kept {V : pv_V} {r : Nat} {M : sm_T} {S : sx_T} (h : px_B0 V M S) (hr : r < 6) (f l : Int32) : ∃ S', fx_X10_keptOf (nI r) f l S = some (pv_kp V r f l, S') ∧ px_e S S' := by
  obtain ⟨S1, e1, f1, g1, s1⟩ := pf_saidN (p := 0) h (by decide) (sx_vi_light S r) (sx_vi_damp S r) (nI r)
  have h1 := px_B0g h (px_eg f1)
  obtain ⟨S2, e2, f2, g2, s2⟩ := pf_saidN (p := 1) h1 (by decide) (sx_vi_light S r) (sx_vi_damp S r) (nI r)
  have q : ux_vi_names S1 (upd (upd (upd (sx_vi_names S1) 0 (sx_vi_light S r)) 1 (sx_vi_damp S r)) 2 (nI r)) = S1 := by
    subst s1
    have w : upd (upd (upd (sx_vi_names (ux_tx_stack (ux_vi_names S (upd (upd (upd (sx_vi_names S) 0 (sx_vi_light S r)) 1 (sx_vi_damp S r)) 2 (nI r))) g1)) 0 (sx_vi_light S r)) 1 (sx_vi_damp S r)) 2 (nI r) = upd (upd (upd (sx_vi_names S) 0 (sx_vi_light S r)) 1 (sx_vi_damp S r)) 2 (nI r) := by
      show upd (upd (upd (upd (upd (upd (sx_vi_names S) 0 (sx_vi_light S r)) 1 (sx_vi_damp S r)) 2 (nI r)) 0 (sx_vi_light S r)) 1 (sx_vi_damp S r)) 2 (nI r) = _
      funext j
      simp only [pz_u]
      by_cases c2 : j = 2
      · rw [if_pos c2, if_pos c2]
      · rw [if_neg c2, if_neg c2]
        by_cases c1 : j = 1
        · rw [if_pos c1, if_pos c1]
        · rw [if_neg c1, if_neg c1]
          by_cases c0 : j = 0
          · rw [if_pos c0, if_pos c0]
          · rw [if_neg c0, if_neg c0]
    rw [w]
    show ((S.1, am_us (am_us (am_us S.2.1 23 _) 13 g1) 23 _, S.2.2) : sx_T) = (S.1, am_us (am_us S.2.1 23 _) 13 g1, S.2.2)
    have v : ∀ (F : Nat → Nat → Int32) (x y : Nat → Int32), am_us (am_us (am_us F 23 x) 13 y) 23 x = am_us (am_us F 23 x) 13 y := by
      intro F x y
      funext k
      unfold am_us
      cases c : Nat.beq k 23 with
      | true =>
        have := Nat.eq_of_beq_eq_true c
        subst this
        rfl
      | false => rfl
    rw [v]
  rw [q] at e2
  obtain ⟨⟨t, ht, lt, tx⟩, k1, m1, -, -, -, ld⟩ := id h
  obtain ⟨l1, l2⟩ := ld r hr
  refine ⟨S2, ?_, px_et f1 f2⟩
  have law1 : sx_vi_law (ux_vi_names S (upd (upd (upd (sx_vi_names S) 0 (sx_vi_light S r)) 1 (sx_vi_damp S r)) 2 (nI r))) = sx_vi_law S := rfl
  have kd1 : sx_vi_kind (ux_vi_names S (upd (upd (upd (sx_vi_names S) 0 (sx_vi_light S r)) 1 (sx_vi_damp S r)) 2 (nI r))) = sx_vi_kind S := rfl
  have kk1 : sx_vi_kind S1 = V.2.1 := f1.2.2.trans k1
  have mm1 : sx_vi_more S1 = V.2.2.1 0 := (f1.1.1 16 (by decide)).trans m1
  have mm2 : sx_vi_more S2 = V.2.2.1 0 := (f2.1.1 16 (by decide)).trans mm1
  unfold fx_X10_keptOf
  rw [pf_look hr, pz_let, law1]
  have e1' : fx_X8_said_r38 (sx_vi_law S) 0 (ux_vi_names S (upd (upd (upd (sx_vi_names S) 0 (sx_vi_light S r)) 1 (sx_vi_damp S r)) 2 (nI r))) = _ := e1
  have e2' : fx_X8_said_r38 (sx_vi_law S1) 1 S1 = _ := e2
  rw [e1', pz_bd]
  show am_bd (fx_X8_said_r38 (sx_vi_law S1) 1 S1) _ = _
  rw [e2', pz_bd]
  show some (fk_likes (sx_vi_kind S) (nI r) (pe_bd 0 (pe_val (pv_nm (sx_vi_light S r) (sx_vi_damp S r) (nI r) (V.2.2.1 3) (V.2.2.1 1) (V.2.2.1 2)) (V.1 0))) (sx_vi_more S1) * fk_keeps (sx_vi_kind S1) (pe_bd 1 (pe_val (pv_nm (sx_vi_light S r) (sx_vi_damp S r) (nI r) (V.2.2.1 3) (V.2.2.1 1) (V.2.2.1 2)) (V.1 1))) (fk_likes (sx_vi_kind S) (nI r) (pe_bd 0 (pe_val (pv_nm (sx_vi_light S r) (sx_vi_damp S r) (nI r) (V.2.2.1 3) (V.2.2.1 1) (V.2.2.1 2)) (V.1 0))) (sx_vi_more S1)) (sx_vi_more S2) f l, S2) = some (pv_kp V r f l, S2)
  rw [kk1, k1, mm1, mm2, l1, l2]
  rfl
