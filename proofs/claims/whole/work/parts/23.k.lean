/-! ===== who offers most ===== -/
theorem pn_nn {x : Int32} (h : 0 ≤ x) : ∃ m, m < 2147483648 ∧ x = nI m := nI_of (Int32.not_lt.mpr h)
theorem pe_b2 (x : Int32) : ∃ a, a < 1000 ∧ pe_bd 2 x = nI a := by
  have e : pe_bd 2 x = fx_X11_bound x (nI 0) (nI 999) := rfl
  rw [e]
  unfold fx_X11_bound
  by_cases h : nI 0 ≤ x
  · rw [if_pos h]
    by_cases h2 : x ≤ nI 999
    · rw [if_pos h2]
      obtain ⟨a, ha, hx⟩ := nI_of2 (n := 999) (M := nI 999) (by decide) (Int32.not_lt.mpr h) h2
      exact ⟨a, by omega, hx⟩
    · rw [if_neg h2]; exact ⟨999, by decide, rfl⟩
  · rw [if_neg h]; exact ⟨0, by decide, rfl⟩
theorem pv_nn (V : pv_V) (W : Nat → Nat) (n : Nat) {cr : Nat} (hc : V.2.2.1 1 = nI cr) (hcr : cr < 9) : ∃ m, m < 2147483648 ∧ pv_of V W n = nI m := by
  unfold pv_of
  rw [hc]
  obtain ⟨a, ha, ea⟩ := pe_b2 (pe_val (pv_n0 V) (V.1 2))
  rw [ea]
  generalize pv_mi V W n = mi
  have h9 : ∃ b, b < 1000 ∧ fx_X9_offers (nI a) mi (nI cr) = nI b := by
    unfold fx_X9_offers
    by_cases c : mi ≤ 0
    · rw [if_pos c]; exact ⟨0, by decide, rfl⟩
    · rw [if_neg c]; exact ⟨a, ha, rfl⟩
  have h7 : ∃ b, b < 2000 ∧ fx_X7_offers (nI a) mi (nI cr) = nI b := by
    obtain ⟨b, hb, eb⟩ := h9
    unfold fx_X7_offers
    rw [eb]
    by_cases c : nI cr ≤ 2
    · rw [if_pos c]; exact ⟨b, by omega, rfl⟩
    · rw [if_neg c]
      refine ⟨b + 10 * cr, by omega, ?_⟩
      rw [show (10 : Int32) * nI cr = nI (10 * cr) from pk_mul 10 cr, nI_add]
  have hk : ∀ c : Fin 8, ∃ m, m < 2147483648 ∧ fk_offers c (nI a) mi (nI cr) = nI m := by
    intro c
    unfold fk_offers
    split
    · obtain ⟨b, hb, eb⟩ := h7; exact ⟨b, by omega, eb⟩
    · unfold fx_X2_offers am_mx
      by_cases q : 0 < fx_X9_offers (nI a) mi (nI cr) + mi
      · rw [if_pos q]; exact pn_nn (Int32.le_of_lt q)
      · rw [if_neg q]; exact ⟨0, by decide, rfl⟩
    · obtain ⟨b, hb, eb⟩ := h7
      unfold fx_X3_offers
      rw [eb]
      exact ⟨b / 2, by omega, pz_div (d := 2) (by omega) (by decide) (by decide)⟩
    · exact ⟨0, by decide, rfl⟩
    · obtain ⟨b, hb, eb⟩ := h9; exact ⟨b, by omega, eb⟩
  exact hk V.2.1
/-- one of the viewers at an hour -/
def pv_cuh (T : Nat → Nat → List Int32) (t : Nat) (S : sx_T) (v cr : Nat) (hr : Int32) : pv_V := (T t, fx_X11_kindAt (sx_kindOf S v), pv_sc (sx_moreOf S v) (nI cr) (sx_now_rich S v) hr, sx_now_light S, sx_now_damp S)
def px_runH (T : Nat → Nat → List Int32) (t : Nat) (hr : Int32) (W : Nat → Nat) (n : Nat) (M : sm_T) (S S' : sx_T) : Prop := px_f px_es px_ea S S' ∧ px_A (T t) hr (sx_now_light S) (sx_now_damp S) M S' ∧ px_L W n S'
theorem pf_one {T : Nat → Nat → List Int32} {t : Nat} {hr : Int32} {W : Nat → Nat} {n v cr : Nat} {S S' : sx_T} {M : sm_T} (r : px_runH T t hr W n M S S') : ∃ S2, fx_X10_offer (pt_lc v cr S') = some (pv_of (pv_cuh T t S v cr hr) W n, S2) ∧ px_runH T t hr W n M S S2 ∧ px_f [16, 17, 20] [13, 23, 24] S' S2 := by
  obtain ⟨f1, hA, hL⟩ := r
  have hC := px_lcC (v := v) (cr := cr) hA hL
  rw [show sx_kindOf S' = sx_kindOf S from f1.2 8 (by decide), show sx_moreOf S' = sx_moreOf S from f1.2 9 (by decide), show sx_now_rich S' = sx_now_rich S from f1.2 2 (by decide)] at hC
  obtain ⟨S2, x1, x2, x3⟩ := pf_offer hC
  have fl : px_f [16, 17, 20] [13, 23, 24] S' S2 := px_ft (px_fm (px_lcf v cr S') (by decide) (by decide)) (px_fm x2.1 (by decide) (by decide))
  exact ⟨S2, x1, ⟨px_ft f1 (px_fm fl (by decide) (by decide)), px_CA x3⟩, fl⟩
theorem pf_fillO {T : Nat → Nat → List Int32} {t : Nat} {hr : Int32} {W : Nat → Nat} {n nv cr : Nat} {S : sx_T} {M : sm_T} {some' : Int32} (hnv : nv < 9) (hcr : cr < 9) (n1 : sx_now_viewers S = nI nv) : ∀ (d v g : Nat) (S' : sx_T), v + d = nv → d < g → px_runH T t hr W n M S S' → ∃ S2, fx_X11_fillOffers_2 g some' (nI cr) (nI v) S' = some S2 ∧ px_runH T t hr W n M S S2 ∧ px_f [16, 17, 20] [13, 23, 24, 28] S' S2 ∧ (∀ j, j < v → sx_offered S2 j = sx_offered S' j) ∧ (∀ j, v ≤ j → j < nv → pb_it some' j = true → sx_offered S2 j = pv_of (pv_cuh T t S j cr hr) W n) := by
  intro d
  induction d with
  | zero =>
    intro v g S' h1 h2 r
    obtain ⟨f, rfl⟩ : ∃ f, g = f + 1 := ⟨g - 1, by omega⟩
    have e1 : sx_now_viewers S' = nI nv := (r.1.1 2 (by decide)).trans n1
    refine ⟨S', ?_, r, px_fr, fun _ _ => rfl, fun j a b => absurd a (by omega)⟩
    rw [fx_X11_fillOffers_2, e1, if_pos (nI_le (by omega) (by omega))]
  | succ d ih =>
    intro v g S' h1 h2 r
    obtain ⟨f, rfl⟩ : ∃ f, g = f + 1 := ⟨g - 1, by omega⟩
    have e1 : sx_now_viewers S' = nI nv := (r.1.1 2 (by decide)).trans n1
    have e3 : nI v + 1 = nI (v + 1) := (nI_succ v).symm
    rw [fx_X11_fillOffers_2, e1, if_neg (nI_ge (by omega) (by omega))]
    rcases pb_tst some' (k := v) (by omega) with ⟨b1, b2⟩ | ⟨b1, b2⟩
    · rw [if_pos b1, e3]
      obtain ⟨S2, q1, q2, q2', q3, q4⟩ := ih (v + 1) f S' (by omega) (by omega) r
      refine ⟨S2, q1, q2, q2', fun j hj => q3 j (by omega), fun j hj hj2 hb => ?_⟩
      by_cases c : j = v
      · subst c; rw [b2] at hb; cases hb
      · exact q4 j (by omega) hj2 hb
    · rw [if_neg (by rw [b1]; decide), pf_lc (by omega) hcr, pz_let, e3]
      obtain ⟨S1, x1, x2, x3⟩ := pf_one (v := v) (cr := cr) r
      rw [x1, pz_bd]
      have r2 : px_runH T t hr W n M S (ux_offered S1 (upd (sx_offered S1) v (pv_of (pv_cuh T t S v cr hr) W n))) := ⟨px_fa (j := 28) (S' := S1) x2.1 (by decide), x2.2⟩
      obtain ⟨S2, q1, q2, q2', q3, q4⟩ := ih (v + 1) f _ (by omega) (by omega) r2
      have o1 : sx_offered S1 = sx_offered S' := x3.2 28 (by decide)
      refine ⟨S2, ?_, q2, px_ft (px_fa (j := 28) (S' := S1) (px_fm x3 (by decide) (by decide)) (by decide)) q2', fun j hj => ?_, fun j hj hj2 hb => ?_⟩
      · show fx_X11_fillOffers_2 f some' (nI cr) (nI (v + 1)) (ux_offered S1 (am_up 8 (sx_offered S1) (nI v) (pv_of (pv_cuh T t S v cr hr) W n))) = _
        rw [pz_up (by omega) (by decide)]
        exact q1
      · rw [q3 j (by omega)]
        show upd (sx_offered S1) v _ j = _
        rw [pz_un (by omega), o1]
      · by_cases c : j = v
        · subst c
          rw [q3 j (by omega)]
          exact pz_us
        · exact q4 j (by omega) hj2 hb
/-! the most, of those who are there -/
def pm_v (f : Nat → Nat) (B : Nat → Bool) : Nat → Nat
  | 0 => 0
  | k + 1 => if B k = true then (if pm_v f B k < f k then f k else pm_v f B k) else pm_v f B k
/-- the first of the most (99: nobody) -/
def pm_b (f : Nat → Nat) (B : Nat → Bool) : Nat → Nat
  | 0 => 99
  | k + 1 => if B k = true then (if pm_b f B k = 99 then k else if f k ≤ f (pm_b f B k) then pm_b f B k else k) else pm_b f B k
theorem pm_bS (f : Nat → Nat) (B : Nat → Bool) (k : Nat) : pm_b f B (k + 1) = if B k = true then (if pm_b f B k = 99 then k else if f k ≤ f (pm_b f B k) then pm_b f B k else k) else pm_b f B k := rfl
theorem pm_vS (f : Nat → Nat) (B : Nat → Bool) (k : Nat) : pm_v f B (k + 1) = if B k = true then (if pm_v f B k < f k then f k else pm_v f B k) else pm_v f B k := rfl
def pm_i (m : Nat) : Int32 := if m = 99 then -(nI 1) else nI m
theorem pm_bv {f : Nat → Nat} {B : Nat → Bool} : ∀ k, k < 90 → (pm_b f B k = 99 ∧ pm_v f B k = 0 ∧ ∀ j, j < k → B j = false) ∨ (pm_b f B k < k ∧ B (pm_b f B k) = true ∧ pm_v f B k = f (pm_b f B k)) := by
  intro k
  induction k with
  | zero => intro _; exact Or.inl ⟨rfl, rfl, fun j hj => absurd hj (Nat.not_lt_zero j)⟩
  | succ k ih =>
    intro hk
    unfold pm_b pm_v
    cases b : B k with
    | false =>
      rw [if_neg (by decide), if_neg (by decide)]
      rcases ih (by omega) with ⟨a1, a2, a3⟩ | ⟨a1, a2, a3⟩
      · refine Or.inl ⟨a1, a2, fun j hj => ?_⟩
        by_cases q : j = k
        · subst q; exact b
        · exact a3 j (by omega)
      · exact Or.inr ⟨by omega, a2, a3⟩
    | true =>
      rw [if_pos rfl, if_pos rfl]
      rcases ih (by omega) with ⟨a1, a2, a3⟩ | ⟨a1, a2, a3⟩
      · rw [if_pos a1, a2]
        refine Or.inr ⟨by omega, b, ?_⟩
        split <;> omega
      · rw [if_neg (show ¬ pm_b f B k = 99 by omega), a3]
        by_cases q : f k ≤ f (pm_b f B k)
        · rw [if_pos q, if_neg (by omega)]
          exact Or.inr ⟨by omega, a2, rfl⟩
        · rw [if_neg q, if_pos (by omega)]
          exact Or.inr ⟨by omega, b, rfl⟩
theorem pm_vc {f f' : Nat → Nat} {B B' : Nat → Bool} : ∀ k, (∀ j, j < k → B j = B' j) → (∀ j, j < k → B j = true → f j = f' j) → pm_v f B k = pm_v f' B' k := by
  intro k
  induction k with
  | zero => intro _ _; rfl
  | succ k ih =>
    intro h h2
    unfold pm_v
    rw [ih (fun j hj => h j (by omega)) (fun j hj => h2 j (by omega)), ← h k (by omega)]
    cases b : B k with
    | false => rfl
    | true => rw [if_pos rfl, if_pos rfl, h2 k (by omega) b]
theorem pf_fom {S : sx_T} {nv : Nat} {x : Int32} {f : Nat → Nat} (hnv : nv < 9) (n1 : sx_now_viewers S = nI nv) (ho : ∀ j, j < nv → pb_it x j = true → sx_offered S j = nI (f j)) (hf : ∀ j, j < nv → f j < 2147483648) : ∀ (d k g : Nat), k + d = nv → d < g → fx_X11_firstOfMost_4 S g x (pm_i (pm_b f (pb_it x) k)) (nI k) = some (pm_i (pm_b f (pb_it x) nv)) := by
  intro d
  induction d with
  | zero =>
    intro k g h1 h2
    obtain ⟨e, rfl⟩ : ∃ e, g = e + 1 := ⟨g - 1, by omega⟩
    have hk : k = nv := by omega
    subst hk
    rw [fx_X11_firstOfMost_4, n1, if_pos (nI_le (Nat.le_refl k) (by omega))]
  | succ d ih =>
    intro k g h1 h2
    obtain ⟨e, rfl⟩ : ∃ e, g = e + 1 := ⟨g - 1, by omega⟩
    have e3 : nI k + 1 = nI (k + 1) := (nI_succ k).symm
    refine Eq.trans ?_ (ih (k + 1) e (by omega) (by omega))
    rw [fx_X11_firstOfMost_4, n1, if_neg (nI_ge (by omega) (by omega)), e3, pm_bS]
    rcases pb_tst x (k := k) (by omega) with ⟨b1, b2⟩ | ⟨b1, b2⟩
    · rw [if_pos b1, b2, if_neg (by decide)]
    · rw [if_neg (by rw [b1]; decide), b2, if_pos rfl]
      rcases pm_bv (f := f) (B := pb_it x) k (by omega) with ⟨a1, a2, a3⟩ | ⟨a1, a2, a3⟩
      · rw [a1, if_pos rfl]
        have i1 : pm_i 99 = -1 := rfl
        have i2 : pm_i k = nI k := if_neg (by omega)
        rw [i1, if_pos (rfl : (-1 : Int32) = -1), i2]
      · generalize hb : pm_b f (pb_it x) k = b at a1 a2 a3
        have i1 : pm_i b = nI b := if_neg (by omega)
        have i2 : ¬ nI b = -1 := fun q => by
          have := pz_neg1 (a := b) (by omega)
          rw [show (-1 : Int32) = -(nI 1) from rfl, this] at q
          exact q
        rw [if_neg (show ¬ b = 99 by omega), i1, if_neg i2, pz_rd (by omega) (by decide), pz_rd (by omega) (by decide), ho k (by omega) b2, ho b (by omega) a2]
        by_cases c : f k ≤ f b
        · rw [if_pos (nI_le c (hf b (by omega))), if_pos c, i1]
        · rw [if_neg (nI_ge (by omega) (hf k (by omega))), if_neg c, show pm_i k = nI k from if_neg (by omega)]
theorem pf_fomS {S : sx_T} {nv : Nat} {x : Int32} {f : Nat → Nat} (hnv : nv < 9) (n1 : sx_now_viewers S = nI nv) (ho : ∀ j, j < nv → pb_it x j = true → sx_offered S j = nI (f j)) (hf : ∀ j, j < nv → f j < 2147483648) : fx_X11_firstOfMost x S = some (pm_i (pm_b f (pb_it x) nv)) := pf_fom hnv n1 ho hf nv 0 am_fu (by omega) (by rw [pf_u]; omega)
theorem pf_most {S : sx_T} {nv : Nat} {x : Int32} {f : Nat → Nat} (hnv : nv < 9) (n1 : sx_now_viewers S = nI nv) (ho : ∀ j, j < nv → pb_it x j = true → sx_offered S j = nI (f j)) (hf : ∀ j, j < nv → f j < 2147483648) : fx_X11_mostOffered x S = some (nI (pm_v f (pb_it x) nv)) := by
  unfold fx_X11_mostOffered
  rw [pf_fomS hnv n1 ho hf, pz_bd]
  rcases pm_bv (f := f) (B := pb_it x) nv (by omega) with ⟨a1, a2, a3⟩ | ⟨a1, a2, a3⟩
  · rw [a1, if_pos (show pm_i 99 = -1 from rfl), a2]; rfl
  · generalize hb : pm_b f (pb_it x) nv = b at a1 a2 a3
    have i1 : pm_i b = nI b := if_neg (by omega)
    have i2 : ¬ nI b = -1 := fun q => by
      have := pz_neg1 (a := b) (by omega)
      rw [show (-1 : Int32) = -(nI 1) from rfl, this] at q
      exact q
    rw [i1, if_neg i2, pz_rd (by omega) (by decide), ho b a1 a2, a3]
