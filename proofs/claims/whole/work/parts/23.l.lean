/-! ===== shown, when ===== -/
def pm_x (B : Nat → Bool) (b : Nat) : Nat → Bool := fun j => B j && !(Nat.beq j b)
theorem pm_xn {B : Nat → Bool} {b j : Nat} (h : j ≠ b) : pm_x B b j = B j := by
  unfold pm_x
  have : Nat.beq j b = false := by
    cases e : Nat.beq j b with
    | false => rfl
    | true => exact absurd (Nat.eq_of_beq_eq_true e) h
  rw [this]
  cases B j <;> rfl
theorem pm_xs {B : Nat → Bool} {b : Nat} : pm_x B b b = false := by
  unfold pm_x
  rw [Nat.beq_refl]
  cases B b <;> rfl
/-- one more comes: the most of the others -/
theorem pm_nx {f : Nat → Nat} {B : Nat → Bool} {k : Nat} (hk : k < 90) (b : B k = true) : (pm_b f B k = 99 → pm_v f (pm_x B (pm_b f B (k + 1))) (k + 1) = 0 ∧ pm_b f B (k + 1) = k) ∧ (pm_b f B k ≠ 99 → f (pm_b f B k) < f k → pm_v f (pm_x B (pm_b f B (k + 1))) (k + 1) = pm_v f B k ∧ pm_b f B (k + 1) = k) ∧ (pm_b f B k ≠ 99 → f k ≤ f (pm_b f B k) → pm_b f B (k + 1) = pm_b f B k ∧ pm_v f (pm_x B (pm_b f B (k + 1))) (k + 1) = (if pm_v f (pm_x B (pm_b f B k)) k < f k then f k else pm_v f (pm_x B (pm_b f B k)) k)) := by
  have last : ∀ c, pm_v f (pm_x B c) (k + 1) = if pm_x B c k = true then (if pm_v f (pm_x B c) k < f k then f k else pm_v f (pm_x B c) k) else pm_v f (pm_x B c) k := fun c => rfl
  have same : pm_v f (pm_x B k) k = pm_v f B k := pm_vc k (fun j hj => pm_xn (by omega)) (fun _ _ _ => rfl)
  refine ⟨fun h => ?_, fun h h2 => ?_, fun h h2 => ?_⟩
  · have e : pm_b f B (k + 1) = k := by rw [pm_bS, if_pos b, if_pos h]
    rw [e, last, pm_xs, if_neg (by decide), same]
    rcases pm_bv (f := f) (B := B) k hk with ⟨-, a2, -⟩ | ⟨a1, -, -⟩
    · exact ⟨a2, rfl⟩
    · omega
  · have e : pm_b f B (k + 1) = k := by rw [pm_bS, if_pos b, if_neg h, if_neg (by omega)]
    rw [e, last, pm_xs, if_neg (by decide), same]
    exact ⟨rfl, rfl⟩
  · have e : pm_b f B (k + 1) = pm_b f B k := by rw [pm_bS, if_pos b, if_neg h, if_pos h2]
    have hb : pm_b f B k < k := by
      rcases pm_bv (f := f) (B := B) k hk with ⟨a1, -, -⟩ | ⟨a1, -, -⟩
      · exact absurd a1 h
      · exact a1
    rw [e, last, pm_xn (by omega), if_pos b]
    exact ⟨rfl, rfl⟩
theorem pm_nx0 {f : Nat → Nat} {B : Nat → Bool} {k : Nat} (b : B k = false) : pm_b f B (k + 1) = pm_b f B k ∧ pm_v f B (k + 1) = pm_v f B k ∧ pm_v f (pm_x B (pm_b f B (k + 1))) (k + 1) = pm_v f (pm_x B (pm_b f B k)) k := by
  have e : pm_b f B (k + 1) = pm_b f B k := by rw [pm_bS, b]; rfl
  refine ⟨e, by rw [pm_vS, b]; rfl, ?_⟩
  rw [e, pm_vS]
  have : pm_x B (pm_b f B k) k = false := by unfold pm_x; rw [b]; rfl
  rw [this]; rfl
/-- the reference on its way, at an hour -/
def pm_runH (hr : Int32) (W : Nat → Nat) (n : Nat) (M M' : sm_T) : Prop := pm_f (1 :: pm_es) pm_ea M M' ∧ sm_hour M' = hr ∧ pm_W W n M'
theorem pm_CH {T : Nat → Nat → List Int32} {S : sx_T} {M M' : sm_T} (h : px_Q T S M) {t v cr : Nat} {hr : Int32} {W : Nat → Nat} {n : Nat} (lt : sx_now_law S = nI t) (ht : t < 6) (hv : v < 8) (hc : cr < 9) (r : pm_runH hr W n M M') : pm_C S (pv_cuh T t S v cr hr) v cr M' := by
  obtain ⟨⟨u, w⟩, hh, -⟩ := r
  obtain ⟨a, ⟨t', ht', rt, tx'⟩, c, dd, e, fh, gg⟩ := pq_mC h lt ht hv hc
  refine ⟨a, ⟨t', ht', (u 4 (by decide)).trans rt, pr_txm tx' (w 5 (by decide)) (w 6 (by decide))⟩, ?_, ?_, ?_, hh, ?_⟩
  · rw [show sm_kind M' = sm_kind M from w 0 (by decide)]; exact c
  · rw [show sm_moreOf M' = sm_moreOf M from w 1 (by decide)]; exact dd
  · rw [show sm_flat M' = sm_flat M from w 3 (by decide)]; exact e
  · rw [show sm_ones M' = sm_ones M from w 2 (by decide)]; exact gg
/-- what one offers, as a natural -/
def pv_ofN (T : Nat → Nat → List Int32) (t : Nat) (S : sx_T) (cr : Nat) (hr : Int32) (W : Nat → Nat) (n : Nat) (v : Nat) : Nat := (pv_of (pv_cuh T t S v cr hr) W n).toNatClampNeg
theorem pv_ofE (T : Nat → Nat → List Int32) (t : Nat) (S : sx_T) {cr : Nat} (hcr : cr < 9) (hr : Int32) (W : Nat → Nat) (n : Nat) (v : Nat) : pv_of (pv_cuh T t S v cr hr) W n = nI (pv_ofN T t S cr hr W n v) ∧ pv_ofN T t S cr hr W n v < 2147483648 := by
  obtain ⟨m, hm, e⟩ := pv_nn (pv_cuh T t S v cr hr) W n (cr := cr) rfl hcr
  unfold pv_ofN
  rw [e, pz_cl hm]
  exact ⟨rfl, hm⟩
theorem pf_sh {T : Nat → Nat → List Int32} {t : Nat} {hr : Int32} {W : Nat → Nat} {n nv cr : Nat} {S : sx_T} {M : sm_T} {x : Int32} (h : px_Q T S M) (lt : sx_now_law S = nI t) (ht : t < 6) (hnv : nv < 9) (hcr : cr < 9) (n1 : sx_now_viewers S = nI nv) : ∀ (d k g : Nat) (M' : sm_T), k + d = nv → d < g → pm_runH hr W n M M' → sm_bestOne M' = pm_i (pm_b (pv_ofN T t S cr hr W n) (pb_it x) k) → sm_bestOffer M' = nI (pm_v (pv_ofN T t S cr hr W n) (pb_it x) k) → sm_nextOffer M' = nI (pm_v (pv_ofN T t S cr hr W n) (pm_x (pb_it x) (pm_b (pv_ofN T t S cr hr W n) (pb_it x) k)) k) → ∃ M2, fx_X12_shows_23 g x (nI cr) (nI k) M' = some M2 ∧ pm_runH hr W n M M2 ∧ sm_bestOne M2 = pm_i (pm_b (pv_ofN T t S cr hr W n) (pb_it x) nv) ∧ sm_bestOffer M2 = nI (pm_v (pv_ofN T t S cr hr W n) (pb_it x) nv) ∧ sm_nextOffer M2 = nI (pm_v (pv_ofN T t S cr hr W n) (pm_x (pb_it x) (pm_b (pv_ofN T t S cr hr W n) (pb_it x) nv)) nv) ∧ pm_f [14, 15, 16] [13, 14] M' M2 := by
  have n3 : sm_viewers M = nI nv := h.1.1.2.trans n1
  have bv : ∀ (B : Nat → Bool) k, k < 9 → pm_v (pv_ofN T t S cr hr W n) B k < 2147483648 := by
    intro B k hk
    rcases pm_bv (f := pv_ofN T t S cr hr W n) (B := B) k (by omega) with ⟨-, a2, -⟩ | ⟨-, -, a3⟩
    · omega
    · rw [a3]; exact (pv_ofE T t S hcr hr W n _).2
  intro d
  induction d with
  | zero =>
    intro k g M' h1 h2 r b1 b2 b3
    obtain ⟨e, rfl⟩ : ∃ e, g = e + 1 := ⟨g - 1, by omega⟩
    have hk : k = nv := by omega
    subst hk
    have e2 : sm_viewers M' = nI k := (r.1.1 0 (by decide)).trans n3
    refine ⟨M', ?_, r, b1, b2, b3, pm_fr⟩
    rw [fx_X12_shows_23, e2, if_pos (nI_le (Nat.le_refl k) (by omega))]
  | succ d ih =>
    intro k g M' h1 h2 r b1 b2 b3
    obtain ⟨e, rfl⟩ : ∃ e, g = e + 1 := ⟨g - 1, by omega⟩
    have e2 : sm_viewers M' = nI nv := (r.1.1 0 (by decide)).trans n3
    have e3 : nI k + 1 = nI (k + 1) := (nI_succ k).symm
    rw [fx_X12_shows_23, e2, if_neg (nI_ge (by omega) (by omega)), e3]
    rcases pb_tst x (k := k) (by omega) with ⟨q1, q2⟩ | ⟨q1, q2⟩
    · obtain ⟨z1, z2, z3⟩ := pm_nx0 (f := pv_ofN T t S cr hr W n) q2
      rw [if_neg (by rw [q1]; decide)]
      exact ih (k + 1) e M' (by omega) (by omega) r (by rw [z1]; exact b1) (by rw [z2]; exact b2) (by rw [z3]; exact b3)
    · rw [if_pos q1]
      have hM := pm_CH h lt ht (show k < 8 by omega) hcr r
      obtain ⟨M1, y1, y2⟩ := pe_offer hM r.2.2
      obtain ⟨oe, ol⟩ := pv_ofE T t S hcr hr W n k
      rw [oe] at y1
      rw [y1, pz_bd]
      have c1 : sm_bestOne M1 = sm_bestOne M' := y2.1 14 (by decide)
      have c2 : sm_bestOffer M1 = sm_bestOffer M' := y2.1 15 (by decide)
      have c3 : sm_nextOffer M1 = sm_nextOffer M' := y2.1 16 (by decide)
      have r1 : pm_runH hr W n M M1 := ⟨pm_ft r.1 (pm_fm y2 (by decide) (by decide)), (y2.1 1 (by decide)).trans r.2.1, pm_Wf r.2.2 y2⟩
      have fr1 : pm_f [14, 15, 16] [13, 14] M' M1 := pm_fm y2 (by decide) (by decide)
      have runA : ∀ a b c, pm_runH hr W n M (um_bestOffer (um_bestOne (um_nextOffer M1 a) b) c) := fun a b c => ⟨pm_fs (j := 15) (S' := um_bestOne (um_nextOffer M1 a) b) (pm_fs (j := 14) (S' := um_nextOffer M1 a) (pm_fs (j := 16) (S' := M1) r1.1 (by decide)) (by decide)) (by decide), r1.2.1, r1.2.2⟩
      have frA : ∀ a b c, pm_f [14, 15, 16] [13, 14] M' (um_bestOffer (um_bestOne (um_nextOffer M1 a) b) c) := fun a b c => pm_fs (j := 15) (S' := um_bestOne (um_nextOffer M1 a) b) (pm_fs (j := 14) (S' := um_nextOffer M1 a) (pm_fs (j := 16) (S' := M1) fr1 (by decide)) (by decide)) (by decide)
      have runB : ∀ a, pm_runH hr W n M (um_nextOffer M1 a) := fun a => ⟨pm_fs (j := 16) (S' := M1) r1.1 (by decide), r1.2.1, r1.2.2⟩
      have frB : ∀ a, pm_f [14, 15, 16] [13, 14] M' (um_nextOffer M1 a) := fun a => pm_fs (j := 16) (S' := M1) fr1 (by decide)
      have vS := pm_vS (pv_ofN T t S cr hr W n) (pb_it x) k
      rw [if_pos q2] at vS
      obtain ⟨p1, p2, p3⟩ := pm_nx (f := pv_ofN T t S cr hr W n) (B := pb_it x) (k := k) (by omega) q2
      show ∃ M2, (if sm_bestOne M1 = -1 then fx_X12_shows_23 e x (nI cr) (nI (k + 1)) (um_bestOffer (um_bestOne (um_nextOffer M1 (sm_bestOffer M1)) (nI k)) (nI (pv_ofN T t S cr hr W n k))) else (if nI (pv_ofN T t S cr hr W n k) ≤ sm_bestOffer M1 then (if nI (pv_ofN T t S cr hr W n k) ≤ sm_nextOffer M1 then fx_X12_shows_23 e x (nI cr) (nI (k + 1)) (um_nextOffer M1 (sm_nextOffer M1)) else fx_X12_shows_23 e x (nI cr) (nI (k + 1)) (um_nextOffer M1 (nI (pv_ofN T t S cr hr W n k)))) else fx_X12_shows_23 e x (nI cr) (nI (k + 1)) (um_bestOffer (um_bestOne (um_nextOffer M1 (sm_bestOffer M1)) (nI k)) (nI (pv_ofN T t S cr hr W n k))))) = some M2 ∧ _
      rw [c1, b1, c2, b2, c3, b3]
      have ik : pm_i k = nI k := if_neg (by omega)
      have bk := bv (pb_it x) k (by omega)
      rcases pm_bv (f := pv_ofN T t S cr hr W n) (B := pb_it x) k (by omega) with ⟨a1, a2, -⟩ | ⟨a1, a2, a3⟩
      · obtain ⟨p4, p5⟩ := p1 a1
        rw [a1, if_pos (show pm_i 99 = -1 from rfl)]
        obtain ⟨M2, w1, w2, w3, w4, w5, w6⟩ := ih (k + 1) e _ (by omega) (by omega) (runA (nI (pm_v (pv_ofN T t S cr hr W n) (pb_it x) k)) (nI k) (nI (pv_ofN T t S cr hr W n k))) (by rw [p5, ik]; rfl) (by
          rw [vS]
          show nI (pv_ofN T t S cr hr W n k) = _
          rw [a2]
          split
          · rfl
          · have : pv_ofN T t S cr hr W n k = 0 := by omega
            rw [this]) (by
          rw [p4]
          show nI (pm_v (pv_ofN T t S cr hr W n) (pb_it x) k) = nI 0
          rw [a2])
        exact ⟨M2, w1, w2, w3, w4, w5, pm_ft (frA _ _ _) w6⟩
      · have n99 : pm_b (pv_ofN T t S cr hr W n) (pb_it x) k ≠ 99 := by omega
        have ib : pm_i (pm_b (pv_ofN T t S cr hr W n) (pb_it x) k) = nI (pm_b (pv_ofN T t S cr hr W n) (pb_it x) k) := if_neg n99
        have ib2 : ¬ nI (pm_b (pv_ofN T t S cr hr W n) (pb_it x) k) = -1 := fun q => by
          have := pz_neg1 (a := pm_b (pv_ofN T t S cr hr W n) (pb_it x) k) (by omega)
          rw [show (-1 : Int32) = -(nI 1) from rfl, this] at q
          exact q
        rw [ib, if_neg ib2]
        by_cases c : pv_ofN T t S cr hr W n k ≤ pm_v (pv_ofN T t S cr hr W n) (pb_it x) k
        · rw [if_pos (nI_le c bk)]
          obtain ⟨p4, p5⟩ := p3 n99 (by rw [← a3]; exact c)
          have nb := bv (pm_x (pb_it x) (pm_b (pv_ofN T t S cr hr W n) (pb_it x) k)) k (by omega)
          have vS' : pm_v (pv_ofN T t S cr hr W n) (pb_it x) (k + 1) = pm_v (pv_ofN T t S cr hr W n) (pb_it x) k := by rw [vS, if_neg (by omega)]
          by_cases cc2 : pv_ofN T t S cr hr W n k ≤ pm_v (pv_ofN T t S cr hr W n) (pm_x (pb_it x) (pm_b (pv_ofN T t S cr hr W n) (pb_it x) k)) k
          · rw [if_pos (nI_le cc2 nb)]
            obtain ⟨M2, w1, w2, w3, w4, w5, w6⟩ := ih (k + 1) e _ (by omega) (by omega) (runB (nI (pm_v (pv_ofN T t S cr hr W n) (pm_x (pb_it x) (pm_b (pv_ofN T t S cr hr W n) (pb_it x) k)) k))) (by rw [p4]; exact c1.trans b1) (by rw [vS']; exact c2.trans b2) (by rw [p5, if_neg (by omega)]; rfl)
            exact ⟨M2, w1, w2, w3, w4, w5, pm_ft (frB _) w6⟩
          · rw [if_neg (nI_ge (by omega) ol)]
            obtain ⟨M2, w1, w2, w3, w4, w5, w6⟩ := ih (k + 1) e _ (by omega) (by omega) (runB (nI (pv_ofN T t S cr hr W n k))) (by rw [p4]; exact c1.trans b1) (by rw [vS']; exact c2.trans b2) (by rw [p5, if_pos (by omega)]; rfl)
            exact ⟨M2, w1, w2, w3, w4, w5, pm_ft (frB _) w6⟩
        · rw [if_neg (nI_ge (by omega) ol)]
          obtain ⟨p4, p5⟩ := p2 n99 (by rw [← a3]; omega)
          obtain ⟨M2, w1, w2, w3, w4, w5, w6⟩ := ih (k + 1) e _ (by omega) (by omega) (runA (nI (pm_v (pv_ofN T t S cr hr W n) (pb_it x) k)) (nI k) (nI (pv_ofN T t S cr hr W n k))) (by rw [p5, ik]; rfl) (by rw [vS, if_pos (by omega)]; rfl) (by rw [p4]; rfl)
          exact ⟨M2, w1, w2, w3, w4, w5, pm_ft (frA _ _ _) w6⟩
