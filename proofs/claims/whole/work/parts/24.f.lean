/-! ===== best: the class's sums ===== -/
def pi_sm (f : Nat → Int32) : List Nat → Int32
  | [] => 0
  | x :: l => f x + pi_sm f l
theorem pi_smp (f : Nat → Int32) {l l' : List Nat} (h : l.Perm l') : pi_sm f l = pi_sm f l' := by
  induction h with
  | nil => rfl
  | cons x _ ih => show f x + _ = f x + _; rw [ih]
  | swap x y l =>
    show f y + (f x + pi_sm f l) = f x + (f y + pi_sm f l)
    rw [← Int32.add_assoc, ← Int32.add_assoc, Int32.add_comm (f y)]
  | trans _ _ ih1 ih2 => exact ih1.trans ih2
theorem pq_p6 : pq_L6.all (fun x => [pq_de 6 x 0, pq_de 6 x 1, pq_de 6 x 2, pq_de 6 x 3, pq_de 6 x 4, pq_de 6 x 5].isPerm [0, 1, 2, 3, 4, 5]) = true := by decide +kernel
theorem pi_plain (V : pv_V) {x : Nat} (hx : x ∈ pq_L6) : pv_pl V 6 = pi_sm (fun r => pv_kp V r (nI 0) (nI 0)) [pq_de 6 x 0, pq_de 6 x 1, pq_de 6 x 2, pq_de 6 x 3, pq_de 6 x 4, pq_de 6 x 5] := by
  have h := List.all_eq_true.mp pq_p6 x hx
  rw [pi_smp _ (List.isPerm_iff.mp h)]
  show (((((nI 0 + pv_kp V 0 (nI 0) (nI 0)) + pv_kp V 1 (nI 0) (nI 0)) + pv_kp V 2 (nI 0) (nI 0)) + pv_kp V 3 (nI 0) (nI 0)) + pv_kp V 4 (nI 0) (nI 0)) + pv_kp V 5 (nI 0) (nI 0) = pv_kp V 0 (nI 0) (nI 0) + (pv_kp V 1 (nI 0) (nI 0) + (pv_kp V 2 (nI 0) (nI 0) + (pv_kp V 3 (nI 0) (nI 0) + (pv_kp V 4 (nI 0) (nI 0) + (pv_kp V 5 (nI 0) (nI 0) + 0)))))
  rw [show (nI 0 : Int32) = 0 from rfl]
  generalize pv_kp V 0 0 0 = a0
  generalize pv_kp V 1 0 0 = a1
  generalize pv_kp V 2 0 0 = a2
  generalize pv_kp V 3 0 0 = a3
  generalize pv_kp V 4 0 0 = a4
  generalize pv_kp V 5 0 0 = a5
  grind
/-- one viewer's share of an order -/
theorem pi_one (V : pv_V) {x : Nat} (hx : x ∈ pq_L6) : pv_mb V (pq_de 6 x 0) (pq_de 6 x 5) = pv_kp V (pq_de 6 x 0) (nI 1) (nI 0) + pv_kp V (pq_de 6 x 1) (nI 0) (nI 0) + pv_kp V (pq_de 6 x 2) (nI 0) (nI 0) + pv_kp V (pq_de 6 x 3) (nI 0) (nI 0) + pv_kp V (pq_de 6 x 4) (nI 0) (nI 0) + pv_kp V (pq_de 6 x 5) (nI 0) (nI 1) := by
  have h := pi_plain V hx
  unfold pv_mb
  rw [h]
  show ((pv_kp V (pq_de 6 x 0) (nI 0) (nI 0) + (pv_kp V (pq_de 6 x 1) (nI 0) (nI 0) + (pv_kp V (pq_de 6 x 2) (nI 0) (nI 0) + (pv_kp V (pq_de 6 x 3) (nI 0) (nI 0) + (pv_kp V (pq_de 6 x 4) (nI 0) (nI 0) + (pv_kp V (pq_de 6 x 5) (nI 0) (nI 0) + 0)))))) + _) + _ = _
  simp only [pv_kpk]
  generalize pv_lk V (pq_de 6 x 0) = la
  generalize pv_lk V (pq_de 6 x 5) = lb
  generalize pv_kk V (pq_de 6 x 0) (nI 0) (nI 0) = b0
  generalize pv_kk V (pq_de 6 x 0) (nI 1) (nI 0) = b1
  generalize pv_kk V (pq_de 6 x 5) (nI 0) (nI 0) = b2
  generalize pv_kk V (pq_de 6 x 5) (nI 0) (nI 1) = b3
  generalize pv_lk V (pq_de 6 x 1) * pv_kk V (pq_de 6 x 1) (nI 0) (nI 0) = c1
  generalize pv_lk V (pq_de 6 x 2) * pv_kk V (pq_de 6 x 2) (nI 0) (nI 0) = c2
  generalize pv_lk V (pq_de 6 x 3) * pv_kk V (pq_de 6 x 3) (nI 0) (nI 0) = c3
  generalize pv_lk V (pq_de 6 x 4) * pv_kk V (pq_de 6 x 4) (nI 0) (nI 0) = c4
  grind
/-- the sums over those who are meant -/
def pi_G (T : Nat → Nat → List Int32) (t : Nat) (S : sx_T) (cr : Nat) (who : Int32) (c r : Nat) : Nat → Int32
  | 0 => 0
  | k + 1 => if who = -1 ∨ who = nI k then pi_G T t S cr who c r k + pv_kp (pv_cur T t S k cr) r (nI (if c = 0 then 1 else 0)) (nI (if c = 2 then 1 else 0)) else pi_G T t S cr who c r k
def pi_M (T : Nat → Nat → List Int32) (t : Nat) (S : sx_T) (cr : Nat) (who : Int32) (i b : Nat) : Nat → Int32
  | 0 => 0
  | k + 1 => if who = -1 ∨ who = nI k then pi_M T t S cr who i b k + pv_mb (pv_cur T t S k cr) i b else pi_M T t S cr who i b k
theorem pi_GM (T : Nat → Nat → List Int32) (t : Nat) (S : sx_T) (cr : Nat) (who : Int32) {x : Nat} (hx : x ∈ pq_L6) : ∀ k, 0 + pi_G T t S cr who 0 (pq_de 6 x 0) k + pi_G T t S cr who 1 (pq_de 6 x 1) k + pi_G T t S cr who 1 (pq_de 6 x 2) k + pi_G T t S cr who 1 (pq_de 6 x 3) k + pi_G T t S cr who 1 (pq_de 6 x 4) k + pi_G T t S cr who 2 (pq_de 6 x 5) k = pi_M T t S cr who (pq_de 6 x 0) (pq_de 6 x 5) k := by
  intro k
  induction k with
  | zero => show (0 : Int32) + 0 + 0 + 0 + 0 + 0 + 0 = 0; decide
  | succ k ih =>
    by_cases c : who = -1 ∨ who = nI k
    · have e0 : ∀ r, pi_G T t S cr who 0 r (k + 1) = pi_G T t S cr who 0 r k + pv_kp (pv_cur T t S k cr) r (nI 1) (nI 0) := fun r => if_pos c
      have e1 : ∀ r, pi_G T t S cr who 1 r (k + 1) = pi_G T t S cr who 1 r k + pv_kp (pv_cur T t S k cr) r (nI 0) (nI 0) := fun r => if_pos c
      have e2 : ∀ r, pi_G T t S cr who 2 r (k + 1) = pi_G T t S cr who 2 r k + pv_kp (pv_cur T t S k cr) r (nI 0) (nI 1) := fun r => if_pos c
      have e3 : pi_M T t S cr who (pq_de 6 x 0) (pq_de 6 x 5) (k + 1) = pi_M T t S cr who (pq_de 6 x 0) (pq_de 6 x 5) k + pv_mb (pv_cur T t S k cr) (pq_de 6 x 0) (pq_de 6 x 5) := if_pos c
      rw [e0, e1, e1, e1, e1, e2, e3, ← ih, pi_one _ hx]
      generalize pi_G T t S cr who 0 (pq_de 6 x 0) k = g0
      generalize pi_G T t S cr who 1 (pq_de 6 x 1) k = g1
      generalize pi_G T t S cr who 1 (pq_de 6 x 2) k = g2
      generalize pi_G T t S cr who 1 (pq_de 6 x 3) k = g3
      generalize pi_G T t S cr who 1 (pq_de 6 x 4) k = g4
      generalize pi_G T t S cr who 2 (pq_de 6 x 5) k = g5
      generalize pv_kp (pv_cur T t S k cr) (pq_de 6 x 0) (nI 1) (nI 0) = h0
      generalize pv_kp (pv_cur T t S k cr) (pq_de 6 x 1) (nI 0) (nI 0) = h1
      generalize pv_kp (pv_cur T t S k cr) (pq_de 6 x 2) (nI 0) (nI 0) = h2
      generalize pv_kp (pv_cur T t S k cr) (pq_de 6 x 3) (nI 0) (nI 0) = h3
      generalize pv_kp (pv_cur T t S k cr) (pq_de 6 x 4) (nI 0) (nI 0) = h4
      generalize pv_kp (pv_cur T t S k cr) (pq_de 6 x 5) (nI 0) (nI 1) = h5
      grind
    · have e0 : ∀ c' r, pi_G T t S cr who c' r (k + 1) = pi_G T t S cr who c' r k := fun _ _ => if_neg c
      have e3 : ∀ a b, pi_M T t S cr who a b (k + 1) = pi_M T t S cr who a b k := fun _ _ => if_neg c
      rw [e0, e0, e0, e0, e0, e0, e3]
      exact ih
theorem pf_addG {c r : Nat} (hc : c < 3) (hr : r < 6) (x : Int32) (S : sx_T) : fx_X11_addGain (nI c) (nI r) x S = ux_gains S (upd (sx_gains S) (c * 6 + r) (sx_gains S (c * 6 + r) + x)) := by
  unfold fx_X11_addGain
  have ix : nI c * 6 + nI r = nI (c * 6 + r) := by
    rw [show nI c * 6 = nI (c * 6) from pk_mul c 6, nI_add]
  rw [ix, pz_rd (by omega) (by decide), pz_up (by omega) (by decide)]
theorem pf_fg61 {V : pv_V} {M : sm_T} (k28 : Int32 → Int32 → Int32 → sx_T → Option sx_T) (who cr v : Int32) : ∀ (d r g : Nat) (S : sx_T), r + d = 6 → d < g → px_B0 V M S → ∃ S', fx_X11_fillGains_61 k28 g who cr v (nI r) S = k28 who cr (v + 1) S' ∧ px_f [] [13, 23, 27] S S' ∧ px_B0 V M S' ∧ ∀ c j, c < 3 → j < 6 → sx_gains S' (c * 6 + j) = if r ≤ j then sx_gains S (c * 6 + j) + pv_kp V j (nI (if c = 0 then 1 else 0)) (nI (if c = 2 then 1 else 0)) else sx_gains S (c * 6 + j) := by
  intro d
  induction d with
  | zero =>
    intro r g S h1 h2 b
    obtain ⟨e, rfl⟩ : ∃ e, g = e + 1 := ⟨g - 1, by omega⟩
    have hr : r = 6 := by omega
    subst hr
    refine ⟨S, ?_, px_fr, b, fun c j hc hj => by rw [if_neg (by omega)]⟩
    rw [fx_X11_fillGains_61, if_pos (show (6 : Int32) ≤ nI 6 by decide)]
  | succ d ih =>
    intro r g S h1 h2 b
    obtain ⟨e, rfl⟩ : ∃ e, g = e + 1 := ⟨g - 1, by omega⟩
    have hr : r < 6 := by omega
    have gB : ∀ {X : sx_T} (y : Nat → Int32), px_B0 V M X → px_B0 V M (ux_gains X y) := fun y hX => px_B0y hX (px_fa (j := 27) px_fr (by decide)) rfl
    obtain ⟨S1, e1, f1⟩ := pf_kept b hr (nI 1) (nI 0)
    have b1 := gB (upd (sx_gains S1) (0 * 6 + r) (sx_gains S1 (0 * 6 + r) + pv_kp V r (nI 1) (nI 0))) (px_B0g b (px_eg f1))
    obtain ⟨S2, e2, f2⟩ := pf_kept b1 hr (nI 0) (nI 0)
    have b2 := gB (upd (sx_gains S2) (1 * 6 + r) (sx_gains S2 (1 * 6 + r) + pv_kp V r (nI 0) (nI 0))) (px_B0g b1 (px_eg f2))
    obtain ⟨S3, e3, f3⟩ := pf_kept b2 hr (nI 0) (nI 1)
    have b3 := gB (upd (sx_gains S3) (2 * 6 + r) (sx_gains S3 (2 * 6 + r) + pv_kp V r (nI 0) (nI 1))) (px_B0g b2 (px_eg f3))
    obtain ⟨S4, q1, q2, q3, q4⟩ := ih (r + 1) e _ (by omega) (by omega) b3
    have fr : ∀ {X Y : sx_T}, px_e X Y → px_f [] [13, 23, 27] X Y := fun h => px_fm h.1 (by decide) (by decide)
    have frG : ∀ (X : sx_T) (y : Nat → Int32), px_f [] [13, 23, 27] X (ux_gains X y) := fun X y => px_fa (j := 27) (S' := X) px_fr (by decide)
    refine ⟨S4, Eq.trans ?_ q1, px_ft (fr f1) (px_ft (frG S1 _) (px_ft (fr f2) (px_ft (frG S2 _) (px_ft (fr f3) (px_ft (frG S3 _) q2))))), q3, fun c j hc hj => ?_⟩
    · have e1' : fx_X10_keptOf (nI r) 1 0 S = _ := e1
      have a0 := pf_addG (c := 0) (by decide) hr (pv_kp V r (nI 1) (nI 0)) S1
      have a1 := pf_addG (c := 1) (by decide) hr (pv_kp V r (nI 0) (nI 0)) S2
      have a2 := pf_addG (c := 2) (by decide) hr (pv_kp V r (nI 0) (nI 1)) S3
      rw [fx_X11_fillGains_61, if_neg (show ¬ (6 : Int32) ≤ nI r from nI_ge (b := 6) (by omega) (by decide)), e1', pz_bd]
      show am_let (fx_X11_addGain (nI 0) (nI r) (pv_kp V r (nI 1) (nI 0)) S1) _ = _
      rw [a0, pz_let]
      show am_bd (fx_X10_keptOf (nI r) (nI 0) (nI 0) _) _ = _
      rw [e2, pz_bd]
      show am_let (fx_X11_addGain (nI 1) (nI r) (pv_kp V r (nI 0) (nI 0)) S2) _ = _
      rw [a1, pz_let]
      show am_bd (fx_X10_keptOf (nI r) (nI 0) (nI 1) _) _ = _
      rw [e3, pz_bd]
      show am_let (fx_X11_addGain (nI 2) (nI r) (pv_kp V r (nI 0) (nI 1)) S3) _ = _
      rw [a2, pz_let, show nI r + 1 = nI (r + 1) from (nI_succ r).symm]
    · have g1 : sx_gains S1 = sx_gains S := f1.1.2 27 (by decide)
      have g2 : sx_gains S2 = upd (sx_gains S1) (0 * 6 + r) (sx_gains S1 (0 * 6 + r) + pv_kp V r (nI 1) (nI 0)) := f2.1.2 27 (by decide)
      have g3 : sx_gains S3 = upd (sx_gains S2) (1 * 6 + r) (sx_gains S2 (1 * 6 + r) + pv_kp V r (nI 0) (nI 0)) := f3.1.2 27 (by decide)
      have g4 : sx_gains (ux_gains S3 (upd (sx_gains S3) (2 * 6 + r) (sx_gains S3 (2 * 6 + r) + pv_kp V r (nI 0) (nI 1)))) = upd (sx_gains S3) (2 * 6 + r) (sx_gains S3 (2 * 6 + r) + pv_kp V r (nI 0) (nI 1)) := rfl
      rw [q4 c j hc hj, g4, g3, g2, g1]
      have hc3 : c = 0 ∨ c = 1 ∨ c = 2 := by omega
      by_cases q : j = r
      · subst q
        rw [if_neg (by omega), if_pos (Nat.le_refl j)]
        rcases hc3 with rfl | rfl | rfl
        · rw [pz_un (by omega), pz_un (by omega), pz_us]; rfl
        · rw [pz_un (by omega), pz_us, pz_un (by omega)]; rfl
        · rw [pz_us, pz_un (by omega), pz_un (by omega)]; rfl
      · have k : ∀ c', c' < 3 → c * 6 + j ≠ c' * 6 + r := fun c' hc' => by omega
        rw [pz_un (k 2 (by decide)), pz_un (k 1 (by decide)), pz_un (k 0 (by decide))]
        by_cases q2 : r ≤ j
        · rw [if_pos (by omega), if_pos q2]
        · rw [if_neg (by omega), if_neg q2]
