/-! ===== best, done ===== -/
theorem pf_fg28 {T : Nat → Nat → List Int32} {t cr nv : Nat} {who hr : Int32} {S : sx_T} {M : sm_T} (hcr : cr < 9) (hnv : nv < 9) (hhr : hr = sx_now_hour S) (n1 : sx_now_viewers S = nI nv) : ∀ (d k g : Nat) (S' : sx_T), k + d = nv → d < g → px_f px_es px_ea S S' → px_A (T t) hr (sx_now_light S) (sx_now_damp S) M S' → (∀ c j, c < 3 → j < 6 → sx_gains S' (c * 6 + j) = pi_G T t S cr who c j k) → ∃ S2, fx_X11_fillGains_28 g who (nI cr) (nI k) S' = some S2 ∧ px_f px_es px_ea S S2 ∧ (∀ c j, c < 3 → j < 6 → sx_gains S2 (c * 6 + j) = pi_G T t S cr who c j nv) := by
  intro d
  induction d with
  | zero =>
    intro k g S' h1 h2 f a gg
    obtain ⟨e, rfl⟩ : ∃ e, g = e + 1 := ⟨g - 1, by omega⟩
    have hk : k = nv := by omega
    subst hk
    have e1 : sx_now_viewers S' = nI k := (f.1 2 (by decide)).trans n1
    refine ⟨S', ?_, f, gg⟩
    rw [fx_X11_fillGains_28, e1, if_pos (nI_le (Nat.le_refl k) (by omega))]
  | succ d ih =>
    intro k g S' h1 h2 f a gg
    obtain ⟨e, rfl⟩ : ∃ e, g = e + 1 := ⟨g - 1, by omega⟩
    have e1 : sx_now_viewers S' = nI nv := (f.1 2 (by decide)).trans n1
    have e3 : nI k + 1 = nI (k + 1) := (nI_succ k).symm
    have cond : ∀ (A B : Option sx_T), (if who = -1 then A else if who = nI k then A else B) = if who = -1 ∨ who = nI k then A else B := by
      intro A B
      by_cases c1 : who = -1
      · rw [if_pos c1, if_pos (Or.inl c1)]
      · by_cases c2 : who = nI k
        · rw [if_neg c1, if_pos c2, if_pos (Or.inr c2)]
        · rw [if_neg c1, if_neg c2, if_neg (fun q => q.elim c1 c2)]
    rw [fx_X11_fillGains_28, e1, if_neg (nI_ge (by omega) (by omega)), cond]
    by_cases c : who = -1 ∨ who = nI k
    · rw [if_pos c, pf_lc (by omega) hcr, pz_let]
      have b0 := px_lcB (v := k) (cr := cr) a
      rw [show sx_kindOf S' = sx_kindOf S from f.2 8 (by decide), show sx_moreOf S' = sx_moreOf S from f.2 9 (by decide), show sx_now_rich S' = sx_now_rich S from f.2 2 (by decide), hhr] at b0
      obtain ⟨S1, q1, q2, q3, q4⟩ := pf_fg61 (fun a0 a1 a2 a3 => fx_X11_fillGains_28 e a0 a1 a2 a3) who (nI cr) (nI k) 6 0 am_fu (pt_lc k cr S') (by omega) (by rw [pf_u]; decide) b0
      have f1 : px_f px_es px_ea S S1 := px_ft f (px_ft (px_fm (px_lcf k cr S') (by decide) (by decide)) (px_fm q2 (by decide) (by decide)))
      have a1 : px_A (T t) hr (sx_now_light S) (sx_now_damp S) M S1 := by
        obtain ⟨u1, u2, u3, u4, u5, u6, u7⟩ := q3
        rw [hhr]
        exact ⟨u1, u6, u7⟩
      obtain ⟨S2, r1, r2, r3⟩ := ih (k + 1) e S1 (by omega) (by omega) f1 a1 (fun c' j hc hj => by
        rw [q4 c' j hc hj, if_pos (Nat.zero_le j), show sx_gains (pt_lc k cr S') = sx_gains S' from (px_lcf k cr S').2 27 (by decide), gg c' j hc hj]
        exact (if_pos c).symm)
      refine ⟨S2, Eq.trans ?_ r1, r2, r3⟩
      refine Eq.trans q1 ?_
      show fx_X11_fillGains_28 e who (nI cr) (nI k + 1) S1 = _
      rw [e3]
    · rw [if_neg c, e3]
      exact ih (k + 1) e S' (by omega) (by omega) f a (fun c' j hc hj => (gg c' j hc hj).trans (if_neg c).symm)
theorem pf_fg2 : ∀ (d k g : Nat) (who cr : Int32) (S : sx_T), k + d = 18 → d < g → (∀ j, j < k → sx_gains S j = 0) → ∃ S', fx_X11_fillGains_2 g who cr (nI k) S = fx_X11_fillGains_28 am_fu who cr (nI 0) S' ∧ px_f [] [27] S S' ∧ ∀ j, j < 18 → sx_gains S' j = 0 := by
  intro d
  induction d with
  | zero =>
    intro k g who cr S h1 h2 h3
    obtain ⟨e, rfl⟩ : ∃ e, g = e + 1 := ⟨g - 1, by omega⟩
    have hk : k = 18 := by omega
    subst hk
    refine ⟨S, ?_, px_fr, h3⟩
    rw [fx_X11_fillGains_2, if_pos (show nI 18 ≤ nI 18 by decide)]
    rfl
  | succ d ih =>
    intro k g who cr S h1 h2 h3
    obtain ⟨e, rfl⟩ : ∃ e, g = e + 1 := ⟨g - 1, by omega⟩
    obtain ⟨S', q1, q2, q3⟩ := ih (k + 1) e who cr (ux_gains S (upd (sx_gains S) k 0)) (by omega) (by omega) (fun j hj => by
      show upd (sx_gains S) k 0 j = 0
      by_cases c : j = k
      · subst c; exact pz_us
      · rw [pz_un c]; exact h3 j (by omega))
    refine ⟨S', Eq.trans ?_ q1, px_ft (px_fa (j := 27) (S' := S) px_fr (by decide)) q2, q3⟩
    rw [fx_X11_fillGains_2, if_neg (nI_ge (by omega) (by decide)), pz_up (by omega) (by decide), show nI k + 1 = nI (k + 1) from (nI_succ k).symm]
theorem pf_mb41 {who cr w : Int32} : ∀ (d k g : Nat) (M : sm_T), k + d = 36 → d < g → (∀ j, j < k → sm_mindBy M j = 0) → ∃ M', fx_X12_best_41 g who cr w (nI k) M = fx_X12_best_65 am_fu who cr w (nI 0) M' ∧ pm_f [] [16] M M' ∧ ∀ j, j < 36 → sm_mindBy M' j = 0 := by
  intro d
  induction d with
  | zero =>
    intro k g M h1 h2 h3
    obtain ⟨e, rfl⟩ : ∃ e, g = e + 1 := ⟨g - 1, by omega⟩
    have hk : k = 36 := by omega
    subst hk
    refine ⟨M, ?_, pm_fr, h3⟩
    rw [fx_X12_best_41, if_pos (show (36 : Int32) ≤ nI 36 by decide)]
    rfl
  | succ d ih =>
    intro k g M h1 h2 h3
    obtain ⟨e, rfl⟩ : ∃ e, g = e + 1 := ⟨g - 1, by omega⟩
    obtain ⟨M', q1, q2, q3⟩ := ih (k + 1) e (um_mindBy M (upd (sm_mindBy M) k 0)) (by omega) (by omega) (fun j hj => by
      show upd (sm_mindBy M) k 0 j = 0
      by_cases c : j = k
      · subst c; exact pz_us
      · rw [pz_un c]; exact h3 j (by omega))
    refine ⟨M', Eq.trans ?_ q1, pm_ft (pm_fa (j := 16) (S' := M) pm_fr (by decide)) q2, q3⟩
    rw [fx_X12_best_41, if_neg (show ¬ (36 : Int32) ≤ nI k from nI_ge (b := 36) (by omega) (by decide)), if_neg (nI_in (show k < 36 by omega) (by decide)), pz_cl (by omega), show nI k + 1 = nI (k + 1) from (nI_succ k).symm]
theorem pf_mb65 {T : Nat → Nat → List Int32} {t cr nv : Nat} {who w : Int32} {S : sx_T} {M : sm_T} (h : px_Q T S M) (lt : sx_now_law S = nI t) (ht : t < 6) (hcr : cr < 9) (hnv : nv < 9) (n3 : sm_viewers M = nI nv) : ∀ (d k g : Nat) (M' : sm_T), k + d = nv → d < g → pm_f pm_es pm_ea M M' → (∀ i b, i < 6 → b < 6 → sm_mindBy M' (6 * i + b) = pi_M T t S cr who i b k) → ∃ M2, fx_X12_best_65 g who (nI cr) w (nI k) M' = fx_X12_best_107 am_fu w 0 0 (nI 0) M2 ∧ pm_f pm_es pm_ea M M2 ∧ (∀ i b, i < 6 → b < 6 → sm_mindBy M2 (6 * i + b) = pi_M T t S cr who i b nv) := by
  intro d
  induction d with
  | zero =>
    intro k g M' h1 h2 f gg
    obtain ⟨e, rfl⟩ : ∃ e, g = e + 1 := ⟨g - 1, by omega⟩
    have hk : k = nv := by omega
    subst hk
    have e1 : sm_viewers M' = nI k := (f.1 0 (by decide)).trans n3
    refine ⟨M', ?_, f, gg⟩
    rw [fx_X12_best_65, e1, if_pos (nI_le (Nat.le_refl k) (by omega))]
    rfl
  | succ d ih =>
    intro k g M' h1 h2 f gg
    obtain ⟨e, rfl⟩ : ∃ e, g = e + 1 := ⟨g - 1, by omega⟩
    have e1 : sm_viewers M' = nI nv := (f.1 0 (by decide)).trans n3
    have e3 : nI k + 1 = nI (k + 1) := (nI_succ k).symm
    have cond : ∀ (A B : Option (Int32 × sm_T)), (if who = -1 then A else if who = nI k then A else B) = if who = -1 ∨ who = nI k then A else B := by
      intro A B
      by_cases c1 : who = -1
      · rw [if_pos c1, if_pos (Or.inl c1)]
      · by_cases c2 : who = nI k
        · rw [if_neg c1, if_pos c2, if_pos (Or.inr c2)]
        · rw [if_neg c1, if_neg c2, if_neg (fun q => q.elim c1 c2)]
    rw [fx_X12_best_65, e1, if_neg (nI_ge (by omega) (by omega)), cond]
    by_cases c : who = -1 ∨ who = nI k
    · rw [if_pos c]
      obtain ⟨M1, q1, q2, q3⟩ := pf_am (pm_Cf (pq_mC (v := k) h lt ht (by omega) hcr) f)
      obtain ⟨M2, r1, r2, r3⟩ := ih (k + 1) e M1 (by omega) (by omega) (pm_ft f (pm_fm q2 (by decide) (by decide))) (fun i b hi hb => by
        rw [q3 i b hi hb, gg i b hi hb]
        exact (if_pos c).symm)
      refine ⟨M2, Eq.trans ?_ r1, r2, r3⟩
      rw [q1, pz_bd, e3]
    · rw [if_neg c, e3]
      exact ih (k + 1) e M' (by omega) (by omega) f (fun i b hi hb => (gg i b hi hb).trans (if_neg c).symm)
/-- digits -/
def pn_D (P : Nat → Nat) : Nat → Nat
  | 0 => 0
  | i + 1 => 10 * pn_D P i + P i + 1
def pn_W : Nat → Nat → Nat
  | 0, _ => 0
  | k + 1, x => (x % 6 + 1) + 10 * pn_W k (x / 6)
theorem pn_DW (x : Nat) : pn_W 6 x = pn_D (pq_de 6 x) 6 := by
  have d0 : pq_de 6 x 0 = x / 7776 % 6 := rfl
  have d1 : pq_de 6 x 1 = x / 1296 % 6 := rfl
  have d2 : pq_de 6 x 2 = x / 216 % 6 := rfl
  have d3 : pq_de 6 x 3 = x / 36 % 6 := rfl
  have d4 : pq_de 6 x 4 = x / 6 % 6 := rfl
  have d5 : pq_de 6 x 5 = x / 1 % 6 := rfl
  show (x % 6 + 1) + 10 * ((x / 6 % 6 + 1) + 10 * ((x / 6 / 6 % 6 + 1) + 10 * ((x / 6 / 6 / 6 % 6 + 1) + 10 * ((x / 6 / 6 / 6 / 6 % 6 + 1) + 10 * ((x / 6 / 6 / 6 / 6 / 6 % 6 + 1) + 10 * 0))))) = 10 * (10 * (10 * (10 * (10 * (10 * 0 + pq_de 6 x 0 + 1) + pq_de 6 x 1 + 1) + pq_de 6 x 2 + 1) + pq_de 6 x 3 + 1) + pq_de 6 x 4 + 1) + pq_de 6 x 5 + 1
  rw [d0, d1, d2, d3, d4, d5]
  omega
theorem pf_digX {P : Nat → Nat} {S : sx_T} (hO : px_O 6 P S) : ∀ (d i g : Nat), i + d = 6 → d < g → fx_X11_digitsOfOrder_4 S g (nI (pn_D P i)) (nI i) = some (nI (pn_D P 6)) := by
  intro d
  induction d with
  | zero =>
    intro i g h1 h2
    obtain ⟨e, rfl⟩ : ∃ e, g = e + 1 := ⟨g - 1, by omega⟩
    have hi : i = 6 := by omega
    subst hi
    rw [fx_X11_digitsOfOrder_4, if_pos (show (6 : Int32) ≤ nI 6 by decide)]
  | succ d ih =>
    intro i g h1 h2
    obtain ⟨e, rfl⟩ : ∃ e, g = e + 1 := ⟨g - 1, by omega⟩
    refine Eq.trans ?_ (ih (i + 1) e (by omega) (by omega))
    rw [fx_X11_digitsOfOrder_4, if_neg (show ¬ (6 : Int32) ≤ nI i from nI_ge (b := 6) (by omega) (by decide)), pz_rd (by omega) (by decide), (hO i (by omega)).2, show nI i + 1 = nI (i + 1) from (nI_succ i).symm, show (10 : Int32) * nI (pn_D P i) = nI (10 * pn_D P i) from pk_mul 10 _, nI_add, show nI (10 * pn_D P i + P i) + 1 = nI (10 * pn_D P i + P i + 1) from (nI_succ _).symm]
    rfl
theorem pf_digM {M : sm_T} : ∀ (kk k g : Nat) (seen : Int32) (s : List Nat) (dg tn x : Nat), k + kk = 6 → kk < g → x < 2147483648 → (∀ d, d < 6 → pb_it seen d = s.contains d) → fx_X12_digitsOf_13 M g seen (nI dg) (nI tn) (nI x) (nI k) = some (if pq_v 6 kk s x = true then nI (dg + tn * pn_W kk x) else 0) := by
  intro kk
  induction kk with
  | zero =>
    intro k g seen s dg tn x h1 h2 hx hs
    obtain ⟨e, rfl⟩ : ∃ e, g = e + 1 := ⟨g - 1, by omega⟩
    have hk : k = 6 := by omega
    subst hk
    rw [fx_X12_digitsOf_13, if_pos (show (6 : Int32) ≤ nI 6 by decide), if_pos (show pq_v 6 0 s x = true from rfl)]
    rfl
  | succ kk ih =>
    intro k g seen s dg tn x h1 h2 hx hs
    obtain ⟨e, rfl⟩ : ∃ e, g = e + 1 := ⟨g - 1, by omega⟩
    have hr : x % 6 < 6 := Nat.mod_lt _ (by decide)
    have es : pq_v 6 (kk + 1) s x = (!(s.contains (x % 6)) && pq_v 6 kk (x % 6 :: s) (x / 6)) := rfl
    have rem : nI x - nI x / 6 * 6 = nI (x % 6) := pz_rem (d := 6) hx (by decide) (by decide)
    rw [fx_X12_digitsOf_13, if_neg (show ¬ (6 : Int32) ≤ nI k from nI_ge (b := 6) (by omega) (by decide)), rem, es]
    rcases pb_tst seen (k := x % 6) (by omega) with ⟨b1, b2⟩ | ⟨b1, b2⟩
    · have hc : s.contains (x % 6) = false := by rw [← hs _ hr]; exact b2
      have e1 : nI tn * (nI (x % 6) + 1) = nI (tn * (x % 6 + 1)) := by rw [show nI (x % 6) + 1 = nI (x % 6 + 1) from (nI_succ _).symm, pk_mul]
      have e2 : nI tn * 10 = nI (tn * 10) := pk_mul tn 10
      have e4 : nI x / 6 = nI (x / 6) := pz_div (d := 6) hx (by decide) (by decide)
      rw [if_neg (by rw [b1]; decide), hc, Bool.not_false, Bool.true_and, e1, nI_add, e2, e4, show nI k + 1 = nI (k + 1) from (nI_succ k).symm]
      rw [ih (k + 1) e _ (x % 6 :: s) _ _ _ (by omega) (by omega) (by omega) (fun d hd => by
        rw [pb_set seen (by omega) (by omega), hs d hd, List.contains_cons]
        by_cases q : d = x % 6
        · subst q; simp
        · have : (d == x % 6) = false := by simpa using q
          rw [this]; simp [q])]
      have ew : dg + tn * (x % 6 + 1) + tn * 10 * pn_W kk (x / 6) = dg + tn * pn_W (kk + 1) x := by
        show _ = dg + tn * ((x % 6 + 1) + 10 * pn_W kk (x / 6))
        rw [Nat.mul_add tn (x % 6 + 1), Nat.mul_assoc, Nat.add_assoc]
      rw [ew]
    · have hc : s.contains (x % 6) = true := by rw [← hs _ hr]; exact b2
      rw [if_pos b1, hc]
      rfl
def pt_fo (val : Nat → Int32) : List Nat → Int32 → Int32 → Int32 × Int32
  | [], b, m => (b, m)
  | x :: l, b, m => if b = 0 ∨ m < val x then pt_fo val l (nI (pn_D (pq_de 6 x) 6)) (val x) else pt_fo val l b m
theorem pn_D6 (x : Nat) : pn_D (pq_de 6 x) 6 ≠ 0 ∧ pn_D (pq_de 6 x) 6 < 1000000 := by
  have h : ∀ i, pq_de 6 x i < 6 := fun i => pq_del (by decide)
  have h0 := h 0
  have h1 := h 1
  have h2 := h 2
  have h3 := h 3
  have h4 := h 4
  have h5 := h 5
  have e : pn_D (pq_de 6 x) 6 = 10 * (10 * (10 * (10 * (10 * (10 * 0 + pq_de 6 x 0 + 1) + pq_de 6 x 1 + 1) + pq_de 6 x 2 + 1) + pq_de 6 x 3 + 1) + pq_de 6 x 4 + 1) + pq_de 6 x 5 + 1 := rfl
  rw [e]
  omega
