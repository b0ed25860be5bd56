/-! ===== lowest terms; orders by lots ===== -/
theorem pl_cmp (x : Int64) : (lg_cmp x 0 = 0) = (x = 0) := by
  unfold lg_cmp
  refine propext ⟨fun h => ?_, fun h => ?_⟩
  · by_cases c : x > 0
    · rw [if_pos c] at h; exact absurd h (by decide)
    · rw [if_neg c] at h
      by_cases c2 : x = 0
      · exact c2
      · rw [if_neg c2] at h; exact absurd h (by decide)
  · subst h; decide
theorem pl_0 {a : Nat} (h : 0 < a) (h2 : a < 2147483648) : ¬ lN a = 0 := fun q => by
  have := (lN_eq (a := a) (b := 0) h2 (by decide)).mp q
  omega
/-- both gcds, step by step -/
theorem pl_gcd {a b : Nat} {p0 p1 : Int32} (ha : a < 1000000) (hb : b < 1000000) : ∀ (k x y c f f' : Nat), y < 2 ^ k → 0 < x ∨ 0 < y → x < 1000000 → y < 1000000 → c + 2 * k ≤ 63 → 2 * k + 1 < f → 2 * k + 1 < f' → ∃ g, 0 < g ∧ g < 1000000 ∧ fx_X11_inLowestTerms_8 f (nI a) (nI b) p0 (nI x) (nI y) (nI c) = fx_X11_inLowestTerms_39 (nI a) (nI b) p0 (nI g) ∧ fx_X12_lowest_16 f' (lN a) (lN b) p1 (lN x) (lN y) = (if p1 = 0 then some (lN a / lN g) else some (lN b / lN g)) := by
  intro k
  induction k with
  | zero =>
    intro x y c f f' hy hxy hx hy2 hc hf hf'
    obtain ⟨e, rfl⟩ : ∃ e, f = e + 1 := ⟨f - 1, by omega⟩
    obtain ⟨e', rfl⟩ : ∃ e, f' = e + 1 := ⟨f' - 1, by omega⟩
    have hy0 : y = 0 := by
      have : y < 1 := hy
      omega
    subst hy0
    have hx0 : 0 < x := by omega
    refine ⟨x, hx0, hx, ?_, ?_⟩
    · rw [fx_X11_inLowestTerms_8, if_neg (show ¬ (64 : Int32) ≤ nI c from nI_ge (b := 64) (by omega) (by decide)), if_pos (show nI 0 = 0 from rfl)]
    · rw [fx_X12_lowest_16, if_pos (show lg_cmp (lN 0) 0 = 0 by decide)]
      by_cases q : p1 = 0
      · rw [if_pos q, if_pos q, if_neg (pl_0 hx0 (by omega))]
      · rw [if_neg q, if_neg q, if_neg (pl_0 hx0 (by omega))]
  | succ k ih =>
    intro x y c f f' hy hxy hx hy2 hc hf hf'
    obtain ⟨e, rfl⟩ : ∃ e, f = e + 1 := ⟨f - 1, by omega⟩
    obtain ⟨e', rfl⟩ : ∃ e, f' = e + 1 := ⟨f' - 1, by omega⟩
    by_cases y0 : y = 0
    · subst y0
      have hx0 : 0 < x := by omega
      refine ⟨x, hx0, hx, ?_, ?_⟩
      · rw [fx_X11_inLowestTerms_8, if_neg (show ¬ (64 : Int32) ≤ nI c from nI_ge (b := 64) (by omega) (by decide)), if_pos (show nI 0 = 0 from rfl)]
      · rw [fx_X12_lowest_16, if_pos (show lg_cmp (lN 0) 0 = 0 by decide)]
        by_cases q : p1 = 0
        · rw [if_pos q, if_pos q, if_neg (pl_0 hx0 (by omega))]
        · rw [if_neg q, if_neg q, if_neg (pl_0 hx0 (by omega))]
    have yp : 0 < y := by omega
    have y1 : ¬ nI y = 0 := nI_ne0 yp (by omega)
    have y2 : ¬ lg_cmp (lN y) 0 = 0 := by rw [pl_cmp]; exact pl_0 yp (by omega)
    have c1 : fx_X11_inLowestTerms_8 (e + 1) (nI a) (nI b) p0 (nI x) (nI y) (nI c) = fx_X11_inLowestTerms_8 e (nI a) (nI b) p0 (nI y) (nI (x % y)) (nI (c + 1)) := by
      rw [fx_X11_inLowestTerms_8, if_neg (show ¬ (64 : Int32) ≤ nI c from nI_ge (b := 64) (by omega) (by decide)), if_neg y1, if_neg y1, pz_rem (by omega) yp (by omega), show nI c + 1 = nI (c + 1) from (nI_succ c).symm]
    have c2 : fx_X12_lowest_16 (e' + 1) (lN a) (lN b) p1 (lN x) (lN y) = fx_X12_lowest_16 e' (lN a) (lN b) p1 (lN y) (lN (x % y)) := by
      rw [fx_X12_lowest_16, if_neg y2, if_neg (pl_0 yp (by omega)), pk_lRem (by omega) yp (by omega)]
    have hr : x % y < y := Nat.mod_lt x yp
    obtain ⟨e2, rfl⟩ : ∃ q, e = q + 1 := ⟨e - 1, by omega⟩
    obtain ⟨e2', rfl⟩ : ∃ q, e' = q + 1 := ⟨e' - 1, by omega⟩
    by_cases r0 : x % y = 0
    · refine ⟨y, yp, by omega, c1.trans ?_, c2.trans ?_⟩
      · rw [r0, fx_X11_inLowestTerms_8, if_neg (show ¬ (64 : Int32) ≤ nI (c + 1) from nI_ge (b := 64) (by omega) (by decide)), if_pos (show nI 0 = 0 from rfl)]
      · rw [r0, fx_X12_lowest_16, if_pos (show lg_cmp (lN 0) 0 = 0 by decide)]
        by_cases q : p1 = 0
        · rw [if_pos q, if_pos q, if_neg (pl_0 yp (by omega))]
        · rw [if_neg q, if_neg q, if_neg (pl_0 yp (by omega))]
    have rp : 0 < x % y := by omega
    generalize x % y = r at c1 c2 hr r0 rp
    have r1 : ¬ nI r = 0 := nI_ne0 rp (by omega)
    have r2 : ¬ lg_cmp (lN r) 0 = 0 := by rw [pl_cmp]; exact pl_0 rp (by omega)
    have c3 : fx_X11_inLowestTerms_8 (e2 + 1) (nI a) (nI b) p0 (nI y) (nI r) (nI (c + 1)) = fx_X11_inLowestTerms_8 e2 (nI a) (nI b) p0 (nI r) (nI (y % r)) (nI (c + 1 + 1)) := by
      rw [fx_X11_inLowestTerms_8, if_neg (show ¬ (64 : Int32) ≤ nI (c + 1) from nI_ge (b := 64) (by omega) (by decide)), if_neg r1, if_neg r1, pz_rem (by omega) rp (by omega), show nI (c + 1) + 1 = nI (c + 1 + 1) from (nI_succ (c + 1)).symm]
    have c4 : fx_X12_lowest_16 (e2' + 1) (lN a) (lN b) p1 (lN y) (lN r) = fx_X12_lowest_16 e2' (lN a) (lN b) p1 (lN r) (lN (y % r)) := by
      rw [fx_X12_lowest_16, if_neg r2, if_neg (pl_0 rp (by omega)), pk_lRem (by omega) rp (by omega)]
    have half : y % r < 2 ^ k := by
      have h1 : y % r < r := Nat.mod_lt y rp
      have h2 : r + y % r ≤ y := by
        have h3 := Nat.div_add_mod y r
        have h4 : 1 ≤ y / r := Nat.div_pos (by omega) rp
        have h5 : r * 1 ≤ r * (y / r) := Nat.mul_le_mul_left r h4
        omega
      have h6 : 2 ^ (k + 1) = 2 * 2 ^ k := by rw [Nat.pow_succ]; omega
      omega
    have hmm : y % r < r := Nat.mod_lt y rp
    obtain ⟨g, g0, g1, g2, g3⟩ := ih r (y % r) (c + 1 + 1) e2 e2' half (Or.inl rp) (by omega) (by omega) (by omega) (by omega) (by omega)
    exact ⟨g, g0, g1, c1.trans (c3.trans g2), c2.trans (c4.trans g3)⟩
theorem pl_low0 {b p : Nat} (hb : b < 1000) (b0 : 0 < b) (hp : p < 2) : ∃ r, fx_X11_inLowestTerms (nI 0) (nI b) (nI p) = some r ∧ fx_X12_lowest (lN 0) (lN b) (nI p) = some r := by
  have b1 : ¬ nI b = 0 := nI_ne0 b0 (by omega)
  have h1 : fx_X11_inLowestTerms (nI 0) (nI b) (nI p) = fx_X11_inLowestTerms_39 (nI 0) (nI b) (nI p) (nI b) := by
    show fx_X11_inLowestTerms_8 (999998 + 1 + 1) (nI 0) (nI b) (nI p) (nI 0) (nI b) (nI 0) = _
    rw [fx_X11_inLowestTerms_8, if_neg (show ¬ (64 : Int32) ≤ nI 0 by decide), if_neg b1, if_neg b1, pz_rem (by omega) b0 (by omega), Nat.zero_mod, fx_X11_inLowestTerms_8, if_neg (show ¬ (64 : Int32) ≤ nI 0 + 1 by decide), if_pos (show nI 0 = 0 from rfl)]
  have h2 : fx_X12_lowest (lN 0) (lN b) (nI p) = some ((nI p).toInt64) := by
    unfold fx_X12_lowest
    rw [if_pos (show lg_cmp (lN 0) 0 = 0 by decide)]
  refine ⟨(nI p).toInt64, ?_, h2⟩
  rw [h1]
  unfold fx_X11_inLowestTerms_39
  rw [if_neg b1]
  have hp2 : p = 0 ∨ p = 1 := by omega
  rcases hp2 with rfl | rfl
  · rw [if_pos (show nI 0 = 0 from rfl), if_neg b1, pz_div (by decide) b0 (by omega), Nat.zero_div]
  · rw [if_neg (show ¬ nI 1 = 0 by decide), if_neg b1, pz_div (by omega) b0 (by omega), Nat.div_self b0]
theorem pl_low {a b p : Nat} (ha : a ≤ b) (hb : b < 1000) (b0 : 0 < b) (hp : p < 2) : ∃ r, fx_X11_inLowestTerms (nI a) (nI b) (nI p) = some r ∧ fx_X12_lowest (lN a) (lN b) (nI p) = some r := by
  by_cases a0 : a = 0
  · subst a0; exact pl_low0 hb b0 hp
  obtain ⟨g, g0, g1, g2, g3⟩ := pl_gcd (a := a) (b := b) (p0 := nI p) (p1 := nI p) (by omega) (by omega) 10 a b 0 am_fu am_fu (by have : (2 : Nat) ^ 10 = 1024 := rfl; omega) (Or.inr b0) (by omega) (by omega) (by decide) (by rw [pf_u]; decide) (by rw [pf_u]; decide)
  have g2' : fx_X11_inLowestTerms (nI a) (nI b) (nI p) = fx_X11_inLowestTerms_39 (nI a) (nI b) (nI p) (nI g) := g2
  have gn : ¬ nI g = 0 := nI_ne0 g0 (by omega)
  have hp2 : p = 0 ∨ p = 1 := by omega
  have g3' : fx_X12_lowest (lN a) (lN b) (nI p) = (if nI p = 0 then some (lN a / lN g) else some (lN b / lN g)) := by
    unfold fx_X12_lowest
    rw [if_neg (show ¬ lg_cmp (lN a) 0 = 0 by rw [pl_cmp]; exact pl_0 (by omega) (by omega))]
    exact g3
  rw [g2', g3']
  unfold fx_X11_inLowestTerms_39
  rw [if_neg gn]
  rcases hp2 with rfl | rfl
  · refine ⟨lN a / lN g, ?_, by rw [if_pos (show nI 0 = 0 from rfl)]⟩
    rw [if_pos (show nI 0 = 0 from rfl), if_neg gn, pz_div (by omega) g0 (by omega), nI_l (by have := Nat.div_le_self a g; omega), pk_lDiv (by omega) g0 (by omega)]
  · refine ⟨lN b / lN g, ?_, by rw [if_neg (show ¬ nI 1 = 0 by decide)]⟩
    rw [if_neg (show ¬ nI 1 = 0 by decide), if_neg gn, pz_div (by omega) g0 (by omega), nI_l (by have := Nat.div_le_self b g; omega), pk_lDiv (by omega) g0 (by omega)]
/-! lots -/
def pt_sw (P : Nat → Nat) (k j : Nat) : Nat → Nat := fun i => if i = k then P j else if i = j then P k else P i
theorem pf_swap {P : Nat → Nat} {k j : Nat} {S : sx_T} (hk : k < 6) (hj : j < 6) (h : ∀ i, i < 6 → P i < 6 ∧ sx_order S i = nI (P i)) : px_f [] [25] S (fx_X11_swap (nI k) (nI j) S) ∧ sx_vi_kind (fx_X11_swap (nI k) (nI j) S) = sx_vi_kind S ∧ ∀ i, i < 6 → pt_sw P k j i < 6 ∧ sx_order (fx_X11_swap (nI k) (nI j) S) i = nI (pt_sw P k j i) := by
  unfold fx_X11_swap
  rw [pz_rd hk (by decide), pz_rd hj (by decide), pz_up hk (by decide), pz_up hj (by decide)]
  refine ⟨px_fa (j := 25) (S' := ux_order S _) (px_fa (j := 25) (S' := S) px_fr (by decide)) (by decide), rfl, fun i hi => ?_⟩
  show pt_sw P k j i < 6 ∧ upd (upd (sx_order S) k (sx_order S j)) j (sx_order S k) i = nI (pt_sw P k j i)
  rw [pz_u, pz_u, (h j hj).2, (h k hk).2, (h i hi).2]
  unfold pt_sw
  by_cases c1 : i = j
  · by_cases c2 : i = k
    · simp only [if_pos c1, if_pos c2]
      rw [show k = j by omega]
      exact ⟨(h j hj).1, rfl⟩
    · simp only [if_pos c1, if_neg c2]
      exact ⟨(h k hk).1, trivial⟩
  · by_cases c2 : i = k
    · simp only [if_neg c1, if_pos c2]
      exact ⟨(h j hj).1, trivial⟩
    · simp only [if_neg c1, if_neg c2]
      exact ⟨(h i hi).1, trivial⟩
theorem pf_firstO {n : Nat} (hn : n < 7) : ∀ (d k g : Nat) (S : sx_T), k + d = n → d < g → (∀ i, i < k → sx_order S i = nI i) → ∃ S', fx_X11_firstOrder_2 g (nI n) (nI k) S = some S' ∧ px_f [] [25] S S' ∧ sx_vi_kind S' = sx_vi_kind S ∧ ∀ i, i < n → sx_order S' i = nI i := by
  intro d
  induction d with
  | zero =>
    intro k g S h1 h2 h3
    obtain ⟨f, rfl⟩ : ∃ f, g = f + 1 := ⟨g - 1, by omega⟩
    have hk : k = n := by omega
    subst hk
    refine ⟨S, ?_, px_fr, rfl, h3⟩
    rw [fx_X11_firstOrder_2, if_pos (nI_le (Nat.le_refl k) (by omega))]
  | succ d ih =>
    intro k g S h1 h2 h3
    obtain ⟨f, rfl⟩ : ∃ f, g = f + 1 := ⟨g - 1, by omega⟩
    obtain ⟨S', b1, b2, b3, b4⟩ := ih (k + 1) f (ux_order S (upd (sx_order S) k (nI k))) (by omega) (by omega) (by
      intro i hi
      show upd (sx_order S) k (nI k) i = nI i
      by_cases q : i = k
      · subst q; rw [pz_us]
      · rw [pz_un q]; exact h3 i (by omega))
    refine ⟨S', Eq.trans ?_ b1, px_ft (px_fa (j := 25) (S' := S) px_fr (by decide)) b2, b3, b4⟩
    rw [fx_X11_firstOrder_2, if_neg (nI_ge (by omega) (by omega)), pz_up (by omega) (by decide), show nI k + 1 = nI (k + 1) from (nI_succ k).symm]
theorem pf_firstOrder {n : Nat} (hn : n < 7) (S : sx_T) : ∃ S', fx_X11_firstOrder (nI n) S = some S' ∧ px_f [] [25] S S' ∧ sx_vi_kind S' = sx_vi_kind S ∧ ∀ i, i < n → sx_order S' i = nI i := pf_firstO hn n 0 am_fu S (by omega) (by rw [pf_u]; omega) (fun i hi => absurd hi (Nat.not_lt_zero i))
theorem pf_row0 : ∀ (d k g : Nat) (l : Int64) (M : sm_T), k + d = 6 → d < g → (∀ i, i < k → sm_row M i = nI i) → ∃ M', fx_X12_orders_14 g l (nI k) M = fx_X12_orders_39 am_fu l (nI 5) M' ∧ pm_f [] [15] M M' ∧ ∀ i, i < 6 → sm_row M' i = nI i := by
  intro d
  induction d with
  | zero =>
    intro k g l M h1 h2 h3
    obtain ⟨f, rfl⟩ : ∃ f, g = f + 1 := ⟨g - 1, by omega⟩
    have hk : k = 6 := by omega
    subst hk
    refine ⟨M, ?_, pm_fr, h3⟩
    rw [fx_X12_orders_14, if_pos (show (6 : Int32) ≤ nI 6 by decide)]
    rfl
  | succ d ih =>
    intro k g l M h1 h2 h3
    obtain ⟨f, rfl⟩ : ∃ f, g = f + 1 := ⟨g - 1, by omega⟩
    obtain ⟨M', b1, b2, b3⟩ := ih (k + 1) f l (um_row M (upd (sm_row M) k (nI k))) (by omega) (by omega) (by
      intro i hi
      show upd (sm_row M) k (nI k) i = nI i
      by_cases q : i = k
      · subst q; rw [pz_us]
      · rw [pz_un q]; exact h3 i (by omega))
    refine ⟨M', Eq.trans ?_ b1, pm_ft (pm_fa (j := 15) (S' := M) pm_fr (by decide)) b2, b3⟩
    rw [fx_X12_orders_14, if_neg (show ¬ (6 : Int32) ≤ nI k from nI_ge (b := 6) (by omega) (by decide)), if_neg (nI_in (show k < 6 by omega) (by decide)), pz_cl (by omega), show nI k + 1 = nI (k + 1) from (nI_succ k).symm]
theorem pl_lot {l : Nat} (hl : l < 2147483647) : lN l * 48271 - lN l * 48271 / 2147483647 * 2147483647 = lN (l * 48271 % 2147483647) := by
  rw [show lN l * 48271 = lN (l * 48271) from lN_mul l 48271]
  exact pk_lRem (b := 2147483647) (by omega) (by decide) (by decide)
theorem pf_lots : ∀ (k g g' l : Nat) (P : Nat → Nat) (S : sx_T) (M : sm_T), k < 6 → k < g → k < g' → l < 2147483647 → (∀ i, i < 6 → P i < 6 ∧ sx_order S i = nI (P i)) → (∀ i, i < 6 → sm_row M i = nI (P i)) → ∃ (P' : Nat → Nat) (S' : sx_T) (M' : sm_T), fx_X11_drawOrder_14 g (lN l) (nI k) S = some S' ∧ fx_X12_orders_39 g' (lN l) (nI k) M = some M' ∧ px_f [] [25] S S' ∧ sx_vi_kind S' = sx_vi_kind S ∧ pm_f [] [15] M M' ∧ (∀ i, i < 6 → P' i < 6 ∧ sx_order S' i = nI (P' i)) ∧ (∀ i, i < 6 → sm_row M' i = nI (P' i)) := by
  intro k
  induction k with
  | zero =>
    intro g g' l P S M hk h1 h2 hl hP hR
    obtain ⟨f, rfl⟩ : ∃ f, g = f + 1 := ⟨g - 1, by omega⟩
    obtain ⟨f', rfl⟩ : ∃ f, g' = f + 1 := ⟨g' - 1, by omega⟩
    refine ⟨P, S, M, ?_, ?_, px_fr, rfl, pm_fr, hP, hR⟩
    · rw [fx_X11_drawOrder_14, if_pos (show nI 0 < 1 by decide)]
    · rw [fx_X12_orders_39, if_pos (show nI 0 ≤ 0 by decide)]
  | succ k ih =>
    intro g g' l P S M hk h1 h2 hl hP hR
    obtain ⟨f, rfl⟩ : ∃ f, g = f + 1 := ⟨g - 1, by omega⟩
    obtain ⟨f', rfl⟩ : ∃ f, g' = f + 1 := ⟨g' - 1, by omega⟩
    have l2 : l * 48271 % 2147483647 < 2147483647 := Nat.mod_lt _ (by decide)
    generalize hl' : l * 48271 % 2147483647 = l' at l2
    have lot : lN l * 48271 - lN l * 48271 / 2147483647 * 2147483647 = lN l' := by rw [pl_lot hl, hl']
    have k1 : (nI (k + 1) + 1).toInt64 = lN (k + 2) := by
      rw [show nI (k + 1) + 1 = nI (k + 2) from (nI_succ (k + 1)).symm, nI_l (by omega)]
    have k2 : (nI (k + 1)).toInt64 + 1 = lN (k + 2) := by
      rw [nI_l (by omega)]; exact lN_1 (k + 1)
    have k0 : ¬ lN (k + 2) = 0 := pl_0 (by omega) (by omega)
    have hj : l' % (k + 2) < k + 2 := Nat.mod_lt _ (by omega)
    generalize hjj : l' % (k + 2) = j at hj
    have rem : lN l' - lN l' / lN (k + 2) * lN (k + 2) = lN j := by
      rw [pk_lRem (by omega) (by omega) (by omega), hjj]
    obtain ⟨s1, s2, s3⟩ := pf_swap (k := k + 1) (j := j) (S := S) (by omega) (by omega) hP
    have rowM : ∀ i, i < 6 → sm_row (um_row (um_row M (upd (sm_row M) j (sm_row M (k + 1)))) (upd (upd (sm_row M) j (sm_row M (k + 1))) (k + 1) (sm_row M j))) i = nI (pt_sw P (k + 1) j i) := by
      intro i hi
      show upd (upd (sm_row M) j (sm_row M (k + 1))) (k + 1) (sm_row M j) i = _
      rw [pz_u, pz_u, hR i hi, hR j (by omega), hR (k + 1) (by omega)]
      unfold pt_sw
      by_cases c1 : i = k + 1
      · rw [if_pos c1, if_pos c1]
      · rw [if_neg c1, if_neg c1]
        by_cases c2 : i = j
        · rw [if_pos c2, if_pos c2]
        · rw [if_neg c2, if_neg c2]
    obtain ⟨P', S', M', b1, b2, b3, b4, b5, b6, b7⟩ := ih f f' l' (pt_sw P (k + 1) j) (fx_X11_swap (nI (k + 1)) (nI j) S) _ (by omega) (by omega) (by omega) l2 s3 rowM
    refine ⟨P', S', M', Eq.trans ?_ b1, Eq.trans ?_ b2, px_ft s1 b3, b4.trans s2, pm_ft (pm_fa (j := 15) (S' := um_row M _) (pm_fa (j := 15) (S' := M) pm_fr (by decide)) (by decide)) b5, b6, b7⟩
    · rw [fx_X11_drawOrder_14, if_neg (show ¬ nI (k + 1) < 1 from nI_nlt (b := 1) (by omega) (by omega)), k1, if_neg k0, lot, rem, lN_i, pz_let, show nI (k + 1) + -1 = nI k from pk_m1 k]
    · have wi : fx_X12_within (nI j) 0 5 = nI j := pf_wi (show j < 6 by omega)
      rw [fx_X12_orders_39, if_neg (show ¬ nI (k + 1) ≤ 0 from nI_nle (by omega) (by omega)), k2, if_neg k0, lot, rem, lN_i, wi, if_neg (nI_in (show j < 6 by omega) (by decide)), if_neg (nI_in (show k + 1 < 6 by omega) (by decide)), if_neg (nI_in (show j < 6 by omega) (by decide)), if_neg (nI_in (show k + 1 < 6 by omega) (by decide)), pz_cl (by omega), pz_cl (by omega), show nI (k + 1) + -1 = nI k from pk_m1 k]
theorem pq_orders {sd : Nat} (hs : sd < 200000) (S : sx_T) (M : sm_T) : ∃ (P : Nat → Nat) (S' : sx_T) (M' : sm_T), fx_X11_drawOrder (nI sd) S = some S' ∧ fx_X12_orders (nI sd) M = some M' ∧ px_f [] [25] S S' ∧ sx_vi_kind S' = sx_vi_kind S ∧ pm_f [13] [15] M M' ∧ (∀ i, i < 6 → P i < 6 ∧ sx_order S' i = nI (P i)) ∧ pm_W P 6 M' := by
  obtain ⟨S1, a1, a2, a3, a4⟩ := pf_firstOrder (n := 6) (by decide) S
  have lot : (nI sd).toInt64 + 1 = lN (sd + 1) := by rw [nI_l (by omega)]; exact lN_1 sd
  obtain ⟨M1, b1, b2, b3⟩ := pf_row0 6 0 am_fu (lN (sd + 1)) (um_rooms0 M 6) (by omega) (by rw [pf_u]; decide) (fun i hi => absurd hi (Nat.not_lt_zero i))
  obtain ⟨P, S2, M2, c1, c2, c3, c4, c5, c6, c7⟩ := pf_lots 5 am_fu am_fu (sd + 1) (fun i => i) S1 M1 (by decide) (by rw [pf_u]; decide) (by rw [pf_u]; decide) (by omega) (fun i hi => ⟨hi, a4 i hi⟩) b3
  refine ⟨P, S2, M2, ?_, ?_, px_ft a2 c3, c4.trans a3, pm_ft (pm_fs (j := 13) (S' := M) pm_fr (by decide)) (pm_ft (pm_fm b2 (by decide) (by decide)) (pm_fm c5 (by decide) (by decide))), c6, ⟨?_, by decide, fun i hi => ⟨(c6 i hi).1, c7 i hi⟩⟩⟩
  · unfold fx_X11_drawOrder
    have a1' : fx_X11_firstOrder 6 S = some S1 := a1
    rw [a1', pz_bd, lot]
    exact c1
  · unfold fx_X12_orders
    rw [lot]
    exact b1.trans c2
  · have q1 : sm_rooms0 M2 = sm_rooms0 M1 := c5.1 13 (by decide)
    have q2 : sm_rooms0 M1 = sm_rooms0 (um_rooms0 M 6) := b2.1 13 (by decide)
    rw [q1, q2]
    rfl
