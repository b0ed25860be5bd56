/-! ===== the next order ===== -/
def nx_i (P : Nat → Nat) : Nat → Nat
  | 0 => 0
  | m + 1 => if P m ≤ P (m + 1) then m + 1 else nx_i P m
def nx_j (P : Nat → Nat) (i : Nat) : Nat → Nat
  | 0 => 0
  | j + 1 => if j + 1 ≤ i then j + 1 else if P i ≤ P (j + 1) then j + 1 else nx_j P i j
def nx_r : Nat → Nat → Nat → (Nat → Nat) → Nat → Nat
  | 0, _, _, P => P
  | f + 1, a, b, P => if b ≤ a then P else nx_r f (a + 1) (b - 1) (pt_sw P a b)
def nx_N (n : Nat) (P : Nat → Nat) : Option (Nat → Nat) := if nx_i P (n - 1) = 0 then none else some (nx_r 10 (nx_i P (n - 1)) (n - 1) (pt_sw P (nx_i P (n - 1) - 1) (nx_j P (nx_i P (n - 1) - 1) (n - 1))))
def px_O (n : Nat) (P : Nat → Nat) (S : sx_T) : Prop := ∀ i, i < n → P i < 6 ∧ sx_order S i = nI (P i)
theorem pf_swapn {P : Nat → Nat} {k j n : Nat} {S : sx_T} (hn : n < 7) (hk : k < n) (hj : j < n) (h : px_O n P S) : px_f [] [25] S (fx_X11_swap (nI k) (nI j) S) ∧ sx_vi_kind (fx_X11_swap (nI k) (nI j) S) = sx_vi_kind S ∧ px_O n (pt_sw P k j) (fx_X11_swap (nI k) (nI j) S) := by
  unfold fx_X11_swap
  rw [pz_rd (by omega) (by decide), pz_rd (by omega) (by decide), pz_up (by omega) (by decide), pz_up (by omega) (by decide)]
  refine ⟨px_fa (j := 25) (S' := ux_order S _) (px_fa (j := 25) (S' := S) px_fr (by decide)) (by decide), rfl, fun i hi => ?_⟩
  show pt_sw P k j i < 6 ∧ upd (upd (sx_order S) k (sx_order S j)) j (sx_order S k) i = nI (pt_sw P k j i)
  rw [pz_u, pz_u, (h j hj).2, (h k hk).2, (h i hi).2]
  unfold pt_sw
  by_cases c1 : i = j
  · by_cases c2 : i = k
    · simp only [if_pos c1, if_pos c2]
      rw [show k = j by omega]
      exact ⟨(h j hj).1, rfl⟩
    · simp only [if_pos c1, if_neg c2]
      exact ⟨(h k hk).1, trivial⟩
  · by_cases c2 : i = k
    · simp only [if_neg c1, if_pos c2]
      exact ⟨(h j hj).1, trivial⟩
    · simp only [if_neg c1, if_neg c2]
      exact ⟨(h i hi).1, trivial⟩
theorem pf_no91 {n : Nat} (hn : n < 7) : ∀ (f a b g : Nat) (P : Nat → Nat) (S : sx_T), b < n → a < 100 → b ≤ a + f → f < g → px_O n P S → ∃ S', fx_X11_nextOrder_91 g (nI a) (nI b) S = some (1, S') ∧ px_f [] [25] S S' ∧ sx_vi_kind S' = sx_vi_kind S ∧ px_O n (nx_r f a b P) S' := by
  intro f
  induction f with
  | zero =>
    intro a b g P S hb ha hf hg h
    obtain ⟨e, rfl⟩ : ∃ e, g = e + 1 := ⟨g - 1, by omega⟩
    refine ⟨S, ?_, px_fr, rfl, h⟩
    rw [fx_X11_nextOrder_91, if_pos (nI_le (by omega) (by omega))]
  | succ f ih =>
    intro a b g P S hb ha hf hg h
    obtain ⟨e, rfl⟩ : ∃ e, g = e + 1 := ⟨g - 1, by omega⟩
    have es : nx_r (f + 1) a b P = if b ≤ a then P else nx_r f (a + 1) (b - 1) (pt_sw P a b) := rfl
    rw [fx_X11_nextOrder_91, es]
    by_cases c : b ≤ a
    · rw [if_pos (nI_le c (by omega)), if_pos c]
      exact ⟨S, rfl, px_fr, rfl, h⟩
    · rw [if_neg (nI_ge (by omega) (by omega)), if_neg c, pz_let, show nI a + 1 = nI (a + 1) from (nI_succ a).symm, show nI b + -1 = nI (b - 1) from pz_m (b := 1) (by omega)]
      obtain ⟨s1, s2, s3⟩ := pf_swapn (k := a) (j := b) hn (by omega) hb h
      obtain ⟨S', q1, q2, q3, q4⟩ := ih (a + 1) (b - 1) e _ _ (by omega) (by omega) (by omega) (by omega) s3
      exact ⟨S', q1, px_ft s1 q2, q3.trans s2, q4⟩
theorem pf_no45 {n i : Nat} (hn : n < 7) (hi : i + 1 < n) {P : Nat → Nat} {S : sx_T} (h : px_O n P S) : ∀ (j g : Nat), j < n → i ≤ j → j < g → fx_X11_nextOrder_45 g (nI n) (nI i) (nI j) S = fx_X11_nextOrder_91 am_fu (nI (i + 1)) (nI (n - 1)) (fx_X11_swap (nI i) (nI (nx_j P i j)) S) ∧ nx_j P i j < n := by
  intro j
  induction j with
  | zero =>
    intro g hj hij hg
    obtain ⟨e, rfl⟩ : ∃ e, g = e + 1 := ⟨g - 1, by omega⟩
    have i0 : i = 0 := by omega
    subst i0
    refine ⟨?_, by show 0 < n; omega⟩
    rw [fx_X11_nextOrder_45, if_pos (nI_le (Nat.le_refl 0) (by decide)), pz_let, show nI 0 + 1 = nI (0 + 1) from (nI_succ 0).symm, show nI n - 1 = nI (n - 1) from pz_sub (b := 1) (by omega)]
    rfl
  | succ j ih =>
    intro g hj hij hg
    obtain ⟨e, rfl⟩ : ∃ e, g = e + 1 := ⟨g - 1, by omega⟩
    have es : nx_j P i (j + 1) = if j + 1 ≤ i then j + 1 else if P i ≤ P (j + 1) then j + 1 else nx_j P i j := rfl
    have t1 : nI i + 1 = nI (i + 1) := (nI_succ i).symm
    have t2 : nI n - 1 = nI (n - 1) := pz_sub (b := 1) (by omega)
    rw [fx_X11_nextOrder_45, es]
    by_cases c : j + 1 ≤ i
    · rw [if_pos (nI_le c (by omega)), if_pos c, pz_let, t1, t2]
      exact ⟨rfl, by omega⟩
    · rw [if_neg (nI_ge (by omega) (by omega)), if_neg c, pz_rd (by omega) (by decide), pz_rd (by omega) (by decide), (h i (by omega)).2, (h (j + 1) hj).2]
      have b1 := (h i (by omega)).1
      have b2 := (h (j + 1) hj).1
      by_cases c2 : P i ≤ P (j + 1)
      · rw [if_pos (nI_le c2 (by omega)), if_pos c2, pz_let, t1, t2]
        exact ⟨rfl, by omega⟩
      · rw [if_neg (nI_ge (by omega) (by omega)), if_neg c2, show nI (j + 1) + -1 = nI j from pk_m1 j]
        exact ih e (by omega) (by omega) (by omega)
theorem nx_il (P : Nat → Nat) : ∀ m, nx_i P m ≤ m := by
  intro m
  induction m with
  | zero => exact Nat.le_refl 0
  | succ m ih =>
    have es : nx_i P (m + 1) = if P m ≤ P (m + 1) then m + 1 else nx_i P m := rfl
    rw [es]
    split <;> omega
theorem pf_no4 {n : Nat} (hn : n < 7) {P : Nat → Nat} {S : sx_T} (h : px_O n P S) : ∀ (m g : Nat), m < n → m < g → fx_X11_nextOrder_4 g (nI n) (nI m - 1) S = if nx_i P m = 0 then some (0, S) else fx_X11_nextOrder_45 am_fu (nI n) (nI (nx_i P m - 1)) (nI (n - 1)) S := by
  intro m
  induction m with
  | zero =>
    intro g hm hg
    obtain ⟨e, rfl⟩ : ∃ e, g = e + 1 := ⟨g - 1, by omega⟩
    rw [fx_X11_nextOrder_4, if_pos (show nI 0 - 1 < 0 by decide), if_neg (show ¬ 0 ≤ nI 0 - 1 by decide), if_pos (show nx_i P 0 = 0 from rfl)]
  | succ m ih =>
    intro g hm hg
    obtain ⟨e, rfl⟩ : ∃ e, g = e + 1 := ⟨g - 1, by omega⟩
    have es : nx_i P (m + 1) = if P m ≤ P (m + 1) then m + 1 else nx_i P m := rfl
    have t2 : nI n - 1 = nI (n - 1) := pz_sub (b := 1) (by omega)
    rw [fx_X11_nextOrder_4, show nI (m + 1) - 1 = nI m from nI_pred m, if_neg (nI_pos (by omega)), show nI m + 1 = nI (m + 1) from (nI_succ m).symm, pz_rd (by omega) (by decide), pz_rd (by omega) (by decide), (h m (by omega)).2, (h (m + 1) hm).2, es]
    have b1 := (h m (by omega)).1
    have b2 := (h (m + 1) hm).1
    by_cases c : P m ≤ P (m + 1)
    · rw [if_pos (nI_le c (by omega)), if_pos (nI_pos' (by omega)), if_pos c, if_neg (by omega), t2]
      rfl
    · rw [if_neg (nI_ge (by omega) (by omega)), if_neg c, show nI m + -1 = nI m - 1 from (Int32.sub_eq_add_neg _ _).symm]
      exact ih e (by omega) (by omega)
theorem pf_no {n : Nat} (hn : n < 7) (hn1 : 0 < n) {P : Nat → Nat} {S : sx_T} (h : px_O n P S) : ∃ S', px_f [] [25] S S' ∧ sx_vi_kind S' = sx_vi_kind S ∧ ((nx_N n P = none ∧ fx_X11_nextOrder (nI n) S = some (0, S')) ∨ ∃ Q, nx_N n P = some Q ∧ fx_X11_nextOrder (nI n) S = some (1, S') ∧ px_O n Q S') := by
  have l := pf_no4 hn h (n - 1) am_fu (by omega) (by rw [pf_u]; omega)
  have e : fx_X11_nextOrder (nI n) S = fx_X11_nextOrder_4 am_fu (nI n) (nI (n - 1) - 1) S := by
    unfold fx_X11_nextOrder
    have : nI n - 2 = nI (n - 1) - 1 := by
      rw [← show nI n - 1 = nI (n - 1) from pz_sub (b := 1) (by omega)]
      rw [Int32.sub_eq_add_neg, Int32.sub_eq_add_neg, Int32.sub_eq_add_neg, Int32.add_assoc]
      rfl
    rw [this]
  rw [e, l]
  have il := nx_il P (n - 1)
  unfold nx_N
  by_cases c : nx_i P (n - 1) = 0
  · rw [if_pos c, if_pos c]
    exact ⟨S, px_fr, rfl, Or.inl ⟨rfl, rfl⟩⟩
  · rw [if_neg c, if_neg c]
    generalize nx_i P (n - 1) = r at c il
    obtain ⟨j1, j2⟩ := pf_no45 (i := r - 1) hn (by omega) h (n - 1) am_fu (by omega) (by omega) (by rw [pf_u]; omega)
    rw [j1, show r - 1 + 1 = r by omega]
    obtain ⟨s1, s2, s3⟩ := pf_swapn (k := r - 1) (j := nx_j P (r - 1) (n - 1)) hn (by omega) j2 h
    obtain ⟨S', q1, q2, q3, q4⟩ := pf_no91 hn 10 r (n - 1) am_fu _ _ (by omega) (by omega) (by omega) (by rw [pf_u]; decide) s3
    exact ⟨S', px_ft s1 q2, q3.trans s2, Or.inr ⟨_, rfl, q1, q4⟩⟩
