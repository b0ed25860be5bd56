/-! ===== the reader: the class's next token ===== -/
theorem pk_sk {S : sx_T} {z a : Nat} (hz : z ≤ 160) (hs : sx_rd_size S = nI z) : ∀ k n, a + k ≤ z → (∀ i, i < k → pw_bl (sx_rd_tape S (a + i))) → fx_X4_findTokens_7 (n + k) (nI a) S = fx_X4_findTokens_7 n (nI (a + k)) S := by
  intro k
  induction k with
  | zero => intro n _ _; rfl
  | succ k ih =>
    intro n hk hb
    rw [show n + (k + 1) = (n + 1) + k by omega, ih (n + 1) (by omega) (fun i hi => hb i (by omega))]
    have a1 : nI (a + k) + (1 : Int32) = nI (a + (k + 1)) := (nI_succ _).symm
    rw [fx_X4_findTokens_7, hs, if_neg (nI_ge (by omega) (by omega)), pz_rd (by omega) (by decide), a1]
    rcases hb k (by omega) with q | q
    · rw [q]; rfl
    · rw [q]; rfl
theorem pk_so (x : Int32) (h1 : fx_X12_in x 97 122 = 0) (h2 : fx_X12_in x 48 57 = 0) (h3 : ¬ pw_bl x) : (fx_X4_isSign x = 0 → pw_so x = -2) ∧ (fx_X4_isSign x ≠ 0 → pw_so x = -x) := by
  have key : fx_X4_isSign x ≠ 0 ↔ pw_si x = true := by
    constructor
    · intro h
      refine decide_eq_true ?_
      by_cases c1 : x = 40
      · rw [c1]; decide
      by_cases c2 : x = 41
      · rw [c2]; decide
      by_cases c3 : x = 42
      · rw [c3]; decide
      by_cases c4 : x = 43
      · rw [c4]; decide
      by_cases c5 : x = 45
      · rw [c5]; decide
      by_cases c6 : x = 59
      · rw [c6]; decide
      by_cases c7 : x = 60
      · rw [c7]; decide
      by_cases c8 : x = 61
      · rw [c8]; decide
      have e : fx_X4_isSign x = 0 := by
        unfold fx_X4_isSign
        simp only [if_neg c1, if_neg c2, if_neg c3, if_neg c4, if_neg c5, if_neg c6, if_neg c7, if_neg c8, ite_self]
      exact absurd e h
    · intro h
      have h := of_decide_eq_true h
      exact (by decide : ∀ y ∈ ([40, 41, 59, 43, 45, 42, 60, 61] : List Int32), fx_X4_isSign y ≠ 0) x h
  unfold pw_so
  exact ⟨fun q => if_neg (fun w => (key.mpr w) q), fun q => if_pos (key.mp q)⟩
theorem pk_S {S : sx_T} {z a b e : Nat} {x : Int32} (hz : z ≤ 160) (hs : sx_rd_size S = nI z) (h : pk_nx (sx_rd_tape S) z a x b e) (n : Nat) : fx_X4_findTokens_7 (n + 1 + (b - a)) (nI a) S = if b = z then some (fx_X4_note x (nI b) S) else fx_X4_findTokens_7 n (nI e) (fx_X4_note x (nI b) S) := by
  obtain ⟨⟨h1, h2, h3, h4⟩, hc⟩ := h
  obtain ⟨k, rfl⟩ : ∃ k, b = a + k := ⟨b - a, by omega⟩
  rw [Nat.add_sub_cancel_left, pk_sk hz hs k (n + 1) h2 (fun i hi => h3 (a + i) (by omega) (by omega)), fx_X4_findTokens_7, hs]
  generalize a + k = b at *
  rcases hc with ⟨c1, c2, c3⟩ | ⟨l, l1, l2, l3, l4, l5, l6⟩ | ⟨l, l1, l2, l3, l4, l5, l6⟩ | ⟨c1, c2, c3, c4, c5⟩
  · subst c1
    subst c2
    rw [if_pos (nI_le (by omega) (by omega)), if_pos rfl]
    rfl
  · subst l6
    subst l2
    have q : ¬ fx_X4_isLetter (sx_rd_tape S b) = 0 := l4 0 l1
    have b1 : nI b + (1 : Int32) = nI (b + 1) := (nI_succ _).symm
    rw [if_neg (nI_ge (by omega) (by omega)), pz_rd (by omega) (by decide), if_neg q, if_neg (by omega), b1]
    exact pw_36 l3 ⟨hs, l3, hz, l5⟩ l4 (l - 1) 1 am_fu (by omega) (by have : am_fu = 1000000 := rfl; omega)
  · subst l6
    subst l2
    have d0 : pw_dg (sx_rd_tape S b) := l4 0 l1
    have q0 : fx_X4_isLetter (sx_rd_tape S b) = 0 := by
      obtain ⟨d, hd1, hd2⟩ := d0
      rw [hd2]
      exact (by decide : ∀ d, d < 10 → fx_X4_isLetter (nI (48 + d)) = 0) d hd1
    have q1 : ¬ fx_X4_isDigit (sx_rd_tape S b) = 0 := by
      have : fx_X12_in (sx_rd_tape S b) 48 57 = 1 := pw_di d0
      exact fun h => absurd (this.symm.trans h) (by decide)
    have b1 : nI b + (1 : Int32) = nI (b + 1) := (nI_succ _).symm
    rw [if_neg (nI_ge (by omega) (by omega)), pz_rd (by omega) (by decide), if_pos q0, if_neg q1, if_neg (by omega), b1]
    exact pw_85 l3 ⟨hs, l3, hz, l5⟩ l4 (l - 1) 1 am_fu (by omega) (by have : am_fu = 1000000 := rfl; omega)
  · subst c5
    subst c2
    have nb := h4 c1
    have q0 : fx_X4_isLetter (sx_rd_tape S b) = 0 := c3
    have q1 : fx_X4_isDigit (sx_rd_tape S b) = 0 := c4
    have n1 : ¬ sx_rd_tape S b = 32 := fun q => nb (Or.inl q)
    have n2 : ¬ sx_rd_tape S b = 10 := fun q => nb (Or.inr q)
    have b1 : nI b + (1 : Int32) = nI (b + 1) := (nI_succ _).symm
    obtain ⟨s1, s2⟩ := pk_so _ c3 c4 nb
    rw [if_neg (nI_ge (by omega) (by omega)), pz_rd (by omega) (by decide), if_pos q0, if_pos q1, if_neg n1, if_neg n2, if_neg (show ¬ b = z by omega), b1]
    by_cases cs : fx_X4_isSign (sx_rd_tape S b) = 0
    · rw [if_pos cs, s1 cs]; rfl
    · rw [if_neg cs, s2 cs]; rfl
