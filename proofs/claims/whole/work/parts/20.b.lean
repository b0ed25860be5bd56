/-! helpers: an int within bounds, as a natural -/
theorem pn_le {a b : Nat} (hb : b < 2 ^ 31) (ha : a < 2 ^ 31) : (nI a ≤ nI b) = (a ≤ b) := propext (nI_leI ha hb)
theorem pn_lt {a b : Nat} (hb : b < 2 ^ 31) (ha : a < 2 ^ 31) : (nI a < nI b) = (a < b) := propext (nI_ltI ha hb)
theorem pn_within (a : Int32) {n : Nat} (hn : n < 2 ^ 31) : (fx_X11_within a (nI n) = 0 ∧ ∀ j, j < n → a ≠ nI j) ∨ ∃ j, j < n ∧ a = nI j ∧ fx_X11_within a (nI n) = 1 := by
  unfold fx_X11_within
  by_cases h : a < 0
  · rw [if_pos h]
    exact Or.inl ⟨rfl, fun j hj e => nI_pos (n := j) (by omega) (e ▸ h)⟩
  · obtain ⟨j, hj, rfl⟩ := nI_of h
    rw [if_neg h]
    by_cases h2 : n ≤ j
    · rw [if_pos (nI_le h2 hj)]
      exact Or.inl ⟨rfl, fun k hk e => by have := (nI_eq hj (by omega)).mp e; omega⟩
    · rw [if_neg (nI_ge (by omega) hn)]
      exact Or.inr ⟨j, by omega, rfl, rfl⟩
theorem pn_in (a : Int32) {n : Nat} (hn : n + 1 < 2 ^ 31) : fx_X12_in a 0 (nI n) = fx_X11_within a (nI (n + 1)) := by
  unfold fx_X11_within fx_X12_in
  by_cases h : a < 0
  · rw [if_pos h, if_pos h]
  · obtain ⟨j, hj, rfl⟩ := nI_of h
    rw [if_neg h, if_neg h]
    by_cases h2 : n + 1 ≤ j
    · rw [if_pos (nI_lt h2 hj), if_pos (nI_le h2 hj)]
    · rw [if_neg (nI_nlt (by omega) (by omega)), if_neg (nI_ge (by omega) hn)]
/-- a row read and written at a place within -/
theorem pn_rd {n j : Nat} {f : Nat → Int32} (h : j < n) (hn : n < 2 ^ 31) : am_rd n f (nI j) = f j := by
  unfold am_rd
  rw [if_neg (nI_pos (by omega)), if_neg (nI_ge h hn), nI_clamp (by omega)]
theorem pn_up {n j : Nat} {f : Nat → Int32} {v : Int32} (h : j < n) (hn : n < 2 ^ 31) : am_up n f (nI j) v = upd f j v := by
  unfold am_up
  rw [if_neg (nI_pos (by omega)), if_neg (nI_ge h hn), nI_clamp (by omega)]
theorem pn_out {n j : Nat} (h : j < n) (hn : n < 2 ^ 31) : ¬ (nI j < 0 ∨ n ≤ (nI j).toNatClampNeg) := nI_in h hn
