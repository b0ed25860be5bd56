/-! ===== the reader: the class's words and numbers, to their end ===== -/
def pw_sw (S : sx_T) (z e : Nat) : Prop := sx_rd_size S = nI z ∧ e ≤ z ∧ z ≤ 160 ∧ (e < z → fx_X12_in (sx_rd_tape S e) 97 122 = 0)
def pw_sn (S : sx_T) (z e : Nat) : Prop := sx_rd_size S = nI z ∧ e ≤ z ∧ z ≤ 160 ∧ (e < z → fx_X12_in (sx_rd_tape S e) 48 57 = 0)
theorem pw_36 {k7 : Int32 → sx_T → Option sx_T} {a l z : Nat} {S : sx_T} (ha : a + l ≤ z) (he : pw_sw S z (a + l)) (hd : ∀ i, i < l → pw_lt (sx_rd_tape S (a + i))) : ∀ d j n, j + d = l → d < n → fx_X4_findTokens_36 k7 n (nI (a + j)) (nI a) S = k7 (nI (a + l)) (fx_X4_note (pw_cd (pw_f (sx_rd_tape S) a l 12 0)) (nI a) S) := by
  obtain ⟨e1, e2, e3, e4⟩ := he
  intro d
  induction d with
  | zero =>
    intro j n hj hn
    obtain ⟨n, rfl⟩ : ∃ n', n = n' + 1 := ⟨n - 1, by omega⟩
    obtain rfl : j = l := by omega
    have w := pw_cl (S := S) (a := a) (l := j) (by omega) (fun i hi => pw_l32 (hd i hi))
    rw [fx_X4_findTokens_36, e1]
    by_cases c : z ≤ a + j
    · rw [if_pos (nI_le (by omega) (by omega)), w, pz_bd, pz_let]
    · have q : fx_X4_isLetter (sx_rd_tape S (a + j)) = 0 := e4 (by omega)
      rw [if_neg (nI_ge (by omega) (by omega)), pz_rd (by omega) (by decide), if_pos q, w, pz_bd, pz_let]
  | succ d ih =>
    intro j n hj hn
    obtain ⟨n, rfl⟩ : ∃ n', n = n' + 1 := ⟨n - 1, by omega⟩
    have q : ¬ fx_X4_isLetter (sx_rd_tape S (a + j)) = 0 := hd j (by omega)
    rw [fx_X4_findTokens_36, e1, if_neg (nI_ge (by omega) (by omega)), pz_rd (by omega) (by decide), if_neg q, show nI (a + j) + (1 : Int32) = nI (a + (j + 1)) from (nI_succ _).symm]
    exact ih (j + 1) n (by omega) (by omega)
theorem pw_85 {k7 : Int32 → sx_T → Option sx_T} {a l z : Nat} {S : sx_T} (ha : a + l ≤ z) (he : pw_sn S z (a + l)) (hd : ∀ i, i < l → pw_dg (sx_rd_tape S (a + i))) : ∀ d j n, j + d = l → d < n → fx_X4_findTokens_85 k7 n (nI (a + j)) (nI a) S = k7 (nI (a + l)) (fx_X4_note (if l ≤ 4 then nI (pw_n (sx_rd_tape S) a l) else -2) (nI a) S) := by
  obtain ⟨e1, e2, e3, e4⟩ := he
  intro d
  induction d with
  | zero =>
    intro j n hj hn
    obtain ⟨n, rfl⟩ : ∃ n', n = n' + 1 := ⟨n - 1, by omega⟩
    obtain rfl : j = l := by omega
    have w := pw_nm (S := S) (a := a) (l := j) (by omega) hd
    rw [fx_X4_findTokens_85, e1]
    by_cases c : z ≤ a + j
    · rw [if_pos (nI_le (by omega) (by omega)), w, pz_bd, pz_let]
    · have q : fx_X4_isDigit (sx_rd_tape S (a + j)) = 0 := e4 (by omega)
      rw [if_neg (nI_ge (by omega) (by omega)), pz_rd (by omega) (by decide), if_pos q, w, pz_bd, pz_let]
  | succ d ih =>
    intro j n hj hn
    obtain ⟨n, rfl⟩ : ∃ n', n = n' + 1 := ⟨n - 1, by omega⟩
    have q : ¬ fx_X4_isDigit (sx_rd_tape S (a + j)) = 0 := by
      have : fx_X12_in (sx_rd_tape S (a + j)) 48 57 = 1 := pw_di (hd j (by omega))
      exact fun h => absurd (this.symm.trans h) (by decide)
    rw [fx_X4_findTokens_85, e1, if_neg (nI_ge (by omega) (by omega)), pz_rd (by omega) (by decide), if_neg q, show nI (a + j) + (1 : Int32) = nI (a + (j + 1)) from (nI_succ _).symm]
    exact ih (j + 1) n (by omega) (by omega)
