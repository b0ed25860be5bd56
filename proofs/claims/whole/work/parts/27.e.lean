/-! ===== the reader: the reference's numbers ===== -/
theorem pw_di {x : Int32} (h : pw_dg x) : fx_X12_in x 48 57 = 1 := by
  obtain ⟨d, hd, rfl⟩ := h
  exact (by decide : ∀ d, d < 10 → fx_X12_in (nI (48 + d)) 48 57 = 1) d hd
/-- what ends a number: the tape's end, or no digit -/
def pw_en (M : sm_T) (z e : Nat) : Prop := sm_taped M = nI z ∧ e ≤ z ∧ z ≤ 160 ∧ (e < z → fx_X12_in (sm_tape M e) 48 57 = 0)
theorem pw_230 {a l z : Nat} (ha : a + l ≤ z) : ∀ d j n (M : sm_T), j + d = l → d < n → pw_en M z (a + l) → (∀ i, i < l → pw_dg (sm_tape M (a + i))) → sm_at M = nI (a + j) → (j ≤ 4 → sm_value M = nI (pw_n (sm_tape M) a j)) → ∃ M', fx_X12_next_230 n (nI j) M = some M' ∧ pm_f [6, 8, 9] [] M M' ∧ sm_at M' = nI (a + l) ∧ (l ≤ 4 → sm_token M' = 1 ∧ sm_value M' = nI (pw_n (sm_tape M) a l)) ∧ (¬ l ≤ 4 → sm_token M' = -1) := by
  intro d
  induction d with
  | zero =>
    intro j n M hj hn he hd hat hv
    obtain ⟨n, rfl⟩ : ∃ n', n = n' + 1 := ⟨n - 1, by omega⟩
    obtain rfl : j = l := by omega
    obtain ⟨e1, e2, e3, e4⟩ := he
    have fin : ∃ M', (if nI j ≤ (4 : Int32) then some ((um_token M (1 : Int32))) else some ((um_token M (-1 : Int32)))) = some M' ∧ pm_f [6, 8, 9] [] M M' ∧ sm_at M' = nI (a + j) ∧ (j ≤ 4 → sm_token M' = 1 ∧ sm_value M' = nI (pw_n (sm_tape M) a j)) ∧ (¬ j ≤ 4 → sm_token M' = -1) := by
      by_cases c : j ≤ 4
      · have c' : nI j ≤ (4 : Int32) := nI_le (b := 4) c (by decide)
        rw [if_pos c']
        exact ⟨_, rfl, pm_fs (j := 8) (S' := M) pm_fr (by decide), hat, fun _ => ⟨rfl, hv c⟩, fun q => absurd c q⟩
      · have c' : ¬ nI j ≤ (4 : Int32) := nI_ge (a := 4) (by omega) (by omega)
        rw [if_neg c']
        exact ⟨_, rfl, pm_fs (j := 8) (S' := M) pm_fr (by decide), hat, fun q => absurd q c, fun _ => rfl⟩
    rw [fx_X12_next_230, e1, hat]
    by_cases c : z ≤ a + j
    · rw [if_pos (nI_le (by omega) (by omega))]
      exact fin
    · rw [if_neg (nI_ge (by omega) (by omega)), if_neg (pn_out (by omega) (by decide)), pz_cl (by omega), if_pos (e4 (by omega))]
      exact fin
  | succ d ih =>
    intro j n M hj hn he hd hat hv
    obtain ⟨n, rfl⟩ : ∃ n', n = n' + 1 := ⟨n - 1, by omega⟩
    obtain ⟨e1, e2, e3, e4⟩ := id he
    have dj := hd j (by omega)
    have ne0 : ¬ fx_X12_in (sm_tape M (a + j)) 48 57 = 0 := by rw [pw_di dj]; decide
    have j1 : nI j + (1 : Int32) = nI (j + 1) := (nI_succ j).symm
    have a1 : nI (a + j) + (1 : Int32) = nI (a + (j + 1)) := (nI_succ _).symm
    have step : ∀ v : Int32, (j + 1 ≤ 4 → v = nI (pw_n (sm_tape M) a (j + 1))) → ∃ M', fx_X12_next_230 n (nI (j + 1)) (um_at (um_value M v) (nI (a + (j + 1)))) = some M' ∧ pm_f [6, 8, 9] [] M M' ∧ sm_at M' = nI (a + l) ∧ (l ≤ 4 → sm_token M' = 1 ∧ sm_value M' = nI (pw_n (sm_tape M) a l)) ∧ (¬ l ≤ 4 → sm_token M' = -1) := by
      intro v hv'
      obtain ⟨M', r1, r2, r3⟩ := ih (j + 1) n (um_at (um_value M v) (nI (a + (j + 1)))) (by omega) (by omega) he hd rfl hv'
      exact ⟨M', r1, pm_ft (pm_fs (j := 6) (S' := um_value M v) (pm_fs (j := 9) (S' := M) pm_fr (by decide)) (by decide)) r2, r3⟩
    rw [fx_X12_next_230, e1, hat, if_neg (nI_ge (by omega) (by omega)), if_neg (pn_out (n := 160) (by omega) (by decide)), pz_cl (by omega), if_neg ne0, j1, a1]
    by_cases c : 4 ≤ j
    · have c' : (4 : Int32) ≤ nI j := nI_le (a := 4) c (by omega)
      rw [if_pos c']
      exact step 0 (fun q => by omega)
    · have c' : ¬ (4 : Int32) ≤ nI j := nI_ge (b := 4) (by omega) (by decide)
      have po := pn_out (n := 160) (j := a + j) (by omega) (by decide)
      rw [pz_cl (by omega)] at po
      rw [if_neg c', if_neg po, hv (by omega), (pw_st dj).1]
      exact step _ (fun _ => rfl)
