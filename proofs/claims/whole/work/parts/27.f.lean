/-! ===== the reader: the reference's words, to their end ===== -/
def pw_lt (x : Int32) : Prop := fx_X12_in x 97 122 ≠ 0
theorem pw_l32 {x : Int32} (h : pw_lt x) : x ≠ 32 := fun q => h (by rw [q]; decide)
def pw_ew (M : sm_T) (z e : Nat) : Prop := sm_taped M = nI z ∧ e ≤ z ∧ z ≤ 160 ∧ (e < z → fx_X12_in (sm_tape M e) 97 122 = 0)
theorem pw_103 {a l z : Nat} (ha : a + l ≤ z) : ∀ d j n (M : sm_T), j + d = l → d < n → pw_ew M z (a + l) → (∀ i, i < l → pw_lt (sm_tape M (a + i))) → sm_at M = nI (a + j) → sm_begun M = nI a → ∃ M', fx_X12_next_103 n M = some M' ∧ pm_f [6, 8, 9] [] M M' ∧ sm_at M' = nI (a + l) ∧ pd_T M' (pw_cd (pw_f (sm_tape M) a l 12 0)) := by
  intro d
  induction d with
  | zero =>
    intro j n M hj hn he hd hat hb
    obtain ⟨n, rfl⟩ : ∃ n', n = n' + 1 := ⟨n - 1, by omega⟩
    obtain rfl : j = l := by omega
    obtain ⟨e1, e2, e3, e4⟩ := he
    obtain ⟨M', r1, r2, r3⟩ := pw_rf (M := M) (a := a) (l := j) (by omega) hb hat
    have r6 : sm_at M' = nI (a + j) := (r2.1 6 (by decide)).trans hat
    refine ⟨M', ?_, pm_fm r2 (by decide) (by decide), r6, r3⟩
    rw [fx_X12_next_103, e1, hat]
    by_cases c : z ≤ a + j
    · rw [if_pos (nI_le (by omega) (by omega))]
      exact r1
    · rw [if_neg (nI_ge (by omega) (by omega)), if_neg (pn_out (by omega) (by decide)), pz_cl (by omega), if_pos (e4 (by omega))]
      exact r1
  | succ d ih =>
    intro j n M hj hn he hd hat hb
    obtain ⟨n, rfl⟩ : ∃ n', n = n' + 1 := ⟨n - 1, by omega⟩
    obtain ⟨e1, e2, e3, e4⟩ := id he
    have dj : fx_X12_in (sm_tape M (a + j)) 97 122 ≠ 0 := hd j (by omega)
    have a1 : nI (a + j) + (1 : Int32) = nI (a + (j + 1)) := (nI_succ _).symm
    obtain ⟨M', r1, r2, r3⟩ := ih (j + 1) n (um_at M (nI (a + (j + 1)))) (by omega) (by omega) he hd rfl hb
    refine ⟨M', ?_, pm_ft (pm_fs (j := 6) (S' := M) pm_fr (by decide)) r2, r3⟩
    rw [fx_X12_next_103, e1, hat, if_neg (nI_ge (by omega) (by omega)), if_neg (pn_out (n := 160) (by omega) (by decide)), pz_cl (by omega), if_neg dj, a1]
    exact r1
