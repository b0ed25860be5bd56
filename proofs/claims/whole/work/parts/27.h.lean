/-! ===== the reader: the reference skips blanks ===== -/
def pw_bl (x : Int32) : Prop := x = 32 ∨ x = 10
theorem pw_nx {a l z : Nat} (ha : a + l ≤ z) : ∀ d j n (M : sm_T), j + d = l → d < n → (sm_taped M = nI z ∧ z ≤ 160 ∧ (a + l < z → ¬ pw_bl (sm_tape M (a + l)))) → (∀ i, i < l → pw_bl (sm_tape M (a + i))) → sm_at M = nI (a + j) → fx_X12_next_0 n M = fx_X12_next_52 (um_at M (nI (a + l))) := by
  intro d
  induction d with
  | zero =>
    intro j n M hj hn he hd hat
    obtain ⟨n, rfl⟩ : ∃ n', n = n' + 1 := ⟨n - 1, by omega⟩
    obtain rfl : j = l := by omega
    obtain ⟨e1, e3, e4⟩ := he
    have same : um_at M (nI (a + j)) = M := by
      rw [← hat]
      refine Prod.ext (funext fun k => ?_) rfl
      show am_us M.1 6 (sm_at M) k = M.1 k
      by_cases q : k = 6
      · subst q; rfl
      · exact pu_n (fun w => q w)
    rw [same, fx_X12_next_0, e1, hat]
    by_cases c : z ≤ a + j
    · rw [if_pos (nI_le (by omega) (by omega))]
    · have nb := e4 (by omega)
      have n1 : ¬ sm_tape M (a + j) = 32 := fun q => nb (Or.inl q)
      have n2 : ¬ sm_tape M (a + j) = 10 := fun q => nb (Or.inr q)
      have po := pn_out (n := 160) (j := a + j) (by omega) (by decide)
      rw [if_neg (nI_ge (by omega) (by omega)), if_neg po, pz_cl (by omega), if_neg n1]
      rw [pz_cl (by omega)] at po
      rw [if_neg po, if_neg n2]
  | succ d ih =>
    intro j n M hj hn he hd hat
    obtain ⟨n, rfl⟩ : ∃ n', n = n' + 1 := ⟨n - 1, by omega⟩
    obtain ⟨e1, e3, e4⟩ := id he
    have po := pn_out (n := 160) (j := a + j) (by omega) (by decide)
    have a1 : nI (a + j) + (1 : Int32) = nI (a + (j + 1)) := (nI_succ _).symm
    have r := ih (j + 1) n (um_at M (nI (a + (j + 1)))) (by omega) (by omega) he hd rfl
    have uu : um_at (um_at M (nI (a + (j + 1)))) (nI (a + l)) = um_at M (nI (a + l)) := by
      refine Prod.ext (funext fun k => ?_) rfl
      by_cases q : k = 6
      · subst q; rfl
      · exact (pu_n (fun w => q w)).trans ((pu_n (fun w => q w)).trans (pu_n (fun w => q w)).symm)
    rw [uu] at r
    rw [fx_X12_next_0, e1, hat, if_neg (nI_ge (by omega) (by omega)), if_neg po, pz_cl (by omega), a1]
    rcases hd j (by omega) with q | q
    · rw [if_pos q]; exact r
    · rw [pz_cl (by omega)] at po
      rw [if_neg (by rw [q]; decide), if_neg po, if_pos q]; exact r
