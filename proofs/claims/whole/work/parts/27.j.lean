/-! ===== the reader: the reference at a word, at a number ===== -/
theorem pw_fr0 {M : sm_T} {a : Nat} : pm_f [6, 7, 8, 9] [] M (um_value (um_token (um_begun M (nI a)) 0) 0) := pm_fs (j := 9) (S' := um_token (um_begun M _) _) (pm_fs (j := 8) (S' := um_begun M _) (pm_fs (j := 7) (S' := M) pm_fr (by decide)) (by decide)) (by decide)
theorem pw_52w {M : sm_T} {a l z : Nat} (hl : 0 < l) (ha : a + l ≤ z) (hat : sm_at M = nI a) (he : pw_ew M z (a + l)) (hd : ∀ i, i < l → pw_lt (sm_tape M (a + i))) : ∃ M', fx_X12_next_52 M = some M' ∧ pm_f [6, 7, 8, 9] [] M M' ∧ sm_at M' = nI (a + l) ∧ sm_begun M' = nI a ∧ pd_T M' (pw_cd (pw_f (sm_tape M) a l 12 0)) := by
  obtain ⟨e1, e2, e3, e4⟩ := id he
  have po := pn_out (n := 160) (j := a) (by omega) (by decide)
  have na : ¬ nI a = nI z := fun q => absurd ((nI_eq (by omega) (by omega)).mp q) (by omega)
  have h0 : ¬ fx_X12_in (sm_tape M a) 97 122 = 0 := hd 0 hl
  obtain ⟨M', r1, r2, r3, r4⟩ := pw_103 ha l 0 am_fu (um_value (um_token (um_begun M (nI a)) 0) 0) (Nat.zero_add _) (by have : am_fu = 1000000 := rfl; omega) he hd hat rfl
  refine ⟨M', ?_, pm_ft pw_fr0 (pm_fm r2 (by decide) (by decide)), r3, (r2.1 7 (by decide)), r4⟩
  unfold fx_X12_next_52
  rw [hat, e1, if_neg na, if_neg po, pz_cl (by omega), if_neg h0]
  exact r1
theorem pw_52n {M : sm_T} {a l z : Nat} (hl : 0 < l) (ha : a + l ≤ z) (hat : sm_at M = nI a) (he : pw_en M z (a + l)) (hd : ∀ i, i < l → pw_dg (sm_tape M (a + i))) : ∃ M', fx_X12_next_52 M = some M' ∧ pm_f [6, 7, 8, 9] [] M M' ∧ sm_at M' = nI (a + l) ∧ sm_begun M' = nI a ∧ pd_T M' (if l ≤ 4 then nI (pw_n (sm_tape M) a l) else -2) := by
  obtain ⟨e1, e2, e3, e4⟩ := id he
  have po := pn_out (n := 160) (j := a) (by omega) (by decide)
  have na : ¬ nI a = nI z := fun q => absurd ((nI_eq (by omega) (by omega)).mp q) (by omega)
  have d0 : pw_dg (sm_tape M a) := hd 0 hl
  have h0 : fx_X12_in (sm_tape M a) 97 122 = 0 := by
    obtain ⟨d, hd1, hd2⟩ := d0
    rw [hd2]
    exact (by decide : ∀ d, d < 10 → fx_X12_in (nI (48 + d)) 97 122 = 0) d hd1
  have h1 : ¬ fx_X12_in (sm_tape M a) 48 57 = 0 := by rw [pw_di d0]; decide
  obtain ⟨M', r1, r2, r3, r4, r5⟩ := pw_230 ha l 0 am_fu (um_value (um_token (um_begun M (nI a)) 0) 0) (Nat.zero_add _) (by have : am_fu = 1000000 := rfl; omega) he hd hat (fun _ => rfl)
  refine ⟨M', ?_, pm_ft pw_fr0 (pm_fm r2 (by decide) (by decide)), r3, (r2.1 7 (by decide)), ?_⟩
  · unfold fx_X12_next_52
    rw [hat, e1, if_neg na, if_neg po, pz_cl (by omega), if_pos h0, if_neg h1]
    exact r1
  · by_cases c : l ≤ 4
    · obtain ⟨t1, t2⟩ := r4 c
      rw [if_pos c]
      have nb := pw_nb (f := sm_tape M) (a := a) l hd
      have n4 : pw_n (sm_tape M) a l < 10000 := Nat.lt_of_lt_of_le nb (Nat.pow_le_pow_right (by decide) c : 10 ^ l ≤ 10 ^ 4)
      have n0 := pd_n0 n4
      refine ⟨Or.inl ⟨_, n4, rfl⟩, t1.trans (pd_k0 n0).symm, fun _ => t2, fun q => absurd ?_ q, fun q => ?_⟩
      · unfold fx_X8_isName
        rw [if_pos]
        rw [Int32.lt_iff_toInt_lt, nI_toInt (by omega)]
        have : (-10 : Int32).toInt = -10 := by decide
        omega
      · rcases q with q | q | q
        · exact absurd q (pd_nn n0 (by decide))
        · exact absurd q (pd_nn n0 (by decide))
        · exact absurd q (pd_nn n0 (by decide))
    · rw [if_neg c]
      exact ⟨Or.inr (by decide), (r5 c).trans (by decide), fun q => absurd q (by decide), fun q => absurd (by decide) q, fun q => absurd q (by decide)⟩
