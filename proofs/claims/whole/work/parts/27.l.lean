/-! ===== the reader: the reference's next token ===== -/
theorem pk_M {M : sm_T} {z a b e : Nat} {x : Int32} (hz : z ≤ 160) (ht : sm_taped M = nI z) (hat : sm_at M = nI a) (h : pk_nx (sm_tape M) z a x b e) : ∃ M', fx_X12_next M = some M' ∧ pm_f [6, 7, 8, 9] [] M M' ∧ sm_at M' = nI e ∧ sm_begun M' = nI b ∧ pd_T M' x := by
  obtain ⟨⟨h1, h2, h3, h4⟩, hc⟩ := h
  obtain ⟨k, rfl⟩ : ∃ k, b = a + k := ⟨b - a, by omega⟩
  have n := pw_nx (a := a) (l := k) (z := z) h2 k 0 am_fu M (Nat.zero_add _) (by have : am_fu = 1000000 := rfl; omega) ⟨ht, hz, h4⟩ (fun i hi => h3 (a + i) (by omega) (by omega)) hat
  have fr : pm_f [6, 7, 8, 9] [] M (um_at M (nI (a + k))) := pm_fs (j := 6) (S' := M) pm_fr (by decide)
  have fin : (∃ M', fx_X12_next_52 (um_at M (nI (a + k))) = some M' ∧ pm_f [6, 7, 8, 9] [] (um_at M (nI (a + k))) M' ∧ sm_at M' = nI e ∧ sm_begun M' = nI (a + k) ∧ pd_T M' x) → ∃ M', fx_X12_next M = some M' ∧ pm_f [6, 7, 8, 9] [] M M' ∧ sm_at M' = nI e ∧ sm_begun M' = nI (a + k) ∧ pd_T M' x := by
    intro q
    obtain ⟨M', q1, q2, q3⟩ := q
    exact ⟨M', n.trans q1, pm_ft fr q2, q3⟩
  apply fin
  rcases hc with ⟨c1, c2, c3⟩ | ⟨l, l1, l2, l3, l4, l5, l6⟩ | ⟨l, l1, l2, l3, l4, l5, l6⟩ | ⟨c1, c2, c3, c4, c5⟩
  · subst c2
    subst c3
    have r := pw_52e (M := um_at M (nI (a + k))) (z := e) (by rw [← c1]; rfl) ht
    rw [c1]
    rw [c1] at r
    exact r
  · subst l6
    subst l2
    exact pw_52w (M := um_at M (nI (a + k))) (z := z) l1 l3 rfl ⟨ht, l3, hz, l5⟩ l4
  · subst l6
    subst l2
    exact pw_52n (M := um_at M (nI (a + k))) (z := z) l1 l3 rfl ⟨ht, l3, hz, l5⟩ l4
  · subst c5
    subst c2
    exact pw_52s (M := um_at M (nI (a + k))) (z := z) c1 hz rfl ht c3 c4
