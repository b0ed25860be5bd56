/-! ===== the reader: the next token, of a tape ===== -/
/-- how far a property holds on -/
theorem pk_run (p : Nat → Prop) (z : Nat) : ∀ d a, a + d = z → ∃ e, a ≤ e ∧ e ≤ z ∧ (∀ i, a ≤ i → i < e → p i) ∧ (e < z → ¬ p e) := by
  intro d
  induction d with
  | zero => intro a h; exact ⟨a, Nat.le_refl _, by omega, fun i h1 h2 => by omega, fun q => by omega⟩
  | succ d ih =>
    intro a h
    by_cases c : p a
    · obtain ⟨e, h1, h2, h3, h4⟩ := ih (a + 1) (by omega)
      refine ⟨e, by omega, h2, fun i hi1 hi2 => ?_, h4⟩
      by_cases q : i = a
      · rw [q]; exact c
      · exact h3 i (by omega) hi2
    · exact ⟨a, Nat.le_refl _, by omega, fun i h1 h2 => by omega, fun _ => c⟩
def pk_nx (f : Nat → Int32) (z a : Nat) (x : Int32) (b e : Nat) : Prop := (a ≤ b ∧ b ≤ z ∧ (∀ i, a ≤ i → i < b → pw_bl (f i)) ∧ (b < z → ¬ pw_bl (f b))) ∧ ((b = z ∧ x = -1 ∧ e = z) ∨ (∃ l, 0 < l ∧ e = b + l ∧ e ≤ z ∧ (∀ i, i < l → pw_lt (f (b + i))) ∧ (e < z → fx_X12_in (f e) 97 122 = 0) ∧ x = pw_cd (pw_f f b l 12 0)) ∨ (∃ l, 0 < l ∧ e = b + l ∧ e ≤ z ∧ (∀ i, i < l → pw_dg (f (b + i))) ∧ (e < z → fx_X12_in (f e) 48 57 = 0) ∧ x = if l ≤ 4 then nI (pw_n f b l) else -2) ∨ (b < z ∧ e = b + 1 ∧ fx_X12_in (f b) 97 122 = 0 ∧ fx_X12_in (f b) 48 57 = 0 ∧ x = pw_so (f b)))
theorem pk_dg {x : Int32} (h : fx_X12_in x 48 57 ≠ 0) : pw_dg x := by
  unfold fx_X12_in at h
  by_cases c1 : x < (48 : Int32)
  · rw [if_pos c1] at h; exact absurd rfl h
  · rw [if_neg c1] at h
    by_cases c2 : (57 : Int32) < x
    · rw [if_pos c2] at h; exact absurd rfl h
    · rw [Int32.lt_iff_toInt_lt] at c1 c2
      have e1 : (48 : Int32).toInt = 48 := by decide
      have e2 : (57 : Int32).toInt = 57 := by decide
      refine ⟨x.toInt.toNat - 48, by omega, ?_⟩
      apply Int32.toInt_inj.mp
      rw [nI_toInt (by omega)]
      omega
theorem pk_ex (f : Nat → Int32) (z a : Nat) (ha : a ≤ z) : ∃ x b e, pk_nx f z a x b e := by
  obtain ⟨b, h1, h2, h3, h4⟩ := pk_run (fun i => pw_bl (f i)) z (z - a) a (by omega)
  by_cases hz : b = z
  · exact ⟨-1, b, z, ⟨h1, h2, h3, h4⟩, Or.inl ⟨hz, rfl, rfl⟩⟩
  have hz' : b < z := by omega
  by_cases hl : fx_X12_in (f b) 97 122 = 0
  · by_cases hd : fx_X12_in (f b) 48 57 = 0
    · exact ⟨_, b, b + 1, ⟨h1, h2, h3, h4⟩, Or.inr (Or.inr (Or.inr ⟨hz', rfl, hl, hd, rfl⟩))⟩
    · obtain ⟨e, g1, g2, g3, g4⟩ := pk_run (fun i => ¬ fx_X12_in (f i) 48 57 = 0) z (z - b) b (by omega)
      have be : b < e := by
        refine Nat.lt_of_le_of_ne g1 (fun q => ?_)
        rw [← q] at g4
        exact g4 hz' hd
      refine ⟨_, b, e, ⟨h1, h2, h3, h4⟩, Or.inr (Or.inr (Or.inl ⟨e - b, by omega, by omega, g2, fun i hi => pk_dg (g3 (b + i) (by omega) (by omega)), fun q => Decidable.not_not.mp (g4 q), rfl⟩))⟩
  · obtain ⟨e, g1, g2, g3, g4⟩ := pk_run (fun i => ¬ fx_X12_in (f i) 97 122 = 0) z (z - b) b (by omega)
    have be : b < e := by
      refine Nat.lt_of_le_of_ne g1 (fun q => ?_)
      rw [← q] at g4
      exact g4 hz' hl
    exact ⟨_, b, e, ⟨h1, h2, h3, h4⟩, Or.inr (Or.inl ⟨e - b, by omega, by omega, g2, fun i hi => g3 (b + i) (by omega) (by omega), fun q => Decidable.not_not.mp (g4 q), rfl⟩)⟩
