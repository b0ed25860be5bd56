/-! ===== the reader: the next token, of a tape ===== -/
/-- how far a property holds on -/
theorem pk_run (p : Nat → Prop) (z : Nat) : ∀ d a, a + d = z → ∃ e, a ≤ e ∧ e ≤ z ∧ (∀ i, a ≤ i → i < e → p i) ∧ (e < z → ¬ p e) := by
  intro d
  induction d with
  | zero => intro a h; exact ⟨a, Nat.le_refl _, by omega, fun i h1 h2 => by omega, fun q => by omega⟩
  | succ d ih =>
    intro a h
    by_cases c : p a
    · obtain ⟨e, h1, h2, h3, h4⟩ := ih (a + 1) (by omega)
      refine ⟨e, by omega, h2, fun i hi1 hi2 => ?_, h4⟩
      by_cases q : i = a
      · rw [q]; exact c
      · exact h3 i (by omega) hi2
    · exact ⟨a, Nat.le_refl _, by omega, fun i h1 h2 => by omega, fun _ => c⟩
def pk_nx (f : Nat → Int32) (z a : Nat) (x : Int32) (b e : Nat) : Prop := (a ≤ b ∧ b ≤ z ∧ (∀ i, a ≤ i → i < b → pw_bl (f i)) ∧ (b < z → ¬ pw_bl (f b))) ∧ ((b = z ∧ x = -1 ∧ e = z) ∨ (∃ l, 0 < l ∧ e = b + l ∧ e ≤ z ∧ (∀ i, i < l → pw_lt (f (b + i))) ∧ (e < z → fx_X12_in (f e) 97 122 = 0) ∧ x = pw_cd (pw_f f b l 12 0)) ∨ (∃ l, 0 < l ∧ e = b + l ∧ e ≤ z ∧ (∀ i, i < l → pw_dg (f (b + i))) ∧ (e < z → fx_X12_in (f e) 48 57 = 0) ∧ x = if l ≤ 4 then nI (pw_n f b l) else -2) ∨ (b < z ∧ e = b + 1 ∧ fx_X12_in (f b) 97 122 = 0 ∧ fx_X12_in (f b) 48 57 = 0 ∧ x = pw_so (f b)))
theorem pk_dg {x : Int32} (hb : ∃ c, c < 256 ∧ x = nI c) (h : fx_X12_in x 48 57 ≠ 0) : pw_dg x := by
  obtain ⟨c, hc, rfl⟩ := hb
  have := (by decide +kernel : ∀ c, c < 256 → fx_X12_in (nI c) 48 57 ≠ 0 → 48 ≤ c ∧ c < 58) c hc h
  exact ⟨c - 48, by omega, by congr 1; omega⟩
