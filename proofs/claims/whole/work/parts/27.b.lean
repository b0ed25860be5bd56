/-! ===== the reader: the class's words ===== -/
def pw_j (w : Nat) : Nat := if w < 3 then w + 1 else if w < 9 then w + 4 else w - 5
theorem pw_j13 : ∀ w, w < 12 → pw_j w < 13 := by decide
theorem pw_tab : ∀ w, w < 12 → am_len.getD (pw_j w) 0 ≤ 8 ∧ ∀ i, i < 8 → (i < am_len.getD (pw_j w) 0 → am_words (8 * w + i) = am_ch (pw_j w) (nI i) ∧ am_words (8 * w + i) ≠ 32) ∧ (am_len.getD (pw_j w) 0 ≤ i → am_words (8 * w + i) = 32) := by decide +kernel
theorem pw_ci {f : Nat → Int32} {a l w : Nat} : ∀ d j, pw_c f a l w d j = true ↔ ∀ i, j ≤ i → i < j + d → am_words (8 * w + i) = if l ≤ i then 32 else f (a + i) := by
  intro d
  induction d with
  | zero => intro j; exact ⟨fun _ i h1 h2 => by omega, fun _ => rfl⟩
  | succ d ih =>
    intro j
    have ec : pw_c f a l w (d + 1) j = (pw_x f a l w j && pw_c f a l w d (j + 1)) := rfl
    rw [ec, Bool.and_eq_true, ih]
    constructor
    · intro h i h1 h2
      by_cases q : i = j
      · rw [q]; exact of_decide_eq_true h.1
      · exact h.2 i (by omega) (by omega)
    · intro h
      exact ⟨decide_eq_true (h j (Nat.le_refl _) (by omega)), fun i h1 h2 => h i (by omega) (by omega)⟩
theorem pw_15 {S : sx_T} {a w : Nat} (hw : w < 12) (ha : a + am_len.getD (pw_j w) 0 ≤ 160) : ∀ d j n, j + d = am_len.getD (pw_j w) 0 → d < n → ((∀ i, j ≤ i → i < j + d → sx_rd_tape S (a + i) = am_ch (pw_j w) (nI i)) → fx_X4_spells_15 S n (pw_j w) (nI a) (nI j) = some 1) ∧ (¬ (∀ i, j ≤ i → i < j + d → sx_rd_tape S (a + i) = am_ch (pw_j w) (nI i)) → fx_X4_spells_15 S n (pw_j w) (nI a) (nI j) = some 0) := by
  have h8 := (pw_tab w hw).1
  have h13 : ¬ 13 ≤ pw_j w := by have := pw_j13 w hw; omega
  intro d
  induction d with
  | zero =>
    intro j n hj hn
    obtain ⟨n, rfl⟩ : ∃ n', n = n' + 1 := ⟨n - 1, by omega⟩
    refine ⟨fun _ => ?_, fun h => absurd (fun i h1 h2 => by omega) h⟩
    rw [fx_X4_spells_15, if_neg h13, if_pos (nI_le (by omega) (by omega))]
  | succ d ih =>
    intro j n hj hn
    obtain ⟨n, rfl⟩ : ∃ n', n = n' + 1 := ⟨n - 1, by omega⟩
    obtain ⟨i1, i2⟩ := ih (j + 1) n (by omega) (by omega)
    have e : fx_X4_spells_15 S (n + 1) (pw_j w) (nI a) (nI j) = if sx_rd_tape S (a + j) = am_ch (pw_j w) (nI j) then fx_X4_spells_15 S n (pw_j w) (nI a) (nI (j + 1)) else some 0 := by
      have e0 : ¬ nI j < (0 : Int32) := nI_nlt (b := 0) (by omega) (by omega)
      rw [fx_X4_spells_15, if_neg h13, if_neg (nI_ge (by omega) (by omega)), if_neg h13, if_neg e0, if_neg (nI_ge (by omega) (by omega)), nI_add, pz_rd (by omega) (by decide), show nI j + (1 : Int32) = nI (j + 1) from (nI_succ j).symm]
    rw [e]
    by_cases c : sx_rd_tape S (a + j) = am_ch (pw_j w) (nI j)
    · rw [if_pos c]
      refine ⟨fun h => i1 (fun i h1 h2 => h i (by omega) (by omega)), fun h => i2 (fun q => h (fun i h1 h2 => ?_))⟩
      by_cases q2 : i = j
      · rw [q2]; exact c
      · exact q i (by omega) (by omega)
    · rw [if_neg c]
      exact ⟨fun h => absurd (h j (Nat.le_refl _) (by omega)) c, fun _ => rfl⟩
theorem pw_sp {S : sx_T} {a l w : Nat} (hw : w < 12) (ha : a + l ≤ 160) (hf : ∀ i, i < l → sx_rd_tape S (a + i) ≠ 32) : fx_X4_spells (pw_j w) (nI a) (nI (a + l)) S = some (if pw_m (sx_rd_tape S) a l w = true then 1 else 0) := by
  obtain ⟨h8, ht⟩ := pw_tab w hw
  have h13 : ¬ 13 ≤ pw_j w := by have := pw_j13 w hw; omega
  have df : nI (a + l) - nI a = nI l := by rw [pz_sub (by omega), Nat.add_sub_cancel_left]
  unfold fx_X4_spells
  rw [if_neg h13, df]
  by_cases cl : l = am_len.getD (pw_j w) 0
  · rw [if_pos (by rw [cl])]
    obtain ⟨i1, i2⟩ := pw_15 (S := S) (a := a) hw (by omega) (am_len.getD (pw_j w) 0) 0 am_fu (Nat.zero_add _) (by have : am_fu = 1000000 := rfl; omega)
    have key : pw_m (sx_rd_tape S) a l w = true ↔ ∀ i, 0 ≤ i → i < 0 + am_len.getD (pw_j w) 0 → sx_rd_tape S (a + i) = am_ch (pw_j w) (nI i) := by
      unfold pw_m
      rw [decide_eq_true (by omega), Bool.true_and, pw_ci]
      constructor
      · intro h i h1 h2
        have q := h i h1 (by omega)
        rw [if_neg (by omega)] at q
        exact q.symm.trans (((ht i (by omega)).1 (by omega)).1)
      · intro h i h1 h2
        by_cases c : l ≤ i
        · rw [if_pos c]; exact (ht i (by omega)).2 (by omega)
        · rw [if_neg c, h i h1 (by omega)]; exact ((ht i (by omega)).1 (by omega)).1
    by_cases c : pw_m (sx_rd_tape S) a l w = true
    · rw [if_pos c]; exact i1 (key.mp c)
    · rw [if_neg c]; exact i2 (fun q => c (key.mpr q))
  · rw [if_neg (fun q => cl ((nI_eq (by omega) (by omega)).mp q)), if_neg]
    intro h
    unfold pw_m at h
    rw [Bool.and_eq_true, pw_ci] at h
    have l8 : l ≤ 8 := of_decide_eq_true h.1
    by_cases c : l < am_len.getD (pw_j w) 0
    · have q := h.2 l (by omega) (by omega)
      rw [if_pos (Nat.le_refl _)] at q
      exact ((ht l (by omega)).1 c).2 q
    · have q := h.2 (am_len.getD (pw_j w) 0) (by omega) (by omega)
      rw [if_neg (by omega), (ht _ (by omega)).2 (Nat.le_refl _)] at q
      exact hf _ (by omega) q.symm
theorem pw_dst : ∀ w, w < 12 → ∀ w', w' < 12 → (∀ i, i < 8 → am_words (8 * w + i) = am_words (8 * w' + i)) → w = w' := by decide +kernel
theorem pw_un {f : Nat → Int32} {a l w w' : Nat} (hw : w < 12) (hw' : w' < 12) (h : pw_m f a l w = true) (h' : pw_m f a l w' = true) : w = w' := by
  unfold pw_m at h h'
  rw [Bool.and_eq_true, pw_ci] at h h'
  exact pw_dst w hw w' hw' (fun i hi => (h.2 i (by omega) (by omega)).trans (h'.2 i (by omega) (by omega)).symm)
