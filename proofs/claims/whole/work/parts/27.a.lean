/-! ===== the reader: words ===== -/
def pw_x (f : Nat → Int32) (a l w i : Nat) : Bool := decide (am_words (8 * w + i) = if l ≤ i then 32 else f (a + i))
def pw_c (f : Nat → Int32) (a l w : Nat) : Nat → Nat → Bool
  | 0, _ => true
  | d + 1, j => pw_x f a l w j && pw_c f a l w d (j + 1)
/-- the word w stands there -/
def pw_m (f : Nat → Int32) (a l w : Nat) : Bool := decide (l ≤ 8) && pw_c f a l w 8 0
theorem pw_0 {S : sm_T} {k2 : Int32 → Int32 → Int32 → Option Int32} {n a l w j : Nat} (hj : j ≤ 8) : fx_X12_wordFrom_26 S k2 (n + 1) (nI a) (nI l) (nI w) 0 (nI j) = k2 (nI a) (nI l) (nI w + 1) := by
  rw [fx_X12_wordFrom_26]
  by_cases c : (8 : Int32) ≤ nI j
  · rw [if_pos c, if_pos rfl]
  · rw [if_neg c, if_pos rfl, if_pos rfl]
theorem pw_26 {S : sm_T} {k2 : Int32 → Int32 → Int32 → Option Int32} {a l w : Nat} (hw : w < 12) (ha : a + l ≤ 160) : ∀ d j n, j + d = 8 → d < n → fx_X12_wordFrom_26 S k2 n (nI a) (nI (a + l)) (nI w) 1 (nI j) = if pw_c (sm_tape S) a l w d j = true then some (nI w) else k2 (nI a) (nI (a + l)) (nI w + 1) := by
  intro d
  induction d with
  | zero =>
    intro j n hj hn
    obtain ⟨n, rfl⟩ : ∃ n', n = n' + 1 := ⟨n - 1, by omega⟩
    obtain rfl : j = 8 := by omega
    rw [fx_X12_wordFrom_26, if_pos (show (8 : Int32) ≤ nI 8 by decide), if_neg (by decide)]
    exact (if_pos rfl).symm
  | succ d ih =>
    intro j n hj hn
    obtain ⟨n, rfl⟩ : ∃ n', n = n' + 1 := ⟨n - 1, by omega⟩
    obtain ⟨n, rfl⟩ : ∃ n', n = n' + 1 := ⟨n - 1, by omega⟩
    have e8 : ¬ (8 : Int32) ≤ nI j := nI_ge (b := 8) (by omega) (by decide)
    have ix : (8 : Int32) * nI w + nI j = nI (8 * w + j) := by rw [show (8 : Int32) * nI w = nI (8 * w) from pk_mul 8 w, nI_add]
    have iy : nI a + nI j = nI (a + j) := nI_add ..
    have i1 : nI j + (1 : Int32) = nI (j + 1) := (nI_succ j).symm
    have ec : pw_c (sm_tape S) a l w (d + 1) j = (pw_x (sm_tape S) a l w j && pw_c (sm_tape S) a l w d (j + 1)) := rfl
    rw [fx_X12_wordFrom_26, if_neg e8, if_neg (show ¬ (1 : Int32) = 0 by decide), ix, if_neg (pn_out (n := 96) (by omega) (by decide)), iy, i1, pz_cl (by omega), ec]
    have fin : ∀ x : Int32, x = (if l ≤ j then 32 else sm_tape S (a + j)) → (if am_words (8 * w + j) = x then fx_X12_wordFrom_26 S k2 (n + 1) (nI a) (nI (a + l)) (nI w) 1 (nI (j + 1)) else fx_X12_wordFrom_26 S k2 (n + 1) (nI a) (nI (a + l)) (nI w) 0 (nI (j + 1))) = if (pw_x (sm_tape S) a l w j && pw_c (sm_tape S) a l w d (j + 1)) = true then some (nI w) else k2 (nI a) (nI (a + l)) (nI w + 1) := by
      intro x hx
      subst hx
      by_cases c : am_words (8 * w + j) = if l ≤ j then 32 else sm_tape S (a + j)
      · have px : pw_x (sm_tape S) a l w j = true := decide_eq_true c
        rw [if_pos c, px, Bool.true_and, ih (j + 1) (n + 1) (by omega) (by omega)]
      · have px : pw_x (sm_tape S) a l w j = false := decide_eq_false c
        rw [if_neg c, px, Bool.false_and, if_neg (by decide), pw_0 (by omega)]
    by_cases cl : l ≤ j
    · rw [if_pos (nI_le (by omega) (by omega))]
      exact fin 32 (by rw [if_pos cl])
    · rw [if_neg (nI_ge (by omega) (by omega)), if_neg (pn_out (by omega) (by decide)), pz_cl (by omega)]
      exact fin _ (by rw [if_neg cl])
/-- the first word that stands there -/
def pw_f (f : Nat → Int32) (a l : Nat) : Nat → Nat → Nat
  | 0, w => w
  | d + 1, w => if pw_m f a l w = true then w else pw_f f a l d (w + 1)
theorem pw_2 {S : sm_T} {a l : Nat} (ha : a + l ≤ 160) : ∀ d w n, w + d = 12 → d < n → fx_X12_wordFrom_2 S n (nI a) (nI (a + l)) (nI w) = some (nI (pw_f (sm_tape S) a l d w)) := by
  intro d
  induction d with
  | zero =>
    intro w n hw hn
    obtain ⟨n, rfl⟩ : ∃ n', n = n' + 1 := ⟨n - 1, by omega⟩
    obtain rfl : w = 12 := by omega
    rw [fx_X12_wordFrom_2, if_pos (by decide)]
    rfl
  | succ d ih =>
    intro w n hw hn
    obtain ⟨n, rfl⟩ : ∃ n', n = n' + 1 := ⟨n - 1, by omega⟩
    have e12 : ¬ (12 : Int32) ≤ nI w := nI_ge (b := 12) (by omega) (by decide)
    have nx := ih (w + 1) n (by omega) (by omega)
    have i1 : nI w + (1 : Int32) = nI (w + 1) := (nI_succ w).symm
    have df : nI (a + l) - nI a = nI l := by rw [pz_sub (by omega), Nat.add_sub_cancel_left]
    have ef : pw_f (sm_tape S) a l (d + 1) w = if pw_m (sm_tape S) a l w = true then w else pw_f (sm_tape S) a l d (w + 1) := rfl
    rw [fx_X12_wordFrom_2, if_neg e12, df, ef]
    have f8 : 8 < am_fu := by decide
    by_cases cl : l ≤ 8
    · have l8 : ¬ (8 : Int32) < nI l := fun q => absurd ((nI_ltI (a := 8) (by decide) (by omega)).mp q) (by omega)
      rw [if_neg l8]
      have h := pw_26 (S := S) (k2 := fun a0 a1 a2 => fx_X12_wordFrom_2 S n a0 a1 a2) (by omega : w < 12) ha 8 0 am_fu rfl f8
      have pm : pw_m (sm_tape S) a l w = pw_c (sm_tape S) a l w 8 0 := by unfold pw_m; rw [decide_eq_true cl, Bool.true_and]
      rw [pm]
      refine Eq.trans h ?_
      by_cases c : pw_c (sm_tape S) a l w 8 0 = true
      · rw [if_pos c, if_pos c]
      · rw [if_neg c, if_neg c, i1]
        exact nx
    · have l8 : (8 : Int32) < nI l := nI_lt (a := 8) (by omega) (by omega)
      rw [if_pos l8]
      have pm : pw_m (sm_tape S) a l w = false := by unfold pw_m; rw [decide_eq_false cl, Bool.false_and]
      rw [pm, if_neg (by decide)]
      have h := pw_0 (S := S) (k2 := fun a0 a1 a2 => fx_X12_wordFrom_2 S n a0 a1 a2) (n := 999999) (a := a) (l := a + l) (w := w) (j := 0) (by omega)
      refine Eq.trans h ?_
      rw [i1]
      exact nx
