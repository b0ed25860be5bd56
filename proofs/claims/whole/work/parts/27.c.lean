/-! ===== the reader: a word's code ===== -/
def pw_cd (w : Nat) : Int32 := ([-3, -4, -5, -10, -11, -12, -13, -14, -15, -6, -7, -8] : List Int32).getD w (-2)
theorem pw_fs {f : Nat → Int32} {a l : Nat} : ∀ d w, (pw_f f a l d w = w + d ∧ ∀ v, w ≤ v → v < w + d → pw_m f a l v = false) ∨ (w ≤ pw_f f a l d w ∧ pw_f f a l d w < w + d ∧ pw_m f a l (pw_f f a l d w) = true) := by
  intro d
  induction d with
  | zero => intro w; exact Or.inl ⟨rfl, fun v h1 h2 => by omega⟩
  | succ d ih =>
    intro w
    have ef : pw_f f a l (d + 1) w = if pw_m f a l w = true then w else pw_f f a l d (w + 1) := rfl
    rw [ef]
    by_cases c : pw_m f a l w = true
    · rw [if_pos c]; exact Or.inr ⟨Nat.le_refl _, by omega, c⟩
    · rw [if_neg c]
      rcases ih (w + 1) with ⟨h1, h2⟩ | ⟨h1, h2, h3⟩
      · refine Or.inl ⟨by omega, fun v hv1 hv2 => ?_⟩
        by_cases q : v = w
        · rw [q]; exact Bool.eq_false_iff.mpr c
        · exact h2 v (by omega) (by omega)
      · exact Or.inr ⟨by omega, by omega, h3⟩
theorem pw_fd {f : Nat → Int32} {a l : Nat} : pw_f f a l 12 0 ≤ 12 ∧ ∀ w, w < 12 → pw_m f a l w = decide (w = pw_f f a l 12 0) := by
  rcases pw_fs (f := f) (a := a) (l := l) 12 0 with ⟨h1, h2⟩ | ⟨h1, h2, h3⟩
  · refine ⟨by omega, fun w hw => ?_⟩
    rw [h2 w (by omega) (by omega)]
    exact (decide_eq_false (by omega)).symm
  · refine ⟨by omega, fun w hw => ?_⟩
    by_cases q : w = pw_f f a l 12 0
    · rw [decide_eq_true q, q]
      exact h3
    · rw [decide_eq_false q]
      exact Bool.eq_false_iff.mpr (fun h => q (pw_un hw (by omega) h h3))
theorem pw_cl {S : sx_T} {a l : Nat} (ha : a + l ≤ 160) (hf : ∀ i, i < l → sx_rd_tape S (a + i) ≠ 32) : fx_X4_word (nI a) (nI (a + l)) S = some (pw_cd (pw_f (sx_rd_tape S) a l 12 0)) := by
  obtain ⟨h12, hm⟩ := pw_fd (f := sx_rd_tape S) (a := a) (l := l)
  have sp : ∀ w, w < 12 → fx_X4_spells (pw_j w) (nI a) (nI (a + l)) S = some (if decide (w = pw_f (sx_rd_tape S) a l 12 0) = true then 1 else 0) := fun w hw => by rw [pw_sp hw ha hf, hm w hw]
  generalize pw_f (sx_rd_tape S) a l 12 0 = w0 at *
  have s1 : fx_X4_spells 1 (nI a) (nI (a + l)) S = _ := sp 0 (by decide)
  have s2 : fx_X4_spells 2 (nI a) (nI (a + l)) S = _ := sp 1 (by decide)
  have s3 : fx_X4_spells 3 (nI a) (nI (a + l)) S = _ := sp 2 (by decide)
  have s4 : fx_X4_spells 4 (nI a) (nI (a + l)) S = _ := sp 9 (by decide)
  have s5 : fx_X4_spells 5 (nI a) (nI (a + l)) S = _ := sp 10 (by decide)
  have s6 : fx_X4_spells 6 (nI a) (nI (a + l)) S = _ := sp 11 (by decide)
  have s7 : fx_X4_spells 7 (nI a) (nI (a + l)) S = _ := sp 3 (by decide)
  have s8 : fx_X4_spells 8 (nI a) (nI (a + l)) S = _ := sp 4 (by decide)
  have s9 : fx_X4_spells 9 (nI a) (nI (a + l)) S = _ := sp 5 (by decide)
  have s10 : fx_X4_spells 10 (nI a) (nI (a + l)) S = _ := sp 6 (by decide)
  have s11 : fx_X4_spells 11 (nI a) (nI (a + l)) S = _ := sp 7 (by decide)
  have s12 : fx_X4_spells 12 (nI a) (nI (a + l)) S = _ := sp 8 (by decide)
  unfold fx_X4_word
  rw [s1, s2, s3, s4, s5, s6, s7, s8, s9, s10, s11, s12]
  clear s1 s2 s3 s4 s5 s6 s7 s8 s9 s10 s11 s12 sp hm hf
  have hall : w0 = 0 ∨ w0 = 1 ∨ w0 = 2 ∨ w0 = 3 ∨ w0 = 4 ∨ w0 = 5 ∨ w0 = 6 ∨ w0 = 7 ∨ w0 = 8 ∨ w0 = 9 ∨ w0 = 10 ∨ w0 = 11 ∨ w0 = 12 := by omega
  rcases hall with rfl | rfl | rfl | rfl | rfl | rfl | rfl | rfl | rfl | rfl | rfl | rfl | rfl <;> rfl
theorem pw_Tm {M : sm_T} {x y c : Int32} (h : pd_al c) (h1 : x = pd_tk c) (h2 : 0 ≤ c → y = c) (h3 : fx_X8_isName c ≠ 0 → y = -10 - c) (h4 : c = -3 ∨ c = -4 ∨ c = -5 → y = -3 - c) : pd_T (um_value (um_token M x) y) c := ⟨h, h1, h2, h3, h4⟩
/-- the reference's token after a word -/
theorem pw_rf {M : sm_T} {a l : Nat} (ha : a + l ≤ 160) (hb : sm_begun M = nI a) (ht : sm_at M = nI (a + l)) : ∃ M', fx_X12_next_146 M = some M' ∧ pm_f [8, 9] [] M M' ∧ pd_T M' (pw_cd (pw_f (sm_tape M) a l 12 0)) := by
  obtain ⟨h12, -⟩ := pw_fd (f := sm_tape M) (a := a) (l := l)
  have e : fx_X12_wordFrom (nI a) (nI (a + l)) M = some (nI (pw_f (sm_tape M) a l 12 0)) := pw_2 ha 12 0 am_fu rfl (by decide)
  unfold fx_X12_next_146
  rw [hb, ht, e, pz_bd]
  generalize pw_f (sm_tape M) a l 12 0 = w0 at *
  have fr : ∀ x y : Int32, pm_f [8, 9] [] M (um_value (um_token M x) y) := fun x y => pm_fs (j := 9) (S' := um_token M x) (pm_fs (j := 8) (S' := M) pm_fr (by decide)) (by decide)
  have hall : w0 = 0 ∨ w0 = 1 ∨ w0 = 2 ∨ w0 = 3 ∨ w0 = 4 ∨ w0 = 5 ∨ w0 = 6 ∨ w0 = 7 ∨ w0 = 8 ∨ w0 = 9 ∨ w0 = 10 ∨ w0 = 11 ∨ w0 = 12 := by omega
  have al : ∀ w, w < 13 → pd_al (pw_cd w) := fun w hw => Or.inr ((by decide : ∀ w, w < 13 → pw_cd w ∈ pd_ls) w hw)
  rcases hall with rfl | rfl | rfl | rfl | rfl | rfl | rfl | rfl | rfl | rfl | rfl | rfl | rfl
  all_goals exact ⟨_, rfl, fr _ _, pw_Tm (al _ (by decide)) (by decide) (by decide) (by decide) (by decide)⟩
