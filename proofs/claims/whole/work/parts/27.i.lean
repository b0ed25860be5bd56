/-! ===== the reader: the reference at a sign, at the end ===== -/
def pw_si (x : Int32) : Bool := decide (x ∈ ([40, 41, 59, 43, 45, 42, 60, 61] : List Int32))
def pw_so (x : Int32) : Int32 := if pw_si x = true then -x else -2
theorem pw_52e {M : sm_T} {z : Nat} (hat : sm_at M = nI z) (ht : sm_taped M = nI z) : ∃ M', fx_X12_next_52 M = some M' ∧ pm_f [6, 7, 8, 9] [] M M' ∧ sm_at M' = nI z ∧ sm_begun M' = nI z ∧ pd_T M' (-1) := by
  refine ⟨um_value (um_token (um_begun M (nI z)) 0) 0, ?_, pm_fs (j := 9) (S' := um_token (um_begun M _) _) (pm_fs (j := 8) (S' := um_begun M _) (pm_fs (j := 7) (S' := M) pm_fr (by decide)) (by decide)) (by decide), hat, rfl, Or.inr (by decide), rfl, fun q => absurd q (by decide), fun q => absurd (by decide) q, fun q => absurd q (by decide)⟩
  unfold fx_X12_next_52
  rw [hat, ht, if_pos rfl]
theorem pw_52s {M : sm_T} {a z : Nat} (ha : a < z) (hz : z ≤ 160) (hat : sm_at M = nI a) (ht : sm_taped M = nI z) (hl : fx_X12_in (sm_tape M a) 97 122 = 0) (hd : fx_X12_in (sm_tape M a) 48 57 = 0) : ∃ M', fx_X12_next_52 M = some M' ∧ pm_f [6, 7, 8, 9] [] M M' ∧ sm_at M' = nI (a + 1) ∧ sm_begun M' = nI a ∧ pd_T M' (pw_so (sm_tape M a)) := by
  have po := pn_out (n := 160) (j := a) (by omega) (by decide)
  have na : ¬ nI a = nI z := fun q => absurd ((nI_eq (by omega) (by omega)).mp q) (by omega)
  have a1 : nI a + (1 : Int32) = nI (a + 1) := (nI_succ a).symm
  have fr : ∀ x : Int32, pm_f [6, 7, 8, 9] [] M (um_at (um_token (um_value (um_token (um_begun M (nI a)) 0) 0) x) (nI (a + 1))) := fun x => pm_fs (j := 6) (S' := um_token (um_value (um_token (um_begun M _) _) _) _) (pm_fs (j := 8) (S' := um_value (um_token (um_begun M _) _) _) (pm_fs (j := 9) (S' := um_token (um_begun M _) _) (pm_fs (j := 8) (S' := um_begun M _) (pm_fs (j := 7) (S' := M) pm_fr (by decide)) (by decide)) (by decide)) (by decide)) (by decide)
  have key : ∀ x : Int32, ∀ c : Int32, pd_al c → x = pd_tk c → ¬ 0 ≤ c → fx_X8_isName c = 0 → ¬ (c = -3 ∨ c = -4 ∨ c = -5) → pd_T (um_at (um_token (um_value (um_token (um_begun M (nI a)) 0) 0) x) (nI (a + 1))) c := fun x c h1 h2 h3 h4 h5 => ⟨h1, h2, fun q => absurd q h3, fun q => absurd h4 q, fun q => absurd q h5⟩
  unfold fx_X12_next_52
  rw [hat, ht, if_neg na, if_neg po, pz_cl (by omega), if_pos hl, if_pos hd]
  generalize sm_tape M a = x at *
  have yes : ∀ y ∈ ([40, 41, 59, 43, 45, 42, 60, 61] : List Int32), ∃ M', fx_X12_next_374 y (um_value (um_token (um_begun M (nI a)) 0) 0) = some M' ∧ pm_f [6, 7, 8, 9] [] M M' ∧ sm_at M' = nI (a + 1) ∧ sm_begun M' = nI a ∧ pd_T M' (pw_so y) := by
    intro y hy
    have e : fx_X12_next_374 y (um_value (um_token (um_begun M (nI a)) 0) 0) = some (um_at (um_token (um_value (um_token (um_begun M (nI a)) 0) 0) y) (nI (a + 1))) := by
      unfold fx_X12_next_374 fx_X12_next_379
      rw [if_neg (by decide), ← a1, ← hat]
      rfl
    obtain ⟨k1, k2, k3, k4, k5⟩ := (by decide : ∀ y ∈ ([40, 41, 59, 43, 45, 42, 60, 61] : List Int32), pw_so y ∈ pd_ls ∧ y = pd_tk (pw_so y) ∧ ¬ 0 ≤ pw_so y ∧ fx_X8_isName (pw_so y) = 0 ∧ ¬ (pw_so y = -3 ∨ pw_so y = -4 ∨ pw_so y = -5)) y hy
    exact ⟨_, e, fr y, rfl, rfl, key y _ (Or.inr k1) k2 k3 k4 k5⟩
  by_cases c1 : x = 40
  · rw [if_pos c1]; exact yes x (by rw [c1]; decide)
  by_cases c2 : x = 41
  · rw [if_neg c1, if_pos c2]; exact yes x (by rw [c2]; decide)
  by_cases c3 : x = 59
  · rw [if_neg c1, if_neg c2, if_pos c3]; exact yes x (by rw [c3]; decide)
  by_cases c4 : x = 43
  · rw [if_neg c1, if_neg c2, if_neg c3, if_pos c4]; exact yes x (by rw [c4]; decide)
  by_cases c5 : x = 45
  · rw [if_neg c1, if_neg c2, if_neg c3, if_neg c4, if_pos c5]; exact yes x (by rw [c5]; decide)
  by_cases c6 : x = 42
  · rw [if_neg c1, if_neg c2, if_neg c3, if_neg c4, if_neg c5, if_pos c6]; exact yes x (by rw [c6]; decide)
  by_cases c7 : x = 60
  · rw [if_neg c1, if_neg c2, if_neg c3, if_neg c4, if_neg c5, if_neg c6, if_pos c7]; exact yes x (by rw [c7]; decide)
  by_cases c8 : x = 61
  · rw [if_neg c1, if_neg c2, if_neg c3, if_neg c4, if_neg c5, if_neg c6, if_neg c7, if_pos c8]; exact yes x (by rw [c8]; decide)
  rw [if_neg c1, if_neg c2, if_neg c3, if_neg c4, if_neg c5, if_neg c6, if_neg c7, if_neg c8]
  have ns : pw_so x = -2 := if_neg (fun q => by
    have q := of_decide_eq_true q
    simp only [List.mem_cons, List.not_mem_nil, or_false] at q
    rcases q with q | q | q | q | q | q | q | q
    · exact c1 q
    · exact c2 q
    · exact c3 q
    · exact c4 q
    · exact c5 q
    · exact c6 q
    · exact c7 q
    · exact c8 q)
  rw [ns]
  have e : fx_X12_next_379 x 0 (um_value (um_token (um_begun M (nI a)) 0) 0) = some (um_at (um_token (um_value (um_token (um_begun M (nI a)) 0) 0) (-1)) (nI (a + 1))) := by
    unfold fx_X12_next_379
    rw [if_pos rfl, ← a1, ← hat]
    rfl
  exact ⟨_, e, fr _, rfl, rfl, key _ _ (Or.inr (by decide)) (by decide) (by decide) (by decide) (by decide)⟩
