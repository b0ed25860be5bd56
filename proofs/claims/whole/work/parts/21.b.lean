/-! ===== the relation of the two states ===== -/
/-- the class's step as the reference's code -/
def pt_tr (s : Int32) : Int32 := if 0 ≤ s then 100000 + s else if s = -10 then 0 else if s = -11 then 1 else if s = -12 then 2 else if s = -13 then 3 else if s = -14 then 4 else if s = -15 then 5 else if s = -6 then 11 else if s = -7 then 12 else if s = -8 then 13 else if s = -60 then 14 else if s = -61 then 15 else if s = -43 then 16 else if s = -45 then 17 else if s = -42 then 18 else 19
def pt_ok (s : Int32) : Prop := (∃ j, j < 10000 ∧ s = nI j) ∨ s ∈ ([-6, -7, -8, -9, -10, -11, -12, -13, -14, -15, -60, -61, -43, -45, -42] : List Int32)
/-- how deep the stack is after a step, after a row of steps -/
def pt_dp (s : Int32) (d : Nat) : Option Nat := if 0 ≤ s then some (d + 1) else if fx_X8_isName s = 0 then (if s = -8 ∨ s = -9 then (if 1 ≤ d then some d else none) else (if 2 ≤ d then some (d - 1) else none)) else some (d + 1)
def pt_wf : List Int32 → Nat → Option Nat
  | [], d => some d
  | s :: l, d => match pt_dp s d with
    | none => none
    | some e => pt_wf l e
def pt_off (T : Nat → List Int32) : Nat → Nat
  | 0 => 0
  | p + 1 => pt_off T p + (T p).length
/-- a text, as both hold it -/
abbrev pr_tx1 (T : Nat → List Int32) (t : Nat) (S : sx_T) (M : sm_T) : Prop := pt_off T 3 ≤ 160 ∧ ∀ p, p < 3 → ((∀ s ∈ T p, pt_ok s) ∧ pt_wf (T p) 0 = some 1) ∧ (sx_tx_ends S (3 * t + p) = nI (160 * t + pt_off T (p + 1)) ∧ sm_starts M (4 * t + p) = nI (pt_off T p) ∧ sm_starts M (4 * t + p + 1) = nI (pt_off T (p + 1))) ∧ (∀ k, k < 6 → pb_it (sx_tx_named S (3 * t + p)) k = false → (-10 - nI k) ∉ T p) ∧ ∀ i, i < (T p).length → sx_tx_steps S (160 * t + pt_off T p + i) = (T p).getD i 0 ∧ sm_codes M (200 * t + pt_off T p + i) = pt_tr ((T p).getD i 0)
abbrev pr_tx (T : Nat → Nat → List Int32) (q : Nat) (S : sx_T) (M : sm_T) : Prop := ∀ t, t < q → pr_tx1 (T t) t S M
abbrev pr_nh (S : sx_T) (M : sm_T) : Prop := (pn_b 9 (sx_now_viewers S) ∧ sm_viewers M = sx_now_viewers S) ∧ pn_b 12 (sx_now_hour S) ∧ sm_hour M = sx_now_hour S
abbrev pr_law (T : Nat → Nat → List Int32) (S : sx_T) (M : sm_T) : Prop := ∃ q, q < 7 ∧ sx_tx_count S = nI q ∧ sm_texts M = nI q ∧ (pn_b q (sx_now_law S) ∧ sm_rule M = sx_now_law S) ∧ (¬ sx_imageKept S = 0 → pn_b q (sx_kept_law S)) ∧ pr_tx T q S M
abbrev pr_flat (S : sx_T) (M : sm_T) : Prop := ∀ r, r < 6 → sm_flat M (2 * r) = sx_now_light S r ∧ sm_flat M (2 * r + 1) = sx_now_damp S r
abbrev pr_ones (S : sx_T) (M : sm_T) : Prop := ∀ v, v < 8 → sm_ones M (2 * v) = sx_now_rich S v ∧ sm_ones M (2 * v + 1) = sx_now_quiet S v
abbrev pr_kind (S : sx_T) (M : sm_T) : Prop := ∀ v, v < 8 → (pn_b 6 (sx_kindOf S v) ∧ sm_kind M v = sx_kindOf S v) ∧ pn_b 10 (sx_moreOf S v) ∧ sm_moreOf M v = sx_moreOf S v
abbrev pr_tape (S : sx_T) (M : sm_T) : Prop := ∃ z, z < 161 ∧ sx_rd_size S = nI z ∧ sm_taped M = nI z ∧ ∀ i, i < z → sm_tape M i = sx_rd_tape S i
abbrev pr_img (S : sx_T) (M : sm_T) : Prop := sm_hasImage M = sx_imageKept S ∧ (¬ sx_imageKept S = 0 → (pn_b 9 (sx_kept_viewers S) ∧ sm_imageHeld M 0 = sx_kept_viewers S) ∧ (pn_b 12 (sx_kept_hour S) ∧ sm_imageHeld M 1 = sx_kept_hour S) ∧ sm_imageHeld M 2 = sx_kept_law S ∧ (∀ r, r < 6 → sm_imageRows M (2 * r) = sx_kept_light S r ∧ sm_imageRows M (2 * r + 1) = sx_kept_damp S r) ∧ (∀ v, v < 8 → sm_imageRows M (12 + 2 * v) = sx_kept_rich S v ∧ sm_imageRows M (12 + (2 * v + 1)) = sx_kept_quiet S v))
abbrev pr_sh1 (s : Nat) (S : sx_T) (M : sm_T) : Prop := sm_sheetSort M s = sx_sh_sorts S s ∧ ∃ n, n < 41 ∧ sx_sh_sizes S s = nI n ∧ sm_sheetSize M s = nI n ∧ ∀ i, i < n → sm_cells M (40 * s + i) = sx_sh_cells S (40 * s + i)
abbrev pr_sh (S : sx_T) (M : sm_T) : Prop := ∀ s, s < 4 → pr_sh1 s S M
abbrev px_Q (T : Nat → Nat → List Int32) (S : sx_T) (M : sm_T) : Prop := pr_nh S M ∧ pr_law T S M ∧ pr_flat S M ∧ pr_ones S M ∧ pr_kind S M ∧ pr_tape S M ∧ pr_img S M ∧ pr_sh S M
abbrev px_R (S : sx_T) (M : sm_T) : Prop := ∃ T, px_Q T S M
/-- what is no part of the relation -/
def px_es : List Nat := [1, 9, 10, 12, 13, 14, 15, 16, 17, 18, 19, 20]
def px_ea : List Nat := [13, 15, 16, 20, 21, 22, 23, 24, 25, 26, 27, 28]
def pm_es : List Nat := [6, 7, 8, 9, 10, 11, 12, 13, 14, 15, 16]
def pm_ea : List Nat := [12, 13, 14, 15, 16, 17, 18, 19]
theorem px_Qf {T : Nat → Nat → List Int32} {S S' : sx_T} {M M' : sm_T} (h : px_Q T S M) (hx : px_f px_es px_ea S S') (hm : pm_f pm_es pm_ea M M') : px_Q T S' M' := by
  obtain ⟨x, y⟩ := hx
  obtain ⟨u, w⟩ := hm
  have a2 : sx_now_viewers S' = sx_now_viewers S := x 2 (by decide)
  have a3 : sx_now_hour S' = sx_now_hour S := x 3 (by decide)
  have a4 : sx_now_law S' = sx_now_law S := x 4 (by decide)
  have a0 : sx_imageKept S' = sx_imageKept S := x 0 (by decide)
  have a5 : sx_kept_viewers S' = sx_kept_viewers S := x 5 (by decide)
  have a6 : sx_kept_hour S' = sx_kept_hour S := x 6 (by decide)
  have a7 : sx_kept_law S' = sx_kept_law S := x 7 (by decide)
  have a8 : sx_tx_count S' = sx_tx_count S := x 8 (by decide)
  have a11 : sx_rd_size S' = sx_rd_size S := x 11 (by decide)
  have b0 : sx_now_light S' = sx_now_light S := y 0 (by decide)
  have b1 : sx_now_damp S' = sx_now_damp S := y 1 (by decide)
  have b2 : sx_now_rich S' = sx_now_rich S := y 2 (by decide)
  have b3 : sx_now_quiet S' = sx_now_quiet S := y 3 (by decide)
  have b4 : sx_kept_light S' = sx_kept_light S := y 4 (by decide)
  have b5 : sx_kept_damp S' = sx_kept_damp S := y 5 (by decide)
  have b6 : sx_kept_rich S' = sx_kept_rich S := y 6 (by decide)
  have b7 : sx_kept_quiet S' = sx_kept_quiet S := y 7 (by decide)
  have b8 : sx_kindOf S' = sx_kindOf S := y 8 (by decide)
  have b9 : sx_moreOf S' = sx_moreOf S := y 9 (by decide)
  have b10 : sx_tx_steps S' = sx_tx_steps S := y 10 (by decide)
  have b11 : sx_tx_ends S' = sx_tx_ends S := y 11 (by decide)
  have b12 : sx_tx_named S' = sx_tx_named S := y 12 (by decide)
  have b14 : sx_rd_tape S' = sx_rd_tape S := y 14 (by decide)
  have b17 : sx_sh_cells S' = sx_sh_cells S := y 17 (by decide)
  have b18 : sx_sh_sorts S' = sx_sh_sorts S := y 18 (by decide)
  have b19 : sx_sh_sizes S' = sx_sh_sizes S := y 19 (by decide)
  have c0 : sm_viewers M' = sm_viewers M := u 0 (by decide)
  have c1 : sm_hour M' = sm_hour M := u 1 (by decide)
  have c2 : sm_taped M' = sm_taped M := u 2 (by decide)
  have c3 : sm_texts M' = sm_texts M := u 3 (by decide)
  have c4 : sm_rule M' = sm_rule M := u 4 (by decide)
  have c5 : sm_hasImage M' = sm_hasImage M := u 5 (by decide)
  have d0 : sm_kind M' = sm_kind M := w 0 (by decide)
  have d1 : sm_moreOf M' = sm_moreOf M := w 1 (by decide)
  have d2 : sm_ones M' = sm_ones M := w 2 (by decide)
  have d3 : sm_flat M' = sm_flat M := w 3 (by decide)
  have d4 : sm_tape M' = sm_tape M := w 4 (by decide)
  have d5 : sm_codes M' = sm_codes M := w 5 (by decide)
  have d6 : sm_starts M' = sm_starts M := w 6 (by decide)
  have d7 : sm_imageRows M' = sm_imageRows M := w 7 (by decide)
  have d8 : sm_imageHeld M' = sm_imageHeld M := w 8 (by decide)
  have d9 : sm_sheetSort M' = sm_sheetSort M := w 9 (by decide)
  have d10 : sm_sheetSize M' = sm_sheetSize M := w 10 (by decide)
  have d11 : sm_cells M' = sm_cells M := w 11 (by decide)
  unfold px_Q pr_nh pr_law pr_flat pr_ones pr_kind pr_tape pr_img pr_sh pr_sh1 pr_tx pr_tx1 at h ⊢
  rw [a0, a2, a3, a4, a5, a6, a7, a8, a11, b0, b1, b2, b3, b4, b5, b6, b7, b8, b9, b10, b11, b12, b14, b17, b18, b19, c0, c1, c2, c3, c4, c5, d0, d1, d2, d3, d4, d5, d6, d7, d8, d9, d10, d11]
  exact h
theorem px_Rf {S S' : sx_T} {M M' : sm_T} (h : px_R S M) (hx : px_f px_es px_ea S S') (hm : pm_f pm_es pm_ea M M') : px_R S' M' := h.imp fun _ h => px_Qf h hx hm
