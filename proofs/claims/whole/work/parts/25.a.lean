/-! ===== the reader: a yard over tokens ===== -/
def py_r (s : Nat) : Nat := if s = 0 then 0 else if s = 11 then 1 else if s = 12 then 2 else if s = 13 then 3 else if s ≤ 15 then 4 else if s ≤ 17 then 5 else if s = 18 then 6 else 7
def py_s (s : Nat) : Int32 := if s = 11 then -6 else if s = 12 then -7 else if s = 13 then -8 else if s = 14 then -60 else if s = 15 then -61 else if s = 16 then -43 else if s = 17 then -45 else if s = 18 then -42 else -9
/-- all signs that bind at least so come -/
def py_u (r : Nat) : List Nat → List Int32 → List Nat × List Int32
  | [], o => ([], o)
  | s :: H, o => if r ≤ py_r s then py_u r H (o ++ [py_s s]) else (s :: H, o)
def py_op : List Nat → Nat
  | [] => 0
  | s :: H => py_op H + (if s = 0 ∨ s = 13 ∨ s = 19 then 1 else 0)
def py_sg (t : Int32) : Nat := if t = -6 then 11 else if t = -7 then 12 else if t = -60 then 14 else if t = -61 then 15 else if t = -43 then 16 else if t = -45 then 17 else if t = -42 then 18 else 0
def py_tp : List Nat → Nat
  | [] => 0
  | s :: _ => py_r s
def py_Y (tk : Nat → Int32) : Nat → Nat → Bool → Bool → List Nat → List Int32 → Option (Bool × Nat × List Int32)
  | 0, _, _, _, _, _ => none
  | n + 1, k, true, mn, H, o =>
    if 0 ≤ tk k ∨ fx_X8_isName (tk k) ≠ 0 then py_Y tk n (k + 1) false true (py_u 7 H (o ++ [tk k])).1 (py_u 7 H (o ++ [tk k])).2
    else if tk k = -8 ∧ mn = true then (if py_op H = 5 then some (false, k, []) else py_Y tk n (k + 1) true true (13 :: H) o)
    else if tk k = -45 then (if py_op H = 5 then some (false, k, []) else py_Y tk n (k + 1) true false (19 :: H) o)
    else if tk k = -40 then (if py_op H = 5 then some (false, k, []) else py_Y tk n (k + 1) true true (0 :: H) o)
    else some (false, k, [])
  | n + 1, k, false, _, H, o =>
    if tk k = -59 then (match py_u 1 H o with
      | ([], o') => some (true, k + 1, o')
      | (_ :: _, _) => some (false, k, []))
    else if tk k = -41 then (match py_u 1 H o with
      | ([], _) => some (false, k, [])
      | (_ :: H', o') => py_Y tk n (k + 1) false true (py_u 7 H' o').1 (py_u 7 H' o').2)
    else if py_sg (tk k) = 0 then some (false, k, [])
    else if py_r (py_sg (tk k)) = 4 then (if py_tp (py_u 5 H o).1 = 4 then some (false, k, []) else py_Y tk n (k + 1) true false (py_sg (tk k) :: (py_u 5 H o).1) (py_u 5 H o).2)
    else py_Y tk n (k + 1) true (decide (py_sg (tk k) ≤ 12)) (py_sg (tk k) :: (py_u (py_r (py_sg (tk k))) H o).1) (py_u (py_r (py_sg (tk k))) H o).2
/-- from what rank on the token at hand unwinds -/
def py_w (t : Int32) : Nat := if t = -59 ∨ t = -41 then 1 else if py_sg t = 0 then 0 else if py_r (py_sg t) = 4 then 5 else py_r (py_sg t)
theorem py_uu {r r' : Nat} (h : r' ≤ r) : ∀ (H : List Nat) (o : List Int32), py_u r' (py_u r H o).1 (py_u r H o).2 = py_u r' H o := by
  intro H
  induction H with
  | nil => intro o; rfl
  | cons s H ih =>
    intro o
    have e : ∀ q o, py_u q (s :: H) o = if q ≤ py_r s then py_u q H (o ++ [py_s s]) else (s :: H, o) := fun _ _ => rfl
    rw [e r]
    by_cases c : r ≤ py_r s
    · rw [if_pos c, ih, e r', if_pos (by omega)]
    · rw [if_neg c]
/-- what will be unwound may be unwound now -/
theorem py_abs {tk : Nat → Int32} {n k r : Nat} {H : List Nat} {o : List Int32} (h : py_w (tk k) ≤ r) : py_Y tk n k false true H o = py_Y tk n k false true (py_u r H o).1 (py_u r H o).2 := by
  cases n with
  | zero => rfl
  | succ n =>
    unfold py_w at h
    unfold py_Y
    by_cases c1 : tk k = -59
    · rw [if_pos c1, if_pos c1, py_uu (by rw [if_pos (Or.inl c1)] at h; exact h)]
    · by_cases c2 : tk k = -41
      · rw [if_neg c1, if_pos c2, if_neg c1, if_pos c2, py_uu (by rw [if_pos (Or.inr c2)] at h; exact h)]
      · rw [if_neg (fun q => q.elim c1 c2)] at h
        rw [if_neg c1, if_neg c2, if_neg c1, if_neg c2]
        by_cases c3 : py_sg (tk k) = 0
        · rw [if_pos c3, if_pos c3]
        · rw [if_neg c3] at h
          rw [if_neg c3, if_neg c3]
          by_cases c4 : py_r (py_sg (tk k)) = 4
          · rw [if_pos c4] at h
            rw [if_pos c4, if_pos c4, py_uu h]
          · rw [if_neg c4] at h
            rw [if_neg c4, if_neg c4, py_uu h]
theorem py_un {r : Nat} {H : List Nat} {o : List Int32} (h : py_tp H < r) (hr : 0 < r) : py_u r H o = (H, o) := by
  cases H with
  | nil => rfl
  | cons s H =>
    have e : py_u r (s :: H) o = if r ≤ py_r s then py_u r H (o ++ [py_s s]) else (s :: H, o) := rfl
    rw [e, if_neg (by have : py_tp (s :: H) = py_r s := rfl; omega)]
theorem py_u1 {r s : Nat} {H : List Nat} {o : List Int32} (h : r ≤ py_r s) : py_u r (s :: H) o = py_u r H (o ++ [py_s s]) := if_pos h
/-! the class at a token -/
def pc_C (tk : Nat → Int32) (N t p k : Nat) (o : List Int32) (S : sx_T) : Prop := (k < N ∧ N < 162 ∧ sx_rd_known S = nI N ∧ sx_rd_seen S = nI k ∧ sx_rd_token S = tk k ∧ ∀ i, i < N → sx_rd_tokens S i = tk i) ∧ (t < 6 ∧ sx_tx_count S = nI t ∧ sx_tx_written S = nI (160 * t + o.length) ∧ o.length ≤ k ∧ ∀ i, i < o.length → sx_tx_steps S (160 * t + i) = o.getD i 0) ∧ ∀ j, j < 6 → pb_it (sx_tx_names S) j = false → (-10 - nI j) ∉ o.drop p
def pc_F (t : Nat) (S S' : sx_T) : Prop := px_f [9, 10, 13, 14] [10] S S' ∧ ∀ i, i < 160 * t ∨ 160 * t + 160 ≤ i → sx_tx_steps S' i = sx_tx_steps S i
theorem pc_Fr {t : Nat} {S : sx_T} : pc_F t S S := ⟨px_fr, fun _ _ => rfl⟩
theorem pc_Ft {t : Nat} {S S' S'' : sx_T} (h : pc_F t S S') (h' : pc_F t S' S'') : pc_F t S S'' := ⟨px_ft h.1 h'.1, fun i hi => (h'.2 i hi).trans (h.2 i hi)⟩
/-- the next token -/
theorem pc_adv {tk : Nat → Int32} {N t p k : Nat} {o : List Int32} {S : sx_T} (h : pc_C tk N t p k o S) (hk : k + 1 < N) : pc_C tk N t p (k + 1) o (fx_X4_advance S) ∧ pc_F t S (fx_X4_advance S) := by
  obtain ⟨⟨a1, a2, a3, a4, a5, a6⟩, ⟨b1, b2, b3, b4, b5⟩, c⟩ := h
  have e : fx_X4_advance S = ux_rd_token (ux_rd_seen S (nI (k + 1))) (tk (k + 1)) := by
    unfold fx_X4_advance
    rw [a3, a4, show nI k + 1 = nI (k + 1) from (nI_succ k).symm, if_neg (nI_ge hk (by omega)), pz_rd (by omega) (by decide), a6 (k + 1) hk]
  rw [e]
  exact ⟨⟨⟨hk, a2, a3, rfl, rfl, a6⟩, ⟨b1, b2, b3, by omega, b5⟩, c⟩, ⟨px_fs (j := 13) (S' := ux_rd_seen S (nI (k + 1))) (px_fs (j := 14) (S' := S) px_fr (by decide)) (by decide), fun _ _ => rfl⟩⟩
/-- a step added -/
theorem pc_add {tk : Nat → Int32} {N t p k : Nat} {o : List Int32} {S : sx_T} (h : pc_C tk N t p k o S) (hl : o.length + 1 ≤ k) (hp : p ≤ o.length) (s : Int32) (hs : pt_ok s) : fx_X8_add s S = (1, (fx_X8_add s S).2) ∧ pc_C tk N t p k (o ++ [s]) (fx_X8_add s S).2 ∧ pc_F t S (fx_X8_add s S).2 := by
  obtain ⟨⟨a1, a2, a3, a4, a5, a6⟩, ⟨b1, b2, b3, b4, b5⟩, c⟩ := h
  have hw : fx_X11_within (nI t) 6 = 1 := by
    rcases pn_within (nI t) (n := 6) (by decide) with ⟨-, w⟩ | ⟨_, _, _, w⟩
    · exact absurd rfl (w t b1)
    · exact w
  have hc : nI (160 * t + o.length) < (nI t + 1) * 160 := by
    rw [show nI t + 1 = nI (t + 1) from (nI_succ t).symm, show nI (t + 1) * 160 = nI ((t + 1) * 160) from pk_mul _ 160]
    exact nI_lt (by omega) (by omega)
  have ol : o.length < 160 := by omega
  have st : ∀ i, i < (o ++ [s]).length → upd (sx_tx_steps S) (160 * t + o.length) s (160 * t + i) = (o ++ [s]).getD i 0 := by
    intro i hi
    rw [List.length_append] at hi
    have hi' : i < o.length + 1 := hi
    by_cases q : i = o.length
    · subst q
      rw [pz_us]
      simp
    · rw [pz_un (by omega), b5 i (by omega)]
      simp only [List.getD_eq_getElem?_getD]
      rw [List.getElem?_append_left (by omega)]
  have ln : (o ++ [s]).length = o.length + 1 := by simp
  have dr : (o ++ [s]).drop p = o.drop p ++ [s] := List.drop_append_of_le_length hp
  have wn : nI (160 * t + o.length) + 1 = nI (160 * t + (o ++ [s]).length) := by rw [ln]; exact (nI_succ _).symm
  have up : am_up 960 (sx_tx_steps S) (nI (160 * t + o.length)) s = upd (sx_tx_steps S) (160 * t + o.length) s := pz_up (by omega) (by decide)
  have fr0 : pc_F t S (ux_tx_written (ux_tx_steps S (upd (sx_tx_steps S) (160 * t + o.length) s)) (nI (160 * t + (o ++ [s]).length))) := ⟨px_fs (j := 9) (S' := ux_tx_steps S _) (px_fa (j := 10) (S' := S) px_fr (by decide)) (by decide), fun i hi => pz_un (by omega)⟩
  by_cases nm : fx_X8_isName s = 0
  · have e : fx_X8_add s S = (1, ux_tx_written (ux_tx_steps S (upd (sx_tx_steps S) (160 * t + o.length) s)) (nI (160 * t + (o ++ [s]).length))) := by
      unfold fx_X8_add
      rw [b2, hw, if_neg (by decide), b3, if_pos hc, if_pos nm, up, wn]
    rw [e]
    refine ⟨rfl, ⟨⟨a1, a2, a3, a4, a5, a6⟩, ⟨b1, b2, rfl, by rw [ln]; omega, st⟩, fun j hj hb => ?_⟩, fr0⟩
    rw [dr]
    intro hm
    rcases List.mem_append.mp hm with hm | hm
    · exact c j hj hb hm
    · have : -10 - nI j = s := by simpa using hm
      rw [← this] at nm
      have := (pe_nam j hj).2.1
      rw [show -10 - nI j = -(nI 10) - nI j from rfl, this] at nm
      exact absurd nm (by decide)
  · have hk : ∃ j, j < 6 ∧ s = -(nI 10) - nI j := by
      rcases pe_cases hs with ⟨j, hj, rfl⟩ | h2 | rfl | rfl | hb
      · exfalso
        apply nm
        unfold fx_X8_isName
        rw [if_pos]
        rw [Int32.lt_iff_toInt_lt, nI_toInt (by omega)]
        have : (-10 : Int32).toInt = -10 := by decide
        omega
      · exact h2
      · exact absurd (by decide) nm
      · exact absurd (by decide) nm
      · exact absurd (pe_bin s hb).2.1 nm
    obtain ⟨j0, hj0, rfl⟩ := hk
    have ix : (-10 : Int32) - (-(nI 10) - nI j0) = nI j0 := (pe_nam j0 hj0).2.2.1
    have e : fx_X8_add (-(nI 10) - nI j0) S = (1, ux_tx_names (ux_tx_written (ux_tx_steps S (upd (sx_tx_steps S) (160 * t + o.length) (-(nI 10) - nI j0))) (nI (160 * t + (o ++ [-(nI 10) - nI j0]).length))) (sx_tx_names S ||| ((1 : Int32) <<< (nI j0 &&& 31)))) := by
      unfold fx_X8_add
      rw [b2, hw, if_neg (by decide), b3, if_pos hc, if_neg nm, up, wn, ix]
    rw [e]
    refine ⟨rfl, ⟨⟨a1, a2, a3, a4, a5, a6⟩, ⟨b1, b2, rfl, by rw [ln]; omega, st⟩, fun j hj hb => ?_⟩, ⟨px_fs (j := 10) (S' := ux_tx_written (ux_tx_steps S _) _) fr0.1 (by decide), fr0.2⟩⟩
    have hb' : pb_it (sx_tx_names S ||| ((1 : Int32) <<< (nI j0 &&& 31))) j = false := hb
    rw [pb_set _ (by omega) (by omega), Bool.or_eq_false_iff] at hb'
    rw [dr]
    intro hm
    rcases List.mem_append.mp hm with hm | hm
    · exact c j hj hb'.1 hm
    · have e1 : -(nI 10) - nI j = -(nI 10) - nI j0 := List.mem_singleton.mp hm
      have e2 : nI j = nI j0 := by
        have h1 := (pe_nam j hj).2.2.1
        have h2 := (pe_nam j0 hj0).2.2.1
        rw [e1] at h1
        exact h1.symm.trans h2
      have e3 : j = j0 := (nI_eq (by omega) (by omega)).mp e2
      have := hb'.2
      rw [e3] at this
      simp at this
