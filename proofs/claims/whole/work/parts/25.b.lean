/-! ===== the reader: the class, level by level ===== -/
theorem pt_wfa : ∀ (a b : List Int32) (d e f : Nat), pt_wf a d = some e → pt_wf b e = some f → pt_wf (a ++ b) d = some f := by
  intro a
  induction a with
  | nil =>
    intro b d e f h1 h2
    obtain rfl := Option.some.inj h1
    exact h2
  | cons s a ih =>
    intro b d e f h1 h2
    show (match pt_dp s d with
      | none => none
      | some e => pt_wf (a ++ b) e) = some f
    have h1' : (match pt_dp s d with
      | none => none
      | some e => pt_wf a e) = some e := h1
    cases hd : pt_dp s d with
    | none => rw [hd] at h1'; cases h1'
    | some d' => rw [hd] at h1'; exact ih b d' e f h1' h2
def pc_ok (new : List Int32) : Prop := (∀ s ∈ new, pt_ok s) ∧ ∀ d, pt_wf new d = some (d + 1)
/-- what is joined to something -/
def pc_ok1 (new : List Int32) : Prop := (∀ s ∈ new, pt_ok s) ∧ ∀ d, pt_wf new (d + 1) = some (d + 1)
theorem pc_ok10 : pc_ok1 [] := ⟨fun s hs => absurd hs List.not_mem_nil, fun d => rfl⟩
theorem pc_okj {a b : List Int32} (ha : pc_ok a) (hb : pc_ok1 b) : pc_ok (a ++ b) := ⟨fun s hs => (List.mem_append.mp hs).elim (ha.1 s) (hb.1 s), fun d => pt_wfa a b d (d + 1) (d + 1) (ha.2 d) (hb.2 d)⟩
theorem pc_okj1 {a b : List Int32} (ha : pc_ok1 a) (hb : pc_ok1 b) : pc_ok1 (a ++ b) := ⟨fun s hs => (List.mem_append.mp hs).elim (ha.1 s) (hb.1 s), fun d => pt_wfa a b (d + 1) (d + 1) (d + 1) (ha.2 d) (hb.2 d)⟩
theorem pc_okb {b : List Int32} {s : Int32} (hb : pc_ok b) (hs : s ∈ ([-6, -7, -60, -61, -43, -45, -42] : List Int32)) : pc_ok1 (b ++ [s]) := by
  obtain ⟨a1, a2, a3, a4, -⟩ := pe_bin s hs
  refine ⟨fun x hx => (List.mem_append.mp hx).elim (hb.1 x) (fun h => ?_), fun d => pt_wfa b [s] (d + 1) (d + 2) (d + 1) (hb.2 (d + 1)) ?_⟩
  · have : x = s := List.mem_singleton.mp h
    subst this
    refine Or.inr ?_
    have : ∀ y ∈ ([-6, -7, -60, -61, -43, -45, -42] : List Int32), y ∈ ([-6, -7, -8, -9, -10, -11, -12, -13, -14, -15, -60, -61, -43, -45, -42] : List Int32) := by decide
    exact this x hs
  · show (match pt_dp s (d + 2) with
      | none => none
      | some e => some e) = some (d + 1)
    unfold pt_dp
    rw [if_neg a1, if_pos a2, if_neg (fun q => q.elim a3 a4), if_pos (by omega)]
    rfl
theorem pc_oku {b : List Int32} {s : Int32} (hb : pc_ok b) (hs : s = -8 ∨ s = -9) : pc_ok (b ++ [s]) := by
  refine ⟨fun x hx => (List.mem_append.mp hx).elim (hb.1 x) (fun h => ?_), fun d => pt_wfa b [s] d (d + 1) (d + 1) (hb.2 d) ?_⟩
  · have : x = s := List.mem_singleton.mp h
    subst this
    rcases hs with rfl | rfl
    · exact Or.inr (by decide)
    · exact Or.inr (by decide)
  · show (match pt_dp s (d + 1) with
      | none => none
      | some e => some e) = some (d + 1)
    unfold pt_dp
    rcases hs with rfl | rfl
    · rw [if_neg (by decide), if_pos (by decide), if_pos (Or.inl rfl), if_pos (by omega)]
    · rw [if_neg (by decide), if_pos (by decide), if_pos (Or.inr rfl), if_pos (by omega)]
def pc_e6 (t : Int32) : Prop := t ≠ -42
def pc_e5 (t : Int32) : Prop := t ≠ -42 ∧ t ≠ -43 ∧ t ≠ -45
def pc_e3 (t : Int32) : Prop := pc_e5 t ∧ t ≠ -60 ∧ t ≠ -61
def pc_e2 (t : Int32) : Prop := pc_e3 t ∧ t ≠ -7
def pc_e1 (t : Int32) : Prop := pc_e2 t ∧ t ≠ -6
theorem py_sgo (t : Int32) : py_sg t = 0 ∨ (t = -6 ∧ py_sg t = 11) ∨ (t = -7 ∧ py_sg t = 12) ∨ (t = -60 ∧ py_sg t = 14) ∨ (t = -61 ∧ py_sg t = 15) ∨ (t = -43 ∧ py_sg t = 16) ∨ (t = -45 ∧ py_sg t = 17) ∨ (t = -42 ∧ py_sg t = 18) := by
  unfold py_sg
  by_cases c1 : t = -6
  · rw [if_pos c1]; exact Or.inr (Or.inl ⟨c1, rfl⟩)
  by_cases c2 : t = -7
  · rw [if_neg c1, if_pos c2]; exact Or.inr (Or.inr (Or.inl ⟨c2, rfl⟩))
  by_cases c3 : t = -60
  · rw [if_neg c1, if_neg c2, if_pos c3]; exact Or.inr (Or.inr (Or.inr (Or.inl ⟨c3, rfl⟩)))
  by_cases c4 : t = -61
  · rw [if_neg c1, if_neg c2, if_neg c3, if_pos c4]; exact Or.inr (Or.inr (Or.inr (Or.inr (Or.inl ⟨c4, rfl⟩))))
  by_cases c5 : t = -43
  · rw [if_neg c1, if_neg c2, if_neg c3, if_neg c4, if_pos c5]; exact Or.inr (Or.inr (Or.inr (Or.inr (Or.inr (Or.inl ⟨c5, rfl⟩)))))
  by_cases c6 : t = -45
  · rw [if_neg c1, if_neg c2, if_neg c3, if_neg c4, if_neg c5, if_pos c6]; exact Or.inr (Or.inr (Or.inr (Or.inr (Or.inr (Or.inr (Or.inl ⟨c6, rfl⟩))))))
  by_cases c7 : t = -42
  · rw [if_neg c1, if_neg c2, if_neg c3, if_neg c4, if_neg c5, if_neg c6, if_pos c7]; exact Or.inr (Or.inr (Or.inr (Or.inr (Or.inr (Or.inr (Or.inr ⟨c7, rfl⟩))))))
  · rw [if_neg c1, if_neg c2, if_neg c3, if_neg c4, if_neg c5, if_neg c6, if_neg c7]; exact Or.inl rfl
theorem py_w6 (t : Int32) : py_w t ≤ 6 := by
  unfold py_w
  split
  · decide
  · rcases py_sgo t with h | ⟨-, h⟩ | ⟨-, h⟩ | ⟨-, h⟩ | ⟨-, h⟩ | ⟨-, h⟩ | ⟨-, h⟩ | ⟨-, h⟩ <;> rw [h] <;> decide
theorem py_w5 {t : Int32} (h : pc_e6 t) : py_w t ≤ 5 := by
  unfold py_w
  split
  · decide
  · rcases py_sgo t with h | ⟨-, h⟩ | ⟨-, h⟩ | ⟨-, h⟩ | ⟨-, h⟩ | ⟨-, h⟩ | ⟨-, h⟩ | ⟨q, -⟩
    all_goals first | exact absurd q h | (rw [h]; decide)
theorem py_w2 {t : Int32} (h : pc_e3 t) : py_w t ≤ 2 := by
  obtain ⟨⟨h1, h2, h3⟩, h4, h5⟩ := h
  unfold py_w
  split
  · decide
  · rcases py_sgo t with h | ⟨-, h⟩ | ⟨-, h⟩ | ⟨q, -⟩ | ⟨q, -⟩ | ⟨q, -⟩ | ⟨q, -⟩ | ⟨q, -⟩
    · rw [h]; decide
    · rw [h]; decide
    · rw [h]; decide
    · exact absurd q h4
    · exact absurd q h5
    · exact absurd q h2
    · exact absurd q h3
    · exact absurd q h1
theorem py_w1 {t : Int32} (h : pc_e2 t) : py_w t ≤ 1 := by
  obtain ⟨⟨⟨h1, h2, h3⟩, h4, h5⟩, h6⟩ := h
  unfold py_w
  split
  · decide
  · rcases py_sgo t with h | ⟨-, h⟩ | ⟨q, -⟩ | ⟨q, -⟩ | ⟨q, -⟩ | ⟨q, -⟩ | ⟨q, -⟩ | ⟨q, -⟩
    · rw [h]; decide
    · rw [h]; decide
    · exact absurd q h6
    · exact absurd q h4
    · exact absurd q h5
    · exact absurd q h2
    · exact absurd q h3
    · exact absurd q h1
theorem py_YF (tk : Nat → Int32) (n k : Nat) (mn : Bool) (H : List Nat) (o : List Int32) : py_Y tk (n + 1) k false mn H o =
    if tk k = -59 then (match py_u 1 H o with
      | ([], o') => some (true, k + 1, o')
      | (_ :: _, _) => some (false, k, []))
    else if tk k = -41 then (match py_u 1 H o with
      | ([], _) => some (false, k, [])
      | (_ :: H', o') => py_Y tk n (k + 1) false true (py_u 7 H' o').1 (py_u 7 H' o').2)
    else if py_sg (tk k) = 0 then some (false, k, [])
    else if py_r (py_sg (tk k)) = 4 then (if py_tp (py_u 5 H o).1 = 4 then some (false, k, []) else py_Y tk n (k + 1) true false (py_sg (tk k) :: (py_u 5 H o).1) (py_u 5 H o).2)
    else py_Y tk n (k + 1) true (decide (py_sg (tk k) ≤ 12)) (py_sg (tk k) :: (py_u (py_r (py_sg (tk k))) H o).1) (py_u (py_r (py_sg (tk k))) H o).2 := rfl
theorem py_YT (tk : Nat → Int32) (n k : Nat) (mn : Bool) (H : List Nat) (o : List Int32) : py_Y tk (n + 1) k true mn H o =
    if 0 ≤ tk k ∨ fx_X8_isName (tk k) ≠ 0 then py_Y tk n (k + 1) false true (py_u 7 H (o ++ [tk k])).1 (py_u 7 H (o ++ [tk k])).2
    else if tk k = -8 ∧ mn = true then (if py_op H = 5 then some (false, k, []) else py_Y tk n (k + 1) true true (13 :: H) o)
    else if tk k = -45 then (if py_op H = 5 then some (false, k, []) else py_Y tk n (k + 1) true false (19 :: H) o)
    else if tk k = -40 then (if py_op H = 5 then some (false, k, []) else py_Y tk n (k + 1) true true (0 :: H) o)
    else some (false, k, []) := rfl
/-- the yard at a sign between two that need not unwind -/
theorem py_sgn {tk : Nat → Int32} {n k s : Nat} {H : List Nat} {o : List Int32} (h1 : py_sg (tk k) = s) (h0 : s ≠ 0) (h4 : py_r s ≠ 4) (h : py_tp H < py_r s) : py_Y tk (n + 1) k false true H o = py_Y tk n (k + 1) true (decide (s ≤ 12)) (s :: H) o := by
  have c1 : tk k ≠ -59 := fun q => by rw [q] at h1; exact h0 (h1.symm.trans (by decide))
  have c2 : tk k ≠ -41 := fun q => by rw [q] at h1; exact h0 (h1.symm.trans (by decide))
  have hu : py_u (py_r s) H o = (H, o) := py_un h (by omega)
  rw [py_YF, if_neg c1, if_neg c2, h1, if_neg h0, if_neg h4, hu]
