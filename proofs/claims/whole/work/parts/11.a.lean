/-! ===== the law's own rules ===== -/
def lw_g (L : Nat) (xs : Nat → Int32) : am_g := (some (L, xs), 0, 0, 0, none, [])
def lw_kn : Nat × Nat := (68, 4359)
theorem lw_nb {X : am_X} {U : State} {L : Nat} {xs : Nat → Int32} {args : Array Value} (h : am_S X (lw_g L xs) args U) : L ≤ 3584 ∧ args = #[.ref (X.2.1 50)] ∧ X.2.1 50 < X.1 ∧ va_X (X.2.1 50) L xs U U.heap := h
section
variable {kn : Nat × Nat} {pc pc' : Nat} {ls : List (Option Value)} {st : List Value} {ws : am_W} {L : Nat} {xs : Nat → Int32}
theorem lw_len (d : decode cL_law pc = .ok (.arraylength, 1)) (hp : pc + 1 = pc') (k : am_G mL_law (lw_g L xs) kn pc' ls (.int (nI L) :: st) ws) : am_G mL_law (lw_g L xs) kn pc ls (.ref 1050 :: st) ws := by
  subst hp
  intro X p l e s m args below meth c E H locs lsA hP hS hk hL
  obtain ⟨h1, h2, h3, h4⟩ := lw_nb E.2.2.2.2.2.2.2.2.2.2.2
  exact va_slen E.1 E.2.1 h4 (Nat.lt_of_lt_of_le h3 E.2.2.2.2.2.2.2.2.2.2.1) (fun q => Nat.lt_irrefl _ (Nat.lt_of_lt_of_le h3 q)) hS d (k X p l e s m args below meth c E H locs lsA hP hS hk hL)
theorem lw_ld {i : Int32} (n : Nat) (hi : i = nI n) (hn : n < L) (hL : L ≤ 3584) (d : decode cL_law pc = .ok (.iaload, 1)) (hp : pc + 1 = pc') (k : am_G mL_law (lw_g L xs) kn pc' ls (.int (xs n) :: st) ws) : am_G mL_law (lw_g L xs) kn pc ls (.int i :: .ref 1050 :: st) ws := by
  subst hp; subst hi
  intro X p l e s m args below meth c E H locs lsA hP hS hk hL'
  obtain ⟨h1, h2, h3, h4⟩ := lw_nb E.2.2.2.2.2.2.2.2.2.2.2
  have hc : (nI n).toNatClampNeg = n := nI_clamp (by omega)
  have k1 := k X p l e s m args below meth c E H locs lsA hP hS hk hL'
  rw [← hc] at k1
  exact va_sld E.1 E.2.1 h4 (Nat.lt_of_lt_of_le h3 E.2.2.2.2.2.2.2.2.2.2.1) (fun q => Nat.lt_irrefl _ (Nat.lt_of_lt_of_le h3 q)) hS (vp_in_nI hn (by omega)) d k1
theorem lw_end (d : decode cL_law pc = .ok (.ireturn, 1)) (hw : ws.length = 68) : am_G mL_law (lw_g L xs) lw_kn pc ls [.int 1] ws := by
  intro X p l e s m args below meth c E H locs lsA hP hS hk hL
  obtain ⟨h1, h2, h3, h4⟩ := lw_nb E.2.2.2.2.2.2.2.2.2.2.2
  subst h2
  have h5 : s.heap.size = X.1 := by have := hk.1; rw [hw] at this; have h6 : lw_kn.1 = 68 := rfl; omega
  refine W.widen (k := 600000) (n := 7302250) (by decide) (by decide) ?_
  refine va_forget (fun q hq => ?_) (lw_ret (b := X.2.1 50) E.1 E.2.1 E.2.2.2.1 E.2.2.2.2.2.2.1 d)
  have h7 : X.1 ≤ q.base := hS.2.2 q hq
  omega
end
theorem lw_ix {n L : Nat} (h : n + 7 ≤ L) (hL : L ≤ 3584) {j : Nat} : nI n + nI j = nI (n + j) := nI_add n j
theorem lw_j1 (n : Nat) : nI n + 1 = nI (n + 1) := nI_add n 1
theorem lw_j2 (n : Nat) : nI n + 2 = nI (n + 2) := nI_add n 2
theorem lw_j3 (n : Nat) : nI n + 3 = nI (n + 3) := nI_add n 3
theorem lw_j4 (n : Nat) : nI n + 4 = nI (n + 4) := nI_add n 4
theorem lw_j5 (n : Nat) : nI n + 5 = nI (n + 5) := nI_add n 5
theorem lw_j6 (n : Nat) : nI n + 6 = nI (n + 6) := nI_add n 6
theorem lw_lcmp (x : Int64) : lg_cmp x x = 0 := by simp [lg_cmp]
theorem lw_more {n L : Nat} (h : n + 7 ≤ L) (hL : L ≤ 3584) : ¬ nI L - 7 < nI n := by
  have e : nI L - 7 = nI (L - 7) := by
    have h1 := nI_add (L - 7) 7
    rw [show L - 7 + 7 = L by omega] at h1
    rw [← h1]
    exact Int32.add_sub_cancel _ _
  rw [e]
  exact nI_nlt (by omega) (by omega)
theorem lw_done {n L : Nat} (h : L < n + 7) (hn : n ≤ 4000) (hL : L ≤ 3584) : nI L - 7 < nI n := by
  by_cases h7 : 7 ≤ L
  · have e : nI L - 7 = nI (L - 7) := by
      have h1 := nI_add (L - 7) 7
      rw [show L - 7 + 7 = L by omega] at h1
      rw [← h1]
      exact Int32.add_sub_cancel _ _
    rw [e]
    exact nI_lt (by omega) (by omega)
  · have h3 : nI L - 7 < 0 := by
      have : L = 0 ∨ L = 1 ∨ L = 2 ∨ L = 3 ∨ L = 4 ∨ L = 5 ∨ L = 6 := by omega
      rcases this with h | h | h | h | h | h | h <;> (subst h; decide)
    exact Int32.lt_of_lt_of_le h3 (nI_pos' (by omega))
theorem lw_R (L : Nat) (xs : Nat → Int32) : am_R (lw_g L xs) = room_1 := rfl
theorem lw_rc (a b : Nat) (h : Nat.ble a 600000 = true) (h2 : Nat.ble b 7302250 = true) (L : Nat) (xs : Nat → Int32) : a ≤ (am_R (lw_g L xs)).cells ∧ b ≤ (am_R (lw_g L xs)).slots := by
  rw [lw_R]
  exact ⟨Nat.le_of_ble_eq_true h, Nat.le_of_ble_eq_true h2⟩
theorem lw_rf (a b : Nat) (h : Nat.ble a 2048 = true) (h2 : Nat.ble b 84000 = true) (L : Nat) (xs : Nat → Int32) : a ≤ (am_R (lw_g L xs)).frames ∧ b ≤ (am_R (lw_g L xs)).locals := by
  rw [lw_R]
  exact ⟨Nat.le_of_ble_eq_true h, Nat.le_of_ble_eq_true h2⟩
theorem lw_call {pc pc' : Nat} {ls : List (Option Value)} {ws w1 : am_W} {L : Nat} {xs : Nat → Int32} {idx n d' q ci : Nat} {fs st0 : List Value} {q0 : vw_C} (rest as : List Value) {M' : am_M} {v : Value} (d : decode cL_law pc = .ok (.invokevirtual idx, 3)) (hs : am_cvt RL idx M' n) (hT : am_T M' d' 0 0 (.ref q :: as) ws (some v) w1) (hn : as.length = n) (hst : as.reverse ++ (.ref q :: rest) = st0) (hc : ws[q]? = some (.inr (.inr (ci, fs)))) (hcl : vwCl[ci]? = some q0) (hqc : q0.1 = M'.1.cls) (hcat : (rest.map fun v => v.category).sum ≤ 8)
    (hf : Nat.ble (d' + 1) 2048 = true) (hl : Nat.ble (8 + (M'.2.2.1 + 11) + 60 * d') 84000 = true) (hp : pc + 3 = pc') (k : am_G mL_law (lw_g L xs) lw_kn pc' ls (v :: rest) w1) : am_G mL_law (lw_g L xs) lw_kn pc ls st0 ws :=
  am_callV (M := mL_law) (kn' := lw_kn) rest as d hs hT hn hst hc hcl hqc hcat ⟨lw_rf _ _ hf hl L xs, lw_rc (lw_kn.1 + 0) (lw_kn.2 + 0) rfl rfl L xs⟩ rfl hp k
