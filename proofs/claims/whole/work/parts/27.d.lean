/-! ===== the reader: numbers ===== -/
def pw_n (f : Nat → Int32) (a : Nat) : Nat → Nat
  | 0 => 0
  | k + 1 => 10 * pw_n f a k + ((f (a + k)).toNatClampNeg - 48)
def pw_dg (x : Int32) : Prop := ∃ d, d < 10 ∧ x = nI (48 + d)
theorem pw_st {v : Nat} {x : Int32} (hx : pw_dg x) : ((10 : Int32) * nI v + x) - 48 = nI (10 * v + (x.toNatClampNeg - 48)) ∧ x.toNatClampNeg - 48 < 10 := by
  obtain ⟨d, hd, rfl⟩ := hx
  rw [pz_cl (by omega), show (10 : Int32) * nI v = nI (10 * v) from pk_mul 10 v, nI_add, show ((48 : Int32)) = nI 48 from rfl, pz_sub (by omega)]
  refine ⟨?_, by omega⟩
  congr 1
  omega
theorem pw_nb {f : Nat → Int32} {a : Nat} : ∀ k, (∀ i, i < k → pw_dg (f (a + i))) → pw_n f a k < 10 ^ k := by
  intro k
  induction k with
  | zero => intro _; exact Nat.one_pos
  | succ k ih =>
    intro h
    have h1 := ih (fun i hi => h i (by omega))
    have h2 := (pw_st (v := 0) (h k (by omega))).2
    have e : pw_n f a (k + 1) = 10 * pw_n f a k + ((f (a + k)).toNatClampNeg - 48) := rfl
    rw [e, Nat.pow_succ]
    omega
theorem pw_n15 {S : sx_T} {a l : Nat} (ha : a + l ≤ 160) (hd : ∀ i, i < l → pw_dg (sx_rd_tape S (a + i))) : ∀ d j n, j + d = l → d < n → fx_X4_number_15 S n (nI (a + l)) (nI (pw_n (sx_rd_tape S) a j)) (nI (a + j)) = some (nI (pw_n (sx_rd_tape S) a l)) := by
  intro d
  induction d with
  | zero =>
    intro j n hj hn
    obtain ⟨n, rfl⟩ : ∃ n', n = n' + 1 := ⟨n - 1, by omega⟩
    obtain rfl : j = l := by omega
    rw [fx_X4_number_15, if_pos (nI_le (by omega) (by omega))]
  | succ d ih =>
    intro j n hj hn
    obtain ⟨n, rfl⟩ : ∃ n', n = n' + 1 := ⟨n - 1, by omega⟩
    rw [fx_X4_number_15, if_neg (nI_ge (by omega) (by omega)), pz_rd (by omega) (by decide), (pw_st (hd j (by omega))).1, show nI (a + j) + (1 : Int32) = nI (a + (j + 1)) from (nI_succ _).symm]
    exact ih (j + 1) n (by omega) (by omega)
theorem pw_nm {S : sx_T} {a l : Nat} (ha : a + l ≤ 160) (hd : ∀ i, i < l → pw_dg (sx_rd_tape S (a + i))) : fx_X4_number (nI a) (nI (a + l)) S = some (if l ≤ 4 then nI (pw_n (sx_rd_tape S) a l) else -2) := by
  unfold fx_X4_number
  have df : nI (a + l) - nI a = nI l := by rw [pz_sub (by omega), Nat.add_sub_cancel_left]
  rw [df]
  by_cases c : l ≤ 4
  · have c' : nI l ≤ (4 : Int32) := nI_le (b := 4) c (by decide)
    rw [if_pos c', if_pos c]
    exact pw_n15 ha hd l 0 am_fu (Nat.zero_add _) (by have : am_fu = 1000000 := rfl; omega)
  · have c' : ¬ nI l ≤ (4 : Int32) := nI_ge (a := 4) (by omega) (by omega)
    rw [if_neg c', if_neg c]
