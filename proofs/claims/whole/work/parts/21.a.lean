/-! ===== the pure part: numbers, frames, bits ===== -/
theorem pz_l (n : Nat) : (OfNat.ofNat n : Int32) = nI n := rfl
theorem pz_lt {a b : Nat} (ha : a < 2147483648) (hb : b < 2147483648) : (nI a < nI b) = (a < b) := propext (nI_ltI ha hb)
theorem pz_le {a b : Nat} (ha : a < 2147483648) (hb : b < 2147483648) : (nI a ≤ nI b) = (a ≤ b) := propext (nI_leI ha hb)
theorem pz_eq {a b : Nat} (ha : a < 2147483648) (hb : b < 2147483648) : (nI a = nI b) = (a = b) := propext (nI_eq ha hb)
theorem pz_ltT {a b : Nat} (h : a < b) (hb : b < 2147483648) : (nI a < nI b) = True := eq_true ((nI_ltI (by omega) hb).mpr h)
theorem pz_ltF {a b : Nat} (h : b ≤ a) (ha : a < 2147483648) : (nI a < nI b) = False := eq_false (fun q => by have := (nI_ltI ha (by omega)).mp q; omega)
theorem pz_leT {a b : Nat} (h : a ≤ b) (hb : b < 2147483648) : (nI a ≤ nI b) = True := eq_true ((nI_leI (by omega) hb).mpr h)
theorem pz_leF {a b : Nat} (h : b < a) (ha : a < 2147483648) : (nI a ≤ nI b) = False := eq_false (fun q => by have := (nI_leI ha (by omega)).mp q; omega)
theorem pz_eqT {a b : Nat} (h : a = b) : (nI a = nI b) = True := eq_true (by rw [h])
theorem pz_eqF {a b : Nat} (h : a ≠ b) (ha : a < 2147483648) (hb : b < 2147483648) : (nI a = nI b) = False := eq_false (fun q => h ((nI_eq ha hb).mp q))
theorem pz_nF {a b : Nat} (h : a < b) : (b ≤ a) = False := eq_false (by omega)
theorem pz_nqF {a b : Nat} (h : a ≠ b) : (a = b) = False := eq_false h
theorem pz_sub {a b : Nat} (h : b ≤ a) : nI a - nI b = nI (a - b) := pk_sub h
theorem pz_cl {a : Nat} (ha : a < 2147483648) : (nI a).toNatClampNeg = a := nI_clamp ha
theorem pz_m {a b : Nat} (h : b ≤ a) : nI a + -(nI b) = nI (a - b) := by
  rw [← pk_sub h, Int32.sub_eq_add_neg]
theorem pz_rd {n j : Nat} {f : Nat → Int32} (h : j < n) (hn : n < 2147483648) : am_rd n f (nI j) = f j := pn_rd h hn
theorem pz_up {n j : Nat} {f : Nat → Int32} {v : Int32} (h : j < n) (hn : n < 2147483648) : am_up n f (nI j) v = upd f j v := pn_up h hn
theorem pz_bd {α β : Type} (a : α) (f : α → Option β) : am_bd (some a) f = f a := rfl
theorem pz_let {α β : Type} (a : α) (f : α → β) : am_let a f = f a := rfl
theorem pz_div {a d : Nat} (ha : a < 2147483648) (h0 : 0 < d) (hd : d < 2147483648) : nI a / nI d = nI (a / d) := pk_div ha h0 hd
theorem pz_rem {a d : Nat} (ha : a < 2147483648) (h0 : 0 < d) (hd : d < 2147483648) : nI a - nI a / nI d * nI d = nI (a % d) := pk_rem ha h0 hd
theorem pz_neg1 {a : Nat} (ha : a < 2147483648) : (nI a = -(nI 1)) = False := eq_false (fun h => by
  have h2 := congrArg Int32.toInt h
  rw [nI_toInt ha] at h2
  have : (-(nI 1)).toInt = -1 := by decide
  omega)
theorem pz_us {f : Nat → Int32} {k : Nat} {x : Int32} : upd f k x k = x := pk_us
theorem pz_un {f : Nat → Int32} {k j : Nat} {x : Int32} (h : j ≠ k) : upd f k x j = f j := pk_un h
theorem pz_u {f : Nat → Int32} {k j : Nat} {x : Int32} : upd f k x j = if j = k then x else f j := rfl
/-- a number within bounds -/
abbrev pn_b (k : Nat) (x : Int32) : Prop := ∃ j, j < k ∧ x = nI j
/-- the class's and the reference's test of bounds -/
theorem pn_w (a : Int32) (N m : Nat) (h : N = m + 1) (hn : N < 2147483648) : (fx_X11_within a (nI N) = nI 0 ∧ fx_X12_in a (nI 0) (nI m) = nI 0) ∨ ∃ j, j < N ∧ a = nI j ∧ fx_X11_within a (nI N) = nI 1 ∧ fx_X12_in a (nI 0) (nI m) = nI 1 := by
  subst h
  rcases pn_within a (n := m + 1) hn with ⟨h, _⟩ | ⟨j, hj, h, h2⟩
  · exact Or.inl ⟨h, (pn_in a hn).trans h⟩
  · exact Or.inr ⟨j, hj, h, h2, (pn_in a hn).trans h2⟩
theorem pn_m1lt {j : Nat} (hj : j < 2147483648) : (-1 : Int32) < nI j := by
  rw [Int32.lt_iff_toInt_lt, nI_toInt hj]
  have : (-1 : Int32).toInt = -1 := by decide
  omega
/-- the test of a viewer's number, of texts: below a count -/
theorem pn_v (a : Int32) {n : Nat} (hn : n < 2147483648) : (fx_X11_within a (nI n) = nI 0 ∧ fx_X12_in a (nI 0) (nI n - nI 1) = nI 0) ∨ ∃ j, j < n ∧ a = nI j ∧ fx_X11_within a (nI n) = nI 1 ∧ fx_X12_in a (nI 0) (nI n - nI 1) = nI 1 := by
  cases n with
  | zero =>
    refine Or.inl ⟨?_, ?_⟩
    · rcases pn_within a (n := 0) (by decide) with ⟨h, _⟩ | ⟨j, hj, _⟩
      · exact h
      · exact absurd hj (Nat.not_lt_zero _)
    · show fx_X12_in a 0 (-1) = 0
      unfold fx_X12_in
      by_cases h1 : a < 0
      · rw [if_pos h1]
      · obtain ⟨j, hj, rfl⟩ := nI_of h1
        rw [if_neg h1, if_pos (pn_m1lt hj)]
  | succ m =>
    rw [show nI (m + 1) - nI 1 = nI m from nI_pred m]
    exact pn_w a (m + 1) m rfl hn
theorem pn_10 : ((1 : Int32) = 0) = False := eq_false (by decide)
theorem pn_01 : ((0 : Int32) = 1) = False := eq_false (by decide)
theorem pn_n10 : ((-1 : Int32) = 0) = False := eq_false (by decide)
/-- frames: which cells may have changed -/
def px_f (es ea : List Nat) (S S' : sx_T) : Prop := (∀ k, k ∉ es → S'.1 k = S.1 k) ∧ (∀ k, k ∉ ea → S'.2.1 k = S.2.1 k)
def pm_f (es ea : List Nat) (S S' : sm_T) : Prop := (∀ k, k ∉ es → S'.1 k = S.1 k) ∧ (∀ k, k ∉ ea → S'.2 k = S.2 k)
theorem pu_n {α : Type} {f : Nat → α} {k j : Nat} {v : α} (h : j ≠ k) : am_us f k v j = f j := by
  unfold am_us
  cases e : Nat.beq j k with
  | false => rfl
  | true => exact absurd (Nat.eq_of_beq_eq_true e) h
theorem px_fr {es ea : List Nat} {S : sx_T} : px_f es ea S S := ⟨fun _ _ => rfl, fun _ _ => rfl⟩
theorem px_ft {es ea : List Nat} {S S' S'' : sx_T} (h : px_f es ea S S') (h' : px_f es ea S' S'') : px_f es ea S S'' := ⟨fun k hk => (h'.1 k hk).trans (h.1 k hk), fun k hk => (h'.2 k hk).trans (h.2 k hk)⟩
theorem px_fm {es ea es' ea' : List Nat} {S S' : sx_T} (h : px_f es ea S S') (h1 : ∀ k ∈ es, k ∈ es') (h2 : ∀ k ∈ ea, k ∈ ea') : px_f es' ea' S S' := ⟨fun k hk => h.1 k (fun q => hk (h1 k q)), fun k hk => h.2 k (fun q => hk (h2 k q))⟩
theorem px_fs {es ea : List Nat} {S S' : sx_T} {j : Nat} {v : Int32} (h : px_f es ea S S') (hj : j ∈ es) : px_f es ea S (am_us S'.1 j v, S'.2) := ⟨fun k hk => (pu_n (fun (e : k = j) => hk (by rw [e]; exact hj))).trans (h.1 k hk), h.2⟩
theorem px_fa {es ea : List Nat} {S S' : sx_T} {j : Nat} {v : Nat → Int32} (h : px_f es ea S S') (hj : j ∈ ea) : px_f es ea S (S'.1, am_us S'.2.1 j v, S'.2.2) := ⟨h.1, fun k hk => (pu_n (fun (e : k = j) => hk (by rw [e]; exact hj))).trans (h.2 k hk)⟩
theorem px_fk {es ea : List Nat} {S S' : sx_T} {c : Fin 8} (h : px_f es ea S S') : px_f es ea S (S'.1, S'.2.1, c) := h
theorem pm_fr {es ea : List Nat} {S : sm_T} : pm_f es ea S S := ⟨fun _ _ => rfl, fun _ _ => rfl⟩
theorem pm_ft {es ea : List Nat} {S S' S'' : sm_T} (h : pm_f es ea S S') (h' : pm_f es ea S' S'') : pm_f es ea S S'' := ⟨fun k hk => (h'.1 k hk).trans (h.1 k hk), fun k hk => (h'.2 k hk).trans (h.2 k hk)⟩
theorem pm_fm {es ea es' ea' : List Nat} {S S' : sm_T} (h : pm_f es ea S S') (h1 : ∀ k ∈ es, k ∈ es') (h2 : ∀ k ∈ ea, k ∈ ea') : pm_f es' ea' S S' := ⟨fun k hk => h.1 k (fun q => hk (h1 k q)), fun k hk => h.2 k (fun q => hk (h2 k q))⟩
theorem pm_fs {es ea : List Nat} {S S' : sm_T} {j : Nat} {v : Int32} (h : pm_f es ea S S') (hj : j ∈ es) : pm_f es ea S (am_us S'.1 j v, S'.2) := ⟨fun k hk => (pu_n (fun (e : k = j) => hk (by rw [e]; exact hj))).trans (h.1 k hk), h.2⟩
theorem pm_fa {es ea : List Nat} {S S' : sm_T} {j : Nat} {v : Nat → Int32} (h : pm_f es ea S S') (hj : j ∈ ea) : pm_f es ea S (S'.1, am_us S'.2 j v) := ⟨h.1, fun k hk => (pu_n (fun (e : k = j) => hk (by rw [e]; exact hj))).trans (h.2 k hk)⟩
/-! bits -/
def pb_it (x : Int32) (k : Nat) : Bool := x.toBitVec.getLsbD k
theorem pb_amt : ∀ k, k < 32 → ((nI k &&& 31).toBitVec.smod 32).toNat = k := by decide +kernel
theorem pb_1 (y : Int32) : (y &&& 1 = 0 ∧ y.toBitVec.getLsbD 0 = false) ∨ (y &&& 1 = 1 ∧ y.toBitVec.getLsbD 0 = true) := by
  have h : (y &&& 1).toBitVec = BitVec.setWidth 32 (BitVec.ofBool (y.toBitVec.getLsbD 0)) := by
    rw [Int32.toBitVec_and]
    exact BitVec.and_one_eq_setWidth_ofBool_getLsbD
  cases e : y.toBitVec.getLsbD 0 with
  | false => rw [e] at h; exact Or.inl ⟨Int32.toBitVec_inj.mp (h.trans (by decide)), rfl⟩
  | true => rw [e] at h; exact Or.inr ⟨Int32.toBitVec_inj.mp (h.trans (by decide)), rfl⟩
theorem pb_shr (x : Int32) {k : Nat} (hk : k < 32) : (x >>> (nI k &&& 31)).toBitVec.getLsbD 0 = pb_it x k := by
  unfold pb_it
  rw [Int32.toBitVec_shiftRight, BitVec.sshiftRight_eq', pb_amt k hk, BitVec.getLsbD_sshiftRight]
  simp [hk]
theorem pb_tst (x : Int32) {k : Nat} (hk : k < 32) : ((x >>> (nI k &&& 31)) &&& 1 = 0 ∧ pb_it x k = false) ∨ ((x >>> (nI k &&& 31)) &&& 1 = 1 ∧ pb_it x k = true) := by
  rw [← pb_shr x hk]
  exact pb_1 _
theorem pb_orr (x y : Int32) (k : Nat) : pb_it (x ||| y) k = (pb_it x k || pb_it y k) := by
  unfold pb_it
  rw [Int32.toBitVec_or, BitVec.getLsbD_or]
theorem pb_shl {h : Nat} (hh : h < 32) (k : Nat) (hk : k < 32) : pb_it ((1 : Int32) <<< (nI h &&& 31)) k = decide (k = h) := by
  unfold pb_it
  rw [Int32.toBitVec_shiftLeft, BitVec.shiftLeft_eq', pb_amt h hh, BitVec.getLsbD_shiftLeft]
  have h1 : ((1 : Int32).toBitVec).getLsbD (k - h) = decide (k - h = 0) := by
    rw [show (1 : Int32).toBitVec = 1#32 from rfl, BitVec.getLsbD_one]
    simp
  rw [h1]
  by_cases e : k = h
  · subst e; simp [hk]
  · by_cases e2 : k < h
    · simp [e, e2]
    · simp [e, e2, hk]; omega
theorem pb_set (x : Int32) {h k : Nat} (hh : h < 32) (hk : k < 32) : pb_it (x ||| ((1 : Int32) <<< (nI h &&& 31))) k = (pb_it x k || decide (k = h)) := by
  rw [pb_orr, pb_shl hh k hk]
theorem pb_0 (k : Nat) : pb_it 0 k = false := by
  unfold pb_it
  rw [show (0 : Int32).toBitVec = 0#32 from rfl, BitVec.getLsbD_zero]
