/-! ===== the reader: all tokens of a tape ===== -/
theorem pk_cm {f g : Nat → Int32} {a l : Nat} (h : ∀ i, i < l → g (a + i) = f (a + i)) (w : Nat) : ∀ d j, pw_c g a l w d j = pw_c f a l w d j := by
  intro d
  induction d with
  | zero => intro j; rfl
  | succ d ih =>
    intro j
    have e : ∀ f : Nat → Int32, pw_c f a l w (d + 1) j = (pw_x f a l w j && pw_c f a l w d (j + 1)) := fun _ => rfl
    rw [e, e, ih]
    have q : pw_x g a l w j = pw_x f a l w j := by
      unfold pw_x
      by_cases c : l ≤ j
      · simp only [if_pos c]
      · simp only [if_neg c, h j (by omega)]
    rw [q]
theorem pk_cf {f g : Nat → Int32} {a l : Nat} (h : ∀ i, i < l → g (a + i) = f (a + i)) : ∀ d w, pw_f g a l d w = pw_f f a l d w := by
  intro d
  induction d with
  | zero => intro w; rfl
  | succ d ih =>
    intro w
    have e : ∀ f : Nat → Int32, pw_f f a l (d + 1) w = if pw_m f a l w = true then w else pw_f f a l d (w + 1) := fun _ => rfl
    have q : pw_m g a l w = pw_m f a l w := by unfold pw_m; rw [pk_cm h]
    rw [e, e, ih, q]
theorem pk_cn {f g : Nat → Int32} {a : Nat} : ∀ l, (∀ i, i < l → g (a + i) = f (a + i)) → pw_n g a l = pw_n f a l := by
  intro l
  induction l with
  | zero => intro _; rfl
  | succ l ih =>
    intro h
    have e : ∀ f : Nat → Int32, pw_n f a (l + 1) = 10 * pw_n f a l + ((f (a + l)).toNatClampNeg - 48) := fun _ => rfl
    rw [e, e, ih (fun i hi => h i (by omega)), h l (by omega)]
/-- the next token hangs on the tape's own places alone -/
theorem pk_cg {f g : Nat → Int32} {z a b e : Nat} {x : Int32} (h : pk_nx f z a x b e) (hg : ∀ i, i < z → g i = f i) : pk_nx g z a x b e := by
  obtain ⟨⟨h1, h2, h3, h4⟩, hc⟩ := h
  refine ⟨⟨h1, h2, fun i i1 i2 => by rw [hg i (by omega)]; exact h3 i i1 i2, fun q => by rw [hg b q]; exact h4 q⟩, ?_⟩
  rcases hc with c | ⟨l, l1, l2, l3, l4, l5, l6⟩ | ⟨l, l1, l2, l3, l4, l5, l6⟩ | ⟨c1, c2, c3, c4, c5⟩
  · exact Or.inl c
  · exact Or.inr (Or.inl ⟨l, l1, l2, l3, fun i hi => by rw [hg _ (by omega)]; exact l4 i hi, fun q => by rw [hg _ q]; exact l5 q, by rw [pk_cf (f := f) (fun i hi => hg _ (by omega))]; exact l6⟩)
  · exact Or.inr (Or.inr (Or.inl ⟨l, l1, l2, l3, fun i hi => by rw [hg _ (by omega)]; exact l4 i hi, fun q => by rw [hg _ q]; exact l5 q, by rw [pk_cn (f := f) l (fun i hi => hg _ (by omega))]; exact l6⟩))
  · exact Or.inr (Or.inr (Or.inr ⟨c1, c2, by rw [hg b c1]; exact c3, by rw [hg b c1]; exact c4, by rw [hg b c1]; exact c5⟩))
theorem pk_cd : ∀ w, w < 13 → pw_cd w ∈ pd_ls ∧ pw_cd w ≠ -1 := by decide
/-- what a next token is -/
theorem pk_al {f : Nat → Int32} {z a b e : Nat} {x : Int32} (h : pk_nx f z a x b e) : pd_al x ∧ (x = -1 ↔ b = z) ∧ (b < z → b < e) ∧ e ≤ z ∧ b ≤ e := by
  obtain ⟨⟨h1, h2, h3, h4⟩, hc⟩ := h
  rcases hc with ⟨c1, c2, c3⟩ | ⟨l, l1, l2, l3, l4, l5, l6⟩ | ⟨l, l1, l2, l3, l4, l5, l6⟩ | ⟨c1, c2, c3, c4, c5⟩
  · subst c2
    exact ⟨Or.inr (by decide), ⟨fun _ => c1, fun _ => rfl⟩, fun q => by omega, by omega, by omega⟩
  · obtain ⟨k1, k2⟩ := pk_cd (pw_f f b l 12 0) (by have := (pw_fd (f := f) (a := b) (l := l)).1; omega)
    rw [← l6] at k1 k2
    exact ⟨Or.inr k1, ⟨fun q => absurd q k2, fun q => by omega⟩, fun _ => by omega, l3, by omega⟩
  · by_cases c : l ≤ 4
    · rw [if_pos c] at l6
      have nb := pw_nb (f := f) (a := b) l l4
      have n4 : pw_n f b l < 10000 := Nat.lt_of_lt_of_le nb (Nat.pow_le_pow_right (by decide) c : 10 ^ l ≤ 10 ^ 4)
      refine ⟨Or.inl ⟨_, n4, l6⟩, ⟨fun q => ?_, fun q => by omega⟩, fun _ => by omega, l3, by omega⟩
      rw [l6] at q
      exact absurd q (pd_nn (pd_n0 n4) (by decide))
    · rw [if_neg c] at l6
      exact ⟨Or.inr (by rw [l6]; decide), ⟨fun q => by rw [l6] at q; exact absurd q (by decide), fun q => by omega⟩, fun _ => by omega, l3, by omega⟩
  · have k : x ∈ pd_ls ∧ x ≠ -1 := by
      rw [c5]
      unfold pw_so
      by_cases c : pw_si (f b) = true
      · rw [if_pos c]
        exact (by decide : ∀ y ∈ ([40, 41, 59, 43, 45, 42, 60, 61] : List Int32), -y ∈ pd_ls ∧ -y ≠ -1) _ (of_decide_eq_true c)
      · rw [if_neg c]; decide
    exact ⟨Or.inr k.1, ⟨fun q => absurd q k.2, fun q => by omega⟩, fun _ => by omega, by omega, by omega⟩
/-- all the tokens from a place on -/
def pk_L (f : Nat → Int32) (z a : Nat) (ps pl : Nat → Nat) (tk : Nat → Int32) (N : Nat) : Prop := ps 0 = a ∧ 1 ≤ N ∧ N + a ≤ z + 1 ∧ (∀ k, pd_al (tk k)) ∧ ∀ k, k < N → pk_nx f z (ps k) (tk k) (pl k) (ps (k + 1)) ∧ (pl k = z ↔ k + 1 = N)
theorem pk_Lx (f : Nat → Int32) (z : Nat) : ∀ d a, a + d = z → ∃ ps pl tk N, pk_L f z a ps pl tk N := by
  intro d
  induction d using Nat.strongRecOn with
  | ind d ih =>
    intro a hd
    obtain ⟨x, b, e, h⟩ := pk_ex f z a (by omega)
    obtain ⟨k1, k2, k3, k4, k5⟩ := pk_al h
    have ab : a ≤ b ∧ b ≤ z := ⟨h.1.1, h.1.2.1⟩
    by_cases c : b = z
    · refine ⟨fun k => if k = 0 then a else e, fun _ => b, fun _ => x, 1, rfl, Nat.le_refl _, by omega, fun _ => k1, fun k hk => ?_⟩
      obtain rfl : k = 0 := by omega
      exact ⟨h, ⟨fun _ => rfl, fun _ => c⟩⟩
    · have be := k3 (by omega)
      obtain ⟨ps, pl, tk, N, g1, g2, g3, g4, g5⟩ := ih (z - e) (by omega) e (by omega)
      refine ⟨fun k => match k with | 0 => a | k + 1 => ps k, fun k => match k with | 0 => b | k + 1 => pl k, fun k => match k with | 0 => x | k + 1 => tk k, N + 1, rfl, by omega, by omega, fun k => ?_, fun k hk => ?_⟩
      · cases k with
        | zero => exact k1
        | succ k => exact g4 k
      · cases k with
        | zero =>
          refine ⟨?_, ⟨fun q => absurd q c, fun q => by omega⟩⟩
          show pk_nx f z a x b (ps 0)
          rw [g1]; exact h
        | succ k =>
          obtain ⟨q1, q2⟩ := g5 k (by omega)
          exact ⟨q1, ⟨fun q => by have := q2.mp q; omega, fun q => q2.mpr (by omega)⟩⟩
/-! the class notes them all -/
def pk_K (tk : Nat → Int32) (pl : Nat → Nat) (k : Nat) (S : sx_T) : Prop := sx_rd_known S = nI k ∧ ∀ i, i < k → sx_rd_tokens S i = tk i ∧ sx_rd_places S i = nI (pl i)
theorem pk_note {tk : Nat → Int32} {pl : Nat → Nat} {k : Nat} {S : sx_T} (hk : k < 161) (h : pk_K tk pl k S) : pk_K tk pl (k + 1) (fx_X4_note (tk k) (nI (pl k)) S) ∧ px_f [12] [15, 16] S (fx_X4_note (tk k) (nI (pl k)) S) := by
  obtain ⟨a, b⟩ := h
  have e : fx_X4_note (tk k) (nI (pl k)) S = ux_rd_known (ux_rd_places (ux_rd_tokens S (upd (sx_rd_tokens S) k (tk k))) (upd (sx_rd_places S) k (nI (pl k)))) (nI (k + 1)) := by
    unfold fx_X4_note
    rw [a, pz_up hk (by decide), pz_up hk (by decide), show nI k + (1 : Int32) = nI (k + 1) from (nI_succ k).symm]
  rw [e]
  refine ⟨⟨rfl, fun i hi => ?_⟩, px_fs (j := 12) (S' := ux_rd_places (ux_rd_tokens S _) _) (px_fa (j := 16) (S' := ux_rd_tokens S _) (px_fa (j := 15) (S' := S) px_fr (by decide)) (by decide)) (by decide)⟩
  show upd (sx_rd_tokens S) k (tk k) i = tk i ∧ upd (sx_rd_places S) k (nI (pl k)) i = nI (pl i)
  by_cases q : i = k
  · subst q
    exact ⟨pz_us, pz_us⟩
  · exact ⟨(pz_un q).trans (b i (by omega)).1, (pz_un q).trans (b i (by omega)).2⟩
theorem pk_F {z a N : Nat} {ps pl : Nat → Nat} {tk : Nat → Int32} {f : Nat → Int32} (hz : z ≤ 160) (hL : pk_L f z a ps pl tk N) : ∀ d k n S, k + d + 1 = N → d + (z - ps k) < n → sx_rd_tape S = f → sx_rd_size S = nI z → pk_K tk pl k S → ∃ S', fx_X4_findTokens_7 n (nI (ps k)) S = some S' ∧ pk_K tk pl N S' ∧ px_f [12] [15, 16] S S' := by
  obtain ⟨g1, g2, g3, g4, g5⟩ := hL
  intro d
  induction d with
  | zero =>
    intro k n S hk hn ht hs hK
    obtain ⟨q1, q2⟩ := g5 k (by omega)
    have pz := q2.mpr (by omega)
    have hps := q1.1.1
    obtain ⟨n, rfl⟩ : ∃ n', n = n' + 1 + (pl k - ps k) := ⟨n - 1 - (pl k - ps k), by omega⟩
    obtain ⟨m1, m2⟩ := pk_note (by omega) hK
    rw [pk_S hz hs (by rw [ht]; exact q1) n, if_pos pz]
    exact ⟨_, rfl, by rw [← hk]; exact m1, m2⟩
  | succ d ih =>
    intro k n S hk hn ht hs hK
    obtain ⟨q1, q2⟩ := g5 k (by omega)
    obtain ⟨k1, k2, k3, k4, k5⟩ := pk_al q1
    have pz : ¬ pl k = z := fun q => by have := q2.mp q; omega
    have hps := q1.1.1
    have hpl := q1.1.2.1
    have be := k3 (by omega)
    obtain ⟨n, rfl⟩ : ∃ n', n = n' + 1 + (pl k - ps k) := ⟨n - 1 - (pl k - ps k), by omega⟩
    obtain ⟨m1, m2⟩ := pk_note (by omega) hK
    rw [pk_S hz hs (by rw [ht]; exact q1) n, if_neg pz]
    have ht' : sx_rd_tape (fx_X4_note (tk k) (nI (pl k)) S) = f := (m2.2 14 (by decide)).trans ht
    have hs' : sx_rd_size (fx_X4_note (tk k) (nI (pl k)) S) = nI z := (m2.1 11 (by decide)).trans hs
    obtain ⟨S', r1, r2, r3⟩ := ih (k + 1) n _ (by omega) (by omega) ht' hs' m1
    exact ⟨S', r1, r2, px_ft m2 r3⟩
theorem pk_all {z N : Nat} {ps pl : Nat → Nat} {tk : Nat → Int32} {S : sx_T} (hz : z ≤ 160) (hs : sx_rd_size S = nI z) (hL : pk_L (sx_rd_tape S) z 0 ps pl tk N) : ∃ S', fx_X4_findTokens S = some S' ∧ pk_K tk pl N S' ∧ px_f [12] [15, 16] S S' := by
  obtain ⟨g1, g2, g3, g4, g5⟩ := id hL
  have fr : px_f [12] [15, 16] S (ux_rd_known S 0) := px_fs (j := 12) (S' := S) px_fr (by decide)
  obtain ⟨S', r1, r2, r3⟩ := pk_F hz hL (N - 1) 0 am_fu (ux_rd_known S 0) (by omega) (by have : am_fu = 1000000 := rfl; omega) rfl hs ⟨rfl, fun i hi => by omega⟩
  rw [g1] at r1
  exact ⟨S', r1, r2, px_ft fr r3⟩
/-- the reference's next, token by token -/
theorem pk_pN {z N : Nat} {ps pl : Nat → Nat} {tk : Nat → Int32} {f : Nat → Int32} (hz : z ≤ 160) (hL : pk_L f z 0 ps pl tk N) : pd_N z f ps pl tk N := by
  obtain ⟨g1, g2, g3, g4, g5⟩ := hL
  intro k M hk hq
  obtain ⟨a1, a2, a3⟩ := hq
  obtain ⟨q1, q2⟩ := g5 k hk
  obtain ⟨M', r1, r2, r3, r4, r5⟩ := pk_M hz a1 a3 (pk_cg q1 a2)
  have t1 : sm_taped M' = sm_taped M := r2.1 2 (by decide)
  have t2 : sm_tape M' = sm_tape M := r2.2 4 (by decide)
  exact ⟨M', r1, r2, fun _ => ⟨t1.trans a1, fun i hi => by rw [t2]; exact a2 i hi, r3⟩, r4, r5⟩
/-- what the tokens of a tape are -/
theorem pk_Lp {z N : Nat} {ps pl : Nat → Nat} {tk : Nat → Int32} {f : Nat → Int32} (hz : z ≤ 160) (hL : pk_L f z 0 ps pl tk N) : N < 162 ∧ (∀ k, k < N → tk k ≠ -1 → k + 1 < N) ∧ (∀ k, 0 ≤ tk k → ∃ j, j < 10000 ∧ tk k = nI j) ∧ (∀ k, k < N → pl k ≤ 160) ∧ ∀ k, k < N → tk k = -1 → k + 1 = N := by
  obtain ⟨g1, g2, g3, g4, g5⟩ := hL
  refine ⟨by omega, fun k hk h1 => ?_, fun k h0 => ?_, fun k hk => ?_, fun k hk h1 => ?_⟩
  · obtain ⟨q1, q2⟩ := g5 k hk
    have := (pk_al q1).2.1
    rcases Nat.lt_or_ge (k + 1) N with w | w
    · exact w
    · exact absurd (this.mpr (q2.mpr (by omega))) h1
  · rcases g4 k with h | h
    · exact h
    · exact absurd h0 ((by decide : ∀ x ∈ pd_ls, ¬ (0 : Int32) ≤ x) _ h)
  · have := (g5 k hk).1.1.2.1
    omega
  · obtain ⟨q1, q2⟩ := g5 k hk
    exact q2.mp ((pk_al q1).2.1.mp h1)
