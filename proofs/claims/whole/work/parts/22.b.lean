/-! ===== what a text says: both loops ===== -/
theorem pe_cl {S : sx_T} {p e : Nat} (he : e ≤ 960) : ∀ (l : List Int32) (f : Nat → Int32) (n d i dd : Nat) (v6 : Int32), (∀ s ∈ l, pt_ok s) → pt_wf l d = some dd → d + l.length ≤ 160 → v6 = nI d - nI 1 → i + l.length = e → l.length < n → (∀ k, k < l.length → sx_tx_steps S (i + k) = l.getD k 0) → ∃ m v7, fx_X8_said_r38_49 n (nI p) (nI e) v6 (nI i) (ux_tx_stack S f) = fx_X8_said_r38_49 (m + 1) (nI p) (nI e) v7 (nI e) (ux_tx_stack S (pe_run (sx_vi_names S) l (f, d)).1) := by
  intro l
  induction l with
  | nil =>
    intro f n d i dd v6 h1 h2 h3 h4 h5 h6 h7
    have h5' : i = e := h5
    refine ⟨n - 1, v6, ?_⟩
    rw [h5', show n - 1 + 1 = n by have : 0 < n := h6; omega]
    rfl
  | cons s l ih =>
    intro f n d i dd v6 h1 h2 h3 h4 h5 h6 h7
    have hl : (s :: l).length = l.length + 1 := rfl
    rw [hl] at h3 h5 h6 h7
    obtain ⟨g, rfl⟩ : ∃ g, n = g + 1 := ⟨n - 1, by omega⟩
    unfold pt_wf at h2
    cases hd : pt_dp s d with
    | none => rw [hd] at h2; cases h2
    | some d' =>
      rw [hd] at h2
      obtain ⟨c1, c2⟩ := pe_c1 (S := S) (f := f) (n := g) (p := p) (i := i) (e := e) (h1 s List.mem_cons_self) hd (by omega) h4 (by omega) he (h7 0 (by omega))
      have hd' : d' ≤ d + 1 := by
        unfold pt_dp at hd
        split at hd
        · cases hd; omega
        · split at hd
          · split at hd
            · split at hd
              · cases hd; omega
              · cases hd
            · split at hd
              · cases hd; omega
              · cases hd
          · cases hd; omega
      obtain ⟨m, v7, r⟩ := ih (pe_st (sx_vi_names S) s (f, d)).1 g d' (i + 1) dd _ (fun t ht => h1 t (List.mem_cons_of_mem _ ht)) h2 (by omega) rfl (by omega) (by omega) (fun k hk => by
        have := h7 (k + 1) (by omega)
        rw [show i + 1 + k = i + (k + 1) by omega]
        exact this)
      refine ⟨m, v7, c1.trans (r.trans ?_)⟩
      have e2 : ((pe_st (sx_vi_names S) s (f, d)).1, d') = pe_st (sx_vi_names S) s (f, d) := by rw [← c2]
      rw [e2]
      rfl
theorem pe_m1 {M : sm_T} {f : Nat → Int32} {n p i e d d' t : Nat} {s : Int32} (hs : pt_ok s) (hd : pt_dp s d = some d') (hd2 : d < 160) (ht : t < 6) (hp : p < 3) (hr : sm_rule M = nI t) (hst : sm_starts M (4 * t + p + 1) = nI e) (hi : i < e) (he : e ≤ 160) (hc : sm_codes M (200 * t + i) = pt_tr s) : fx_X12_says_16 (n + 1) (nI p) (nI d) (nI i) (um_stack M f) = fx_X12_says_16 n (nI p) (nI d') (nI (i + 1)) (um_stack M (pe_st (sm_named M) s (f, d)).1) := by
  rw [fx_X12_says_16]
  unfold pt_dp at hd
  rcases pe_cases hs with ⟨j, hj, rfl⟩ | ⟨k, hk, rfl⟩ | rfl | rfl | hb
  · rw [if_pos (nI_pos' (by omega))] at hd
    obtain rfl := Option.some.inj hd
    have tr : pt_tr (nI j) = nI (100000 + j) := by
      unfold pt_tr
      rw [if_pos (nI_pos' (by omega))]
      simp (disch := omega) only [pz_l, pz_ltT, pz_ltF, pz_leT, pz_leF, pz_eqT, pz_eqF, pz_nF, pz_nqF, pz_cl, pz_rd, pz_up, pz_bd, pz_let, pk_mul, nI_add, pz_sub, pz_div, pz_m, pz_neg1, eq_self, or_self, false_or, or_false, true_or, or_true, ↓reduceIte, if_true, if_false]
    have c1 : 100000 + j - 100000 = j := by omega
    simp (disch := omega) only [pz_l, pz_ltT, pz_ltF, pz_leT, pz_leF, pz_eqT, pz_eqF, pz_nF, pz_nqF, pz_cl, pz_rd, pz_up, pz_bd, pz_let, pk_mul, nI_add, pz_sub, pz_div, pz_m, pz_neg1, eq_self, or_self, false_or, or_false, true_or, or_true, ↓reduceIte, if_true, if_false, pg_k4, pg_k5, pg_k6, pg_k7, pg_k8, hr, hst, hc, tr, fx_X12_says_66, c1, pm_ks, pe_st]
  · obtain ⟨a1, a2, a3, a4, a5⟩ := pe_nam k hk
    have a2' : ¬ fx_X8_isName (-(nI 10) - nI k) = 0 := by rw [a2]; decide
    rw [if_neg a1, if_neg a2'] at hd
    obtain rfl := Option.some.inj hd
    have b1 := pe_F (show ¬ nI 0 ≤ -(nI 10) - nI k from a1)
    have b2 : fx_X8_isName (-(nI 10) - nI k) = nI 1 := a2
    simp (disch := omega) only [pz_l, pz_ltT, pz_ltF, pz_leT, pz_leF, pz_eqT, pz_eqF, pz_nF, pz_nqF, pz_cl, pz_rd, pz_up, pz_bd, pz_let, pk_mul, nI_add, pz_sub, pz_div, pz_m, pz_neg1, eq_self, or_self, false_or, or_false, true_or, or_true, ↓reduceIte, if_true, if_false, pg_k4, pg_k5, pg_k6, pg_k7, pg_k8, hr, hst, hc, a4, fx_X12_says_66, pm_ks, pe_st, b1, b2, a3]
  · rw [if_neg (by decide), if_pos (by decide), if_pos (Or.inl rfl)] at hd
    have hd1 : 1 ≤ d := by
      rcases Nat.lt_or_ge d 1 with q | q
      · rw [if_neg (by omega)] at hd; cases hd
      · exact q
    rw [if_pos hd1] at hd
    obtain rfl := Option.some.inj hd
    have b1 := pe_F (show ¬ nI 0 ≤ -(nI 8) by decide)
    have b2 : fx_X8_isName (-(nI 8)) = nI 0 := by decide
    have tr : pt_tr (-8) = nI 13 := by decide
    rw [tr] at hc
    by_cases z : f (d - 1) = nI 0
    · simp (disch := omega) only [pz_l, pz_ltT, pz_ltF, pz_leT, pz_leF, pz_eqT, pz_eqF, pz_nF, pz_nqF, pz_cl, pz_rd, pz_up, pz_bd, pz_let, pk_mul, nI_add, pz_sub, pz_div, pz_m, pz_neg1, eq_self, or_self, false_or, or_false, true_or, or_true, ↓reduceIte, if_true, if_false, pg_k4, pg_k5, pg_k6, pg_k7, pg_k8, hr, hst, hc, pm_ks, pe_st, b1, b2, z]
    · simp (disch := omega) only [pz_l, pz_ltT, pz_ltF, pz_leT, pz_leF, pz_eqT, pz_eqF, pz_nF, pz_nqF, pz_cl, pz_rd, pz_up, pz_bd, pz_let, pk_mul, nI_add, pz_sub, pz_div, pz_m, pz_neg1, eq_self, or_self, false_or, or_false, true_or, or_true, ↓reduceIte, if_true, if_false, pg_k4, pg_k5, pg_k6, pg_k7, pg_k8, hr, hst, hc, pm_ks, pe_st, b1, b2, z]
  · rw [if_neg (by decide), if_pos (by decide), if_pos (Or.inr rfl)] at hd
    have hd1 : 1 ≤ d := by
      rcases Nat.lt_or_ge d 1 with q | q
      · rw [if_neg (by omega)] at hd; cases hd
      · exact q
    rw [if_pos hd1] at hd
    obtain rfl := Option.some.inj hd
    have b1 := pe_F (show ¬ nI 0 ≤ -(nI 9) by decide)
    have b2 : fx_X8_isName (-(nI 9)) = nI 0 := by decide
    have b3 := pe_F (show ¬ -(nI 9) = -(nI 8) by decide)
    have tr : pt_tr (-9) = nI 19 := by decide
    rw [tr] at hc
    simp (disch := omega) only [pz_l, pz_ltT, pz_ltF, pz_leT, pz_leF, pz_eqT, pz_eqF, pz_nF, pz_nqF, pz_cl, pz_rd, pz_up, pz_bd, pz_let, pk_mul, nI_add, pz_sub, pz_div, pz_m, pz_neg1, eq_self, or_self, false_or, or_false, true_or, or_true, ↓reduceIte, if_true, if_false, pg_k4, pg_k5, pg_k6, pg_k7, pg_k8, hr, hst, hc, pm_ks, pe_st, b1, b2, b3]
  · obtain ⟨a1, a2, a3, a4, c, hc1, hc2, hc3, hc4⟩ := pe_bin s hb
    have tw := pe_two s hb
    rw [if_neg a1, if_pos a2, if_neg (fun q => q.elim a3 a4)] at hd
    have hd1 : 2 ≤ d := by
      rcases Nat.lt_or_ge d 2 with q | q
      · rw [if_neg (by omega)] at hd; cases hd
      · exact q
    rw [if_pos hd1] at hd
    obtain rfl := Option.some.inj hd
    have b1 := pe_F (show ¬ nI 0 ≤ s from a1)
    have b2 : fx_X8_isName s = nI 0 := a2
    have b3 := pe_F (show ¬ s = -(nI 8) from a3)
    have b4 := pe_F (show ¬ s = -(nI 9) from a4)
    rw [hc4] at hc tw
    have c1 : d - 1 - 1 = d - 2 := by omega
    simp (disch := omega) only [pz_l, pz_ltT, pz_ltF, pz_leT, pz_leF, pz_eqT, pz_eqF, pz_nF, pz_nqF, pz_cl, pz_rd, pz_up, pz_bd, pz_let, pk_mul, nI_add, pz_sub, pz_div, pz_m, pz_neg1, eq_self, or_self, false_or, or_false, true_or, or_true, ↓reduceIte, if_true, if_false, pg_k4, pg_k5, pg_k6, pg_k7, pg_k8, hr, hst, hc, pm_ks, pe_st, b1, b2, b3, b4, c1, tw]
theorem pe_st2 {nm : Nat → Int32} {s : Int32} {f : Nat → Int32} {d d' : Nat} (hs : pt_ok s) (hd : pt_dp s d = some d') : (pe_st nm s (f, d)).2 = d' := by
  unfold pt_dp at hd
  unfold pe_st
  split at hd
  · rename_i h; rw [if_pos h]; exact Option.some.inj hd
  · rename_i h; rw [if_neg h]
    split at hd
    · rename_i h2; rw [if_pos h2]
      split at hd
      · rename_i h3
        split at hd
        · rcases h3 with h3 | h3
          · rw [if_pos h3]; exact Option.some.inj hd
          · by_cases h4 : s = -8
            · rw [if_pos h4]; exact Option.some.inj hd
            · rw [if_neg h4, if_pos h3]; exact Option.some.inj hd
        · cases hd
      · rename_i h3
        rw [if_neg (fun q => h3 (Or.inl q)), if_neg (fun q => h3 (Or.inr q))]
        split at hd
        · exact Option.some.inj hd
        · cases hd
    · rename_i h2; rw [if_neg h2]; exact Option.some.inj hd
theorem pt_dp1 {s : Int32} {d d' : Nat} (hd : pt_dp s d = some d') : d' ≤ d + 1 := by
  unfold pt_dp at hd
  split at hd
  · cases hd; omega
  · split at hd
    · split at hd
      · split at hd
        · cases hd; omega
        · cases hd
      · split at hd
        · cases hd; omega
        · cases hd
    · cases hd; omega
theorem pe_ml {M : sm_T} {p e t : Nat} (ht : t < 6) (hp : p < 3) (hr : sm_rule M = nI t) (hst : sm_starts M (4 * t + p + 1) = nI e) (he : e ≤ 160) : ∀ (l : List Int32) (f : Nat → Int32) (n d i dd : Nat), (∀ s ∈ l, pt_ok s) → pt_wf l d = some dd → d + l.length ≤ 160 → i + l.length = e → l.length < n → (∀ k, k < l.length → sm_codes M (200 * t + i + k) = pt_tr (l.getD k 0)) → ∃ m v7, fx_X12_says_16 n (nI p) (nI d) (nI i) (um_stack M f) = fx_X12_says_16 (m + 1) (nI p) v7 (nI e) (um_stack M (pe_run (sm_named M) l (f, d)).1) := by
  intro l
  induction l with
  | nil =>
    intro f n d i dd h1 h2 h3 h5 h6 h7
    have h5' : i = e := h5
    refine ⟨n - 1, nI d, ?_⟩
    rw [h5', show n - 1 + 1 = n by have : 0 < n := h6; omega]
    rfl
  | cons s l ih =>
    intro f n d i dd h1 h2 h3 h5 h6 h7
    have hl : (s :: l).length = l.length + 1 := rfl
    rw [hl] at h3 h5 h6 h7
    obtain ⟨g, rfl⟩ : ∃ g, n = g + 1 := ⟨n - 1, by omega⟩
    unfold pt_wf at h2
    cases hd : pt_dp s d with
    | none => rw [hd] at h2; cases h2
    | some d' =>
      rw [hd] at h2
      have c1 := pe_m1 (M := M) (f := f) (n := g) (p := p) (i := i) (e := e) (t := t) (h1 s List.mem_cons_self) hd (by omega) ht hp hr hst (by omega) he (h7 0 (by omega))
      have c2 := pe_st2 (nm := sm_named M) (f := f) (h1 s List.mem_cons_self) hd
      have hd' := pt_dp1 hd
      obtain ⟨m, v7, r⟩ := ih (pe_st (sm_named M) s (f, d)).1 g d' (i + 1) dd (fun t ht => h1 t (List.mem_cons_of_mem _ ht)) h2 (by omega) (by omega) (by omega) (fun k hk => by
        have := h7 (k + 1) (by omega)
        rw [show 200 * t + (i + 1) + k = 200 * t + i + (k + 1) by omega]
        exact this)
      refine ⟨m, v7, c1.trans (r.trans ?_)⟩
      have e2 : ((pe_st (sm_named M) s (f, d)).1, d') = pe_st (sm_named M) s (f, d) := by rw [← c2]
      rw [e2]
      rfl
/-- rows that are alike below the depth stay so; names that aren't there don't matter -/
theorem pe_ag {nm nm' : Nat → Int32} : ∀ (l : List Int32) (d e : Nat) (f g : Nat → Int32), (∀ s ∈ l, pt_ok s) → (∀ k, k < 6 → (-10 - nI k) ∈ l → nm k = nm' k) → pt_wf l d = some e → (∀ j, j < d → f j = g j) → ∀ j, j < e → (pe_run nm l (f, d)).1 j = (pe_run nm' l (g, d)).1 j := by
  intro l
  induction l with
  | nil =>
    intro d e f g h1 hn h2 h3 j hj
    obtain rfl := Option.some.inj h2
    exact h3 j hj
  | cons s l ih =>
    intro d e f g h1 hn h2 h3 j hj
    unfold pt_wf at h2
    cases hd : pt_dp s d with
    | none => rw [hd] at h2; cases h2
    | some d' =>
      rw [hd] at h2
      have c1 := pe_st2 (nm := nm) (f := f) (h1 s List.mem_cons_self) hd
      have c2 := pe_st2 (nm := nm') (f := g) (h1 s List.mem_cons_self) hd
      have e1 : pe_st nm s (f, d) = ((pe_st nm s (f, d)).1, d') := by rw [← c1]
      have e2 : pe_st nm' s (g, d) = ((pe_st nm' s (g, d)).1, d') := by rw [← c2]
      show (pe_run nm l (pe_st nm s (f, d))).1 j = (pe_run nm' l (pe_st nm' s (g, d))).1 j
      rw [e1, e2]
      refine ih d' e _ _ (fun t ht => h1 t (List.mem_cons_of_mem _ ht)) (fun k hk hm => hn k hk (List.mem_cons_of_mem _ hm)) h2 (fun i hi => ?_) j hj
      unfold pt_dp at hd
      unfold pe_st
      rcases pe_cases (h1 s List.mem_cons_self) with ⟨a, ha, rfl⟩ | ⟨k, hk, rfl⟩ | rfl | rfl | hb
      · rw [if_pos (nI_pos' (by omega))] at hd
        obtain rfl := Option.some.inj hd
        rw [if_pos (nI_pos' (by omega)), if_pos (nI_pos' (by omega))]
        show upd f d _ i = upd g d _ i
        by_cases q : i = d
        · subst q; rw [pz_us, pz_us]
        · rw [pz_un q, pz_un q]; exact h3 i (by omega)
      · obtain ⟨a1, a2, a3, a4, a5⟩ := pe_nam k hk
        have a2' : ¬ fx_X8_isName (-(nI 10) - nI k) = 0 := by rw [a2]; decide
        rw [if_neg a1, if_neg a2'] at hd
        obtain rfl := Option.some.inj hd
        rw [if_neg a1, if_neg a2', if_neg a1, if_neg a2']
        show upd f d (nm (-10 - (-(nI 10) - nI k)).toNatClampNeg) i = upd g d (nm' (-10 - (-(nI 10) - nI k)).toNatClampNeg) i
        have a3' : -10 - (-(nI 10) - nI k) = nI k := a3
        rw [a3', pz_cl (by omega)]
        by_cases q : i = d
        · subst q; rw [pz_us, pz_us]; exact hn k hk List.mem_cons_self
        · rw [pz_un q, pz_un q]; exact h3 i (by omega)
      · rw [if_neg (by decide), if_pos (by decide), if_pos (Or.inl rfl)] at hd
        have hd1 : 1 ≤ d := by
          rcases Nat.lt_or_ge d 1 with q | q
          · rw [if_neg (by omega)] at hd; cases hd
          · exact q
        rw [if_pos hd1] at hd
        obtain rfl := Option.some.inj hd
        have z1 : ¬ (0 : Int32) ≤ -8 := by decide
        have z2 : fx_X8_isName (-8) = 0 := by decide
        rw [if_neg z1, if_pos z2, if_pos (rfl : (-8 : Int32) = -8), if_neg z1, if_pos z2, if_pos (rfl : (-8 : Int32) = -8)]
        show upd f (d - 1) (if f (d - 1) = 0 then 1 else 0) i = upd g (d - 1) (if g (d - 1) = 0 then 1 else 0) i
        rw [h3 (d - 1) (by omega)]
        by_cases q : i = d - 1
        · subst q; rw [pz_us, pz_us]
        · rw [pz_un q, pz_un q]; exact h3 i (by omega)
      · rw [if_neg (by decide), if_pos (by decide), if_pos (Or.inr rfl)] at hd
        have hd1 : 1 ≤ d := by
          rcases Nat.lt_or_ge d 1 with q | q
          · rw [if_neg (by omega)] at hd; cases hd
          · exact q
        rw [if_pos hd1] at hd
        obtain rfl := Option.some.inj hd
        rw [if_neg (by decide), if_pos (by decide), if_neg (by decide), if_pos rfl, if_neg (by decide), if_pos (by decide), if_neg (by decide), if_pos rfl]
        show upd f (d - 1) (-(f (d - 1))) i = upd g (d - 1) (-(g (d - 1))) i
        rw [h3 (d - 1) (by omega)]
        by_cases q : i = d - 1
        · subst q; rw [pz_us, pz_us]
        · rw [pz_un q, pz_un q]; exact h3 i (by omega)
      · obtain ⟨a1, a2, a3, a4, -⟩ := pe_bin s hb
        rw [if_neg a1, if_pos a2, if_neg (fun q => q.elim a3 a4)] at hd
        have hd1 : 2 ≤ d := by
          rcases Nat.lt_or_ge d 2 with q | q
          · rw [if_neg (by omega)] at hd; cases hd
          · exact q
        rw [if_pos hd1] at hd
        obtain rfl := Option.some.inj hd
        rw [if_neg a1, if_pos a2, if_neg a3, if_neg a4, if_neg a1, if_pos a2, if_neg a3, if_neg a4]
        show upd f (d - 2) (fx_X8_joined s (f (d - 2)) (f (d - 1))) i = upd g (d - 2) (fx_X8_joined s (g (d - 2)) (g (d - 1))) i
        rw [h3 (d - 2) (by omega), h3 (d - 1) (by omega)]
        by_cases q : i = d - 2
        · subst q; rw [pz_us, pz_us]
        · rw [pz_un q, pz_un q]; exact h3 i (by omega)
theorem pe_vag {nm nm' : Nat → Int32} {l : List Int32} (h1 : ∀ s ∈ l, pt_ok s) (h2 : pt_wf l 0 = some 1) (hn : ∀ k, k < 6 → (-10 - nI k) ∈ l → nm k = nm' k) : pe_val nm l = pe_val nm' l := pe_ag l 0 1 _ _ h1 hn h2 (fun j hj => absurd hj (Nat.not_lt_zero j)) 0 (by decide)
theorem pe_v0 {nm : Nat → Int32} {l : List Int32} (h1 : ∀ s ∈ l, pt_ok s) (h2 : pt_wf l 0 = some 1) (f : Nat → Int32) : (pe_run nm l (f, 0)).1 0 = pe_val nm l := pe_ag l 0 1 _ _ h1 (fun _ _ _ => rfl) h2 (fun j hj => absurd hj (Nat.not_lt_zero j)) 0 (by decide)
theorem pt_offS (T : Nat → List Int32) (p : Nat) : pt_off T (p + 1) = pt_off T p + (T p).length := rfl
theorem pt_offm (T : Nat → List Int32) {p : Nat} (hp : p < 3) : pt_off T (p + 1) ≤ pt_off T 3 := by
  have h : p = 0 ∨ p = 1 ∨ p = 2 := by omega
  have h1 : pt_off T 3 = pt_off T 2 + (T 2).length := rfl
  have h2 : pt_off T 2 = pt_off T 1 + (T 1).length := rfl
  rcases h with rfl | rfl | rfl
  · show pt_off T 1 ≤ pt_off T 3
    omega
  · show pt_off T 2 ≤ pt_off T 3
    omega
  · exact Nat.le_refl _
/-- the class's said -/
theorem pe_said {T : Nat → List Int32} {S : sx_T} {M : sm_T} {t p : Nat} (h : pr_tx1 T t S M) (ht : t < 6) (hp : p < 3) : ∃ g, fx_X8_said_r38 (nI t) (nI p) S = some (pe_bd p (pe_val (sx_vi_names S) (T p)), ux_tx_stack S g) := by
  obtain ⟨h0, hh⟩ := h
  obtain ⟨⟨ok, wf⟩, ⟨e1, e2, e3⟩, -, cod⟩ := hh p hp
  have hm := pt_offm T hp
  have ho := pt_offS T p
  have ex : ∃ m v7, fx_X8_said_r38 (nI t) (nI p) S = fx_X8_said_r38_49 (m + 1) (nI p) (nI (160 * t + pt_off T (p + 1))) v7 (nI (160 * t + pt_off T (p + 1))) (ux_tx_stack S (pe_run (sx_vi_names S) (T p) (sx_tx_stack S, 0)).1) := by
    have base : ∀ i, i = 160 * t + pt_off T p → ∃ m v7, fx_X8_said_r38_49 am_fu (nI p) (nI (160 * t + pt_off T (p + 1))) (-1) (nI i) S = fx_X8_said_r38_49 (m + 1) (nI p) (nI (160 * t + pt_off T (p + 1))) v7 (nI (160 * t + pt_off T (p + 1))) (ux_tx_stack S (pe_run (sx_vi_names S) (T p) (sx_tx_stack S, 0)).1) := by
      intro i hi
      subst hi
      have := pe_cl (S := S) (p := p) (e := 160 * t + pt_off T (p + 1)) (by omega) (T p) (sx_tx_stack S) am_fu 0 (160 * t + pt_off T p) 1 (-1) ok wf (by omega) (by decide) (by omega) (by rw [pf_u]; omega) (fun k hk => (cod k hk).1)
      rw [px_ki] at this
      exact this
    have c1 : t * 3 + p = 3 * t + p := by omega
    by_cases p0 : p = 0
    · subst p0
      obtain ⟨m, v7, r⟩ := base (t * 160) (by show t * 160 = 160 * t + 0; omega)
      refine ⟨m, v7, Eq.trans ?_ r⟩
      have e1' : sx_tx_ends S (3 * t) = nI (160 * t + pt_off T (0 + 1)) := e1
      have c2 : t * 3 = 3 * t := by omega
      simp (disch := omega) only [pz_l, pz_ltT, pz_ltF, pz_leT, pz_leF, pz_eqT, pz_eqF, pz_nF, pz_nqF, pz_cl, pz_rd, pz_up, pz_bd, pz_let, pk_mul, nI_add, pz_sub, pz_div, pz_m, pz_neg1, eq_self, or_self, false_or, or_false, true_or, or_true, ↓reduceIte, if_true, if_false, fx_X8_said_r38, Nat.add_zero, c2, e1']
    · obtain ⟨-, ⟨f1, -, -⟩, -⟩ := hh (p - 1) (by omega)
      rw [show 3 * t + (p - 1) = 3 * t + p - 1 by omega, show p - 1 + 1 = p by omega] at f1
      obtain ⟨m, v7, r⟩ := base (160 * t + pt_off T p) rfl
      refine ⟨m, v7, Eq.trans ?_ r⟩
      simp (disch := omega) only [pz_l, pz_ltT, pz_ltF, pz_leT, pz_leF, pz_eqT, pz_eqF, pz_nF, pz_nqF, pz_cl, pz_rd, pz_up, pz_bd, pz_let, pk_mul, nI_add, pz_sub, pz_div, pz_m, pz_neg1, eq_self, or_self, false_or, or_false, true_or, or_true, ↓reduceIte, if_true, if_false, fx_X8_said_r38, c1, e1, f1]
  obtain ⟨m, v7, r⟩ := ex
  refine ⟨(pe_run (sx_vi_names S) (T p) (sx_tx_stack S, 0)).1, r.trans ?_⟩
  have v := pe_v0 (nm := sx_vi_names S) ok wf (sx_tx_stack S)
  rw [fx_X8_said_r38_49]
  have h3 : p = 0 ∨ p = 1 ∨ p = 2 := by omega
  rcases h3 with rfl | rfl | rfl
  · simp (disch := omega) only [pz_l, pz_ltT, pz_ltF, pz_leT, pz_leF, pz_eqT, pz_eqF, pz_nF, pz_nqF, pz_cl, pz_rd, pz_up, pz_bd, pz_let, pk_mul, nI_add, pz_sub, pz_div, pz_m, pz_neg1, eq_self, or_self, false_or, or_false, true_or, or_true, ↓reduceIte, if_true, if_false, pg_k1, v, pe_bd]
  · simp (disch := omega) only [pz_l, pz_ltT, pz_ltF, pz_leT, pz_leF, pz_eqT, pz_eqF, pz_nF, pz_nqF, pz_cl, pz_rd, pz_up, pz_bd, pz_let, pk_mul, nI_add, pz_sub, pz_div, pz_m, pz_neg1, eq_self, or_self, false_or, or_false, true_or, or_true, ↓reduceIte, if_true, if_false, pg_k1, v, pe_bd]
  · simp (disch := omega) only [pz_l, pz_ltT, pz_ltF, pz_leT, pz_leF, pz_eqT, pz_eqF, pz_nF, pz_nqF, pz_cl, pz_rd, pz_up, pz_bd, pz_let, pk_mul, nI_add, pz_sub, pz_div, pz_m, pz_neg1, eq_self, or_self, false_or, or_false, true_or, or_true, ↓reduceIte, if_true, if_false, pg_k1, v, pe_bd]
/-- the reference's says -/
theorem pe_says {T : Nat → List Int32} {S : sx_T} {M : sm_T} {t p : Nat} (h : pr_tx1 T t S M) (ht : t < 6) (hp : p < 3) (hr : sm_rule M = nI t) : ∃ g, fx_X12_says (nI p) M = some (pe_val (sm_named M) (T p), um_stack M g) := by
  obtain ⟨h0, hh⟩ := h
  obtain ⟨⟨ok, wf⟩, ⟨e1, e2, e3⟩, -, cod⟩ := hh p hp
  have hm := pt_offm T hp
  have ho := pt_offS T p
  have base := pe_ml (M := M) (p := p) (e := pt_off T (p + 1)) ht hp hr e3 (by omega) (T p) (sm_stack M) am_fu 0 (pt_off T p) 1 ok wf (by omega) (by omega) (by rw [pf_u]; omega) (fun k hk => (cod k hk).2)
  rw [pm_ki] at base
  obtain ⟨m, v7, r⟩ := base
  refine ⟨(pe_run (sm_named M) (T p) (sm_stack M, 0)).1, ?_⟩
  have v := pe_v0 (nm := sm_named M) ok wf (sm_stack M)
  have s1 : fx_X12_says (nI p) M = fx_X12_says_16 am_fu (nI p) (nI 0) (nI (pt_off T p)) M := by
    simp (disch := omega) only [pz_l, pz_ltT, pz_ltF, pz_leT, pz_leF, pz_eqT, pz_eqF, pz_nF, pz_nqF, pz_cl, pz_rd, pz_up, pz_bd, pz_let, pk_mul, nI_add, pz_sub, pz_div, pz_m, pz_neg1, eq_self, or_self, false_or, or_false, true_or, or_true, ↓reduceIte, if_true, if_false, fx_X12_says, hr, e2]
  refine s1.trans (r.trans ?_)
  rw [fx_X12_says_16]
  simp (disch := omega) only [pz_l, pz_ltT, pz_ltF, pz_leT, pz_leF, pz_eqT, pz_eqF, pz_nF, pz_nqF, pz_cl, pz_rd, pz_up, pz_bd, pz_let, pk_mul, nI_add, pz_sub, pz_div, pz_m, pz_neg1, eq_self, or_self, false_or, or_false, true_or, or_true, ↓reduceIte, if_true, if_false, pg_k4, pg_k7, pg_k8, hr, e3, v]
