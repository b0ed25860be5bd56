/-! ===== the reader: the reference's loop against the yard ===== -/
def pd_Q (z : Nat) (tape : Nat → Int32) (ps : Nat → Nat) (M : sm_T) (k : Nat) : Prop := sm_taped M = nI z ∧ (∀ i, i < z → sm_tape M i = tape i) ∧ sm_at M = nI (ps k)
def pd_N (z : Nat) (tape : Nat → Int32) (ps pl : Nat → Nat) (tk : Nat → Int32) (N : Nat) : Prop := ∀ k M, k < N → pd_Q z tape ps M k → ∃ M', fx_X12_next M = some M' ∧ pm_f [6, 7, 8, 9] [] M M' ∧ (k + 1 < N → pd_Q z tape ps M' (k + 1)) ∧ sm_begun M' = nI (pl k) ∧ pd_T M' (tk k)
def pd_G (t : Nat) (M M' : sm_T) : Prop := pm_f [6, 7, 8, 9, 10, 11, 12] [5, 12] M M' ∧ ∀ i, i < 200 * t ∨ 200 * t + 200 ≤ i → sm_codes M' i = sm_codes M i
theorem pd_Gt {t : Nat} {M M' M'' : sm_T} (h : pd_G t M M') (h' : pd_G t M' M'') : pd_G t M M'' := ⟨pm_ft h.1 h'.1, fun i hi => (h'.2 i hi).trans (h.2 i hi)⟩
theorem pd_GF {t : Nat} {M M' : sm_T} (h : pd_F t M M') : pd_G t M M' := ⟨pm_fm h.1 (by decide) (by decide), h.2⟩
theorem pd_GN {t : Nat} {M M' : sm_T} (h : pm_f [6, 7, 8, 9] [] M M') : pd_G t M M' := ⟨pm_fm h (by decide) (by decide), fun i _ => by
  have : sm_codes M' = sm_codes M := h.2 5 (by decide)
  rw [this]⟩
theorem pd_QF {z t : Nat} {tape : Nat → Int32} {ps : Nat → Nat} {k : Nat} {M M' : sm_T} (h : pd_Q z tape ps M k) (f : pd_F t M M') : pd_Q z tape ps M' k := by
  have a : sm_taped M' = sm_taped M := f.1.1 2 (by decide)
  have b : sm_tape M' = sm_tape M := f.1.2 4 (by decide)
  have c : sm_at M' = sm_at M := f.1.1 6 (by decide)
  exact ⟨a.trans h.1, by rw [b]; exact h.2.1, c.trans h.2.2⟩
theorem pd_CN {t : Nat} {H : List Nat} {o : List Int32} {M M' : sm_T} (h : pd_C t H o M) (f : pm_f [6, 7, 8, 9] [] M M') : pd_C t H o M' := by
  have a : sm_heldMany M' = sm_heldMany M := f.1 10 (by decide)
  have b : sm_held M' = sm_held M := f.2 12 (by decide)
  have c : sm_opens M' = sm_opens M := f.1 11 (by decide)
  have d : sm_texts M' = sm_texts M := f.1 3 (by decide)
  have e : sm_out M' = sm_out M := f.1 12 (by decide)
  have g : sm_codes M' = sm_codes M := f.2 5 (by decide)
  unfold pd_C
  rw [a, b, c, d, e, g]
  exact h
theorem pd_nm : ∀ x ∈ pd_ls, fx_X8_isName x ≠ 0 → ¬ 0 ≤ x ∧ pt_tr x = -10 - x := by decide
def pd_E (z : Nat) (tape : Nat → Int32) (ps pl : Nat → Nat) (N t : Nat) (r : Option (Int32 × sm_T)) (M : sm_T) (b : Bool) (k : Nat) (o : List Int32) : Prop := ∃ M', r = some (if b = true then 1 else 0, M') ∧ pd_G t M M' ∧ (b = true → k < N ∧ pd_Q z tape ps M' k ∧ pd_C t [] o M') ∧ (b = false → sm_begun M' = nI (pl k))
theorem pd_Em {z : Nat} {tape : Nat → Int32} {ps pl : Nat → Nat} {N t : Nat} {r : Option (Int32 × sm_T)} {M M' : sm_T} {b : Bool} {k : Nat} {o : List Int32} (h : pd_E z tape ps pl N t r M' b k o) (g : pd_G t M M') : pd_E z tape ps pl N t r M b k o := by
  obtain ⟨M2, h1, h2, h3, h4⟩ := h
  exact ⟨M2, h1, pd_Gt g h2, h3, h4⟩
theorem py_uh {r x : Nat} : ∀ (H X : List Nat) (o : List Int32), (py_u r H o).1 = x :: X → py_r x < r := by
  intro H
  induction H with
  | nil => intro X o h; cases h
  | cons s H ih =>
    intro X o h
    have e : py_u r (s :: H) o = if r ≤ py_r s then py_u r H (o ++ [py_s s]) else (s :: H, o) := rfl
    rw [e] at h
    by_cases c : r ≤ py_r s
    · rw [if_pos c] at h; exact ih X _ h
    · rw [if_neg c] at h
      have q : s = x := (List.cons.inj h).1
      rw [← q]
      omega
theorem py_r0 : ∀ x, x < 20 → (x = 0 ∨ 11 ≤ x) → py_r x < 1 → x = 0 := by decide
theorem pd_er {z : Nat} {tape : Nat → Int32} {ps pl : Nat → Nat} {tk : Nat → Int32} {N t : Nat} (hN : pd_N z tape ps pl tk N) (hE : ∀ k, k < N → tk k ≠ -1 → k + 1 < N) (N2 : N < 162) : ∀ n k wt mn H o M m v2 b k' o', n ≤ m → k < N → (wt = true → v2 = if mn = true then 1 else 0) → pd_Q z tape ps M k → pd_C t H o M → H.length + o.length ≤ k → py_Y tk n k wt mn H o = some (b, k', o') → pd_E z tape ps pl N t (fx_X12_eRead_14 m (if wt = true then 1 else 0) v2 M) M b k' o' := by
  intro n
  induction n with
  | zero => intro k wt mn H o M m v2 b k' o' _ _ _ _ _ _ h; cases h
  | succ n ih =>
    intro k wt mn H o M m v2 b k' o' hm kN hv hq hc hl hY
    obtain ⟨m, rfl⟩ : ∃ m', m = m' + 1 := ⟨m - 1, by omega⟩
    have hm' : n ≤ m := by omega
    obtain ⟨M1, n1, n2, n3, n4, n5⟩ := hN k M kN hq
    have hc1 := pd_CN hc n2
    have G1 : pd_G t M M1 := pd_GN n2
    obtain ⟨t1, t2, t6, t45, t40, t59, t41, -, -⟩ := pd_tt n5.1
    rw [← n5.2.1] at t1 t2 t6 t45 t40 t59 t41
    have fu : H.length < am_fu := by
      have : am_fu = 1000000 := rfl
      omega
    cases wt with
    | true =>
      rw [py_YT] at hY
      have e : fx_X12_eRead_14 (m + 1) (if true = true then 1 else 0) v2 M = (if (sm_token M1) = (1 : Int32) then fx_X12_eRead_38 (fun a0 a1 a2 => fx_X12_eRead_14 m a0 a1 a2) v2 M1 else (if (sm_token M1) = (2 : Int32) then fx_X12_eRead_38 (fun a0 a1 a2 => fx_X12_eRead_14 m a0 a1 a2) v2 M1 else (if (sm_token M1) = (6 : Int32) then (if v2 = 0 then fx_X12_eRead_99 (fun a0 a1 a2 => fx_X12_eRead_14 m a0 a1 a2) 1 M1 else am_bd (fx_X12_opensOne (13 : Int32) M1) (fun q40 => (if q40.1 = 0 then some (((0 : Int32), q40.2)) else fx_X12_eRead_14 m 1 v2 q40.2))) else fx_X12_eRead_99 (fun a0 a1 a2 => fx_X12_eRead_14 m a0 a1 a2) 1 M1))) := by
        rw [if_pos rfl, fx_X12_eRead_14, n1, pz_bd, if_neg (by decide)]
      rw [e]
      have hfail : pd_E z tape ps pl N t (some ((0 : Int32), M1)) M false k [] := ⟨M1, rfl, G1, fun q => absurd q (by decide), fun _ => n4⟩
      -- an opened sign
      have hop : ∀ (s : Nat) (mn' : Bool) (v2' : Int32), (s = 0 ∨ s = 13 ∨ s = 19) → (v2' = if mn' = true then 1 else 0) → tk k ≠ -1 → (if py_op H = 5 then some (false, k, []) else py_Y tk n (k + 1) true mn' (s :: H) o) = some (b, k', o') → pd_E z tape ps pl N t (am_bd (fx_X12_opensOne (nI s) M1) (fun q40 => (if q40.1 = 0 then some (((0 : Int32), q40.2)) else fx_X12_eRead_14 m 1 v2' q40.2))) M b k' o' := by
        intro s mn' v2' hs hv' hn1 h
        obtain ⟨o1, o2⟩ := pd_open hc1 (by omega) hs
        have hk1 := hE k kN hn1
        by_cases c5 : py_op H = 5
        · rw [if_pos c5] at h
          cases h
          rw [o1 c5, pz_bd]
          exact hfail
        · rw [if_neg c5] at h
          obtain ⟨M2, p1, p2, p3⟩ := o2 c5
          rw [p1, pz_bd, if_neg (show ¬ ((1 : Int32), M2).1 = 0 from (by decide : ¬ (1 : Int32) = 0))]
          have r := ih (k + 1) true mn' (s :: H) o M2 m v2' b k' o' hm' hk1 (fun _ => hv') (pd_QF (n3 hk1) p3) p2 (by show H.length + 1 + o.length ≤ k + 1; omega) h
          exact pd_Em r (pd_Gt G1 (pd_GF p3))
      have h99 : tk k ≠ -8 ∨ mn = false → ¬ (0 ≤ tk k ∨ fx_X8_isName (tk k) ≠ 0) → pd_E z tape ps pl N t (fx_X12_eRead_99 (fun a0 a1 a2 => fx_X12_eRead_14 m a0 a1 a2) 1 M1) M b k' o' := by
        intro h8 h1
        rw [if_neg h1, if_neg (fun q => h8.elim (fun w => w q.1) (fun w => by rw [w] at q; exact absurd q.2 (by decide)))] at hY
        unfold fx_X12_eRead_99
        by_cases c45 : tk k = -45
        · rw [if_pos c45] at hY
          rw [if_pos (t45.mpr c45)]
          exact hop 19 false 0 (Or.inr (Or.inr rfl)) rfl (by rw [c45]; decide) hY
        · rw [if_neg c45] at hY
          rw [if_neg (fun q => c45 (t45.mp q))]
          by_cases c40 : tk k = -40
          · rw [if_pos c40] at hY
            rw [if_pos (t40.mpr c40)]
            exact hop 0 true 1 (Or.inl rfl) rfl (by rw [c40]; decide) hY
          · rw [if_neg c40] at hY
            rw [if_neg (fun q => c40 (t40.mp q))]
            cases hY
            exact hfail
      by_cases h1 : 0 ≤ tk k ∨ fx_X8_isName (tk k) ≠ 0
      · rw [if_pos h1] at hY
        have hn1 : tk k ≠ -1 := fun q => by
          rw [q] at h1
          rcases h1 with h1 | h1
          · exact absurd h1 (by decide)
          · exact absurd (by decide) h1
        have hk1 := hE k kN hn1
        have fin : ∀ x, x = pt_tr (tk k) → pd_E z tape ps pl N t (am_bd (fx_X12_puts x M1) (fun q25 => am_bd (fx_X12_unwinds (7 : Int32) q25) (fun q27 => fx_X12_eRead_14 m (0 : Int32) v2 q27))) M b k' o' := by
          intro x hx
          obtain ⟨p1, p2, p3⟩ := pd_put hc1 (by omega) (tk k) x hx
          obtain ⟨M3, u1, u2, u3⟩ := pd_uw (t := t) (r := 7) (by decide) H am_fu (o ++ [tk k]) _ (by rw [List.length_append]; show H.length + (o.length + 1) < 200; omega) fu p2
          rw [p1, pz_bd]
          unfold fx_X12_unwinds
          rw [show (7 : Int32) = nI 7 from rfl, u1, pz_bd]
          have r := ih (k + 1) false true _ _ M3 m v2 b k' o' hm' hk1 (fun q => absurd q (by decide)) (pd_QF (pd_QF (n3 hk1) p3) u3) u2 (by rw [pd_ul, List.length_append]; show H.length + (o.length + 1) ≤ k + 1; omega) hY
          exact pd_Em r (pd_Gt G1 (pd_Gt (pd_GF p3) (pd_GF u3)))
        by_cases c : 0 ≤ tk k
        · rw [if_pos (t1.mpr c)]
          unfold fx_X12_eRead_38
          rw [if_pos (t1.mpr c)]
          exact fin _ (by rw [n5.2.2.1 c]; exact (if_pos c).symm)
        · have cn := h1.resolve_left c
          rw [if_neg (fun q => c (t1.mp q)), if_pos (t2.mpr cn)]
          unfold fx_X12_eRead_38
          rw [if_neg (fun q => c (t1.mp q))]
          refine fin _ ?_
          rw [n5.2.2.2.1 cn]
          rcases n5.1 with ⟨j, hj, hj2⟩ | hx
          · exact absurd (hj2 ▸ pd_n0 hj) c
          · exact ((pd_nm _ hx cn).2).symm
      · rw [if_neg (fun q => h1 (Or.inl (t1.mp q))), if_neg (fun q => h1 (Or.inr (t2.mp q)))]
        by_cases c8 : tk k = -8
        · rw [if_pos (t6.mpr c8)]
          cases mn with
          | true =>
            rw [if_neg h1, if_pos ⟨c8, rfl⟩] at hY
            have v1 : v2 = 1 := hv rfl
            subst v1
            rw [if_neg (by decide)]
            exact hop 13 true 1 (Or.inr (Or.inl rfl)) rfl (by rw [c8]; decide) hY
          | false =>
            have v0 : v2 = 0 := hv rfl
            subst v0
            rw [if_pos rfl]
            exact h99 (Or.inr rfl) h1
        · rw [if_neg (fun q => c8 (t6.mp q))]
          exact h99 (Or.inl c8) h1
    | false =>
      rw [py_YF] at hY
      have e : fx_X12_eRead_14 (m + 1) (if false = true then 1 else 0) v2 M = (if (sm_token M1) = (59 : Int32) then am_bd (fx_X12_unwinds (1 : Int32) M1) (fun q16 => (if (sm_heldMany q16) = 0 then some (((1 : Int32), q16)) else some (((0 : Int32), q16)))) else (if (sm_token M1) = (41 : Int32) then am_bd (fx_X12_unwinds (1 : Int32) M1) (fun q11 => (if (sm_heldMany q11) = 0 then some (((0 : Int32), q11)) else am_bd (fx_X12_unwinds (7 : Int32) (um_opens (um_heldMany q11 ((sm_heldMany q11) - (1 : Int32))) ((sm_opens q11) - (1 : Int32)))) (fun q14 => fx_X12_eRead_14 m 0 v2 q14))) else (if (fx_X12_signOf M1) = (-1 : Int32) then some (((0 : Int32), M1)) else am_bd (fx_X12_between (fx_X12_signOf M1) M1) (fun q7 => (if q7.1 = 0 then some (((0 : Int32), q7.2)) else (if (12 : Int32) < (fx_X12_signOf M1) then fx_X12_eRead_14 m (1 : Int32) (0 : Int32) q7.2 else fx_X12_eRead_14 m (1 : Int32) (1 : Int32) q7.2)))))) := by
        rw [if_neg (by decide), fx_X12_eRead_14, n1, pz_bd, if_pos rfl]
      rw [e]
      have hfail : ∀ M2, pd_F t M1 M2 → pd_E z tape ps pl N t (some ((0 : Int32), M2)) M false k [] := fun M2 f => ⟨M2, rfl, pd_Gt G1 (pd_GF f), fun q => absurd q (by decide), fun _ => by
        have : sm_begun M2 = sm_begun M1 := f.1.1 7 (by decide)
        rw [this]; exact n4⟩
      obtain ⟨M2, u1, u2, u3⟩ := pd_uw (t := t) (r := 1) (by decide) H am_fu o M1 (by omega) fu hc1
      have ul := pd_ul (r := 1) H o
      by_cases c59 : tk k = -59
      · rw [if_pos c59] at hY
        rw [if_pos (t59.mpr c59)]
        have hk1 := hE k kN (by rw [c59]; decide)
        unfold fx_X12_unwinds
        rw [show (1 : Int32) = nI 1 from rfl, u1, pz_bd]
        cases hH : py_u 1 H o with
        | mk X o2 =>
          rw [hH] at hY u2
          cases X with
          | nil =>
            cases hY
            have hz : sm_heldMany M2 = 0 := u2.1.1
            rw [if_pos hz]
            exact ⟨M2, rfl, pd_Gt G1 (pd_GF u3), fun _ => ⟨hk1, pd_QF (n3 hk1) u3, u2⟩, fun q => absurd q (by decide)⟩
          | cons x X =>
            cases hY
            rw [hH] at ul
            have ul' : X.length + 1 + _ = _ := ul
            have hz : sm_heldMany M2 = nI (X.length + 1) := u2.1.1
            have hz' : ¬ sm_heldMany M2 = 0 := by
              rw [hz]
              exact fun q => absurd ((nI_eq (b := 0) (by omega) (by decide)).mp q) (by omega)
            rw [if_neg hz']
            exact hfail M2 u3
      · rw [if_neg c59] at hY
        rw [if_neg (fun q => c59 (t59.mp q))]
        by_cases c41 : tk k = -41
        · rw [if_pos c41] at hY
          rw [if_pos (t41.mpr c41)]
          have hk1 := hE k kN (by rw [c41]; decide)
          unfold fx_X12_unwinds
          rw [show (1 : Int32) = nI 1 from rfl, u1, pz_bd]
          cases hH : py_u 1 H o with
          | mk X o2 =>
            rw [hH] at hY u2 ul
            cases X with
            | nil =>
              cases hY
              have hz : sm_heldMany M2 = 0 := u2.1.1
              rw [if_pos hz]
              exact hfail M2 u3
            | cons x X =>
              have ul' : X.length + 1 + _ = _ := ul
              have hz : sm_heldMany M2 = nI (X.length + 1) := u2.1.1
              have hz' : ¬ sm_heldMany M2 = 0 := by
                rw [hz]
                exact fun q => absurd ((nI_eq (b := 0) (by omega) (by decide)).mp q) (by omega)
              rw [if_neg hz']
              obtain ⟨⟨a1, a2, a3⟩, a4, a5⟩ := id u2
              have x20 := a3 x (List.mem_cons_self ..)
              have rx := py_uh (r := 1) (x := x) H X o (by rw [hH])
              have x0 := py_r0 x (by omega) (by omega) rx
              subst x0
              have opl := pd_opl X
              have ho : sm_opens M2 = nI (py_op X + 1) := by rw [a4, py_op1 (Or.inl rfl)]
              have C3 : pd_C t X o2 (um_opens (um_heldMany M2 (sm_heldMany M2 - nI 1)) (sm_opens M2 - nI 1)) := by
                rw [hz, ho, pz_sub (by omega), pz_sub (by omega), Nat.add_sub_cancel, Nat.add_sub_cancel]
                exact ⟨⟨rfl, a2.2, fun y hy => a3 y (List.mem_cons_of_mem _ hy)⟩, rfl, a5⟩
              have F3 : pd_F t M2 (um_opens (um_heldMany M2 (sm_heldMany M2 - nI 1)) (sm_opens M2 - nI 1)) := ⟨pm_fs (j := 11) (S' := um_heldMany M2 _) (pm_fs (j := 10) (S' := M2) pm_fr (by decide)) (by decide), fun _ _ => rfl⟩
              obtain ⟨M4, w1, w2, w3⟩ := pd_uw (t := t) (r := 7) (by decide) X am_fu o2 _ (by simp only [] at ul'; omega) (by have : am_fu = 1000000 := rfl; simp only [] at ul'; omega) C3
              rw [show (7 : Int32) = nI 7 from rfl, w1, pz_bd]
              have r := ih (k + 1) false true _ _ M4 m v2 b k' o' hm' hk1 (fun q => absurd q (by decide)) (pd_QF (pd_QF (pd_QF (n3 hk1) u3) F3) w3) w2 (by rw [pd_ul]; simp only [] at ul'; omega) hY
              exact pd_Em r (pd_Gt G1 (pd_Gt (pd_GF u3) (pd_Gt (pd_GF F3) (pd_GF w3))))
        · rw [if_neg c41] at hY
          rw [if_neg (fun q => c41 (t41.mp q)), pd_sg n5]
          by_cases c0 : py_sg (tk k) = 0
          · rw [if_pos c0] at hY
            rw [if_pos c0, if_pos rfl]
            cases hY
            exact hfail M1 pd_Fr
          · rw [if_neg c0] at hY
            rw [if_neg c0]
            have sr := pd_sr c0
            have hk1 := hE k kN (fun q => c0 (by rw [q]; rfl))
            have nm1 : ¬ nI (py_sg (tk k)) = (-1 : Int32) := fun q => by
              have := pz_neg1 (a := py_sg (tk k)) (by omega)
              exact (this ▸ (show nI (py_sg (tk k)) = -(nI 1) from q) : False)
            rw [if_neg nm1]
            obtain ⟨b1, b2, b3⟩ := pd_btw hc1 (by omega) sr
            by_cases c4 : py_r (py_sg (tk k)) = 4
            · rw [if_pos c4] at hY
              by_cases ct : py_tp (py_u 5 H o).1 = 4
              · rw [if_pos ct] at hY
                cases hY
                obtain ⟨M3, q1, q2⟩ := b1 c4 ct
                rw [q1, pz_bd]
                exact hfail M3 q2
              · rw [if_neg ct] at hY
                obtain ⟨M3, q1, q2, q3⟩ := b2 c4 ct
                rw [q1, pz_bd, if_neg (show ¬ ((1 : Int32), M3).1 = 0 from (by decide : ¬ (1 : Int32) = 0))]
                have s12 : 12 < py_sg (tk k) := by
                  rcases py_sgo (tk k) with q | ⟨-, q⟩ | ⟨-, q⟩ | ⟨-, q⟩ | ⟨-, q⟩ | ⟨-, q⟩ | ⟨-, q⟩ | ⟨-, q⟩
                  · exact absurd q c0
                  · rw [q] at c4; exact absurd c4 (by decide)
                  · rw [q] at c4; exact absurd c4 (by decide)
                  all_goals (rw [q]; decide)
                have l12 : (12 : Int32) < nI (py_sg (tk k)) := nI_lt (a := 12) s12 (by omega)
                rw [if_pos l12]
                have r := ih (k + 1) true false _ _ M3 m 0 b k' o' hm' hk1 (fun _ => rfl) (pd_QF (n3 hk1) q3) q2 (by show (py_u 5 H o).1.length + 1 + _ ≤ _; have := pd_ul (r := 5) H o; omega) hY
                exact pd_Em r (pd_Gt G1 (pd_GF q3))
            · rw [if_neg c4] at hY
              obtain ⟨M3, q1, q2, q3⟩ := b3 c4
              rw [q1, pz_bd, if_neg (show ¬ ((1 : Int32), M3).1 = 0 from (by decide : ¬ (1 : Int32) = 0))]
              have ll : (py_sg (tk k) :: (py_u (py_r (py_sg (tk k))) H o).1).length + (py_u (py_r (py_sg (tk k))) H o).2.length ≤ k + 1 := by
                show (py_u (py_r (py_sg (tk k))) H o).1.length + 1 + _ ≤ _
                have := pd_ul (r := py_r (py_sg (tk k))) H o
                omega
              by_cases s12 : 12 < py_sg (tk k)
              · have l12 : (12 : Int32) < nI (py_sg (tk k)) := nI_lt (a := 12) s12 (by omega)
                rw [if_pos l12]
                have r := ih (k + 1) true (decide (py_sg (tk k) ≤ 12)) _ _ M3 m 0 b k' o' hm' hk1 (fun _ => by rw [decide_eq_false (by omega)]; rfl) (pd_QF (n3 hk1) q3) q2 ll hY
                exact pd_Em r (pd_Gt G1 (pd_GF q3))
              · have l12 : ¬ (12 : Int32) < nI (py_sg (tk k)) := fun q => s12 ((nI_ltI (a := 12) (by decide) (by omega)).mp q)
                rw [if_neg l12]
                have r := ih (k + 1) true (decide (py_sg (tk k) ≤ 12)) _ _ M3 m 1 b k' o' hm' hk1 (fun _ => by rw [decide_eq_true (by omega)]; rfl) (pd_QF (n3 hk1) q3) q2 ll hY
                exact pd_Em r (pd_Gt G1 (pd_GF q3))
