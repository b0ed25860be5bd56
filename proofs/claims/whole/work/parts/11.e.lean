/-! the law's loop -/
def lw_all (R : sx_T → sm_T → Prop) : Prop := lq_count R ∧ lq_hours R ∧ lq_room R ∧ lq_told R ∧ lq_feed R ∧ lq_text R ∧ lq_force R ∧ lq_asks R ∧ lq_viewer R ∧ lq_put R ∧ lq_one R ∧ lq_tour R ∧ lq_shown R ∧ lq_best R ∧ lq_when R ∧ lq_together R ∧ lq_without R ∧ lq_paint R ∧ lq_tenant R ∧ lq_waits R ∧ lq_judge R ∧ lq_kinds R ∧ lq_riches R ∧ lq_rooms R ∧ lq_laws R ∧ lq_film R ∧ lq_drawn R ∧ lq_odds R ∧ lq_image R ∧ lq_back R ∧ lq_sheet R ∧ lq_cell R ∧ lq_copy R ∧ lq_viewersBy R ∧ lq_taken R
theorem lw_loop {R : sx_T → sm_T → Prop} (hR : lw_all R) {L : Nat} {xs : Nat → Int32} (hL : L ≤ 3584) : ∀ (d n : Nat) (S : sx_T) (M : sm_T), L ≤ n + d → n ≤ L + 7 → R S M → am_G mL_law (lw_g L xs) lw_kn 18 [some (.ref 1050), some (.ref 0), some (.ref 45), some (.int (nI n))] [] (sx_w S (sm_w M)) := by
  intro d
  induction d with
  | zero =>
    intro n S M h1 h2 hr
    refine am_iload_n (pc' := 19) 3 dL_law_18 rfl rfl rfl ?_
    refine am_aload_n (pc' := 20) 0 dL_law_19 rfl rfl rfl ?_
    refine lw_len (pc' := 21) dL_law_20 rfl ?_
    refine am_bipush (pc' := 23) (v := 7) dL_law_21 kb_7 rfl ?_
    refine am_isub (pc' := 24) dL_law_23 rfl ?_
    refine am_icmp_gt (pc' := 27) 1633 dL_law_24 rfl rfl (fun _ => ?_) (fun h => absurd (lw_done (by omega) (by omega) hL) h)
    refine am_iconst (pc' := 1634) (v := 1) dL_law_1633 kc_1 rfl ?_
    exact lw_end dL_law_1634 rfl
  | succ d ih =>
    intro n S M h1 h2 hr
    refine am_iload_n (pc' := 19) 3 dL_law_18 rfl rfl rfl ?_
    refine am_aload_n (pc' := 20) 0 dL_law_19 rfl rfl rfl ?_
    refine lw_len (pc' := 21) dL_law_20 rfl ?_
    refine am_bipush (pc' := 23) (v := 7) dL_law_21 kb_7 rfl ?_
    refine am_isub (pc' := 24) dL_law_23 rfl ?_
    by_cases hn : n + 7 ≤ L
    · refine am_icmp_gt (pc' := 27) 1633 dL_law_24 rfl rfl (fun h => absurd h (lw_more hn hL)) (fun _ => ?_)
      refine am_aload_n (pc' := 28) 0 dL_law_27 rfl rfl rfl ?_
      refine am_iload_n (pc' := 29) 3 dL_law_28 rfl rfl rfl ?_
      refine lw_ld (pc' := 30) n rfl (by omega) hL dL_law_29 rfl ?_
      refine am_bipush (pc' := 32) (v := 63) dL_law_30 kb_63 rfl ?_
      refine am_iand (pc' := 33) dL_law_32 rfl ?_
      have back : ∀ (S' : sx_T) (M' : sm_T), R S' M' → am_G mL_law (lw_g L xs) lw_kn 1627 [some (.ref 1050), some (.ref 0), some (.ref 45), some (.int (nI n))] [] (sx_w S' (sm_w M')) := by
        intro S' M' hr'
        refine am_iinc (pc' := 1630) (v := nI (n + 7)) dL_law_1627 rfl (nI_add n 7) (by decide) rfl rfl rfl ?_
        refine am_goto 18 dL_law_1630 rfl ?_
        exact ih (n + 7) S' M' (by omega) (by omega) hr'
      obtain ⟨q0, q1, q2, q3, q4, q5, q6, q7, q8, q9, q10, q11, q12, q13, q14, q15, q16, q17, q18, q19, q20, q21, q22, q23, q24, q25, q26, q27, q28, q29, q30, q31, q32, q33, q34⟩ := hR
      by_cases e0 : xs n &&& 63 = 0
      · obtain ⟨r, S', M', g1, g2, g3⟩ := q0 S M hr (xs (n + 1))
        exact am_tsAt 0 188 dL_law_33 e0 (by decide) (by decide) rfl rfl (lk_count hn hL g1 g2 (back S' M' g3))
      by_cases e1 : xs n &&& 63 = 1
      · obtain ⟨r, S', M', g1, g2, g3⟩ := q1 S M hr (xs (n + 1))
        exact am_tsAt 1 211 dL_law_33 e1 (by decide) (by decide) rfl rfl (lk_hours hn hL g1 g2 (back S' M' g3))
      by_cases e2 : xs n &&& 63 = 2
      · obtain ⟨r, S', M', g1, g2, g3⟩ := q2 S M hr (xs (n + 1)) (xs (n + 2)) (xs (n + 3))
        exact am_tsAt 2 234 dL_law_33 e2 (by decide) (by decide) rfl rfl (lk_room hn hL g1 g2 (back S' M' g3))
      by_cases e3 : xs n &&& 63 = 3
      · obtain ⟨r, S', M', g1, g2, g3⟩ := q3 S M hr (xs (n + 1)) (xs (n + 2))
        exact am_tsAt 3 277 dL_law_33 e3 (by decide) (by decide) rfl rfl (lk_told hn hL g1 g2 (back S' M' g3))
      by_cases e4 : xs n &&& 63 = 4
      · obtain ⟨r, S', M', g1, g2, g3⟩ := q4 S M hr (xs (n + 1)) (xs (n + 2)) (xs (n + 3)) (xs (n + 4)) (xs (n + 5)) (xs (n + 6))
        exact am_tsAt 4 310 dL_law_33 e4 (by decide) (by decide) rfl rfl (lk_feed hn hL g1 g2 (back S' M' g3))
      by_cases e5 : xs n &&& 63 = 5
      · obtain ⟨r, S', M', g1, g2, g3⟩ := q5 S M hr 
        exact am_tsAt 5 385 dL_law_33 e5 (by decide) (by decide) rfl rfl (lk_text hn hL g1 g2 (back S' M' g3))
      by_cases e6 : xs n &&& 63 = 6
      · obtain ⟨r, S', M', g1, g2, g3⟩ := q6 S M hr (xs (n + 1))
        exact am_tsAt 6 398 dL_law_33 e6 (by decide) (by decide) rfl rfl (lk_force hn hL g1 g2 (back S' M' g3))
      by_cases e7 : xs n &&& 63 = 7
      · obtain ⟨r, S', M', g1, g2, g3⟩ := q7 S M hr (xs (n + 1)) (xs (n + 2)) (xs (n + 3)) (xs (n + 4))
        exact am_tsAt 7 421 dL_law_33 e7 (by decide) (by decide) rfl rfl (lk_asks hn hL g1 g2 (back S' M' g3))
      by_cases e8 : xs n &&& 63 = 8
      · obtain ⟨r, S', M', g1, g2, g3⟩ := q8 S M hr (xs (n + 1)) (xs (n + 2))
        exact am_tsAt 8 474 dL_law_33 e8 (by decide) (by decide) rfl rfl (lk_viewer hn hL g1 g2 (back S' M' g3))
      by_cases e9 : xs n &&& 63 = 9
      · obtain ⟨r, S', M', g1, g2, g3⟩ := q9 S M hr (xs (n + 1)) (xs (n + 2)) (xs (n + 3))
        exact am_tsAt 9 507 dL_law_33 e9 (by decide) (by decide) rfl rfl (lk_put hn hL g1 g2 (back S' M' g3))
      by_cases e10 : xs n &&& 63 = 10
      · obtain ⟨r, S', M', g1, g2, g3⟩ := q10 S M hr (xs (n + 1)) (xs (n + 2))
        exact am_tsAt 10 550 dL_law_33 e10 (by decide) (by decide) rfl rfl (lk_one hn hL g1 g2 (back S' M' g3))
      by_cases e11 : xs n &&& 63 = 11
      · obtain ⟨r, S', M', g1, g2, g3⟩ := q11 S M hr (xs (n + 1)) (xs (n + 2)) (xs (n + 3)) (xs (n + 4))
        exact am_tsAt 11 583 dL_law_33 e11 (by decide) (by decide) rfl rfl (lk_tour hn hL g1 g2 (back S' M' g3))
      by_cases e12 : xs n &&& 63 = 12
      · obtain ⟨r, S', M', g1, g2, g3⟩ := q12 S M hr (xs (n + 1)) (xs (n + 2)) (xs (n + 3))
        exact am_tsAt 12 636 dL_law_33 e12 (by decide) (by decide) rfl rfl (lk_shown hn hL g1 g2 (back S' M' g3))
      by_cases e13 : xs n &&& 63 = 13
      · obtain ⟨r, S', M', g1, g2, g3⟩ := q13 S M hr (xs (n + 1)) (xs (n + 2)) (xs (n + 3))
        exact am_tsAt 13 679 dL_law_33 e13 (by decide) (by decide) rfl rfl (lk_best hn hL g1 g2 (back S' M' g3))
      by_cases e14 : xs n &&& 63 = 14
      · obtain ⟨r, S', M', g1, g2, g3⟩ := q14 S M hr (xs (n + 1)) (xs (n + 2)) (xs (n + 3))
        exact am_tsAt 14 722 dL_law_33 e14 (by decide) (by decide) rfl rfl (lk_when hn hL g1 g2 (back S' M' g3))
      by_cases e15 : xs n &&& 63 = 15
      · obtain ⟨r, S', M', g1, g2, g3⟩ := q15 S M hr (xs (n + 1)) (xs (n + 2))
        exact am_tsAt 15 765 dL_law_33 e15 (by decide) (by decide) rfl rfl (lk_together hn hL g1 g2 (back S' M' g3))
      by_cases e16 : xs n &&& 63 = 16
      · obtain ⟨r, S', M', g1, g2, g3⟩ := q16 S M hr (xs (n + 1)) (xs (n + 2)) (xs (n + 3))
        exact am_tsAt 16 798 dL_law_33 e16 (by decide) (by decide) rfl rfl (lk_without hn hL g1 g2 (back S' M' g3))
      by_cases e17 : xs n &&& 63 = 17
      · obtain ⟨r, S', M', g1, g2, g3⟩ := q17 S M hr (xs (n + 1)) (xs (n + 2)) (xs (n + 3))
        exact am_tsAt 17 841 dL_law_33 e17 (by decide) (by decide) rfl rfl (lk_paint hn hL g1 g2 (back S' M' g3))
      by_cases e18 : xs n &&& 63 = 18
      · obtain ⟨r, S', M', g1, g2, g3⟩ := q18 S M hr (xs (n + 1)) (xs (n + 2)) (xs (n + 3))
        exact am_tsAt 18 884 dL_law_33 e18 (by decide) (by decide) rfl rfl (lk_tenant hn hL g1 g2 (back S' M' g3))
      by_cases e19 : xs n &&& 63 = 19
      · obtain ⟨r, S', M', g1, g2, g3⟩ := q19 S M hr (xs (n + 1)) (xs (n + 2)) (xs (n + 3)) (xs (n + 4))
        exact am_tsAt 19 927 dL_law_33 e19 (by decide) (by decide) rfl rfl (lk_waits hn hL g1 g2 (back S' M' g3))
      by_cases e20 : xs n &&& 63 = 20
      · obtain ⟨r, S', M', g1, g2, g3⟩ := q20 S M hr (xs (n + 1)) (xs (n + 2)) (xs (n + 3))
        exact am_tsAt 20 981 dL_law_33 e20 (by decide) (by decide) rfl rfl (lk_judge hn hL g1 g2 (back S' M' g3))
      by_cases e21 : xs n &&& 63 = 21
      · obtain ⟨r, S', M', g1, g2, g3⟩ := q21 S M hr (xs (n + 1)) (xs (n + 2)) (xs (n + 3)) (xs (n + 4))
        exact am_tsAt 21 1024 dL_law_33 e21 (by decide) (by decide) rfl rfl (lk_kinds hn hL g1 g2 (back S' M' g3))
      by_cases e22 : xs n &&& 63 = 22
      · obtain ⟨r, S', M', g1, g2, g3⟩ := q22 S M hr (xs (n + 1)) (xs (n + 2)) (xs (n + 3)) (xs (n + 4))
        exact am_tsAt 22 1077 dL_law_33 e22 (by decide) (by decide) rfl rfl (lk_riches hn hL g1 g2 (back S' M' g3))
      by_cases e23 : xs n &&& 63 = 23
      · obtain ⟨r, S', M', g1, g2, g3⟩ := q23 S M hr (xs (n + 1)) (xs (n + 2)) (xs (n + 3)) (xs (n + 4))
        exact am_tsAt 23 1130 dL_law_33 e23 (by decide) (by decide) rfl rfl (lk_rooms hn hL g1 g2 (back S' M' g3))
      by_cases e24 : xs n &&& 63 = 24
      · obtain ⟨r, S', M', g1, g2, g3⟩ := q24 S M hr (xs (n + 1)) (xs (n + 2)) (xs (n + 3))
        exact am_tsAt 24 1183 dL_law_33 e24 (by decide) (by decide) rfl rfl (lk_laws hn hL g1 g2 (back S' M' g3))
      by_cases e25 : xs n &&& 63 = 25
      · obtain ⟨r, S', M', g1, g2, g3⟩ := q25 S M hr (xs (n + 1)) (xs (n + 2)) (xs (n + 3))
        exact am_tsAt 25 1226 dL_law_33 e25 (by decide) (by decide) rfl rfl (lk_film hn hL g1 g2 (back S' M' g3))
      by_cases e26 : xs n &&& 63 = 26
      · obtain ⟨r, S', M', g1, g2, g3⟩ := q26 S M hr (xs (n + 1)) (xs (n + 2)) (xs (n + 3))
        exact am_tsAt 26 1269 dL_law_33 e26 (by decide) (by decide) rfl rfl (lk_drawn hn hL g1 g2 (back S' M' g3))
      by_cases e27 : xs n &&& 63 = 27
      · obtain ⟨r, S', M', g1, g2, g3⟩ := q27 S M hr (xs (n + 1)) (xs (n + 2)) (xs (n + 3)) (xs (n + 4))
        exact am_tsAt 27 1312 dL_law_33 e27 (by decide) (by decide) rfl rfl (lk_odds hn hL g1 g2 (back S' M' g3))
      by_cases e28 : xs n &&& 63 = 28
      · obtain ⟨r, S', M', g1, g2, g3⟩ := q28 S M hr 
        exact am_tsAt 28 1366 dL_law_33 e28 (by decide) (by decide) rfl rfl (lk_image hn hL g1 g2 (back S' M' g3))
      by_cases e29 : xs n &&& 63 = 29
      · obtain ⟨r, S', M', g1, g2, g3⟩ := q29 S M hr 
        exact am_tsAt 29 1379 dL_law_33 e29 (by decide) (by decide) rfl rfl (lk_back hn hL g1 g2 (back S' M' g3))
      by_cases e30 : xs n &&& 63 = 30
      · obtain ⟨r, S', M', g1, g2, g3⟩ := q30 S M hr (xs (n + 1)) (xs (n + 2)) (xs (n + 3))
        exact am_tsAt 30 1392 dL_law_33 e30 (by decide) (by decide) rfl rfl (lk_sheet hn hL g1 g2 (back S' M' g3))
      by_cases e31 : xs n &&& 63 = 31
      · obtain ⟨r, S', M', g1, g2, g3⟩ := q31 S M hr (xs (n + 1)) (xs (n + 2)) (xs (n + 3))
        exact am_tsAt 31 1435 dL_law_33 e31 (by decide) (by decide) rfl rfl (lk_cell hn hL g1 g2 (back S' M' g3))
      by_cases e32 : xs n &&& 63 = 32
      · obtain ⟨r, S', M', g1, g2, g3⟩ := q32 S M hr (xs (n + 1)) (xs (n + 2)) (xs (n + 3)) (xs (n + 4)) (xs (n + 5))
        exact am_tsAt 32 1478 dL_law_33 e32 (by decide) (by decide) rfl rfl (lk_copy hn hL g1 g2 (back S' M' g3))
      by_cases e33 : xs n &&& 63 = 33
      · obtain ⟨r, S', M', g1, g2, g3⟩ := q33 S M hr (xs (n + 1)) (xs (n + 2)) (xs (n + 3)) (xs (n + 4))
        exact am_tsAt 33 1541 dL_law_33 e33 (by decide) (by decide) rfl rfl (lk_viewersBy hn hL g1 g2 (back S' M' g3))
      by_cases e34 : xs n &&& 63 = 34
      · obtain ⟨r, S', M', g1, g2, g3⟩ := q34 S M hr (xs (n + 1)) (xs (n + 2))
        exact am_tsAt 34 1594 dL_law_33 e34 (by decide) (by decide) rfl rfl (lk_taken hn hL g1 g2 (back S' M' g3))
      refine am_tsOff 35 1627 dL_law_33 rfl (fun i hi h => ?_) rfl (back S M hr)
      have hh : i = 0 ∨ i = 1 ∨ i = 2 ∨ i = 3 ∨ i = 4 ∨ i = 5 ∨ i = 6 ∨ i = 7 ∨ i = 8 ∨ i = 9 ∨ i = 10 ∨ i = 11 ∨ i = 12 ∨ i = 13 ∨ i = 14 ∨ i = 15 ∨ i = 16 ∨ i = 17 ∨ i = 18 ∨ i = 19 ∨ i = 20 ∨ i = 21 ∨ i = 22 ∨ i = 23 ∨ i = 24 ∨ i = 25 ∨ i = 26 ∨ i = 27 ∨ i = 28 ∨ i = 29 ∨ i = 30 ∨ i = 31 ∨ i = 32 ∨ i = 33 ∨ i = 34 := by omega
      rcases hh with hk | hk | hk | hk | hk | hk | hk | hk | hk | hk | hk | hk | hk | hk | hk | hk | hk | hk | hk | hk | hk | hk | hk | hk | hk | hk | hk | hk | hk | hk | hk | hk | hk | hk | hk
      · subst hk; exact e0 h
      · subst hk; exact e1 h
      · subst hk; exact e2 h
      · subst hk; exact e3 h
      · subst hk; exact e4 h
      · subst hk; exact e5 h
      · subst hk; exact e6 h
      · subst hk; exact e7 h
      · subst hk; exact e8 h
      · subst hk; exact e9 h
      · subst hk; exact e10 h
      · subst hk; exact e11 h
      · subst hk; exact e12 h
      · subst hk; exact e13 h
      · subst hk; exact e14 h
      · subst hk; exact e15 h
      · subst hk; exact e16 h
      · subst hk; exact e17 h
      · subst hk; exact e18 h
      · subst hk; exact e19 h
      · subst hk; exact e20 h
      · subst hk; exact e21 h
      · subst hk; exact e22 h
      · subst hk; exact e23 h
      · subst hk; exact e24 h
      · subst hk; exact e25 h
      · subst hk; exact e26 h
      · subst hk; exact e27 h
      · subst hk; exact e28 h
      · subst hk; exact e29 h
      · subst hk; exact e30 h
      · subst hk; exact e31 h
      · subst hk; exact e32 h
      · subst hk; exact e33 h
      · subst hk; exact e34 h
    · refine am_icmp_gt (pc' := 27) 1633 dL_law_24 rfl rfl (fun _ => ?_) (fun h => absurd (lw_done (by omega) (by omega) hL) h)
      refine am_iconst (pc' := 1634) (v := 1) dL_law_1633 kc_1 rfl ?_
      exact lw_end dL_law_1634 rfl
