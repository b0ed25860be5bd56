/-! ===== text ===== -/
def pv_U (t : Nat) (S S' : sx_T) : Prop := px_f [9, 10, 12, 13, 14] [10, 11, 12, 15, 16] S S' ∧ (∀ i, i < 160 * t → sx_tx_steps S' i = sx_tx_steps S i) ∧ ∀ i, i < 3 * t → sx_tx_ends S' i = sx_tx_ends S i ∧ sx_tx_named S' i = sx_tx_named S i
theorem pv_UF {t : Nat} {S S' S'' : sx_T} (h : pv_U t S S') (h' : pv_F t S' S'') : pv_U t S S'' := ⟨px_ft h.1 (px_fm h'.1 (by decide) (by decide)), fun i hi => (h'.2.1 i hi).trans (h.2.1 i hi), fun i hi => ⟨(h'.2.2 i hi).1.trans (h.2.2 i hi).1, (h'.2.2 i hi).2.trans (h.2.2 i hi).2⟩⟩
/-- the class begins to read -/
theorem pv_beg {z N t : Nat} {ps pl : Nat → Nat} {tk : Nat → Int32} {S : sx_T} (hz : z ≤ 160) (h6 : t < 6) (hs : sx_rd_size S = nI z) (hc : sx_tx_count S = nI t) (hL : pk_L (sx_rd_tape S) z 0 ps pl tk N) : ∃ S1, fx_X4_findTokens S = some S1 ∧ pc_C tk N t 0 0 [] (fx_X8_start (fx_X4_advance (ux_rd_seen S1 (-1)))) ∧ pv_U t S (fx_X8_start (fx_X4_advance (ux_rd_seen S1 (-1)))) ∧ ∀ i, i < N → sx_rd_places (fx_X8_start (fx_X4_advance (ux_rd_seen S1 (-1)))) i = nI (pl i) := by
  obtain ⟨S1, r1, ⟨k1, k2⟩, r3⟩ := pk_all hz hs hL
  obtain ⟨N2, -, -, -, -⟩ := pk_Lp hz hL
  have N1 : 1 ≤ N := hL.2.1
  have c1 : sx_tx_count S1 = nI t := (r3.1 8 (by decide)).trans hc
  have e : fx_X8_start (fx_X4_advance (ux_rd_seen S1 (-1))) = ux_tx_names (ux_tx_written (ux_rd_token (ux_rd_seen (ux_rd_seen S1 (-1)) (nI 0)) (tk 0)) (nI (160 * t))) 0 := by
    have e1 : fx_X4_advance (ux_rd_seen S1 (-1)) = ux_rd_token (ux_rd_seen (ux_rd_seen S1 (-1)) (nI 0)) (tk 0) := by
      have g1 : sx_rd_known (ux_rd_seen S1 (-1)) = nI N := k1
      have g2 : sx_rd_seen (ux_rd_seen S1 (-1)) = -1 := rfl
      have g3 : sx_rd_tokens (ux_rd_seen S1 (-1)) = sx_rd_tokens S1 := rfl
      unfold fx_X4_advance
      rw [g1, g2, g3, show (-1 : Int32) + 1 = nI 0 by decide, if_neg (nI_ge (by omega) (by omega)), pz_rd (by decide) (by decide), (k2 0 (by omega)).1]
    rw [e1]
    unfold fx_X8_start
    have g4 : sx_tx_count (ux_rd_token (ux_rd_seen (ux_rd_seen S1 (-1)) (nI 0)) (tk 0)) = nI t := c1
    rw [g4, show nI t * (160 : Int32) = nI (t * 160) from pk_mul t 160, Nat.mul_comm]
  refine ⟨S1, r1, ?_, ?_, ?_⟩
  · rw [e]
    exact ⟨⟨by omega, N2, k1, rfl, rfl, fun i hi => (k2 i hi).1⟩, ⟨h6, c1, rfl, Nat.le_refl _, fun i hi => absurd hi (Nat.not_lt_zero _)⟩, fun j hj hb => List.not_mem_nil⟩
  · rw [e]
    have f1 : px_f [9, 10, 12, 13, 14] [10, 11, 12, 15, 16] S1 (ux_rd_seen S1 (-1)) := px_fs (j := 14) (S' := S1) (px_fr (es := [9, 10, 12, 13, 14]) (ea := [10, 11, 12, 15, 16])) (by decide)
    have f2 : px_f [9, 10, 12, 13, 14] [10, 11, 12, 15, 16] S1 (ux_rd_seen (ux_rd_seen S1 (-1)) (nI 0)) := px_fs (j := 14) f1 (by decide)
    have f3 : px_f [9, 10, 12, 13, 14] [10, 11, 12, 15, 16] S1 (ux_rd_token (ux_rd_seen (ux_rd_seen S1 (-1)) (nI 0)) (tk 0)) := px_fs (j := 13) f2 (by decide)
    have f4 : px_f [9, 10, 12, 13, 14] [10, 11, 12, 15, 16] S1 (ux_tx_written (ux_rd_token (ux_rd_seen (ux_rd_seen S1 (-1)) (nI 0)) (tk 0)) (nI (160 * t))) := px_fs (j := 9) f3 (by decide)
    have f1 : px_f [9, 10, 12, 13, 14] [10, 11, 12, 15, 16] S1 (ux_tx_names (ux_tx_written (ux_rd_token (ux_rd_seen (ux_rd_seen S1 (-1)) (nI 0)) (tk 0)) (nI (160 * t))) 0) := px_fs (j := 10) f4 (by decide)
    exact ⟨px_ft (px_fm r3 (by decide) (by decide)) f1, fun i hi => congrFun (r3.2 10 (by decide)) i, fun i hi => ⟨congrFun (r3.2 11 (by decide)) i, congrFun (r3.2 12 (by decide)) i⟩⟩
  · rw [e]
    exact fun i hi => (k2 i hi).2
/-- the reference at the text's end -/
theorem pv_m3 {z N t k : Nat} {tape : Nat → Int32} {ps pl : Nat → Nat} {tk : Nat → Int32} {o : List Int32} {M : sm_T} (hN : pd_N z tape ps pl tk N) (kN : k < N) (hq : pd_Q z tape ps M k) (hc : pv_c t o M) (n : Nat) : (tk k ≠ -1 → ∃ M', fx_X12_text_26 (n + 1) 1 (nI 3) M = some (-100 - nI (pl k), M') ∧ pv_E t M M') ∧ (tk k = -1 → ∃ M1, pm_f [6, 7, 8, 9] [] M M1 ∧ fx_X12_text_26 (n + 1) 1 (nI 3) M = some (nI t, um_texts (um_taped (um_starts M1 (upd (sm_starts M1) (4 * t + 3) (nI o.length))) 0) (nI (t + 1)))) := by
  obtain ⟨c1, c2, c3, c4⟩ := id hc
  obtain ⟨M1, n1, n2, n3, n4, n5⟩ := hN k M kN hq
  have G1 : pv_G t M M1 := pv_Gd (pd_GN n2)
  have t1 : sm_texts M1 = nI t := (n2.1 3 (by decide)).trans c2
  have o1 : sm_out M1 = nI o.length := (n2.1 12 (by decide)).trans c3
  obtain ⟨-, -, -, -, -, -, -, -, t0⟩ := pd_tt n5.1
  rw [← n5.2.1] at t0
  have e : fx_X12_text_26 (n + 1) 1 (nI 3) M = (if (sm_token M1) = 0 then fx_X12_text_121 (1 : Int32) M1 else fx_X12_text_121 (0 : Int32) M1) := by
    rw [fx_X12_text_26, if_pos (by decide)]
    unfold fx_X12_text_101
    rw [if_neg (by decide), n1, pz_bd]
  constructor
  · intro hk
    rw [e, if_neg (fun q => hk (t0.mp q))]
    unfold fx_X12_text_121
    rw [(pv_122 t1 c1).1, n4]
    exact ⟨_, rfl, pv_EG G1 pv_E0⟩
  · intro hk
    rw [e, if_pos (t0.mpr hk)]
    unfold fx_X12_text_121
    rw [(pv_122 t1 c1).2, o1]
    exact ⟨M1, n2, rfl⟩
/-! the class's parts, named -/
def pv_b3 (S : sx_T) : Option (Int32 × sx_T) := if sx_rd_token S = (-1 : Int32) then some ((-1 : Int32), S) else some (am_rd 161 (sx_rd_places S) (sx_rd_seen S), S)
def pv_b2 (S : sx_T) : Option (Int32 × sx_T) := am_bd (fx_X4_readPart (-3 - nI 2) (nI 2) S) (fun q => if q.1 = 0 then some (am_rd 161 (sx_rd_places q.2) (sx_rd_seen q.2), q.2) else pv_b3 q.2)
def pv_b1 (S : sx_T) : Option (Int32 × sx_T) := am_bd (fx_X4_readPart (-3 - nI 1) (nI 1) S) (fun q => if q.1 = 0 then some (am_rd 161 (sx_rd_places q.2) (sx_rd_seen q.2), q.2) else pv_b2 q.2)
def pv_b0 (S : sx_T) : Option (Int32 × sx_T) := am_bd (fx_X4_readPart (-3 - nI 0) (nI 0) S) (fun q => if q.1 = 0 then some (am_rd 161 (sx_rd_places q.2) (sx_rd_seen q.2), q.2) else pv_b1 q.2)
theorem pv_fa (S : sx_T) : fx_X4_fault S = am_bd (fx_X4_findTokens S) (fun q1 => pv_b0 (fx_X8_start (fx_X4_advance (ux_rd_seen q1 (-1 : Int32))))) := by
  have i0 : ∀ (x y : Option (Int32 × sx_T)), (if (0 : Int32) = 0 then x else y) = x := fun x y => if_pos rfl
  have i1 : ∀ (x y : Option (Int32 × sx_T)), (if (1 : Int32) = 0 then x else y) = y := fun x y => if_neg (by decide)
  have l0 : (-3 : Int32) - nI 0 = -3 := by decide
  have l1 : (-3 : Int32) - nI 1 = -4 := by decide
  have l2 : (-3 : Int32) - nI 2 = -5 := by decide
  unfold fx_X4_fault pv_b0 pv_b1 pv_b2 pv_b3
  simp only [pz_let, i0, i1, l0, l1, l2]
  rfl
/-- what is answered -/
def pv_an (r : Option (Int32 × sx_T)) : Option (Int32 × sx_T) := am_bd r (fun q2 => (if q2.1 < 0 then some (((sx_tx_count q2.2), (ux_tx_count (ux_rd_size q2.2 (0 : Int32)) ((sx_tx_count q2.2) + (1 : Int32))))) else some ((((-100 : Int32) - q2.1), (ux_rd_size q2.2 (0 : Int32))))))
def pv_go (rf : Option (Int32 × sx_T)) (rm : Option (Int32 × sm_T)) : Prop := ∃ r S' M', pv_an rf = some (r, S') ∧ rm = some (r, M') ∧ px_R S' M'
theorem pv_10 {S : sx_T} : ¬ ((1 : Int32), S).1 = 0 := (by decide : ¬ (1 : Int32) = 0)
/-- all old texts, and what is the same -/
theorem pv_lw {T T' : Nat → Nat → List Int32} {q q' : Nat} {S S' : sx_T} {M M' : sm_T} (h : pr_law T S M) (hq : sx_tx_count S = nI q) (hqq : q ≤ q') (q7 : q' < 7) (U : px_f [8, 9, 10, 11, 12, 13, 14] [10, 11, 12, 15, 16] S S') (m4 : sm_rule M' = sm_rule M) (hc : sx_tx_count S' = nI q') (hm : sm_texts M' = nI q') (ht : pr_tx T' q' S' M') : pr_law T' S' M' := by
  obtain ⟨p, p7, pc, pm, hnow, hkept, htx⟩ := h
  have e : p = q := (nI_eq (by omega) (by omega)).mp (pc.symm.trans hq)
  subst e
  have x3 : sx_now_law S' = sx_now_law S := U.1 4 (by decide)
  have x0 : sx_imageKept S' = sx_imageKept S := U.1 0 (by decide)
  have x7 : sx_kept_law S' = sx_kept_law S := U.1 7 (by decide)
  refine ⟨q', q7, hc, hm, ?_, ?_, ht⟩
  · rw [x3, m4]
    obtain ⟨⟨j, j1, j2⟩, k⟩ := hnow
    exact ⟨⟨j, by omega, j2⟩, k⟩
  · rw [x0, x7]
    intro w
    obtain ⟨j, j1, j2⟩ := hkept w
    exact ⟨j, by omega, j2⟩
theorem pq_text : lq_text px_R := by
  intro S M h
  obtain ⟨T, hQ⟩ := h
  have hlaw := hQ.2.1
  obtain ⟨q, q7, hc, hm, -, -, htx⟩ := id hlaw
  obtain ⟨z, hz, hs, ht, hti⟩ := hQ.2.2.2.2.2.1
  unfold lx_text lm_text fx_X11_text fx_X12_text
  rw [hc, hm]
  by_cases q6 : q = 6
  · subst q6
    rw [if_neg (by decide), if_pos (by decide)]
    exact ⟨_, _, _, rfl, rfl, T, hQ⟩
  have h6 : q < 6 := by omega
  rw [if_pos (show nI q < (6 : Int32) from nI_lt (b := 6) h6 (by decide)), if_neg (show ¬ nI q = (6 : Int32) from fun w => q6 ((nI_eq (b := 6) (by omega) (by decide)).mp w))]
  obtain ⟨ps, pl, tk, N, hL⟩ := pk_Lx (sx_rd_tape S) z z 0 (Nat.zero_add _)
  obtain ⟨N2, hE, hT, hp, hend⟩ := pk_Lp (by omega) hL
  have hN := pk_pN (by omega) hL
  obtain ⟨S1, r1, C0, U0, P0⟩ := pv_beg (by omega) h6 hs hc hL
  have N0 : 0 < N := C0.1.1
  have Q0 : pd_Q z (sx_rd_tape S) ps (um_out (um_at M 0) 0) 0 := ⟨ht, hti, by rw [hL.1]; rfl⟩
  have c0 : pv_c q [] (um_out (um_at M 0) 0) := ⟨h6, hm, rfl, fun i hi => absurd hi (Nat.not_lt_zero _)⟩
  have fM : pm_f [6, 12] [] M (um_out (um_at M 0) 0) := pm_fs (j := 12) (S' := um_at M 0) (pm_fs (j := 6) (S' := M) pm_fr (by decide)) (by decide)
  rw [pv_fa, r1, pz_bd]
  generalize fx_X8_start (fx_X4_advance (ux_rd_seen S1 (-1))) = S3 at *
  have cM : ∀ i, sm_codes (um_out (um_at M 0) 0) i = sm_codes M i := fun _ => rfl
  have sM : ∀ i, sm_starts (um_out (um_at M 0) 0) i = sm_starts M i := fun _ => rfl
  generalize um_out (um_at M 0) 0 = M0 at *
  -- a fault
  have bad : ∀ S' k' M', sx_rd_seen S' = nI k' → k' < N → pv_F q S3 S' → pv_E q M0 M' → pv_go (some (am_rd 161 (sx_rd_places S') (sx_rd_seen S'), S')) (some (-100 - nI (pl k'), M')) := by
    intro S' k' M' h1 h2 h3 h4
    have pp : sx_rd_places S' = sx_rd_places S3 := h3.1.2 16 (by decide)
    have U := pv_UF U0 h3
    have x8 : sx_tx_count S' = sx_tx_count S := U.1.1 8 (by decide)
    have m4 : sm_rule M' = sm_rule M := (h4.1.1 4 (by decide)).trans (fM.1 4 (by decide))
    have m3 : sm_texts M' = sm_texts M := (h4.1.1 3 (by decide)).trans (fM.1 3 (by decide))
    have e : pv_an (some (am_rd 161 (sx_rd_places S') (sx_rd_seen S'), S')) = some (-100 - nI (pl k'), ux_rd_size S' 0) := by
      unfold pv_an
      rw [h1, pp, pz_rd (by omega) (by decide), P0 k' h2, pz_bd, if_neg (show ¬ (nI (pl k'), S').1 < 0 from nI_pos (by have := hp k' h2; omega))]
    have fx : px_f [8, 9, 10, 11, 12, 13, 14] [10, 11, 12, 15, 16] S (ux_rd_size S' 0) := px_fs (j := 11) (S' := S') (px_fm U.1 (by decide) (by decide)) (by decide)
    exact ⟨_, _, _, e, rfl, pv_R (T' := T) hQ fx (pm_ft (pm_fm fM (by decide) (by decide)) (pm_fm h4.1 (by decide) (by decide))) rfl h4.2.2.2 (pv_lw hlaw hc (Nat.le_refl _) q7 fx m4 (x8.trans hc) (m3.trans hm) (fun t htq => pv_old (S' := ux_rd_size S' 0) (htx t htq) htq U.2.1 U.2.2 (fun i hi => (h4.2.1 i hi).trans (cM i)) (fun i hi => (h4.2.2.1 i hi).trans (sM i))))⟩
  obtain ⟨n, hn⟩ : ∃ n, am_fu = n + 6 := ⟨999994, rfl⟩
  rw [hn]
  show pv_go (pv_b0 S3) (fx_X12_text_26 (n + 6) 1 (nI 0) M0)
  -- first part
  obtain ⟨m1, m2⟩ := pv_m (v := 0) hN hE N2 (by decide) N0 Q0 c0 (Nat.le_refl _)
  unfold pv_b0
  rcases pv_x (v := 0) (a1 := -3 - nI 0) hE hT (by decide) (by decide) C0 with ⟨w1, w2⟩ | ⟨w1, w2, c, S4, k4, k4N, cb, F4, ⟨x1, x2, x3⟩ | ⟨A, x1, okA, x3, C4, eA, nA, xA⟩⟩
  · obtain ⟨M', g1, g2⟩ := m1 w1 (n + 4)
    rw [w2, pz_bd, if_pos rfl, g1]
    exact bad _ _ _ C0.1.2.2.2.1 N0 pv_Fr g2
  · obtain ⟨M', g1, g2⟩ := (m2 w1 c false k4 [] cb x3).1 rfl (n + 4)
    rw [x1, pz_bd, if_pos rfl, g1]
    exact bad _ _ _ x2 k4N F4 g2
  obtain ⟨M4, g1, GA, Q4, c4, sA⟩ := (m2 w1 c true k4 _ cb x3).2 rfl
  have g1 : fx_X12_text_26 (n + 6) 1 (nI 0) M0 = fx_X12_text_26 (n + 5) 1 (nI 1) M4 := g1 (n + 5)
  rw [List.nil_append] at C4 eA c4
  rw [x1, pz_bd, if_neg pv_10, g1]
  clear m1 m2 x1 x3 g1 w1 w2 cb C0 c0 Q0
  have l4 : A.length ≤ k4 := C4.2.1.2.2.2.1
  -- second part
  obtain ⟨m1, m2⟩ := pv_m (v := 1) hN hE N2 (by decide) k4N Q4 c4 l4
  show pv_go (pv_b1 S4) _
  unfold pv_b1
  rcases pv_x (v := 1) (a1 := -3 - nI 1) hE hT (by decide) (by decide) C4 with ⟨w1, w2⟩ | ⟨w1, w2, c, S5, k5, k5N, cb, F5, ⟨x1, x2, x3⟩ | ⟨B, x1, okB, x3, C5, eB, nB, xB⟩⟩
  · obtain ⟨M', g1, g2⟩ := m1 w1 (n + 3)
    rw [w2, pz_bd, if_pos rfl, g1]
    exact bad _ _ _ C4.1.2.2.2.1 k4N F4 (pv_EG GA g2)
  · obtain ⟨M', g1, g2⟩ := (m2 w1 c false k5 [] cb x3).1 rfl (n + 3)
    rw [x1, pz_bd, if_pos rfl, g1]
    exact bad _ _ _ x2 k5N (pv_Ft F4 F5) (pv_EG GA g2)
  obtain ⟨M5, g1, GB, Q5, c5, sB⟩ := (m2 w1 c true k5 _ cb x3).2 rfl
  have g1 : fx_X12_text_26 (n + 5) 1 (nI 1) M4 = fx_X12_text_26 (n + 4) 1 (nI 2) M5 := g1 (n + 4)
  rw [x1, pz_bd, if_neg pv_10, g1]
  clear m1 m2 x1 x3 g1 w1 w2 cb
  have l5 : (A ++ B).length ≤ k5 := C5.2.1.2.2.2.1
  -- third part
  obtain ⟨m1, m2⟩ := pv_m (v := 2) hN hE N2 (by decide) k5N Q5 c5 l5
  show pv_go (pv_b2 S5) _
  unfold pv_b2
  have F45 := pv_Ft F4 F5
  have GAB := pv_Gt GA GB
  rcases pv_x (v := 2) (a1 := -3 - nI 2) hE hT (by decide) (by decide) C5 with ⟨w1, w2⟩ | ⟨w1, w2, c, S6, k6, k6N, cb, F6, ⟨x1, x2, x3⟩ | ⟨C, x1, okC, x3, C6, eC, nC, xC⟩⟩
  · obtain ⟨M', g1, g2⟩ := m1 w1 (n + 2)
    rw [w2, pz_bd, if_pos rfl, g1]
    exact bad _ _ _ C5.1.2.2.2.1 k5N F45 (pv_EG GAB g2)
  · obtain ⟨M', g1, g2⟩ := (m2 w1 c false k6 [] cb x3).1 rfl (n + 2)
    rw [x1, pz_bd, if_pos rfl, g1]
    exact bad _ _ _ x2 k6N (pv_Ft F45 F6) (pv_EG GAB g2)
  obtain ⟨M6, g1, GC, Q6, c6, sC⟩ := (m2 w1 c true k6 _ cb x3).2 rfl
  have g1 : fx_X12_text_26 (n + 4) 1 (nI 2) M5 = fx_X12_text_26 (n + 3) 1 (nI 3) M6 := g1 (n + 3)
  rw [x1, pz_bd, if_neg pv_10, g1]
  clear m1 m2 x1 x3 g1 w1 w2 cb
  have l6 : (A ++ B ++ C).length ≤ k6 := C6.2.1.2.2.2.1
  have F46 := pv_Ft F45 F6
  have GAC := pv_Gt GAB GC
  -- the end
  obtain ⟨m1, m2⟩ := pv_m3 hN k6N Q6 c6 (n + 2)
  show pv_go (pv_b3 S6) _
  unfold pv_b3
  have tS : sx_rd_token S6 = tk k6 := C6.1.2.2.2.2.1
  rw [tS]
  by_cases e1 : tk k6 = -1
  · obtain ⟨M7, f7, g1⟩ := m2 e1
    rw [if_pos e1, g1]
    have U := pv_UF U0 F46
    have x8 : sx_tx_count S6 = nI q := (U.1.1 8 (by decide)).trans hc
    have s7 : sm_starts M7 = upd (upd (upd (sm_starts M0) (4 * q + 0) (nI 0)) (4 * q + 1) (nI A.length)) (4 * q + 2) (nI (A ++ B).length) := by
      have : sm_starts M7 = sm_starts M6 := f7.2 6 (by decide)
      rw [this, sC, sB, sA]
      rfl
    have d7 : sm_codes M7 = sm_codes M6 := f7.2 5 (by decide)
    have m4 : sm_rule M7 = sm_rule M := (f7.1 4 (by decide)).trans ((GAC.1.1 4 (by decide)).trans (fM.1 4 (by decide)))
    have e : pv_an (some (-1, S6)) = some (nI q, ux_tx_count (ux_rd_size S6 0) (nI (q + 1))) := by
      unfold pv_an
      rw [pz_bd, if_pos (show ((-1 : Int32), S6).1 < 0 from (by decide : (-1 : Int32) < 0))]
      rw [x8, show nI q + (1 : Int32) = nI (q + 1) from (nI_succ _).symm]
    have fx : px_f [8, 9, 10, 11, 12, 13, 14] [10, 11, 12, 15, 16] S (ux_tx_count (ux_rd_size S6 0) (nI (q + 1))) := px_fs (j := 8) (S' := ux_rd_size S6 0) (px_fs (j := 11) (S' := S6) (px_fm U.1 (by decide) (by decide)) (by decide)) (by decide)
    have fm : pm_f [2, 3, 6, 7, 8, 9, 10, 11, 12] [5, 6, 12] M (um_texts (um_taped (um_starts M7 (upd (sm_starts M7) (4 * q + 3) (nI (A ++ B ++ C).length))) 0) (nI (q + 1))) := pm_fs (j := 3) (S' := um_taped (um_starts M7 _) 0) (pm_fs (j := 2) (S' := um_starts M7 _) (pm_fa (j := 6) (S' := M7) (pm_ft (pm_ft (pm_fm fM (by decide) (by decide)) (pm_fm GAC.1 (by decide) (by decide))) (pm_fm f7 (by decide) (by decide))) (by decide)) (by decide)) (by decide)
    refine ⟨_, _, _, e, rfl, pv_R (T' := fun t => if t = q then pv_T A B C else T t) hQ fx fm rfl rfl (pv_lw hlaw hc (Nat.le_succ q) (by omega) fx m4 rfl rfl (fun t htq => ?_))⟩
    by_cases tq : t = q
    · rw [tq, if_pos rfl]
      have a1 : sx_tx_ends S6 (3 * q + 0) = nI (160 * q + A.length) := (xC _ (by omega)).1.trans ((xB _ (by omega)).1.trans eA)
      have a2 : sx_tx_ends S6 (3 * q + 1) = nI (160 * q + (A ++ B).length) := (xC _ (by omega)).1.trans eB
      have b1 : sx_tx_named S6 (3 * q + 0) = sx_tx_named S4 (3 * q + 0) := (xC _ (by omega)).2.trans (xB _ (by omega)).2
      have b2 : sx_tx_named S6 (3 * q + 1) = sx_tx_named S5 (3 * q + 1) := (xC _ (by omega)).2
      refine pv_tx (by omega) okA okB okC a1 a2 eC (fun j hj hb => nA j hj (by rw [← b1]; exact hb)) (fun j hj hb => nB j hj (by rw [← b2]; exact hb)) nC ?_ ?_ ?_ pz_us C6.2.1.2.2.2.2 (fun i hi => (congrFun d7 _).trans (c6.2.2.2 i hi))
      · show upd (sm_starts M7) (4 * q + 3) _ (4 * q + 0) = nI 0
        rw [pz_un (by omega), s7, pz_un (by omega), pz_un (by omega), pz_us]
      · show upd (sm_starts M7) (4 * q + 3) _ (4 * q + 1) = nI A.length
        rw [pz_un (by omega), s7, pz_un (by omega), pz_us]
      · show upd (sm_starts M7) (4 * q + 3) _ (4 * q + 2) = nI (A ++ B).length
        rw [pz_un (by omega), s7, pz_us]
    · rw [if_neg tq]
      have tq' : t < q := by omega
      refine pv_old (S' := ux_tx_count (ux_rd_size S6 0) (nI (q + 1))) (htx t tq') tq' U.2.1 U.2.2 (fun i hi => (congrFun d7 i).trans ((GAC.2.1 i hi).trans (cM i))) (fun i hi => ?_)
      show upd (sm_starts M7) (4 * q + 3) _ i = sm_starts M i
      rw [pz_un (by omega), s7, pz_un (by omega), pz_un (by omega), pz_un (by omega)]
      exact sM i
  · obtain ⟨M', g1, g2⟩ := m1 e1
    rw [if_neg e1, g1]
    exact bad _ _ _ C6.1.2.2.2.1 k6N F46 (pv_EG GAC g2)
