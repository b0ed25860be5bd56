/-! ===== how many are there; shown; when ===== -/
def pn_pr (x : Int32) (k : Nat) : Nat → Nat
  | 0 => 0
  | d + 1 => (pb_it x k).toNat + pn_pr x (k + 1) d
def pn_pc (s : Nat) : Nat := pn_pr (nI s) 0 8
theorem pn_bc : ∀ s, s < 256 → fx_J6_bitCount_0f7a4 (nI s) = nI (pn_pc s) ∧ pn_pc s < 9 := by decide +kernel
theorem pf_co {x : Int32} {S : sm_T} : ∀ (d k g acc : Nat), k + d = 8 → d < g → fx_X12_crowdOf_4 S g x (nI acc) (nI k) = some (nI (acc + pn_pr x k d)) := by
  intro d
  induction d with
  | zero =>
    intro k g acc h1 h2
    obtain ⟨e, rfl⟩ : ∃ e, g = e + 1 := ⟨g - 1, by omega⟩
    have hk : k = 8 := by omega
    subst hk
    rw [fx_X12_crowdOf_4, if_pos (show (8 : Int32) ≤ nI 8 by decide)]
    rfl
  | succ d ih =>
    intro k g acc h1 h2
    obtain ⟨e, rfl⟩ : ∃ e, g = e + 1 := ⟨g - 1, by omega⟩
    rw [fx_X12_crowdOf_4, if_neg (show ¬ (8 : Int32) ≤ nI k from nI_ge (b := 8) (by omega) (by decide)), show nI k + 1 = nI (k + 1) from (nI_succ k).symm]
    have e1 : nI acc + (x >>> (nI k &&& 31) &&& 1) = nI (acc + (pb_it x k).toNat) := by
      rcases pb_tst x (k := k) (by omega) with ⟨b1, b2⟩ | ⟨b1, b2⟩
      · rw [b1, b2]; exact nI_add acc 0
      · rw [b1, b2]; exact nI_add acc 1
    rw [e1, ih (k + 1) e _ (by omega) (by omega), Nat.add_assoc]
    rfl
theorem pf_cr {s : Nat} (S : sm_T) : fx_X12_crowdOf (nI s) S = some (nI (pn_pc s)) := by
  have := pf_co (x := nI s) (S := S) 8 0 am_fu 0 (by omega) (by rw [pf_u]; decide)
  rw [Nat.zero_add] at this
  exact this
theorem pn_2n : ∀ n, n < 9 → (1 : Int32) <<< (nI n &&& 31) = nI (2 ^ n) ∧ 2 ^ n < 257 := by decide
theorem pb_mask {x : Int32} {b j : Nat} (hb : b < 32) (hj : j < 32) : pb_it (x &&& (((1 : Int32) <<< (nI b &&& 31)) ^^^ (-1))) j = pm_x (pb_it x) b j := by
  unfold pm_x
  have h1 : pb_it (x &&& (((1 : Int32) <<< (nI b &&& 31)) ^^^ (-1))) j = (pb_it x j && (pb_it ((1 : Int32) <<< (nI b &&& 31)) j ^^ pb_it (-1) j)) := by
    unfold pb_it
    rw [Int32.toBitVec_and, BitVec.getLsbD_and, Int32.toBitVec_xor, BitVec.getLsbD_xor]
  have h2 : ∀ j, j < 32 → pb_it (-1) j = true := by decide
  rw [h1, pb_shl hb j hj, h2 j hj]
  by_cases q : j = b
  · subst q
    rw [Nat.beq_refl]; simp
  · have : Nat.beq j b = false := by
      cases e : Nat.beq j b with
      | false => rfl
      | true => exact absurd (Nat.eq_of_beq_eq_true e) q
    rw [this]; simp [q]
/-- some of the viewers -/
theorem pn_so2 {S : sx_T} {M : sm_T} {nv : Nat} (hn : nv < 9) (n1 : sx_now_viewers S = nI nv) (n3 : sm_viewers M = nI nv) (a : Int32) : (fx_X11_areViewers a S = nI 0 ∧ fx_X12_isSome a M = nI 0) ∨ ∃ s, s < 2 ^ nv ∧ a = nI s ∧ fx_X11_areViewers a S = nI 1 ∧ fx_X12_isSome a M = nI 1 := by
  obtain ⟨p1, p2⟩ := pn_2n nv hn
  have e1 : fx_X11_areViewers a S = fx_X11_within a (nI (2 ^ nv)) := by unfold fx_X11_areViewers; rw [n1, p1]
  have e2 : fx_X12_isSome a M = fx_X12_in a (nI 0) (nI (2 ^ nv) - nI 1) := by unfold fx_X12_isSome; rw [n3, p1]; rfl
  rw [e1, e2]
  exact pn_v a (by omega)
theorem pf_shS {T : Nat → Nat → List Int32} {t s : Nat} {hr : Int32} {W : Nat → Nat} {n nv : Nat} {S S' : sx_T} {M M' : sm_T} (h : px_Q T S M) (lt : sx_now_law S = nI t) (ht : t < 6) (hnv : nv < 9) (n1 : sx_now_viewers S = nI nv) (hs : s < 256) (r : px_runH T t hr W n M S S') (m : pm_runH hr W n M M') : ∃ S2 M2, fx_X11_fillOffers (nI s) (nI (pn_pc s)) S' = some S2 ∧ fx_X12_shows (nI s) M' = some M2 ∧ px_runH T t hr W n M S S2 ∧ px_f [16, 17, 20] [13, 23, 24, 28] S' S2 ∧ pm_runH hr W n M M2 ∧ (∀ j, j < nv → pb_it (nI s) j = true → sx_offered S2 j = nI (pv_ofN T t S (pn_pc s) hr W n j)) ∧ sm_bestOne M2 = pm_i (pm_b (pv_ofN T t S (pn_pc s) hr W n) (pb_it (nI s)) nv) ∧ sm_bestOffer M2 = nI (pm_v (pv_ofN T t S (pn_pc s) hr W n) (pb_it (nI s)) nv) ∧ sm_nextOffer M2 = nI (pm_v (pv_ofN T t S (pn_pc s) hr W n) (pm_x (pb_it (nI s)) (pm_b (pv_ofN T t S (pn_pc s) hr W n) (pb_it (nI s)) nv)) nv) := by
  have hc := (pn_bc s hs).2
  obtain ⟨S2, q1, q2, q2', q3, q4⟩ := pf_fillO (some' := nI s) hnv hc n1 nv 0 am_fu S' (by omega) (by rw [pf_u]; omega) r
  have m0 : pm_runH hr W n M (um_nextOffer (um_bestOffer (um_bestOne M' (-1)) 0) 0) := ⟨pm_fs (j := 16) (S' := um_bestOffer (um_bestOne M' (-1)) 0) (pm_fs (j := 15) (S' := um_bestOne M' (-1)) (pm_fs (j := 14) (S' := M') m.1 (by decide)) (by decide)) (by decide), m.2.1, m.2.2⟩
  obtain ⟨M2, w1, w2, w3, w4, w5, w6⟩ := pf_sh (x := nI s) h lt ht hnv hc n1 nv 0 am_fu _ (by omega) (by rw [pf_u]; omega) m0 rfl rfl rfl
  refine ⟨S2, M2, q1, ?_, q2, q2', w2, fun j hj hb => ?_, w3, w4, w5⟩
  · unfold fx_X12_shows
    rw [pf_cr, pz_bd]
    exact w1
  · rw [q4 j (Nat.zero_le j) hj hb]
    exact (pv_ofE T t S hc hr W n j).1
theorem pm_rH0 {W : Nat → Nat} {n : Nat} {M M' : sm_T} (f : pm_f [13] [15] M M') (w : pm_W W n M') : pm_runH (sm_hour M) W n M M' := ⟨pm_fm f (by decide) (by decide), f.1 1 (by decide), w⟩
theorem pm_rHb {hr : Int32} {W : Nat → Nat} {n : Nat} {M M' : sm_T} (r : pm_runH hr W n M M') (e : hr = sm_hour M) : pm_f pm_es pm_ea M M' := pm_fzs r.1 (r.2.1.trans e)
theorem pq_shown : lq_shown px_R := by
  rintro S M ⟨T, h⟩ a1 a2 a3
  obtain ⟨⟨⟨nv, hnv, n1⟩, n2⟩, nh, hh2⟩ := id h.1
  rcases pq_start h a1 with ⟨M1, e, he, e1, e2, f2⟩ | ⟨s', W, n, t, S1, M1, rfl, hs', e1, e2, f1, f2', ⟨ht, lt⟩, hA, hL, ⟨wl, wy⟩, hW, -, -⟩
  · refine ⟨e, S, M1, ?_, ?_, T, px_Qf h px_fr f2⟩
    · rcases he with rfl | ⟨rfl, -⟩
      · unfold lx_shown fx_X11_shown; rw [e1, pz_bd]; exact if_neg (show ¬ (-2 : Int32) = 0 by decide)
      · unfold lx_shown fx_X11_shown; rw [e1, pz_bd]; exact if_neg (show ¬ (-11 : Int32) = 0 by decide)
    · rcases he with rfl | ⟨rfl, -⟩
      · unfold lm_shown fx_X12_shown; rw [e2, pz_bd]; exact if_neg (show ¬ (-2 : Int32) = 0 by decide)
      · unfold lm_shown fx_X12_shown; rw [e2, pz_bd]; exact if_neg (show ¬ (-11 : Int32) = 0 by decide)
  have f2 : pm_f pm_es pm_ea M M1 := pm_fm f2' (by decide) (by decide)
  have n1' : sx_now_viewers S1 = nI nv := (f1.1 2 (by decide)).trans n1
  have n3' : sm_viewers M1 = nI nv := (f2.1 0 (by decide)).trans (n2.trans n1)
  have hq1 : px_Q T S1 M1 := px_Qf h f1 f2
  have z1 : ((0 : Int32), S1).1 = 0 := rfl
  have z2 : ((0 : Int32), M1).1 = 0 := rfl
  rcases pn_so2 hnv n1' n3' a2 with ⟨k1, k2⟩ | ⟨s, hs, rfl, k1, k2⟩
  · refine ⟨-7, S1, M1, ?_, ?_, T, hq1⟩
    · unfold lx_shown fx_X11_shown; rw [e1, pz_bd, if_pos z1]; exact if_pos k1
    · unfold lm_shown fx_X12_shown; rw [e2, pz_bd, if_pos z2]; exact if_pos k2
  have x1 : ¬ fx_X11_areViewers (nI s) S1 = 0 := by rw [k1]; decide
  have y1 : ¬ fx_X12_isSome (nI s) M1 = 0 := by rw [k2]; decide
  rcases pn_w a3 3 2 rfl (by decide) with ⟨q1, q2⟩ | ⟨w, hw, rfl, q1, q2⟩
  · refine ⟨-7, S1, M1, ?_, ?_, T, hq1⟩
    · unfold lx_shown fx_X11_shown; rw [e1, pz_bd, if_pos z1, if_neg x1]; exact if_pos q1
    · unfold lm_shown fx_X12_shown; rw [e2, pz_bd, if_pos z2, if_neg y1]; exact if_pos q2
  have x2 : ¬ fx_X11_within (nI w) 3 = 0 := by rw [show fx_X11_within (nI w) 3 = nI 1 from q1]; decide
  have y2 : ¬ fx_X12_in (nI w) 0 2 = 0 := by rw [show fx_X12_in (nI w) 0 2 = nI 1 from q2]; decide
  have hs2 : s < 256 := by
    have : 2 ^ nv ≤ 2 ^ 8 := Nat.pow_le_pow_right (by decide) (by omega)
    have : (2 : Nat) ^ 8 = 256 := rfl
    omega
  obtain ⟨S2, M2, p1, p2, p3, p4, p5, p6, p7, p8, p9⟩ := pf_shS (s := s) h lt ht hnv n1 hs2 (⟨f1, hA, hL⟩ : px_runH T t (sx_now_hour S) W n M S S1) (hh2 ▸ pm_rH0 f2' hW)
  have n1'' : sx_now_viewers S2 = nI nv := (p3.1.1 2 (by decide)).trans n1
  have hf : ∀ j, j < nv → pv_ofN T t S (pn_pc s) (sx_now_hour S) W n j < 2147483648 := fun j _ => (pv_ofE T t S (pn_bc s hs2).2 _ W n j).2
  have fo := pf_fomS hnv n1'' p6 hf
  have mo := pf_most hnv n1'' p6 hf
  have fM : pm_f pm_es pm_ea M M2 := pm_rHb p5 hh2.symm
  have hw3 : w = 0 ∨ w = 1 ∨ w = 2 := by omega
  have bc : fx_J6_bitCount_0f7a4 (nI s) = nI (pn_pc s) := (pn_bc s hs2).1
  have hX : lx_shown (nI s') (nI s) (nI w) S = am_bd (fx_X11_firstOfMost (nI s) S2) (fun q8 => (if nI w = 0 then some ((q8, S2)) else (if nI w = (1 : Int32) then am_bd (fx_X11_mostOffered (nI s) S2) (fun q15 => some ((q15, S2))) else (if q8 = (-1 : Int32) then some (((0 : Int32), S2)) else am_bd (fx_X11_mostOffered (nI s &&& (((1 : Int32) <<< (q8 &&& 31)) ^^^ (-1 : Int32))) S2) (fun q13 => some ((q13, S2))))))) := by
    unfold lx_shown fx_X11_shown
    rw [e1, pz_bd, if_pos z1, if_neg x1, if_neg x2, bc, p1, pz_bd]
  have hM : lm_shown (nI s') (nI s) (nI w) M = (if nI w = 0 then some ((sm_bestOne M2), M2) else (if nI w = (1 : Int32) then some (((sm_bestOffer M2), M2)) else some (((sm_nextOffer M2), M2)))) := by
    unfold lm_shown fx_X12_shown
    rw [e2, pz_bd, if_pos z2, if_neg y1, if_neg y2, p2, pz_bd]
  rcases hw3 with rfl | rfl | rfl
  · refine ⟨sm_bestOne M2, S2, M2, hX.trans ?_, hM.trans ?_, T, px_Qf h p3.1 fM⟩
    · rw [fo, pz_bd, if_pos (show nI 0 = 0 from rfl), p7]
    · rw [if_pos (show nI 0 = 0 from rfl)]
  · refine ⟨sm_bestOffer M2, S2, M2, hX.trans ?_, hM.trans ?_, T, px_Qf h p3.1 fM⟩
    · rw [fo, pz_bd, if_neg (show ¬ nI 1 = 0 by decide), if_pos (show nI 1 = 1 from rfl), mo, pz_bd, p8]
    · rw [if_neg (show ¬ nI 1 = 0 by decide), if_pos (show nI 1 = 1 from rfl)]
  · refine ⟨sm_nextOffer M2, S2, M2, hX.trans ?_, hM.trans ?_, T, px_Qf h p3.1 fM⟩
    · rw [fo, pz_bd, if_neg (show ¬ nI 2 = 0 by decide), if_neg (show ¬ nI 2 = 1 by decide), p9]
      rcases pm_bv (f := pv_ofN T t S (pn_pc s) (sx_now_hour S) W n) (B := pb_it (nI s)) nv (by omega) with ⟨b1, b2, b3⟩ | ⟨b1, b2, b3⟩
      · rw [b1, if_pos (show pm_i 99 = -1 from rfl)]
        have : pm_v (pv_ofN T t S (pn_pc s) (sx_now_hour S) W n) (pm_x (pb_it (nI s)) 99) nv = 0 := by
          rw [← b2]
          exact pm_vc nv (fun j hj => pm_xn (by omega)) (fun _ _ _ => rfl)
        rw [this]; rfl
      · generalize hb : pm_b (pv_ofN T t S (pn_pc s) (sx_now_hour S) W n) (pb_it (nI s)) nv = b at b1 b2 b3
        have i1 : pm_i b = nI b := if_neg (by omega)
        have i2 : ¬ nI b = -1 := fun q => by
          have := pz_neg1 (a := b) (by omega)
          rw [show (-1 : Int32) = -(nI 1) from rfl, this] at q
          exact q
        have mk : ∀ j, j < nv → pb_it (nI s &&& (((1 : Int32) <<< (nI b &&& 31)) ^^^ (-1))) j = pm_x (pb_it (nI s)) b j := fun j hj => pb_mask (by omega) (by omega)
        have mo2 := pf_most (x := nI s &&& (((1 : Int32) <<< (nI b &&& 31)) ^^^ (-1))) (f := pv_ofN T t S (pn_pc s) (sx_now_hour S) W n) hnv n1'' (fun j hj hbit => by
          rw [mk j hj] at hbit
          refine p6 j hj ?_
          unfold pm_x at hbit
          rw [Bool.and_eq_true] at hbit
          exact hbit.1) hf
        rw [i1, if_neg i2, mo2, pz_bd]
        rw [pm_vc nv mk (fun _ _ _ => rfl)]
    · rw [if_neg (show ¬ nI 2 = 0 by decide), if_neg (show ¬ nI 2 = 1 by decide)]
