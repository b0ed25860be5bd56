/-! ===== waits, done ===== -/
/-- the reference goes through the numbers -/
theorem pf_waM {F : Nat → Nat} {n sk mo p N : Nat} (hn : n < 7) (hn1 : 0 < n) (hsk : sk < n) (hF : ∀ j, F j < 2147483648) (hmo : mo < 2147483648) (hN : N < 100000) : ∀ (d x so al g : Nat) (M : sm_T), x + d = N → d < g → (∀ v, v < n → sm_offerAlone M v = nI (F v)) → ∃ M', fx_X12_waits_139 g (nI n) (nI sk) (nI p) (nI mo) (nI N) (lN so) (lN al) (nI x) M = am_bd (fx_X12_lowest (lN (so + pt_cn F n sk mo ((pq_rg x d).filter (fun y => pq_v n n [] y)))) (lN (al + ((pq_rg x d).filter (fun y => pq_v n n [] y)).length)) (nI p)) (fun q => some (q, M')) ∧ pm_f [] [19] M M' := by
  intro d
  induction d with
  | zero =>
    intro x so al g M h1 h2 ho
    obtain ⟨e, rfl⟩ : ∃ e, g = e + 1 := ⟨g - 1, by omega⟩
    have hx : x = N := by omega
    subst hx
    refine ⟨M, ?_, pm_fr⟩
    rw [fx_X12_waits_139, if_pos (nI_le (Nat.le_refl x) (by omega))]
    rfl
  | succ d ih =>
    intro x so al g M h1 h2 ho
    obtain ⟨e, rfl⟩ : ∃ e, g = e + 1 := ⟨g - 1, by omega⟩
    have e3 : nI x + 1 = nI (x + 1) := (nI_succ x).symm
    obtain ⟨M1, q1, q2, q3⟩ := pf_io hn hn1 n am_fu 0 [] x M (Nat.le_refl n) (by rw [pf_u]; omega) (by omega) (fun d hd => by rw [pb_0]; rfl)
    have q1' : fx_X12_isOrder (nI x) (nI n) M = some ((if pq_v n n [] x = true then 1 else 0), M1) := q1
    have ho1 : ∀ v, v < n → sm_offerAlone M1 v = nI (F v) := fun v hv => by
      rw [show sm_offerAlone M1 = sm_offerAlone M from q2.2 18 (by decide)]; exact ho v hv
    rw [fx_X12_waits_139, if_neg (nI_ge (by omega) (by omega)), pq_rgc, List.filter_cons]
    cases hv : pq_v n n [] x with
    | false =>
      obtain ⟨M2, r1, r2⟩ := ih (x + 1) so al e M1 (by omega) (by omega) ho1
      refine ⟨M2, ?_, pm_ft q2 r2⟩
      rw [hv, if_neg (show ¬ false = true by decide)] at q1'
      rw [q1', pz_bd, if_pos (show ((0 : Int32), M1).1 = 0 from rfl), e3, if_neg (show ¬ false = true by decide)]
      exact r1
    | true =>
      obtain ⟨w1, -⟩ := q3 hv
      have hO : ∀ i, i < n → pq_de n x i < 6 ∧ sm_comer M1 i = nI (pq_de n x i) := fun i hi => ⟨by have := pq_del (x := x) (i := i) hn1; omega, w1 i hi⟩
      have tk := pf_taM (F := F) (sk := sk) (P := pq_de n x) hn hn1 hsk hO (fun i hi => ho1 _ (pq_del hn1)) n am_fu (-(nI 1)) (Nat.le_refl n) (by rw [pf_u]; omega)
      rw [Nat.sub_self] at tk
      have tk' : fx_X12_takenOf (nI n) (nI sk) M1 = some (nI (F (pt_tk2 F (pq_de n x) n sk n (-(nI 1))))) := tk
      have cn : ∀ l, pt_cn F n sk mo (x :: l) = (if F (pt_tk2 F (pq_de n x) n sk n (-(nI 1))) = mo then 1 else 0) + pt_cn F n sk mo l := fun _ => rfl
      have ln : ∀ l : List Nat, (x :: l).length = l.length + 1 := fun _ => rfl
      rw [hv, if_pos (show true = true from rfl)] at q1'
      rw [q1', pz_bd, if_neg (show ¬ ((1 : Int32), M1).1 = 0 from (by decide : ¬ (1 : Int32) = 0)), tk', pz_bd, e3, if_pos (show true = true from rfl), cn, ln, show lN al + 1 = lN (al + 1) from lN_1 al]
      by_cases c : F (pt_tk2 F (pq_de n x) n sk n (-(nI 1))) = mo
      · obtain ⟨M2, r1, r2⟩ := ih (x + 1) (so + 1) (al + 1) e M1 (by omega) (by omega) ho1
        refine ⟨M2, Eq.trans ?_ (r1.trans ?_), pm_ft q2 r2⟩
        · rw [if_pos (by rw [c]), show lN so + 1 = lN (so + 1) from lN_1 so]
        · rw [if_pos c, show so + 1 + pt_cn F n sk mo ((pq_rg (x + 1) d).filter (fun y => pq_v n n [] y)) = so + (1 + pt_cn F n sk mo ((pq_rg (x + 1) d).filter (fun y => pq_v n n [] y))) by omega, show al + 1 + ((pq_rg (x + 1) d).filter (fun y => pq_v n n [] y)).length = al + (((pq_rg (x + 1) d).filter (fun y => pq_v n n [] y)).length + 1) by omega]
      · obtain ⟨M2, r1, r2⟩ := ih (x + 1) so (al + 1) e M1 (by omega) (by omega) ho1
        refine ⟨M2, Eq.trans ?_ (r1.trans ?_), pm_ft q2 r2⟩
        · rw [if_neg (fun q => c ((nI_eq (hF _) hmo).mp q)), show lN so + 0 = lN so from lN_add so 0]
        · rw [if_neg c, Nat.zero_add, show al + 1 + ((pq_rg (x + 1) d).filter (fun y => pq_v n n [] y)).length = al + (((pq_rg (x + 1) d).filter (fun y => pq_v n n [] y)).length + 1) by omega]
/-- all orders of so many: a row of numbers that both go through -/
theorem pq_LL {n : Nat} (hn : n < 7) (hn1 : 0 < n) : ∃ x l, (pq_rg 0 (n ^ n)).filter (fun y => pq_v n n [] y) = x :: l ∧ pq_ch n (x :: l) = true ∧ l.length + 1 ≤ 720 ∧ (∀ i, i < n → pq_de n x i = i) ∧ n ^ n < 50000 := by
  have h : n = 1 ∨ n = 2 ∨ n = 3 ∨ n = 4 ∨ n = 5 ∨ n = 6 := by omega
  rcases h with rfl | rfl | rfl | rfl | rfl | rfl
  · exact ⟨_, _, (pq_all 1 (by decide)).trans (pq_e1.trans (by unfold pq_L1; rfl)), pq_c1, by decide, by decide, by decide⟩
  · exact ⟨_, _, (pq_all 2 (by decide)).trans (pq_e2.trans (by unfold pq_L2; rfl)), pq_c2, by decide, by decide, by decide⟩
  · exact ⟨_, _, (pq_all 3 (by decide)).trans (pq_e3.trans (by unfold pq_L3; rfl)), pq_c3, by decide, by decide, by decide⟩
  · exact ⟨_, _, (pq_all 4 (by decide)).trans (pq_e4.trans (by unfold pq_L4; rfl)), pq_c4, by decide +kernel, by decide, by decide⟩
  · exact ⟨_, _, (pq_all 5 (by decide)).trans (pq_e5.trans (by unfold pq_L5; rfl)), pq_c5, by decide +kernel, by decide, by decide⟩
  · exact ⟨_, _, (pq_all 6 (by decide)).trans (pq_e6.trans (by unfold pq_L6; rfl)), pq_c6, by decide +kernel, by decide, by decide⟩
/-- the most of some first ones -/
theorem pm_vn {F : Nat → Nat} {B : Nat → Bool} {n : Nat} : ∀ nv, n ≤ nv → (∀ j, j < nv → (B j = true ↔ j < n)) → pm_v F B nv = pm_v F (fun _ => true) n := by
  intro nv
  induction nv with
  | zero =>
    intro h _
    have : n = 0 := by omega
    subst this; rfl
  | succ nv ih =>
    intro h hB
    by_cases c : n ≤ nv
    · rw [pm_vS, if_neg (fun q => by have := (hB nv (by omega)).mp q; omega)]
      exact ih c (fun j hj => hB j (by omega))
    · have hn : n = nv + 1 := by omega
      subst hn
      exact pm_vc (nv + 1) (fun j hj => by
        have := (hB j hj).mpr hj
        rw [this]) (fun _ _ _ => rfl)
theorem pn_alln : ∀ n, n < 7 → ∀ j, j < 8 → pb_it (nI (2 ^ n - 1)) j = decide (j < n) := by decide
/-- the reference: the offers of the first ones, alone -/
theorem pf_wa72 {T : Nat → Nat → List Int32} {t n sk p : Nat} {W : Nat → Nat} {m : Nat} {S : sx_T} {M : sm_T} (h : px_Q T S M) (lt : sx_now_law S = nI t) (ht : t < 6) (hn : n < 7) : ∀ (d v g : Nat) (M' : sm_T), v + d = n → d < g → pm_runH (sm_hour M) W m M M' → (∀ j, j < v → sm_offerAlone M' j = nI (pv_ofN T t S 1 (sm_hour M) W m j)) → ∃ M2, fx_X12_waits_72 g (nI n) (nI sk) (nI p) (nI (pm_v (pv_ofN T t S 1 (sm_hour M) W m) (fun _ => true) v)) (nI (n ^ v)) (nI v) M' = fx_X12_waits_139 am_fu (nI n) (nI sk) (nI p) (nI (pm_v (pv_ofN T t S 1 (sm_hour M) W m) (fun _ => true) n)) (nI (n ^ n)) (lN 0) (lN 0) (nI 0) M2 ∧ pm_runH (sm_hour M) W m M M2 ∧ (∀ j, j < n → sm_offerAlone M2 j = nI (pv_ofN T t S 1 (sm_hour M) W m j)) := by
  intro d
  induction d with
  | zero =>
    intro v g M' h1 h2 r a
    obtain ⟨e, rfl⟩ : ∃ e, g = e + 1 := ⟨g - 1, by omega⟩
    have hv : v = n := by omega
    subst hv
    refine ⟨M', ?_, r, a⟩
    rw [fx_X12_waits_72, if_pos (nI_le (Nat.le_refl v) (by omega))]
    rfl
  | succ d ih =>
    intro v g M' h1 h2 r a
    obtain ⟨e, rfl⟩ : ∃ e, g = e + 1 := ⟨g - 1, by omega⟩
    have hM := pm_CH (cr := 1) h lt ht (show v < 8 by omega) (by decide) r
    obtain ⟨M1, y1, y2⟩ := pe_offer hM r.2.2
    obtain ⟨oe, ol⟩ := pv_ofE T t S (cr := 1) (by decide) (sm_hour M) W m v
    rw [oe] at y1
    have y1' : fx_X12_offerOf (nI v) 1 M' = some (nI (pv_ofN T t S 1 (sm_hour M) W m v), M1) := y1
    have oa : sm_offerAlone M1 = sm_offerAlone M' := y2.2 18 (by decide)
    have r1 : pm_runH (sm_hour M) W m M (um_offerAlone M1 (upd (sm_offerAlone M1) v (nI (pv_ofN T t S 1 (sm_hour M) W m v)))) := ⟨pm_fa (j := 18) (S' := M1) (pm_ft r.1 (pm_fm y2 (by decide) (by decide))) (by decide), (y2.1 1 (by decide)).trans r.2.1, (have w2 : pm_W W m M1 := pm_Wf r.2.2 y2; w2)⟩
    obtain ⟨M2, p1, p2, p3⟩ := ih (v + 1) e _ (by omega) (by omega) r1 (fun j hj => by
      show upd (sm_offerAlone M1) v _ j = _
      by_cases q : j = v
      · subst q; exact pz_us
      · rw [pz_un q, oa]; exact a j (by omega))
    refine ⟨M2, Eq.trans ?_ p1, p2, p3⟩
    have ml : pm_v (pv_ofN T t S 1 (sm_hour M) W m) (fun _ => true) v < 2147483648 := by
      rcases pm_bv (f := pv_ofN T t S 1 (sm_hour M) W m) (B := fun _ => true) v (by omega) with ⟨-, a2, -⟩ | ⟨-, -, a3⟩
      · omega
      · rw [a3]; exact (pv_ofE T t S (by decide) _ W m _).2
    have e3 : nI v + 1 = nI (v + 1) := (nI_succ v).symm
    have e4 : nI (n ^ v) * nI n = nI (n ^ (v + 1)) := by rw [pk_mul, Nat.pow_succ]
    rw [fx_X12_waits_72, if_neg (nI_ge (by omega) (by omega)), y1', pz_bd]
    show (if nI v < 0 ∨ 8 ≤ (nI v).toNatClampNeg then none else _) = _
    rw [if_neg (nI_in (show v < 8 by omega) (by decide)), if_neg (nI_in (show v < 8 by omega) (by decide)), pz_cl (by omega), pz_us, e3, e4, pm_vS, if_pos rfl]
    by_cases c : pv_ofN T t S 1 (sm_hour M) W m v ≤ pm_v (pv_ofN T t S 1 (sm_hour M) W m) (fun _ => true) v
    · rw [if_pos (nI_le c ml), if_neg (by omega)]
    · rw [if_neg (nI_ge (by omega) ol), if_neg (show ¬ (nI v < 0 ∨ 8 ≤ v) from fun q => q.elim (nI_pos (by omega)) (by omega)), if_pos (by omega)]
theorem pq_waits : lq_waits px_R := by
  rintro S M ⟨T, h⟩ a1 a2 a3 a4
  obtain ⟨⟨⟨nv, hnv, n1⟩, n2⟩, nh, hh2⟩ := id h.1
  have n3 : sm_viewers M = nI nv := n2.trans n1
  have no0 : ∀ M1, fx_X12_waits_30 a2 a3 a4 M1 = some (-4611686018427387904, M1) := by
    intro M1
    unfold fx_X12_waits_30 fx_X12_waits_31
    rw [if_pos rfl]
  rcases pq_start h a1 with ⟨M1, e, he, e1, e2, f2⟩ | ⟨s', W, m, t, S1, M1, rfl, hs', e1, e2, f1, f2', ⟨ht, lt⟩, hA, hL, ⟨wl, wy⟩, hW, -, -⟩
  · have he0 : ¬ e = 0 := by
      rcases he with rfl | ⟨rfl, -⟩ <;> decide
    refine ⟨-4611686018427387904, S, M1, ?_, ?_, T, px_Qf h px_fr f2⟩
    · unfold lx_waits fx_X11_waits; rw [e1, pz_bd]; exact if_neg he0
    · unfold lm_waits fx_X12_waits; rw [e2, pz_bd]; exact (if_neg he0).trans (no0 M1)
  have f2 : pm_f pm_es pm_ea M M1 := pm_fm f2' (by decide) (by decide)
  have n1' : sx_now_viewers S1 = nI nv := (f1.1 2 (by decide)).trans n1
  have n3' : sm_viewers M1 = nI nv := (f2.1 0 (by decide)).trans n3
  have hq1 : px_Q T S1 M1 := px_Qf h f1 f2
  have z1 : ((0 : Int32), S1).1 = 0 := rfl
  have z2 : ((0 : Int32), M1).1 = 0 := rfl
  have hX : lx_waits (nI s') a2 a3 a4 S = (if a2 < (1 : Int32) then some (((-4611686018427387904 : Int64), S1)) else (if (6 : Int32) < a2 then some (((-4611686018427387904 : Int64), S1)) else (if a2 ≤ (sx_now_viewers S1) then (if (fx_X11_within a3 a2) = 0 then some (((-4611686018427387904 : Int64), S1)) else (if (fx_X11_within a4 (2 : Int32)) = 0 then some (((-4611686018427387904 : Int64), S1)) else am_bd (fx_X11_fillOffers (((1 : Int32) <<< (a2 &&& 31)) - (1 : Int32)) (1 : Int32) S1) (fun q9 => am_bd (fx_X11_mostOffered (((1 : Int32) <<< (a2 &&& 31)) - (1 : Int32)) q9) (fun q11 => am_bd (fx_X11_firstOrder a2 q9) (fun q13 => fx_X11_waits_98 am_fu a2 a3 a4 q11 (0 : Int32) (0 : Int32) (1 : Int32) (0 : Int32) q13))))) else some (((-4611686018427387904 : Int64), S1))))) := by
    unfold lx_waits fx_X11_waits
    rw [e1, pz_bd, if_pos z1]
  have hM : lm_waits (nI s') a2 a3 a4 M = (if (fx_X12_in a2 (1 : Int32) (6 : Int32)) = 0 then fx_X12_waits_30 a2 a3 a4 M1 else (if (sm_viewers M1) < a2 then fx_X12_waits_30 a2 a3 a4 M1 else fx_X12_waits_31 a2 a3 a4 (1 : Int32) M1)) := by
    unfold lm_waits fx_X12_waits
    rw [e2, pz_bd, if_pos z2]
  by_cases l1 : a2 < 1
  · refine ⟨_, S1, M1, hX.trans (if_pos l1), hM.trans ?_, T, hq1⟩
    rw [if_pos (show fx_X12_in a2 1 6 = 0 by unfold fx_X12_in; rw [if_pos l1])]
    exact no0 M1
  by_cases l6 : (6 : Int32) < a2
  · refine ⟨-4611686018427387904, S1, M1, hX.trans ?_, hM.trans ?_, T, hq1⟩
    · rw [if_neg l1, if_pos l6]
    · rw [if_pos (show fx_X12_in a2 1 6 = 0 by unfold fx_X12_in; rw [if_neg l1, if_pos l6])]
      exact no0 M1
  have l0 : ¬ a2 < 0 := fun q => l1 (by
    rw [Int32.lt_iff_toInt_lt] at q ⊢
    have : (1 : Int32).toInt = 1 := by decide
    have : (0 : Int32).toInt = 0 := by decide
    omega)
  obtain ⟨n, hn, rfl⟩ := nI_of2 (n := 6) (M := 6) (by decide) l0 (Int32.not_lt.mp l6)
  have hn1 : 0 < n := by
    rcases Nat.eq_zero_or_pos n with q | q
    · subst q; exact absurd (by decide) l1
    · exact q
  have inn : ¬ fx_X12_in (nI n) 1 6 = 0 := by unfold fx_X12_in; rw [if_neg l1, if_neg l6]; decide
  by_cases lv : nv < n
  · refine ⟨-4611686018427387904, S1, M1, hX.trans ?_, hM.trans ?_, T, hq1⟩
    · rw [if_neg l1, if_neg l6, n1', if_neg (nI_ge lv (by omega))]
    · rw [if_neg inn, n3', if_pos (nI_lt lv (by omega))]
      exact no0 M1
  have x1 : nI n ≤ sx_now_viewers S1 := by rw [n1']; exact nI_le (by omega) (by omega)
  have y1 : ¬ sm_viewers M1 < nI n := by rw [n3']; exact nI_nlt (by omega) (by omega)
  have hM2 : lm_waits (nI s') (nI n) a3 a4 M = (if fx_X12_in a3 0 (nI n - 1) = 0 then some (-4611686018427387904, M1) else (if fx_X12_in a4 0 1 = 0 then some (-4611686018427387904, M1) else fx_X12_waits_72 am_fu (nI n) a3 a4 0 1 0 M1)) := by
    rw [hM, if_neg inn, if_neg y1]
    unfold fx_X12_waits_31
    rw [if_neg (by decide)]
  rw [if_neg l1, if_neg l6, if_pos x1] at hX
  rcases pn_v a3 (n := n) (by omega) with ⟨k1, k2⟩ | ⟨sk, hsk, rfl, k1, k2⟩
  · refine ⟨-4611686018427387904, S1, M1, hX.trans (if_pos k1), hM2.trans (if_pos k2), T, hq1⟩
  have k1' : ¬ fx_X11_within (nI sk) (nI n) = 0 := by rw [k1]; decide
  have k2' : ¬ fx_X12_in (nI sk) 0 (nI n - 1) = 0 := by rw [show fx_X12_in (nI sk) 0 (nI n - 1) = nI 1 from k2]; decide
  rw [if_neg k1'] at hX
  rw [if_neg k2'] at hM2
  rcases pn_w a4 2 1 rfl (by decide) with ⟨q1, q2⟩ | ⟨p, hp, rfl, q1, q2⟩
  · refine ⟨-4611686018427387904, S1, M1, hX.trans (if_pos q1), hM2.trans (if_pos q2), T, hq1⟩
  have q1' : ¬ fx_X11_within (nI p) 2 = 0 := by rw [show fx_X11_within (nI p) 2 = nI 1 from q1]; decide
  have q2' : ¬ fx_X12_in (nI p) 0 1 = 0 := by rw [show fx_X12_in (nI p) 0 1 = nI 1 from q2]; decide
  rw [if_neg q1'] at hX
  rw [if_neg q2'] at hM2
  have all : (1 : Int32) <<< (nI n &&& 31) - 1 = nI (2 ^ n - 1) := by
    rw [(pn_2n n (by omega)).1]
    exact pz_sub (b := 1) (Nat.one_le_two_pow)
  rw [all] at hX
  have rS : px_runH T t (sm_hour M) W m M S S1 := by rw [hh2]; exact ⟨f1, hA, hL⟩
  obtain ⟨S2, b1, b2, b2', b3, b4⟩ := pf_fillO (some' := nI (2 ^ n - 1)) (cr := 1) hnv (by decide) n1 nv 0 am_fu S1 (by omega) (by rw [pf_u]; omega) rS
  have b1' : fx_X11_fillOffers (nI (2 ^ n - 1)) 1 S1 = some S2 := b1
  have n1'' : sx_now_viewers S2 = nI nv := (b2.1.1 2 (by decide)).trans n1
  have off : ∀ j, j < nv → pb_it (nI (2 ^ n - 1)) j = true → sx_offered S2 j = nI (pv_ofN T t S 1 (sm_hour M) W m j) := fun j hj hb => by
    rw [b4 j (Nat.zero_le j) hj hb]; exact (pv_ofE T t S (by decide) _ W m j).1
  have hF : ∀ j, pv_ofN T t S 1 (sm_hour M) W m j < 2147483648 := fun j => (pv_ofE T t S (by decide) _ W m j).2
  have mo := pf_most hnv n1'' off (fun j _ => hF j)
  have bits : ∀ j, j < nv → (pb_it (nI (2 ^ n - 1)) j = true ↔ j < n) := fun j hj => by
    rw [pn_alln n (by omega) j (by omega)]; simp
  rw [pm_vn nv (by omega) bits] at mo
  have mol : pm_v (pv_ofN T t S 1 (sm_hour M) W m) (fun _ => true) n < 2147483648 := by
    rcases pm_bv (f := pv_ofN T t S 1 (sm_hour M) W m) (B := fun _ => true) n (by omega) with ⟨-, a2, -⟩ | ⟨-, -, a3⟩
    · omega
    · rw [a3]; exact hF _
  obtain ⟨S3, c1, c2, c3, c4⟩ := pf_firstOrder (n := n) (by omega) S2
  obtain ⟨x, l, L1, L2, L3, L4, L5⟩ := pq_LL (n := n) (by omega) hn1
  have hO : px_O n (pq_de n x) S3 := fun i hi => by
    rw [L4 i hi]; exact ⟨by omega, c4 i hi⟩
  have off3 : ∀ v, v < n → sx_offered S3 v = nI (pv_ofN T t S 1 (sm_hour M) W m v) := fun v hv => by
    rw [show sx_offered S3 = sx_offered S2 from c2.2 28 (by decide)]
    exact off v (by omega) ((bits v (by omega)).mpr hv)
  obtain ⟨S4, d1, d2⟩ := pf_waX (F := pv_ofN T t S 1 (sm_hour M) W m) (sk := sk) (mo := pm_v (pv_ofN T t S 1 (sm_hour M) W m) (fun _ => true) n) (p := p) (show n < 7 by omega) hn1 hsk hF mol l x 0 0 0 am_fu S3 L2 (by omega) (by rw [pf_u]; omega) hO off3
  obtain ⟨M2, g1, g2, g3⟩ := pf_wa72 (sk := sk) (p := p) h lt ht (show n < 7 by omega) n 0 am_fu M1 (by omega) (by rw [pf_u]; omega) (pm_rH0 f2' hW) (fun j hj => absurd hj (Nat.not_lt_zero j))
  obtain ⟨M3, i1, i2⟩ := pf_waM (F := pv_ofN T t S 1 (sm_hour M) W m) (sk := sk) (mo := pm_v (pv_ofN T t S 1 (sm_hour M) W m) (fun _ => true) n) (p := p) (N := n ^ n) (show n < 7 by omega) hn1 hsk hF mol (by omega) (n ^ n) 0 0 0 am_fu M2 (by omega) (by rw [pf_u]; omega) g3
  rw [L1] at i1
  have cl := pt_cnl (pv_ofN T t S 1 (sm_hour M) W m) n sk (pm_v (pv_ofN T t S 1 (sm_hour M) W m) (fun _ => true) n) (x :: l)
  have ln : (x :: l).length = l.length + 1 := rfl
  rw [ln] at cl i1
  obtain ⟨r, r1, r2⟩ := pl_low (a := 0 + pt_cn (pv_ofN T t S 1 (sm_hour M) W m) n sk (pm_v (pv_ofN T t S 1 (sm_hour M) W m) (fun _ => true) n) (x :: l)) (b := 0 + (l.length + 1)) (p := p) (by omega) (by omega) (by omega) hp
  have fS : px_f px_es px_ea S S4 := px_ft b2.1 (px_ft (px_fm c2 (by decide) (by decide)) (px_fm d2 (by decide) (by decide)))
  have fM : pm_f pm_es pm_ea M M3 := pm_ft (pm_rHb g2 rfl) (pm_fm i2 (by decide) (by decide))
  refine ⟨r, S4, M3, hX.trans ?_, hM2.trans ?_, T, px_Qf h fS fM⟩
  · rw [b1', pz_bd, mo, pz_bd, c1, pz_bd]
    refine Eq.trans d1 ?_
    rw [r1, pz_bd]
  · refine Eq.trans g1 (i1.trans ?_)
    rw [r2, pz_bd]
