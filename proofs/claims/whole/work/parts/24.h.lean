/-! ===== best, done ===== -/
theorem pf_gain {S : sx_T} {P : Nat → Nat} (hO : px_O 6 P S) : fx_X11_gainOfOrder S = some (0 + sx_gains S (0 * 6 + P 0) + sx_gains S (1 * 6 + P 1) + sx_gains S (1 * 6 + P 2) + sx_gains S (1 * 6 + P 3) + sx_gains S (1 * 6 + P 4) + sx_gains S (2 * 6 + P 5)) := by
  have step : ∀ (i c g : Nat) (x : Int32), i < 6 → c < 3 → (if i = 0 then 0 else if i = 5 then 2 else 1) = c → fx_X11_gainOfOrder_4 S (g + 1) x (nI i) = fx_X11_gainOfOrder_4 S g (x + sx_gains S (c * 6 + P i)) (nI (i + 1)) := by
    intro i c g x hi hc hcc
    obtain ⟨p6, po⟩ := hO i hi
    have ix : nI c * 6 + nI (P i) = nI (c * 6 + P i) := by
      rw [show nI c * 6 = nI (c * 6) from pk_mul c 6, nI_add]
    have b28 : ∀ k4, fx_X11_gainOfOrder_28 S k4 x (nI i) (nI c) = k4 (x + sx_gains S (c * 6 + P i)) (nI (i + 1)) := by
      intro k4
      unfold fx_X11_gainOfOrder_28
      rw [pz_rd hi (by decide), po, ix, pz_rd (by omega) (by decide), show nI i + 1 = nI (i + 1) from (nI_succ i).symm]
    rw [fx_X11_gainOfOrder_4, if_neg (show ¬ (6 : Int32) ≤ nI i from nI_ge (b := 6) (by omega) (by decide))]
    by_cases i0 : i = 0
    · rw [if_pos i0] at hcc
      subst hcc
      rw [if_pos (show nI i = 0 by rw [i0]; rfl)]
      exact b28 _
    · rw [if_neg i0] at hcc
      rw [if_neg (nI_ne0 (by omega) (by omega))]
      by_cases i5 : i = 5
      · rw [if_pos i5] at hcc
        subst hcc
        rw [if_pos (show nI i = 5 by rw [i5]; rfl)]
        exact b28 _
      · rw [if_neg i5] at hcc
        subst hcc
        rw [if_neg (show ¬ nI i = 5 from fun q => i5 ((nI_eq (b := 5) (by omega) (by decide)).mp q))]
        exact b28 _
  show fx_X11_gainOfOrder_4 S (999993 + 1 + 1 + 1 + 1 + 1 + 1 + 1) 0 (nI 0) = _
  rw [step 0 0 _ _ (by decide) (by decide) rfl, step 1 1 _ _ (by decide) (by decide) rfl, step 2 1 _ _ (by decide) (by decide) rfl, step 3 1 _ _ (by decide) (by decide) rfl, step 4 1 _ _ (by decide) (by decide) rfl, step 5 2 _ _ (by decide) (by decide) rfl, fx_X11_gainOfOrder_4, if_pos (show (6 : Int32) ≤ nI 6 by decide)]
theorem pf_beX {val : Nat → Int32} {w : Nat} {G : Nat → Nat → Int32} (hw : w < 2) (hval : ∀ x, x ∈ pq_L6 → 0 + G 0 (pq_de 6 x 0) + G 1 (pq_de 6 x 1) + G 1 (pq_de 6 x 2) + G 1 (pq_de 6 x 3) + G 1 (pq_de 6 x 4) + G 2 (pq_de 6 x 5) = val x) : ∀ (l : List Nat) (x k g : Nat) (b m : Int32) (S : sx_T), (∀ y, y ∈ x :: l → y ∈ pq_L6) → pq_ch 6 (x :: l) = true → k + (l.length + 1) ≤ 720 → l.length + 1 < g → ((k = 0 ∧ b = 0) ∨ (0 < k ∧ b ≠ 0)) → px_O 6 (pq_de 6 x) S → (∀ c j, c < 3 → j < 6 → sx_gains S (c * 6 + j) = G c j) → ∃ S', fx_X11_best_69 g (nI w) m b 1 (nI k) S = some ((if w = 0 then (pt_fo val (x :: l) b m).1 else (pt_fo val (x :: l) b m).2), S') ∧ px_f [] [25] S S' := by
  have hw2 : w = 0 ∨ w = 1 := by omega
  have h6 : ∀ x i, pq_de 6 x i < 6 := fun x i => pq_del (by decide)
  have fin : ∀ (g : Nat) (b m k' : Int32) (S' : sx_T), fx_X11_best_69 (g + 1) (nI w) m b 0 k' S' = some ((if w = 0 then b else m), S') := by
    intro g b m k' S'
    rw [fx_X11_best_69]
    rcases hw2 with rfl | rfl
    · by_cases c : (720 : Int32) ≤ k'
      · rw [if_pos c, if_pos (show nI 0 = 0 from rfl), if_pos rfl]
      · rw [if_neg c, if_pos rfl, if_pos (show nI 0 = 0 from rfl), if_pos rfl]
    · by_cases c : (720 : Int32) ≤ k'
      · rw [if_pos c, if_neg (show ¬ nI 1 = 0 by decide), if_neg (by decide)]
      · rw [if_neg c, if_pos rfl, if_neg (show ¬ nI 1 = 0 by decide), if_neg (by decide)]
  have gain : ∀ (x : Nat) (S : sx_T), x ∈ pq_L6 → px_O 6 (pq_de 6 x) S → (∀ c j, c < 3 → j < 6 → sx_gains S (c * 6 + j) = G c j) → fx_X11_gainOfOrder S = some (val x) := by
    intro x S hx hO hG
    rw [pf_gain hO, hG 0 _ (by decide) (h6 x 0), hG 1 _ (by decide) (h6 x 1), hG 1 _ (by decide) (h6 x 2), hG 1 _ (by decide) (h6 x 3), hG 1 _ (by decide) (h6 x 4), hG 2 _ (by decide) (h6 x 5), hval x hx]
  have dig : ∀ (x : Nat) (S : sx_T), px_O 6 (pq_de 6 x) S → fx_X11_digitsOfOrder S = some (nI (pn_D (pq_de 6 x) 6)) := fun x S hO => pf_digX hO 6 0 am_fu (by omega) (by rw [pf_u]; decide)
  have dn0 : ∀ x, nI (pn_D (pq_de 6 x) 6) ≠ 0 := fun x => nI_ne0 (by have := (pn_D6 x).1; omega) (by have := (pn_D6 x).2; omega)
  -- one order: what is held then, and the next order
  have one : ∀ (x k g : Nat) (b m : Int32) (S : sx_T), x ∈ pq_L6 → k < 720 → ((k = 0 ∧ b = 0) ∨ (0 < k ∧ b ≠ 0)) → px_O 6 (pq_de 6 x) S → (∀ c j, c < 3 → j < 6 → sx_gains S (c * 6 + j) = G c j) → ∀ (fl : Int32) (S' : sx_T), fx_X11_nextOrder 6 S = some (fl, S') → fx_X11_best_69 (g + 1) (nI w) m b 1 (nI k) S = (if b = 0 ∨ m < val x then fx_X11_best_69 g (nI w) (val x) (nI (pn_D (pq_de 6 x) 6)) fl (nI (k + 1)) S' else fx_X11_best_69 g (nI w) m b fl (nI (k + 1)) S') := by
    intro x k g b m S hx hk hkb hO hG fl S' hn
    rw [fx_X11_best_69, if_neg (show ¬ (720 : Int32) ≤ nI k from nI_ge (b := 720) (by omega) (by decide)), if_neg (by decide), gain x S hx hO hG, pz_bd, dig x S hO, hn, show nI k + 1 = nI (k + 1) from (nI_succ k).symm]
    rcases hkb with ⟨k0, b0⟩ | ⟨k0, b0⟩
    · rw [if_pos (show nI k = 0 by rw [k0]; rfl), if_pos (Or.inl b0), pz_bd, pz_bd]
    · rw [if_neg (nI_ne0 k0 (by omega))]
      by_cases c : val x ≤ m
      · rw [if_pos c, if_neg (fun q => q.elim b0 (fun q => Int32.not_lt.mpr c q)), pz_bd]
      · rw [if_neg c, if_pos (Or.inr (Int32.not_le.mp c)), pz_bd, pz_bd]
  intro l
  induction l with
  | nil =>
    intro x k g b m S hin hch hk hg hkb hO hG
    have hl : ([] : List Nat).length = 0 := rfl
    rw [hl] at hk hg
    obtain ⟨e, rfl⟩ : ∃ e, g = e + 1 := ⟨g - 1, by omega⟩
    obtain ⟨e2, rfl⟩ : ∃ q, e = q + 1 := ⟨e - 1, by omega⟩
    obtain ⟨S', f1, f2, hh⟩ := pf_no (n := 6) (by decide) (by decide) hO
    rcases hh with ⟨-, n2⟩ | ⟨Q, n1, -⟩
    · refine ⟨S', ?_, f1⟩
      rw [one x k (e2 + 1) b m S (hin x List.mem_cons_self) (by omega) hkb hO hG 0 S' n2]
      have ef : pt_fo val [x] b m = if b = 0 ∨ m < val x then (nI (pn_D (pq_de 6 x) 6), val x) else (b, m) := rfl
      rw [ef]
      by_cases c : b = 0 ∨ m < val x
      · rw [if_pos c, if_pos c]; exact fin _ _ _ _ _
      · rw [if_neg c, if_neg c]; exact fin _ _ _ _ _
    · rw [pq_chL hch] at n1; cases n1
  | cons y l ih =>
    intro x k g b m S hin hch hk hg hkb hO hG
    have hl : (y :: l).length = l.length + 1 := rfl
    rw [hl] at hk hg
    obtain ⟨e, rfl⟩ : ∃ e, g = e + 1 := ⟨g - 1, by omega⟩
    obtain ⟨S', f1, f2, hh⟩ := pf_no (n := 6) (by decide) (by decide) hO
    obtain ⟨⟨Q, hQ, hQ2⟩, hch2⟩ := pq_chS hch
    rcases hh with ⟨n1, -⟩ | ⟨Q', n1, n2, n3⟩
    · rw [hQ] at n1; cases n1
    · rw [hQ] at n1
      obtain rfl := Option.some.inj n1
      have hO' : px_O 6 (pq_de 6 y) S' := fun i hi => by
        have := n3 i hi
        rw [hQ2 i hi] at this
        exact this
      have hG' : ∀ c j, c < 3 → j < 6 → sx_gains S' (c * 6 + j) = G c j := fun c j hc hj => by
        rw [show sx_gains S' = sx_gains S from f1.2 27 (by decide)]; exact hG c j hc hj
      have hin' : ∀ z, z ∈ y :: l → z ∈ pq_L6 := fun z hz => hin z (List.mem_cons_of_mem _ hz)
      have ef : pt_fo val (x :: y :: l) b m = if b = 0 ∨ m < val x then pt_fo val (y :: l) (nI (pn_D (pq_de 6 x) 6)) (val x) else pt_fo val (y :: l) b m := rfl
      rw [one x k e b m S (hin x List.mem_cons_self) (by omega) hkb hO hG 1 S' n2, ef]
      by_cases c : b = 0 ∨ m < val x
      · rw [if_pos c, if_pos c]
        obtain ⟨S2, r1, r2⟩ := ih y (k + 1) e (nI (pn_D (pq_de 6 x) 6)) (val x) S' hin' hch2 (by omega) (by omega) (Or.inr ⟨by omega, dn0 x⟩) hO' hG'
        exact ⟨S2, r1, px_ft f1 r2⟩
      · rw [if_neg c, if_neg c]
        obtain ⟨S2, r1, r2⟩ := ih y (k + 1) e b m S' hin' hch2 (by omega) (by omega) (Or.inr ⟨by omega, fun q => c (Or.inl q)⟩) hO' hG'
        exact ⟨S2, r1, px_ft f1 r2⟩
theorem pf_beM {val : Nat → Int32} {w : Nat} {M : sm_T} (hw : w < 2) (hval : ∀ x, x < 46656 → sm_mindBy M (6 * (x / 7776) + x % 6) = val x) : ∀ (d x g : Nat) (b m : Int32), x + d = 46656 → d < g → fx_X12_best_107 g (nI w) b m (nI x) M = some ((if w = 0 then (pt_fo val ((pq_rg x d).filter (fun y => pq_v 6 6 [] y)) b m).1 else (pt_fo val ((pq_rg x d).filter (fun y => pq_v 6 6 [] y)) b m).2), M) := by
  have hw2 : w = 0 ∨ w = 1 := by omega
  intro d
  induction d with
  | zero =>
    intro x g b m h1 h2
    obtain ⟨e, rfl⟩ : ∃ e, g = e + 1 := ⟨g - 1, by omega⟩
    have hx : x = 46656 := by omega
    subst hx
    rw [fx_X12_best_107, if_pos (show (46656 : Int32) ≤ nI 46656 by decide)]
    rcases hw2 with rfl | rfl
    · rw [if_pos (show nI 0 = 0 from rfl), if_pos rfl]; rfl
    · rw [if_neg (show ¬ nI 1 = 0 by decide), if_neg (by decide)]; rfl
  | succ d ih =>
    intro x g b m h1 h2
    obtain ⟨e, rfl⟩ : ∃ e, g = e + 1 := ⟨g - 1, by omega⟩
    have e3 : nI x + 1 = nI (x + 1) := (nI_succ x).symm
    have ix : (6 : Int32) * (nI x / 7776) + (nI x - nI x / 6 * 6) = nI (6 * (x / 7776) + x % 6) := by
      rw [show nI x / 7776 = nI (x / 7776) from pz_div (d := 7776) (by omega) (by decide) (by decide), show nI x - nI x / 6 * 6 = nI (x % 6) from pz_rem (d := 6) (by omega) (by decide) (by decide), show (6 : Int32) * nI (x / 7776) = nI (6 * (x / 7776)) from pk_mul 6 _, nI_add]
    have b36 : 6 * (x / 7776) + x % 6 < 36 := by omega
    have dg : fx_X12_digitsOf (nI x) M = some (if pq_v 6 6 [] x = true then nI (pn_D (pq_de 6 x) 6) else 0) := by
      have := pf_digM (M := M) 6 0 am_fu 0 [] 0 1 x (by omega) (by rw [pf_u]; decide) (by omega) (fun d hd => by rw [pb_0]; rfl)
      rw [Nat.zero_add, Nat.one_mul, pn_DW] at this
      exact this
    have dn0 : ¬ nI (pn_D (pq_de 6 x) 6) = 0 := nI_ne0 (by have := (pn_D6 x).1; omega) (by have := (pn_D6 x).2; omega)
    have b148 : ∀ mm, fx_X12_best_148 (fun a0 a1 a2 a3 a4 => fx_X12_best_107 e a0 a1 a2 a3 a4) (nI w) b m (nI x) mm M = (if pq_v 6 6 [] x = true then fx_X12_best_107 e (nI w) (nI (pn_D (pq_de 6 x) 6)) mm (nI (x + 1)) M else fx_X12_best_107 e (nI w) b m (nI (x + 1)) M) := by
      intro mm
      unfold fx_X12_best_148
      rw [dg, pz_bd, e3]
      by_cases v : pq_v 6 6 [] x = true
      · rw [if_pos v, if_neg dn0, if_neg dn0, if_pos v]
      · rw [if_neg v, if_pos rfl, if_pos rfl, if_neg v]
    rw [fx_X12_best_107, if_neg (show ¬ (46656 : Int32) ≤ nI x from nI_ge (b := 46656) (by omega) (by decide)), ix, if_neg (nI_in b36 (by decide)), pz_cl (by omega), hval x (by omega), b148, e3, pq_rgc, List.filter_cons]
    by_cases v : pq_v 6 6 [] x = true
    · rw [if_pos v, if_pos v]
      have ef : ∀ l, pt_fo val (x :: l) b m = if b = 0 ∨ m < val x then pt_fo val l (nI (pn_D (pq_de 6 x) 6)) (val x) else pt_fo val l b m := fun _ => rfl
      rw [ef]
      by_cases b0 : b = 0
      · rw [if_pos b0, if_pos (Or.inl b0)]
        exact ih (x + 1) e _ _ (by omega) (by omega)
      · rw [if_neg b0]
        by_cases c : val x ≤ m
        · rw [if_pos c, if_neg (show ¬ (b = 0 ∨ m < val x) from fun q => q.elim b0 (fun q => Int32.not_lt.mpr c q))]
          exact ih (x + 1) e _ _ (by omega) (by omega)
        · rw [if_neg c, if_pos (Or.inr (Int32.not_le.mp c))]
          exact ih (x + 1) e _ _ (by omega) (by omega)
    · rw [if_neg v, if_neg v, ih (x + 1) e b m (by omega) (by omega)]
      by_cases b0 : b = 0
      · rw [if_pos b0]
      · rw [if_neg b0, ite_self]
theorem pq_best0 {T : Nat → Nat → List Int32} {S : sx_T} {M : sm_T} (h : px_Q T S M) {who : Int32} {cr w : Nat} (hcr : cr < 9) (hw : w < 2) : ∃ r S' M', am_bd (fx_X10_suppose_r1 S) (fun q4 => am_bd (fx_X11_fillGains who (nI cr) q4) (fun q6 => am_bd (fx_X11_firstOrder (6 : Int32) q6) (fun q8 => fx_X11_best_69 am_fu (nI w) (0 : Int32) (0 : Int32) (1 : Int32) (0 : Int32) q8))) = some (r, S') ∧ fx_X12_best_41 am_fu who (nI cr) (nI w) (nI 0) M = some (r, M') ∧ px_f px_es px_ea S S' ∧ pm_f pm_es pm_ea M M' := by
  obtain ⟨⟨⟨nv, hnv, n1⟩, n2⟩, -⟩ := id h.1
  obtain ⟨S1, t, p1, p2, p3, p4, p5⟩ := pf_supA h
  have f1 : px_f px_es px_ea S S1 := px_fm p2 (by decide) (by decide)
  obtain ⟨S2, q1, q2, q3⟩ := pf_fg2 18 0 am_fu who (nI cr) S1 (by omega) (by rw [pf_u]; decide) (fun j hj => absurd hj (Nat.not_lt_zero j))
  have f2 : px_f px_es px_ea S S2 := px_ft f1 (px_fm q2 (by decide) (by decide))
  have a2 : px_A (T t) (sx_now_hour S) (sx_now_light S) (sx_now_damp S) M S2 := by
    obtain ⟨⟨tt, w1, w2, w3⟩, ⟨w4, w5, w6'⟩, w7⟩ := p5
    have n18 : sx_vi_law S2 = sx_vi_law S1 := q2.1 18 (by decide)
    have n19 : sx_vi_hour S2 = sx_vi_hour S1 := q2.1 19 (by decide)
    have n23 : sx_vi_names S2 = sx_vi_names S1 := q2.2 23 (by decide)
    have n20 : sx_vi_light S2 = sx_vi_light S1 := q2.2 20 (by decide)
    have n21 : sx_vi_damp S2 = sx_vi_damp S1 := q2.2 21 (by decide)
    have b10 : sx_tx_steps S2 = sx_tx_steps S1 := q2.2 10 (by decide)
    have b11 : sx_tx_ends S2 = sx_tx_ends S1 := q2.2 11 (by decide)
    have b12 : sx_tx_named S2 = sx_tx_named S1 := q2.2 12 (by decide)
    unfold px_A pr_tx1
    rw [n18, n19, n23, n20, n21, b10, b11, b12]
    exact ⟨⟨tt, w1, w2, w3⟩, ⟨w4, w5, w6'⟩, w7⟩
  obtain ⟨S3, r1, r2, r3⟩ := pf_fg28 (T := T) (t := t) (who := who) hcr hnv rfl n1 nv 0 am_fu S2 (by omega) (by rw [pf_u]; omega) f2 a2 (fun c j hc hj => by rw [q3 _ (by omega)]; rfl)
  obtain ⟨S4, c1, c2, c3, c4⟩ := pf_firstOrder (n := 6) (by decide) S3
  obtain ⟨x, l, L1, L2, L3, L4, L5⟩ := pq_LL (n := 6) (by decide) (by decide)
  have L6 : x :: l = pq_L6 := L1.symm.trans ((pq_all 6 (by decide)).trans pq_e6)
  obtain ⟨S5, d1, d2⟩ := pf_beX (val := fun y => pi_M T t S cr who (pq_de 6 y 0) (pq_de 6 y 5) nv) (G := fun c r => pi_G T t S cr who c r nv) hw (fun y hy => pi_GM T t S cr who hy nv) l x 0 am_fu 0 0 S4 (fun y hy => by rw [← L6]; exact hy) L2 (by omega) (by rw [pf_u]; omega) (Or.inl ⟨rfl, rfl⟩) (fun i hi => by rw [L4 i hi]; exact ⟨hi, c4 i hi⟩) (fun c j hc hj => by
    rw [show sx_gains S4 = sx_gains S3 from c2.2 27 (by decide)]; exact r3 c j hc hj)
  obtain ⟨M1, u1, u2, u3⟩ := pf_mb41 (who := who) (cr := nI cr) (w := nI w) 36 0 am_fu M (by omega) (by rw [pf_u]; decide) (fun j hj => absurd hj (Nat.not_lt_zero j))
  obtain ⟨M2, v1, v2, v3⟩ := pf_mb65 (who := who) (w := nI w) h p4 p3 hcr hnv (n2.trans n1) nv 0 am_fu M1 (by omega) (by rw [pf_u]; omega) (pm_fm u2 (by decide) (by decide)) (fun i b hi hb => by rw [u3 _ (by omega)]; rfl)
  have e0 : ∀ y, y < 46656 → pq_de 6 y 0 = y / 7776 := fun y hy => by
    show y / 7776 % 6 = y / 7776
    omega
  have e5 : ∀ y, pq_de 6 y 5 = y % 6 := fun y => by
    show y / 1 % 6 = y % 6
    omega
  have g1 := pf_beM (val := fun y => pi_M T t S cr who (pq_de 6 y 0) (pq_de 6 y 5) nv) (w := w) (M := M2) hw (fun y hy => by
    show sm_mindBy M2 _ = pi_M T t S cr who (pq_de 6 y 0) (pq_de 6 y 5) nv
    rw [e0 y hy, e5 y]
    exact v3 _ _ (by omega) (by omega)) 46656 0 am_fu 0 0 (by omega) (by rw [pf_u]; decide)
  have L1' : (pq_rg 0 46656).filter (fun y => pq_v 6 6 [] y) = x :: l := L1
  rw [L1'] at g1
  refine ⟨_, S5, M2, ?_, u1.trans (v1.trans g1), px_ft r2 (px_ft (px_fm c2 (by decide) (by decide)) (px_fm d2 (by decide) (by decide))), v2⟩
  have q1' : fx_X11_fillGains who (nI cr) S1 = some S3 := q1.trans r1
  have c1' : fx_X11_firstOrder 6 S3 = some S4 := c1
  rw [p1, pz_bd, q1', pz_bd, c1', pz_bd]
  exact d1
theorem pq_best : lq_best px_R := by
  rintro S M ⟨T, h⟩ a1 a2 a3
  obtain ⟨⟨⟨nv, hnv, n1⟩, n2⟩, -⟩ := id h.1
  have n3 : sm_viewers M = nI nv := n2.trans n1
  -- who is meant, or none such
  have hX : lx_best a1 a2 a3 S = (if a1 = -1 then fx_X11_best_16 a1 a2 a3 S else if fx_X11_isViewer a1 S = 0 then some (-1000005, S) else fx_X11_best_16 a1 a2 a3 S) := rfl
  have hM : lm_best a1 a2 a3 M = (if a1 = -1 then (if fx_X12_in a2 1 8 = 0 then some (-1000007, M) else if fx_X12_in a3 0 1 = 0 then some (-1000007, M) else fx_X12_best_41 am_fu a1 a2 a3 0 M) else if fx_X12_isViewer a1 M = 0 then some (-1000005, M) else if fx_X12_in a2 1 8 = 0 then some (-1000007, M) else if fx_X12_in a3 0 1 = 0 then some (-1000007, M) else fx_X12_best_41 am_fu a1 a2 a3 0 M) := rfl
  have tail : ∃ r S' M', fx_X11_best_16 a1 a2 a3 S = some (r, S') ∧ (if fx_X12_in a2 1 8 = 0 then some (-1000007, M) else if fx_X12_in a3 0 1 = 0 then some (-1000007, M) else fx_X12_best_41 am_fu a1 a2 a3 0 M) = some (r, M') ∧ px_R S' M' := by
    unfold fx_X11_best_16
    rcases pn_cr a2 with ⟨c1, c2⟩ | ⟨cr, hcr, hc1, rfl, c1, c2⟩
    · exact ⟨-1000007, S, M, if_pos c1, if_pos c2, T, h⟩
    have c1' : ¬ fx_X11_isCrowd (nI cr) = 0 := by rw [c1]; decide
    have c2' : ¬ fx_X12_in (nI cr) 1 8 = 0 := by rw [show fx_X12_in (nI cr) 1 8 = nI 1 from c2]; decide
    rcases pn_w a3 2 1 rfl (by decide) with ⟨q1, q2⟩ | ⟨w, hw, rfl, q1, q2⟩
    · refine ⟨-1000007, S, M, ?_, ?_, T, h⟩
      · rw [if_neg c1']; exact if_pos q1
      · rw [if_neg c2']; exact if_pos q2
    have q1' : ¬ fx_X11_within (nI w) 2 = 0 := by rw [show fx_X11_within (nI w) 2 = nI 1 from q1]; decide
    have q2' : ¬ fx_X12_in (nI w) 0 1 = 0 := by rw [show fx_X12_in (nI w) 0 1 = nI 1 from q2]; decide
    obtain ⟨r, S', M', d1, d2, d3, d4⟩ := pq_best0 (who := a1) (cr := cr) (w := w) h hcr hw
    refine ⟨r, S', M', ?_, ?_, T, px_Qf h d3 d4⟩
    · rw [if_neg c1', if_neg q1']; exact d1
    · rw [if_neg c2', if_neg q2']; exact d2
  rw [hX, hM]
  by_cases m1 : a1 = -1
  · rw [if_pos m1, if_pos m1]
    exact tail
  · rw [if_neg m1, if_neg m1]
    rcases pn_iv hnv n1 n3 a1 with ⟨k1, k2⟩ | ⟨v, hv, -, k1, k2⟩
    · exact ⟨-1000005, S, M, if_pos k1, if_pos k2, T, h⟩
    · rw [if_neg (show ¬ fx_X11_isViewer a1 S = 0 by rw [k1]; decide), if_neg (show ¬ fx_X12_isViewer a1 M = 0 by rw [k2]; decide)]
      exact tail
