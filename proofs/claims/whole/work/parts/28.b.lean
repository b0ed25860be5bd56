/-! ===== text: one part, in the reference ===== -/
def pv_c (t : Nat) (o : List Int32) (M : sm_T) : Prop := t < 6 ∧ sm_texts M = nI t ∧ sm_out M = nI o.length ∧ ∀ i, i < o.length → sm_codes M (200 * t + i) = pt_tr (o.getD i 0)
def pv_G (t : Nat) (M M' : sm_T) : Prop := pm_f [6, 7, 8, 9, 10, 11, 12] [5, 6, 12] M M' ∧ (∀ i, i < 200 * t → sm_codes M' i = sm_codes M i) ∧ ∀ i, i < 4 * t → sm_starts M' i = sm_starts M i
theorem pv_Gt {t : Nat} {M M' M'' : sm_T} (h : pv_G t M M') (h' : pv_G t M' M'') : pv_G t M M'' := ⟨pm_ft h.1 h'.1, fun i hi => (h'.2.1 i hi).trans (h.2.1 i hi), fun i hi => (h'.2.2 i hi).trans (h.2.2 i hi)⟩
theorem pv_Gd {t : Nat} {M M' : sm_T} (h : pd_G t M M') : pv_G t M M' := ⟨pm_fm h.1 (by decide) (by decide), fun i hi => h.2 i (Or.inl hi), fun i _ => congrFun (h.1.2 6 (by decide)) i⟩
theorem pv_Gs {t v : Nat} {x : Int32} {M : sm_T} : pv_G t M (um_starts M (upd (sm_starts M) (4 * t + v) x)) := ⟨pm_fa (j := 6) (S' := M) pm_fr (by decide), fun _ _ => rfl, fun i hi => pz_un (by omega)⟩
theorem pv_ix {t v : Nat} {x : Int32} {M : sm_T} (ht : sm_texts M = nI t) (hx : x = nI v) : (4 : Int32) * sm_texts M + x = nI (4 * t + v) := by
  rw [ht, hx, show (4 : Int32) * nI t = nI (4 * t) from pk_mul 4 t, nI_add]
/-- the end: refused, taken -/
theorem pv_122 {t : Nat} {M : sm_T} (ht : sm_texts M = nI t) (h6 : t < 6) : fx_X12_text_122 0 M = some (-100 - sm_begun M, um_taped (um_starts M (upd (sm_starts M) (4 * t + 3) (sm_out M))) 0) ∧ fx_X12_text_122 1 M = some (nI t, um_texts (um_taped (um_starts M (upd (sm_starts M) (4 * t + 3) (sm_out M))) 0) (nI (t + 1))) := by
  have ix := pv_ix (v := 3) (x := 3) ht rfl
  have po := pn_out (n := 24) (j := 4 * t + 3) (by omega) (by decide)
  unfold fx_X12_text_122
  rw [ix]
  refine ⟨?_, ?_⟩
  · rw [if_neg po, if_pos rfl, pz_cl (by omega)]
  · rw [if_neg po, if_neg (by decide), pz_cl (by omega), ht, show nI t + (1 : Int32) = nI (t + 1) from (nI_succ _).symm, show nI (t + 1) - (1 : Int32) = nI t from nI_pred t]
theorem pv_260 {n : Nat} {v2 : Int32} {M : sm_T} : fx_X12_text_26 (n + 1) 0 v2 M = fx_X12_text_122 0 M := by
  rw [fx_X12_text_26]
  unfold fx_X12_text_101
  rw [if_pos rfl, if_pos rfl]
  exact ite_self _
theorem pv_59 {n t v : Nat} {M : sm_T} (hv : v < 3) (ht : sm_texts M = nI t) (h6 : t < 6) : fx_X12_text_59 (fun a0 a1 a2 => fx_X12_text_26 (n + 1) a0 a1 a2) (nI v) M = some (-100 - sm_begun M, um_taped (um_starts (um_starts M (upd (sm_starts M) (4 * t + v) (sm_out M))) (upd (upd (sm_starts M) (4 * t + v) (sm_out M)) (4 * t + 3) (sm_out M))) 0) := by
  have ix := pv_ix (v := v) ht rfl
  have po := pn_out (n := 24) (j := 4 * t + v) (by omega) (by decide)
  unfold fx_X12_text_59 fx_X12_text_60
  rw [ix, if_neg po, if_pos rfl, pz_cl (by omega)]
  exact pv_260.trans (pv_122 (M := um_starts M (upd (sm_starts M) (4 * t + v) (sm_out M))) ht h6).1
/-- a refusal's state -/
def pv_E (t : Nat) (M M' : sm_T) : Prop := pm_f [2, 6, 7, 8, 9, 10, 11, 12] [5, 6, 12] M M' ∧ (∀ i, i < 200 * t → sm_codes M' i = sm_codes M i) ∧ (∀ i, i < 4 * t → sm_starts M' i = sm_starts M i) ∧ sm_taped M' = 0
theorem pv_EG {t : Nat} {M M' M'' : sm_T} (h : pv_G t M M') (h' : pv_E t M' M'') : pv_E t M M'' := ⟨pm_ft (pm_fm h.1 (by decide) (by decide)) h'.1, fun i hi => (h'.2.1 i hi).trans (h.2.1 i hi), fun i hi => (h'.2.2.1 i hi).trans (h.2.2 i hi), h'.2.2.2⟩
theorem pv_E0 {t : Nat} {x : Int32} {M : sm_T} : pv_E t M (um_taped (um_starts M (upd (sm_starts M) (4 * t + 3) x)) 0) := ⟨pm_fs (j := 2) (S' := um_starts M _) (pm_fa (j := 6) (S' := M) pm_fr (by decide)) (by decide), fun _ _ => rfl, fun i hi => pz_un (by omega), rfl⟩
theorem pv_v : ∀ v, v < 3 → ∀ x ∈ ([-3, -4, -5] : List Int32), (-3 - x = nI v ↔ x = -3 - nI v) := by decide
theorem pv_v1 : ∀ v, v < 3 → -3 - nI v ≠ (-1 : Int32) ∧ ((-3 - nI v = (-3 : Int32)) ∨ (-3 - nI v = (-4 : Int32)) ∨ (-3 - nI v = (-5 : Int32))) ∧ ¬ (3 : Int32) ≤ nI v := by decide
theorem pv_m {z N t k v : Nat} {tape : Nat → Int32} {ps pl : Nat → Nat} {tk : Nat → Int32} {o : List Int32} {M : sm_T} (hN : pd_N z tape ps pl tk N) (hE : ∀ k, k < N → tk k ≠ -1 → k + 1 < N) (N2 : N < 162) (hv : v < 3) (kN : k < N) (hq : pd_Q z tape ps M k) (hc : pv_c t o M) (hl : o.length ≤ k) : (tk k ≠ -3 - nI v → ∀ n, ∃ M', fx_X12_text_26 (n + 2) 1 (nI v) M = some (-100 - nI (pl k), M') ∧ pv_E t M M') ∧ (tk k = -3 - nI v → ∀ c b k' o', c < 162 → py_Y tk (c + 1) (k + 1) true true [] o = some (b, k', o') → (b = false → ∀ n, ∃ M', fx_X12_text_26 (n + 2) 1 (nI v) M = some (-100 - nI (pl k'), M') ∧ pv_E t M M') ∧ (b = true → ∃ M', (∀ n, fx_X12_text_26 (n + 1) 1 (nI v) M = fx_X12_text_26 n 1 (nI (v + 1)) M') ∧ pv_G t M M' ∧ pd_Q z tape ps M' k' ∧ pv_c t o' M' ∧ sm_starts M' = upd (sm_starts M) (4 * t + v) (nI o.length))) := by
  obtain ⟨v1, v2, v3⟩ := pv_v1 v hv
  obtain ⟨c1, c2, c3, c4⟩ := id hc
  obtain ⟨M1, n1, n2, n3, n4, n5⟩ := hN k M kN hq
  have G1 : pv_G t M M1 := pv_Gd (pd_GN n2)
  have t1 : sm_texts M1 = nI t := (n2.1 3 (by decide)).trans c2
  obtain ⟨-, -, -, -, -, -, -, t3, -⟩ := pd_tt n5.1
  rw [← n5.2.1] at t3
  have e : ∀ n, fx_X12_text_26 (n + 1) 1 (nI v) M = (if (sm_token M1) = (3 : Int32) then (if (sm_value M1) = nI v then fx_X12_text_60 (fun a0 a1 a2 => fx_X12_text_26 n a0 a1 a2) (nI v) (1 : Int32) M1 else fx_X12_text_59 (fun a0 a1 a2 => fx_X12_text_26 n a0 a1 a2) (nI v) M1) else fx_X12_text_59 (fun a0 a1 a2 => fx_X12_text_26 n a0 a1 a2) (nI v) M1) := by
    intro n
    rw [fx_X12_text_26, if_neg v3, if_neg (by decide), n1, pz_bd]
  constructor
  · intro hk n
    have f := pv_59 (n := n) hv t1 c1
    rw [n4] at f
    rw [e (n + 1)]
    refine ⟨um_taped (um_starts (um_starts M1 (upd (sm_starts M1) (4 * t + v) (sm_out M1))) (upd (upd (sm_starts M1) (4 * t + v) (sm_out M1)) (4 * t + 3) (sm_out M1))) 0, ?_, pv_EG (pv_Gt G1 pv_Gs) pv_E0⟩
    by_cases a : sm_token M1 = 3
    · have m := t3.mp a
      have w := n5.2.2.2.2 m
      have m' : tk k ∈ ([-3, -4, -5] : List Int32) := by simpa using m
      rw [if_pos a, if_neg (fun q => hk ((pv_v v hv _ m').mp (w.symm.trans q)))]
      exact f
    · rw [if_neg a]
      exact f
  · intro hk c b k' o' hc' hY
    have hk1 := hE k kN (by rw [hk]; exact v1)
    have m : tk k = -3 ∨ tk k = -4 ∨ tk k = -5 := by rw [hk]; exact v2
    have m' : tk k ∈ ([-3, -4, -5] : List Int32) := by simpa using m
    have a := t3.mpr m
    have w : sm_value M1 = nI v := (n5.2.2.2.2 m).trans ((pv_v v hv _ m').mpr hk)
    have ix := pv_ix (v := v) t1 rfl
    have po := pn_out (n := 24) (j := 4 * t + v) (by omega) (by decide)
    have o1 : sm_out M1 = nI o.length := (n2.1 12 (by decide)).trans c3
    have s1 : sm_starts M1 = sm_starts M := n2.2 6 (by decide)
    have d1 : sm_codes M1 = sm_codes M := n2.2 5 (by decide)
    have hC : pd_C t [] o (um_opens (um_heldMany (um_starts M1 (upd (sm_starts M1) (4 * t + v) (nI o.length))) 0) 0) := ⟨⟨rfl, trivial, fun s hs => absurd hs List.not_mem_nil⟩, rfl, c1, t1, o1, fun i hi => (congrFun d1 _).trans (c4 i hi)⟩
    have G2 : pv_G t M1 (um_opens (um_heldMany (um_starts M1 (upd (sm_starts M1) (4 * t + v) (nI o.length))) 0) 0) := pv_Gt pv_Gs ⟨pm_fs (j := 11) (S' := um_heldMany (um_starts M1 _) 0) (pm_fs (j := 10) (S' := um_starts M1 _) pm_fr (by decide)) (by decide), fun _ _ => rfl, fun _ _ => rfl⟩
    obtain ⟨M3, r1, r2, r3, r4⟩ := pd_er hN hE N2 (c + 1) (k + 1) true true [] o (um_opens (um_heldMany (um_starts M1 (upd (sm_starts M1) (4 * t + v) (nI o.length))) 0) 0) am_fu 1 b k' o' (by have : am_fu = 1000000 := rfl; omega) hk1 (fun _ => rfl) (n3 hk1) hC (by show 0 + o.length ≤ k + 1; omega) hY
    rw [if_pos rfl] at r1
    have G3 := pv_Gt G1 (pv_Gt G2 (pv_Gd r2))
    have t3' : sm_texts M3 = nI t := (r2.1.1 3 (by decide)).trans t1
    have e60 : ∀ n, fx_X12_text_26 (n + 1) 1 (nI v) M = (if (if b = true then (1 : Int32) else 0) = 0 then fx_X12_text_26 n 0 (nI (v + 1)) M3 else fx_X12_text_26 n 1 (nI (v + 1)) M3) := by
      intro n
      rw [e n, if_pos a, if_pos w]
      unfold fx_X12_text_60
      rw [ix, if_neg po, if_neg (show ¬ (1 : Int32) = 0 by decide), pz_cl (by omega), o1]
      unfold fx_X12_eRead
      rw [r1, pz_bd, show nI v + (1 : Int32) = nI (v + 1) from (nI_succ _).symm]
    constructor
    · intro hb n
      subst hb
      rw [e60 (n + 1), if_pos (by decide), pv_260, (pv_122 t3' c1).1, r4 rfl]
      exact ⟨_, rfl, pv_EG G3 pv_E0⟩
    · intro hb
      subst hb
      obtain ⟨-, q2, q3⟩ := r3 rfl
      refine ⟨M3, fun n => ?_, G3, q2, q3.2.2, ?_⟩
      · rw [e60 n, if_neg (by decide)]
      · have : sm_starts M3 = _ := r2.1.2 6 (by decide)
        rw [this, ← s1]
        rfl
