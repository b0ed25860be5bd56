/-! ===== the reader: the reference's stack of signs against the yard's ===== -/
def pd_h (f : Nat → Int32) : List Nat → Prop
  | [] => True
  | s :: H => f H.length = nI s ∧ pd_h f H
theorem pd_hu {f : Nat → Int32} {j : Nat} {v : Int32} : ∀ H : List Nat, H.length ≤ j → pd_h f H → pd_h (upd f j v) H := by
  intro H
  induction H with
  | nil => intro _ _; trivial
  | cons s H ih =>
    intro hj h
    have hj' : H.length + 1 ≤ j := hj
    exact ⟨(pz_un (by omega)).trans h.1, ih (by omega) h.2⟩
def pd_C (t : Nat) (H : List Nat) (o : List Int32) (M : sm_T) : Prop := (sm_heldMany M = nI H.length ∧ pd_h (sm_held M) H ∧ ∀ s ∈ H, s = 0 ∨ (11 ≤ s ∧ s ≤ 19)) ∧ sm_opens M = nI (py_op H) ∧ (t < 6 ∧ sm_texts M = nI t ∧ sm_out M = nI o.length ∧ ∀ i, i < o.length → sm_codes M (200 * t + i) = pt_tr (o.getD i 0))
def pd_F (t : Nat) (M M' : sm_T) : Prop := pm_f [10, 11, 12] [5, 12] M M' ∧ ∀ i, i < 200 * t ∨ 200 * t + 200 ≤ i → sm_codes M' i = sm_codes M i
theorem pd_Fr {t : Nat} {M : sm_T} : pd_F t M M := ⟨pm_fr, fun _ _ => rfl⟩
theorem pd_Ft {t : Nat} {M M' M'' : sm_T} (h : pd_F t M M') (h' : pd_F t M' M'') : pd_F t M M'' := ⟨pm_ft h.1 h'.1, fun i hi => (h'.2 i hi).trans (h.2 i hi)⟩
theorem pd_opl : ∀ H : List Nat, py_op H ≤ H.length := by
  intro H
  induction H with
  | nil => exact Nat.le_refl _
  | cons s H ih =>
    show py_op H + (if s = 0 ∨ s = 13 ∨ s = 19 then 1 else 0) ≤ H.length + 1
    split <;> omega
theorem pd_rk : ∀ s, s < 20 → (s = 0 ∨ 11 ≤ s) → fx_X12_rank (nI s) = nI (py_r s) := by decide
theorem pd_tr : ∀ s, s < 20 → 11 ≤ s → pt_tr (py_s s) = nI s := by decide
theorem pd_tr2 : ∀ s, s < 20 → py_r s < 8 := by decide
/-- a code put -/
theorem pd_put {t : Nat} {H : List Nat} {o : List Int32} {M : sm_T} (h : pd_C t H o M) (hl : o.length < 200) (s x : Int32) (hx : x = pt_tr s) : fx_X12_puts x M = some (um_out (um_codes M (upd (sm_codes M) (200 * t + o.length) x)) (nI (o.length + 1))) ∧ pd_C t H (o ++ [s]) (um_out (um_codes M (upd (sm_codes M) (200 * t + o.length) x)) (nI (o.length + 1))) ∧ pd_F t M (um_out (um_codes M (upd (sm_codes M) (200 * t + o.length) x)) (nI (o.length + 1))) := by
  obtain ⟨⟨a1, a2, a3⟩, b, c1, c2, c3, c4⟩ := h
  have ix : (200 : Int32) * sm_texts M + sm_out M = nI (200 * t + o.length) := by
    rw [c2, c3, show (200 : Int32) * nI t = nI (200 * t) from pk_mul 200 t, nI_add]
  refine ⟨?_, ⟨⟨a1, a2, a3⟩, b, c1, c2, by rw [List.length_append]; rfl, fun i hi => ?_⟩, pm_fs (j := 12) (S' := um_codes M _) (pm_fa (j := 5) (S' := M) pm_fr (by decide)) (by decide), fun i hi => pz_un (by omega)⟩
  · unfold fx_X12_puts
    rw [ix, if_neg (pn_out (by omega) (by decide)), pz_cl (by omega), c3, show nI o.length + (1 : Int32) = nI (o.length + 1) from (nI_succ _).symm]
  · rw [List.length_append] at hi
    have hi' : i < o.length + 1 := hi
    show upd (sm_codes M) (200 * t + o.length) x (200 * t + i) = _
    by_cases q : i = o.length
    · subst q
      rw [pz_us, hx]
      simp
    · rw [pz_un (by omega), c4 i (by omega)]
      simp only [List.getD_eq_getElem?_getD]
      rw [List.getElem?_append_left (by omega)]
/-- the signs that come -/
theorem pd_uw {t r : Nat} (hr : 1 ≤ r ∧ r < 8) : ∀ (H : List Nat) (n : Nat) (o : List Int32) (M : sm_T), H.length + o.length < 200 → H.length < n → pd_C t H o M → ∃ M', fx_X12_unwinds_0 n (nI r) M = some M' ∧ pd_C t (py_u r H o).1 (py_u r H o).2 M' ∧ pd_F t M M' := by
  intro H
  induction H with
  | nil =>
    intro n o M _ hn h
    obtain ⟨n, rfl⟩ : ∃ n', n = n' + 1 := ⟨n - 1, by omega⟩
    refine ⟨M, ?_, h, pd_Fr⟩
    unfold fx_X12_unwinds_0
    rw [h.1.1]
    exact if_pos (by decide)
  | cons s H ih =>
    intro n o M hl hn h
    obtain ⟨n, rfl⟩ : ∃ n', n = n' + 1 := ⟨n - 1, by omega⟩
    have hl' : H.length + 1 + o.length < 200 := hl
    have hn' : H.length + 1 < n + 1 := hn
    obtain ⟨⟨a1, a2, a3⟩, b, c⟩ := id h
    have hm : sm_heldMany M = nI (H.length + 1) := a1
    have hh : sm_held M H.length = nI s := a2.1
    have hs := a3 s (List.mem_cons_self ..)
    have s20 : s < 20 := by omega
    have rk := pd_rk s s20 (by omega)
    have r8 := pd_tr2 s s20
    have opl := pd_opl H
    by_cases c1 : r ≤ py_r s
    · have s0 : s ≠ 0 := fun q => by rw [q] at c1; have : py_r 0 = 0 := rfl; omega
      have e : fx_X12_unwinds_0 (n + 1) (nI r) M = am_bd (fx_X12_puts (nI s) (um_opens (um_heldMany M (nI H.length)) (nI (py_op H)))) (fun q => fx_X12_unwinds_0 n (nI r) q) := by
        rw [fx_X12_unwinds_0]
        by_cases q1 : s = 13
        · subst q1
          have b' : sm_opens M = nI (py_op H + 1) := by rw [b, py_op1 (Or.inr (Or.inl rfl))]
          simp (disch := omega) only [pz_l, pz_ltT, pz_ltF, pz_leT, pz_leF, pz_eqT, pz_eqF, pz_nF, pz_nqF, pz_cl, pz_rd, pz_up, pz_bd, pz_let, pk_mul, nI_add, pz_sub, pz_div, pz_m, pz_neg1, eq_self, or_self, false_or, or_false, true_or, or_true, ↓reduceIte, if_true, if_false, hm, hh, rk, b', Nat.add_sub_cancel, pz_ltF (Nat.zero_le _)]
        · by_cases q2 : s = 19
          · subst q2
            have b' : sm_opens M = nI (py_op H + 1) := by rw [b, py_op1 (Or.inr (Or.inr rfl))]
            simp (disch := omega) only [pz_l, pz_ltT, pz_ltF, pz_leT, pz_leF, pz_eqT, pz_eqF, pz_nF, pz_nqF, pz_cl, pz_rd, pz_up, pz_bd, pz_let, pk_mul, nI_add, pz_sub, pz_div, pz_m, pz_neg1, eq_self, or_self, false_or, or_false, true_or, or_true, ↓reduceIte, if_true, if_false, hm, hh, rk, b', Nat.add_sub_cancel, pz_ltF (Nat.zero_le _)]
          · have b' : sm_opens M = nI (py_op H) := by rw [b, py_op0 (fun q => q.elim s0 (fun q => q.elim q1 q2))]
            simp (disch := omega) only [pz_l, pz_ltT, pz_ltF, pz_leT, pz_leF, pz_eqT, pz_eqF, pz_nF, pz_nqF, pz_cl, pz_rd, pz_up, pz_bd, pz_let, pk_mul, nI_add, pz_sub, pz_div, pz_m, pz_neg1, eq_self, or_self, false_or, or_false, true_or, or_true, ↓reduceIte, if_true, if_false, hm, hh, rk, b', Nat.add_sub_cancel, Nat.sub_zero, pz_ltF (Nat.zero_le _)]
      have C0 : pd_C t H o (um_opens (um_heldMany M (nI H.length)) (nI (py_op H))) := ⟨⟨rfl, a2.2, fun x hx => a3 x (List.mem_cons_of_mem _ hx)⟩, rfl, c⟩
      obtain ⟨p1, p2, p3⟩ := pd_put C0 (by omega) (py_s s) (nI s) (pd_tr s s20 (by omega)).symm
      rw [p1, pz_bd] at e
      obtain ⟨M', u1, u2, u3⟩ := ih n (o ++ [py_s s]) _ (by rw [List.length_append]; show H.length + (o.length + 1) < 200; omega) (by omega) p2
      refine ⟨M', e.trans u1, ?_, pd_Ft (pd_Ft ⟨pm_fs (j := 11) (S' := um_heldMany M (nI H.length)) (pm_fs (j := 10) (S' := M) pm_fr (by decide)) (by decide), fun _ _ => rfl⟩ p3) u3⟩
      rw [py_u1 c1]
      exact u2
    · have e : fx_X12_unwinds_0 (n + 1) (nI r) M = some M := by
        unfold fx_X12_unwinds_0
        simp (disch := omega) only [pz_l, pz_ltT, pz_ltF, pz_leT, pz_leF, pz_eqT, pz_eqF, pz_nF, pz_nqF, pz_cl, pz_rd, pz_up, pz_bd, pz_let, pk_mul, nI_add, pz_sub, pz_div, pz_m, pz_neg1, eq_self, or_self, false_or, or_false, true_or, or_true, ↓reduceIte, if_true, if_false, hm, hh, rk, Nat.add_sub_cancel, pz_ltF (Nat.zero_le _)]
      have eu : py_u r (s :: H) o = (s :: H, o) := if_neg c1
      rw [eu]
      exact ⟨M, e, h, pd_Fr⟩
theorem pd_ul {r : Nat} : ∀ (H : List Nat) (o : List Int32), (py_u r H o).1.length + (py_u r H o).2.length = H.length + o.length := by
  intro H
  induction H with
  | nil => intro o; rfl
  | cons s H ih =>
    intro o
    have e : py_u r (s :: H) o = if r ≤ py_r s then py_u r H (o ++ [py_s s]) else (s :: H, o) := rfl
    rw [e]
    by_cases c : r ≤ py_r s
    · rw [if_pos c, ih, List.length_append]
      show H.length + (o.length + 1) = H.length + 1 + o.length
      omega
    · rw [if_neg c]
/-- a sign held -/
theorem pd_hold {t s : Nat} {H : List Nat} {o : List Int32} {M : sm_T} (h : pd_C t H o M) (hl : H.length < 200) (hs : 11 ≤ s ∧ s ≤ 19 ∧ s ≠ 13 ∧ s ≠ 19) : ∃ M', fx_X12_holds (nI s) M = some M' ∧ pd_C t (s :: H) o M' ∧ pd_F t M M' := by
  obtain ⟨⟨a1, a2, a3⟩, b, c⟩ := h
  refine ⟨um_heldMany (um_held M (upd (sm_held M) H.length (nI s))) (nI (H.length + 1)), ?_, ⟨⟨rfl, ⟨pz_us, pd_hu H (Nat.le_refl _) a2⟩, fun x hx => ?_⟩, ?_, c⟩, pm_fs (j := 10) (S' := um_held M _) (pm_fa (j := 12) (S' := M) pm_fr (by decide)) (by decide), fun _ _ => rfl⟩
  · unfold fx_X12_holds
    rw [a1, if_neg (pn_out hl (by decide)), pz_cl (by omega), show nI H.length + (1 : Int32) = nI (H.length + 1) from (nI_succ _).symm]
  · rcases List.mem_cons.mp hx with rfl | hx
    · omega
    · exact a3 x hx
  · rw [py_op0 (by omega)]; exact b
/-- one opened -/
theorem pd_open {t s : Nat} {H : List Nat} {o : List Int32} {M : sm_T} (h : pd_C t H o M) (hl : H.length < 200) (hs : s = 0 ∨ s = 13 ∨ s = 19) : (py_op H = 5 → fx_X12_opensOne (nI s) M = some (0, M)) ∧ (py_op H ≠ 5 → ∃ M', fx_X12_opensOne (nI s) M = some (1, M') ∧ pd_C t (s :: H) o M' ∧ pd_F t M M') := by
  obtain ⟨⟨a1, a2, a3⟩, b, c⟩ := h
  have opl := pd_opl H
  refine ⟨fun h5 => ?_, fun h5 => ⟨um_heldMany (um_held (um_opens M (nI (py_op H + 1))) (upd (sm_held M) H.length (nI s))) (nI (H.length + 1)), ?_, ⟨⟨rfl, ⟨pz_us, pd_hu H (Nat.le_refl _) a2⟩, fun x hx => ?_⟩, ?_, c⟩, pm_fs (j := 10) (S' := um_held (um_opens M _) _) (pm_fa (j := 12) (S' := um_opens M _) (pm_fs (j := 11) (S' := M) pm_fr (by decide)) (by decide)) (by decide), fun _ _ => rfl⟩⟩
  · unfold fx_X12_opensOne
    rw [b, h5]
    exact if_pos (by decide)
  · unfold fx_X12_opensOne
    have n5 : ¬ nI (py_op H) = (5 : Int32) := fun q => h5 ((nI_eq (b := 5) (by omega) (by decide)).mp q)
    have e : fx_X12_holds (nI s) (um_opens M (nI (py_op H + 1))) = some (um_heldMany (um_held (um_opens M (nI (py_op H + 1))) (upd (sm_held M) H.length (nI s))) (nI (H.length + 1))) := by
      have a1' : sm_heldMany (um_opens M (nI (py_op H + 1))) = nI H.length := a1
      unfold fx_X12_holds
      rw [a1', if_neg (pn_out hl (by decide)), pz_cl (by omega), show nI H.length + (1 : Int32) = nI (H.length + 1) from (nI_succ _).symm]
      rfl
    rw [b, if_neg n5, show nI (py_op H) + (1 : Int32) = nI (py_op H + 1) from (nI_succ _).symm, e, pz_bd]
  · rcases List.mem_cons.mp hx with rfl | hx
    · omega
    · exact a3 x hx
  · rw [py_op1 hs]; rfl
