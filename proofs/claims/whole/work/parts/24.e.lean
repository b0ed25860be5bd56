/-! ===== best: the sums ===== -/
def pv_kk (V : pv_V) (r : Nat) (f l : Int32) : Int32 := fk_keeps V.2.1 (pe_bd 1 (pe_val (pv_nr V r) (V.1 1))) (pv_lk V r) (V.2.2.1 0) f l
theorem pv_kpk (V : pv_V) (r : Nat) (f l : Int32) : pv_kp V r f l = pv_lk V r * pv_kk V r f l := rfl
def pv_pl (V : pv_V) : Nat → Int32
  | 0 => nI 0
  | r + 1 => pv_pl V r + pv_lk V r * pv_kk V r (nI 0) (nI 0)
def pv_mb (V : pv_V) (a b : Nat) : Int32 := (pv_pl V 6 + pv_lk V a * (pv_kk V a (nI 1) (nI 0) - pv_kk V a (nI 0) (nI 0))) + pv_lk V b * (pv_kk V b (nI 0) (nI 1) - pv_kk V b (nI 0) (nI 0))
theorem pf_am96 {S : sx_T} {V : pv_V} {v cr a : Nat} (ha : a < 6) (k49 : Int32 → Int32 → Int32 → Int32 → sm_T → Option sm_T) (x y z : Int32) : ∀ (d b g : Nat) (M : sm_T), b + d = 6 → d < g → pm_C S V v cr M → ∃ M', fx_X12_addsMinds_96 k49 g (nI v) (nI cr) x (nI a) y z (nI b) M = k49 (nI v) (nI cr) x (nI (a + 1)) M' ∧ pm_f [] [13, 14, 16] M M' ∧ pm_C S V v cr M' ∧ ∀ j, sm_mindBy M' j = if 6 * a + b ≤ j ∧ j < 6 * a + 6 then sm_mindBy M j + ((x + y * z) + pv_lk V (j - 6 * a) * (pv_kk V (j - 6 * a) (nI 0) (nI 1) - pv_kk V (j - 6 * a) (nI 0) (nI 0))) else sm_mindBy M j := by
  intro d
  induction d with
  | zero =>
    intro b g M h1 h2 hM
    obtain ⟨e, rfl⟩ : ∃ e, g = e + 1 := ⟨g - 1, by omega⟩
    have hb : b = 6 := by omega
    subst hb
    refine ⟨M, ?_, pm_fr, hM, fun j => by rw [if_neg (by omega)]⟩
    rw [fx_X12_addsMinds_96, if_pos (show (6 : Int32) ≤ nI 6 by decide), show nI a + 1 = nI (a + 1) from (nI_succ a).symm]
  | succ d ih =>
    intro b g M h1 h2 hM
    obtain ⟨e, rfl⟩ : ∃ e, g = e + 1 := ⟨g - 1, by omega⟩
    obtain ⟨M1, s1, f1⟩ := pe_likes hM (show b < 6 by omega)
    have hM1 := pm_Cf hM (pm_fe f1)
    obtain ⟨M2, s2, f2⟩ := pe_keeps hM1 (show b < 6 by omega) 0 1 (by decide) (by decide)
    have hM2 := pm_Cf hM1 (pm_fe f2)
    obtain ⟨M3, s3, f3⟩ := pe_keeps hM2 (show b < 6 by omega) 0 0 (by decide) (by decide)
    have hM3 := pm_Cf hM2 (pm_fe f3)
    have mb3 : sm_mindBy M3 = sm_mindBy M := (f3.2 16 (by decide)).trans ((f2.2 16 (by decide)).trans (f1.2 16 (by decide)))
    have s2' : fx_X12_keepsOf (nI v) (nI b) (nI cr) (pv_lk V b) 0 1 M1 = some (pv_kk V b (nI 0) (nI 1), M2) := s2
    have s3' : fx_X12_keepsOf (nI v) (nI b) (nI cr) (pv_lk V b) 0 0 M2 = some (pv_kk V b (nI 0) (nI 0), M3) := s3
    obtain ⟨M4, r1, r2, r3, r4⟩ := ih (b + 1) e (um_mindBy M3 (upd (sm_mindBy M3) (6 * a + b) (sm_mindBy M3 (6 * a + b) + ((x + y * z) + pv_lk V b * (pv_kk V b (nI 0) (nI 1) - pv_kk V b (nI 0) (nI 0)))))) (by omega) (by omega) (pm_Cf hM3 (pm_fa (j := 16) (S' := M3) pm_fr (by decide)))
    have ix : (6 : Int32) * nI a + nI b = nI (6 * a + b) := by
      rw [show (6 : Int32) * nI a = nI (6 * a) from pk_mul 6 a, nI_add]
    refine ⟨M4, Eq.trans ?_ r1, pm_ft (pm_fa (j := 16) (S' := M3) (pm_ft (pm_fm f1 (by decide) (by decide)) (pm_ft (pm_fm f2 (by decide) (by decide)) (pm_fm f3 (by decide) (by decide)))) (by decide)) r2, r3, fun j => ?_⟩
    · rw [fx_X12_addsMinds_96, if_neg (show ¬ (6 : Int32) ≤ nI b from nI_ge (b := 6) (by omega) (by decide)), s1, pz_bd]
      show am_bd (fx_X12_keepsOf (nI v) (nI b) (nI cr) (pv_lk V b) 0 1 M1) _ = _
      rw [s2', pz_bd]
      show am_bd (fx_X12_keepsOf (nI v) (nI b) (nI cr) (pv_lk V b) 0 0 M2) _ = _
      rw [s3', pz_bd, ix, if_neg (nI_in (show 6 * a + b < 36 by omega) (by decide)), if_neg (nI_in (show 6 * a + b < 36 by omega) (by decide)), pz_cl (by omega), show nI b + 1 = nI (b + 1) from (nI_succ b).symm]
    · rw [r4 j]
      have mj : sm_mindBy (um_mindBy M3 (upd (sm_mindBy M3) (6 * a + b) (sm_mindBy M3 (6 * a + b) + ((x + y * z) + pv_lk V b * (pv_kk V b (nI 0) (nI 1) - pv_kk V b (nI 0) (nI 0)))))) j = if j = 6 * a + b then sm_mindBy M3 (6 * a + b) + ((x + y * z) + pv_lk V b * (pv_kk V b (nI 0) (nI 1) - pv_kk V b (nI 0) (nI 0))) else sm_mindBy M3 j := rfl
      rw [mj, mb3]
      by_cases c : j = 6 * a + b
      · subst c
        rw [if_neg (by omega), if_pos rfl, if_pos (by omega), Nat.add_sub_cancel_left]
      · rw [if_neg c]
        by_cases c2 : 6 * a + b ≤ j ∧ j < 6 * a + 6
        · rw [if_pos (by omega), if_pos c2]
        · rw [if_neg (by omega), if_neg c2]
theorem pf_am49 {S : sx_T} {V : pv_V} {v cr : Nat} (x : Int32) : ∀ (d a g : Nat) (M : sm_T), a + d = 6 → d < g → pm_C S V v cr M → ∃ M', fx_X12_addsMinds_49 g (nI v) (nI cr) x (nI a) M = some M' ∧ pm_f [] [13, 14, 16] M M' ∧ ∀ i b, i < 6 → b < 6 → sm_mindBy M' (6 * i + b) = if a ≤ i then sm_mindBy M (6 * i + b) + ((x + pv_lk V i * (pv_kk V i (nI 1) (nI 0) - pv_kk V i (nI 0) (nI 0))) + pv_lk V b * (pv_kk V b (nI 0) (nI 1) - pv_kk V b (nI 0) (nI 0))) else sm_mindBy M (6 * i + b) := by
  intro d
  induction d with
  | zero =>
    intro a g M h1 h2 hM
    obtain ⟨e, rfl⟩ : ∃ e, g = e + 1 := ⟨g - 1, by omega⟩
    have ha : a = 6 := by omega
    subst ha
    refine ⟨M, ?_, pm_fr, fun i b hi hb => by rw [if_neg (by omega)]⟩
    rw [fx_X12_addsMinds_49, if_pos (show (6 : Int32) ≤ nI 6 by decide)]
  | succ d ih =>
    intro a g M h1 h2 hM
    obtain ⟨e, rfl⟩ : ∃ e, g = e + 1 := ⟨g - 1, by omega⟩
    obtain ⟨M1, s1, f1⟩ := pe_likes hM (show a < 6 by omega)
    have hM1 := pm_Cf hM (pm_fe f1)
    obtain ⟨M2, s2, f2⟩ := pe_keeps hM1 (show a < 6 by omega) 1 0 (by decide) (by decide)
    have hM2 := pm_Cf hM1 (pm_fe f2)
    obtain ⟨M3, s3, f3⟩ := pe_keeps hM2 (show a < 6 by omega) 0 0 (by decide) (by decide)
    have hM3 := pm_Cf hM2 (pm_fe f3)
    have mb3 : sm_mindBy M3 = sm_mindBy M := (f3.2 16 (by decide)).trans ((f2.2 16 (by decide)).trans (f1.2 16 (by decide)))
    have s2' : fx_X12_keepsOf (nI v) (nI a) (nI cr) (pv_lk V a) 1 0 M1 = some (pv_kk V a (nI 1) (nI 0), M2) := s2
    have s3' : fx_X12_keepsOf (nI v) (nI a) (nI cr) (pv_lk V a) 0 0 M2 = some (pv_kk V a (nI 0) (nI 0), M3) := s3
    obtain ⟨M4, q1, q2, q3, q4⟩ := pf_am96 (S := S) (V := V) (v := v) (cr := cr) (show a < 6 by omega) (fun a0 a1 a2 a3 a4 => fx_X12_addsMinds_49 e a0 a1 a2 a3 a4) x (pv_lk V a) (pv_kk V a (nI 1) (nI 0) - pv_kk V a (nI 0) (nI 0)) 6 0 am_fu M3 (by omega) (by rw [pf_u]; decide) hM3
    obtain ⟨M5, r1, r2, r3⟩ := ih (a + 1) e M4 (by omega) (by omega) q3
    refine ⟨M5, Eq.trans ?_ r1, pm_ft (pm_ft (pm_fm f1 (by decide) (by decide)) (pm_ft (pm_fm f2 (by decide) (by decide)) (pm_fm f3 (by decide) (by decide)))) (pm_ft q2 r2), fun i b hi hb => ?_⟩
    · rw [fx_X12_addsMinds_49, if_neg (show ¬ (6 : Int32) ≤ nI a from nI_ge (b := 6) (by omega) (by decide)), s1, pz_bd]
      show am_bd (fx_X12_keepsOf (nI v) (nI a) (nI cr) (pv_lk V a) 1 0 M1) _ = _
      rw [s2', pz_bd]
      show am_bd (fx_X12_keepsOf (nI v) (nI a) (nI cr) (pv_lk V a) 0 0 M2) _ = _
      rw [s3', pz_bd]
      exact q1
    · rw [r3 i b hi hb, q4 (6 * i + b), mb3]
      by_cases c : i = a
      · subst c
        rw [if_neg (by omega), if_pos (by omega), if_pos (by omega), Nat.add_sub_cancel_left]
      · by_cases c2 : a ≤ i
        · rw [if_pos (by omega), if_neg (by omega), if_pos c2]
        · rw [if_neg (by omega), if_neg (by omega), if_neg c2]
theorem pf_am5 {S : sx_T} {V : pv_V} {v cr : Nat} : ∀ (d r g : Nat) (M : sm_T), r + d = 6 → d < g → pm_C S V v cr M → ∃ M', fx_X12_addsMinds_5 g (nI v) (nI cr) (pv_pl V r) (nI r) M = fx_X12_addsMinds_49 am_fu (nI v) (nI cr) (pv_pl V 6) (nI 0) M' ∧ pm_f [] [13, 14] M M' ∧ pm_C S V v cr M' := by
  intro d
  induction d with
  | zero =>
    intro r g M h1 h2 hM
    obtain ⟨e, rfl⟩ : ∃ e, g = e + 1 := ⟨g - 1, by omega⟩
    have hr : r = 6 := by omega
    subst hr
    refine ⟨M, ?_, pm_fr, hM⟩
    rw [fx_X12_addsMinds_5, if_pos (show (6 : Int32) ≤ nI 6 by decide)]
    rfl
  | succ d ih =>
    intro r g M h1 h2 hM
    obtain ⟨e, rfl⟩ : ∃ e, g = e + 1 := ⟨g - 1, by omega⟩
    obtain ⟨M1, s1, f1⟩ := pe_likes hM (show r < 6 by omega)
    have hM1 := pm_Cf hM (pm_fe f1)
    obtain ⟨M2, s2, f2⟩ := pe_keeps hM1 (show r < 6 by omega) 0 0 (by decide) (by decide)
    have hM2 := pm_Cf hM1 (pm_fe f2)
    have s2' : fx_X12_keepsOf (nI v) (nI r) (nI cr) (pv_lk V r) 0 0 M1 = some (pv_kk V r (nI 0) (nI 0), M2) := s2
    obtain ⟨M3, r1, r2, r3⟩ := ih (r + 1) e M2 (by omega) (by omega) hM2
    refine ⟨M3, Eq.trans ?_ r1, pm_ft f1 (pm_ft f2 r2), r3⟩
    rw [fx_X12_addsMinds_5, if_neg (show ¬ (6 : Int32) ≤ nI r from nI_ge (b := 6) (by omega) (by decide)), s1, pz_bd]
    show am_bd (fx_X12_keepsOf (nI v) (nI r) (nI cr) (pv_lk V r) 0 0 M1) _ = _
    rw [s2', pz_bd, show nI r + 1 = nI (r + 1) from (nI_succ r).symm]
    rfl
theorem pf_am {S : sx_T} {V : pv_V} {v cr : Nat} {M : sm_T} (hM : pm_C S V v cr M) : ∃ M', fx_X12_addsMinds (nI v) (nI cr) M = some M' ∧ pm_f [] [13, 14, 16] M M' ∧ ∀ i b, i < 6 → b < 6 → sm_mindBy M' (6 * i + b) = sm_mindBy M (6 * i + b) + pv_mb V i b := by
  obtain ⟨M1, p1, p2, p3⟩ := pf_am5 6 0 am_fu M (by omega) (by rw [pf_u]; decide) hM
  obtain ⟨M2, q1, q2, q3⟩ := pf_am49 (S := S) (V := V) (v := v) (cr := cr) (pv_pl V 6) 6 0 am_fu M1 (by omega) (by rw [pf_u]; decide) p3
  refine ⟨M2, p1.trans q1, pm_ft (pm_fm p2 (by decide) (by decide)) q2, fun i b hi hb => ?_⟩
  rw [q3 i b hi hb, if_pos (Nat.zero_le i), show sm_mindBy M1 = sm_mindBy M from p2.2 16 (by decide)]
  rfl
theorem pi_ring (a m1 m2 m3 m4 l ga gb : Int32) : 0 + a + m1 + m2 + m3 + m4 + l = ((ga + (m1 + (m2 + (m3 + (m4 + (gb + 0)))))) + (a - ga)) + (l - gb) := by
  grind
