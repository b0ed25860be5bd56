/-! ===== text: one part, in the class ===== -/
def pv_F (t : Nat) (S S' : sx_T) : Prop := px_f [9, 10, 13, 14] [10, 11, 12] S S' ∧ (∀ i, i < 160 * t → sx_tx_steps S' i = sx_tx_steps S i) ∧ ∀ i, i < 3 * t → sx_tx_ends S' i = sx_tx_ends S i ∧ sx_tx_named S' i = sx_tx_named S i
theorem pv_Fr {t : Nat} {S : sx_T} : pv_F t S S := ⟨px_fr, fun _ _ => rfl, fun _ _ => ⟨rfl, rfl⟩⟩
theorem pv_Ft {t : Nat} {S S' S'' : sx_T} (h : pv_F t S S') (h' : pv_F t S' S'') : pv_F t S S'' := ⟨px_ft h.1 h'.1, fun i hi => (h'.2.1 i hi).trans (h.2.1 i hi), fun i hi => ⟨(h'.2.2 i hi).1.trans (h.2.2 i hi).1, (h'.2.2 i hi).2.trans (h.2.2 i hi).2⟩⟩
theorem pv_Fc {t : Nat} {S S' : sx_T} (h : pc_F t S S') : pv_F t S S' := ⟨px_fm h.1 (by decide) (by decide), fun i hi => h.2 i (Or.inl hi), fun i _ => ⟨congrFun (h.1.2 11 (by decide)) i, congrFun (h.1.2 12 (by decide)) i⟩⟩
theorem pv_end {tk : Nat → Int32} {N t p k v : Nat} {o : List Int32} {S : sx_T} (hv : v < 3) (h : pc_C tk N t p k o S) : fx_X8_endPart (nI v) S = ux_tx_names (ux_tx_named (ux_tx_ends S (upd (sx_tx_ends S) (3 * t + v) (nI (160 * t + o.length)))) (upd (sx_tx_named S) (3 * t + v) (sx_tx_names S))) 0 := by
  obtain ⟨-, ⟨b1, b2, b3, b4, b5⟩, -⟩ := h
  have ix : sx_tx_count S * (3 : Int32) + nI v = nI (3 * t + v) := by
    rw [b2, show nI t * (3 : Int32) = nI (t * 3) from pk_mul t 3, nI_add, Nat.mul_comm]
  unfold fx_X8_endPart
  rw [ix, pz_up (by omega) (by decide), pz_up (by omega) (by decide), b3]
def pv_X (tk : Nat → Int32) (N t k v c k' : Nat) (o : List Int32) (r : Option (Int32 × sx_T)) (S S' : sx_T) : Prop := (r = some (0, S') ∧ sx_rd_seen S' = nI k' ∧ py_Y tk (c + 1) (k + 1) true true [] o = some (false, k', [])) ∨ ∃ new, r = some (1, S') ∧ pc_ok new ∧ py_Y tk (c + 1) (k + 1) true true [] o = some (true, k', o ++ new) ∧ pc_C tk N t (o ++ new).length k' (o ++ new) S' ∧ sx_tx_ends S' (3 * t + v) = nI (160 * t + (o ++ new).length) ∧ (∀ j, j < 6 → pb_it (sx_tx_named S' (3 * t + v)) j = false → (-10 - nI j) ∉ new) ∧ ∀ i, i ≠ 3 * t + v → sx_tx_ends S' i = sx_tx_ends S i ∧ sx_tx_named S' i = sx_tx_named S i
theorem pv_x {tk : Nat → Int32} {N t k v : Nat} {o : List Int32} {a1 : Int32} {S : sx_T} (hE : ∀ k, k < N → tk k ≠ -1 → k + 1 < N) (hT : ∀ k, 0 ≤ tk k → ∃ j, j < 10000 ∧ tk k = nI j) (hv : v < 3) (ha : a1 ≠ -1) (h : pc_C tk N t o.length k o S) : (tk k ≠ a1 ∧ fx_X4_readPart a1 (nI v) S = some (0, S)) ∨ (tk k = a1 ∧ k + 1 < N ∧ ∃ c S' k', k' < N ∧ c < 162 ∧ pv_F t S S' ∧ pv_X tk N t k v c k' o (fx_X4_readPart a1 (nI v) S) S S') := by
  have tS : sx_rd_token S = tk k := h.1.2.2.2.2.1
  have kN : k < N := h.1.1
  have N2 : N < 162 := h.1.2.1
  unfold fx_X4_readPart
  by_cases hk : tk k = a1
  · refine Or.inr ⟨hk, hE k kN (by rw [hk]; exact ha), ?_⟩
    obtain ⟨A, FA⟩ := pc_adv h (hE k kN (by rw [hk]; exact ha))
    rw [pc_yp (tS.trans hk), pz_let, if_neg (show ¬ ((1 : Int32), fx_X4_advance S).1 = 0 from (by decide : ¬ (1 : Int32) = 0))]
    obtain ⟨c, new, b, S2, ef, hc, F2, hZ⟩ := pc_fr hE hT _ _ _ A (Nat.le_refl _)
    rw [ef, pz_bd]
    have n1 : pc_N 1 true [] := ⟨rfl, by decide⟩
    rcases hZ with ⟨rfl, C2, hl, hok, hc0, hY⟩ | ⟨rfl, hsn, hY⟩
    · have tS2 : sx_rd_token S2 = tk (k + 1 + c) := C2.1.2.2.2.2.1
      have sS2 : sx_rd_seen S2 = nI (k + 1 + c) := C2.1.2.2.2.1
      rw [if_neg (show ¬ ((1 : Int32), S2).1 = 0 from (by decide : ¬ (1 : Int32) = 0))]
      by_cases c59 : tk (k + 1 + c) = -59
      · rcases hY with ⟨he, hY⟩ | ⟨-, hd, -⟩
        · have y1 := hY 1 true [] o n1 rfl
          rw [Nat.add_comm 1 c] at y1
          have y2 : py_Y tk (0 + 1) (k + 1 + c) false true [] (o ++ new) = some (true, k + 1 + c + 1, o ++ new) := by
            rw [py_YF, if_pos c59]
            rfl
          have hk2 := hE (k + 1 + c) hc (by rw [c59]; decide)
          obtain ⟨A3, F3⟩ := pc_adv C2 hk2
          rw [pc_yp (tS2.trans c59), pz_let, if_neg (show ¬ ((1 : Int32), fx_X4_advance S2).1 = 0 from (by decide : ¬ (1 : Int32) = 0)), pz_let, pv_end hv A3]
          generalize fx_X4_advance S2 = S3 at *
          have FE : pv_F t S3 (ux_tx_names (ux_tx_named (ux_tx_ends S3 (upd (sx_tx_ends S3) (3 * t + v) (nI (160 * t + (o ++ new).length)))) (upd (sx_tx_named S3) (3 * t + v) (sx_tx_names S3))) 0) := ⟨px_fs (j := 10) (S' := ux_tx_named (ux_tx_ends S3 _) _) (px_fa (j := 12) (S' := ux_tx_ends S3 _) (px_fa (j := 11) (S' := S3) px_fr (by decide)) (by decide)) (by decide), fun _ _ => rfl, fun i hi => ⟨pz_un (by omega), pz_un (by omega)⟩⟩
          have F13 : pc_F t S S3 := pc_Ft FA (pc_Ft F2 F3)
          have e1 : sx_tx_ends S3 = sx_tx_ends S := F13.1.2 11 (by decide)
          have e2 : sx_tx_named S3 = sx_tx_named S := F13.1.2 12 (by decide)
          refine ⟨c, _, k + 1 + c + 1, hk2, by omega, pv_Ft (pv_Fc F13) FE, Or.inr ⟨new, rfl, hok, y1.trans y2, ⟨A3.1, A3.2.1, fun j hj hb => by rw [List.drop_length]; exact List.not_mem_nil⟩, pz_us, fun j hj hb => ?_, fun i hi => ⟨?_, ?_⟩⟩⟩
          · have hb' : pb_it (upd (sx_tx_named S3) (3 * t + v) (sx_tx_names S3) (3 * t + v)) j = false := hb
            rw [pz_us] at hb'
            have := A3.2.2 j hj hb'
            rw [List.drop_left] at this
            exact this
          · show upd (sx_tx_ends S3) (3 * t + v) _ i = _
            rw [pz_un hi, e1]
          · show upd (sx_tx_named S3) (3 * t + v) _ i = _
            rw [pz_un hi, e2]
        · rw [c59] at hd
          exact absurd hd (by decide)
      · rw [pc_np (by rw [tS2]; exact c59), pz_let, if_pos (show ((0 : Int32), S2).1 = 0 from rfl)]
        refine ⟨c, S2, k + 1 + c, hc, by omega, pv_Fc (pc_Ft FA F2), Or.inl ⟨rfl, sS2, ?_⟩⟩
        rcases hY with ⟨he, hY⟩ | ⟨-, hd, hY⟩
        · have y1 := hY 1 true [] o n1 rfl
          rw [Nat.add_comm 1 c] at y1
          refine y1.trans ?_
          show py_Y tk (0 + 1) (k + 1 + c) false true [] (o ++ new) = _
          rw [py_YF, if_neg c59]
          by_cases c41 : tk (k + 1 + c) = -41
          · rw [if_pos c41]; rfl
          · have s0 : py_sg (tk (k + 1 + c)) = 0 := by
              obtain ⟨⟨⟨⟨h1, h2, h3⟩, h4, h5⟩, h6⟩, h7⟩ := he
              rcases py_sgo (tk (k + 1 + c)) with q | ⟨q, -⟩ | ⟨q, -⟩ | ⟨q, -⟩ | ⟨q, -⟩ | ⟨q, -⟩ | ⟨q, -⟩ | ⟨q, -⟩
              · exact q
              · exact absurd q h7
              · exact absurd q h6
              · exact absurd q h4
              · exact absurd q h5
              · exact absurd q h2
              · exact absurd q h3
              · exact absurd q h1
            rw [if_neg c41, if_pos s0]
        · have y0 := hY 0 true [] o n1 rfl
          rw [Nat.zero_add] at y0
          exact y0
    · rw [if_pos (show ((0 : Int32), S2).1 = 0 from rfl)]
      have y0 := hY 0 true [] o n1 rfl
      rw [Nat.zero_add] at y0
      exact ⟨c, S2, k + 1 + c, hc, by omega, pv_Fc (pc_Ft FA F2), Or.inl ⟨rfl, hsn, y0⟩⟩
  · refine Or.inl ⟨hk, ?_⟩
    rw [pc_np (by rw [tS]; exact hk), pz_let, if_pos (show ((0 : Int32), S).1 = 0 from rfl)]
