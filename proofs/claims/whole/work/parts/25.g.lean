/-! ===== the reader: not, and the whole ===== -/
theorem pc_w3 {x : Int32} (h : pc_e3 x) : py_w x ≤ 3 := Nat.le_trans (py_w2 h) (by decide)
theorem pc_w4 {x : Int32} (h : pc_e3 x) : py_w x ≤ 4 := Nat.le_trans (py_w2 h) (by decide)
theorem pc_Nt {tk : Nat → Int32} {N t p op : Nat} {f g : Int32 → sx_T → Option (Int32 × sx_T)} (hE : ∀ k, k < N → tk k ≠ -1 → k + 1 < N) (ho : op ≤ 5) (hf : op < 5 → ∀ S k o, pc_C tk N t p k o S → p ≤ o.length → pc_Z tk N t p (op + 1) (f (nI (op + 1)) S) S k o true (pc_N 4) pc_e3 True pc_id pc_ok) (hg : ∀ S k o, pc_C tk N t p k o S → p ≤ o.length → pc_Z tk N t p op (g (nI op) S) S k o true (pc_T tk k 5) pc_e5 False pc_id pc_ok) : ∀ S k o, pc_C tk N t p k o S → p ≤ o.length → pc_Z tk N t p op (fx_X4_readNot f g (nI op) S) S k o true (pc_N 4) pc_e3 True pc_id pc_ok := by
  intro S k o h hp
  have kN := h.1.1
  have tS : sx_rd_token S = tk k := h.1.2.2.2.2.1
  have ol : o.length ≤ k := h.2.1.2.2.2.1
  by_cases hm : tk k = -8
  · have h1 : ¬ (0 ≤ tk k ∨ fx_X8_isName (tk k) ≠ 0) := by rw [hm]; decide
    by_cases h5 : op < 5
    · have l5 : nI op < (5 : Int32) := nI_lt (b := 5) h5 (by decide)
      have hk1 : k + 1 < N := hE k kN (by rw [hm]; decide)
      obtain ⟨A, FA⟩ := pc_adv h hk1
      obtain ⟨c, new, b, S', ef, hc, F', hZ⟩ := hf h5 _ _ _ A hp
      have e1 : fx_X4_readNot f g (nI op) S = (if b = 0 then some (((0 : Int32), S')) else am_let (fx_X8_add (-8 : Int32) S') (fun q21 => (if q21.1 = 0 then some (((0 : Int32), q21.2)) else some (((1 : Int32), q21.2))))) := by
        unfold fx_X4_readNot
        rw [if_pos (tS.trans hm), if_pos l5, pz_let, show nI op + (1 : Int32) = nI (op + 1) from (nI_succ op).symm, ef, pz_bd]
      have yst : ∀ n mn H out, mn = true → py_op H = op → py_Y tk (n + 1) k true mn H out = py_Y tk n (k + 1) true true (13 :: H) out := by
        intro n mn H out hs hop
        rw [py_YT, if_neg h1, if_pos ⟨hm, hs⟩, if_neg (by omega)]
      have sd : ∀ H, pc_N 4 true (13 :: H) := fun H => ⟨rfl, by show py_r 13 < 4; decide⟩
      have ek : k + (1 + c) = k + 1 + c := by omega
      have op1 : ∀ H, py_op H = op → py_op (13 :: H) = op + 1 := fun H hop => by rw [py_op1 (Or.inr (Or.inl rfl)), hop]
      rcases hZ with ⟨rfl, C', hl, hok, hc0, hY⟩ | ⟨rfl, hsn, hY⟩
      · obtain ⟨ea, Ca, Fa⟩ := pc_add C' (by rw [List.length_append]; omega) (by rw [List.length_append]; omega) (-8) (Or.inr (by decide))
        rw [if_neg (show ¬ (1 : Int32) = 0 by decide), pz_let, ea, if_neg (show ¬ ((1 : Int32), (fx_X8_add (-8) S').2).1 = 0 from (by decide : ¬ (1 : Int32) = 0))] at e1
        refine ⟨1 + c, new ++ [-8], 1, _, e1, by omega, pc_Ft (pc_Ft FA F') Fa, Or.inl ⟨rfl, by rw [← List.append_assoc, ek]; exact Ca, by simp only [List.length_append, List.length_cons, List.length_nil]; omega, pc_oku hok (Or.inl rfl), fun _ => by omega, ?_⟩⟩
        rcases hY with ⟨he, hY⟩ | ⟨hd, ht, hY⟩
        · refine Or.inl ⟨by rw [ek]; exact he, fun n mn H out hs hop => ?_⟩
          rw [show n + (1 + c) = (n + c) + 1 by omega, yst (n + c) mn H out hs.1 hop, hY n true (13 :: H) out (sd H) (op1 H hop), ek]
          show py_Y tk n (k + 1 + c) false true (13 :: H) (out ++ new) = _
          rw [py_pop (pc_w3 he), ← List.append_assoc]
          rfl
        · refine Or.inr ⟨trivial, by rw [ek]; exact ht, fun n mn H out hs hop => ?_⟩
          rw [show n + (1 + c) + 1 = (n + c + 1) + 1 by omega, yst (n + c + 1) mn H out hs.1 hop, hY n true (13 :: H) out (sd H) (op1 H hop), ek]
      · rw [if_pos rfl] at e1
        refine ⟨1 + c, [], 0, S', e1, by omega, pc_Ft FA F', Or.inr ⟨rfl, by rw [ek]; exact hsn, fun n mn H out hs hop => ?_⟩⟩
        rw [show n + (1 + c) + 1 = (n + c + 1) + 1 by omega, yst (n + c + 1) mn H out hs.1 hop, hY n true (13 :: H) out (sd H) (op1 H hop), ek]
    · have e1 : fx_X4_readNot f g (nI op) S = some (0, S) := by
        have : op = 5 := by omega
        subst this
        unfold fx_X4_readNot
        rw [if_pos (tS.trans hm), if_neg (by decide)]
      exact ⟨0, [], 0, S, e1, kN, pc_Fr, Or.inr ⟨rfl, h.1.2.2.2.1, fun n mn H out hs hop => py_no h1 (fun _ => Or.inr (by omega)) (fun _ => by omega) (fun _ => by omega) hop⟩⟩
  · obtain ⟨c, new, b, S', ef, hc, F', hZ⟩ := hg _ _ _ h hp
    have e1 : fx_X4_readNot f g (nI op) S = (if b = 0 then some (((0 : Int32), S')) else (if sx_rd_token S' = (-60 : Int32) then fx_X4_readNot_77 f g (nI op) (sx_rd_token S') S' else (if sx_rd_token S' = (-61 : Int32) then fx_X4_readNot_77 f g (nI op) (sx_rd_token S') S' else some (((1 : Int32), S'))))) := by
      unfold fx_X4_readNot
      rw [if_neg (fun q => hm (tS.symm.trans q)), ef, pz_bd]
    have sd : ∀ mn H, pc_N 4 mn H → pc_T tk k 5 mn H := fun mn H hs => ⟨fun q => absurd q hm, by have := hs.2; omega⟩
    rcases hZ with ⟨rfl, C', hl, hok, hc0, hY⟩ | ⟨rfl, hsn, hY⟩
    · have hc0 := hc0 rfl
      rcases hY with ⟨he, hY⟩ | ⟨hd, -⟩
      · have tS' : sx_rd_token S' = tk (k + c) := C'.1.2.2.2.2.1
        rw [if_neg (show ¬ (1 : Int32) = 0 by decide)] at e1
        by_cases ht : tk (k + c) = -60 ∨ tk (k + c) = -61
        · obtain ⟨sg, hsg⟩ : ∃ sg, sg = tk (k + c) := ⟨_, rfl⟩
          have e2 : fx_X4_readNot f g (nI op) S = fx_X4_readNot_77 f g (nI op) sg S' := by
            rw [e1, tS', ← hsg]
            rw [← hsg] at ht
            rcases ht with q | q
            · rw [if_pos q]
            · rw [if_neg (by rw [q]; decide), if_pos q]
          obtain ⟨s, hs, hr, hps, hin, hn1, h59, h41, h0, hopn⟩ : ∃ s, py_sg sg = s ∧ py_r s = 4 ∧ py_s s = sg ∧ sg ∈ ([-6, -7, -60, -61, -43, -45, -42] : List Int32) ∧ sg ≠ -1 ∧ sg ≠ -59 ∧ sg ≠ -41 ∧ s ≠ 0 ∧ ¬ (s = 0 ∨ s = 13 ∨ s = 19) := by
            rw [hsg]
            rcases ht with q | q
            · rw [q]; exact ⟨14, by decide, by decide, by decide, by decide, by decide, by decide, by decide, by decide, by decide⟩
            · rw [q]; exact ⟨15, by decide, by decide, by decide, by decide, by decide, by decide, by decide, by decide, by decide⟩
          have htg : tk (k + c) = sg := hsg.symm
          have hk1 : k + c + 1 < N := hE _ hc (by rw [htg]; exact hn1)
          obtain ⟨A, FA⟩ := pc_adv C' hk1
          obtain ⟨c2, new2, b2, S2, ef2, hc2, F2, hZ2⟩ := hg _ _ _ A (by rw [List.length_append]; omega)
          have e3 : fx_X4_readNot f g (nI op) S = (if b2 = 0 then some (((0 : Int32), S2)) else am_let (fx_X8_add sg S2) (fun q11 => (if q11.1 = 0 then some (((0 : Int32), q11.2)) else some (((1 : Int32), q11.2))))) := by
            rw [e2]
            unfold fx_X4_readNot_77
            rw [pz_let, ef2, pz_bd]
          have ysg : ∀ n j H out, tk j = sg → py_tp H < 5 → py_Y tk (n + 1) j false true H out = if py_tp H = 4 then some (false, j, []) else py_Y tk n (j + 1) true false (s :: H) out := by
            intro n j H out hj hH
            rw [py_YF, hj, if_neg h59, if_neg h41, hs, if_neg h0, if_pos hr, py_un hH (by decide)]
          have base : ∀ n mn H out, pc_N 4 mn H → py_op H = op → py_Y tk (n + 1 + c) k true mn H out = py_Y tk n (k + c + 1) true false (s :: H) (out ++ new) := by
            intro n mn H out hs' hop
            rw [hY (n + 1) mn H out (sd mn H hs') hop]
            show py_Y tk (n + 1) (k + c) false true H (out ++ new) = _
            rw [ysg n (k + c) H _ htg (by have := hs'.2; omega), if_neg (by have := hs'.2; omega)]
          have sd2 : ∀ H, pc_T tk (k + c + 1) 5 false (s :: H) := fun H => ⟨fun _ => rfl, by show py_r s < 5; omega⟩
          have op2 : ∀ H, py_op H = op → py_op (s :: H) = op := fun H hop => by rw [py_op0 hopn, hop]
          have ek : k + (c + 1 + c2) = k + c + 1 + c2 := by omega
          rcases hZ2 with ⟨rfl, C2, hl2, hok2, hc20, hY2⟩ | ⟨rfl, hsn2, hY2⟩
          · obtain ⟨ea, Ca, Fa⟩ := pc_add C2 (by simp only [List.length_append]; omega) (by simp only [List.length_append]; omega) sg (pc_okv hin)
            rw [if_neg (show ¬ (1 : Int32) = 0 by decide), pz_let, ea, if_neg (show ¬ ((1 : Int32), (fx_X8_add sg S2).2).1 = 0 from (by decide : ¬ (1 : Int32) = 0))] at e3
            refine ⟨c + 1 + c2, new ++ (new2 ++ [sg]), 1, _, e3, by omega, pc_Ft (pc_Ft (pc_Ft F' FA) F2) Fa, Or.inl ⟨rfl, by rw [← List.append_assoc, ← List.append_assoc, ek]; exact Ca, by simp only [List.length_append, List.length_cons, List.length_nil]; omega, pc_okj hok (pc_okb hok2 hin), fun _ => by omega, ?_⟩⟩
            rcases hY2 with ⟨he2, hY2⟩ | ⟨hd, -⟩
            · by_cases ht2 : tk (k + c + 1 + c2) = -60 ∨ tk (k + c + 1 + c2) = -61
              · refine Or.inr ⟨trivial, by rw [ek]; exact ht2, fun n mn H out hs' hop => ?_⟩
                rw [show n + (c + 1 + c2) + 1 = (n + 1 + c2) + 1 + c by omega, base (n + 1 + c2) mn H out hs' hop, hY2 (n + 1) false (s :: H) _ (sd2 H) (op2 H hop), ek]
                show py_Y tk (n + 1) (k + c + 1 + c2) false true (s :: H) _ = _
                rw [py_YF, py_un (r := 5) (H := s :: H) (by show py_r s < 5; omega) (by decide)]
                rcases ht2 with q | q
                · rw [q, if_neg (by decide), if_neg (by decide), if_neg (by decide), if_pos (by decide)]; exact if_pos hr
                · rw [q, if_neg (by decide), if_neg (by decide), if_neg (by decide), if_pos (by decide)]; exact if_pos hr
              · have he3 : pc_e3 (tk (k + c + 1 + c2)) := ⟨he2, fun q => ht2 (Or.inl q), fun q => ht2 (Or.inr q)⟩
                refine Or.inl ⟨by rw [ek]; exact he3, fun n mn H out hs' hop => ?_⟩
                rw [show n + (c + 1 + c2) = (n + c2) + 1 + c by omega, base (n + c2) mn H out hs' hop, hY2 n false (s :: H) _ (sd2 H) (op2 H hop), ek]
                show py_Y tk n (k + c + 1 + c2) false true (s :: H) (out ++ new ++ new2) = _
                rw [py_pop (by rw [hr]; exact pc_w4 he3), hps]
                simp only [pc_id, List.append_assoc]
            · exact hd.elim
          · rw [if_pos rfl] at e3
            refine ⟨c + 1 + c2, [], 0, S2, e3, by omega, pc_Ft (pc_Ft F' FA) F2, Or.inr ⟨rfl, by rw [ek]; exact hsn2, fun n mn H out hs' hop => ?_⟩⟩
            rw [show n + (c + 1 + c2) + 1 = (n + c2 + 1) + 1 + c by omega, base (n + c2 + 1) mn H out hs' hop, hY2 n false (s :: H) _ (sd2 H) (op2 H hop), ek]
        · rw [tS', if_neg (fun q => ht (Or.inl q)), if_neg (fun q => ht (Or.inr q))] at e1
          exact ⟨c, new, 1, S', e1, hc, F', Or.inl ⟨rfl, C', hl, hok, fun _ => hc0, Or.inl ⟨⟨he, fun q => ht (Or.inl q), fun q => ht (Or.inr q)⟩, fun n mn H out hs' hop => hY n mn H out (sd mn H hs') hop⟩⟩⟩
      · exact hd.elim
    · rw [if_pos rfl] at e1
      exact ⟨c, [], 0, S', e1, hc, F', Or.inr ⟨rfl, hsn, fun n mn H out hs' hop => hY n mn H out (sd mn H hs') hop⟩⟩
/-- all of it -/
theorem pc_P {tk : Nat → Int32} {N t p : Nat} (hE : ∀ k, k < N → tk k ≠ -1 → k + 1 < N) (hT : ∀ k, 0 ≤ tk k → ∃ j, j < 10000 ∧ tk k = nI j) : ∀ m op, op ≤ 5 → 6 ≤ op + m → (∀ S k o, pc_C tk N t p k o S → p ≤ o.length → pc_Z tk N t p op ((gr_P m).1 (nI op) S) S k o true (fun mn _ => tk k = -8 → mn = false) (fun _ => True) False (py_u 7) pc_ok) ∧ (∀ S k o, pc_C tk N t p k o S → p ≤ o.length → pc_Z tk N t p op ((gr_P m).2 (nI op) S) S k o true (pc_N 4) pc_e3 True pc_id pc_ok) := by
  intro m
  induction m with
  | zero => intro op h1 h2; omega
  | succ m ih =>
    intro op h1 h2
    have hOne := pc_On (tk := tk) (N := N) (t := t) (p := p) (op := op) (f := (gr_P m).1) (g := fx_X4_readOr (fx_X4_readAnd (gr_P m).2)) hE hT h1 (fun h5 => (ih (op + 1) (by omega) (by omega)).1) (fun h5 => pc_Or hE (pc_An hE (ih (op + 1) (by omega) (by omega)).2))
    refine ⟨hOne, ?_⟩
    exact pc_Nt hE h1 (fun h5 => (ih (op + 1) (by omega) (by omega)).2) (pc_Sm hE (pc_Tm hE hOne))
/-- an expression -/
theorem pc_fr {tk : Nat → Int32} {N t p : Nat} (hE : ∀ k, k < N → tk k ≠ -1 → k + 1 < N) (hT : ∀ k, 0 ≤ tk k → ∃ j, j < 10000 ∧ tk k = nI j) : ∀ S k o, pc_C tk N t p k o S → p ≤ o.length → pc_Z tk N t p 0 (fr_Or 0 S) S k o true (pc_N 1) pc_e1 True pc_id pc_ok := pc_Or (op := 0) hE (pc_An hE (pc_P hE hT 7 0 (by decide) (by decide)).2)
