/-! ===== the reader: one, and not ===== -/
theorem pc_ok1s {s : Int32} (h : pt_ok s) (h2 : 0 ≤ s ∨ fx_X8_isName s ≠ 0) : pc_ok [s] := by
  refine ⟨fun x hx => by rw [List.mem_singleton.mp hx]; exact h, fun d => ?_⟩
  show (match pt_dp s d with
    | none => none
    | some e => some e) = some (d + 1)
  unfold pt_dp
  by_cases c : 0 ≤ s
  · rw [if_pos c]
  · rw [if_neg c, if_neg (h2.resolve_left c)]
theorem pc_okn {s : Int32} (h : fx_X8_isName s ≠ 0) : pt_ok s := by
  refine Or.inr ?_
  unfold fx_X8_isName at h
  by_cases c1 : (-10 : Int32) < s
  · rw [if_pos c1] at h; exact absurd rfl h
  · rw [if_neg c1] at h
    by_cases c2 : s < (-15 : Int32)
    · rw [if_pos c2] at h; exact absurd rfl h
    · rw [Int32.lt_iff_toInt_lt] at c1 c2
      have e1 : (-10 : Int32).toInt = -10 := by decide
      have e2 : (-15 : Int32).toInt = -15 := by decide
      have key : ∀ q : Int32, s.toInt = q.toInt → s = q := fun q hq => Int32.toInt_inj.mp hq
      have : s.toInt = -10 ∨ s.toInt = -11 ∨ s.toInt = -12 ∨ s.toInt = -13 ∨ s.toInt = -14 ∨ s.toInt = -15 := by omega
      rcases this with q | q | q | q | q | q
      · rw [key (-10) (q.trans (by decide))]; decide
      · rw [key (-11) (q.trans (by decide))]; decide
      · rw [key (-12) (q.trans (by decide))]; decide
      · rw [key (-13) (q.trans (by decide))]; decide
      · rw [key (-14) (q.trans (by decide))]; decide
      · rw [key (-15) (q.trans (by decide))]; decide
theorem py_op1 {s : Nat} {H : List Nat} (h : s = 0 ∨ s = 13 ∨ s = 19) : py_op (s :: H) = py_op H + 1 := by
  show py_op H + (if s = 0 ∨ s = 13 ∨ s = 19 then 1 else 0) = py_op H + 1
  rw [if_pos h]
theorem py_op0 {s : Nat} {H : List Nat} (h : ¬ (s = 0 ∨ s = 13 ∨ s = 19)) : py_op (s :: H) = py_op H := by
  show py_op H + (if s = 0 ∨ s = 13 ∨ s = 19 then 1 else 0) = py_op H
  rw [if_neg h, Nat.add_zero]
/-- nothing that could come here -/
theorem py_no {tk : Nat → Int32} {n k op : Nat} {mn : Bool} {H : List Nat} {o : List Int32} (h1 : ¬ (0 ≤ tk k ∨ fx_X8_isName (tk k) ≠ 0)) (h2 : tk k = -8 → mn = false ∨ op = 5) (h3 : tk k = -45 → op = 5) (h4 : tk k = -40 → op = 5) (ho : py_op H = op) : py_Y tk (n + 1) k true mn H o = some (false, k, []) := by
  rw [py_YT, if_neg h1]
  by_cases c2 : tk k = -8 ∧ mn = true
  · rw [if_pos c2, if_pos (by
      rw [ho]
      exact (h2 c2.1).resolve_left (fun q => by rw [q] at c2; exact absurd c2.2 (by decide)))]
  · rw [if_neg c2]
    by_cases c3 : tk k = -45
    · rw [if_pos c3, if_pos (by rw [ho]; exact h3 c3)]
    · rw [if_neg c3]
      by_cases c4 : tk k = -40
      · rw [if_pos c4, if_pos (by rw [ho]; exact h4 c4)]
      · rw [if_neg c4]
theorem pc_e1s {x : Int32} (h : pc_e1 x) : py_sg x = 0 := by
  obtain ⟨⟨⟨⟨h1, h2, h3⟩, h4, h5⟩, h6⟩, h7⟩ := h
  unfold py_sg
  rw [if_neg h7, if_neg h6, if_neg h4, if_neg h5, if_neg h2, if_neg h3, if_neg h1]
theorem pc_bz1 {α : Type} (a : α) : am_bz 1 a = some a := by
  unfold am_bz
  rw [if_neg (by decide), if_pos rfl]
/-- one: a number, a name, a minus, a bracket -/
theorem pc_On {tk : Nat → Int32} {N t p op : Nat} {f g : Int32 → sx_T → Option (Int32 × sx_T)} (hE : ∀ k, k < N → tk k ≠ -1 → k + 1 < N) (hT : ∀ k, 0 ≤ tk k → ∃ j, j < 10000 ∧ tk k = nI j) (ho : op ≤ 5) (hf : op < 5 → ∀ S k o, pc_C tk N t p k o S → p ≤ o.length → pc_Z tk N t p (op + 1) (f (nI (op + 1)) S) S k o true (fun mn _ => tk k = -8 → mn = false) (fun _ => True) False (py_u 7) pc_ok) (hg : op < 5 → ∀ S k o, pc_C tk N t p k o S → p ≤ o.length → pc_Z tk N t p (op + 1) (g (nI (op + 1)) S) S k o true (pc_N 1) pc_e1 True pc_id pc_ok) : ∀ S k o, pc_C tk N t p k o S → p ≤ o.length → pc_Z tk N t p op (fx_X4_readOne f g (nI op) S) S k o true (fun mn _ => tk k = -8 → mn = false) (fun _ => True) False (py_u 7) pc_ok := by
  intro S k o h hp
  have kN := h.1.1
  have tS : sx_rd_token S = tk k := h.1.2.2.2.2.1
  have ol : o.length ≤ k := h.2.1.2.2.2.1
  by_cases h1 : 0 ≤ tk k ∨ fx_X8_isName (tk k) ≠ 0
  · have hn1 : tk k ≠ -1 := fun q => by
      rw [q] at h1
      rcases h1 with h1 | h1
      · exact absurd h1 (by decide)
      · exact absurd (by decide) h1
    have hk1 := hE k kN hn1
    obtain ⟨A, FA⟩ := pc_adv h hk1
    have okv : pt_ok (tk k) := by
      by_cases c : 0 ≤ tk k
      · exact Or.inl (hT k c)
      · exact pc_okn (h1.resolve_left c)
    obtain ⟨ea, Ca, Fa⟩ := pc_add A (by omega) hp (tk k) okv
    have e : fx_X4_readOne f g (nI op) S = some (1, (fx_X8_add (tk k) (fx_X4_advance S)).2) := by
      unfold fx_X4_readOne
      rw [tS]
      by_cases c : 0 ≤ tk k
      · rw [if_pos c, pz_let, pz_let, ea]
        exact pc_bz1 _
      · rw [if_neg c, if_neg (h1.resolve_left c), pz_let, pz_let, ea]
        exact pc_bz1 _
    refine ⟨1, [tk k], 1, _, e, hk1, pc_Ft FA Fa, Or.inl ⟨rfl, Ca, Nat.le_refl _, pc_ok1s okv h1, fun _ => by decide, Or.inl ⟨trivial, fun n mn H out hs hop => ?_⟩⟩⟩
    rw [py_YT, if_pos h1]
  · have c0 : ¬ 0 ≤ tk k := fun q => h1 (Or.inl q)
    have cn : fx_X8_isName (tk k) = 0 := Decidable.byContradiction fun q => h1 (Or.inr q)
    have e0 : fx_X4_readOne f g (nI op) S = (if nI op < (5 : Int32) then am_let (fx_X4_passed (-45 : Int32) S) (fun q8 => (if q8.1 = 0 then am_let (fx_X4_passed (-40 : Int32) q8.2) (fun q11 => (if q11.1 = 0 then some (((0 : Int32), q11.2)) else am_bd (g (nI op + (1 : Int32)) q11.2) (fun q14 => (if q14.1 = 0 then some (((0 : Int32), q14.2)) else am_let (fx_X4_passed (-41 : Int32) q14.2) (fun q17 => (if q17.1 = 0 then some (((0 : Int32), q17.2)) else some (((1 : Int32), q17.2)))))))) else am_bd (f (nI op + (1 : Int32)) q8.2) (fun q20 => (if q20.1 = 0 then some (((0 : Int32), q20.2)) else am_let (fx_X8_add (-9 : Int32) q20.2) (fun q23 => (if q23.1 = 0 then some (((0 : Int32), q23.2)) else some (((1 : Int32), q23.2)))))))) else some (((0 : Int32), S))) := by
      unfold fx_X4_readOne
      rw [tS, if_neg c0, if_pos cn]
    by_cases h5 : op < 5
    · have l5 : nI op < (5 : Int32) := nI_lt (b := 5) h5 (by decide)
      rw [if_pos l5, pz_let, show nI op + (1 : Int32) = nI (op + 1) from (nI_succ op).symm] at e0
      by_cases hm : tk k = -45
      · have hk1 : k + 1 < N := hE k kN (by rw [hm]; decide)
        obtain ⟨A, FA⟩ := pc_adv h hk1
        rw [pc_yp (tS.trans hm), if_neg (show ¬ ((1 : Int32), fx_X4_advance S).1 = 0 from (by decide : ¬ (1 : Int32) = 0))] at e0
        obtain ⟨c, new, b, S', ef, hc, F', hZ⟩ := hf h5 _ _ _ A hp
        have e1 : fx_X4_readOne f g (nI op) S = (if b = 0 then some (((0 : Int32), S')) else am_let (fx_X8_add (-9 : Int32) S') (fun q23 => (if q23.1 = 0 then some (((0 : Int32), q23.2)) else some (((1 : Int32), q23.2))))) := by
          rw [e0]
          show am_bd (f (nI (op + 1)) (fx_X4_advance S)) _ = _
          rw [ef, pz_bd]
        have yst : ∀ n mn H out, (tk k = -8 → mn = false) → py_op H = op → py_Y tk (n + 1) k true mn H out = py_Y tk n (k + 1) true false (19 :: H) out := by
          intro n mn H out hs hop
          rw [py_YT, if_neg h1, if_neg (fun q => by rw [hm] at q; exact absurd q.1 (by decide)), if_pos hm, if_neg (by omega)]
        have ek : k + (1 + c) = k + 1 + c := by omega
        rcases hZ with ⟨rfl, C', hl, hok, hc0, hY⟩ | ⟨rfl, hsn, hY⟩
        · obtain ⟨ea, Ca, Fa⟩ := pc_add C' (by rw [List.length_append]; omega) (by rw [List.length_append]; omega) (-9) (Or.inr (by decide))
          rw [if_neg (show ¬ (1 : Int32) = 0 by decide), pz_let, ea, if_neg (show ¬ ((1 : Int32), (fx_X8_add (-9) S').2).1 = 0 from (by decide : ¬ (1 : Int32) = 0))] at e1
          refine ⟨1 + c, new ++ [-9], 1, _, e1, by omega, pc_Ft (pc_Ft FA F') Fa, Or.inl ⟨rfl, by rw [← List.append_assoc, ek]; exact Ca, by simp only [List.length_append, List.length_cons, List.length_nil]; omega, pc_oku hok (Or.inr rfl), fun _ => by omega, Or.inl ⟨trivial, fun n mn H out hs hop => ?_⟩⟩⟩
          rcases hY with ⟨-, hY⟩ | ⟨hd, -⟩
          · rw [show n + (1 + c) = (n + c) + 1 by omega, yst (n + c) mn H out hs hop, hY n false (19 :: H) out (fun _ => rfl) (by rw [py_op1 (Or.inr (Or.inr rfl)), hop]), py_u1 (by decide), ek, ← List.append_assoc]
            rfl
          · exact hd.elim
        · rw [if_pos rfl] at e1
          refine ⟨1 + c, [], 0, S', e1, by omega, pc_Ft FA F', Or.inr ⟨rfl, by rw [ek]; exact hsn, fun n mn H out hs hop => ?_⟩⟩
          rw [show n + (1 + c) + 1 = (n + c + 1) + 1 by omega, yst (n + c + 1) mn H out hs hop, hY n false (19 :: H) out (fun _ => rfl) (by rw [py_op1 (Or.inr (Or.inr rfl)), hop]), ek]
      · rw [pc_np (fun q => hm (tS.symm.trans q)), if_pos (show ((0 : Int32), S).1 = 0 from rfl), pz_let] at e0
        by_cases hb : tk k = -40
        · have hk1 : k + 1 < N := hE k kN (by rw [hb]; decide)
          obtain ⟨A, FA⟩ := pc_adv h hk1
          have e0' : fx_X4_readOne f g (nI op) S = am_bd (g (nI (op + 1)) (fx_X4_advance S)) (fun q14 => (if q14.1 = 0 then some (((0 : Int32), q14.2)) else am_let (fx_X4_passed (-41 : Int32) q14.2) (fun q17 => (if q17.1 = 0 then some (((0 : Int32), q17.2)) else some (((1 : Int32), q17.2)))))) := by
            rw [e0]
            show (if (fx_X4_passed (-40) S).1 = 0 then _ else _) = _
            rw [pc_yp (tS.trans hb), if_neg (show ¬ ((1 : Int32), fx_X4_advance S).1 = 0 from (by decide : ¬ (1 : Int32) = 0))]
          obtain ⟨c, new, b, S', ef, hc, F', hZ⟩ := hg h5 _ _ _ A hp
          have e1 : fx_X4_readOne f g (nI op) S = (if b = 0 then some (((0 : Int32), S')) else am_let (fx_X4_passed (-41 : Int32) S') (fun q17 => (if q17.1 = 0 then some (((0 : Int32), q17.2)) else some (((1 : Int32), q17.2))))) := by
            rw [e0', ef, pz_bd]
          have yst : ∀ n mn H out, (tk k = -8 → mn = false) → py_op H = op → py_Y tk (n + 1) k true mn H out = py_Y tk n (k + 1) true true (0 :: H) out := by
            intro n mn H out hs hop
            rw [py_YT, if_neg h1, if_neg (fun q => by rw [hb] at q; exact absurd q.1 (by decide)), if_neg hm, if_pos hb, if_neg (by omega)]
          have sd : ∀ H, pc_N 1 true (0 :: H) := fun H => ⟨rfl, by show py_r 0 < 1; decide⟩
          have ek : k + (1 + c) = k + 1 + c := by omega
          rcases hZ with ⟨rfl, C', hl, hok, hc0, hY⟩ | ⟨rfl, hsn, hY⟩
          · have tS' : sx_rd_token S' = tk (k + 1 + c) := C'.1.2.2.2.2.1
            rw [if_neg (show ¬ (1 : Int32) = 0 by decide), pz_let] at e1
            by_cases hcl : tk (k + 1 + c) = -41
            · have hk2 : k + 1 + c + 1 < N := hE _ hc (by rw [hcl]; decide)
              obtain ⟨A2, FA2⟩ := pc_adv C' hk2
              rw [pc_yp (tS'.trans hcl), if_neg (show ¬ ((1 : Int32), fx_X4_advance S').1 = 0 from (by decide : ¬ (1 : Int32) = 0))] at e1
              have ek2 : k + (1 + c + 1) = k + 1 + c + 1 := by omega
              refine ⟨1 + c + 1, new, 1, _, e1, by omega, pc_Ft (pc_Ft FA F') FA2, Or.inl ⟨rfl, by rw [ek2]; exact A2, by omega, hok, fun _ => by omega, Or.inl ⟨trivial, fun n mn H out hs hop => ?_⟩⟩⟩
              rcases hY with ⟨-, hY⟩ | ⟨-, hd, -⟩
              · rw [show n + (1 + c + 1) = (n + 1 + c) + 1 by omega, yst (n + 1 + c) mn H out hs hop, hY (n + 1) true (0 :: H) out (sd H) (by rw [py_op1 (Or.inl rfl), hop]), ek2]
                show py_Y tk (n + 1) (k + 1 + c) false true (0 :: H) (out ++ new) = _
                rw [py_YF, if_neg (by rw [hcl]; decide), if_pos hcl, py_un (by show py_r 0 < 1; decide) (by decide)]
              · rw [hcl] at hd
                exact absurd hd (by decide)
            · rw [pc_np (fun q => hcl (tS'.symm.trans q)), if_pos (show ((0 : Int32), S').1 = 0 from rfl)] at e1
              refine ⟨1 + c, [], 0, S', e1, by omega, pc_Ft FA F', Or.inr ⟨rfl, by rw [ek]; exact C'.1.2.2.2.1, fun n mn H out hs hop => ?_⟩⟩
              rw [show n + (1 + c) + 1 = (n + c + 1) + 1 by omega, yst (n + c + 1) mn H out hs hop, ek]
              rcases hY with ⟨he, hY⟩ | ⟨-, -, hY⟩
              · rw [show n + c + 1 = n + 1 + c by omega, hY (n + 1) true (0 :: H) out (sd H) (by rw [py_op1 (Or.inl rfl), hop])]
                show py_Y tk (n + 1) (k + 1 + c) false true (0 :: H) (out ++ new) = _
                rw [py_YF, py_un (H := 0 :: H) (r := 1) (by show py_r 0 < 1; decide) (by decide)]
                by_cases c9 : tk (k + 1 + c) = -59
                · rw [if_pos c9]
                · rw [if_neg c9, if_neg hcl, if_pos (pc_e1s he)]
              · exact hY n true (0 :: H) out (sd H) (by rw [py_op1 (Or.inl rfl), hop])
          · rw [if_pos rfl] at e1
            refine ⟨1 + c, [], 0, S', e1, by omega, pc_Ft FA F', Or.inr ⟨rfl, by rw [ek]; exact hsn, fun n mn H out hs hop => ?_⟩⟩
            rw [show n + (1 + c) + 1 = (n + c + 1) + 1 by omega, yst (n + c + 1) mn H out hs hop, hY n true (0 :: H) out (sd H) (by rw [py_op1 (Or.inl rfl), hop]), ek]
        · have e1 : fx_X4_readOne f g (nI op) S = some (0, S) := by
            rw [e0]
            show (if (fx_X4_passed (-40) S).1 = 0 then _ else _) = _
            rw [pc_np (fun q => hb (tS.symm.trans q)), if_pos (show ((0 : Int32), S).1 = 0 from rfl)]
          exact ⟨0, [], 0, S, e1, kN, pc_Fr, Or.inr ⟨rfl, h.1.2.2.2.1, fun n mn H out hs hop => py_no h1 (fun q => Or.inl (hs q)) (fun q => absurd q hm) (fun q => absurd q hb) hop⟩⟩
    · have l5 : ¬ nI op < (5 : Int32) := by
        have : op = 5 := by omega
        subst this
        decide
      rw [if_neg l5] at e0
      exact ⟨0, [], 0, S, e0, kN, pc_Fr, Or.inr ⟨rfl, h.1.2.2.2.1, fun n mn H out hs hop => py_no h1 (fun q => Or.inl (hs q)) (fun _ => by omega) (fun _ => by omega) hop⟩⟩
