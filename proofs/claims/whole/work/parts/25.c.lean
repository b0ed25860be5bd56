/-! ===== the reader: what a piece read is; the loops ===== -/
def pc_Z (tk : Nat → Int32) (N t p op : Nat) (r : Option (Int32 × sx_T)) (S : sx_T) (k : Nat) (o : List Int32) (wt : Bool) (side : Bool → List Nat → Prop) (en : Int32 → Prop) (doom : Prop) (af : List Nat → List Int32 → List Nat × List Int32) (okp : List Int32 → Prop) : Prop := ∃ c new b S', r = some (b, S') ∧ k + c < N ∧ pc_F t S S' ∧ ((b = 1 ∧ pc_C tk N t p (k + c) (o ++ new) S' ∧ new.length ≤ c ∧ okp new ∧ (wt = true → 0 < c) ∧ ((en (tk (k + c)) ∧ ∀ n mn H out, side mn H → py_op H = op → py_Y tk (n + c) k wt mn H out = py_Y tk n (k + c) false true (af H (out ++ new)).1 (af H (out ++ new)).2) ∨ (doom ∧ (tk (k + c) = -60 ∨ tk (k + c) = -61) ∧ ∀ n mn H out, side mn H → py_op H = op → py_Y tk (n + c + 1) k wt mn H out = some (false, k + c, [])))) ∨ (b = 0 ∧ sx_rd_seen S' = nI (k + c) ∧ ∀ n mn H out, side mn H → py_op H = op → py_Y tk (n + c + 1) k wt mn H out = some (false, k + c, [])))
/-- nothing taken off -/
def pc_id (H : List Nat) (o : List Int32) : List Nat × List Int32 := (H, o)
/-- the sign on top comes, where the token at hand unwinds it -/
theorem py_pop {tk : Nat → Int32} {n k s : Nat} {H : List Nat} {o : List Int32} (h : py_w (tk k) ≤ py_r s) : py_Y tk n k false true (s :: H) o = py_Y tk n k false true H (o ++ [py_s s]) := by
  rw [py_abs h, py_u1 (Nat.le_refl _), ← py_abs h]
/-- the three loops over one sign -/
def pc_l (sg : Int32) (f : Int32 → sx_T → Option (Int32 × sx_T)) : Nat → Int32 → Int32 → Int32 → sx_T → Option (Int32 × sx_T)
  | 0, _, _, _, _ => none
  | n + 1, v1, v2, v3, S => (if (160 : Int32) ≤ v3 then (am_bz v2 (v2, S)) else (if v2 = 0 then (am_bz v2 (v2, S)) else am_let (fx_X4_passed sg S) (fun q5 => (if q5.1 = 0 then (am_bz v2 (v2, q5.2)) else am_bd (f v1 q5.2) (fun q8 => (if q8.1 = 0 then pc_l sg f n v1 (0 : Int32) (v3 + (1 : Int32)) q8.2 else am_let (fx_X8_add sg q8.2) (fun q11 => (if q11.1 = 0 then pc_l sg f n v1 (0 : Int32) (v3 + (1 : Int32)) q11.2 else pc_l sg f n v1 (1 : Int32) (v3 + (1 : Int32)) q11.2))))))))
theorem pc_lT (f : Int32 → sx_T → Option (Int32 × sx_T)) : ∀ n v1 v2 v3 S, fx_X4_readTerm_8 f n v1 v2 v3 S = pc_l (-42) f n v1 v2 v3 S := by
  intro n
  induction n with
  | zero => intro v1 v2 v3 S; rfl
  | succ n ih => intro v1 v2 v3 S; simp only [fx_X4_readTerm_8, pc_l, ih]
theorem pc_lA (f : Int32 → sx_T → Option (Int32 × sx_T)) : ∀ n v1 v2 v3 S, fx_X4_readAnd_8 f n v1 v2 v3 S = pc_l (-7) f n v1 v2 v3 S := by
  intro n
  induction n with
  | zero => intro v1 v2 v3 S; rfl
  | succ n ih => intro v1 v2 v3 S; simp only [fx_X4_readAnd_8, pc_l, ih]
theorem pc_lO (f : Int32 → sx_T → Option (Int32 × sx_T)) : ∀ n v1 v2 v3 S, fx_X4_readOr_8 f n v1 v2 v3 S = pc_l (-6) f n v1 v2 v3 S := by
  intro n
  induction n with
  | zero => intro v1 v2 v3 S; rfl
  | succ n ih => intro v1 v2 v3 S; simp only [fx_X4_readOr_8, pc_l, ih]
theorem pc_l0 {sg : Int32} {f : Int32 → sx_T → Option (Int32 × sx_T)} {n : Nat} {v1 v3 : Int32} {S : sx_T} : pc_l sg f (n + 1) v1 0 v3 S = some (0, S) := by
  unfold pc_l
  rw [if_pos (rfl : (0 : Int32) = 0)]
  have e : am_bz (0 : Int32) ((0 : Int32), S) = some (0, S) := if_pos rfl
  rw [e]
  exact ite_self _
theorem pc_np {sg : Int32} {S : sx_T} (h : sx_rd_token S ≠ sg) : fx_X4_passed sg S = (0, S) := if_neg h
theorem pc_yp {sg : Int32} {S : sx_T} (h : sx_rd_token S = sg) : fx_X4_passed sg S = (1, fx_X4_advance S) := if_pos h
theorem pc_ls {sg : Int32} {f : Int32 → sx_T → Option (Int32 × sx_T)} {n v3 : Nat} {v1 : Int32} {S : sx_T} (h : sx_rd_token S ≠ sg) : pc_l sg f (n + 1) v1 1 (nI v3) S = some (1, S) := by
  unfold pc_l
  have e : ∀ q : sx_T, am_bz (1 : Int32) ((1 : Int32), q) = some (1, q) := fun q => by
    unfold am_bz
    rw [if_neg (by decide), if_pos rfl]
  rw [pc_np h, e, if_neg (show ¬ (1 : Int32) = 0 by decide), pz_let, if_pos (rfl : ((0 : Int32), S).1 = 0), e]
  exact ite_self _
theorem pc_l1 {sg : Int32} {f : Int32 → sx_T → Option (Int32 × sx_T)} {n v3 : Nat} {v1 : Int32} {S : sx_T} (h : sx_rd_token S = sg) (hv : v3 < 160) : pc_l sg f (n + 1) v1 1 (nI v3) S = am_bd (f v1 (fx_X4_advance S)) (fun q8 => (if q8.1 = 0 then pc_l sg f n v1 (0 : Int32) (nI v3 + (1 : Int32)) q8.2 else am_let (fx_X8_add sg q8.2) (fun q11 => (if q11.1 = 0 then pc_l sg f n v1 (0 : Int32) (nI v3 + (1 : Int32)) q11.2 else pc_l sg f n v1 (1 : Int32) (nI v3 + (1 : Int32)) q11.2)))) := by
  show (if (160 : Int32) ≤ nI v3 then _ else _) = _
  have e0 : ¬ (160 : Int32) ≤ nI v3 := nI_ge (b := 160) hv (by decide)
  rw [if_neg e0, if_neg (show ¬ (1 : Int32) = 0 by decide), pc_yp h, pz_let, if_neg (show ¬ ((1 : Int32), fx_X4_advance S).1 = 0 from (by decide : ¬ (1 : Int32) = 0))]
theorem pc_okv {s : Int32} (h : s ∈ ([-6, -7, -60, -61, -43, -45, -42] : List Int32)) : pt_ok s := by
  refine Or.inr ?_
  have : ∀ y ∈ ([-6, -7, -60, -61, -43, -45, -42] : List Int32), y ∈ ([-6, -7, -8, -9, -10, -11, -12, -13, -14, -15, -60, -61, -43, -45, -42] : List Int32) := by decide
  exact this s h
theorem pc_ff {P : Prop} (h : false = true) : P := by cases h
/-- the loops against the yard -/
theorem pc_lp {tk : Nat → Int32} {N t p op : Nat} {sg : Int32} {s : Nat} {f : Int32 → sx_T → Option (Int32 × sx_T)} {sideF : Nat → Bool → List Nat → Prop} {enF : Int32 → Prop} {doom : Prop} {af : List Nat → List Int32 → List Nat × List Int32} (hE : ∀ k, k < N → tk k ≠ -1 → k + 1 < N) (hs : py_sg sg = s) (h0 : s ≠ 0 ∧ s ≠ 13 ∧ s ≠ 19) (h4 : py_r s ≠ 4) (hsg : py_s s = sg) (hin : sg ∈ ([-6, -7, -60, -61, -43, -45, -42] : List Int32)) (hnd : sg ≠ -60 ∧ sg ≠ -61 ∧ sg ≠ -1) (hside : ∀ k H, py_tp H < py_r s → sideF k (decide (s ≤ 12)) (s :: H)) (haf : ∀ H o, af (s :: H) o = (s :: H, o)) (hen : ∀ x, enF x → py_w x ≤ py_r s)
    (hf : ∀ S k o, pc_C tk N t p k o S → p ≤ o.length → pc_Z tk N t p op (f (nI op) S) S k o true (sideF k) enF doom af pc_ok) : ∀ m n v3 S k o, N ≤ k + m → m < n → 2 * v3 ≤ k → pc_C tk N t p k o S → p ≤ o.length → enF (tk k) → pc_Z tk N t p op (pc_l sg f n (nI op) 1 (nI v3) S) S k o false (fun mn H => mn = true ∧ py_tp H < py_r s) (fun x => enF x ∧ x ≠ sg) doom pc_id pc_ok1 := by
  intro m
  induction m with
  | zero => intro n v3 S k o h1 _ _ h; exact absurd h.1.1 (by omega)
  | succ m ih =>
    intro n v3 S k o h1 h2 h3 h hp hek
    obtain ⟨n, rfl⟩ : ∃ n', n = n' + 1 := ⟨n - 1, by omega⟩
    have kN := h.1.1
    have N2 := h.1.2.1
    by_cases ht : tk k = sg
    · have hk1 : k + 1 < N := hE k kN (by rw [ht]; exact hnd.2.2)
      obtain ⟨A, FA⟩ := pc_adv h hk1
      have tkn : sx_rd_token S = sg := h.1.2.2.2.2.1.trans ht
      have e1 := pc_l1 (sg := sg) (f := f) (n := n) (v3 := v3) (v1 := nI op) tkn (by omega)
      have sgn : ∀ n H out, py_tp H < py_r s → py_Y tk (n + 1) k false true H out = py_Y tk n (k + 1) true (decide (s ≤ 12)) (s :: H) out := fun n H out hH => py_sgn (by rw [ht]; exact hs) h0.1 h4 hH
      have ek1 : ∀ c, k + (1 + c) = k + 1 + c := fun c => by omega
      have ek2 : ∀ c c2, k + (1 + c + c2) = k + (1 + c) + c2 := fun c c2 => by omega
      have ops : ∀ H, py_op (s :: H) = py_op H := fun H => by
        show py_op H + (if s = 0 ∨ s = 13 ∨ s = 19 then 1 else 0) = py_op H
        rw [if_neg (fun q => q.elim h0.1 (fun q => q.elim h0.2.1 h0.2.2)), Nat.add_zero]
      obtain ⟨c, new, b, S', ef, hc, F', hZ⟩ := hf _ _ _ A hp
      have F2 := pc_Ft FA F'
      rw [ef, pz_bd] at e1
      rcases hZ with ⟨rfl, C', hl, hok, hc0, hY⟩ | ⟨rfl, hsn, hY⟩
      · have hc0 := hc0 rfl
        rw [if_neg (show ¬ ((1 : Int32), S').1 = 0 from (by decide : ¬ (1 : Int32) = 0))] at e1
        have ol : o.length ≤ k := h.2.1.2.2.2.1
        obtain ⟨ea, Ca, Fa⟩ := pc_add C' (by rw [List.length_append]; omega) (by rw [List.length_append]; omega) sg (pc_okv hin)
        have F3 := pc_Ft F2 Fa
        have e2 : pc_l sg f (n + 1) (nI op) 1 (nI v3) S = pc_l sg f n (nI op) 1 (nI (v3 + 1)) (fx_X8_add sg S').2 := by
          rw [e1, pz_let, ea]
          rw [if_neg (show ¬ ((1 : Int32), (fx_X8_add sg S').2).1 = 0 from (by decide : ¬ (1 : Int32) = 0)), nI_succ]
        have ok1 : pc_ok1 (new ++ [sg]) := pc_okb hok hin
        have Ca' : pc_C tk N t p (k + (1 + c)) (o ++ (new ++ [sg])) (fx_X8_add sg S').2 := by
          rw [← List.append_assoc, ek1]; exact Ca
        rcases hY with ⟨he, hY⟩ | ⟨hd, ht2, hY⟩
        · obtain ⟨c2, new2, b2, S2, e3, hc2, F4, hZ2⟩ := ih n (v3 + 1) _ (k + (1 + c)) _ (by omega) (by omega) (by omega) Ca' (by rw [List.length_append]; omega) (by rw [ek1]; exact he)
          have base : ∀ n H out, py_tp H < py_r s → py_op H = op → py_Y tk (n + c + 1) k false true H out = py_Y tk n (k + (1 + c)) false true H (out ++ (new ++ [sg])) := by
            intro n H out hH hop
            rw [sgn (n + c) H out hH, hY n _ (s :: H) out (hside _ H hH) ((ops H).trans hop), haf, ek1]
            show py_Y tk n (k + 1 + c) false true (s :: H) (out ++ new) = _
            rw [py_pop (hen _ he), hsg, List.append_assoc]
          refine ⟨1 + c + c2, (new ++ [sg]) ++ new2, b2, S2, e2.trans e3, by omega, pc_Ft F3 F4, ?_⟩
          rcases hZ2 with ⟨rfl, C2, hl2, hok2, -, hY2⟩ | ⟨rfl, hsn2, hY2⟩
          · refine Or.inl ⟨rfl, by rw [← List.append_assoc, ek2]; exact C2, by simp only [List.length_append, List.length_cons, List.length_nil]; omega, pc_okj1 ok1 hok2, pc_ff, ?_⟩
            rcases hY2 with ⟨he2, hY2⟩ | ⟨hd2, ht3, hY2⟩
            · refine Or.inl ⟨by rw [ek2]; exact he2, fun n mn H out hs' hop => ?_⟩
              obtain ⟨rfl, hH⟩ := hs'
              rw [show n + (1 + c + c2) = (n + c2) + c + 1 by omega, base (n + c2) H out hH hop, hY2 n true H _ ⟨rfl, hH⟩ hop, ek2, List.append_assoc out (new ++ [sg]) new2]
            · refine Or.inr ⟨hd2, by rw [ek2]; exact ht3, fun n mn H out hs' hop => ?_⟩
              obtain ⟨rfl, hH⟩ := hs'
              rw [show n + (1 + c + c2) + 1 = (n + c2 + 1) + c + 1 by omega, base (n + c2 + 1) H out hH hop, hY2 n true H _ ⟨rfl, hH⟩ hop, ek2]
          · refine Or.inr ⟨rfl, by rw [ek2]; exact hsn2, fun n mn H out hs' hop => ?_⟩
            obtain ⟨rfl, hH⟩ := hs'
            rw [show n + (1 + c + c2) + 1 = (n + c2 + 1) + c + 1 by omega, base (n + c2 + 1) H out hH hop, hY2 n true H _ ⟨rfl, hH⟩ hop, ek2]
        · obtain ⟨n, rfl⟩ : ∃ n', n = n' + 1 := ⟨n - 1, by omega⟩
          have tn : sx_rd_token (fx_X8_add sg S').2 ≠ sg := by
            have := Ca.1.2.2.2.2.1
            rw [this]
            rcases ht2 with q | q
            · rw [q]; exact fun w => hnd.1 w.symm
            · rw [q]; exact fun w => hnd.2.1 w.symm
          refine ⟨1 + c, new ++ [sg], 1, (fx_X8_add sg S').2, e2.trans (pc_ls tn), by omega, F3, Or.inl ⟨rfl, Ca', by simp only [List.length_append, List.length_cons, List.length_nil]; omega, ok1, pc_ff, Or.inr ⟨hd, by rw [ek1]; exact ht2, fun n mn H out hs' hop => ?_⟩⟩⟩
          obtain ⟨rfl, hH⟩ := hs'
          rw [show n + (1 + c) + 1 = (n + c + 1) + 1 by omega, sgn _ H out hH, hY n _ (s :: H) out (hside _ H hH) ((ops H).trans hop), ek1]
      · obtain ⟨n, rfl⟩ : ∃ n', n = n' + 1 := ⟨n - 1, by omega⟩
        rw [if_pos (show ((0 : Int32), S').1 = 0 from rfl), pc_l0] at e1
        refine ⟨1 + c, [], 0, S', e1, by omega, F2, Or.inr ⟨rfl, by rw [ek1]; exact hsn, fun n mn H out hs' hop => ?_⟩⟩
        obtain ⟨rfl, hH⟩ := hs'
        rw [show n + (1 + c) + 1 = (n + c + 1) + 1 by omega, sgn _ H out hH, hY n _ (s :: H) out (hside _ H hH) ((ops H).trans hop), ek1]
    · refine ⟨0, [], 1, S, pc_ls (fun q => ht (h.1.2.2.2.2.1.symm.trans q)), kN, pc_Fr, Or.inl ⟨rfl, by rw [List.append_nil]; exact h, Nat.le_refl _, pc_ok10, pc_ff, Or.inl ⟨⟨hek, ht⟩, fun n mn H out hs' _ => ?_⟩⟩⟩
      obtain ⟨rfl, hH⟩ := hs'
      rw [List.append_nil]
      rfl
