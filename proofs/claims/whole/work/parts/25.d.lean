/-! ===== the reader: sums ===== -/
theorem pc_s0 {f : Int32 → sx_T → Option (Int32 × sx_T)} {n : Nat} {v1 v3 : Int32} {S : sx_T} : fx_X4_readSum_8 f (n + 1) v1 0 v3 S = some (0, S) := by
  unfold fx_X4_readSum_8
  rw [if_pos (rfl : (0 : Int32) = 0)]
  have e : am_bz (0 : Int32) ((0 : Int32), S) = some (0, S) := if_pos rfl
  rw [e]
  exact ite_self _
theorem pc_ss {f : Int32 → sx_T → Option (Int32 × sx_T)} {n v3 : Nat} {v1 : Int32} {S : sx_T} (h : sx_rd_token S ≠ -43) (h' : sx_rd_token S ≠ -45) : fx_X4_readSum_8 f (n + 1) v1 1 (nI v3) S = some (1, S) := by
  unfold fx_X4_readSum_8
  have e : ∀ q : sx_T, am_bz (1 : Int32) ((1 : Int32), q) = some (1, q) := fun q => by
    unfold am_bz
    rw [if_neg (by decide), if_pos rfl]
  rw [e, if_neg (show ¬ (1 : Int32) = 0 by decide), if_neg h, if_neg h']
  exact ite_self _
theorem pc_s1 {f : Int32 → sx_T → Option (Int32 × sx_T)} {n v3 : Nat} {v1 : Int32} {S : sx_T} (h : sx_rd_token S = -43 ∨ sx_rd_token S = -45) (hv : v3 < 160) : fx_X4_readSum_8 f (n + 1) v1 1 (nI v3) S = am_bd (f v1 (fx_X4_advance S)) (fun q8 => (if q8.1 = 0 then fx_X4_readSum_8 f n v1 (0 : Int32) (nI v3 + (1 : Int32)) q8.2 else am_let (fx_X8_add (sx_rd_token S) q8.2) (fun q11 => (if q11.1 = 0 then fx_X4_readSum_8 f n v1 (0 : Int32) (nI v3 + (1 : Int32)) q11.2 else fx_X4_readSum_8 f n v1 (1 : Int32) (nI v3 + (1 : Int32)) q11.2)))) := by
  show (if (160 : Int32) ≤ nI v3 then _ else _) = _
  have e0 : ¬ (160 : Int32) ≤ nI v3 := nI_ge (b := 160) hv (by decide)
  rw [if_neg e0, if_neg (show ¬ (1 : Int32) = 0 by decide)]
  rcases h with h | h
  · rw [if_pos h]; rfl
  · rw [if_neg (show ¬ sx_rd_token S = -43 by rw [h]; decide), if_pos h]; rfl
/-- the loop of sums against the yard -/
theorem pc_sp {tk : Nat → Int32} {N t p op : Nat} {f : Int32 → sx_T → Option (Int32 × sx_T)} {enF : Int32 → Prop} (hE : ∀ k, k < N → tk k ≠ -1 → k + 1 < N) (hen : ∀ x, enF x → py_w x ≤ 5)
    (hf : ∀ S k o, pc_C tk N t p k o S → p ≤ o.length → pc_Z tk N t p op (f (nI op) S) S k o true (fun mn H => (tk k = -8 → mn = false) ∧ py_tp H < 6) enF False pc_id pc_ok) : ∀ m n v3 S k o, N ≤ k + m → m < n → 2 * v3 ≤ k → pc_C tk N t p k o S → p ≤ o.length → enF (tk k) → pc_Z tk N t p op (fx_X4_readSum_8 f n (nI op) 1 (nI v3) S) S k o false (fun mn H => mn = true ∧ py_tp H < 5) (fun x => enF x ∧ x ≠ -43 ∧ x ≠ -45) False pc_id pc_ok1 := by
  intro m
  induction m with
  | zero => intro n v3 S k o h1 _ _ h; exact absurd h.1.1 (by omega)
  | succ m ih =>
    intro n v3 S k o h1 h2 h3 h hp hek
    obtain ⟨n, rfl⟩ : ∃ n', n = n' + 1 := ⟨n - 1, by omega⟩
    have kN := h.1.1
    have N2 := h.1.2.1
    by_cases ht : tk k = -43 ∨ tk k = -45
    · obtain ⟨sg, hg⟩ : ∃ sg, sg = tk k := ⟨_, rfl⟩
      obtain ⟨s, hs, h0, hr, hsg, hin, hnd, hd12⟩ : ∃ s, py_sg sg = s ∧ (s ≠ 0 ∧ s ≠ 13 ∧ s ≠ 19) ∧ py_r s = 5 ∧ py_s s = sg ∧ sg ∈ ([-6, -7, -60, -61, -43, -45, -42] : List Int32) ∧ sg ≠ -1 ∧ decide (s ≤ 12) = false := by
        rw [hg]
        rcases ht with q | q
        · rw [q]; exact ⟨16, by decide, by decide, by decide, by decide, by decide, by decide, by decide⟩
        · rw [q]; exact ⟨17, by decide, by decide, by decide, by decide, by decide, by decide, by decide⟩
      have htg : tk k = sg := hg.symm
      have haf : ∀ H o, pc_id (s :: H) o = (s :: H, o) := fun _ _ => rfl
      have h4 : py_r s ≠ 4 := by rw [hr]; decide
      have hside : ∀ k H, (tk k = -8 → decide (s ≤ 12) = false) ∧ py_tp (s :: H) < 6 := fun k H => ⟨fun _ => hd12, by show py_r s < 6; omega⟩
      have hk1 : k + 1 < N := hE k kN (by rw [htg]; exact hnd)
      obtain ⟨A, FA⟩ := pc_adv h hk1
      have tkn : sx_rd_token S = sg := h.1.2.2.2.2.1.trans htg
      have e1 := pc_s1 (f := f) (n := n) (v3 := v3) (v1 := nI op) (S := S) (by rw [tkn, ← htg]; exact ht) (by omega)
      rw [tkn] at e1
      have sgn : ∀ n H out, py_tp H < 5 → py_Y tk (n + 1) k false true H out = py_Y tk n (k + 1) true (decide (s ≤ 12)) (s :: H) out := fun n H out hH => py_sgn (by rw [htg]; exact hs) h0.1 h4 (by rw [hr]; exact hH)
      have ek1 : ∀ c, k + (1 + c) = k + 1 + c := fun c => by omega
      have ek2 : ∀ c c2, k + (1 + c + c2) = k + (1 + c) + c2 := fun c c2 => by omega
      have ops : ∀ H, py_op (s :: H) = py_op H := fun H => by
        show py_op H + (if s = 0 ∨ s = 13 ∨ s = 19 then 1 else 0) = py_op H
        rw [if_neg (fun q => q.elim h0.1 (fun q => q.elim h0.2.1 h0.2.2)), Nat.add_zero]
      obtain ⟨c, new, b, S', ef, hc, F', hZ⟩ := hf _ _ _ A hp
      have F2 := pc_Ft FA F'
      rw [ef, pz_bd] at e1
      rcases hZ with ⟨rfl, C', hl, hok, hc0, hY⟩ | ⟨rfl, hsn, hY⟩
      · have hc0 := hc0 rfl
        rw [if_neg (show ¬ ((1 : Int32), S').1 = 0 from (by decide : ¬ (1 : Int32) = 0))] at e1
        have ol : o.length ≤ k := h.2.1.2.2.2.1
        obtain ⟨ea, Ca, Fa⟩ := pc_add C' (by rw [List.length_append]; omega) (by rw [List.length_append]; omega) sg (pc_okv hin)
        have F3 := pc_Ft F2 Fa
        have e2 : fx_X4_readSum_8 f (n + 1) (nI op) 1 (nI v3) S = fx_X4_readSum_8 f n (nI op) 1 (nI (v3 + 1)) (fx_X8_add sg S').2 := by
          rw [e1, pz_let, ea]
          rw [if_neg (show ¬ ((1 : Int32), (fx_X8_add sg S').2).1 = 0 from (by decide : ¬ (1 : Int32) = 0)), nI_succ]
        have ok1 : pc_ok1 (new ++ [sg]) := pc_okb hok hin
        have Ca' : pc_C tk N t p (k + (1 + c)) (o ++ (new ++ [sg])) (fx_X8_add sg S').2 := by
          rw [← List.append_assoc, ek1]; exact Ca
        rcases hY with ⟨he, hY⟩ | ⟨hd, ht2, hY⟩
        · obtain ⟨c2, new2, b2, S2, e3, hc2, F4, hZ2⟩ := ih n (v3 + 1) _ (k + (1 + c)) _ (by omega) (by omega) (by omega) Ca' (by rw [List.length_append]; omega) (by rw [ek1]; exact he)
          have base : ∀ n H out, py_tp H < 5 → py_op H = op → py_Y tk (n + c + 1) k false true H out = py_Y tk n (k + (1 + c)) false true H (out ++ (new ++ [sg])) := by
            intro n H out hH hop
            rw [sgn (n + c) H out hH, hY n _ (s :: H) out (hside _ H) ((ops H).trans hop), haf, ek1]
            show py_Y tk n (k + 1 + c) false true (s :: H) (out ++ new) = _
            rw [py_pop (by rw [hr]; exact hen _ he), hsg, List.append_assoc]
          refine ⟨1 + c + c2, (new ++ [sg]) ++ new2, b2, S2, e2.trans e3, by omega, pc_Ft F3 F4, ?_⟩
          rcases hZ2 with ⟨rfl, C2, hl2, hok2, -, hY2⟩ | ⟨rfl, hsn2, hY2⟩
          · refine Or.inl ⟨rfl, by rw [← List.append_assoc, ek2]; exact C2, by simp only [List.length_append, List.length_cons, List.length_nil]; omega, pc_okj1 ok1 hok2, pc_ff, ?_⟩
            rcases hY2 with ⟨he2, hY2⟩ | ⟨hd2, ht3, hY2⟩
            · refine Or.inl ⟨by rw [ek2]; exact he2, fun n mn H out hs' hop => ?_⟩
              obtain ⟨rfl, hH⟩ := hs'
              rw [show n + (1 + c + c2) = (n + c2) + c + 1 by omega, base (n + c2) H out hH hop, hY2 n true H _ ⟨rfl, hH⟩ hop, ek2, List.append_assoc out (new ++ [sg]) new2]
            · refine Or.inr ⟨hd2, by rw [ek2]; exact ht3, fun n mn H out hs' hop => ?_⟩
              obtain ⟨rfl, hH⟩ := hs'
              rw [show n + (1 + c + c2) + 1 = (n + c2 + 1) + c + 1 by omega, base (n + c2 + 1) H out hH hop, hY2 n true H _ ⟨rfl, hH⟩ hop, ek2]
          · refine Or.inr ⟨rfl, by rw [ek2]; exact hsn2, fun n mn H out hs' hop => ?_⟩
            obtain ⟨rfl, hH⟩ := hs'
            rw [show n + (1 + c + c2) + 1 = (n + c2 + 1) + c + 1 by omega, base (n + c2 + 1) H out hH hop, hY2 n true H _ ⟨rfl, hH⟩ hop, ek2]
        · exact hd.elim
      · obtain ⟨n, rfl⟩ : ∃ n', n = n' + 1 := ⟨n - 1, by omega⟩
        rw [if_pos (show ((0 : Int32), S').1 = 0 from rfl), pc_s0] at e1
        refine ⟨1 + c, [], 0, S', e1, by omega, F2, Or.inr ⟨rfl, by rw [ek1]; exact hsn, fun n mn H out hs' hop => ?_⟩⟩
        obtain ⟨rfl, hH⟩ := hs'
        rw [show n + (1 + c) + 1 = (n + c + 1) + 1 by omega, sgn _ H out hH, hY n _ (s :: H) out (hside _ H) ((ops H).trans hop), ek1]
    · refine ⟨0, [], 1, S, pc_ss (fun q => ht (Or.inl (h.1.2.2.2.2.1.symm.trans q))) (fun q => ht (Or.inr (h.1.2.2.2.2.1.symm.trans q))), kN, pc_Fr, Or.inl ⟨rfl, by rw [List.append_nil]; exact h, Nat.le_refl _, pc_ok10, pc_ff, Or.inl ⟨⟨hek, fun q => ht (Or.inl q), fun q => ht (Or.inr q)⟩, fun n mn H out hs' _ => ?_⟩⟩⟩
      obtain ⟨rfl, hH⟩ := hs'
      rw [List.append_nil]
      rfl
