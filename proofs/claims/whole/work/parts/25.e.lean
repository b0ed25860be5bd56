/-! ===== the reader: first one, then more ===== -/
theorem pc_fl {tk : Nat → Int32} {N t p op : Nat} {r : Option (Int32 × sx_T)} {lo : Int32 → sx_T → Option (Int32 × sx_T)} {S : sx_T} {k : Nat} {o : List Int32} {sideF sideT sideL : Bool → List Nat → Prop} {enF enT : Int32 → Prop} {doom : Prop} {af : List Nat → List Int32 → List Nat × List Int32} (hp : p ≤ o.length) (hr : pc_Z tk N t p op r S k o true sideF enF doom af pc_ok) (h0 : ∀ S, lo 0 S = some (0, S)) (hd : ∀ S, (sx_rd_token S = -60 ∨ sx_rd_token S = -61) → doom → lo 1 S = some (1, S)) (hl : ∀ S k o, pc_C tk N t p k o S → p ≤ o.length → enF (tk k) → pc_Z tk N t p op (lo 1 S) S k o false sideL enT doom pc_id pc_ok1) (hsd : ∀ mn H, sideT mn H → sideF mn H ∧ sideL true H ∧ ∀ o, af H o = (H, o)) : pc_Z tk N t p op (am_bd r (fun q => lo q.1 q.2)) S k o true sideT enT doom pc_id pc_ok := by
  obtain ⟨c, new, b, S', ef, hc, F, hZ⟩ := hr
  rcases hZ with ⟨rfl, C', hlen, hok, hc0, hY⟩ | ⟨rfl, hsn, hY⟩
  · have hc0 := hc0 rfl
    rcases hY with ⟨he, hY⟩ | ⟨hdm, ht, hY⟩
    · obtain ⟨c2, new2, b2, S2, e3, hc2, F2, hZ2⟩ := hl _ _ _ C' (by rw [List.length_append]; omega) he
      have ek : k + (c + c2) = k + c + c2 := by omega
      have base : ∀ n mn H out, sideT mn H → py_op H = op → py_Y tk (n + c) k true mn H out = py_Y tk n (k + c) false true H (out ++ new) := by
        intro n mn H out hs hop
        obtain ⟨a1, a2, a3⟩ := hsd mn H hs
        rw [hY n mn H out a1 hop, a3]
      refine ⟨c + c2, new ++ new2, b2, S2, ?_, by omega, pc_Ft F F2, ?_⟩
      · rw [ef, pz_bd]; exact e3
      · rcases hZ2 with ⟨rfl, C2, hl2, hok2, -, hY2⟩ | ⟨rfl, hsn2, hY2⟩
        · refine Or.inl ⟨rfl, by rw [← List.append_assoc, ek]; exact C2, by simp only [List.length_append]; omega, pc_okj hok hok2, fun _ => by omega, ?_⟩
          rcases hY2 with ⟨he2, hY2⟩ | ⟨hd2, ht3, hY2⟩
          · refine Or.inl ⟨by rw [ek]; exact he2, fun n mn H out hs hop => ?_⟩
            rw [show n + (c + c2) = (n + c2) + c by omega, base (n + c2) mn H out hs hop, hY2 n true H _ (hsd mn H hs).2.1 hop, ek, List.append_assoc]
          · refine Or.inr ⟨hd2, by rw [ek]; exact ht3, fun n mn H out hs hop => ?_⟩
            rw [show n + (c + c2) + 1 = (n + c2 + 1) + c by omega, base (n + c2 + 1) mn H out hs hop, hY2 n true H _ (hsd mn H hs).2.1 hop, ek]
        · refine Or.inr ⟨rfl, by rw [ek]; exact hsn2, fun n mn H out hs hop => ?_⟩
          rw [show n + (c + c2) + 1 = (n + c2 + 1) + c by omega, base (n + c2 + 1) mn H out hs hop, hY2 n true H _ (hsd mn H hs).2.1 hop, ek]
    · refine ⟨c, new, 1, S', ?_, hc, F, Or.inl ⟨rfl, C', hlen, hok, fun _ => hc0, Or.inr ⟨hdm, ht, fun n mn H out hs hop => hY n mn H out (hsd mn H hs).1 hop⟩⟩⟩
      rw [ef, pz_bd]
      exact hd S' (by rw [C'.1.2.2.2.2.1]; exact ht) hdm
  · refine ⟨c, new, 0, S', ?_, hc, F, Or.inr ⟨rfl, hsn, fun n mn H out hs hop => hY n mn H out (hsd mn H hs).1 hop⟩⟩
    rw [ef, pz_bd]
    exact h0 S'
def pc_T (tk : Nat → Int32) (k : Nat) (r : Nat) (mn : Bool) (H : List Nat) : Prop := (tk k = -8 → mn = false) ∧ py_tp H < r
def pc_N (r : Nat) (mn : Bool) (H : List Nat) : Prop := mn = true ∧ py_tp H < r
theorem pc_fu {N k : Nat} (h : k < N ∧ N < 162) : N ≤ k + 162 ∧ 162 < am_fu := ⟨by omega, by decide⟩
theorem py_u7 {H : List Nat} {o : List Int32} (h : py_tp H < 7) : py_u 7 H o = (H, o) := py_un h (by decide)
/-- a term -/
theorem pc_Tm {tk : Nat → Int32} {N t p op : Nat} {f : Int32 → sx_T → Option (Int32 × sx_T)} (hE : ∀ k, k < N → tk k ≠ -1 → k + 1 < N) (hf : ∀ S k o, pc_C tk N t p k o S → p ≤ o.length → pc_Z tk N t p op (f (nI op) S) S k o true (fun mn _ => tk k = -8 → mn = false) (fun _ => True) False (py_u 7) pc_ok) : ∀ S k o, pc_C tk N t p k o S → p ≤ o.length → pc_Z tk N t p op (fx_X4_readTerm f (nI op) S) S k o true (pc_T tk k 6) pc_e6 False pc_id pc_ok := by
  intro S k o h hp
  have hl := pc_lp (sg := -42) (s := 18) (f := f) (sideF := fun k mn _ => tk k = -8 → mn = false) (enF := fun _ => True) (doom := False) (af := py_u 7) hE (by decide) (by decide) (by decide) (by decide) (by decide) (by decide) (fun _ _ _ _ => by decide) (fun H o => py_u7 (by show py_r 18 < 7; decide)) (fun x _ => py_w6 x) hf
  refine pc_fl (lo := fun b S => fx_X4_readTerm_8 f am_fu (nI op) b 0 S) (sideL := fun mn H => mn = true ∧ py_tp H < py_r 18) hp (hf S k o h hp) (fun S => (pc_lT f _ _ _ _ _).trans pc_l0) (fun S _ d => d.elim) (fun S k o h hp he => ?_) (fun mn H hs => ⟨hs.1, ⟨rfl, hs.2⟩, fun o => py_u7 (by have := hs.2; omega)⟩)
  obtain ⟨u1, u2⟩ := pc_fu ⟨h.1.1, h.1.2.1⟩
  have e := hl 162 am_fu 0 S k o u1 u2 (by omega) h hp he
  have e2 : (fun x : Int32 => True ∧ x ≠ -42) = pc_e6 := funext fun x => propext ⟨fun q => q.2, fun q => ⟨trivial, q⟩⟩
  rw [e2, ← pc_lT] at e
  exact e
/-- a sum -/
theorem pc_Sm {tk : Nat → Int32} {N t p op : Nat} {f : Int32 → sx_T → Option (Int32 × sx_T)} (hE : ∀ k, k < N → tk k ≠ -1 → k + 1 < N) (hf : ∀ S k o, pc_C tk N t p k o S → p ≤ o.length → pc_Z tk N t p op (f (nI op) S) S k o true (pc_T tk k 6) pc_e6 False pc_id pc_ok) : ∀ S k o, pc_C tk N t p k o S → p ≤ o.length → pc_Z tk N t p op (fx_X4_readSum f (nI op) S) S k o true (pc_T tk k 5) pc_e5 False pc_id pc_ok := by
  intro S k o h hp
  have hl := pc_sp (f := f) (enF := pc_e6) hE (fun x hx => py_w5 hx) hf
  refine pc_fl (lo := fun b S => fx_X4_readSum_8 f am_fu (nI op) b 0 S) (sideL := fun mn H => mn = true ∧ py_tp H < 5) hp (hf S k o h hp) (fun S => pc_s0) (fun S _ d => d.elim) (fun S k o h hp he => ?_) (fun mn H hs => ⟨⟨hs.1, by have := hs.2; omega⟩, ⟨rfl, hs.2⟩, fun o => rfl⟩)
  obtain ⟨u1, u2⟩ := pc_fu ⟨h.1.1, h.1.2.1⟩
  exact hl 162 am_fu 0 S k o u1 u2 (by omega) h hp he
/-- an and -/
theorem pc_An {tk : Nat → Int32} {N t p op : Nat} {f : Int32 → sx_T → Option (Int32 × sx_T)} (hE : ∀ k, k < N → tk k ≠ -1 → k + 1 < N) (hf : ∀ S k o, pc_C tk N t p k o S → p ≤ o.length → pc_Z tk N t p op (f (nI op) S) S k o true (pc_N 4) pc_e3 True pc_id pc_ok) : ∀ S k o, pc_C tk N t p k o S → p ≤ o.length → pc_Z tk N t p op (fx_X4_readAnd f (nI op) S) S k o true (pc_N 2) pc_e2 True pc_id pc_ok := by
  intro S k o h hp
  have hl := pc_lp (sg := -7) (s := 12) (f := f) (sideF := fun _ => pc_N 4) (enF := pc_e3) (doom := True) (af := pc_id) hE (by decide) (by decide) (by decide) (by decide) (by decide) (by decide) (fun _ H _ => ⟨by decide, by show py_r 12 < 4; decide⟩) (fun H o => rfl) (fun x hx => py_w2 hx) hf
  refine pc_fl (lo := fun b S => fx_X4_readAnd_8 f am_fu (nI op) b 0 S) (sideL := fun mn H => mn = true ∧ py_tp H < py_r 12) hp (hf S k o h hp) (fun S => (pc_lA f _ _ _ _ _).trans pc_l0) (fun S q _ => (pc_lA f _ _ _ _ _).trans (pc_ls (v3 := 0) (by rcases q with q | q <;> rw [q] <;> decide))) (fun S k o h hp he => ?_) (fun mn H hs => ⟨⟨hs.1, by have := hs.2; omega⟩, ⟨rfl, hs.2⟩, fun o => rfl⟩)
  obtain ⟨u1, u2⟩ := pc_fu ⟨h.1.1, h.1.2.1⟩
  have e := hl 162 am_fu 0 S k o u1 u2 (by omega) h hp he
  rw [← pc_lA] at e
  exact e
/-- an or -/
theorem pc_Or {tk : Nat → Int32} {N t p op : Nat} {f : Int32 → sx_T → Option (Int32 × sx_T)} (hE : ∀ k, k < N → tk k ≠ -1 → k + 1 < N) (hf : ∀ S k o, pc_C tk N t p k o S → p ≤ o.length → pc_Z tk N t p op (f (nI op) S) S k o true (pc_N 2) pc_e2 True pc_id pc_ok) : ∀ S k o, pc_C tk N t p k o S → p ≤ o.length → pc_Z tk N t p op (fx_X4_readOr f (nI op) S) S k o true (pc_N 1) pc_e1 True pc_id pc_ok := by
  intro S k o h hp
  have hl := pc_lp (sg := -6) (s := 11) (f := f) (sideF := fun _ => pc_N 2) (enF := pc_e2) (doom := True) (af := pc_id) hE (by decide) (by decide) (by decide) (by decide) (by decide) (by decide) (fun _ H _ => ⟨by decide, by show py_r 11 < 2; decide⟩) (fun H o => rfl) (fun x hx => py_w1 hx) hf
  refine pc_fl (lo := fun b S => fx_X4_readOr_8 f am_fu (nI op) b 0 S) (sideL := fun mn H => mn = true ∧ py_tp H < py_r 11) hp (hf S k o h hp) (fun S => (pc_lO f _ _ _ _ _).trans pc_l0) (fun S q _ => (pc_lO f _ _ _ _ _).trans (pc_ls (v3 := 0) (by rcases q with q | q <;> rw [q] <;> decide))) (fun S k o h hp he => ?_) (fun mn H hs => ⟨⟨hs.1, by have := hs.2; omega⟩, ⟨rfl, hs.2⟩, fun o => rfl⟩)
  obtain ⟨u1, u2⟩ := pc_fu ⟨h.1.1, h.1.2.1⟩
  have e := hl 162 am_fu 0 S k o u1 u2 (by omega) h hp he
  rw [← pc_lO] at e
  exact e
