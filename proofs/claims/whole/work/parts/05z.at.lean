/-! the class's own at(row, i) and set(row, i, x) -/
theorem tx_at {ws : am_W} {q n : Nat} {f : Nat → Int32} (hc : ws[q]? = some (.inl (n, f))) (hn : Nat.blt n 2147483648 = true) (i : Int32) : am_T mX11_at 0 0 0 [.ref q, .int i] ws (some (.int (am_rd n f i))) ws := by
  have hn' : n < 2147483648 := Nat.le_of_ble_eq_true hn
  refine am_meth (ls := [some (.ref q), some (.int i)]) (by decide +kernel) rfl (Nat.le_of_ble_eq_true rfl) ⟨rfl, Or.inl rfl⟩ ?_
  refine am_iload_n (pc' := 1) 1 dX11_at_0 rfl rfl rfl ?_
  refine am_if_lt (pc' := 4) 16 dX11_at_1 rfl rfl (fun h0 => ?_) (fun h0 => ?_)
  · refine am_iconst (pc' := 17) (v := 0) dX11_at_16 kc_0 rfl ?_
    exact am_iret dX11_at_17 rfl (by rw [am_rd, if_pos h0]) rfl
  · refine am_iload_n (pc' := 5) 1 dX11_at_4 rfl rfl rfl ?_
    refine am_aload_n (pc' := 6) 0 dX11_at_5 rfl rfl rfl ?_
    refine am_alen (pc' := 7) dX11_at_6 hc rfl ?_
    refine am_icmp_ge (pc' := 10) 16 dX11_at_7 rfl rfl (fun h1 => ?_) (fun h1 => ?_)
    · refine am_iconst (pc' := 17) (v := 0) dX11_at_16 kc_0 rfl ?_
      exact am_iret dX11_at_17 rfl (by rw [am_rd, if_neg h0, if_pos h1]) rfl
    · refine am_aload_n (pc' := 11) 0 dX11_at_10 rfl rfl rfl ?_
      refine am_iload_n (pc' := 12) 1 dX11_at_11 rfl rfl rfl ?_
      refine am_iald (pc' := 13) dX11_at_12 hc (am_inI hn' h0 h1) rfl ?_
      refine am_goto 17 dX11_at_13 rfl ?_
      exact am_iret dX11_at_17 rfl (by rw [am_rd, if_neg h0, if_neg h1]) rfl
theorem tx_set {ws w1 : am_W} {q n : Nat} {f : Nat → Int32} (hc : ws[q]? = some (.inl (n, f))) (hn : Nat.blt n 2147483648 = true) (i x : Int32) (hw : ws.set q (.inl (n, am_up n f i x)) = w1) : am_T mX11_set 0 0 0 [.ref q, .int i, .int x] ws none w1 := by
  have hn' : n < 2147483648 := Nat.le_of_ble_eq_true hn
  have e0 : ws.set q (.inl (n, f)) = ws := by
    have hl := (List.getElem?_eq_some_iff.mp hc)
    obtain ⟨h1, h2⟩ := hl
    rw [← h2, List.set_getElem_self]
  refine am_meth (ls := [some (.ref q), some (.int i), some (.int x)]) (by decide +kernel) rfl (Nat.le_of_ble_eq_true rfl) ⟨by rw [← hw, List.length_set]; rfl, Or.inl rfl⟩ ?_
  refine am_iload_n (pc' := 1) 1 dX11_set_0 rfl rfl rfl ?_
  refine am_if_lt (pc' := 4) 14 dX11_set_1 rfl rfl (fun h0 => ?_) (fun h0 => ?_)
  · exact am_vret dX11_set_14 rfl rfl (by rw [← hw, am_up, if_pos h0, e0])
  · refine am_iload_n (pc' := 5) 1 dX11_set_4 rfl rfl rfl ?_
    refine am_aload_n (pc' := 6) 0 dX11_set_5 rfl rfl rfl ?_
    refine am_alen (pc' := 7) dX11_set_6 hc rfl ?_
    refine am_icmp_ge (pc' := 10) 14 dX11_set_7 rfl rfl (fun h1 => ?_) (fun h1 => ?_)
    · exact am_vret dX11_set_14 rfl rfl (by rw [← hw, am_up, if_neg h0, if_pos h1, e0])
    · refine am_aload_n (pc' := 11) 0 dX11_set_10 rfl rfl rfl ?_
      refine am_iload_n (pc' := 12) 1 dX11_set_11 rfl rfl rfl ?_
      refine am_iload_n (pc' := 13) 2 dX11_set_12 rfl rfl rfl ?_
      refine am_iast (pc' := 14) dX11_set_13 hc (am_inI hn' h0 h1) rfl rfl ?_
      exact am_vret dX11_set_14 rfl rfl (by rw [← hw, am_up, if_neg h0, if_neg h1])
