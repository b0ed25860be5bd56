theorem whole_from {R : sx_T → sm_T → Prop} (hR : lw_all R) {Si : sx_T} {Mi : sm_T} (h1 : fx_X11_init_end SX0 = some Si) (h2 : fx_X12_init_end SM0 = some Mi) (h0 : R Si Mi) {p : Program} {e : Env} {s : State} {m : MethodId} {below : List Frame} {meth : Method} {c : Code} (l : Launch) {b L : Nat} {xs : Nat → Int32} (hL : L ≤ 3584) (C0 : lw_At p s m meth c b L xs) : W p l e room_1 s m #[Value.ref b] below meth c s.heap [] 0 0 (lw_Z below #[Value.ref b] s) (entryFrame m ([Value.ref b] : List Value).toArray 4) := by
  obtain ⟨X, x1, x2, hE⟩ := lw_env hL C0
  subst x2
  have h := lw_start hR h1 h2 h0 hL X p l e s m #[.ref (X.2.1 50)] below meth c hE s.heap [] _ (fun k q hk => by cases hk) va_S.rf ⟨by rw [x1]; rfl, Nat.zero_le _⟩ (am_entry (X := X) (as := [.ref 1050]) (n := 4) (by decide))
  rw [lg_entry_eq]
  exact h
