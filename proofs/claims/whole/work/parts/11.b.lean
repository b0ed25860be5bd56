/-! the law's roads -/
def lx_count (a1 : Int32) (S : sx_T) : Option (Int32 × sx_T) := some (fx_X11_count a1 S, S)
def lm_count (a1 : Int32) (M : sm_T) : Option (Int32 × sm_T) := some (fx_X12_count a1 M, M)
def lq_count (R : sx_T → sm_T → Prop) : Prop := ∀ (S : sx_T) (M : sm_T), R S M → ∀ a1 : Int32, ∃ r S' M', lx_count a1 S = some (r, S') ∧ lm_count a1 M = some (r, M') ∧ R S' M'
set_option maxHeartbeats 100000 in
theorem lk_count {L : Nat} {xs : Nat → Int32} {n : Nat} (hn : n + 7 ≤ L) (hL : L ≤ 3584) {S S' : sx_T} {M M' : sm_T} {r : Int32} (h1 : lx_count (xs (n + 1)) S = some (r, S')) (h2 : lm_count (xs (n + 1)) M = some (r, M'))
    (kk : am_G mL_law (lw_g L xs) lw_kn 1627 [some (.ref 1050), some (.ref 0), some (.ref 45), some (.int (nI n))] [] (sx_w S' (sm_w M'))) : am_G mL_law (lw_g L xs) lw_kn 188 [some (.ref 1050), some (.ref 0), some (.ref 45), some (.int (nI n))] [] (sx_w S (sm_w M)) := by
  have h1q := Prod.mk.inj (Option.some.inj (show some (fx_X11_count (xs (n + 1)) S, S) = some (r, S') from h1))
  obtain ⟨h1p, rfl⟩ := h1q
  have h2q := Prod.mk.inj (Option.some.inj (show some (fx_X12_count (xs (n + 1)) M, M) = some (r, M') from h2))
  obtain ⟨h2p, rfl⟩ := h2q
  refine am_aload_n (pc' := 189) 1 dL_law_188 rfl rfl rfl ?_
  refine am_aload_n (pc' := 190) 0 dL_law_189 rfl rfl rfl ?_
  refine am_iload_n (pc' := 191) 3 dL_law_190 rfl rfl rfl ?_
  refine am_iconst (pc' := 192) (v := 1) dL_law_191 kc_1 rfl ?_
  refine am_iadd (pc' := 193) dL_law_192 rfl ?_
  refine lw_ld (pc' := 194) (n + 1) (lw_j1 n) (by omega) hL dL_law_193 rfl ?_
  refine lw_call (pc' := 197) (w1 := (sx_w S (sm_w M))) (v := .int r) [] [.int (xs (n + 1))] dL_law_194 cs_L_13 (tx_X11_count (sm_w M) (xs (n + 1)) S r h1p) rfl rfl rfl rfl rfl (Nat.le_of_ble_eq_true rfl) rfl rfl rfl ?_
  refine am_aload_n (pc' := 198) 2 dL_law_197 rfl rfl rfl ?_
  refine am_aload_n (pc' := 199) 0 dL_law_198 rfl rfl rfl ?_
  refine am_iload_n (pc' := 200) 3 dL_law_199 rfl rfl rfl ?_
  refine am_iconst (pc' := 201) (v := 1) dL_law_200 kc_1 rfl ?_
  refine am_iadd (pc' := 202) dL_law_201 rfl ?_
  refine lw_ld (pc' := 203) (n + 1) (lw_j1 n) (by omega) hL dL_law_202 rfl ?_
  refine lw_call (pc' := 206) (w1 := (sx_w S (sm_w M))) (v := .int r) [.int r] [.int (xs (n + 1))] dL_law_203 cs_L_17 (tx_X12_count S (xs (n + 1)) M r h2p) rfl rfl rfl rfl rfl (Nat.le_of_ble_eq_true rfl) rfl rfl rfl ?_
  exact am_icmp_eq (pc' := 209) 1627 dL_law_206 rfl rfl (fun _ => kk) (fun h => absurd rfl h)
