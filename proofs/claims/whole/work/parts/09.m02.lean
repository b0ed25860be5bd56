set_option maxRecDepth 100000 in
set_option maxHeartbeats 4000000 in
theorem wx_X12_next_379 (S0 : sx_T) : ∀ (v1 : Int32) (w0 : Int32) (S : sm_T) (res : sm_T) (hres : fx_X12_next_379 v1 w0 S = some res), am_G mX12_next (none, 1, 0, 0, none, (sx_w S0 (sm_w res))) (0, 0) 379 [some (.ref 45), some (.int v1), none] [.int w0] (sx_w S0 (sm_w S)) := by
  intro v1 w0 S res hres
  rw [fx_X12_next_379] at hres
  refine am_istore_n (pc' := 380) (ls' := [some (.ref 45), some (.int v1), some (.int w0)]) 2 dX12_next_379 rfl (Nat.le_of_ble_eq_true rfl) rfl rfl rfl ?_
  refine am_aload_n (pc' := 381) 0 dX12_next_380 rfl rfl rfl ?_
  refine am_iload_n (pc' := 382) 2 dX12_next_381 rfl rfl rfl ?_
  refine am_if_eq (pc' := 385) 389 dX12_next_382 rfl rfl (fun hc7 => ?_) (fun hc7 => ?_)
  · rw [if_pos hc7] at hres
    refine am_iconst (pc' := 390) (v := (-1)) dX12_next_389 kc_m1 rfl ?_
    refine am_put (pc' := 393) (ws' := (sx_w S0 (sm_w (um_token S (-1 : Int32))))) (v := .int (-1 : Int32)) dX12_next_390 fp_X12_113 (sm_c45 S0 S) (fun _ => ⟨rfl, rfl⟩) (Nat.le_of_ble_eq_true rfl) (sm_p_token S0 S _) rfl ?_
    refine am_aload_n (pc' := 394) 0 dX12_next_393 rfl rfl rfl ?_
    refine am_dupa (pc' := 395) dX12_next_394 rfl ?_
    refine am_get (pc' := 398) (v := .int (sm_at S)) dX12_next_395 fl_X12_107 (sm_c45 S0 (um_token S (-1 : Int32))) rfl rfl ?_
    refine am_iconst (pc' := 399) (v := 1) dX12_next_398 kc_1 rfl ?_
    refine am_iadd (pc' := 400) dX12_next_399 rfl ?_
    refine am_put (pc' := 403) (ws' := (sx_w S0 (sm_w (um_at (um_token S (-1 : Int32)) ((sm_at S) + (1 : Int32)))))) (v := .int ((sm_at S) + (1 : Int32))) dX12_next_400 fp_X12_107 (sm_c45 S0 (um_token S (-1 : Int32))) (fun _ => ⟨rfl, rfl⟩) (Nat.le_of_ble_eq_true rfl) (sm_p_at S0 (um_token S (-1 : Int32)) _) rfl ?_
    obtain rfl := Option.some.inj hres
    exact am_vret dX12_next_403 rfl rfl rfl
  · rw [if_neg hc7] at hres
    refine am_iload_n (pc' := 386) 1 dX12_next_385 rfl rfl rfl ?_
    refine am_goto 390 dX12_next_386 rfl ?_
    refine am_put (pc' := 393) (ws' := (sx_w S0 (sm_w (um_token S v1)))) (v := .int v1) dX12_next_390 fp_X12_113 (sm_c45 S0 S) (fun _ => ⟨rfl, rfl⟩) (Nat.le_of_ble_eq_true rfl) (sm_p_token S0 S _) rfl ?_
    refine am_aload_n (pc' := 394) 0 dX12_next_393 rfl rfl rfl ?_
    refine am_dupa (pc' := 395) dX12_next_394 rfl ?_
    refine am_get (pc' := 398) (v := .int (sm_at S)) dX12_next_395 fl_X12_107 (sm_c45 S0 (um_token S v1)) rfl rfl ?_
    refine am_iconst (pc' := 399) (v := 1) dX12_next_398 kc_1 rfl ?_
    refine am_iadd (pc' := 400) dX12_next_399 rfl ?_
    refine am_put (pc' := 403) (ws' := (sx_w S0 (sm_w (um_at (um_token S v1) ((sm_at S) + (1 : Int32)))))) (v := .int ((sm_at S) + (1 : Int32))) dX12_next_400 fp_X12_107 (sm_c45 S0 (um_token S v1)) (fun _ => ⟨rfl, rfl⟩) (Nat.le_of_ble_eq_true rfl) (sm_p_at S0 (um_token S v1) _) rfl ?_
    obtain rfl := Option.some.inj hres
    exact am_vret dX12_next_403 rfl rfl rfl

set_option maxRecDepth 100000 in
set_option maxHeartbeats 4000000 in
theorem wx_X12_next_374 (S0 : sx_T) : ∀ (v1 : Int32) (S : sm_T) (res : sm_T) (hres : fx_X12_next_374 v1 S = some res), am_G mX12_next (none, 1, 0, 0, none, (sx_w S0 (sm_w res))) (0, 0) 374 [some (.ref 45), some (.int v1), none] [] (sx_w S0 (sm_w S)) := by
  intro v1 S res hres
  rw [fx_X12_next_374] at hres
  refine am_iconst (pc' := 375) (v := 1) dX12_next_374 kc_1 rfl ?_
  refine am_goto 379 dX12_next_375 rfl ?_
  exact wx_X12_next_379 S0 _ _ _ _ hres

set_option maxRecDepth 100000 in
set_option maxHeartbeats 4000000 in
theorem wx_X12_next_230 (S0 : sx_T) : ∀ (n : Nat) (v2 : Int32) (S : sm_T) (res : sm_T) (hres : fx_X12_next_230 n v2 S = some res), am_G mX12_next (none, 1, 0, 0, none, (sx_w S0 (sm_w res))) (0, 0) 230 [some (.ref 45), none, some (.int v2)] [] (sx_w S0 (sm_w S)) := by
  intro n
  induction n with
  | zero =>
    intro v2 S res hres
    cases hres
  | succ n ih =>
    intro v2 S res hres
    rw [fx_X12_next_230] at hres
    refine am_aload_n (pc' := 231) 0 dX12_next_230 rfl rfl rfl ?_
    refine am_get (pc' := 234) (v := .int (sm_at S)) dX12_next_231 fl_X12_107 (sm_c45 S0 S) rfl rfl ?_
    refine am_aload_n (pc' := 235) 0 dX12_next_234 rfl rfl rfl ?_
    refine am_get (pc' := 238) (v := .int (sm_taped S)) dX12_next_235 fl_X12_80 (sm_c45 S0 S) rfl rfl ?_
    refine am_icmp_ge (pc' := 241) 309 dX12_next_238 rfl rfl (fun hc15 => ?_) (fun hc15 => ?_)
    · rw [if_pos hc15] at hres
      refine am_aload_n (pc' := 310) 0 dX12_next_309 rfl rfl rfl ?_
      refine am_iload_n (pc' := 311) 2 dX12_next_310 rfl rfl rfl ?_
      refine am_iconst (pc' := 312) (v := 4) dX12_next_311 kc_4 rfl ?_
      refine am_icmp_le (pc' := 315) 319 dX12_next_312 rfl rfl (fun hc16 => ?_) (fun hc16 => ?_)
      · rw [if_pos hc16] at hres
        refine am_iconst (pc' := 320) (v := 1) dX12_next_319 kc_1 rfl ?_
        refine am_put (pc' := 323) (ws' := (sx_w S0 (sm_w (um_token S (1 : Int32))))) (v := .int (1 : Int32)) dX12_next_320 fp_X12_113 (sm_c45 S0 S) (fun _ => ⟨rfl, rfl⟩) (Nat.le_of_ble_eq_true rfl) (sm_p_token S0 S _) rfl ?_
        refine am_goto 403 dX12_next_323 rfl ?_
        obtain rfl := Option.some.inj hres
        exact am_vret dX12_next_403 rfl rfl rfl
      · rw [if_neg hc16] at hres
        refine am_iconst (pc' := 316) (v := (-1)) dX12_next_315 kc_m1 rfl ?_
        refine am_goto 320 dX12_next_316 rfl ?_
        refine am_put (pc' := 323) (ws' := (sx_w S0 (sm_w (um_token S (-1 : Int32))))) (v := .int (-1 : Int32)) dX12_next_320 fp_X12_113 (sm_c45 S0 S) (fun _ => ⟨rfl, rfl⟩) (Nat.le_of_ble_eq_true rfl) (sm_p_token S0 S _) rfl ?_
        refine am_goto 403 dX12_next_323 rfl ?_
        obtain rfl := Option.some.inj hres
        exact am_vret dX12_next_403 rfl rfl rfl
    · rw [if_neg hc15] at hres
      refine am_aload_n (pc' := 242) 0 dX12_next_241 rfl rfl rfl ?_
      refine am_get (pc' := 245) (v := .ref 50) dX12_next_242 fl_X12_26 (sm_c45 S0 S) rfl rfl ?_
      refine am_aload_n (pc' := 246) 0 dX12_next_245 rfl rfl rfl ?_
      refine am_get (pc' := 249) (v := .int (sm_at S)) dX12_next_246 fl_X12_107 (sm_c45 S0 S) rfl rfl ?_
      obtain ⟨hr17, hres⟩ := am_rg hres
      refine am_iald (pc' := 250) (f := (sm_tape S)) dX12_next_249 (sm_c50 S0 S) hr17 rfl ?_
      refine am_bipush (pc' := 252) (v := 48) dX12_next_250 kb_48 rfl ?_
      refine am_bipush (pc' := 254) (v := 57) dX12_next_252 kb_57 rfl ?_
      refine am_cS (pc' := 257) (st' := [.int (fx_X12_in ((sm_tape S) (sm_at S).toNatClampNeg) (48 : Int32) (57 : Int32))]) [] [.int ((sm_tape S) (sm_at S).toNatClampNeg), .int (48 : Int32), .int (57 : Int32)] dX12_next_254 cs_X12_90 (tx_X12_in (sx_w S0 (sm_w S)) ((sm_tape S) (sm_at S).toNatClampNeg) (48 : Int32) (57 : Int32) _ rfl) rfl rfl rfl rfl rfl rfl ?_
      refine am_if_eq (pc' := 260) 309 dX12_next_257 rfl rfl (fun hc18 => ?_) (fun hc18 => ?_)
      · rw [if_pos hc18] at hres
        refine am_aload_n (pc' := 310) 0 dX12_next_309 rfl rfl rfl ?_
        refine am_iload_n (pc' := 311) 2 dX12_next_310 rfl rfl rfl ?_
        refine am_iconst (pc' := 312) (v := 4) dX12_next_311 kc_4 rfl ?_
        refine am_icmp_le (pc' := 315) 319 dX12_next_312 rfl rfl (fun hc19 => ?_) (fun hc19 => ?_)
        · rw [if_pos hc19] at hres
          refine am_iconst (pc' := 320) (v := 1) dX12_next_319 kc_1 rfl ?_
          refine am_put (pc' := 323) (ws' := (sx_w S0 (sm_w (um_token S (1 : Int32))))) (v := .int (1 : Int32)) dX12_next_320 fp_X12_113 (sm_c45 S0 S) (fun _ => ⟨rfl, rfl⟩) (Nat.le_of_ble_eq_true rfl) (sm_p_token S0 S _) rfl ?_
          refine am_goto 403 dX12_next_323 rfl ?_
          obtain rfl := Option.some.inj hres
          exact am_vret dX12_next_403 rfl rfl rfl
        · rw [if_neg hc19] at hres
          refine am_iconst (pc' := 316) (v := (-1)) dX12_next_315 kc_m1 rfl ?_
          refine am_goto 320 dX12_next_316 rfl ?_
          refine am_put (pc' := 323) (ws' := (sx_w S0 (sm_w (um_token S (-1 : Int32))))) (v := .int (-1 : Int32)) dX12_next_320 fp_X12_113 (sm_c45 S0 S) (fun _ => ⟨rfl, rfl⟩) (Nat.le_of_ble_eq_true rfl) (sm_p_token S0 S _) rfl ?_
          refine am_goto 403 dX12_next_323 rfl ?_
          obtain rfl := Option.some.inj hres
          exact am_vret dX12_next_403 rfl rfl rfl
      · rw [if_neg hc18] at hres
        refine am_aload_n (pc' := 261) 0 dX12_next_260 rfl rfl rfl ?_
        refine am_iload_n (pc' := 262) 2 dX12_next_261 rfl rfl rfl ?_
        refine am_iconst (pc' := 263) (v := 4) dX12_next_262 kc_4 rfl ?_
        refine am_icmp_ge (pc' := 266) 289 dX12_next_263 rfl rfl (fun hc20 => ?_) (fun hc20 => ?_)
        · rw [if_pos hc20] at hres
          refine am_iconst (pc' := 290) (v := 0) dX12_next_289 kc_0 rfl ?_
          refine am_put (pc' := 293) (ws' := (sx_w S0 (sm_w (um_value S (0 : Int32))))) (v := .int (0 : Int32)) dX12_next_290 fp_X12_116 (sm_c45 S0 S) (fun _ => ⟨rfl, rfl⟩) (Nat.le_of_ble_eq_true rfl) (sm_p_value S0 S _) rfl ?_
          refine am_iinc (pc' := 296) (ls' := [some (.ref 45), none, some (.int (v2 + (1 : Int32)))]) dX12_next_293 rfl (show v2 + Int32.ofInt 1 = (v2 + (1 : Int32)) from congrArg (fun z => v2 + z) kc_1) (Nat.le_of_ble_eq_true rfl) rfl rfl rfl ?_
          refine am_aload_n (pc' := 297) 0 dX12_next_296 rfl rfl rfl ?_
          refine am_dupa (pc' := 298) dX12_next_297 rfl ?_
          refine am_get (pc' := 301) (v := .int (sm_at S)) dX12_next_298 fl_X12_107 (sm_c45 S0 (um_value S (0 : Int32))) rfl rfl ?_
          refine am_iconst (pc' := 302) (v := 1) dX12_next_301 kc_1 rfl ?_
          refine am_iadd (pc' := 303) dX12_next_302 rfl ?_
          refine am_put (pc' := 306) (ws' := (sx_w S0 (sm_w (um_at (um_value S (0 : Int32)) ((sm_at S) + (1 : Int32)))))) (v := .int ((sm_at S) + (1 : Int32))) dX12_next_303 fp_X12_107 (sm_c45 S0 (um_value S (0 : Int32))) (fun _ => ⟨rfl, rfl⟩) (Nat.le_of_ble_eq_true rfl) (sm_p_at S0 (um_value S (0 : Int32)) _) rfl ?_
          refine am_goto 230 dX12_next_306 rfl ?_
          exact ih _ _ _ hres
        · rw [if_neg hc20] at hres
          refine am_bipush (pc' := 268) (v := 10) dX12_next_266 kb_10 rfl ?_
          refine am_aload_n (pc' := 269) 0 dX12_next_268 rfl rfl rfl ?_
          refine am_get (pc' := 272) (v := .int (sm_value S)) dX12_next_269 fl_X12_116 (sm_c45 S0 S) rfl rfl ?_
          refine am_imul (pc' := 273) dX12_next_272 rfl ?_
          refine am_aload_n (pc' := 274) 0 dX12_next_273 rfl rfl rfl ?_
          refine am_get (pc' := 277) (v := .ref 50) dX12_next_274 fl_X12_26 (sm_c45 S0 S) rfl rfl ?_
          refine am_aload_n (pc' := 278) 0 dX12_next_277 rfl rfl rfl ?_
          refine am_get (pc' := 281) (v := .int (sm_at S)) dX12_next_278 fl_X12_107 (sm_c45 S0 S) rfl rfl ?_
          obtain ⟨hr21, hres⟩ := am_rg hres
          refine am_iald (pc' := 282) (f := (sm_tape S)) dX12_next_281 (sm_c50 S0 S) hr21 rfl ?_
          refine am_iadd (pc' := 283) dX12_next_282 rfl ?_
          refine am_bipush (pc' := 285) (v := 48) dX12_next_283 kb_48 rfl ?_
          refine am_isub (pc' := 286) dX12_next_285 rfl ?_
          refine am_goto 290 dX12_next_286 rfl ?_
          refine am_put (pc' := 293) (ws' := (sx_w S0 (sm_w (um_value S ((((10 : Int32) * (sm_value S)) + ((sm_tape S) (sm_at S).toNatClampNeg)) - (48 : Int32)))))) (v := .int ((((10 : Int32) * (sm_value S)) + ((sm_tape S) (sm_at S).toNatClampNeg)) - (48 : Int32))) dX12_next_290 fp_X12_116 (sm_c45 S0 S) (fun _ => ⟨rfl, rfl⟩) (Nat.le_of_ble_eq_true rfl) (sm_p_value S0 S _) rfl ?_
          refine am_iinc (pc' := 296) (ls' := [some (.ref 45), none, some (.int (v2 + (1 : Int32)))]) dX12_next_293 rfl (show v2 + Int32.ofInt 1 = (v2 + (1 : Int32)) from congrArg (fun z => v2 + z) kc_1) (Nat.le_of_ble_eq_true rfl) rfl rfl rfl ?_
          refine am_aload_n (pc' := 297) 0 dX12_next_296 rfl rfl rfl ?_
          refine am_dupa (pc' := 298) dX12_next_297 rfl ?_
          refine am_get (pc' := 301) (v := .int (sm_at S)) dX12_next_298 fl_X12_107 (sm_c45 S0 (um_value S ((((10 : Int32) * (sm_value S)) + ((sm_tape S) (sm_at S).toNatClampNeg)) - (48 : Int32)))) rfl rfl ?_
          refine am_iconst (pc' := 302) (v := 1) dX12_next_301 kc_1 rfl ?_
          refine am_iadd (pc' := 303) dX12_next_302 rfl ?_
          refine am_put (pc' := 306) (ws' := (sx_w S0 (sm_w (um_at (um_value S ((((10 : Int32) * (sm_value S)) + ((sm_tape S) (sm_at S).toNatClampNeg)) - (48 : Int32))) ((sm_at S) + (1 : Int32)))))) (v := .int ((sm_at S) + (1 : Int32))) dX12_next_303 fp_X12_107 (sm_c45 S0 (um_value S ((((10 : Int32) * (sm_value S)) + ((sm_tape S) (sm_at S).toNatClampNeg)) - (48 : Int32)))) (fun _ => ⟨rfl, rfl⟩) (Nat.le_of_ble_eq_true rfl) (sm_p_at S0 (um_value S ((((10 : Int32) * (sm_value S)) + ((sm_tape S) (sm_at S).toNatClampNeg)) - (48 : Int32))) _) rfl ?_
          refine am_goto 230 dX12_next_306 rfl ?_
          exact ih _ _ _ hres

set_option maxRecDepth 100000 in
set_option maxHeartbeats 4000000 in
theorem wx_X12_next_146 (S0 : sx_T) : ∀ (S : sm_T) (res : sm_T) (hres : fx_X12_next_146 S = some res), am_G mX12_next (none, 1, 0, 0, none, (sx_w S0 (sm_w res))) (0, 0) 146 [some (.ref 45), none, none] [] (sx_w S0 (sm_w S)) := by
  intro S res hres
  rw [fx_X12_next_146] at hres
  refine am_aload_n (pc' := 147) 0 dX12_next_146 rfl rfl rfl ?_
  refine am_aload_n (pc' := 148) 0 dX12_next_147 rfl rfl rfl ?_
  refine am_get (pc' := 151) (v := .int (sm_begun S)) dX12_next_148 fl_X12_110 (sm_c45 S0 S) rfl rfl ?_
  refine am_aload_n (pc' := 152) 0 dX12_next_151 rfl rfl rfl ?_
  refine am_get (pc' := 155) (v := .int (sm_at S)) dX12_next_152 fl_X12_107 (sm_c45 S0 S) rfl rfl ?_
  obtain ⟨q23, hq24, hres⟩ := am_bd_s hres
  refine am_cV (pc' := 158) (st' := [.int q23]) [] [.int (sm_begun S), .int (sm_at S)] dX12_next_155 cs_X12_119 (tx_X12_wordFrom S0 (sm_begun S) (sm_at S) S _ hq24) rfl rfl rfl (sm_c45 S0 S) rfl rfl rfl rfl rfl ?_
  refine am_istore_n (pc' := 159) (ls' := [some (.ref 45), none, some (.int q23)]) 2 dX12_next_158 rfl (Nat.le_of_ble_eq_true rfl) rfl rfl rfl ?_
  refine am_aload_n (pc' := 160) 0 dX12_next_159 rfl rfl rfl ?_
  refine am_iload_n (pc' := 161) 2 dX12_next_160 rfl rfl rfl ?_
  refine am_iconst (pc' := 162) (v := 3) dX12_next_161 kc_3 rfl ?_
  refine am_icmp_ge (pc' := 165) 169 dX12_next_162 rfl rfl (fun hc25 => ?_) (fun hc25 => ?_)
  · rw [if_pos hc25] at hres
    refine am_iload_n (pc' := 170) 2 dX12_next_169 rfl rfl rfl ?_
    refine am_bipush (pc' := 172) (v := 9) dX12_next_170 kb_9 rfl ?_
    refine am_icmp_ge (pc' := 175) 179 dX12_next_172 rfl rfl (fun hc26 => ?_) (fun hc26 => ?_)
    · rw [if_pos hc26] at hres
      refine am_iload_n (pc' := 180) 2 dX12_next_179 rfl rfl rfl ?_
      refine am_bipush (pc' := 182) (v := 12) dX12_next_180 kb_12 rfl ?_
      refine am_icmp_ne (pc' := 185) 189 dX12_next_182 rfl rfl (fun hc27 => ?_) (fun hc27 => ?_)
      · rw [if_neg hc27] at hres
        refine am_iconst (pc' := 190) (v := 4) dX12_next_189 kc_4 rfl ?_
        refine am_iload_n (pc' := 191) 2 dX12_next_190 rfl rfl rfl ?_
        refine am_iadd (pc' := 192) dX12_next_191 rfl ?_
        refine am_bipush (pc' := 194) (v := 9) dX12_next_192 kb_9 rfl ?_
        refine am_isub (pc' := 195) dX12_next_194 rfl ?_
        refine am_put (pc' := 198) (ws' := (sx_w S0 (sm_w (um_token S (((4 : Int32) + q23) - (9 : Int32)))))) (v := .int (((4 : Int32) + q23) - (9 : Int32))) dX12_next_195 fp_X12_113 (sm_c45 S0 S) (fun _ => ⟨rfl, rfl⟩) (Nat.le_of_ble_eq_true rfl) (sm_p_token S0 S _) rfl ?_
        refine am_aload_n (pc' := 199) 0 dX12_next_198 rfl rfl rfl ?_
        refine am_iload_n (pc' := 200) 2 dX12_next_199 rfl rfl rfl ?_
        refine am_iconst (pc' := 201) (v := 3) dX12_next_200 kc_3 rfl ?_
        refine am_icmp_ge (pc' := 204) 208 dX12_next_201 rfl rfl (fun hc28 => ?_) (fun hc28 => ?_)
        · rw [if_pos hc28] at hres
          refine am_iload_n (pc' := 209) 2 dX12_next_208 rfl rfl rfl ?_
          refine am_iconst (pc' := 210) (v := 3) dX12_next_209 kc_3 rfl ?_
          refine am_isub (pc' := 211) dX12_next_210 rfl ?_
          refine am_put (pc' := 214) (ws' := (sx_w S0 (sm_w (um_value (um_token S (((4 : Int32) + q23) - (9 : Int32))) (q23 - (3 : Int32)))))) (v := .int (q23 - (3 : Int32))) dX12_next_211 fp_X12_116 (sm_c45 S0 (um_token S (((4 : Int32) + q23) - (9 : Int32)))) (fun _ => ⟨rfl, rfl⟩) (Nat.le_of_ble_eq_true rfl) (sm_p_value S0 (um_token S (((4 : Int32) + q23) - (9 : Int32))) _) rfl ?_
          refine am_goto 403 dX12_next_214 rfl ?_
          obtain rfl := Option.some.inj hres
          exact am_vret dX12_next_403 rfl rfl rfl
        · rw [if_neg hc28] at hres
          refine am_iload_n (pc' := 205) 2 dX12_next_204 rfl rfl rfl ?_
          refine am_goto 211 dX12_next_205 rfl ?_
          refine am_put (pc' := 214) (ws' := (sx_w S0 (sm_w (um_value (um_token S (((4 : Int32) + q23) - (9 : Int32))) q23)))) (v := .int q23) dX12_next_211 fp_X12_116 (sm_c45 S0 (um_token S (((4 : Int32) + q23) - (9 : Int32)))) (fun _ => ⟨rfl, rfl⟩) (Nat.le_of_ble_eq_true rfl) (sm_p_value S0 (um_token S (((4 : Int32) + q23) - (9 : Int32))) _) rfl ?_
          refine am_goto 403 dX12_next_214 rfl ?_
          obtain rfl := Option.some.inj hres
          exact am_vret dX12_next_403 rfl rfl rfl
      · rw [if_pos hc27] at hres
        refine am_iconst (pc' := 186) (v := (-1)) dX12_next_185 kc_m1 rfl ?_
        refine am_goto 195 dX12_next_186 rfl ?_
        refine am_put (pc' := 198) (ws' := (sx_w S0 (sm_w (um_token S (-1 : Int32))))) (v := .int (-1 : Int32)) dX12_next_195 fp_X12_113 (sm_c45 S0 S) (fun _ => ⟨rfl, rfl⟩) (Nat.le_of_ble_eq_true rfl) (sm_p_token S0 S _) rfl ?_
        refine am_aload_n (pc' := 199) 0 dX12_next_198 rfl rfl rfl ?_
        refine am_iload_n (pc' := 200) 2 dX12_next_199 rfl rfl rfl ?_
        refine am_iconst (pc' := 201) (v := 3) dX12_next_200 kc_3 rfl ?_
        refine am_icmp_ge (pc' := 204) 208 dX12_next_201 rfl rfl (fun hc29 => ?_) (fun hc29 => ?_)
        · rw [if_pos hc29] at hres
          refine am_iload_n (pc' := 209) 2 dX12_next_208 rfl rfl rfl ?_
          refine am_iconst (pc' := 210) (v := 3) dX12_next_209 kc_3 rfl ?_
          refine am_isub (pc' := 211) dX12_next_210 rfl ?_
          refine am_put (pc' := 214) (ws' := (sx_w S0 (sm_w (um_value (um_token S (-1 : Int32)) (q23 - (3 : Int32)))))) (v := .int (q23 - (3 : Int32))) dX12_next_211 fp_X12_116 (sm_c45 S0 (um_token S (-1 : Int32))) (fun _ => ⟨rfl, rfl⟩) (Nat.le_of_ble_eq_true rfl) (sm_p_value S0 (um_token S (-1 : Int32)) _) rfl ?_
          refine am_goto 403 dX12_next_214 rfl ?_
          obtain rfl := Option.some.inj hres
          exact am_vret dX12_next_403 rfl rfl rfl
        · rw [if_neg hc29] at hres
          refine am_iload_n (pc' := 205) 2 dX12_next_204 rfl rfl rfl ?_
          refine am_goto 211 dX12_next_205 rfl ?_
          refine am_put (pc' := 214) (ws' := (sx_w S0 (sm_w (um_value (um_token S (-1 : Int32)) q23)))) (v := .int q23) dX12_next_211 fp_X12_116 (sm_c45 S0 (um_token S (-1 : Int32))) (fun _ => ⟨rfl, rfl⟩) (Nat.le_of_ble_eq_true rfl) (sm_p_value S0 (um_token S (-1 : Int32)) _) rfl ?_
          refine am_goto 403 dX12_next_214 rfl ?_
          obtain rfl := Option.some.inj hres
          exact am_vret dX12_next_403 rfl rfl rfl
    · rw [if_neg hc26] at hres
      refine am_iconst (pc' := 176) (v := 2) dX12_next_175 kc_2 rfl ?_
      refine am_goto 195 dX12_next_176 rfl ?_
      refine am_put (pc' := 198) (ws' := (sx_w S0 (sm_w (um_token S (2 : Int32))))) (v := .int (2 : Int32)) dX12_next_195 fp_X12_113 (sm_c45 S0 S) (fun _ => ⟨rfl, rfl⟩) (Nat.le_of_ble_eq_true rfl) (sm_p_token S0 S _) rfl ?_
      refine am_aload_n (pc' := 199) 0 dX12_next_198 rfl rfl rfl ?_
      refine am_iload_n (pc' := 200) 2 dX12_next_199 rfl rfl rfl ?_
      refine am_iconst (pc' := 201) (v := 3) dX12_next_200 kc_3 rfl ?_
      refine am_icmp_ge (pc' := 204) 208 dX12_next_201 rfl rfl (fun hc30 => ?_) (fun hc30 => ?_)
      · rw [if_pos hc30] at hres
        refine am_iload_n (pc' := 209) 2 dX12_next_208 rfl rfl rfl ?_
        refine am_iconst (pc' := 210) (v := 3) dX12_next_209 kc_3 rfl ?_
        refine am_isub (pc' := 211) dX12_next_210 rfl ?_
        refine am_put (pc' := 214) (ws' := (sx_w S0 (sm_w (um_value (um_token S (2 : Int32)) (q23 - (3 : Int32)))))) (v := .int (q23 - (3 : Int32))) dX12_next_211 fp_X12_116 (sm_c45 S0 (um_token S (2 : Int32))) (fun _ => ⟨rfl, rfl⟩) (Nat.le_of_ble_eq_true rfl) (sm_p_value S0 (um_token S (2 : Int32)) _) rfl ?_
        refine am_goto 403 dX12_next_214 rfl ?_
        obtain rfl := Option.some.inj hres
        exact am_vret dX12_next_403 rfl rfl rfl
      · rw [if_neg hc30] at hres
        refine am_iload_n (pc' := 205) 2 dX12_next_204 rfl rfl rfl ?_
        refine am_goto 211 dX12_next_205 rfl ?_
        refine am_put (pc' := 214) (ws' := (sx_w S0 (sm_w (um_value (um_token S (2 : Int32)) q23)))) (v := .int q23) dX12_next_211 fp_X12_116 (sm_c45 S0 (um_token S (2 : Int32))) (fun _ => ⟨rfl, rfl⟩) (Nat.le_of_ble_eq_true rfl) (sm_p_value S0 (um_token S (2 : Int32)) _) rfl ?_
        refine am_goto 403 dX12_next_214 rfl ?_
        obtain rfl := Option.some.inj hres
        exact am_vret dX12_next_403 rfl rfl rfl
  · rw [if_neg hc25] at hres
    refine am_iconst (pc' := 166) (v := 3) dX12_next_165 kc_3 rfl ?_
    refine am_goto 195 dX12_next_166 rfl ?_
    refine am_put (pc' := 198) (ws' := (sx_w S0 (sm_w (um_token S (3 : Int32))))) (v := .int (3 : Int32)) dX12_next_195 fp_X12_113 (sm_c45 S0 S) (fun _ => ⟨rfl, rfl⟩) (Nat.le_of_ble_eq_true rfl) (sm_p_token S0 S _) rfl ?_
    refine am_aload_n (pc' := 199) 0 dX12_next_198 rfl rfl rfl ?_
    refine am_iload_n (pc' := 200) 2 dX12_next_199 rfl rfl rfl ?_
    refine am_iconst (pc' := 201) (v := 3) dX12_next_200 kc_3 rfl ?_
    refine am_icmp_ge (pc' := 204) 208 dX12_next_201 rfl rfl (fun hc31 => ?_) (fun hc31 => ?_)
    · rw [if_pos hc31] at hres
      refine am_iload_n (pc' := 209) 2 dX12_next_208 rfl rfl rfl ?_
      refine am_iconst (pc' := 210) (v := 3) dX12_next_209 kc_3 rfl ?_
      refine am_isub (pc' := 211) dX12_next_210 rfl ?_
      refine am_put (pc' := 214) (ws' := (sx_w S0 (sm_w (um_value (um_token S (3 : Int32)) (q23 - (3 : Int32)))))) (v := .int (q23 - (3 : Int32))) dX12_next_211 fp_X12_116 (sm_c45 S0 (um_token S (3 : Int32))) (fun _ => ⟨rfl, rfl⟩) (Nat.le_of_ble_eq_true rfl) (sm_p_value S0 (um_token S (3 : Int32)) _) rfl ?_
      refine am_goto 403 dX12_next_214 rfl ?_
      obtain rfl := Option.some.inj hres
      exact am_vret dX12_next_403 rfl rfl rfl
    · rw [if_neg hc31] at hres
      refine am_iload_n (pc' := 205) 2 dX12_next_204 rfl rfl rfl ?_
      refine am_goto 211 dX12_next_205 rfl ?_
      refine am_put (pc' := 214) (ws' := (sx_w S0 (sm_w (um_value (um_token S (3 : Int32)) q23)))) (v := .int q23) dX12_next_211 fp_X12_116 (sm_c45 S0 (um_token S (3 : Int32))) (fun _ => ⟨rfl, rfl⟩) (Nat.le_of_ble_eq_true rfl) (sm_p_value S0 (um_token S (3 : Int32)) _) rfl ?_
      refine am_goto 403 dX12_next_214 rfl ?_
      obtain rfl := Option.some.inj hres
      exact am_vret dX12_next_403 rfl rfl rfl

set_option maxRecDepth 100000 in
set_option maxHeartbeats 4000000 in
theorem wx_X12_next_103 (S0 : sx_T) : ∀ (n : Nat) (S : sm_T) (res : sm_T) (hres : fx_X12_next_103 n S = some res), am_G mX12_next (none, 1, 0, 0, none, (sx_w S0 (sm_w res))) (0, 0) 103 [some (.ref 45), none, none] [] (sx_w S0 (sm_w S)) := by
  intro n
  induction n with
  | zero =>
    intro S res hres
    cases hres
  | succ n ih =>
    intro S res hres
    rw [fx_X12_next_103] at hres
    refine am_aload_n (pc' := 104) 0 dX12_next_103 rfl rfl rfl ?_
    refine am_get (pc' := 107) (v := .int (sm_at S)) dX12_next_104 fl_X12_107 (sm_c45 S0 S) rfl rfl ?_
    refine am_aload_n (pc' := 108) 0 dX12_next_107 rfl rfl rfl ?_
    refine am_get (pc' := 111) (v := .int (sm_taped S)) dX12_next_108 fl_X12_80 (sm_c45 S0 S) rfl rfl ?_
    refine am_icmp_ge (pc' := 114) 146 dX12_next_111 rfl rfl (fun hc22 => ?_) (fun hc22 => ?_)
    · rw [if_pos hc22] at hres
      exact wx_X12_next_146 S0 _ _ hres
    · rw [if_neg hc22] at hres
      refine am_aload_n (pc' := 115) 0 dX12_next_114 rfl rfl rfl ?_
      refine am_get (pc' := 118) (v := .ref 50) dX12_next_115 fl_X12_26 (sm_c45 S0 S) rfl rfl ?_
      refine am_aload_n (pc' := 119) 0 dX12_next_118 rfl rfl rfl ?_
      refine am_get (pc' := 122) (v := .int (sm_at S)) dX12_next_119 fl_X12_107 (sm_c45 S0 S) rfl rfl ?_
      obtain ⟨hr32, hres⟩ := am_rg hres
      refine am_iald (pc' := 123) (f := (sm_tape S)) dX12_next_122 (sm_c50 S0 S) hr32 rfl ?_
      refine am_bipush (pc' := 125) (v := 97) dX12_next_123 kb_97 rfl ?_
      refine am_bipush (pc' := 127) (v := 122) dX12_next_125 kb_122 rfl ?_
      refine am_cS (pc' := 130) (st' := [.int (fx_X12_in ((sm_tape S) (sm_at S).toNatClampNeg) (97 : Int32) (122 : Int32))]) [] [.int ((sm_tape S) (sm_at S).toNatClampNeg), .int (97 : Int32), .int (122 : Int32)] dX12_next_127 cs_X12_90 (tx_X12_in (sx_w S0 (sm_w S)) ((sm_tape S) (sm_at S).toNatClampNeg) (97 : Int32) (122 : Int32) _ rfl) rfl rfl rfl rfl rfl rfl ?_
      refine am_if_eq (pc' := 133) 146 dX12_next_130 rfl rfl (fun hc33 => ?_) (fun hc33 => ?_)
      · rw [if_pos hc33] at hres
        exact wx_X12_next_146 S0 _ _ hres
      · rw [if_neg hc33] at hres
        refine am_aload_n (pc' := 134) 0 dX12_next_133 rfl rfl rfl ?_
        refine am_dupa (pc' := 135) dX12_next_134 rfl ?_
        refine am_get (pc' := 138) (v := .int (sm_at S)) dX12_next_135 fl_X12_107 (sm_c45 S0 S) rfl rfl ?_
        refine am_iconst (pc' := 139) (v := 1) dX12_next_138 kc_1 rfl ?_
        refine am_iadd (pc' := 140) dX12_next_139 rfl ?_
        refine am_put (pc' := 143) (ws' := (sx_w S0 (sm_w (um_at S ((sm_at S) + (1 : Int32)))))) (v := .int ((sm_at S) + (1 : Int32))) dX12_next_140 fp_X12_107 (sm_c45 S0 S) (fun _ => ⟨rfl, rfl⟩) (Nat.le_of_ble_eq_true rfl) (sm_p_at S0 S _) rfl ?_
        refine am_goto 103 dX12_next_143 rfl ?_
        exact ih _ _ hres

set_option maxRecDepth 100000 in
set_option maxHeartbeats 4000000 in
theorem wx_X12_next_52 (S0 : sx_T) : ∀ (S : sm_T) (res : sm_T) (hres : fx_X12_next_52 S = some res), am_G mX12_next (none, 1, 0, 0, none, (sx_w S0 (sm_w res))) (0, 0) 52 [some (.ref 45), none, none] [] (sx_w S0 (sm_w S)) := by
  intro S res hres
  rw [fx_X12_next_52] at hres
  refine am_aload_n (pc' := 53) 0 dX12_next_52 rfl rfl rfl ?_
  refine am_aload_n (pc' := 54) 0 dX12_next_53 rfl rfl rfl ?_
  refine am_get (pc' := 57) (v := .int (sm_at S)) dX12_next_54 fl_X12_107 (sm_c45 S0 S) rfl rfl ?_
  refine am_put (pc' := 60) (ws' := (sx_w S0 (sm_w (um_begun S (sm_at S))))) (v := .int (sm_at S)) dX12_next_57 fp_X12_110 (sm_c45 S0 S) (fun _ => ⟨rfl, rfl⟩) (Nat.le_of_ble_eq_true rfl) (sm_p_begun S0 S _) rfl ?_
  refine am_aload_n (pc' := 61) 0 dX12_next_60 rfl rfl rfl ?_
  refine am_iconst (pc' := 62) (v := 0) dX12_next_61 kc_0 rfl ?_
  refine am_put (pc' := 65) (ws' := (sx_w S0 (sm_w (um_token (um_begun S (sm_at S)) (0 : Int32))))) (v := .int (0 : Int32)) dX12_next_62 fp_X12_113 (sm_c45 S0 (um_begun S (sm_at S))) (fun _ => ⟨rfl, rfl⟩) (Nat.le_of_ble_eq_true rfl) (sm_p_token S0 (um_begun S (sm_at S)) _) rfl ?_
  refine am_aload_n (pc' := 66) 0 dX12_next_65 rfl rfl rfl ?_
  refine am_iconst (pc' := 67) (v := 0) dX12_next_66 kc_0 rfl ?_
  refine am_put (pc' := 70) (ws' := (sx_w S0 (sm_w (um_value (um_token (um_begun S (sm_at S)) (0 : Int32)) (0 : Int32))))) (v := .int (0 : Int32)) dX12_next_67 fp_X12_116 (sm_c45 S0 (um_token (um_begun S (sm_at S)) (0 : Int32))) (fun _ => ⟨rfl, rfl⟩) (Nat.le_of_ble_eq_true rfl) (sm_p_value S0 (um_token (um_begun S (sm_at S)) (0 : Int32)) _) rfl ?_
  refine am_aload_n (pc' := 71) 0 dX12_next_70 rfl rfl rfl ?_
  refine am_get (pc' := 74) (v := .int (sm_at S)) dX12_next_71 fl_X12_107 (sm_c45 S0 (um_value (um_token (um_begun S (sm_at S)) (0 : Int32)) (0 : Int32))) rfl rfl ?_
  refine am_aload_n (pc' := 75) 0 dX12_next_74 rfl rfl rfl ?_
  refine am_get (pc' := 78) (v := .int (sm_taped S)) dX12_next_75 fl_X12_80 (sm_c45 S0 (um_value (um_token (um_begun S (sm_at S)) (0 : Int32)) (0 : Int32))) rfl rfl ?_
  refine am_icmp_ne (pc' := 81) 82 dX12_next_78 rfl rfl (fun hc2 => ?_) (fun hc2 => ?_)
  · rw [if_neg hc2] at hres
    refine am_aload_n (pc' := 83) 0 dX12_next_82 rfl rfl rfl ?_
    refine am_get (pc' := 86) (v := .ref 50) dX12_next_83 fl_X12_26 (sm_c45 S0 (um_value (um_token (um_begun S (sm_at S)) (0 : Int32)) (0 : Int32))) rfl rfl ?_
    refine am_aload_n (pc' := 87) 0 dX12_next_86 rfl rfl rfl ?_
    refine am_get (pc' := 90) (v := .int (sm_at S)) dX12_next_87 fl_X12_107 (sm_c45 S0 (um_value (um_token (um_begun S (sm_at S)) (0 : Int32)) (0 : Int32))) rfl rfl ?_
    obtain ⟨hr3, hres⟩ := am_rg hres
    refine am_iald (pc' := 91) (f := (sm_tape S)) dX12_next_90 (sm_c50 S0 (um_value (um_token (um_begun S (sm_at S)) (0 : Int32)) (0 : Int32))) hr3 rfl ?_
    refine am_istore_n (pc' := 92) (ls' := [some (.ref 45), some (.int ((sm_tape S) (sm_at S).toNatClampNeg)), none]) 1 dX12_next_91 rfl (Nat.le_of_ble_eq_true rfl) rfl rfl rfl ?_
    refine am_iload_n (pc' := 93) 1 dX12_next_92 rfl rfl rfl ?_
    refine am_bipush (pc' := 95) (v := 97) dX12_next_93 kb_97 rfl ?_
    refine am_bipush (pc' := 97) (v := 122) dX12_next_95 kb_122 rfl ?_
    refine am_cS (pc' := 100) (st' := [.int (fx_X12_in ((sm_tape S) (sm_at S).toNatClampNeg) (97 : Int32) (122 : Int32))]) [] [.int ((sm_tape S) (sm_at S).toNatClampNeg), .int (97 : Int32), .int (122 : Int32)] dX12_next_97 cs_X12_90 (tx_X12_in (sx_w S0 (sm_w (um_value (um_token (um_begun S (sm_at S)) (0 : Int32)) (0 : Int32)))) ((sm_tape S) (sm_at S).toNatClampNeg) (97 : Int32) (122 : Int32) _ rfl) rfl rfl rfl rfl rfl rfl ?_
    refine am_if_eq (pc' := 103) 217 dX12_next_100 rfl rfl (fun hc4 => ?_) (fun hc4 => ?_)
    · rw [if_pos hc4] at hres
      refine am_iload_n (pc' := 218) 1 dX12_next_217 rfl rfl rfl ?_
      refine am_bipush (pc' := 220) (v := 48) dX12_next_218 kb_48 rfl ?_
      refine am_bipush (pc' := 222) (v := 57) dX12_next_220 kb_57 rfl ?_
      refine am_cS (pc' := 225) (st' := [.int (fx_X12_in ((sm_tape S) (sm_at S).toNatClampNeg) (48 : Int32) (57 : Int32))]) [] [.int ((sm_tape S) (sm_at S).toNatClampNeg), .int (48 : Int32), .int (57 : Int32)] dX12_next_222 cs_X12_90 (tx_X12_in (sx_w S0 (sm_w (um_value (um_token (um_begun S (sm_at S)) (0 : Int32)) (0 : Int32)))) ((sm_tape S) (sm_at S).toNatClampNeg) (48 : Int32) (57 : Int32) _ rfl) rfl rfl rfl rfl rfl rfl ?_
      refine am_if_eq (pc' := 228) 326 dX12_next_225 rfl rfl (fun hc5 => ?_) (fun hc5 => ?_)
      · rw [if_pos hc5] at hres
        refine am_iload_n (pc' := 327) 1 dX12_next_326 rfl rfl rfl ?_
        refine am_bipush (pc' := 329) (v := 40) dX12_next_327 kb_40 rfl ?_
        refine am_icmp_eq (pc' := 332) 374 dX12_next_329 rfl rfl (fun hc6 => ?_) (fun hc6 => ?_)
        · rw [if_pos hc6] at hres
          exact wx_X12_next_374 S0 _ _ _ hres
        · rw [if_neg hc6] at hres
          refine am_iload_n (pc' := 333) 1 dX12_next_332 rfl rfl rfl ?_
          refine am_bipush (pc' := 335) (v := 41) dX12_next_333 kb_41 rfl ?_
          refine am_icmp_eq (pc' := 338) 374 dX12_next_335 rfl rfl (fun hc8 => ?_) (fun hc8 => ?_)
          · rw [if_pos hc8] at hres
            exact wx_X12_next_374 S0 _ _ _ hres
          · rw [if_neg hc8] at hres
            refine am_iload_n (pc' := 339) 1 dX12_next_338 rfl rfl rfl ?_
            refine am_bipush (pc' := 341) (v := 59) dX12_next_339 kb_59 rfl ?_
            refine am_icmp_eq (pc' := 344) 374 dX12_next_341 rfl rfl (fun hc9 => ?_) (fun hc9 => ?_)
            · rw [if_pos hc9] at hres
              exact wx_X12_next_374 S0 _ _ _ hres
            · rw [if_neg hc9] at hres
              refine am_iload_n (pc' := 345) 1 dX12_next_344 rfl rfl rfl ?_
              refine am_bipush (pc' := 347) (v := 43) dX12_next_345 kb_43 rfl ?_
              refine am_icmp_eq (pc' := 350) 374 dX12_next_347 rfl rfl (fun hc10 => ?_) (fun hc10 => ?_)
              · rw [if_pos hc10] at hres
                exact wx_X12_next_374 S0 _ _ _ hres
              · rw [if_neg hc10] at hres
                refine am_iload_n (pc' := 351) 1 dX12_next_350 rfl rfl rfl ?_
                refine am_bipush (pc' := 353) (v := 45) dX12_next_351 kb_45 rfl ?_
                refine am_icmp_eq (pc' := 356) 374 dX12_next_353 rfl rfl (fun hc11 => ?_) (fun hc11 => ?_)
                · rw [if_pos hc11] at hres
                  exact wx_X12_next_374 S0 _ _ _ hres
                · rw [if_neg hc11] at hres
                  refine am_iload_n (pc' := 357) 1 dX12_next_356 rfl rfl rfl ?_
                  refine am_bipush (pc' := 359) (v := 42) dX12_next_357 kb_42 rfl ?_
                  refine am_icmp_eq (pc' := 362) 374 dX12_next_359 rfl rfl (fun hc12 => ?_) (fun hc12 => ?_)
                  · rw [if_pos hc12] at hres
                    exact wx_X12_next_374 S0 _ _ _ hres
                  · rw [if_neg hc12] at hres
                    refine am_iload_n (pc' := 363) 1 dX12_next_362 rfl rfl rfl ?_
                    refine am_bipush (pc' := 365) (v := 60) dX12_next_363 kb_60 rfl ?_
                    refine am_icmp_eq (pc' := 368) 374 dX12_next_365 rfl rfl (fun hc13 => ?_) (fun hc13 => ?_)
                    · rw [if_pos hc13] at hres
                      exact wx_X12_next_374 S0 _ _ _ hres
                    · rw [if_neg hc13] at hres
                      refine am_iload_n (pc' := 369) 1 dX12_next_368 rfl rfl rfl ?_
                      refine am_bipush (pc' := 371) (v := 61) dX12_next_369 kb_61 rfl ?_
                      refine am_icmp_ne (pc' := 374) 378 dX12_next_371 rfl rfl (fun hc14 => ?_) (fun hc14 => ?_)
                      · rw [if_neg hc14] at hres
                        refine am_iconst (pc' := 379) (v := 0) dX12_next_378 kc_0 rfl ?_
                        exact wx_X12_next_379 S0 _ _ _ _ hres
                      · rw [if_pos hc14] at hres
                        exact wx_X12_next_374 S0 _ _ _ hres
      · rw [if_neg hc5] at hres
        refine am_iconst (pc' := 229) (v := 0) dX12_next_228 kc_0 rfl ?_
        refine am_istore_n (pc' := 230) (ls' := [some (.ref 45), some (.int ((sm_tape S) (sm_at S).toNatClampNeg)), some (.int (0 : Int32))]) 2 dX12_next_229 rfl (Nat.le_of_ble_eq_true rfl) rfl rfl rfl ?_
        refine am_weak (ls' := [some (.ref 45), none, some (.int (0 : Int32))]) [false, true, false] rfl ?_
        exact wx_X12_next_230 S0 am_fu _ _ _ hres
    · rw [if_neg hc4] at hres
      refine am_weak (ls' := [some (.ref 45), none, none]) [false, true, false] rfl ?_
      exact wx_X12_next_103 S0 am_fu _ _ hres
  · rw [if_pos hc2] at hres
    obtain rfl := Option.some.inj hres
    exact am_vret dX12_next_81 rfl rfl rfl

set_option maxRecDepth 100000 in
set_option maxHeartbeats 4000000 in
theorem wx_X12_next_0 (S0 : sx_T) : ∀ (n : Nat) (S : sm_T) (res : sm_T) (hres : fx_X12_next_0 n S = some res), am_G mX12_next (none, 1, 0, 0, none, (sx_w S0 (sm_w res))) (0, 0) 0 [some (.ref 45), none, none] [] (sx_w S0 (sm_w S)) := by
  intro n
  induction n with
  | zero =>
    intro S res hres
    cases hres
  | succ n ih =>
    intro S res hres
    rw [fx_X12_next_0] at hres
    refine am_aload_n (pc' := 1) 0 dX12_next_0 rfl rfl rfl ?_
    refine am_get (pc' := 4) (v := .int (sm_at S)) dX12_next_1 fl_X12_107 (sm_c45 S0 S) rfl rfl ?_
    refine am_aload_n (pc' := 5) 0 dX12_next_4 rfl rfl rfl ?_
    refine am_get (pc' := 8) (v := .int (sm_taped S)) dX12_next_5 fl_X12_80 (sm_c45 S0 S) rfl rfl ?_
    refine am_icmp_ge (pc' := 11) 52 dX12_next_8 rfl rfl (fun hc1 => ?_) (fun hc1 => ?_)
    · rw [if_pos hc1] at hres
      exact wx_X12_next_52 S0 _ _ hres
    · rw [if_neg hc1] at hres
      refine am_aload_n (pc' := 12) 0 dX12_next_11 rfl rfl rfl ?_
      refine am_get (pc' := 15) (v := .ref 50) dX12_next_12 fl_X12_26 (sm_c45 S0 S) rfl rfl ?_
      refine am_aload_n (pc' := 16) 0 dX12_next_15 rfl rfl rfl ?_
      refine am_get (pc' := 19) (v := .int (sm_at S)) dX12_next_16 fl_X12_107 (sm_c45 S0 S) rfl rfl ?_
      obtain ⟨hr34, hres⟩ := am_rg hres
      refine am_iald (pc' := 20) (f := (sm_tape S)) dX12_next_19 (sm_c50 S0 S) hr34 rfl ?_
      refine am_bipush (pc' := 22) (v := 32) dX12_next_20 kb_32 rfl ?_
      refine am_icmp_eq (pc' := 25) 39 dX12_next_22 rfl rfl (fun hc35 => ?_) (fun hc35 => ?_)
      · rw [if_pos hc35] at hres
        refine am_aload_n (pc' := 40) 0 dX12_next_39 rfl rfl rfl ?_
        refine am_dupa (pc' := 41) dX12_next_40 rfl ?_
        refine am_get (pc' := 44) (v := .int (sm_at S)) dX12_next_41 fl_X12_107 (sm_c45 S0 S) rfl rfl ?_
        refine am_iconst (pc' := 45) (v := 1) dX12_next_44 kc_1 rfl ?_
        refine am_iadd (pc' := 46) dX12_next_45 rfl ?_
        refine am_put (pc' := 49) (ws' := (sx_w S0 (sm_w (um_at S ((sm_at S) + (1 : Int32)))))) (v := .int ((sm_at S) + (1 : Int32))) dX12_next_46 fp_X12_107 (sm_c45 S0 S) (fun _ => ⟨rfl, rfl⟩) (Nat.le_of_ble_eq_true rfl) (sm_p_at S0 S _) rfl ?_
        refine am_goto 0 dX12_next_49 rfl ?_
        exact ih _ _ hres
      · rw [if_neg hc35] at hres
        refine am_aload_n (pc' := 26) 0 dX12_next_25 rfl rfl rfl ?_
        refine am_get (pc' := 29) (v := .ref 50) dX12_next_26 fl_X12_26 (sm_c45 S0 S) rfl rfl ?_
        refine am_aload_n (pc' := 30) 0 dX12_next_29 rfl rfl rfl ?_
        refine am_get (pc' := 33) (v := .int (sm_at S)) dX12_next_30 fl_X12_107 (sm_c45 S0 S) rfl rfl ?_
        obtain ⟨hr36, hres⟩ := am_rg hres
        refine am_iald (pc' := 34) (f := (sm_tape S)) dX12_next_33 (sm_c50 S0 S) hr36 rfl ?_
        refine am_bipush (pc' := 36) (v := 10) dX12_next_34 kb_10 rfl ?_
        refine am_icmp_ne (pc' := 39) 52 dX12_next_36 rfl rfl (fun hc37 => ?_) (fun hc37 => ?_)
        · rw [if_neg hc37] at hres
          exact wx_X12_next_52 S0 _ _ hres
        · rw [if_pos hc37] at hres
          refine am_aload_n (pc' := 40) 0 dX12_next_39 rfl rfl rfl ?_
          refine am_dupa (pc' := 41) dX12_next_40 rfl ?_
          refine am_get (pc' := 44) (v := .int (sm_at S)) dX12_next_41 fl_X12_107 (sm_c45 S0 S) rfl rfl ?_
          refine am_iconst (pc' := 45) (v := 1) dX12_next_44 kc_1 rfl ?_
          refine am_iadd (pc' := 46) dX12_next_45 rfl ?_
          refine am_put (pc' := 49) (ws' := (sx_w S0 (sm_w (um_at S ((sm_at S) + (1 : Int32)))))) (v := .int ((sm_at S) + (1 : Int32))) dX12_next_46 fp_X12_107 (sm_c45 S0 S) (fun _ => ⟨rfl, rfl⟩) (Nat.le_of_ble_eq_true rfl) (sm_p_at S0 S _) rfl ?_
          refine am_goto 0 dX12_next_49 rfl ?_
          exact ih _ _ hres

set_option maxRecDepth 100000 in
set_option maxHeartbeats 4000000 in
theorem tx_X12_next (S0 : sx_T) (S : sm_T) (res : sm_T) (hres : fx_X12_next S = some res) : am_T mX12_next 1 0 0 [.ref 45] (sx_w S0 (sm_w S)) none (sx_w S0 (sm_w res)) := by
  refine am_meth (ls := [some (.ref 45), none, none]) (by decide +kernel) rfl (Nat.le_of_ble_eq_true rfl) (sm_len _ _ _ _) ?_
  rw [fx_X12_next] at hres
  exact wx_X12_next_0 S0 am_fu _ _ hres
set_option maxRecDepth 100000 in
set_option maxHeartbeats 4000000 in
theorem tx_X12_opensOne (S0 : sx_T) (a1 : Int32) (S : sm_T) (res : Int32 × sm_T) (hres : fx_X12_opensOne a1 S = some res) : am_T mX12_opensOne 1 0 0 [.ref 45, .int a1] (sx_w S0 (sm_w S)) (some (.int res.1)) (sx_w S0 (sm_w res.2)) := by
  refine am_meth (ls := [some (.ref 45), some (.int a1)]) (by decide +kernel) rfl (Nat.le_of_ble_eq_true rfl) (sm_len _ _ _ _) ?_
  rw [fx_X12_opensOne] at hres
  refine am_aload_n (pc' := 1) 0 dX12_opensOne_0 rfl rfl rfl ?_
  refine am_get (pc' := 4) (v := .int (sm_opens S)) dX12_opensOne_1 fl_X12_133 (sm_c45 S0 S) rfl rfl ?_
  refine am_iconst (pc' := 5) (v := 5) dX12_opensOne_4 kc_5 rfl ?_
  refine am_icmp_ne (pc' := 8) 10 dX12_opensOne_5 rfl rfl (fun hc1 => ?_) (fun hc1 => ?_)
  · rw [if_neg hc1] at hres
    refine am_aload_n (pc' := 11) 0 dX12_opensOne_10 rfl rfl rfl ?_
    refine am_dupa (pc' := 12) dX12_opensOne_11 rfl ?_
    refine am_get (pc' := 15) (v := .int (sm_opens S)) dX12_opensOne_12 fl_X12_133 (sm_c45 S0 S) rfl rfl ?_
    refine am_iconst (pc' := 16) (v := 1) dX12_opensOne_15 kc_1 rfl ?_
    refine am_iadd (pc' := 17) dX12_opensOne_16 rfl ?_
    refine am_put (pc' := 20) (ws' := (sx_w S0 (sm_w (um_opens S ((sm_opens S) + (1 : Int32)))))) (v := .int ((sm_opens S) + (1 : Int32))) dX12_opensOne_17 fp_X12_133 (sm_c45 S0 S) (fun _ => ⟨rfl, rfl⟩) (Nat.le_of_ble_eq_true rfl) (sm_p_opens S0 S _) rfl ?_
    refine am_aload_n (pc' := 21) 0 dX12_opensOne_20 rfl rfl rfl ?_
    refine am_iload_n (pc' := 22) 1 dX12_opensOne_21 rfl rfl rfl ?_
    obtain ⟨q2, hq3, hres⟩ := am_bd_s hres
    refine am_cV (pc' := 25) (st' := []) [] [.int a1] dX12_opensOne_22 cs_X12_140 (tx_X12_holds S0 a1 (um_opens S ((sm_opens S) + (1 : Int32))) _ hq3) rfl rfl rfl (sm_c45 S0 (um_opens S ((sm_opens S) + (1 : Int32)))) rfl rfl rfl rfl rfl ?_
    refine am_iconst (pc' := 26) (v := 1) dX12_opensOne_25 kc_1 rfl ?_
    obtain rfl := Option.some.inj hres
    exact am_zret dX12_opensOne_26 rfl rfl rfl rfl
  · rw [if_pos hc1] at hres
    refine am_iconst (pc' := 9) (v := 0) dX12_opensOne_8 kc_0 rfl ?_
    obtain rfl := Option.some.inj hres
    exact am_zret dX12_opensOne_9 rfl rfl rfl rfl
set_option maxRecDepth 100000 in
set_option maxHeartbeats 4000000 in
theorem tx_X12_signOf (S0 : sx_T) (S : sm_T) (res : Int32) (hres : fx_X12_signOf S = res) : am_T mX12_signOf 0 0 0 [.ref 45] (sx_w S0 (sm_w S)) (some (.int res)) (sx_w S0 (sm_w S)) := by
  refine am_meth (ls := [some (.ref 45)]) (by decide +kernel) rfl (Nat.le_of_ble_eq_true rfl) (sm_len _ _ _ _) ?_
  rw [fx_X12_signOf] at hres
  refine am_aload_n (pc' := 1) 0 dX12_signOf_0 rfl rfl rfl ?_
  refine am_get (pc' := 4) (v := .int (sm_token S)) dX12_signOf_1 fl_X12_113 (sm_c45 S0 S) rfl rfl ?_
  refine am_iconst (pc' := 5) (v := 4) dX12_signOf_4 kc_4 rfl ?_
  refine am_icmp_ne (pc' := 8) 13 dX12_signOf_5 rfl rfl (fun hc1 => ?_) (fun hc1 => ?_)
  · rw [if_neg hc1] at hres
    refine am_aload_n (pc' := 14) 0 dX12_signOf_13 rfl rfl rfl ?_
    refine am_get (pc' := 17) (v := .int (sm_token S)) dX12_signOf_14 fl_X12_113 (sm_c45 S0 S) rfl rfl ?_
    refine am_iconst (pc' := 18) (v := 5) dX12_signOf_17 kc_5 rfl ?_
    refine am_icmp_ne (pc' := 21) 26 dX12_signOf_18 rfl rfl (fun hc2 => ?_) (fun hc2 => ?_)
    · rw [if_neg hc2] at hres
      refine am_aload_n (pc' := 27) 0 dX12_signOf_26 rfl rfl rfl ?_
      refine am_get (pc' := 30) (v := .int (sm_token S)) dX12_signOf_27 fl_X12_113 (sm_c45 S0 S) rfl rfl ?_
      refine am_bipush (pc' := 32) (v := 60) dX12_signOf_30 kb_60 rfl ?_
      refine am_icmp_ne (pc' := 35) 40 dX12_signOf_32 rfl rfl (fun hc3 => ?_) (fun hc3 => ?_)
      · rw [if_neg hc3] at hres
        refine am_aload_n (pc' := 41) 0 dX12_signOf_40 rfl rfl rfl ?_
        refine am_get (pc' := 44) (v := .int (sm_token S)) dX12_signOf_41 fl_X12_113 (sm_c45 S0 S) rfl rfl ?_
        refine am_bipush (pc' := 46) (v := 61) dX12_signOf_44 kb_61 rfl ?_
        refine am_icmp_ne (pc' := 49) 54 dX12_signOf_46 rfl rfl (fun hc4 => ?_) (fun hc4 => ?_)
        · rw [if_neg hc4] at hres
          refine am_aload_n (pc' := 55) 0 dX12_signOf_54 rfl rfl rfl ?_
          refine am_get (pc' := 58) (v := .int (sm_token S)) dX12_signOf_55 fl_X12_113 (sm_c45 S0 S) rfl rfl ?_
          refine am_bipush (pc' := 60) (v := 43) dX12_signOf_58 kb_43 rfl ?_
          refine am_icmp_ne (pc' := 63) 68 dX12_signOf_60 rfl rfl (fun hc5 => ?_) (fun hc5 => ?_)
          · rw [if_neg hc5] at hres
            refine am_aload_n (pc' := 69) 0 dX12_signOf_68 rfl rfl rfl ?_
            refine am_get (pc' := 72) (v := .int (sm_token S)) dX12_signOf_69 fl_X12_113 (sm_c45 S0 S) rfl rfl ?_
            refine am_bipush (pc' := 74) (v := 45) dX12_signOf_72 kb_45 rfl ?_
            refine am_icmp_ne (pc' := 77) 82 dX12_signOf_74 rfl rfl (fun hc6 => ?_) (fun hc6 => ?_)
            · rw [if_neg hc6] at hres
              refine am_aload_n (pc' := 83) 0 dX12_signOf_82 rfl rfl rfl ?_
              refine am_get (pc' := 86) (v := .int (sm_token S)) dX12_signOf_83 fl_X12_113 (sm_c45 S0 S) rfl rfl ?_
              refine am_bipush (pc' := 88) (v := 42) dX12_signOf_86 kb_42 rfl ?_
              refine am_icmp_ne (pc' := 91) 96 dX12_signOf_88 rfl rfl (fun hc7 => ?_) (fun hc7 => ?_)
              · rw [if_neg hc7] at hres
                refine am_iconst (pc' := 97) (v := (-1)) dX12_signOf_96 kc_m1 rfl ?_
                subst hres
                exact am_iret dX12_signOf_97 rfl rfl rfl
              · rw [if_pos hc7] at hres
                refine am_bipush (pc' := 93) (v := 18) dX12_signOf_91 kb_18 rfl ?_
                refine am_goto 97 dX12_signOf_93 rfl ?_
                subst hres
                exact am_iret dX12_signOf_97 rfl rfl rfl
            · rw [if_pos hc6] at hres
              refine am_bipush (pc' := 79) (v := 17) dX12_signOf_77 kb_17 rfl ?_
              refine am_goto 97 dX12_signOf_79 rfl ?_
              subst hres
              exact am_iret dX12_signOf_97 rfl rfl rfl
          · rw [if_pos hc5] at hres
            refine am_bipush (pc' := 65) (v := 16) dX12_signOf_63 kb_16 rfl ?_
            refine am_goto 97 dX12_signOf_65 rfl ?_
            subst hres
            exact am_iret dX12_signOf_97 rfl rfl rfl
        · rw [if_pos hc4] at hres
          refine am_bipush (pc' := 51) (v := 15) dX12_signOf_49 kb_15 rfl ?_
          refine am_goto 97 dX12_signOf_51 rfl ?_
          subst hres
          exact am_iret dX12_signOf_97 rfl rfl rfl
      · rw [if_pos hc3] at hres
        refine am_bipush (pc' := 37) (v := 14) dX12_signOf_35 kb_14 rfl ?_
        refine am_goto 97 dX12_signOf_37 rfl ?_
        subst hres
        exact am_iret dX12_signOf_97 rfl rfl rfl
    · rw [if_pos hc2] at hres
      refine am_bipush (pc' := 23) (v := 12) dX12_signOf_21 kb_12 rfl ?_
      refine am_goto 97 dX12_signOf_23 rfl ?_
      subst hres
      exact am_iret dX12_signOf_97 rfl rfl rfl
  · rw [if_pos hc1] at hres
    refine am_bipush (pc' := 10) (v := 11) dX12_signOf_8 kb_11 rfl ?_
    refine am_goto 97 dX12_signOf_10 rfl ?_
    subst hres
    exact am_iret dX12_signOf_97 rfl rfl rfl
set_option maxRecDepth 100000 in
set_option maxHeartbeats 4000000 in
theorem wx_X12_eRead_38 (S0 : sx_T) (k14 : Int32 → Int32 → sm_T → Option (Int32 × sm_T)) (hk14 : ∀ (v1 : Int32) (v2 : Int32) (S : sm_T) (res : Int32 × sm_T), k14 v1 v2 S = some res → am_G mX12_eRead (none, 3, 0, 0, (some (.int res.1)), (sx_w S0 (sm_w res.2))) (0, 0) 14 [some (.ref 45), some (.int v1), some (.int v2), none] [] (sx_w S0 (sm_w S))) : ∀ (v2 : Int32) (S : sm_T) (res : Int32 × sm_T) (hres : fx_X12_eRead_38 k14 v2 S = some res), am_G mX12_eRead (none, 3, 0, 0, (some (.int res.1)), (sx_w S0 (sm_w res.2))) (0, 0) 38 [some (.ref 45), none, some (.int v2), none] [] (sx_w S0 (sm_w S)) := by
  intro v2 S res hres
  rw [fx_X12_eRead_38] at hres
  refine am_aload_n (pc' := 39) 0 dX12_eRead_38 rfl rfl rfl ?_
  refine am_aload_n (pc' := 40) 0 dX12_eRead_39 rfl rfl rfl ?_
  refine am_get (pc' := 43) (v := .int (sm_token S)) dX12_eRead_40 fl_X12_113 (sm_c45 S0 S) rfl rfl ?_
  refine am_iconst (pc' := 44) (v := 1) dX12_eRead_43 kc_1 rfl ?_
  refine am_icmp_ne (pc' := 47) 57 dX12_eRead_44 rfl rfl (fun hc20 => ?_) (fun hc20 => ?_)
  · rw [if_neg hc20] at hres
    refine am_aload_n (pc' := 58) 0 dX12_eRead_57 rfl rfl rfl ?_
    refine am_get (pc' := 61) (v := .int (sm_value S)) dX12_eRead_58 fl_X12_116 (sm_c45 S0 S) rfl rfl ?_
    obtain ⟨q21, hq22, hres⟩ := am_bd_s hres
    refine am_cV (pc' := 64) (st' := []) [] [.int (sm_value S)] dX12_eRead_61 cs_X12_136 (tx_X12_puts S0 (sm_value S) S _ hq22) rfl rfl rfl (sm_c45 S0 S) rfl rfl rfl rfl rfl ?_
    refine am_aload_n (pc' := 65) 0 dX12_eRead_64 rfl rfl rfl ?_
    refine am_bipush (pc' := 67) (v := 7) dX12_eRead_65 kb_7 rfl ?_
    obtain ⟨q23, hq24, hres⟩ := am_bd_s hres
    refine am_cV (pc' := 70) (st' := []) [] [.int (7 : Int32)] dX12_eRead_67 cs_X12_143 (tx_X12_unwinds S0 (7 : Int32) q21 _ hq24) rfl rfl rfl (sm_c45 S0 q21) rfl rfl rfl rfl rfl ?_
    refine am_iconst (pc' := 71) (v := 0) dX12_eRead_70 kc_0 rfl ?_
    refine am_istore_n (pc' := 72) (ls' := [some (.ref 45), some (.int (0 : Int32)), some (.int v2), none]) 1 dX12_eRead_71 rfl (Nat.le_of_ble_eq_true rfl) rfl rfl rfl ?_
    refine am_goto 14 dX12_eRead_72 rfl ?_
    exact hk14 _ _ _ _ hres
  · rw [if_pos hc20] at hres
    refine am_ldc (pc' := 49) dX12_eRead_47 ck_X12_149 rfl ?_
    refine am_aload_n (pc' := 50) 0 dX12_eRead_49 rfl rfl rfl ?_
    refine am_get (pc' := 53) (v := .int (sm_value S)) dX12_eRead_50 fl_X12_116 (sm_c45 S0 S) rfl rfl ?_
    refine am_iadd (pc' := 54) dX12_eRead_53 rfl ?_
    refine am_goto 61 dX12_eRead_54 rfl ?_
    obtain ⟨q25, hq26, hres⟩ := am_bd_s hres
    refine am_cV (pc' := 64) (st' := []) [] [.int ((100000 : Int32) + (sm_value S))] dX12_eRead_61 cs_X12_136 (tx_X12_puts S0 ((100000 : Int32) + (sm_value S)) S _ hq26) rfl rfl rfl (sm_c45 S0 S) rfl rfl rfl rfl rfl ?_
    refine am_aload_n (pc' := 65) 0 dX12_eRead_64 rfl rfl rfl ?_
    refine am_bipush (pc' := 67) (v := 7) dX12_eRead_65 kb_7 rfl ?_
    obtain ⟨q27, hq28, hres⟩ := am_bd_s hres
    refine am_cV (pc' := 70) (st' := []) [] [.int (7 : Int32)] dX12_eRead_67 cs_X12_143 (tx_X12_unwinds S0 (7 : Int32) q25 _ hq28) rfl rfl rfl (sm_c45 S0 q25) rfl rfl rfl rfl rfl ?_
    refine am_iconst (pc' := 71) (v := 0) dX12_eRead_70 kc_0 rfl ?_
    refine am_istore_n (pc' := 72) (ls' := [some (.ref 45), some (.int (0 : Int32)), some (.int v2), none]) 1 dX12_eRead_71 rfl (Nat.le_of_ble_eq_true rfl) rfl rfl rfl ?_
    refine am_goto 14 dX12_eRead_72 rfl ?_
    exact hk14 _ _ _ _ hres

set_option maxRecDepth 100000 in
set_option maxHeartbeats 4000000 in
theorem wx_X12_eRead_99 (S0 : sx_T) (k14 : Int32 → Int32 → sm_T → Option (Int32 × sm_T)) (hk14 : ∀ (v1 : Int32) (v2 : Int32) (S : sm_T) (res : Int32 × sm_T), k14 v1 v2 S = some res → am_G mX12_eRead (none, 3, 0, 0, (some (.int res.1)), (sx_w S0 (sm_w res.2))) (0, 0) 14 [some (.ref 45), some (.int v1), some (.int v2), none] [] (sx_w S0 (sm_w S))) : ∀ (v1 : Int32) (S : sm_T) (res : Int32 × sm_T) (hres : fx_X12_eRead_99 k14 v1 S = some res), am_G mX12_eRead (none, 3, 0, 0, (some (.int res.1)), (sx_w S0 (sm_w res.2))) (0, 0) 99 [some (.ref 45), some (.int v1), none, none] [] (sx_w S0 (sm_w S)) := by
  intro v1 S res hres
  rw [fx_X12_eRead_99] at hres
  refine am_aload_n (pc' := 100) 0 dX12_eRead_99 rfl rfl rfl ?_
  refine am_get (pc' := 103) (v := .int (sm_token S)) dX12_eRead_100 fl_X12_113 (sm_c45 S0 S) rfl rfl ?_
  refine am_bipush (pc' := 105) (v := 45) dX12_eRead_103 kb_45 rfl ?_
  refine am_icmp_ne (pc' := 108) 124 dX12_eRead_105 rfl rfl (fun hc31 => ?_) (fun hc31 => ?_)
  · rw [if_neg hc31] at hres
    refine am_aload_n (pc' := 125) 0 dX12_eRead_124 rfl rfl rfl ?_
    refine am_get (pc' := 128) (v := .int (sm_token S)) dX12_eRead_125 fl_X12_113 (sm_c45 S0 S) rfl rfl ?_
    refine am_bipush (pc' := 130) (v := 40) dX12_eRead_128 kb_40 rfl ?_
    refine am_icmp_ne (pc' := 133) 148 dX12_eRead_130 rfl rfl (fun hc32 => ?_) (fun hc32 => ?_)
    · rw [if_neg hc32] at hres
      refine am_iconst (pc' := 149) (v := 0) dX12_eRead_148 kc_0 rfl ?_
      obtain rfl := Option.some.inj hres
      exact am_zret dX12_eRead_149 rfl rfl rfl rfl
    · rw [if_pos hc32] at hres
      refine am_aload_n (pc' := 134) 0 dX12_eRead_133 rfl rfl rfl ?_
      refine am_iconst (pc' := 135) (v := 0) dX12_eRead_134 kc_0 rfl ?_
      obtain ⟨q33, hq34, hres⟩ := am_bd_s hres
      refine am_cV (pc' := 138) (st' := [.int q33.1]) [] [.int (0 : Int32)] dX12_eRead_135 cs_X12_150 (tx_X12_opensOne S0 (0 : Int32) S _ hq34) rfl rfl rfl (sm_c45 S0 S) rfl rfl rfl rfl rfl ?_
      refine am_if_ne (pc' := 141) 143 dX12_eRead_138 rfl rfl (fun hc35 => ?_) (fun hc35 => ?_)
      · rw [if_neg hc35] at hres
        refine am_iconst (pc' := 144) (v := 1) dX12_eRead_143 kc_1 rfl ?_
        refine am_istore_n (pc' := 145) (ls' := [some (.ref 45), some (.int v1), some (.int (1 : Int32)), none]) 2 dX12_eRead_144 rfl (Nat.le_of_ble_eq_true rfl) rfl rfl rfl ?_
        refine am_goto 14 dX12_eRead_145 rfl ?_
        exact hk14 _ _ _ _ hres
      · rw [if_pos hc35] at hres
        refine am_iconst (pc' := 142) (v := 0) dX12_eRead_141 kc_0 rfl ?_
        obtain rfl := Option.some.inj hres
        exact am_zret dX12_eRead_142 rfl rfl rfl rfl
  · rw [if_pos hc31] at hres
    refine am_aload_n (pc' := 109) 0 dX12_eRead_108 rfl rfl rfl ?_
    refine am_bipush (pc' := 111) (v := 19) dX12_eRead_109 kb_19 rfl ?_
    obtain ⟨q36, hq37, hres⟩ := am_bd_s hres
    refine am_cV (pc' := 114) (st' := [.int q36.1]) [] [.int (19 : Int32)] dX12_eRead_111 cs_X12_150 (tx_X12_opensOne S0 (19 : Int32) S _ hq37) rfl rfl rfl (sm_c45 S0 S) rfl rfl rfl rfl rfl ?_
    refine am_if_ne (pc' := 117) 119 dX12_eRead_114 rfl rfl (fun hc38 => ?_) (fun hc38 => ?_)
    · rw [if_neg hc38] at hres
      refine am_iconst (pc' := 120) (v := 0) dX12_eRead_119 kc_0 rfl ?_
      refine am_istore_n (pc' := 121) (ls' := [some (.ref 45), some (.int v1), some (.int (0 : Int32)), none]) 2 dX12_eRead_120 rfl (Nat.le_of_ble_eq_true rfl) rfl rfl rfl ?_
      refine am_goto 14 dX12_eRead_121 rfl ?_
      exact hk14 _ _ _ _ hres
    · rw [if_pos hc38] at hres
      refine am_iconst (pc' := 118) (v := 0) dX12_eRead_117 kc_0 rfl ?_
      obtain rfl := Option.some.inj hres
      exact am_zret dX12_eRead_118 rfl rfl rfl rfl

set_option maxRecDepth 100000 in
set_option maxHeartbeats 4000000 in
theorem wx_X12_eRead_14 (S0 : sx_T) : ∀ (n : Nat) (v1 : Int32) (v2 : Int32) (S : sm_T) (res : Int32 × sm_T) (hres : fx_X12_eRead_14 n v1 v2 S = some res), am_G mX12_eRead (none, 3, 0, 0, (some (.int res.1)), (sx_w S0 (sm_w res.2))) (0, 0) 14 [some (.ref 45), some (.int v1), some (.int v2), none] [] (sx_w S0 (sm_w S)) := by
  intro n
  induction n with
  | zero =>
    intro v1 v2 S res hres
    cases hres
  | succ n ih =>
    intro v1 v2 S res hres
    rw [fx_X12_eRead_14] at hres
    refine am_aload_n (pc' := 15) 0 dX12_eRead_14 rfl rfl rfl ?_
    obtain ⟨q1, hq2, hres⟩ := am_bd_s hres
    refine am_cV (pc' := 18) (st' := []) [] [] dX12_eRead_15 cs_X12_146 (tx_X12_next S0 S _ hq2) rfl rfl rfl (sm_c45 S0 S) rfl rfl rfl rfl rfl ?_
    refine am_iload_n (pc' := 19) 1 dX12_eRead_18 rfl rfl rfl ?_
    refine am_if_eq (pc' := 22) 150 dX12_eRead_19 rfl rfl (fun hc3 => ?_) (fun hc3 => ?_)
    · rw [if_pos hc3] at hres
      refine am_aload_n (pc' := 151) 0 dX12_eRead_150 rfl rfl rfl ?_
      refine am_get (pc' := 154) (v := .int (sm_token q1)) dX12_eRead_151 fl_X12_113 (sm_c45 S0 q1) rfl rfl ?_
      refine am_bipush (pc' := 156) (v := 59) dX12_eRead_154 kb_59 rfl ?_
      refine am_icmp_ne (pc' := 159) 177 dX12_eRead_156 rfl rfl (fun hc4 => ?_) (fun hc4 => ?_)
      · rw [if_neg hc4] at hres
        refine am_aload_n (pc' := 178) 0 dX12_eRead_177 rfl rfl rfl ?_
        refine am_get (pc' := 181) (v := .int (sm_token q1)) dX12_eRead_178 fl_X12_113 (sm_c45 S0 q1) rfl rfl ?_
        refine am_bipush (pc' := 183) (v := 41) dX12_eRead_181 kb_41 rfl ?_
        refine am_icmp_ne (pc' := 186) 229 dX12_eRead_183 rfl rfl (fun hc5 => ?_) (fun hc5 => ?_)
        · rw [if_neg hc5] at hres
          refine am_aload_n (pc' := 230) 0 dX12_eRead_229 rfl rfl rfl ?_
          refine am_cV (pc' := 233) (st' := [.int (fx_X12_signOf q1)]) [] [] dX12_eRead_230 cs_X12_153 (tx_X12_signOf S0 q1 _ rfl) rfl rfl rfl (sm_c45 S0 q1) rfl rfl rfl rfl rfl ?_
          refine am_istore_n (pc' := 234) (ls' := [some (.ref 45), some (.int v1), some (.int v2), some (.int (fx_X12_signOf q1))]) 3 dX12_eRead_233 rfl (Nat.le_of_ble_eq_true rfl) rfl rfl rfl ?_
          refine am_iload_n (pc' := 235) 3 dX12_eRead_234 rfl rfl rfl ?_
          refine am_iconst (pc' := 236) (v := (-1)) dX12_eRead_235 kc_m1 rfl ?_
          refine am_icmp_eq (pc' := 239) 247 dX12_eRead_236 rfl rfl (fun hc6 => ?_) (fun hc6 => ?_)
          · rw [if_pos hc6] at hres
            refine am_iconst (pc' := 248) (v := 0) dX12_eRead_247 kc_0 rfl ?_
            obtain rfl := Option.some.inj hres
            exact am_zret dX12_eRead_248 rfl rfl rfl rfl
          · rw [if_neg hc6] at hres
            refine am_aload_n (pc' := 240) 0 dX12_eRead_239 rfl rfl rfl ?_
            refine am_iload_n (pc' := 241) 3 dX12_eRead_240 rfl rfl rfl ?_
            obtain ⟨q7, hq8, hres⟩ := am_bd_s hres
            refine am_cV (pc' := 244) (st' := [.int q7.1]) [] [.int (fx_X12_signOf q1)] dX12_eRead_241 cs_X12_156 (tx_X12_between S0 (fx_X12_signOf q1) q1 _ hq8) rfl rfl rfl (sm_c45 S0 q1) rfl rfl rfl rfl rfl ?_
            refine am_if_ne (pc' := 247) 249 dX12_eRead_244 rfl rfl (fun hc9 => ?_) (fun hc9 => ?_)
            · rw [if_neg hc9] at hres
              refine am_iconst (pc' := 250) (v := 1) dX12_eRead_249 kc_1 rfl ?_
              refine am_istore_n (pc' := 251) (ls' := [some (.ref 45), some (.int (1 : Int32)), some (.int v2), some (.int (fx_X12_signOf q1))]) 1 dX12_eRead_250 rfl (Nat.le_of_ble_eq_true rfl) rfl rfl rfl ?_
              refine am_iload_n (pc' := 252) 3 dX12_eRead_251 rfl rfl rfl ?_
              refine am_bipush (pc' := 254) (v := 12) dX12_eRead_252 kb_12 rfl ?_
              refine am_icmp_gt (pc' := 257) 261 dX12_eRead_254 rfl rfl (fun hc10 => ?_) (fun hc10 => ?_)
              · rw [if_pos hc10] at hres
                refine am_iconst (pc' := 262) (v := 0) dX12_eRead_261 kc_0 rfl ?_
                refine am_istore_n (pc' := 263) (ls' := [some (.ref 45), some (.int (1 : Int32)), some (.int (0 : Int32)), some (.int (fx_X12_signOf q1))]) 2 dX12_eRead_262 rfl (Nat.le_of_ble_eq_true rfl) rfl rfl rfl ?_
                refine am_goto 14 dX12_eRead_263 rfl ?_
                refine am_weak (ls' := [some (.ref 45), some (.int (1 : Int32)), some (.int (0 : Int32)), none]) [false, false, false, true] rfl ?_
                exact ih _ _ _ _ hres
              · rw [if_neg hc10] at hres
                refine am_iconst (pc' := 258) (v := 1) dX12_eRead_257 kc_1 rfl ?_
                refine am_goto 262 dX12_eRead_258 rfl ?_
                refine am_istore_n (pc' := 263) (ls' := [some (.ref 45), some (.int (1 : Int32)), some (.int (1 : Int32)), some (.int (fx_X12_signOf q1))]) 2 dX12_eRead_262 rfl (Nat.le_of_ble_eq_true rfl) rfl rfl rfl ?_
                refine am_goto 14 dX12_eRead_263 rfl ?_
                refine am_weak (ls' := [some (.ref 45), some (.int (1 : Int32)), some (.int (1 : Int32)), none]) [false, false, false, true] rfl ?_
                exact ih _ _ _ _ hres
            · rw [if_pos hc9] at hres
              refine am_iconst (pc' := 248) (v := 0) dX12_eRead_247 kc_0 rfl ?_
              obtain rfl := Option.some.inj hres
              exact am_zret dX12_eRead_248 rfl rfl rfl rfl
        · rw [if_pos hc5] at hres
          refine am_aload_n (pc' := 187) 0 dX12_eRead_186 rfl rfl rfl ?_
          refine am_iconst (pc' := 188) (v := 1) dX12_eRead_187 kc_1 rfl ?_
          obtain ⟨q11, hq12, hres⟩ := am_bd_s hres
          refine am_cV (pc' := 191) (st' := []) [] [.int (1 : Int32)] dX12_eRead_188 cs_X12_143 (tx_X12_unwinds S0 (1 : Int32) q1 _ hq12) rfl rfl rfl (sm_c45 S0 q1) rfl rfl rfl rfl rfl ?_
          refine am_aload_n (pc' := 192) 0 dX12_eRead_191 rfl rfl rfl ?_
          refine am_get (pc' := 195) (v := .int (sm_heldMany q11)) dX12_eRead_192 fl_X12_126 (sm_c45 S0 q11) rfl rfl ?_
          refine am_if_ne (pc' := 198) 200 dX12_eRead_195 rfl rfl (fun hc13 => ?_) (fun hc13 => ?_)
          · rw [if_neg hc13] at hres
            refine am_aload_n (pc' := 201) 0 dX12_eRead_200 rfl rfl rfl ?_
            refine am_dupa (pc' := 202) dX12_eRead_201 rfl ?_
            refine am_get (pc' := 205) (v := .int (sm_heldMany q11)) dX12_eRead_202 fl_X12_126 (sm_c45 S0 q11) rfl rfl ?_
            refine am_iconst (pc' := 206) (v := 1) dX12_eRead_205 kc_1 rfl ?_
            refine am_isub (pc' := 207) dX12_eRead_206 rfl ?_
            refine am_put (pc' := 210) (ws' := (sx_w S0 (sm_w (um_heldMany q11 ((sm_heldMany q11) - (1 : Int32)))))) (v := .int ((sm_heldMany q11) - (1 : Int32))) dX12_eRead_207 fp_X12_126 (sm_c45 S0 q11) (fun _ => ⟨rfl, rfl⟩) (Nat.le_of_ble_eq_true rfl) (sm_p_heldMany S0 q11 _) rfl ?_
            refine am_aload_n (pc' := 211) 0 dX12_eRead_210 rfl rfl rfl ?_
            refine am_dupa (pc' := 212) dX12_eRead_211 rfl ?_
            refine am_get (pc' := 215) (v := .int (sm_opens q11)) dX12_eRead_212 fl_X12_133 (sm_c45 S0 (um_heldMany q11 ((sm_heldMany q11) - (1 : Int32)))) rfl rfl ?_
            refine am_iconst (pc' := 216) (v := 1) dX12_eRead_215 kc_1 rfl ?_
            refine am_isub (pc' := 217) dX12_eRead_216 rfl ?_
            refine am_put (pc' := 220) (ws' := (sx_w S0 (sm_w (um_opens (um_heldMany q11 ((sm_heldMany q11) - (1 : Int32))) ((sm_opens q11) - (1 : Int32)))))) (v := .int ((sm_opens q11) - (1 : Int32))) dX12_eRead_217 fp_X12_133 (sm_c45 S0 (um_heldMany q11 ((sm_heldMany q11) - (1 : Int32)))) (fun _ => ⟨rfl, rfl⟩) (Nat.le_of_ble_eq_true rfl) (sm_p_opens S0 (um_heldMany q11 ((sm_heldMany q11) - (1 : Int32))) _) rfl ?_
            refine am_aload_n (pc' := 221) 0 dX12_eRead_220 rfl rfl rfl ?_
            refine am_bipush (pc' := 223) (v := 7) dX12_eRead_221 kb_7 rfl ?_
            obtain ⟨q14, hq15, hres⟩ := am_bd_s hres
            refine am_cV (pc' := 226) (st' := []) [] [.int (7 : Int32)] dX12_eRead_223 cs_X12_143 (tx_X12_unwinds S0 (7 : Int32) (um_opens (um_heldMany q11 ((sm_heldMany q11) - (1 : Int32))) ((sm_opens q11) - (1 : Int32))) _ hq15) rfl rfl rfl (sm_c45 S0 (um_opens (um_heldMany q11 ((sm_heldMany q11) - (1 : Int32))) ((sm_opens q11) - (1 : Int32)))) rfl rfl rfl rfl rfl ?_
            refine am_goto 14 dX12_eRead_226 rfl ?_
            exact ih _ _ _ _ hres
          · rw [if_pos hc13] at hres
            refine am_iconst (pc' := 199) (v := 0) dX12_eRead_198 kc_0 rfl ?_
            obtain rfl := Option.some.inj hres
            exact am_zret dX12_eRead_199 rfl rfl rfl rfl
      · rw [if_pos hc4] at hres
        refine am_aload_n (pc' := 160) 0 dX12_eRead_159 rfl rfl rfl ?_
        refine am_iconst (pc' := 161) (v := 1) dX12_eRead_160 kc_1 rfl ?_
        obtain ⟨q16, hq17, hres⟩ := am_bd_s hres
        refine am_cV (pc' := 164) (st' := []) [] [.int (1 : Int32)] dX12_eRead_161 cs_X12_143 (tx_X12_unwinds S0 (1 : Int32) q1 _ hq17) rfl rfl rfl (sm_c45 S0 q1) rfl rfl rfl rfl rfl ?_
        refine am_aload_n (pc' := 165) 0 dX12_eRead_164 rfl rfl rfl ?_
        refine am_get (pc' := 168) (v := .int (sm_heldMany q16)) dX12_eRead_165 fl_X12_126 (sm_c45 S0 q16) rfl rfl ?_
        refine am_if_ne (pc' := 171) 175 dX12_eRead_168 rfl rfl (fun hc18 => ?_) (fun hc18 => ?_)
        · rw [if_neg hc18] at hres
          refine am_iconst (pc' := 176) (v := 0) dX12_eRead_175 kc_0 rfl ?_
          obtain rfl := Option.some.inj hres
          exact am_zret dX12_eRead_176 rfl rfl rfl rfl
        · rw [if_pos hc18] at hres
          refine am_iconst (pc' := 172) (v := 1) dX12_eRead_171 kc_1 rfl ?_
          refine am_goto 176 dX12_eRead_172 rfl ?_
          obtain rfl := Option.some.inj hres
          exact am_zret dX12_eRead_176 rfl rfl rfl rfl
    · rw [if_neg hc3] at hres
      refine am_aload_n (pc' := 23) 0 dX12_eRead_22 rfl rfl rfl ?_
      refine am_get (pc' := 26) (v := .int (sm_token q1)) dX12_eRead_23 fl_X12_113 (sm_c45 S0 q1) rfl rfl ?_
      refine am_iconst (pc' := 27) (v := 1) dX12_eRead_26 kc_1 rfl ?_
      refine am_icmp_eq (pc' := 30) 38 dX12_eRead_27 rfl rfl (fun hc19 => ?_) (fun hc19 => ?_)
      · rw [if_pos hc19] at hres
        refine am_weak (ls' := [some (.ref 45), none, some (.int v2), none]) [false, true, false, false] rfl ?_
        exact wx_X12_eRead_38 S0 _ (fun a0 a1 a2 => ih a0 a1 a2) _ _ _ hres
      · rw [if_neg hc19] at hres
        refine am_aload_n (pc' := 31) 0 dX12_eRead_30 rfl rfl rfl ?_
        refine am_get (pc' := 34) (v := .int (sm_token q1)) dX12_eRead_31 fl_X12_113 (sm_c45 S0 q1) rfl rfl ?_
        refine am_iconst (pc' := 35) (v := 2) dX12_eRead_34 kc_2 rfl ?_
        refine am_icmp_ne (pc' := 38) 75 dX12_eRead_35 rfl rfl (fun hc29 => ?_) (fun hc29 => ?_)
        · rw [if_neg hc29] at hres
          refine am_aload_n (pc' := 76) 0 dX12_eRead_75 rfl rfl rfl ?_
          refine am_get (pc' := 79) (v := .int (sm_token q1)) dX12_eRead_76 fl_X12_113 (sm_c45 S0 q1) rfl rfl ?_
          refine am_bipush (pc' := 81) (v := 6) dX12_eRead_79 kb_6 rfl ?_
          refine am_icmp_ne (pc' := 84) 99 dX12_eRead_81 rfl rfl (fun hc30 => ?_) (fun hc30 => ?_)
          · rw [if_neg hc30] at hres
            refine am_weak (ls' := [some (.ref 45), some (.int v1), none, none]) [false, false, true, false] rfl ?_
            exact wx_X12_eRead_99 S0 _ (fun a0 a1 a2 => ih a0 a1 a2) _ _ _ hres
          · rw [if_pos hc30] at hres
            refine am_iload_n (pc' := 85) 2 dX12_eRead_84 rfl rfl rfl ?_
            refine am_if_eq (pc' := 88) 99 dX12_eRead_85 rfl rfl (fun hc39 => ?_) (fun hc39 => ?_)
            · rw [if_pos hc39] at hres
              refine am_weak (ls' := [some (.ref 45), some (.int v1), none, none]) [false, false, true, false] rfl ?_
              exact wx_X12_eRead_99 S0 _ (fun a0 a1 a2 => ih a0 a1 a2) _ _ _ hres
            · rw [if_neg hc39] at hres
              refine am_aload_n (pc' := 89) 0 dX12_eRead_88 rfl rfl rfl ?_
              refine am_bipush (pc' := 91) (v := 13) dX12_eRead_89 kb_13 rfl ?_
              obtain ⟨q40, hq41, hres⟩ := am_bd_s hres
              refine am_cV (pc' := 94) (st' := [.int q40.1]) [] [.int (13 : Int32)] dX12_eRead_91 cs_X12_150 (tx_X12_opensOne S0 (13 : Int32) q1 _ hq41) rfl rfl rfl (sm_c45 S0 q1) rfl rfl rfl rfl rfl ?_
              refine am_if_ne (pc' := 97) 14 dX12_eRead_94 rfl rfl (fun hc42 => ?_) (fun hc42 => ?_)
              · rw [if_neg hc42] at hres
                exact ih _ _ _ _ hres
              · rw [if_pos hc42] at hres
                refine am_iconst (pc' := 98) (v := 0) dX12_eRead_97 kc_0 rfl ?_
                obtain rfl := Option.some.inj hres
                exact am_zret dX12_eRead_98 rfl rfl rfl rfl
        · rw [if_pos hc29] at hres
          refine am_weak (ls' := [some (.ref 45), none, some (.int v2), none]) [false, true, false, false] rfl ?_
          exact wx_X12_eRead_38 S0 _ (fun a0 a1 a2 => ih a0 a1 a2) _ _ _ hres

set_option maxRecDepth 100000 in
set_option maxHeartbeats 4000000 in
theorem tx_X12_eRead (S0 : sx_T) (S : sm_T) (res : Int32 × sm_T) (hres : fx_X12_eRead S = some res) : am_T mX12_eRead 3 0 0 [.ref 45] (sx_w S0 (sm_w S)) (some (.int res.1)) (sx_w S0 (sm_w res.2)) := by
  refine am_meth (ls := [some (.ref 45), none, none, none]) (by decide +kernel) rfl (Nat.le_of_ble_eq_true rfl) (sm_len _ _ _ _) ?_
  rw [fx_X12_eRead] at hres
  refine am_aload_n (pc' := 1) 0 dX12_eRead_0 rfl rfl rfl ?_
  refine am_iconst (pc' := 2) (v := 0) dX12_eRead_1 kc_0 rfl ?_
  refine am_put (pc' := 5) (ws' := (sx_w S0 (sm_w (um_heldMany S (0 : Int32))))) (v := .int (0 : Int32)) dX12_eRead_2 fp_X12_126 (sm_c45 S0 S) (fun _ => ⟨rfl, rfl⟩) (Nat.le_of_ble_eq_true rfl) (sm_p_heldMany S0 S _) rfl ?_
  refine am_aload_n (pc' := 6) 0 dX12_eRead_5 rfl rfl rfl ?_
  refine am_iconst (pc' := 7) (v := 0) dX12_eRead_6 kc_0 rfl ?_
  refine am_put (pc' := 10) (ws' := (sx_w S0 (sm_w (um_opens (um_heldMany S (0 : Int32)) (0 : Int32))))) (v := .int (0 : Int32)) dX12_eRead_7 fp_X12_133 (sm_c45 S0 (um_heldMany S (0 : Int32))) (fun _ => ⟨rfl, rfl⟩) (Nat.le_of_ble_eq_true rfl) (sm_p_opens S0 (um_heldMany S (0 : Int32)) _) rfl ?_
  refine am_iconst (pc' := 11) (v := 1) dX12_eRead_10 kc_1 rfl ?_
  refine am_istore_n (pc' := 12) (ls' := [some (.ref 45), some (.int (1 : Int32)), none, none]) 1 dX12_eRead_11 rfl (Nat.le_of_ble_eq_true rfl) rfl rfl rfl ?_
  refine am_iconst (pc' := 13) (v := 1) dX12_eRead_12 kc_1 rfl ?_
  refine am_istore_n (pc' := 14) (ls' := [some (.ref 45), some (.int (1 : Int32)), some (.int (1 : Int32)), none]) 2 dX12_eRead_13 rfl (Nat.le_of_ble_eq_true rfl) rfl rfl rfl ?_
  exact wx_X12_eRead_14 S0 am_fu _ _ _ _ hres
set_option maxRecDepth 100000 in
set_option maxHeartbeats 4000000 in
theorem tx_X12_isByte (ws : am_W) (a1 : Int32) (res : Int32) (hres : fx_X12_isByte a1 = res) : am_T mX12_isByte 1 0 0 [.int a1] ws (some (.int res)) ws := by
  refine am_meth (ls := [some (.int a1)]) (by decide +kernel) rfl (Nat.le_of_ble_eq_true rfl) ⟨rfl, Or.inl rfl⟩ ?_
  rw [fx_X12_isByte] at hres
  refine am_iload_n (pc' := 1) 0 dX12_isByte_0 rfl rfl rfl ?_
  refine am_iconst (pc' := 2) (v := 0) dX12_isByte_1 kc_0 rfl ?_
  refine am_sipush (pc' := 5) (v := 255) dX12_isByte_2 ks_255 rfl ?_
  refine am_cS (pc' := 8) (st' := [.int (fx_X12_in a1 (0 : Int32) (255 : Int32))]) [] [.int a1, .int (0 : Int32), .int (255 : Int32)] dX12_isByte_5 cs_X12_90 (tx_X12_in ws a1 (0 : Int32) (255 : Int32) _ rfl) rfl rfl rfl rfl rfl rfl ?_
  subst hres
  exact am_zret dX12_isByte_8 rfl (bz_X12_in a1 (0 : Int32) (255 : Int32)) rfl rfl
theorem bz_X12_isByte (a1 : Int32) : narrow .boolean (.int (fx_X12_isByte a1)) = .int (fx_X12_isByte a1) := by
  rw [fx_X12_isByte]
  repeat' (first | refine nb_ite ?_ ?_ | rfl | exact bz_X12_in _ _ _ | exact bz_X12_in _ _ _)
set_option maxRecDepth 100000 in
set_option maxHeartbeats 4000000 in
theorem wx_X12_feed_68 (S0 : sx_T) : ∀ (n : Nat) (v1 : Int32) (v2 : Int32) (v3 : Int32) (v4 : Int32) (v5 : Int32) (v6 : Int32) (v7 : Int32) (S : sm_T) (res : Int32 × sm_T) (hres : fx_X12_feed_68 n v1 v2 v3 v4 v5 v6 v7 S = some res), am_G mX12_feed (none, 2, 0, 0, (some (.int res.1)), (sx_w S0 (sm_w res.2))) (0, 0) 68 [some (.ref 45), some (.int v1), some (.int v2), some (.int v3), some (.int v4), some (.int v5), some (.int v6), some (.int v7)] [] (sx_w S0 (sm_w S)) := by
  intro n
  induction n with
  | zero =>
    intro v1 v2 v3 v4 v5 v6 v7 S res hres
    cases hres
  | succ n ih =>
    intro v1 v2 v3 v4 v5 v6 v7 S res hres
    rw [fx_X12_feed_68] at hres
    refine am_iload (pc' := 70) dX12_feed_68 rfl rfl ?_
    refine am_iload_n (pc' := 71) 1 dX12_feed_70 rfl rfl rfl ?_
    refine am_icmp_ge (pc' := 74) 142 dX12_feed_71 rfl rfl (fun hc8 => ?_) (fun hc8 => ?_)
    · rw [if_pos hc8] at hres
      refine am_aload_n (pc' := 143) 0 dX12_feed_142 rfl rfl rfl ?_
      refine am_get (pc' := 146) (v := .int (sm_taped S)) dX12_feed_143 fl_X12_80 (sm_c45 S0 S) rfl rfl ?_
      obtain rfl := Option.some.inj hres
      exact am_iret dX12_feed_146 rfl rfl rfl
    · rw [if_neg hc8] at hres
      refine am_aload_n (pc' := 75) 0 dX12_feed_74 rfl rfl rfl ?_
      refine am_get (pc' := 78) (v := .ref 50) dX12_feed_75 fl_X12_26 (sm_c45 S0 S) rfl rfl ?_
      refine am_aload_n (pc' := 79) 0 dX12_feed_78 rfl rfl rfl ?_
      refine am_get (pc' := 82) (v := .int (sm_taped S)) dX12_feed_79 fl_X12_80 (sm_c45 S0 S) rfl rfl ?_
      refine am_iload (pc' := 84) dX12_feed_82 rfl rfl ?_
      refine am_if_ne (pc' := 87) 91 dX12_feed_84 rfl rfl (fun hc9 => ?_) (fun hc9 => ?_)
      · rw [if_neg hc9] at hres
        refine am_iload (pc' := 93) dX12_feed_91 rfl rfl ?_
        refine am_iconst (pc' := 94) (v := 1) dX12_feed_93 kc_1 rfl ?_
        refine am_icmp_ne (pc' := 97) 101 dX12_feed_94 rfl rfl (fun hc10 => ?_) (fun hc10 => ?_)
        · rw [if_neg hc10] at hres
          refine am_iload (pc' := 103) dX12_feed_101 rfl rfl ?_
          refine am_iconst (pc' := 104) (v := 2) dX12_feed_103 kc_2 rfl ?_
          refine am_icmp_ne (pc' := 107) 112 dX12_feed_104 rfl rfl (fun hc11 => ?_) (fun hc11 => ?_)
          · rw [if_neg hc11] at hres
            refine am_iload (pc' := 114) dX12_feed_112 rfl rfl ?_
            refine am_iconst (pc' := 115) (v := 3) dX12_feed_114 kc_3 rfl ?_
            refine am_icmp_ne (pc' := 118) 123 dX12_feed_115 rfl rfl (fun hc12 => ?_) (fun hc12 => ?_)
            · rw [if_neg hc12] at hres
              refine am_iload (pc' := 125) dX12_feed_123 rfl rfl ?_
              obtain ⟨hr13, hres⟩ := am_rg hres
              refine am_iast (pc' := 126) (f := (sm_tape S)) (ws' := (sx_w S0 (sm_w (um_tape S (upd (sm_tape S) (sm_taped S).toNatClampNeg v6))))) dX12_feed_125 (sm_c50 S0 S) hr13 (sm_p_tape S0 S _) rfl ?_
              refine am_aload_n (pc' := 127) 0 dX12_feed_126 rfl rfl rfl ?_
              refine am_dupa (pc' := 128) dX12_feed_127 rfl ?_
              refine am_get (pc' := 131) (v := .int (sm_taped S)) dX12_feed_128 fl_X12_80 (sm_c45 S0 (um_tape S (upd (sm_tape S) (sm_taped S).toNatClampNeg v6))) rfl rfl ?_
              refine am_iconst (pc' := 132) (v := 1) dX12_feed_131 kc_1 rfl ?_
              refine am_iadd (pc' := 133) dX12_feed_132 rfl ?_
              refine am_put (pc' := 136) (ws' := (sx_w S0 (sm_w (um_taped (um_tape S (upd (sm_tape S) (sm_taped S).toNatClampNeg v6)) ((sm_taped S) + (1 : Int32)))))) (v := .int ((sm_taped S) + (1 : Int32))) dX12_feed_133 fp_X12_80 (sm_c45 S0 (um_tape S (upd (sm_tape S) (sm_taped S).toNatClampNeg v6))) (fun _ => ⟨rfl, rfl⟩) (Nat.le_of_ble_eq_true rfl) (sm_p_taped S0 (um_tape S (upd (sm_tape S) (sm_taped S).toNatClampNeg v6)) _) rfl ?_
              refine am_iinc (pc' := 139) (ls' := [some (.ref 45), some (.int v1), some (.int v2), some (.int v3), some (.int v4), some (.int v5), some (.int v6), some (.int (v7 + (1 : Int32)))]) dX12_feed_136 rfl (show v7 + Int32.ofInt 1 = (v7 + (1 : Int32)) from congrArg (fun z => v7 + z) kc_1) (Nat.le_of_ble_eq_true rfl) rfl rfl rfl ?_
              refine am_goto 68 dX12_feed_139 rfl ?_
              exact ih _ _ _ _ _ _ _ _ _ hres
            · rw [if_pos hc12] at hres
              refine am_iload (pc' := 120) dX12_feed_118 rfl rfl ?_
              refine am_goto 125 dX12_feed_120 rfl ?_
              obtain ⟨hr14, hres⟩ := am_rg hres
              refine am_iast (pc' := 126) (f := (sm_tape S)) (ws' := (sx_w S0 (sm_w (um_tape S (upd (sm_tape S) (sm_taped S).toNatClampNeg v5))))) dX12_feed_125 (sm_c50 S0 S) hr14 (sm_p_tape S0 S _) rfl ?_
              refine am_aload_n (pc' := 127) 0 dX12_feed_126 rfl rfl rfl ?_
              refine am_dupa (pc' := 128) dX12_feed_127 rfl ?_
              refine am_get (pc' := 131) (v := .int (sm_taped S)) dX12_feed_128 fl_X12_80 (sm_c45 S0 (um_tape S (upd (sm_tape S) (sm_taped S).toNatClampNeg v5))) rfl rfl ?_
              refine am_iconst (pc' := 132) (v := 1) dX12_feed_131 kc_1 rfl ?_
              refine am_iadd (pc' := 133) dX12_feed_132 rfl ?_
              refine am_put (pc' := 136) (ws' := (sx_w S0 (sm_w (um_taped (um_tape S (upd (sm_tape S) (sm_taped S).toNatClampNeg v5)) ((sm_taped S) + (1 : Int32)))))) (v := .int ((sm_taped S) + (1 : Int32))) dX12_feed_133 fp_X12_80 (sm_c45 S0 (um_tape S (upd (sm_tape S) (sm_taped S).toNatClampNeg v5))) (fun _ => ⟨rfl, rfl⟩) (Nat.le_of_ble_eq_true rfl) (sm_p_taped S0 (um_tape S (upd (sm_tape S) (sm_taped S).toNatClampNeg v5)) _) rfl ?_
              refine am_iinc (pc' := 139) (ls' := [some (.ref 45), some (.int v1), some (.int v2), some (.int v3), some (.int v4), some (.int v5), some (.int v6), some (.int (v7 + (1 : Int32)))]) dX12_feed_136 rfl (show v7 + Int32.ofInt 1 = (v7 + (1 : Int32)) from congrArg (fun z => v7 + z) kc_1) (Nat.le_of_ble_eq_true rfl) rfl rfl rfl ?_
              refine am_goto 68 dX12_feed_139 rfl ?_
              exact ih _ _ _ _ _ _ _ _ _ hres
          · rw [if_pos hc11] at hres
            refine am_iload (pc' := 109) dX12_feed_107 rfl rfl ?_
            refine am_goto 125 dX12_feed_109 rfl ?_
            obtain ⟨hr15, hres⟩ := am_rg hres
            refine am_iast (pc' := 126) (f := (sm_tape S)) (ws' := (sx_w S0 (sm_w (um_tape S (upd (sm_tape S) (sm_taped S).toNatClampNeg v4))))) dX12_feed_125 (sm_c50 S0 S) hr15 (sm_p_tape S0 S _) rfl ?_
            refine am_aload_n (pc' := 127) 0 dX12_feed_126 rfl rfl rfl ?_
            refine am_dupa (pc' := 128) dX12_feed_127 rfl ?_
            refine am_get (pc' := 131) (v := .int (sm_taped S)) dX12_feed_128 fl_X12_80 (sm_c45 S0 (um_tape S (upd (sm_tape S) (sm_taped S).toNatClampNeg v4))) rfl rfl ?_
            refine am_iconst (pc' := 132) (v := 1) dX12_feed_131 kc_1 rfl ?_
            refine am_iadd (pc' := 133) dX12_feed_132 rfl ?_
            refine am_put (pc' := 136) (ws' := (sx_w S0 (sm_w (um_taped (um_tape S (upd (sm_tape S) (sm_taped S).toNatClampNeg v4)) ((sm_taped S) + (1 : Int32)))))) (v := .int ((sm_taped S) + (1 : Int32))) dX12_feed_133 fp_X12_80 (sm_c45 S0 (um_tape S (upd (sm_tape S) (sm_taped S).toNatClampNeg v4))) (fun _ => ⟨rfl, rfl⟩) (Nat.le_of_ble_eq_true rfl) (sm_p_taped S0 (um_tape S (upd (sm_tape S) (sm_taped S).toNatClampNeg v4)) _) rfl ?_
            refine am_iinc (pc' := 139) (ls' := [some (.ref 45), some (.int v1), some (.int v2), some (.int v3), some (.int v4), some (.int v5), some (.int v6), some (.int (v7 + (1 : Int32)))]) dX12_feed_136 rfl (show v7 + Int32.ofInt 1 = (v7 + (1 : Int32)) from congrArg (fun z => v7 + z) kc_1) (Nat.le_of_ble_eq_true rfl) rfl rfl rfl ?_
            refine am_goto 68 dX12_feed_139 rfl ?_
            exact ih _ _ _ _ _ _ _ _ _ hres
        · rw [if_pos hc10] at hres
          refine am_iload_n (pc' := 98) 3 dX12_feed_97 rfl rfl rfl ?_
          refine am_goto 125 dX12_feed_98 rfl ?_
          obtain ⟨hr16, hres⟩ := am_rg hres
          refine am_iast (pc' := 126) (f := (sm_tape S)) (ws' := (sx_w S0 (sm_w (um_tape S (upd (sm_tape S) (sm_taped S).toNatClampNeg v3))))) dX12_feed_125 (sm_c50 S0 S) hr16 (sm_p_tape S0 S _) rfl ?_
          refine am_aload_n (pc' := 127) 0 dX12_feed_126 rfl rfl rfl ?_
          refine am_dupa (pc' := 128) dX12_feed_127 rfl ?_
          refine am_get (pc' := 131) (v := .int (sm_taped S)) dX12_feed_128 fl_X12_80 (sm_c45 S0 (um_tape S (upd (sm_tape S) (sm_taped S).toNatClampNeg v3))) rfl rfl ?_
          refine am_iconst (pc' := 132) (v := 1) dX12_feed_131 kc_1 rfl ?_
          refine am_iadd (pc' := 133) dX12_feed_132 rfl ?_
          refine am_put (pc' := 136) (ws' := (sx_w S0 (sm_w (um_taped (um_tape S (upd (sm_tape S) (sm_taped S).toNatClampNeg v3)) ((sm_taped S) + (1 : Int32)))))) (v := .int ((sm_taped S) + (1 : Int32))) dX12_feed_133 fp_X12_80 (sm_c45 S0 (um_tape S (upd (sm_tape S) (sm_taped S).toNatClampNeg v3))) (fun _ => ⟨rfl, rfl⟩) (Nat.le_of_ble_eq_true rfl) (sm_p_taped S0 (um_tape S (upd (sm_tape S) (sm_taped S).toNatClampNeg v3)) _) rfl ?_
          refine am_iinc (pc' := 139) (ls' := [some (.ref 45), some (.int v1), some (.int v2), some (.int v3), some (.int v4), some (.int v5), some (.int v6), some (.int (v7 + (1 : Int32)))]) dX12_feed_136 rfl (show v7 + Int32.ofInt 1 = (v7 + (1 : Int32)) from congrArg (fun z => v7 + z) kc_1) (Nat.le_of_ble_eq_true rfl) rfl rfl rfl ?_
          refine am_goto 68 dX12_feed_139 rfl ?_
          exact ih _ _ _ _ _ _ _ _ _ hres
      · rw [if_pos hc9] at hres
        refine am_iload_n (pc' := 88) 2 dX12_feed_87 rfl rfl rfl ?_
        refine am_goto 125 dX12_feed_88 rfl ?_
        obtain ⟨hr17, hres⟩ := am_rg hres
        refine am_iast (pc' := 126) (f := (sm_tape S)) (ws' := (sx_w S0 (sm_w (um_tape S (upd (sm_tape S) (sm_taped S).toNatClampNeg v2))))) dX12_feed_125 (sm_c50 S0 S) hr17 (sm_p_tape S0 S _) rfl ?_
        refine am_aload_n (pc' := 127) 0 dX12_feed_126 rfl rfl rfl ?_
        refine am_dupa (pc' := 128) dX12_feed_127 rfl ?_
        refine am_get (pc' := 131) (v := .int (sm_taped S)) dX12_feed_128 fl_X12_80 (sm_c45 S0 (um_tape S (upd (sm_tape S) (sm_taped S).toNatClampNeg v2))) rfl rfl ?_
        refine am_iconst (pc' := 132) (v := 1) dX12_feed_131 kc_1 rfl ?_
        refine am_iadd (pc' := 133) dX12_feed_132 rfl ?_
        refine am_put (pc' := 136) (ws' := (sx_w S0 (sm_w (um_taped (um_tape S (upd (sm_tape S) (sm_taped S).toNatClampNeg v2)) ((sm_taped S) + (1 : Int32)))))) (v := .int ((sm_taped S) + (1 : Int32))) dX12_feed_133 fp_X12_80 (sm_c45 S0 (um_tape S (upd (sm_tape S) (sm_taped S).toNatClampNeg v2))) (fun _ => ⟨rfl, rfl⟩) (Nat.le_of_ble_eq_true rfl) (sm_p_taped S0 (um_tape S (upd (sm_tape S) (sm_taped S).toNatClampNeg v2)) _) rfl ?_
        refine am_iinc (pc' := 139) (ls' := [some (.ref 45), some (.int v1), some (.int v2), some (.int v3), some (.int v4), some (.int v5), some (.int v6), some (.int (v7 + (1 : Int32)))]) dX12_feed_136 rfl (show v7 + Int32.ofInt 1 = (v7 + (1 : Int32)) from congrArg (fun z => v7 + z) kc_1) (Nat.le_of_ble_eq_true rfl) rfl rfl rfl ?_
        refine am_goto 68 dX12_feed_139 rfl ?_
        exact ih _ _ _ _ _ _ _ _ _ hres

set_option maxRecDepth 100000 in
set_option maxHeartbeats 4000000 in
theorem tx_X12_feed (S0 : sx_T) (a1 : Int32) (a2 : Int32) (a3 : Int32) (a4 : Int32) (a5 : Int32) (a6 : Int32) (S : sm_T) (res : Int32 × sm_T) (hres : fx_X12_feed a1 a2 a3 a4 a5 a6 S = some res) : am_T mX12_feed 2 0 0 [.ref 45, .int a1, .int a2, .int a3, .int a4, .int a5, .int a6] (sx_w S0 (sm_w S)) (some (.int res.1)) (sx_w S0 (sm_w res.2)) := by
  refine am_meth (ls := [some (.ref 45), some (.int a1), some (.int a2), some (.int a3), some (.int a4), some (.int a5), some (.int a6), none]) (by decide +kernel) rfl (Nat.le_of_ble_eq_true rfl) (sm_len _ _ _ _) ?_
  rw [fx_X12_feed] at hres
  refine am_iload_n (pc' := 1) 1 dX12_feed_0 rfl rfl rfl ?_
  refine am_iconst (pc' := 2) (v := 1) dX12_feed_1 kc_1 rfl ?_
  refine am_iconst (pc' := 3) (v := 5) dX12_feed_2 kc_5 rfl ?_
  refine am_cS (pc' := 6) (st' := [.int (fx_X12_in a1 (1 : Int32) (5 : Int32))]) [] [.int a1, .int (1 : Int32), .int (5 : Int32)] dX12_feed_3 cs_X12_90 (tx_X12_in (sx_w S0 (sm_w S)) a1 (1 : Int32) (5 : Int32) _ rfl) rfl rfl rfl rfl rfl rfl ?_
  refine am_if_eq (pc' := 9) 47 dX12_feed_6 rfl rfl (fun hc1 => ?_) (fun hc1 => ?_)
  · rw [if_pos hc1] at hres
    refine am_bipush (pc' := 49) (v := (-2)) dX12_feed_47 kb_m2 rfl ?_
    obtain rfl := Option.some.inj hres
    exact am_iret dX12_feed_49 rfl rfl rfl
  · rw [if_neg hc1] at hres
    refine am_iload_n (pc' := 10) 2 dX12_feed_9 rfl rfl rfl ?_
    refine am_cS (pc' := 13) (st' := [.int (fx_X12_isByte a2)]) [] [.int a2] dX12_feed_10 cs_X12_104 (tx_X12_isByte (sx_w S0 (sm_w S)) a2 _ rfl) rfl rfl rfl rfl rfl rfl ?_
    refine am_if_eq (pc' := 16) 47 dX12_feed_13 rfl rfl (fun hc2 => ?_) (fun hc2 => ?_)
    · rw [if_pos hc2] at hres
      refine am_bipush (pc' := 49) (v := (-2)) dX12_feed_47 kb_m2 rfl ?_
      obtain rfl := Option.some.inj hres
      exact am_iret dX12_feed_49 rfl rfl rfl
    · rw [if_neg hc2] at hres
      refine am_iload_n (pc' := 17) 3 dX12_feed_16 rfl rfl rfl ?_
      refine am_cS (pc' := 20) (st' := [.int (fx_X12_isByte a3)]) [] [.int a3] dX12_feed_17 cs_X12_104 (tx_X12_isByte (sx_w S0 (sm_w S)) a3 _ rfl) rfl rfl rfl rfl rfl rfl ?_
      refine am_if_eq (pc' := 23) 47 dX12_feed_20 rfl rfl (fun hc3 => ?_) (fun hc3 => ?_)
      · rw [if_pos hc3] at hres
        refine am_bipush (pc' := 49) (v := (-2)) dX12_feed_47 kb_m2 rfl ?_
        obtain rfl := Option.some.inj hres
        exact am_iret dX12_feed_49 rfl rfl rfl
      · rw [if_neg hc3] at hres
        refine am_iload (pc' := 25) dX12_feed_23 rfl rfl ?_
        refine am_cS (pc' := 28) (st' := [.int (fx_X12_isByte a4)]) [] [.int a4] dX12_feed_25 cs_X12_104 (tx_X12_isByte (sx_w S0 (sm_w S)) a4 _ rfl) rfl rfl rfl rfl rfl rfl ?_
        refine am_if_eq (pc' := 31) 47 dX12_feed_28 rfl rfl (fun hc4 => ?_) (fun hc4 => ?_)
        · rw [if_pos hc4] at hres
          refine am_bipush (pc' := 49) (v := (-2)) dX12_feed_47 kb_m2 rfl ?_
          obtain rfl := Option.some.inj hres
          exact am_iret dX12_feed_49 rfl rfl rfl
        · rw [if_neg hc4] at hres
          refine am_iload (pc' := 33) dX12_feed_31 rfl rfl ?_
          refine am_cS (pc' := 36) (st' := [.int (fx_X12_isByte a5)]) [] [.int a5] dX12_feed_33 cs_X12_104 (tx_X12_isByte (sx_w S0 (sm_w S)) a5 _ rfl) rfl rfl rfl rfl rfl rfl ?_
          refine am_if_eq (pc' := 39) 47 dX12_feed_36 rfl rfl (fun hc5 => ?_) (fun hc5 => ?_)
          · rw [if_pos hc5] at hres
            refine am_bipush (pc' := 49) (v := (-2)) dX12_feed_47 kb_m2 rfl ?_
            obtain rfl := Option.some.inj hres
            exact am_iret dX12_feed_49 rfl rfl rfl
          · rw [if_neg hc5] at hres
            refine am_iload (pc' := 41) dX12_feed_39 rfl rfl ?_
            refine am_cS (pc' := 44) (st' := [.int (fx_X12_isByte a6)]) [] [.int a6] dX12_feed_41 cs_X12_104 (tx_X12_isByte (sx_w S0 (sm_w S)) a6 _ rfl) rfl rfl rfl rfl rfl rfl ?_
            refine am_if_ne (pc' := 47) 50 dX12_feed_44 rfl rfl (fun hc6 => ?_) (fun hc6 => ?_)
            · rw [if_neg hc6] at hres
              refine am_aload_n (pc' := 51) 0 dX12_feed_50 rfl rfl rfl ?_
              refine am_get (pc' := 54) (v := .int (sm_taped S)) dX12_feed_51 fl_X12_80 (sm_c45 S0 S) rfl rfl ?_
              refine am_iload_n (pc' := 55) 1 dX12_feed_54 rfl rfl rfl ?_
              refine am_iadd (pc' := 56) dX12_feed_55 rfl ?_
              refine am_sipush (pc' := 59) (v := 160) dX12_feed_56 ks_160 rfl ?_
              refine am_icmp_le (pc' := 62) 65 dX12_feed_59 rfl rfl (fun hc7 => ?_) (fun hc7 => ?_)
              · rw [if_pos hc7] at hres
                refine am_iconst (pc' := 66) (v := 0) dX12_feed_65 kc_0 rfl ?_
                refine am_istore (pc' := 68) (ls' := [some (.ref 45), some (.int a1), some (.int a2), some (.int a3), some (.int a4), some (.int a5), some (.int a6), some (.int (0 : Int32))]) dX12_feed_66 (Nat.le_of_ble_eq_true rfl) rfl rfl rfl ?_
                exact wx_X12_feed_68 S0 am_fu _ _ _ _ _ _ _ _ _ hres
              · rw [if_neg hc7] at hres
                refine am_bipush (pc' := 64) (v := (-4)) dX12_feed_62 kb_m4 rfl ?_
                obtain rfl := Option.some.inj hres
                exact am_iret dX12_feed_64 rfl rfl rfl
            · rw [if_pos hc6] at hres
              refine am_bipush (pc' := 49) (v := (-2)) dX12_feed_47 kb_m2 rfl ?_
              obtain rfl := Option.some.inj hres
              exact am_iret dX12_feed_49 rfl rfl rfl
set_option maxRecDepth 100000 in
set_option maxHeartbeats 4000000 in
theorem wx_X12_reads_43 (S0 : sx_T) : ∀ (n : Nat) (v1 : Int32) (v2 : Int32) (v3 : Int32) (S : sm_T) (res : Int32 × sm_T) (hres : fx_X12_reads_43 n v1 v2 v3 S = some res), am_G mX12_reads (none, 2, 0, 0, (some (.int res.1)), (sx_w S0 (sm_w res.2))) (0, 0) 43 [some (.ref 45), some (.int v1), some (.int v2), some (.int v3), none] [] (sx_w S0 (sm_w S)) := by
  intro n
  induction n with
  | zero =>
    intro v1 v2 v3 S res hres
    cases hres
  | succ n ih =>
    intro v1 v2 v3 S res hres
    rw [fx_X12_reads_43] at hres
    refine am_iload_n (pc' := 44) 3 dX12_reads_43 rfl rfl rfl ?_
    refine am_aload_n (pc' := 45) 0 dX12_reads_44 rfl rfl rfl ?_
    refine am_get (pc' := 48) (v := .ref 56) dX12_reads_45 fl_X12_44 (sm_c45 S0 S) rfl rfl ?_
    refine am_iload_n (pc' := 49) 1 dX12_reads_48 rfl rfl rfl ?_
    obtain ⟨hr6, hres⟩ := am_rg hres
    refine am_iald (pc' := 50) (f := (sm_sheetSize S)) dX12_reads_49 (sm_c56 S0 S) hr6 rfl ?_
    refine am_icmp_ge (pc' := 53) 113 dX12_reads_50 rfl rfl (fun hc7 => ?_) (fun hc7 => ?_)
    · rw [if_pos hc7] at hres
      refine am_aload_n (pc' := 114) 0 dX12_reads_113 rfl rfl rfl ?_
      refine am_aload_n (pc' := 115) 0 dX12_reads_114 rfl rfl rfl ?_
      refine am_get (pc' := 118) (v := .ref 56) dX12_reads_115 fl_X12_44 (sm_c45 S0 S) rfl rfl ?_
      refine am_iload_n (pc' := 119) 1 dX12_reads_118 rfl rfl rfl ?_
      obtain ⟨hr8, hres⟩ := am_rg hres
      refine am_iald (pc' := 120) (f := (sm_sheetSize S)) dX12_reads_119 (sm_c56 S0 S) hr8 rfl ?_
      refine am_put (pc' := 123) (ws' := (sx_w S0 (sm_w (um_rooms0 S ((sm_sheetSize S) v1.toNatClampNeg))))) (v := .int ((sm_sheetSize S) v1.toNatClampNeg)) dX12_reads_120 fp_X12_181 (sm_c45 S0 S) (fun _ => ⟨rfl, rfl⟩) (Nat.le_of_ble_eq_true rfl) (sm_p_rooms0 S0 S _) rfl ?_
      refine am_iconst (pc' := 124) (v := 0) dX12_reads_123 kc_0 rfl ?_
      obtain rfl := Option.some.inj hres
      exact am_iret dX12_reads_124 rfl rfl rfl
    · rw [if_neg hc7] at hres
      refine am_aload_n (pc' := 54) 0 dX12_reads_53 rfl rfl rfl ?_
      refine am_get (pc' := 57) (v := .ref 57) dX12_reads_54 fl_X12_47 (sm_c45 S0 S) rfl rfl ?_
      refine am_bipush (pc' := 59) (v := 40) dX12_reads_57 kb_40 rfl ?_
      refine am_iload_n (pc' := 60) 1 dX12_reads_59 rfl rfl rfl ?_
      refine am_imul (pc' := 61) dX12_reads_60 rfl ?_
      refine am_iload_n (pc' := 62) 3 dX12_reads_61 rfl rfl rfl ?_
      refine am_iadd (pc' := 63) dX12_reads_62 rfl ?_
      obtain ⟨hr9, hres⟩ := am_rg hres
      refine am_iald (pc' := 64) (f := (sm_cells S)) dX12_reads_63 (sm_c57 S0 S) hr9 rfl ?_
      refine am_istore (pc' := 66) (ls' := [some (.ref 45), some (.int v1), some (.int v2), some (.int v3), some (.int ((sm_cells S) (((40 : Int32) * v1) + v3).toNatClampNeg))]) dX12_reads_64 (Nat.le_of_ble_eq_true rfl) rfl rfl rfl ?_
      refine am_iload (pc' := 68) dX12_reads_66 rfl rfl ?_
      refine am_cS (pc' := 71) (st' := [.int (fx_X12_isRoom ((sm_cells S) (((40 : Int32) * v1) + v3).toNatClampNeg))]) [] [.int ((sm_cells S) (((40 : Int32) * v1) + v3).toNatClampNeg)] dX12_reads_68 cs_X12_100 (tx_X12_isRoom (sx_w S0 (sm_w S)) ((sm_cells S) (((40 : Int32) * v1) + v3).toNatClampNeg) _ rfl) rfl rfl rfl rfl rfl rfl ?_
      refine am_if_eq (pc' := 74) 84 dX12_reads_71 rfl rfl (fun hc10 => ?_) (fun hc10 => ?_)
      · rw [if_pos hc10] at hres
        refine am_bipush (pc' := 86) (v := (-2)) dX12_reads_84 kb_m2 rfl ?_
        obtain rfl := Option.some.inj hres
        exact am_iret dX12_reads_86 rfl rfl rfl
      · rw [if_neg hc10] at hres
        refine am_iload_n (pc' := 75) 2 dX12_reads_74 rfl rfl rfl ?_
        refine am_iload (pc' := 77) dX12_reads_75 rfl rfl ?_
        refine am_ishr (pc' := 78) dX12_reads_77 rfl ?_
        refine am_iconst (pc' := 79) (v := 1) dX12_reads_78 kc_1 rfl ?_
        refine am_iand (pc' := 80) dX12_reads_79 rfl ?_
        refine am_iconst (pc' := 81) (v := 1) dX12_reads_80 kc_1 rfl ?_
        refine am_icmp_ne (pc' := 84) 87 dX12_reads_81 rfl rfl (fun hc11 => ?_) (fun hc11 => ?_)
        · rw [if_neg hc11] at hres
          refine am_iload_n (pc' := 88) 2 dX12_reads_87 rfl rfl rfl ?_
          refine am_iconst (pc' := 89) (v := 1) dX12_reads_88 kc_1 rfl ?_
          refine am_iload (pc' := 91) dX12_reads_89 rfl rfl ?_
          refine am_ishl (pc' := 92) dX12_reads_91 rfl ?_
          refine am_ior (pc' := 93) dX12_reads_92 rfl ?_
          refine am_istore_n (pc' := 94) (ls' := [some (.ref 45), some (.int v1), some (.int (v2 ||| ((1 : Int32) <<< (((sm_cells S) (((40 : Int32) * v1) + v3).toNatClampNeg) &&& 31)))), some (.int v3), some (.int ((sm_cells S) (((40 : Int32) * v1) + v3).toNatClampNeg))]) 2 dX12_reads_93 rfl (Nat.le_of_ble_eq_true rfl) rfl rfl rfl ?_
          refine am_aload_n (pc' := 95) 0 dX12_reads_94 rfl rfl rfl ?_
          refine am_get (pc' := 98) (v := .ref 63) dX12_reads_95 fl_X12_65 (sm_c45 S0 S) rfl rfl ?_
          refine am_iload_n (pc' := 99) 3 dX12_reads_98 rfl rfl rfl ?_
          refine am_iconst (pc' := 100) (v := 0) dX12_reads_99 kc_0 rfl ?_
          refine am_iconst (pc' := 101) (v := 5) dX12_reads_100 kc_5 rfl ?_
          refine am_cS (pc' := 104) (st' := [.int (fx_X12_within v3 (0 : Int32) (5 : Int32)), .ref 63]) [.ref 63] [.int v3, .int (0 : Int32), .int (5 : Int32)] dX12_reads_101 cs_X12_170 (tx_X12_within (sx_w S0 (sm_w S)) v3 (0 : Int32) (5 : Int32) _ rfl) rfl rfl rfl rfl rfl rfl ?_
          refine am_iload (pc' := 106) dX12_reads_104 rfl rfl ?_
          obtain ⟨hr12, hres⟩ := am_rg hres
          refine am_iast (pc' := 107) (f := (sm_row S)) (ws' := (sx_w S0 (sm_w (um_row S (upd (sm_row S) (fx_X12_within v3 (0 : Int32) (5 : Int32)).toNatClampNeg ((sm_cells S) (((40 : Int32) * v1) + v3).toNatClampNeg)))))) dX12_reads_106 (sm_c63 S0 S) hr12 (sm_p_row S0 S _) rfl ?_
          refine am_iinc (pc' := 110) (ls' := [some (.ref 45), some (.int v1), some (.int (v2 ||| ((1 : Int32) <<< (((sm_cells S) (((40 : Int32) * v1) + v3).toNatClampNeg) &&& 31)))), some (.int (v3 + (1 : Int32))), some (.int ((sm_cells S) (((40 : Int32) * v1) + v3).toNatClampNeg))]) dX12_reads_107 rfl (show v3 + Int32.ofInt 1 = (v3 + (1 : Int32)) from congrArg (fun z => v3 + z) kc_1) (Nat.le_of_ble_eq_true rfl) rfl rfl rfl ?_
          refine am_goto 43 dX12_reads_110 rfl ?_
          refine am_weak (ls' := [some (.ref 45), some (.int v1), some (.int (v2 ||| ((1 : Int32) <<< (((sm_cells S) (((40 : Int32) * v1) + v3).toNatClampNeg) &&& 31)))), some (.int (v3 + (1 : Int32))), none]) [false, false, false, false, true] rfl ?_
          exact ih _ _ _ _ _ hres
        · rw [if_pos hc11] at hres
          refine am_bipush (pc' := 86) (v := (-2)) dX12_reads_84 kb_m2 rfl ?_
          obtain rfl := Option.some.inj hres
          exact am_iret dX12_reads_86 rfl rfl rfl

set_option maxRecDepth 100000 in
set_option maxHeartbeats 4000000 in
theorem tx_X12_reads (S0 : sx_T) (a1 : Int32) (S : sm_T) (res : Int32 × sm_T) (hres : fx_X12_reads a1 S = some res) : am_T mX12_reads 2 0 0 [.ref 45, .int a1] (sx_w S0 (sm_w S)) (some (.int res.1)) (sx_w S0 (sm_w res.2)) := by
  refine am_meth (ls := [some (.ref 45), some (.int a1), none, none, none]) (by decide +kernel) rfl (Nat.le_of_ble_eq_true rfl) (sm_len _ _ _ _) ?_
  rw [fx_X12_reads] at hres
  refine am_iload_n (pc' := 1) 1 dX12_reads_0 rfl rfl rfl ?_
  refine am_iconst (pc' := 2) (v := 0) dX12_reads_1 kc_0 rfl ?_
  refine am_iconst (pc' := 3) (v := 3) dX12_reads_2 kc_3 rfl ?_
  refine am_cS (pc' := 6) (st' := [.int (fx_X12_in a1 (0 : Int32) (3 : Int32))]) [] [.int a1, .int (0 : Int32), .int (3 : Int32)] dX12_reads_3 cs_X12_90 (tx_X12_in (sx_w S0 (sm_w S)) a1 (0 : Int32) (3 : Int32) _ rfl) rfl rfl rfl rfl rfl rfl ?_
  refine am_if_ne (pc' := 9) 12 dX12_reads_6 rfl rfl (fun hc1 => ?_) (fun hc1 => ?_)
  · rw [if_neg hc1] at hres
    refine am_aload_n (pc' := 13) 0 dX12_reads_12 rfl rfl rfl ?_
    refine am_get (pc' := 16) (v := .ref 55) dX12_reads_13 fl_X12_41 (sm_c45 S0 S) rfl rfl ?_
    refine am_iload_n (pc' := 17) 1 dX12_reads_16 rfl rfl rfl ?_
    obtain ⟨hr2, hres⟩ := am_rg hres
    refine am_iald (pc' := 18) (f := (sm_sheetSort S)) dX12_reads_17 (sm_c55 S0 S) hr2 rfl ?_
    refine am_iconst (pc' := 19) (v := (-1)) dX12_reads_18 kc_m1 rfl ?_
    refine am_icmp_ne (pc' := 22) 25 dX12_reads_19 rfl rfl (fun hc3 => ?_) (fun hc3 => ?_)
    · rw [if_neg hc3] at hres
      refine am_iconst (pc' := 26) (v := 0) dX12_reads_25 kc_0 rfl ?_
      refine am_istore_n (pc' := 27) (ls' := [some (.ref 45), some (.int a1), some (.int (0 : Int32)), none, none]) 2 dX12_reads_26 rfl (Nat.le_of_ble_eq_true rfl) rfl rfl rfl ?_
      refine am_aload_n (pc' := 28) 0 dX12_reads_27 rfl rfl rfl ?_
      refine am_get (pc' := 31) (v := .ref 56) dX12_reads_28 fl_X12_44 (sm_c45 S0 S) rfl rfl ?_
      refine am_iload_n (pc' := 32) 1 dX12_reads_31 rfl rfl rfl ?_
      obtain ⟨hr4, hres⟩ := am_rg hres
      refine am_iald (pc' := 33) (f := (sm_sheetSize S)) dX12_reads_32 (sm_c56 S0 S) hr4 rfl ?_
      refine am_bipush (pc' := 35) (v := 6) dX12_reads_33 kb_6 rfl ?_
      refine am_icmp_le (pc' := 38) 41 dX12_reads_35 rfl rfl (fun hc5 => ?_) (fun hc5 => ?_)
      · rw [if_pos hc5] at hres
        refine am_iconst (pc' := 42) (v := 0) dX12_reads_41 kc_0 rfl ?_
        refine am_istore_n (pc' := 43) (ls' := [some (.ref 45), some (.int a1), some (.int (0 : Int32)), some (.int (0 : Int32)), none]) 3 dX12_reads_42 rfl (Nat.le_of_ble_eq_true rfl) rfl rfl rfl ?_
        exact wx_X12_reads_43 S0 am_fu _ _ _ _ _ hres
      · rw [if_neg hc5] at hres
        refine am_bipush (pc' := 40) (v := (-2)) dX12_reads_38 kb_m2 rfl ?_
        obtain rfl := Option.some.inj hres
        exact am_iret dX12_reads_40 rfl rfl rfl
    · rw [if_pos hc3] at hres
      refine am_bipush (pc' := 24) (v := (-11)) dX12_reads_22 kb_m11 rfl ?_
      obtain rfl := Option.some.inj hres
      exact am_iret dX12_reads_24 rfl rfl rfl
  · rw [if_pos hc1] at hres
    refine am_bipush (pc' := 11) (v := (-2)) dX12_reads_9 kb_m2 rfl ?_
    obtain rfl := Option.some.inj hres
    exact am_iret dX12_reads_11 rfl rfl rfl
set_option maxRecDepth 100000 in
set_option maxHeartbeats 4000000 in
theorem wx_X12_film_98 (S0 : sx_T) (k76 : Int32 → Int32 → Int32 → Int32 → sm_T → Option (Int32 × sm_T)) (hk76 : ∀ (v2 : Int32) (v3 : Int32) (v5 : Int32) (v6 : Int32) (S : sm_T) (res : Int32 × sm_T), k76 v2 v3 v5 v6 S = some res → am_G mX12_film (none, 6, 0, 0, (some (.int res.1)), (sx_w S0 (sm_w res.2))) (0, 0) 76 [some (.ref 45), none, some (.int v2), some (.int v3), none, some (.int v5), some (.int v6)] [] (sx_w S0 (sm_w S))) : ∀ (v2 : Int32) (v3 : Int32) (v5 : Int32) (v6 : Int32) (w1 : Int32) (S : sm_T) (res : Int32 × sm_T) (hres : fx_X12_film_98 k76 v2 v3 v5 v6 w1 S = some res), am_G mX12_film (none, 6, 0, 0, (some (.int res.1)), (sx_w S0 (sm_w res.2))) (0, 0) 98 [some (.ref 45), none, some (.int v2), some (.int v3), none, some (.int v5), some (.int v6)] [.int w1, .ref 45] (sx_w S0 (sm_w S)) := by
  intro v2 v3 v5 v6 w1 S res hres
  rw [fx_X12_film_98] at hres
  refine am_put (pc' := 101) (ws' := (sx_w S0 (sm_w (um_hour S w1)))) (v := .int w1) dX12_film_98 fp_X12_22 (sm_c45 S0 S) (fun _ => ⟨rfl, rfl⟩) (Nat.le_of_ble_eq_true rfl) (sm_p_hour S0 S _) rfl ?_
  refine am_aload_n (pc' := 102) 0 dX12_film_101 rfl rfl rfl ?_
  refine am_get (pc' := 105) (v := .ref 57) dX12_film_102 fl_X12_47 (sm_c45 S0 (um_hour S w1)) rfl rfl ?_
  refine am_bipush (pc' := 107) (v := 40) dX12_film_105 kb_40 rfl ?_
  refine am_iload_n (pc' := 108) 2 dX12_film_107 rfl rfl rfl ?_
  refine am_imul (pc' := 109) dX12_film_108 rfl ?_
  refine am_iload (pc' := 111) dX12_film_109 rfl rfl ?_
  refine am_iadd (pc' := 112) dX12_film_111 rfl ?_
  refine am_iload (pc' := 114) dX12_film_112 rfl rfl ?_
  refine am_bipush (pc' := 116) (v := 12) dX12_film_114 kb_12 rfl ?_
  refine am_icmp_ge (pc' := 119) 128 dX12_film_116 rfl rfl (fun hc13 => ?_) (fun hc13 => ?_)
  · rw [if_pos hc13] at hres
    refine am_iconst (pc' := 129) (v := 0) dX12_film_128 kc_0 rfl ?_
    obtain ⟨hr14, hres⟩ := am_rg hres
    refine am_iast (pc' := 130) (f := (sm_cells S)) (ws' := (sx_w S0 (sm_w (um_cells (um_hour S w1) (upd (sm_cells S) (((40 : Int32) * v2) + v6).toNatClampNeg (0 : Int32)))))) dX12_film_129 (sm_c57 S0 (um_hour S w1)) hr14 (sm_p_cells S0 (um_hour S w1) _) rfl ?_
    refine am_iinc (pc' := 133) (ls' := [some (.ref 45), none, some (.int v2), some (.int v3), none, some (.int v5), some (.int (v6 + (1 : Int32)))]) dX12_film_130 rfl (show v6 + Int32.ofInt 1 = (v6 + (1 : Int32)) from congrArg (fun z => v6 + z) kc_1) (Nat.le_of_ble_eq_true rfl) rfl rfl rfl ?_
    refine am_goto 76 dX12_film_133 rfl ?_
    exact hk76 _ _ _ _ _ _ hres
  · rw [if_neg hc13] at hres
    refine am_aload_n (pc' := 120) 0 dX12_film_119 rfl rfl rfl ?_
    refine am_iload_n (pc' := 121) 3 dX12_film_120 rfl rfl rfl ?_
    refine am_iconst (pc' := 122) (v := 1) dX12_film_121 kc_1 rfl ?_
    obtain ⟨q15, hq16, hres⟩ := am_bd_s hres
    refine am_cV (pc' := 125) (st' := [.int q15.1, .int (((40 : Int32) * v2) + v6), .ref 57]) [.int (((40 : Int32) * v2) + v6), .ref 57] [.int v3, .int (1 : Int32)] dX12_film_122 cs_X12_202 (tx_X12_offerOf S0 v3 (1 : Int32) (um_hour S w1) _ hq16) rfl rfl rfl (sm_c45 S0 (um_hour S w1)) rfl rfl rfl rfl rfl ?_
    refine am_goto 129 dX12_film_125 rfl ?_
    obtain ⟨hr17, hres⟩ := am_rg hres
    refine am_iast (pc' := 130) (f := (sm_cells q15.2)) (ws' := (sx_w S0 (sm_w (um_cells q15.2 (upd (sm_cells q15.2) (((40 : Int32) * v2) + v6).toNatClampNeg q15.1))))) dX12_film_129 (sm_c57 S0 q15.2) hr17 (sm_p_cells S0 q15.2 _) rfl ?_
    refine am_iinc (pc' := 133) (ls' := [some (.ref 45), none, some (.int v2), some (.int v3), none, some (.int v5), some (.int (v6 + (1 : Int32)))]) dX12_film_130 rfl (show v6 + Int32.ofInt 1 = (v6 + (1 : Int32)) from congrArg (fun z => v6 + z) kc_1) (Nat.le_of_ble_eq_true rfl) rfl rfl rfl ?_
    refine am_goto 76 dX12_film_133 rfl ?_
    exact hk76 _ _ _ _ _ _ hres

set_option maxRecDepth 100000 in
set_option maxHeartbeats 4000000 in
theorem wx_X12_film_76 (S0 : sx_T) : ∀ (n : Nat) (v2 : Int32) (v3 : Int32) (v5 : Int32) (v6 : Int32) (S : sm_T) (res : Int32 × sm_T) (hres : fx_X12_film_76 n v2 v3 v5 v6 S = some res), am_G mX12_film (none, 6, 0, 0, (some (.int res.1)), (sx_w S0 (sm_w res.2))) (0, 0) 76 [some (.ref 45), none, some (.int v2), some (.int v3), none, some (.int v5), some (.int v6)] [] (sx_w S0 (sm_w S)) := by
  intro n
  induction n with
  | zero =>
    intro v2 v3 v5 v6 S res hres
    cases hres
  | succ n ih =>
    intro v2 v3 v5 v6 S res hres
    rw [fx_X12_film_76] at hres
    refine am_iload (pc' := 78) dX12_film_76 rfl rfl ?_
    refine am_bipush (pc' := 80) (v := 40) dX12_film_78 kb_40 rfl ?_
    refine am_icmp_ge (pc' := 83) 136 dX12_film_80 rfl rfl (fun hc10 => ?_) (fun hc10 => ?_)
    · rw [if_pos hc10] at hres
      refine am_aload_n (pc' := 137) 0 dX12_film_136 rfl rfl rfl ?_
      refine am_iload (pc' := 139) dX12_film_137 rfl rfl ?_
      refine am_put (pc' := 142) (ws' := (sx_w S0 (sm_w (um_hour S v5)))) (v := .int v5) dX12_film_139 fp_X12_22 (sm_c45 S0 S) (fun _ => ⟨rfl, rfl⟩) (Nat.le_of_ble_eq_true rfl) (sm_p_hour S0 S _) rfl ?_
      refine am_aload_n (pc' := 143) 0 dX12_film_142 rfl rfl rfl ?_
      refine am_get (pc' := 146) (v := .ref 57) dX12_film_143 fl_X12_47 (sm_c45 S0 (um_hour S v5)) rfl rfl ?_
      refine am_bipush (pc' := 148) (v := 40) dX12_film_146 kb_40 rfl ?_
      refine am_iload_n (pc' := 149) 2 dX12_film_148 rfl rfl rfl ?_
      refine am_imul (pc' := 150) dX12_film_149 rfl ?_
      refine am_iload (pc' := 152) dX12_film_150 rfl rfl ?_
      refine am_iconst (pc' := 153) (v := 0) dX12_film_152 kc_0 rfl ?_
      refine am_bipush (pc' := 155) (v := 11) dX12_film_153 kb_11 rfl ?_
      refine am_cS (pc' := 158) (st' := [.int (fx_X12_within v5 (0 : Int32) (11 : Int32)), .int ((40 : Int32) * v2), .ref 57]) [.int ((40 : Int32) * v2), .ref 57] [.int v5, .int (0 : Int32), .int (11 : Int32)] dX12_film_155 cs_X12_170 (tx_X12_within (sx_w S0 (sm_w (um_hour S v5))) v5 (0 : Int32) (11 : Int32) _ rfl) rfl rfl rfl rfl rfl rfl ?_
      refine am_iadd (pc' := 159) dX12_film_158 rfl ?_
      obtain ⟨hr11, hres⟩ := am_rg hres
      refine am_iald (pc' := 160) (f := (sm_cells S)) dX12_film_159 (sm_c57 S0 (um_hour S v5)) hr11 rfl ?_
      obtain rfl := Option.some.inj hres
      exact am_iret dX12_film_160 rfl rfl rfl
    · rw [if_neg hc10] at hres
      refine am_aload_n (pc' := 84) 0 dX12_film_83 rfl rfl rfl ?_
      refine am_iload (pc' := 86) dX12_film_84 rfl rfl ?_
      refine am_bipush (pc' := 88) (v := 12) dX12_film_86 kb_12 rfl ?_
      refine am_icmp_ge (pc' := 91) 96 dX12_film_88 rfl rfl (fun hc12 => ?_) (fun hc12 => ?_)
      · rw [if_pos hc12] at hres
        refine am_iload (pc' := 98) dX12_film_96 rfl rfl ?_
        exact wx_X12_film_98 S0 _ (fun a0 a1 a2 a3 a4 => ih a0 a1 a2 a3 a4) _ _ _ _ _ _ _ hres
      · rw [if_neg hc12] at hres
        refine am_iload (pc' := 93) dX12_film_91 rfl rfl ?_
        refine am_goto 98 dX12_film_93 rfl ?_
        exact wx_X12_film_98 S0 _ (fun a0 a1 a2 a3 a4 => ih a0 a1 a2 a3 a4) _ _ _ _ _ _ _ hres

set_option maxRecDepth 100000 in
set_option maxHeartbeats 4000000 in
theorem tx_X12_film (S0 : sx_T) (a1 : Int32) (a2 : Int32) (a3 : Int32) (S : sm_T) (res : Int32 × sm_T) (hres : fx_X12_film a1 a2 a3 S = some res) : am_T mX12_film 6 0 0 [.ref 45, .int a1, .int a2, .int a3] (sx_w S0 (sm_w S)) (some (.int res.1)) (sx_w S0 (sm_w res.2)) := by
  refine am_meth (ls := [some (.ref 45), some (.int a1), some (.int a2), some (.int a3), none, none, none]) (by decide +kernel) rfl (Nat.le_of_ble_eq_true rfl) (sm_len _ _ _ _) ?_
  rw [fx_X12_film] at hres
  refine am_iload_n (pc' := 1) 1 dX12_film_0 rfl rfl rfl ?_
  refine am_iconst (pc' := 2) (v := 0) dX12_film_1 kc_0 rfl ?_
  refine am_iconst (pc' := 3) (v := 3) dX12_film_2 kc_3 rfl ?_
  refine am_cS (pc' := 6) (st' := [.int (fx_X12_in a1 (0 : Int32) (3 : Int32))]) [] [.int a1, .int (0 : Int32), .int (3 : Int32)] dX12_film_3 cs_X12_90 (tx_X12_in (sx_w S0 (sm_w S)) a1 (0 : Int32) (3 : Int32) _ rfl) rfl rfl rfl rfl rfl rfl ?_
  refine am_if_eq (pc' := 9) 23 dX12_film_6 rfl rfl (fun hc1 => ?_) (fun hc1 => ?_)
  · rw [if_pos hc1] at hres
    refine am_bipush (pc' := 25) (v := (-2)) dX12_film_23 kb_m2 rfl ?_
    obtain rfl := Option.some.inj hres
    exact am_iret dX12_film_25 rfl rfl rfl
  · rw [if_neg hc1] at hres
    refine am_iload_n (pc' := 10) 2 dX12_film_9 rfl rfl rfl ?_
    refine am_iconst (pc' := 11) (v := 0) dX12_film_10 kc_0 rfl ?_
    refine am_iconst (pc' := 12) (v := 3) dX12_film_11 kc_3 rfl ?_
    refine am_cS (pc' := 15) (st' := [.int (fx_X12_in a2 (0 : Int32) (3 : Int32))]) [] [.int a2, .int (0 : Int32), .int (3 : Int32)] dX12_film_12 cs_X12_90 (tx_X12_in (sx_w S0 (sm_w S)) a2 (0 : Int32) (3 : Int32) _ rfl) rfl rfl rfl rfl rfl rfl ?_
    refine am_if_eq (pc' := 18) 23 dX12_film_15 rfl rfl (fun hc2 => ?_) (fun hc2 => ?_)
    · rw [if_pos hc2] at hres
      refine am_bipush (pc' := 25) (v := (-2)) dX12_film_23 kb_m2 rfl ?_
      obtain rfl := Option.some.inj hres
      exact am_iret dX12_film_25 rfl rfl rfl
    · rw [if_neg hc2] at hres
      refine am_iload_n (pc' := 19) 1 dX12_film_18 rfl rfl rfl ?_
      refine am_iload_n (pc' := 20) 2 dX12_film_19 rfl rfl rfl ?_
      refine am_icmp_ne (pc' := 23) 26 dX12_film_20 rfl rfl (fun hc3 => ?_) (fun hc3 => ?_)
      · rw [if_neg hc3] at hres
        refine am_aload_n (pc' := 27) 0 dX12_film_26 rfl rfl rfl ?_
        refine am_iload_n (pc' := 28) 1 dX12_film_27 rfl rfl rfl ?_
        obtain ⟨q4, hq5, hres⟩ := am_bd_s hres
        refine am_cV (pc' := 31) (st' := [.int q4.1]) [] [.int a1] dX12_film_28 cs_X12_197 (tx_X12_reads S0 a1 S _ hq5) rfl rfl rfl (sm_c45 S0 S) rfl rfl rfl rfl rfl ?_
        refine am_istore (pc' := 33) (ls' := [some (.ref 45), some (.int a1), some (.int a2), some (.int a3), some (.int q4.1), none, none]) dX12_film_31 (Nat.le_of_ble_eq_true rfl) rfl rfl rfl ?_
        refine am_iload (pc' := 35) dX12_film_33 rfl rfl ?_
        refine am_if_eq (pc' := 38) 41 dX12_film_35 rfl rfl (fun hc6 => ?_) (fun hc6 => ?_)
        · rw [if_pos hc6] at hres
          refine am_aload_n (pc' := 42) 0 dX12_film_41 rfl rfl rfl ?_
          refine am_iload_n (pc' := 43) 3 dX12_film_42 rfl rfl rfl ?_
          refine am_cV (pc' := 46) (st' := [.int (fx_X12_isViewer a3 q4.2)]) [] [.int a3] dX12_film_43 cs_X12_173 (tx_X12_isViewer S0 a3 q4.2 _ rfl) rfl rfl rfl (sm_c45 S0 q4.2) rfl rfl rfl rfl rfl ?_
          refine am_if_ne (pc' := 49) 52 dX12_film_46 rfl rfl (fun hc7 => ?_) (fun hc7 => ?_)
          · rw [if_neg hc7] at hres
            refine am_aload_n (pc' := 53) 0 dX12_film_52 rfl rfl rfl ?_
            refine am_get (pc' := 56) (v := .int (sm_hour q4.2)) dX12_film_53 fl_X12_22 (sm_c45 S0 q4.2) rfl rfl ?_
            refine am_istore (pc' := 58) (ls' := [some (.ref 45), some (.int a1), some (.int a2), some (.int a3), some (.int q4.1), some (.int (sm_hour q4.2)), none]) dX12_film_56 (Nat.le_of_ble_eq_true rfl) rfl rfl rfl ?_
            refine am_aload_n (pc' := 59) 0 dX12_film_58 rfl rfl rfl ?_
            refine am_get (pc' := 62) (v := .ref 55) dX12_film_59 fl_X12_41 (sm_c45 S0 q4.2) rfl rfl ?_
            refine am_iload_n (pc' := 63) 2 dX12_film_62 rfl rfl rfl ?_
            refine am_iconst (pc' := 64) (v := 2) dX12_film_63 kc_2 rfl ?_
            obtain ⟨hr8, hres⟩ := am_rg hres
            refine am_iast (pc' := 65) (f := (sm_sheetSort q4.2)) (ws' := (sx_w S0 (sm_w (um_sheetSort q4.2 (upd (sm_sheetSort q4.2) a2.toNatClampNeg (2 : Int32)))))) dX12_film_64 (sm_c55 S0 q4.2) hr8 (sm_p_sheetSort S0 q4.2 _) rfl ?_
            refine am_aload_n (pc' := 66) 0 dX12_film_65 rfl rfl rfl ?_
            refine am_get (pc' := 69) (v := .ref 56) dX12_film_66 fl_X12_44 (sm_c45 S0 (um_sheetSort q4.2 (upd (sm_sheetSort q4.2) a2.toNatClampNeg (2 : Int32)))) rfl rfl ?_
            refine am_iload_n (pc' := 70) 2 dX12_film_69 rfl rfl rfl ?_
            refine am_bipush (pc' := 72) (v := 12) dX12_film_70 kb_12 rfl ?_
            obtain ⟨hr9, hres⟩ := am_rg hres
            refine am_iast (pc' := 73) (f := (sm_sheetSize q4.2)) (ws' := (sx_w S0 (sm_w (um_sheetSize (um_sheetSort q4.2 (upd (sm_sheetSort q4.2) a2.toNatClampNeg (2 : Int32))) (upd (sm_sheetSize q4.2) a2.toNatClampNeg (12 : Int32)))))) dX12_film_72 (sm_c56 S0 (um_sheetSort q4.2 (upd (sm_sheetSort q4.2) a2.toNatClampNeg (2 : Int32)))) hr9 (sm_p_sheetSize S0 (um_sheetSort q4.2 (upd (sm_sheetSort q4.2) a2.toNatClampNeg (2 : Int32))) _) rfl ?_
            refine am_iconst (pc' := 74) (v := 0) dX12_film_73 kc_0 rfl ?_
            refine am_istore (pc' := 76) (ls' := [some (.ref 45), some (.int a1), some (.int a2), some (.int a3), some (.int q4.1), some (.int (sm_hour q4.2)), some (.int (0 : Int32))]) dX12_film_74 (Nat.le_of_ble_eq_true rfl) rfl rfl rfl ?_
            refine am_weak (ls' := [some (.ref 45), none, some (.int a2), some (.int a3), none, some (.int (sm_hour q4.2)), some (.int (0 : Int32))]) [false, true, false, false, true, false, false] rfl ?_
            exact wx_X12_film_76 S0 am_fu _ _ _ _ _ _ hres
          · rw [if_pos hc7] at hres
            refine am_bipush (pc' := 51) (v := (-5)) dX12_film_49 kb_m5 rfl ?_
            obtain rfl := Option.some.inj hres
            exact am_iret dX12_film_51 rfl rfl rfl
        · rw [if_neg hc6] at hres
          refine am_iload (pc' := 40) dX12_film_38 rfl rfl ?_
          obtain rfl := Option.some.inj hres
          exact am_iret dX12_film_40 rfl rfl rfl
      · rw [if_pos hc3] at hres
        refine am_bipush (pc' := 25) (v := (-2)) dX12_film_23 kb_m2 rfl ?_
        obtain rfl := Option.some.inj hres
        exact am_iret dX12_film_25 rfl rfl rfl
set_option maxRecDepth 100000 in
set_option maxHeartbeats 4000000 in
theorem tx_X12_force (S0 : sx_T) (a1 : Int32) (S : sm_T) (res : Int32 × sm_T) (hres : fx_X12_force a1 S = res) : am_T mX12_force 1 0 0 [.ref 45, .int a1] (sx_w S0 (sm_w S)) (some (.int res.1)) (sx_w S0 (sm_w res.2)) := by
  refine am_meth (ls := [some (.ref 45), some (.int a1), none]) (by decide +kernel) rfl (Nat.le_of_ble_eq_true rfl) (sm_len _ _ _ _) ?_
  rw [fx_X12_force] at hres
  refine am_iload_n (pc' := 1) 1 dX12_force_0 rfl rfl rfl ?_
  refine am_iconst (pc' := 2) (v := 0) dX12_force_1 kc_0 rfl ?_
  refine am_aload_n (pc' := 3) 0 dX12_force_2 rfl rfl rfl ?_
  refine am_get (pc' := 6) (v := .int (sm_texts S)) dX12_force_3 fl_X12_94 (sm_c45 S0 S) rfl rfl ?_
  refine am_iconst (pc' := 7) (v := 1) dX12_force_6 kc_1 rfl ?_
  refine am_isub (pc' := 8) dX12_force_7 rfl ?_
  refine am_cS (pc' := 11) (st' := [.int (fx_X12_in a1 (0 : Int32) ((sm_texts S) - (1 : Int32)))]) [] [.int a1, .int (0 : Int32), .int ((sm_texts S) - (1 : Int32))] dX12_force_8 cs_X12_90 (tx_X12_in (sx_w S0 (sm_w S)) a1 (0 : Int32) ((sm_texts S) - (1 : Int32)) _ rfl) rfl rfl rfl rfl rfl rfl ?_
  refine am_if_ne (pc' := 14) 17 dX12_force_11 rfl rfl (fun hc1 => ?_) (fun hc1 => ?_)
  · rw [if_neg hc1] at hres
    refine am_aload_n (pc' := 18) 0 dX12_force_17 rfl rfl rfl ?_
    refine am_get (pc' := 21) (v := .int (sm_rule S)) dX12_force_18 fl_X12_97 (sm_c45 S0 S) rfl rfl ?_
    refine am_istore_n (pc' := 22) (ls' := [some (.ref 45), some (.int a1), some (.int (sm_rule S))]) 2 dX12_force_21 rfl (Nat.le_of_ble_eq_true rfl) rfl rfl rfl ?_
    refine am_aload_n (pc' := 23) 0 dX12_force_22 rfl rfl rfl ?_
    refine am_iload_n (pc' := 24) 1 dX12_force_23 rfl rfl rfl ?_
    refine am_put (pc' := 27) (ws' := (sx_w S0 (sm_w (um_rule S a1)))) (v := .int a1) dX12_force_24 fp_X12_97 (sm_c45 S0 S) (fun _ => ⟨rfl, rfl⟩) (Nat.le_of_ble_eq_true rfl) (sm_p_rule S0 S _) rfl ?_
    refine am_iload_n (pc' := 28) 2 dX12_force_27 rfl rfl rfl ?_
    subst hres
    exact am_iret dX12_force_28 rfl rfl rfl
  · rw [if_pos hc1] at hres
    refine am_bipush (pc' := 16) (v := (-2)) dX12_force_14 kb_m2 rfl ?_
    subst hres
    exact am_iret dX12_force_16 rfl rfl rfl
set_option maxRecDepth 100000 in
set_option maxHeartbeats 4000000 in
theorem tx_X12_hours (S0 : sx_T) (a1 : Int32) (S : sm_T) (res : Int32 × sm_T) (hres : fx_X12_hours a1 S = res) : am_T mX12_hours 1 0 0 [.ref 45, .int a1] (sx_w S0 (sm_w S)) (some (.int res.1)) (sx_w S0 (sm_w res.2)) := by
  refine am_meth (ls := [some (.ref 45), some (.int a1), none]) (by decide +kernel) rfl (Nat.le_of_ble_eq_true rfl) (sm_len _ _ _ _) ?_
  rw [fx_X12_hours] at hres
  refine am_iload_n (pc' := 1) 1 dX12_hours_0 rfl rfl rfl ?_
  refine am_iconst (pc' := 2) (v := 0) dX12_hours_1 kc_0 rfl ?_
  refine am_bipush (pc' := 4) (v := 11) dX12_hours_2 kb_11 rfl ?_
  refine am_cS (pc' := 7) (st' := [.int (fx_X12_in a1 (0 : Int32) (11 : Int32))]) [] [.int a1, .int (0 : Int32), .int (11 : Int32)] dX12_hours_4 cs_X12_90 (tx_X12_in (sx_w S0 (sm_w S)) a1 (0 : Int32) (11 : Int32) _ rfl) rfl rfl rfl rfl rfl rfl ?_
  refine am_if_ne (pc' := 10) 13 dX12_hours_7 rfl rfl (fun hc1 => ?_) (fun hc1 => ?_)
  · rw [if_neg hc1] at hres
    refine am_aload_n (pc' := 14) 0 dX12_hours_13 rfl rfl rfl ?_
    refine am_get (pc' := 17) (v := .int (sm_hour S)) dX12_hours_14 fl_X12_22 (sm_c45 S0 S) rfl rfl ?_
    refine am_istore_n (pc' := 18) (ls' := [some (.ref 45), some (.int a1), some (.int (sm_hour S))]) 2 dX12_hours_17 rfl (Nat.le_of_ble_eq_true rfl) rfl rfl rfl ?_
    refine am_aload_n (pc' := 19) 0 dX12_hours_18 rfl rfl rfl ?_
    refine am_iload_n (pc' := 20) 1 dX12_hours_19 rfl rfl rfl ?_
    refine am_put (pc' := 23) (ws' := (sx_w S0 (sm_w (um_hour S a1)))) (v := .int a1) dX12_hours_20 fp_X12_22 (sm_c45 S0 S) (fun _ => ⟨rfl, rfl⟩) (Nat.le_of_ble_eq_true rfl) (sm_p_hour S0 S _) rfl ?_
    refine am_iload_n (pc' := 24) 2 dX12_hours_23 rfl rfl rfl ?_
    subst hres
    exact am_iret dX12_hours_24 rfl rfl rfl
  · rw [if_pos hc1] at hres
    refine am_bipush (pc' := 12) (v := (-2)) dX12_hours_10 kb_m2 rfl ?_
    subst hres
    exact am_iret dX12_hours_12 rfl rfl rfl
set_option maxRecDepth 100000 in
set_option maxHeartbeats 4000000 in
theorem wx_X12_image_33 (S0 : sx_T) : ∀ (n : Nat) (v1 : Int32) (S : sm_T) (res : Int32 × sm_T) (hres : fx_X12_image_33 n v1 S = some res), am_G mX12_image (none, 0, 0, 0, (some (.int res.1)), (sx_w S0 (sm_w res.2))) (0, 0) 33 [some (.ref 45), some (.int v1)] [] (sx_w S0 (sm_w S)) := by
  intro n
  induction n with
  | zero =>
    intro v1 S res hres
    cases hres
  | succ n ih =>
    intro v1 S res hres
    rw [fx_X12_image_33] at hres
    refine am_iload_n (pc' := 34) 1 dX12_image_33 rfl rfl rfl ?_
    refine am_bipush (pc' := 36) (v := 16) dX12_image_34 kb_16 rfl ?_
    refine am_icmp_ge (pc' := 39) 60 dX12_image_36 rfl rfl (fun hc2 => ?_) (fun hc2 => ?_)
    · rw [if_pos hc2] at hres
      refine am_aload_n (pc' := 61) 0 dX12_image_60 rfl rfl rfl ?_
      refine am_get (pc' := 64) (v := .ref 54) dX12_image_61 fl_X12_38 (sm_c45 S0 S) rfl rfl ?_
      refine am_iconst (pc' := 65) (v := 0) dX12_image_64 kc_0 rfl ?_
      refine am_aload_n (pc' := 66) 0 dX12_image_65 rfl rfl rfl ?_
      refine am_get (pc' := 69) (v := .int (sm_viewers S)) dX12_image_66 fl_X12_87 (sm_c45 S0 S) rfl rfl ?_
      obtain ⟨hr3, hres⟩ := am_rg hres
      refine am_iast (pc' := 70) (f := (sm_imageHeld S)) (ws' := (sx_w S0 (sm_w (um_imageHeld S (upd (sm_imageHeld S) (0 : Int32).toNatClampNeg (sm_viewers S)))))) dX12_image_69 (sm_c54 S0 S) hr3 (sm_p_imageHeld S0 S _) rfl ?_
      refine am_aload_n (pc' := 71) 0 dX12_image_70 rfl rfl rfl ?_
      refine am_get (pc' := 74) (v := .ref 54) dX12_image_71 fl_X12_38 (sm_c45 S0 (um_imageHeld S (upd (sm_imageHeld S) (0 : Int32).toNatClampNeg (sm_viewers S)))) rfl rfl ?_
      refine am_iconst (pc' := 75) (v := 1) dX12_image_74 kc_1 rfl ?_
      refine am_aload_n (pc' := 76) 0 dX12_image_75 rfl rfl rfl ?_
      refine am_get (pc' := 79) (v := .int (sm_hour S)) dX12_image_76 fl_X12_22 (sm_c45 S0 (um_imageHeld S (upd (sm_imageHeld S) (0 : Int32).toNatClampNeg (sm_viewers S)))) rfl rfl ?_
      obtain ⟨hr4, hres⟩ := am_rg hres
      refine am_iast (pc' := 80) (f := (upd (sm_imageHeld S) (0 : Int32).toNatClampNeg (sm_viewers S))) (ws' := (sx_w S0 (sm_w (um_imageHeld (um_imageHeld S (upd (sm_imageHeld S) (0 : Int32).toNatClampNeg (sm_viewers S))) (upd (upd (sm_imageHeld S) (0 : Int32).toNatClampNeg (sm_viewers S)) (1 : Int32).toNatClampNeg (sm_hour S)))))) dX12_image_79 (sm_c54 S0 (um_imageHeld S (upd (sm_imageHeld S) (0 : Int32).toNatClampNeg (sm_viewers S)))) hr4 (sm_p_imageHeld S0 (um_imageHeld S (upd (sm_imageHeld S) (0 : Int32).toNatClampNeg (sm_viewers S))) _) rfl ?_
      refine am_aload_n (pc' := 81) 0 dX12_image_80 rfl rfl rfl ?_
      refine am_get (pc' := 84) (v := .ref 54) dX12_image_81 fl_X12_38 (sm_c45 S0 (um_imageHeld (um_imageHeld S (upd (sm_imageHeld S) (0 : Int32).toNatClampNeg (sm_viewers S))) (upd (upd (sm_imageHeld S) (0 : Int32).toNatClampNeg (sm_viewers S)) (1 : Int32).toNatClampNeg (sm_hour S)))) rfl rfl ?_
      refine am_iconst (pc' := 85) (v := 2) dX12_image_84 kc_2 rfl ?_
      refine am_aload_n (pc' := 86) 0 dX12_image_85 rfl rfl rfl ?_
      refine am_get (pc' := 89) (v := .int (sm_rule S)) dX12_image_86 fl_X12_97 (sm_c45 S0 (um_imageHeld (um_imageHeld S (upd (sm_imageHeld S) (0 : Int32).toNatClampNeg (sm_viewers S))) (upd (upd (sm_imageHeld S) (0 : Int32).toNatClampNeg (sm_viewers S)) (1 : Int32).toNatClampNeg (sm_hour S)))) rfl rfl ?_
      obtain ⟨hr5, hres⟩ := am_rg hres
      refine am_iast (pc' := 90) (f := (upd (upd (sm_imageHeld S) (0 : Int32).toNatClampNeg (sm_viewers S)) (1 : Int32).toNatClampNeg (sm_hour S))) (ws' := (sx_w S0 (sm_w (um_imageHeld (um_imageHeld (um_imageHeld S (upd (sm_imageHeld S) (0 : Int32).toNatClampNeg (sm_viewers S))) (upd (upd (sm_imageHeld S) (0 : Int32).toNatClampNeg (sm_viewers S)) (1 : Int32).toNatClampNeg (sm_hour S))) (upd (upd (upd (sm_imageHeld S) (0 : Int32).toNatClampNeg (sm_viewers S)) (1 : Int32).toNatClampNeg (sm_hour S)) (2 : Int32).toNatClampNeg (sm_rule S)))))) dX12_image_89 (sm_c54 S0 (um_imageHeld (um_imageHeld S (upd (sm_imageHeld S) (0 : Int32).toNatClampNeg (sm_viewers S))) (upd (upd (sm_imageHeld S) (0 : Int32).toNatClampNeg (sm_viewers S)) (1 : Int32).toNatClampNeg (sm_hour S)))) hr5 (sm_p_imageHeld S0 (um_imageHeld (um_imageHeld S (upd (sm_imageHeld S) (0 : Int32).toNatClampNeg (sm_viewers S))) (upd (upd (sm_imageHeld S) (0 : Int32).toNatClampNeg (sm_viewers S)) (1 : Int32).toNatClampNeg (sm_hour S))) _) rfl ?_
      refine am_aload_n (pc' := 91) 0 dX12_image_90 rfl rfl rfl ?_
      refine am_get (pc' := 94) (v := .int (sm_viewers S)) dX12_image_91 fl_X12_87 (sm_c45 S0 (um_imageHeld (um_imageHeld (um_imageHeld S (upd (sm_imageHeld S) (0 : Int32).toNatClampNeg (sm_viewers S))) (upd (upd (sm_imageHeld S) (0 : Int32).toNatClampNeg (sm_viewers S)) (1 : Int32).toNatClampNeg (sm_hour S))) (upd (upd (upd (sm_imageHeld S) (0 : Int32).toNatClampNeg (sm_viewers S)) (1 : Int32).toNatClampNeg (sm_hour S)) (2 : Int32).toNatClampNeg (sm_rule S)))) rfl rfl ?_
      obtain rfl := Option.some.inj hres
      exact am_iret dX12_image_94 rfl rfl rfl
    · rw [if_neg hc2] at hres
      refine am_aload_n (pc' := 40) 0 dX12_image_39 rfl rfl rfl ?_
      refine am_get (pc' := 43) (v := .ref 53) dX12_image_40 fl_X12_35 (sm_c45 S0 S) rfl rfl ?_
      refine am_bipush (pc' := 45) (v := 12) dX12_image_43 kb_12 rfl ?_
      refine am_iload_n (pc' := 46) 1 dX12_image_45 rfl rfl rfl ?_
      refine am_iadd (pc' := 47) dX12_image_46 rfl ?_
      refine am_aload_n (pc' := 48) 0 dX12_image_47 rfl rfl rfl ?_
      refine am_get (pc' := 51) (v := .ref 48) dX12_image_48 fl_X12_16 (sm_c45 S0 S) rfl rfl ?_
      refine am_iload_n (pc' := 52) 1 dX12_image_51 rfl rfl rfl ?_
      obtain ⟨hr6, hres⟩ := am_rg hres
      refine am_iald (pc' := 53) (f := (sm_ones S)) dX12_image_52 (sm_c48 S0 S) hr6 rfl ?_
      obtain ⟨hr7, hres⟩ := am_rg hres
      refine am_iast (pc' := 54) (f := (sm_imageRows S)) (ws' := (sx_w S0 (sm_w (um_imageRows S (upd (sm_imageRows S) ((12 : Int32) + v1).toNatClampNeg ((sm_ones S) v1.toNatClampNeg)))))) dX12_image_53 (sm_c53 S0 S) hr7 (sm_p_imageRows S0 S _) rfl ?_
      refine am_iinc (pc' := 57) (ls' := [some (.ref 45), some (.int (v1 + (1 : Int32)))]) dX12_image_54 rfl (show v1 + Int32.ofInt 1 = (v1 + (1 : Int32)) from congrArg (fun z => v1 + z) kc_1) (Nat.le_of_ble_eq_true rfl) rfl rfl rfl ?_
      refine am_goto 33 dX12_image_57 rfl ?_
      exact ih _ _ _ hres

set_option maxRecDepth 100000 in
set_option maxHeartbeats 4000000 in
theorem wx_X12_image_7 (S0 : sx_T) : ∀ (n : Nat) (v1 : Int32) (S : sm_T) (res : Int32 × sm_T) (hres : fx_X12_image_7 n v1 S = some res), am_G mX12_image (none, 0, 0, 0, (some (.int res.1)), (sx_w S0 (sm_w res.2))) (0, 0) 7 [some (.ref 45), some (.int v1)] [] (sx_w S0 (sm_w S)) := by
  intro n
  induction n with
  | zero =>
    intro v1 S res hres
    cases hres
  | succ n ih =>
    intro v1 S res hres
    rw [fx_X12_image_7] at hres
    refine am_iload_n (pc' := 8) 1 dX12_image_7 rfl rfl rfl ?_
    refine am_bipush (pc' := 10) (v := 12) dX12_image_8 kb_12 rfl ?_
    refine am_icmp_ge (pc' := 13) 31 dX12_image_10 rfl rfl (fun hc1 => ?_) (fun hc1 => ?_)
    · rw [if_pos hc1] at hres
      refine am_iconst (pc' := 32) (v := 0) dX12_image_31 kc_0 rfl ?_
      refine am_istore_n (pc' := 33) (ls' := [some (.ref 45), some (.int (0 : Int32))]) 1 dX12_image_32 rfl (Nat.le_of_ble_eq_true rfl) rfl rfl rfl ?_
      exact wx_X12_image_33 S0 am_fu _ _ _ hres
    · rw [if_neg hc1] at hres
      refine am_aload_n (pc' := 14) 0 dX12_image_13 rfl rfl rfl ?_
      refine am_get (pc' := 17) (v := .ref 53) dX12_image_14 fl_X12_35 (sm_c45 S0 S) rfl rfl ?_
      refine am_iload_n (pc' := 18) 1 dX12_image_17 rfl rfl rfl ?_
      refine am_aload_n (pc' := 19) 0 dX12_image_18 rfl rfl rfl ?_
      refine am_get (pc' := 22) (v := .ref 49) dX12_image_19 fl_X12_19 (sm_c45 S0 S) rfl rfl ?_
      refine am_iload_n (pc' := 23) 1 dX12_image_22 rfl rfl rfl ?_
      obtain ⟨hr8, hres⟩ := am_rg hres
      refine am_iald (pc' := 24) (f := (sm_flat S)) dX12_image_23 (sm_c49 S0 S) hr8 rfl ?_
      obtain ⟨hr9, hres⟩ := am_rg hres
      refine am_iast (pc' := 25) (f := (sm_imageRows S)) (ws' := (sx_w S0 (sm_w (um_imageRows S (upd (sm_imageRows S) v1.toNatClampNeg ((sm_flat S) v1.toNatClampNeg)))))) dX12_image_24 (sm_c53 S0 S) hr9 (sm_p_imageRows S0 S _) rfl ?_
      refine am_iinc (pc' := 28) (ls' := [some (.ref 45), some (.int (v1 + (1 : Int32)))]) dX12_image_25 rfl (show v1 + Int32.ofInt 1 = (v1 + (1 : Int32)) from congrArg (fun z => v1 + z) kc_1) (Nat.le_of_ble_eq_true rfl) rfl rfl rfl ?_
      refine am_goto 7 dX12_image_28 rfl ?_
      exact ih _ _ _ hres

set_option maxRecDepth 100000 in
set_option maxHeartbeats 4000000 in
theorem tx_X12_image (S0 : sx_T) (S : sm_T) (res : Int32 × sm_T) (hres : fx_X12_image S = some res) : am_T mX12_image 0 0 0 [.ref 45] (sx_w S0 (sm_w S)) (some (.int res.1)) (sx_w S0 (sm_w res.2)) := by
  refine am_meth (ls := [some (.ref 45), none]) (by decide +kernel) rfl (Nat.le_of_ble_eq_true rfl) (sm_len _ _ _ _) ?_
  rw [fx_X12_image] at hres
  refine am_aload_n (pc' := 1) 0 dX12_image_0 rfl rfl rfl ?_
  refine am_iconst (pc' := 2) (v := 1) dX12_image_1 kc_1 rfl ?_
  refine am_put (pc' := 5) (ws' := (sx_w S0 (sm_w (um_hasImage S (1 : Int32))))) (v := .int (1 : Int32)) dX12_image_2 fp_X12_259 (sm_c45 S0 S) (fun _ => ⟨rfl, rfl⟩) (Nat.le_of_ble_eq_true rfl) (sm_p_hasImage S0 S _) rfl ?_
  refine am_iconst (pc' := 6) (v := 0) dX12_image_5 kc_0 rfl ?_
  refine am_istore_n (pc' := 7) (ls' := [some (.ref 45), some (.int (0 : Int32))]) 1 dX12_image_6 rfl (Nat.le_of_ble_eq_true rfl) rfl rfl rfl ?_
  exact wx_X12_image_7 S0 am_fu _ _ _ hres
set_option maxRecDepth 100000 in
set_option maxHeartbeats 4000000 in
theorem wx_X12_isOrder_10 (S0 : sx_T) : ∀ (n : Nat) (v2 : Int32) (v3 : Int32) (v4 : Int32) (v5 : Int32) (S : sm_T) (res : Int32 × sm_T) (hres : fx_X12_isOrder_10 n v2 v3 v4 v5 S = some res), am_G mX12_isOrder (none, 0, 0, 0, (some (.int res.1)), (sx_w S0 (sm_w res.2))) (0, 0) 10 [some (.ref 45), none, some (.int v2), some (.int v3), some (.int v4), some (.int v5)] [] (sx_w S0 (sm_w S)) := by
  intro n
  induction n with
  | zero =>
    intro v2 v3 v4 v5 S res hres
    cases hres
  | succ n ih =>
    intro v2 v3 v4 v5 S res hres
    rw [fx_X12_isOrder_10] at hres
    refine am_iload (pc' := 12) dX12_isOrder_10 rfl rfl ?_
    refine am_if_lt (pc' := 15) 67 dX12_isOrder_12 rfl rfl (fun hc1 => ?_) (fun hc1 => ?_)
    · rw [if_pos hc1] at hres
      refine am_iconst (pc' := 68) (v := 1) dX12_isOrder_67 kc_1 rfl ?_
      obtain rfl := Option.some.inj hres
      exact am_zret dX12_isOrder_68 rfl rfl rfl rfl
    · rw [if_neg hc1] at hres
      refine am_aload_n (pc' := 16) 0 dX12_isOrder_15 rfl rfl rfl ?_
      refine am_get (pc' := 19) (v := .ref 67) dX12_isOrder_16 fl_X12_77 (sm_c45 S0 S) rfl rfl ?_
      refine am_iload (pc' := 21) dX12_isOrder_19 rfl rfl ?_
      refine am_iload (pc' := 23) dX12_isOrder_21 rfl rfl ?_
      refine am_iload_n (pc' := 24) 2 dX12_isOrder_23 rfl rfl rfl ?_
      obtain ⟨hz2, hres⟩ := am_rg hres
      refine am_irem (pc' := 25) dX12_isOrder_24 hz2 rfl ?_
      obtain ⟨hr3, hres⟩ := am_rg hres
      refine am_iast (pc' := 26) (f := (sm_comer S)) (ws' := (sx_w S0 (sm_w (um_comer S (upd (sm_comer S) v5.toNatClampNeg (v4 - v4 / v2 * v2)))))) dX12_isOrder_25 (sm_c67 S0 S) hr3 (sm_p_comer S0 S _) rfl ?_
      refine am_iload (pc' := 28) dX12_isOrder_26 rfl rfl ?_
      refine am_iload_n (pc' := 29) 2 dX12_isOrder_28 rfl rfl rfl ?_
      obtain ⟨hz4, hres⟩ := am_rg hres
      refine am_idiv (pc' := 30) dX12_isOrder_29 hz4 rfl ?_
      refine am_istore (pc' := 32) (ls' := [some (.ref 45), none, some (.int v2), some (.int v3), some (.int (v4 / v2)), some (.int v5)]) dX12_isOrder_30 (Nat.le_of_ble_eq_true rfl) rfl rfl rfl ?_
      refine am_iload_n (pc' := 33) 3 dX12_isOrder_32 rfl rfl rfl ?_
      refine am_aload_n (pc' := 34) 0 dX12_isOrder_33 rfl rfl rfl ?_
      refine am_get (pc' := 37) (v := .ref 67) dX12_isOrder_34 fl_X12_77 (sm_c45 S0 (um_comer S (upd (sm_comer S) v5.toNatClampNeg (v4 - v4 / v2 * v2)))) rfl rfl ?_
      refine am_iload (pc' := 39) dX12_isOrder_37 rfl rfl ?_
      obtain ⟨hr5, hres⟩ := am_rg hres
      refine am_iald (pc' := 40) (f := (upd (sm_comer S) v5.toNatClampNeg (v4 - v4 / v2 * v2))) dX12_isOrder_39 (sm_c67 S0 (um_comer S (upd (sm_comer S) v5.toNatClampNeg (v4 - v4 / v2 * v2)))) hr5 rfl ?_
      refine am_ishr (pc' := 41) dX12_isOrder_40 rfl ?_
      refine am_iconst (pc' := 42) (v := 1) dX12_isOrder_41 kc_1 rfl ?_
      refine am_iand (pc' := 43) dX12_isOrder_42 rfl ?_
      refine am_iconst (pc' := 44) (v := 1) dX12_isOrder_43 kc_1 rfl ?_
      refine am_icmp_ne (pc' := 47) 49 dX12_isOrder_44 rfl rfl (fun hc6 => ?_) (fun hc6 => ?_)
      · rw [if_neg hc6] at hres
        refine am_iload_n (pc' := 50) 3 dX12_isOrder_49 rfl rfl rfl ?_
        refine am_iconst (pc' := 51) (v := 1) dX12_isOrder_50 kc_1 rfl ?_
        refine am_aload_n (pc' := 52) 0 dX12_isOrder_51 rfl rfl rfl ?_
        refine am_get (pc' := 55) (v := .ref 67) dX12_isOrder_52 fl_X12_77 (sm_c45 S0 (um_comer S (upd (sm_comer S) v5.toNatClampNeg (v4 - v4 / v2 * v2)))) rfl rfl ?_
        refine am_iload (pc' := 57) dX12_isOrder_55 rfl rfl ?_
        obtain ⟨hr7, hres⟩ := am_rg hres
        refine am_iald (pc' := 58) (f := (upd (sm_comer S) v5.toNatClampNeg (v4 - v4 / v2 * v2))) dX12_isOrder_57 (sm_c67 S0 (um_comer S (upd (sm_comer S) v5.toNatClampNeg (v4 - v4 / v2 * v2)))) hr7 rfl ?_
        refine am_ishl (pc' := 59) dX12_isOrder_58 rfl ?_
        refine am_ior (pc' := 60) dX12_isOrder_59 rfl ?_
        refine am_istore_n (pc' := 61) (ls' := [some (.ref 45), none, some (.int v2), some (.int (v3 ||| ((1 : Int32) <<< (((upd (sm_comer S) v5.toNatClampNeg (v4 - v4 / v2 * v2)) v5.toNatClampNeg) &&& 31)))), some (.int (v4 / v2)), some (.int v5)]) 3 dX12_isOrder_60 rfl (Nat.le_of_ble_eq_true rfl) rfl rfl rfl ?_
        refine am_iinc (pc' := 64) (ls' := [some (.ref 45), none, some (.int v2), some (.int (v3 ||| ((1 : Int32) <<< (((upd (sm_comer S) v5.toNatClampNeg (v4 - v4 / v2 * v2)) v5.toNatClampNeg) &&& 31)))), some (.int (v4 / v2)), some (.int (v5 + (-1 : Int32)))]) dX12_isOrder_61 rfl (show v5 + Int32.ofInt (-1) = (v5 + (-1 : Int32)) from congrArg (fun z => v5 + z) kc_m1) (Nat.le_of_ble_eq_true rfl) rfl rfl rfl ?_
        refine am_goto 10 dX12_isOrder_64 rfl ?_
        exact ih _ _ _ _ _ _ hres
      · rw [if_pos hc6] at hres
        refine am_iconst (pc' := 48) (v := 0) dX12_isOrder_47 kc_0 rfl ?_
        obtain rfl := Option.some.inj hres
        exact am_zret dX12_isOrder_48 rfl rfl rfl rfl

set_option maxRecDepth 100000 in
set_option maxHeartbeats 4000000 in
theorem tx_X12_isOrder (S0 : sx_T) (a1 : Int32) (a2 : Int32) (S : sm_T) (res : Int32 × sm_T) (hres : fx_X12_isOrder a1 a2 S = some res) : am_T mX12_isOrder 0 0 0 [.ref 45, .int a1, .int a2] (sx_w S0 (sm_w S)) (some (.int res.1)) (sx_w S0 (sm_w res.2)) := by
  refine am_meth (ls := [some (.ref 45), some (.int a1), some (.int a2), none, none, none]) (by decide +kernel) rfl (Nat.le_of_ble_eq_true rfl) (sm_len _ _ _ _) ?_
  rw [fx_X12_isOrder] at hres
  refine am_iconst (pc' := 1) (v := 0) dX12_isOrder_0 kc_0 rfl ?_
  refine am_istore_n (pc' := 2) (ls' := [some (.ref 45), some (.int a1), some (.int a2), some (.int (0 : Int32)), none, none]) 3 dX12_isOrder_1 rfl (Nat.le_of_ble_eq_true rfl) rfl rfl rfl ?_
  refine am_iload_n (pc' := 3) 1 dX12_isOrder_2 rfl rfl rfl ?_
  refine am_istore (pc' := 5) (ls' := [some (.ref 45), some (.int a1), some (.int a2), some (.int (0 : Int32)), some (.int a1), none]) dX12_isOrder_3 (Nat.le_of_ble_eq_true rfl) rfl rfl rfl ?_
  refine am_iload_n (pc' := 6) 2 dX12_isOrder_5 rfl rfl rfl ?_
  refine am_iconst (pc' := 7) (v := 1) dX12_isOrder_6 kc_1 rfl ?_
  refine am_isub (pc' := 8) dX12_isOrder_7 rfl ?_
  refine am_istore (pc' := 10) (ls' := [some (.ref 45), some (.int a1), some (.int a2), some (.int (0 : Int32)), some (.int a1), some (.int (a2 - (1 : Int32)))]) dX12_isOrder_8 (Nat.le_of_ble_eq_true rfl) rfl rfl rfl ?_
  refine am_weak (ls' := [some (.ref 45), none, some (.int a2), some (.int (0 : Int32)), some (.int a1), some (.int (a2 - (1 : Int32)))]) [false, true, false, false, false, false] rfl ?_
  exact wx_X12_isOrder_10 S0 am_fu _ _ _ _ _ _ hres
