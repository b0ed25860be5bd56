def lx_hours (a1 : Int32) (S : sx_T) : Option (Int32 × sx_T) := some (fx_X11_hours a1 S)
def lm_hours (a1 : Int32) (M : sm_T) : Option (Int32 × sm_T) := some (fx_X12_hours a1 M)
def lq_hours (R : sx_T → sm_T → Prop) : Prop := ∀ (S : sx_T) (M : sm_T), R S M → ∀ a1 : Int32, ∃ r S' M', lx_hours a1 S = some (r, S') ∧ lm_hours a1 M = some (r, M') ∧ R S' M'
set_option maxHeartbeats 100000 in
theorem lk_hours {L : Nat} {xs : Nat → Int32} {n : Nat} (hn : n + 7 ≤ L) (hL : L ≤ 3584) {S S' : sx_T} {M M' : sm_T} {r : Int32} (h1 : lx_hours (xs (n + 1)) S = some (r, S')) (h2 : lm_hours (xs (n + 1)) M = some (r, M'))
    (kk : am_G mL_law (lw_g L xs) lw_kn 1627 [some (.ref 1050), some (.ref 0), some (.ref 45), some (.int (nI n))] [] (sx_w S' (sm_w M'))) : am_G mL_law (lw_g L xs) lw_kn 211 [some (.ref 1050), some (.ref 0), some (.ref 45), some (.int (nI n))] [] (sx_w S (sm_w M)) := by
  have h1p : fx_X11_hours (xs (n + 1)) S = (r, S') := Option.some.inj h1
  have h2p : fx_X12_hours (xs (n + 1)) M = (r, M') := Option.some.inj h2
  refine am_aload_n (pc' := 212) 1 dL_law_211 rfl rfl rfl ?_
  refine am_aload_n (pc' := 213) 0 dL_law_212 rfl rfl rfl ?_
  refine am_iload_n (pc' := 214) 3 dL_law_213 rfl rfl rfl ?_
  refine am_iconst (pc' := 215) (v := 1) dL_law_214 kc_1 rfl ?_
  refine am_iadd (pc' := 216) dL_law_215 rfl ?_
  refine lw_ld (pc' := 217) (n + 1) (lw_j1 n) (by omega) hL dL_law_216 rfl ?_
  refine lw_call (pc' := 220) (w1 := (sx_w S' (sm_w M))) (v := .int r) [] [.int (xs (n + 1))] dL_law_217 cs_L_18 (tx_X11_hours (sm_w M) (xs (n + 1)) S (r, S') h1p) rfl rfl rfl rfl rfl (Nat.le_of_ble_eq_true rfl) rfl rfl rfl ?_
  refine am_aload_n (pc' := 221) 2 dL_law_220 rfl rfl rfl ?_
  refine am_aload_n (pc' := 222) 0 dL_law_221 rfl rfl rfl ?_
  refine am_iload_n (pc' := 223) 3 dL_law_222 rfl rfl rfl ?_
  refine am_iconst (pc' := 224) (v := 1) dL_law_223 kc_1 rfl ?_
  refine am_iadd (pc' := 225) dL_law_224 rfl ?_
  refine lw_ld (pc' := 226) (n + 1) (lw_j1 n) (by omega) hL dL_law_225 rfl ?_
  refine lw_call (pc' := 229) (w1 := (sx_w S' (sm_w M'))) (v := .int r) [.int r] [.int (xs (n + 1))] dL_law_226 cs_L_21 (tx_X12_hours S' (xs (n + 1)) M (r, M') h2p) rfl rfl rfl rfl rfl (Nat.le_of_ble_eq_true rfl) rfl rfl rfl ?_
  exact am_icmp_eq (pc' := 232) 1627 dL_law_229 rfl rfl (fun _ => kk) (fun h => absurd rfl h)
def lx_room (a1 a2 a3 : Int32) (S : sx_T) : Option (Int32 × sx_T) := some (fx_X11_room a1 a2 a3 S)
def lm_room (a1 a2 a3 : Int32) (M : sm_T) : Option (Int32 × sm_T) := fx_X12_room a1 a2 a3 M
def lq_room (R : sx_T → sm_T → Prop) : Prop := ∀ (S : sx_T) (M : sm_T), R S M → ∀ a1 a2 a3 : Int32, ∃ r S' M', lx_room a1 a2 a3 S = some (r, S') ∧ lm_room a1 a2 a3 M = some (r, M') ∧ R S' M'
set_option maxHeartbeats 100000 in
theorem lk_room {L : Nat} {xs : Nat → Int32} {n : Nat} (hn : n + 7 ≤ L) (hL : L ≤ 3584) {S S' : sx_T} {M M' : sm_T} {r : Int32} (h1 : lx_room (xs (n + 1)) (xs (n + 2)) (xs (n + 3)) S = some (r, S')) (h2 : lm_room (xs (n + 1)) (xs (n + 2)) (xs (n + 3)) M = some (r, M'))
    (kk : am_G mL_law (lw_g L xs) lw_kn 1627 [some (.ref 1050), some (.ref 0), some (.ref 45), some (.int (nI n))] [] (sx_w S' (sm_w M'))) : am_G mL_law (lw_g L xs) lw_kn 234 [some (.ref 1050), some (.ref 0), some (.ref 45), some (.int (nI n))] [] (sx_w S (sm_w M)) := by
  have h1p : fx_X11_room (xs (n + 1)) (xs (n + 2)) (xs (n + 3)) S = (r, S') := Option.some.inj h1
  have h2p : fx_X12_room (xs (n + 1)) (xs (n + 2)) (xs (n + 3)) M = some (r, M') := h2
  refine am_aload_n (pc' := 235) 1 dL_law_234 rfl rfl rfl ?_
  refine am_aload_n (pc' := 236) 0 dL_law_235 rfl rfl rfl ?_
  refine am_iload_n (pc' := 237) 3 dL_law_236 rfl rfl rfl ?_
  refine am_iconst (pc' := 238) (v := 1) dL_law_237 kc_1 rfl ?_
  refine am_iadd (pc' := 239) dL_law_238 rfl ?_
  refine lw_ld (pc' := 240) (n + 1) (lw_j1 n) (by omega) hL dL_law_239 rfl ?_
  refine am_aload_n (pc' := 241) 0 dL_law_240 rfl rfl rfl ?_
  refine am_iload_n (pc' := 242) 3 dL_law_241 rfl rfl rfl ?_
  refine am_iconst (pc' := 243) (v := 2) dL_law_242 kc_2 rfl ?_
  refine am_iadd (pc' := 244) dL_law_243 rfl ?_
  refine lw_ld (pc' := 245) (n + 2) (lw_j2 n) (by omega) hL dL_law_244 rfl ?_
  refine am_aload_n (pc' := 246) 0 dL_law_245 rfl rfl rfl ?_
  refine am_iload_n (pc' := 247) 3 dL_law_246 rfl rfl rfl ?_
  refine am_iconst (pc' := 248) (v := 3) dL_law_247 kc_3 rfl ?_
  refine am_iadd (pc' := 249) dL_law_248 rfl ?_
  refine lw_ld (pc' := 250) (n + 3) (lw_j3 n) (by omega) hL dL_law_249 rfl ?_
  refine lw_call (pc' := 253) (w1 := (sx_w S' (sm_w M))) (v := .int r) [] [.int (xs (n + 1)), .int (xs (n + 2)), .int (xs (n + 3))] dL_law_250 cs_L_22 (tx_X11_room (sm_w M) (xs (n + 1)) (xs (n + 2)) (xs (n + 3)) S (r, S') h1p) rfl rfl rfl rfl rfl (Nat.le_of_ble_eq_true rfl) rfl rfl rfl ?_
  refine am_aload_n (pc' := 254) 2 dL_law_253 rfl rfl rfl ?_
  refine am_aload_n (pc' := 255) 0 dL_law_254 rfl rfl rfl ?_
  refine am_iload_n (pc' := 256) 3 dL_law_255 rfl rfl rfl ?_
  refine am_iconst (pc' := 257) (v := 1) dL_law_256 kc_1 rfl ?_
  refine am_iadd (pc' := 258) dL_law_257 rfl ?_
  refine lw_ld (pc' := 259) (n + 1) (lw_j1 n) (by omega) hL dL_law_258 rfl ?_
  refine am_aload_n (pc' := 260) 0 dL_law_259 rfl rfl rfl ?_
  refine am_iload_n (pc' := 261) 3 dL_law_260 rfl rfl rfl ?_
  refine am_iconst (pc' := 262) (v := 2) dL_law_261 kc_2 rfl ?_
  refine am_iadd (pc' := 263) dL_law_262 rfl ?_
  refine lw_ld (pc' := 264) (n + 2) (lw_j2 n) (by omega) hL dL_law_263 rfl ?_
  refine am_aload_n (pc' := 265) 0 dL_law_264 rfl rfl rfl ?_
  refine am_iload_n (pc' := 266) 3 dL_law_265 rfl rfl rfl ?_
  refine am_iconst (pc' := 267) (v := 3) dL_law_266 kc_3 rfl ?_
  refine am_iadd (pc' := 268) dL_law_267 rfl ?_
  refine lw_ld (pc' := 269) (n + 3) (lw_j3 n) (by omega) hL dL_law_268 rfl ?_
  refine lw_call (pc' := 272) (w1 := (sx_w S' (sm_w M'))) (v := .int r) [.int r] [.int (xs (n + 1)), .int (xs (n + 2)), .int (xs (n + 3))] dL_law_269 cs_L_26 (tx_X12_room S' (xs (n + 1)) (xs (n + 2)) (xs (n + 3)) M (r, M') h2p) rfl rfl rfl rfl rfl (Nat.le_of_ble_eq_true rfl) rfl rfl rfl ?_
  exact am_icmp_eq (pc' := 275) 1627 dL_law_272 rfl rfl (fun _ => kk) (fun h => absurd rfl h)
def lx_told (a1 a2 : Int32) (S : sx_T) : Option (Int32 × sx_T) := some (fx_X11_told a1 a2 S, S)
def lm_told (a1 a2 : Int32) (M : sm_T) : Option (Int32 × sm_T) := (fx_X12_told a1 a2 M).map (fun r => (r, M))
def lq_told (R : sx_T → sm_T → Prop) : Prop := ∀ (S : sx_T) (M : sm_T), R S M → ∀ a1 a2 : Int32, ∃ r S' M', lx_told a1 a2 S = some (r, S') ∧ lm_told a1 a2 M = some (r, M') ∧ R S' M'
set_option maxHeartbeats 100000 in
theorem lk_told {L : Nat} {xs : Nat → Int32} {n : Nat} (hn : n + 7 ≤ L) (hL : L ≤ 3584) {S S' : sx_T} {M M' : sm_T} {r : Int32} (h1 : lx_told (xs (n + 1)) (xs (n + 2)) S = some (r, S')) (h2 : lm_told (xs (n + 1)) (xs (n + 2)) M = some (r, M'))
    (kk : am_G mL_law (lw_g L xs) lw_kn 1627 [some (.ref 1050), some (.ref 0), some (.ref 45), some (.int (nI n))] [] (sx_w S' (sm_w M'))) : am_G mL_law (lw_g L xs) lw_kn 277 [some (.ref 1050), some (.ref 0), some (.ref 45), some (.int (nI n))] [] (sx_w S (sm_w M)) := by
  have h1q := Prod.mk.inj (Option.some.inj (show some (fx_X11_told (xs (n + 1)) (xs (n + 2)) S, S) = some (r, S') from h1))
  obtain ⟨h1p, rfl⟩ := h1q
  have h2p : fx_X12_told (xs (n + 1)) (xs (n + 2)) M = some r ∧ M = M' := by
    have q : (fx_X12_told (xs (n + 1)) (xs (n + 2)) M).map (fun r => (r, M)) = some (r, M') := h2
    cases e : fx_X12_told (xs (n + 1)) (xs (n + 2)) M with
    | none => rw [e] at q; cases q
    | some v => rw [e] at q; cases q; exact ⟨rfl, rfl⟩
  obtain ⟨h2p, rfl⟩ := h2p
  refine am_aload_n (pc' := 278) 1 dL_law_277 rfl rfl rfl ?_
  refine am_aload_n (pc' := 279) 0 dL_law_278 rfl rfl rfl ?_
  refine am_iload_n (pc' := 280) 3 dL_law_279 rfl rfl rfl ?_
  refine am_iconst (pc' := 281) (v := 1) dL_law_280 kc_1 rfl ?_
  refine am_iadd (pc' := 282) dL_law_281 rfl ?_
  refine lw_ld (pc' := 283) (n + 1) (lw_j1 n) (by omega) hL dL_law_282 rfl ?_
  refine am_aload_n (pc' := 284) 0 dL_law_283 rfl rfl rfl ?_
  refine am_iload_n (pc' := 285) 3 dL_law_284 rfl rfl rfl ?_
  refine am_iconst (pc' := 286) (v := 2) dL_law_285 kc_2 rfl ?_
  refine am_iadd (pc' := 287) dL_law_286 rfl ?_
  refine lw_ld (pc' := 288) (n + 2) (lw_j2 n) (by omega) hL dL_law_287 rfl ?_
  refine lw_call (pc' := 291) (w1 := (sx_w S (sm_w M))) (v := .int r) [] [.int (xs (n + 1)), .int (xs (n + 2))] dL_law_288 cs_L_27 (tx_X11_told (sm_w M) (xs (n + 1)) (xs (n + 2)) S r h1p) rfl rfl rfl rfl rfl (Nat.le_of_ble_eq_true rfl) rfl rfl rfl ?_
  refine am_aload_n (pc' := 292) 2 dL_law_291 rfl rfl rfl ?_
  refine am_aload_n (pc' := 293) 0 dL_law_292 rfl rfl rfl ?_
  refine am_iload_n (pc' := 294) 3 dL_law_293 rfl rfl rfl ?_
  refine am_iconst (pc' := 295) (v := 1) dL_law_294 kc_1 rfl ?_
  refine am_iadd (pc' := 296) dL_law_295 rfl ?_
  refine lw_ld (pc' := 297) (n + 1) (lw_j1 n) (by omega) hL dL_law_296 rfl ?_
  refine am_aload_n (pc' := 298) 0 dL_law_297 rfl rfl rfl ?_
  refine am_iload_n (pc' := 299) 3 dL_law_298 rfl rfl rfl ?_
  refine am_iconst (pc' := 300) (v := 2) dL_law_299 kc_2 rfl ?_
  refine am_iadd (pc' := 301) dL_law_300 rfl ?_
  refine lw_ld (pc' := 302) (n + 2) (lw_j2 n) (by omega) hL dL_law_301 rfl ?_
  refine lw_call (pc' := 305) (w1 := (sx_w S (sm_w M))) (v := .int r) [.int r] [.int (xs (n + 1)), .int (xs (n + 2))] dL_law_302 cs_L_31 (tx_X12_told S (xs (n + 1)) (xs (n + 2)) M r h2p) rfl rfl rfl rfl rfl (Nat.le_of_ble_eq_true rfl) rfl rfl rfl ?_
  exact am_icmp_eq (pc' := 308) 1627 dL_law_305 rfl rfl (fun _ => kk) (fun h => absurd rfl h)
def lx_feed (a1 a2 a3 a4 a5 a6 : Int32) (S : sx_T) : Option (Int32 × sx_T) := some (fx_X11_feed a1 a2 a3 a4 a5 a6 S)
def lm_feed (a1 a2 a3 a4 a5 a6 : Int32) (M : sm_T) : Option (Int32 × sm_T) := fx_X12_feed a1 a2 a3 a4 a5 a6 M
def lq_feed (R : sx_T → sm_T → Prop) : Prop := ∀ (S : sx_T) (M : sm_T), R S M → ∀ a1 a2 a3 a4 a5 a6 : Int32, ∃ r S' M', lx_feed a1 a2 a3 a4 a5 a6 S = some (r, S') ∧ lm_feed a1 a2 a3 a4 a5 a6 M = some (r, M') ∧ R S' M'
set_option maxHeartbeats 100000 in
theorem lk_feed {L : Nat} {xs : Nat → Int32} {n : Nat} (hn : n + 7 ≤ L) (hL : L ≤ 3584) {S S' : sx_T} {M M' : sm_T} {r : Int32} (h1 : lx_feed (xs (n + 1)) (xs (n + 2)) (xs (n + 3)) (xs (n + 4)) (xs (n + 5)) (xs (n + 6)) S = some (r, S')) (h2 : lm_feed (xs (n + 1)) (xs (n + 2)) (xs (n + 3)) (xs (n + 4)) (xs (n + 5)) (xs (n + 6)) M = some (r, M'))
    (kk : am_G mL_law (lw_g L xs) lw_kn 1627 [some (.ref 1050), some (.ref 0), some (.ref 45), some (.int (nI n))] [] (sx_w S' (sm_w M'))) : am_G mL_law (lw_g L xs) lw_kn 310 [some (.ref 1050), some (.ref 0), some (.ref 45), some (.int (nI n))] [] (sx_w S (sm_w M)) := by
  have h1p : fx_X11_feed (xs (n + 1)) (xs (n + 2)) (xs (n + 3)) (xs (n + 4)) (xs (n + 5)) (xs (n + 6)) S = (r, S') := Option.some.inj h1
  have h2p : fx_X12_feed (xs (n + 1)) (xs (n + 2)) (xs (n + 3)) (xs (n + 4)) (xs (n + 5)) (xs (n + 6)) M = some (r, M') := h2
  refine am_aload_n (pc' := 311) 1 dL_law_310 rfl rfl rfl ?_
  refine am_aload_n (pc' := 312) 0 dL_law_311 rfl rfl rfl ?_
  refine am_iload_n (pc' := 313) 3 dL_law_312 rfl rfl rfl ?_
  refine am_iconst (pc' := 314) (v := 1) dL_law_313 kc_1 rfl ?_
  refine am_iadd (pc' := 315) dL_law_314 rfl ?_
  refine lw_ld (pc' := 316) (n + 1) (lw_j1 n) (by omega) hL dL_law_315 rfl ?_
  refine am_aload_n (pc' := 317) 0 dL_law_316 rfl rfl rfl ?_
  refine am_iload_n (pc' := 318) 3 dL_law_317 rfl rfl rfl ?_
  refine am_iconst (pc' := 319) (v := 2) dL_law_318 kc_2 rfl ?_
  refine am_iadd (pc' := 320) dL_law_319 rfl ?_
  refine lw_ld (pc' := 321) (n + 2) (lw_j2 n) (by omega) hL dL_law_320 rfl ?_
  refine am_aload_n (pc' := 322) 0 dL_law_321 rfl rfl rfl ?_
  refine am_iload_n (pc' := 323) 3 dL_law_322 rfl rfl rfl ?_
  refine am_iconst (pc' := 324) (v := 3) dL_law_323 kc_3 rfl ?_
  refine am_iadd (pc' := 325) dL_law_324 rfl ?_
  refine lw_ld (pc' := 326) (n + 3) (lw_j3 n) (by omega) hL dL_law_325 rfl ?_
  refine am_aload_n (pc' := 327) 0 dL_law_326 rfl rfl rfl ?_
  refine am_iload_n (pc' := 328) 3 dL_law_327 rfl rfl rfl ?_
  refine am_iconst (pc' := 329) (v := 4) dL_law_328 kc_4 rfl ?_
  refine am_iadd (pc' := 330) dL_law_329 rfl ?_
  refine lw_ld (pc' := 331) (n + 4) (lw_j4 n) (by omega) hL dL_law_330 rfl ?_
  refine am_aload_n (pc' := 332) 0 dL_law_331 rfl rfl rfl ?_
  refine am_iload_n (pc' := 333) 3 dL_law_332 rfl rfl rfl ?_
  refine am_iconst (pc' := 334) (v := 5) dL_law_333 kc_5 rfl ?_
  refine am_iadd (pc' := 335) dL_law_334 rfl ?_
  refine lw_ld (pc' := 336) (n + 5) (lw_j5 n) (by omega) hL dL_law_335 rfl ?_
  refine am_aload_n (pc' := 337) 0 dL_law_336 rfl rfl rfl ?_
  refine am_iload_n (pc' := 338) 3 dL_law_337 rfl rfl rfl ?_
  refine am_bipush (pc' := 340) (v := 6) dL_law_338 kb_6 rfl ?_
  refine am_iadd (pc' := 341) dL_law_340 rfl ?_
  refine lw_ld (pc' := 342) (n + 6) (lw_j6 n) (by omega) hL dL_law_341 rfl ?_
  refine lw_call (pc' := 345) (w1 := (sx_w S' (sm_w M))) (v := .int r) [] [.int (xs (n + 1)), .int (xs (n + 2)), .int (xs (n + 3)), .int (xs (n + 4)), .int (xs (n + 5)), .int (xs (n + 6))] dL_law_342 cs_L_32 (tx_X11_feed (sm_w M) (xs (n + 1)) (xs (n + 2)) (xs (n + 3)) (xs (n + 4)) (xs (n + 5)) (xs (n + 6)) S (r, S') h1p) rfl rfl rfl rfl rfl (Nat.le_of_ble_eq_true rfl) rfl rfl rfl ?_
  refine am_aload_n (pc' := 346) 2 dL_law_345 rfl rfl rfl ?_
  refine am_aload_n (pc' := 347) 0 dL_law_346 rfl rfl rfl ?_
  refine am_iload_n (pc' := 348) 3 dL_law_347 rfl rfl rfl ?_
  refine am_iconst (pc' := 349) (v := 1) dL_law_348 kc_1 rfl ?_
  refine am_iadd (pc' := 350) dL_law_349 rfl ?_
  refine lw_ld (pc' := 351) (n + 1) (lw_j1 n) (by omega) hL dL_law_350 rfl ?_
  refine am_aload_n (pc' := 352) 0 dL_law_351 rfl rfl rfl ?_
  refine am_iload_n (pc' := 353) 3 dL_law_352 rfl rfl rfl ?_
  refine am_iconst (pc' := 354) (v := 2) dL_law_353 kc_2 rfl ?_
  refine am_iadd (pc' := 355) dL_law_354 rfl ?_
  refine lw_ld (pc' := 356) (n + 2) (lw_j2 n) (by omega) hL dL_law_355 rfl ?_
  refine am_aload_n (pc' := 357) 0 dL_law_356 rfl rfl rfl ?_
  refine am_iload_n (pc' := 358) 3 dL_law_357 rfl rfl rfl ?_
  refine am_iconst (pc' := 359) (v := 3) dL_law_358 kc_3 rfl ?_
  refine am_iadd (pc' := 360) dL_law_359 rfl ?_
  refine lw_ld (pc' := 361) (n + 3) (lw_j3 n) (by omega) hL dL_law_360 rfl ?_
  refine am_aload_n (pc' := 362) 0 dL_law_361 rfl rfl rfl ?_
  refine am_iload_n (pc' := 363) 3 dL_law_362 rfl rfl rfl ?_
  refine am_iconst (pc' := 364) (v := 4) dL_law_363 kc_4 rfl ?_
  refine am_iadd (pc' := 365) dL_law_364 rfl ?_
  refine lw_ld (pc' := 366) (n + 4) (lw_j4 n) (by omega) hL dL_law_365 rfl ?_
  refine am_aload_n (pc' := 367) 0 dL_law_366 rfl rfl rfl ?_
  refine am_iload_n (pc' := 368) 3 dL_law_367 rfl rfl rfl ?_
  refine am_iconst (pc' := 369) (v := 5) dL_law_368 kc_5 rfl ?_
  refine am_iadd (pc' := 370) dL_law_369 rfl ?_
  refine lw_ld (pc' := 371) (n + 5) (lw_j5 n) (by omega) hL dL_law_370 rfl ?_
  refine am_aload_n (pc' := 372) 0 dL_law_371 rfl rfl rfl ?_
  refine am_iload_n (pc' := 373) 3 dL_law_372 rfl rfl rfl ?_
  refine am_bipush (pc' := 375) (v := 6) dL_law_373 kb_6 rfl ?_
  refine am_iadd (pc' := 376) dL_law_375 rfl ?_
  refine lw_ld (pc' := 377) (n + 6) (lw_j6 n) (by omega) hL dL_law_376 rfl ?_
  refine lw_call (pc' := 380) (w1 := (sx_w S' (sm_w M'))) (v := .int r) [.int r] [.int (xs (n + 1)), .int (xs (n + 2)), .int (xs (n + 3)), .int (xs (n + 4)), .int (xs (n + 5)), .int (xs (n + 6))] dL_law_377 cs_L_36 (tx_X12_feed S' (xs (n + 1)) (xs (n + 2)) (xs (n + 3)) (xs (n + 4)) (xs (n + 5)) (xs (n + 6)) M (r, M') h2p) rfl rfl rfl rfl rfl (Nat.le_of_ble_eq_true rfl) rfl rfl rfl ?_
  exact am_icmp_eq (pc' := 383) 1627 dL_law_380 rfl rfl (fun _ => kk) (fun h => absurd rfl h)
def lx_text (S : sx_T) : Option (Int32 × sx_T) := fx_X11_text S
def lm_text (M : sm_T) : Option (Int32 × sm_T) := fx_X12_text M
def lq_text (R : sx_T → sm_T → Prop) : Prop := ∀ (S : sx_T) (M : sm_T), R S M → ∃ r S' M', lx_text  S = some (r, S') ∧ lm_text  M = some (r, M') ∧ R S' M'
set_option maxHeartbeats 100000 in
theorem lk_text {L : Nat} {xs : Nat → Int32} {n : Nat} (hn : n + 7 ≤ L) (hL : L ≤ 3584) {S S' : sx_T} {M M' : sm_T} {r : Int32} (h1 : lx_text  S = some (r, S')) (h2 : lm_text  M = some (r, M'))
    (kk : am_G mL_law (lw_g L xs) lw_kn 1627 [some (.ref 1050), some (.ref 0), some (.ref 45), some (.int (nI n))] [] (sx_w S' (sm_w M'))) : am_G mL_law (lw_g L xs) lw_kn 385 [some (.ref 1050), some (.ref 0), some (.ref 45), some (.int (nI n))] [] (sx_w S (sm_w M)) := by
  have h1p : fx_X11_text S = some (r, S') := h1
  have h2p : fx_X12_text M = some (r, M') := h2
  refine am_aload_n (pc' := 386) 1 dL_law_385 rfl rfl rfl ?_
  refine lw_call (pc' := 389) (w1 := (sx_w S' (sm_w M))) (v := .int r) [] [] dL_law_386 cs_L_37 (tx_X11_text (sm_w M)  S (r, S') h1p) rfl rfl rfl rfl rfl (Nat.le_of_ble_eq_true rfl) rfl rfl rfl ?_
  refine am_aload_n (pc' := 390) 2 dL_law_389 rfl rfl rfl ?_
  refine lw_call (pc' := 393) (w1 := (sx_w S' (sm_w M'))) (v := .int r) [.int r] [] dL_law_390 cs_L_41 (tx_X12_text S'  M (r, M') h2p) rfl rfl rfl rfl rfl (Nat.le_of_ble_eq_true rfl) rfl rfl rfl ?_
  exact am_icmp_eq (pc' := 396) 1627 dL_law_393 rfl rfl (fun _ => kk) (fun h => absurd rfl h)
def lx_force (a1 : Int32) (S : sx_T) : Option (Int32 × sx_T) := some (fx_X11_force a1 S)
def lm_force (a1 : Int32) (M : sm_T) : Option (Int32 × sm_T) := some (fx_X12_force a1 M)
def lq_force (R : sx_T → sm_T → Prop) : Prop := ∀ (S : sx_T) (M : sm_T), R S M → ∀ a1 : Int32, ∃ r S' M', lx_force a1 S = some (r, S') ∧ lm_force a1 M = some (r, M') ∧ R S' M'
set_option maxHeartbeats 100000 in
theorem lk_force {L : Nat} {xs : Nat → Int32} {n : Nat} (hn : n + 7 ≤ L) (hL : L ≤ 3584) {S S' : sx_T} {M M' : sm_T} {r : Int32} (h1 : lx_force (xs (n + 1)) S = some (r, S')) (h2 : lm_force (xs (n + 1)) M = some (r, M'))
    (kk : am_G mL_law (lw_g L xs) lw_kn 1627 [some (.ref 1050), some (.ref 0), some (.ref 45), some (.int (nI n))] [] (sx_w S' (sm_w M'))) : am_G mL_law (lw_g L xs) lw_kn 398 [some (.ref 1050), some (.ref 0), some (.ref 45), some (.int (nI n))] [] (sx_w S (sm_w M)) := by
  have h1p : fx_X11_force (xs (n + 1)) S = (r, S') := Option.some.inj h1
  have h2p : fx_X12_force (xs (n + 1)) M = (r, M') := Option.some.inj h2
  refine am_aload_n (pc' := 399) 1 dL_law_398 rfl rfl rfl ?_
  refine am_aload_n (pc' := 400) 0 dL_law_399 rfl rfl rfl ?_
  refine am_iload_n (pc' := 401) 3 dL_law_400 rfl rfl rfl ?_
  refine am_iconst (pc' := 402) (v := 1) dL_law_401 kc_1 rfl ?_
  refine am_iadd (pc' := 403) dL_law_402 rfl ?_
  refine lw_ld (pc' := 404) (n + 1) (lw_j1 n) (by omega) hL dL_law_403 rfl ?_
  refine lw_call (pc' := 407) (w1 := (sx_w S' (sm_w M))) (v := .int r) [] [.int (xs (n + 1))] dL_law_404 cs_L_42 (tx_X11_force (sm_w M) (xs (n + 1)) S (r, S') h1p) rfl rfl rfl rfl rfl (Nat.le_of_ble_eq_true rfl) rfl rfl rfl ?_
  refine am_aload_n (pc' := 408) 2 dL_law_407 rfl rfl rfl ?_
  refine am_aload_n (pc' := 409) 0 dL_law_408 rfl rfl rfl ?_
  refine am_iload_n (pc' := 410) 3 dL_law_409 rfl rfl rfl ?_
  refine am_iconst (pc' := 411) (v := 1) dL_law_410 kc_1 rfl ?_
  refine am_iadd (pc' := 412) dL_law_411 rfl ?_
  refine lw_ld (pc' := 413) (n + 1) (lw_j1 n) (by omega) hL dL_law_412 rfl ?_
  refine lw_call (pc' := 416) (w1 := (sx_w S' (sm_w M'))) (v := .int r) [.int r] [.int (xs (n + 1))] dL_law_413 cs_L_45 (tx_X12_force S' (xs (n + 1)) M (r, M') h2p) rfl rfl rfl rfl rfl (Nat.le_of_ble_eq_true rfl) rfl rfl rfl ?_
  exact am_icmp_eq (pc' := 419) 1627 dL_law_416 rfl rfl (fun _ => kk) (fun h => absurd rfl h)
def lx_asks (a1 a2 a3 a4 : Int32) (S : sx_T) : Option (Int32 × sx_T) := fx_X11_asks a1 a2 a3 a4 S
def lm_asks (a1 a2 a3 a4 : Int32) (M : sm_T) : Option (Int32 × sm_T) := fx_X12_asks a1 a2 a3 a4 M
def lq_asks (R : sx_T → sm_T → Prop) : Prop := ∀ (S : sx_T) (M : sm_T), R S M → ∀ a1 a2 a3 a4 : Int32, ∃ r S' M', lx_asks a1 a2 a3 a4 S = some (r, S') ∧ lm_asks a1 a2 a3 a4 M = some (r, M') ∧ R S' M'
set_option maxHeartbeats 100000 in
theorem lk_asks {L : Nat} {xs : Nat → Int32} {n : Nat} (hn : n + 7 ≤ L) (hL : L ≤ 3584) {S S' : sx_T} {M M' : sm_T} {r : Int32} (h1 : lx_asks (xs (n + 1)) (xs (n + 2)) (xs (n + 3)) (xs (n + 4)) S = some (r, S')) (h2 : lm_asks (xs (n + 1)) (xs (n + 2)) (xs (n + 3)) (xs (n + 4)) M = some (r, M'))
    (kk : am_G mL_law (lw_g L xs) lw_kn 1627 [some (.ref 1050), some (.ref 0), some (.ref 45), some (.int (nI n))] [] (sx_w S' (sm_w M'))) : am_G mL_law (lw_g L xs) lw_kn 421 [some (.ref 1050), some (.ref 0), some (.ref 45), some (.int (nI n))] [] (sx_w S (sm_w M)) := by
  have h1p : fx_X11_asks (xs (n + 1)) (xs (n + 2)) (xs (n + 3)) (xs (n + 4)) S = some (r, S') := h1
  have h2p : fx_X12_asks (xs (n + 1)) (xs (n + 2)) (xs (n + 3)) (xs (n + 4)) M = some (r, M') := h2
  refine am_aload_n (pc' := 422) 1 dL_law_421 rfl rfl rfl ?_
  refine am_aload_n (pc' := 423) 0 dL_law_422 rfl rfl rfl ?_
  refine am_iload_n (pc' := 424) 3 dL_law_423 rfl rfl rfl ?_
  refine am_iconst (pc' := 425) (v := 1) dL_law_424 kc_1 rfl ?_
  refine am_iadd (pc' := 426) dL_law_425 rfl ?_
  refine lw_ld (pc' := 427) (n + 1) (lw_j1 n) (by omega) hL dL_law_426 rfl ?_
  refine am_aload_n (pc' := 428) 0 dL_law_427 rfl rfl rfl ?_
  refine am_iload_n (pc' := 429) 3 dL_law_428 rfl rfl rfl ?_
  refine am_iconst (pc' := 430) (v := 2) dL_law_429 kc_2 rfl ?_
  refine am_iadd (pc' := 431) dL_law_430 rfl ?_
  refine lw_ld (pc' := 432) (n + 2) (lw_j2 n) (by omega) hL dL_law_431 rfl ?_
  refine am_aload_n (pc' := 433) 0 dL_law_432 rfl rfl rfl ?_
  refine am_iload_n (pc' := 434) 3 dL_law_433 rfl rfl rfl ?_
  refine am_iconst (pc' := 435) (v := 3) dL_law_434 kc_3 rfl ?_
  refine am_iadd (pc' := 436) dL_law_435 rfl ?_
  refine lw_ld (pc' := 437) (n + 3) (lw_j3 n) (by omega) hL dL_law_436 rfl ?_
  refine am_aload_n (pc' := 438) 0 dL_law_437 rfl rfl rfl ?_
  refine am_iload_n (pc' := 439) 3 dL_law_438 rfl rfl rfl ?_
  refine am_iconst (pc' := 440) (v := 4) dL_law_439 kc_4 rfl ?_
  refine am_iadd (pc' := 441) dL_law_440 rfl ?_
  refine lw_ld (pc' := 442) (n + 4) (lw_j4 n) (by omega) hL dL_law_441 rfl ?_
  refine lw_call (pc' := 445) (w1 := (sx_w S' (sm_w M))) (v := .int r) [] [.int (xs (n + 1)), .int (xs (n + 2)), .int (xs (n + 3)), .int (xs (n + 4))] dL_law_442 cs_L_46 (tx_X11_asks (sm_w M) (xs (n + 1)) (xs (n + 2)) (xs (n + 3)) (xs (n + 4)) S (r, S') h1p) rfl rfl rfl rfl rfl (Nat.le_of_ble_eq_true rfl) rfl rfl rfl ?_
  refine am_aload_n (pc' := 446) 2 dL_law_445 rfl rfl rfl ?_
  refine am_aload_n (pc' := 447) 0 dL_law_446 rfl rfl rfl ?_
  refine am_iload_n (pc' := 448) 3 dL_law_447 rfl rfl rfl ?_
  refine am_iconst (pc' := 449) (v := 1) dL_law_448 kc_1 rfl ?_
  refine am_iadd (pc' := 450) dL_law_449 rfl ?_
  refine lw_ld (pc' := 451) (n + 1) (lw_j1 n) (by omega) hL dL_law_450 rfl ?_
  refine am_aload_n (pc' := 452) 0 dL_law_451 rfl rfl rfl ?_
  refine am_iload_n (pc' := 453) 3 dL_law_452 rfl rfl rfl ?_
  refine am_iconst (pc' := 454) (v := 2) dL_law_453 kc_2 rfl ?_
  refine am_iadd (pc' := 455) dL_law_454 rfl ?_
  refine lw_ld (pc' := 456) (n + 2) (lw_j2 n) (by omega) hL dL_law_455 rfl ?_
  refine am_aload_n (pc' := 457) 0 dL_law_456 rfl rfl rfl ?_
  refine am_iload_n (pc' := 458) 3 dL_law_457 rfl rfl rfl ?_
  refine am_iconst (pc' := 459) (v := 3) dL_law_458 kc_3 rfl ?_
  refine am_iadd (pc' := 460) dL_law_459 rfl ?_
  refine lw_ld (pc' := 461) (n + 3) (lw_j3 n) (by omega) hL dL_law_460 rfl ?_
  refine am_aload_n (pc' := 462) 0 dL_law_461 rfl rfl rfl ?_
  refine am_iload_n (pc' := 463) 3 dL_law_462 rfl rfl rfl ?_
  refine am_iconst (pc' := 464) (v := 4) dL_law_463 kc_4 rfl ?_
  refine am_iadd (pc' := 465) dL_law_464 rfl ?_
  refine lw_ld (pc' := 466) (n + 4) (lw_j4 n) (by omega) hL dL_law_465 rfl ?_
  refine lw_call (pc' := 469) (w1 := (sx_w S' (sm_w M'))) (v := .int r) [.int r] [.int (xs (n + 1)), .int (xs (n + 2)), .int (xs (n + 3)), .int (xs (n + 4))] dL_law_466 cs_L_50 (tx_X12_asks S' (xs (n + 1)) (xs (n + 2)) (xs (n + 3)) (xs (n + 4)) M (r, M') h2p) rfl rfl rfl rfl rfl (Nat.le_of_ble_eq_true rfl) rfl rfl rfl ?_
  exact am_icmp_eq (pc' := 472) 1627 dL_law_469 rfl rfl (fun _ => kk) (fun h => absurd rfl h)
def lx_viewer (a1 a2 : Int32) (S : sx_T) : Option (Int32 × sx_T) := some (fx_X11_viewer a1 a2 S)
def lm_viewer (a1 a2 : Int32) (M : sm_T) : Option (Int32 × sm_T) := fx_X12_viewer a1 a2 M
def lq_viewer (R : sx_T → sm_T → Prop) : Prop := ∀ (S : sx_T) (M : sm_T), R S M → ∀ a1 a2 : Int32, ∃ r S' M', lx_viewer a1 a2 S = some (r, S') ∧ lm_viewer a1 a2 M = some (r, M') ∧ R S' M'
set_option maxHeartbeats 100000 in
theorem lk_viewer {L : Nat} {xs : Nat → Int32} {n : Nat} (hn : n + 7 ≤ L) (hL : L ≤ 3584) {S S' : sx_T} {M M' : sm_T} {r : Int32} (h1 : lx_viewer (xs (n + 1)) (xs (n + 2)) S = some (r, S')) (h2 : lm_viewer (xs (n + 1)) (xs (n + 2)) M = some (r, M'))
    (kk : am_G mL_law (lw_g L xs) lw_kn 1627 [some (.ref 1050), some (.ref 0), some (.ref 45), some (.int (nI n))] [] (sx_w S' (sm_w M'))) : am_G mL_law (lw_g L xs) lw_kn 474 [some (.ref 1050), some (.ref 0), some (.ref 45), some (.int (nI n))] [] (sx_w S (sm_w M)) := by
  have h1p : fx_X11_viewer (xs (n + 1)) (xs (n + 2)) S = (r, S') := Option.some.inj h1
  have h2p : fx_X12_viewer (xs (n + 1)) (xs (n + 2)) M = some (r, M') := h2
  refine am_aload_n (pc' := 475) 1 dL_law_474 rfl rfl rfl ?_
  refine am_aload_n (pc' := 476) 0 dL_law_475 rfl rfl rfl ?_
  refine am_iload_n (pc' := 477) 3 dL_law_476 rfl rfl rfl ?_
  refine am_iconst (pc' := 478) (v := 1) dL_law_477 kc_1 rfl ?_
  refine am_iadd (pc' := 479) dL_law_478 rfl ?_
  refine lw_ld (pc' := 480) (n + 1) (lw_j1 n) (by omega) hL dL_law_479 rfl ?_
  refine am_aload_n (pc' := 481) 0 dL_law_480 rfl rfl rfl ?_
  refine am_iload_n (pc' := 482) 3 dL_law_481 rfl rfl rfl ?_
  refine am_iconst (pc' := 483) (v := 2) dL_law_482 kc_2 rfl ?_
  refine am_iadd (pc' := 484) dL_law_483 rfl ?_
  refine lw_ld (pc' := 485) (n + 2) (lw_j2 n) (by omega) hL dL_law_484 rfl ?_
  refine lw_call (pc' := 488) (w1 := (sx_w S' (sm_w M))) (v := .int r) [] [.int (xs (n + 1)), .int (xs (n + 2))] dL_law_485 cs_L_51 (tx_X11_viewer (sm_w M) (xs (n + 1)) (xs (n + 2)) S (r, S') h1p) rfl rfl rfl rfl rfl (Nat.le_of_ble_eq_true rfl) rfl rfl rfl ?_
  refine am_aload_n (pc' := 489) 2 dL_law_488 rfl rfl rfl ?_
  refine am_aload_n (pc' := 490) 0 dL_law_489 rfl rfl rfl ?_
  refine am_iload_n (pc' := 491) 3 dL_law_490 rfl rfl rfl ?_
  refine am_iconst (pc' := 492) (v := 1) dL_law_491 kc_1 rfl ?_
  refine am_iadd (pc' := 493) dL_law_492 rfl ?_
  refine lw_ld (pc' := 494) (n + 1) (lw_j1 n) (by omega) hL dL_law_493 rfl ?_
  refine am_aload_n (pc' := 495) 0 dL_law_494 rfl rfl rfl ?_
  refine am_iload_n (pc' := 496) 3 dL_law_495 rfl rfl rfl ?_
  refine am_iconst (pc' := 497) (v := 2) dL_law_496 kc_2 rfl ?_
  refine am_iadd (pc' := 498) dL_law_497 rfl ?_
  refine lw_ld (pc' := 499) (n + 2) (lw_j2 n) (by omega) hL dL_law_498 rfl ?_
  refine lw_call (pc' := 502) (w1 := (sx_w S' (sm_w M'))) (v := .int r) [.int r] [.int (xs (n + 1)), .int (xs (n + 2))] dL_law_499 cs_L_54 (tx_X12_viewer S' (xs (n + 1)) (xs (n + 2)) M (r, M') h2p) rfl rfl rfl rfl rfl (Nat.le_of_ble_eq_true rfl) rfl rfl rfl ?_
  exact am_icmp_eq (pc' := 505) 1627 dL_law_502 rfl rfl (fun _ => kk) (fun h => absurd rfl h)
def lx_put (a1 a2 a3 : Int32) (S : sx_T) : Option (Int32 × sx_T) := some (fx_X11_put a1 a2 a3 S)
def lm_put (a1 a2 a3 : Int32) (M : sm_T) : Option (Int32 × sm_T) := fx_X12_put a1 a2 a3 M
def lq_put (R : sx_T → sm_T → Prop) : Prop := ∀ (S : sx_T) (M : sm_T), R S M → ∀ a1 a2 a3 : Int32, ∃ r S' M', lx_put a1 a2 a3 S = some (r, S') ∧ lm_put a1 a2 a3 M = some (r, M') ∧ R S' M'
set_option maxHeartbeats 100000 in
theorem lk_put {L : Nat} {xs : Nat → Int32} {n : Nat} (hn : n + 7 ≤ L) (hL : L ≤ 3584) {S S' : sx_T} {M M' : sm_T} {r : Int32} (h1 : lx_put (xs (n + 1)) (xs (n + 2)) (xs (n + 3)) S = some (r, S')) (h2 : lm_put (xs (n + 1)) (xs (n + 2)) (xs (n + 3)) M = some (r, M'))
    (kk : am_G mL_law (lw_g L xs) lw_kn 1627 [some (.ref 1050), some (.ref 0), some (.ref 45), some (.int (nI n))] [] (sx_w S' (sm_w M'))) : am_G mL_law (lw_g L xs) lw_kn 507 [some (.ref 1050), some (.ref 0), some (.ref 45), some (.int (nI n))] [] (sx_w S (sm_w M)) := by
  have h1p : fx_X11_put (xs (n + 1)) (xs (n + 2)) (xs (n + 3)) S = (r, S') := Option.some.inj h1
  have h2p : fx_X12_put (xs (n + 1)) (xs (n + 2)) (xs (n + 3)) M = some (r, M') := h2
  refine am_aload_n (pc' := 508) 1 dL_law_507 rfl rfl rfl ?_
  refine am_aload_n (pc' := 509) 0 dL_law_508 rfl rfl rfl ?_
  refine am_iload_n (pc' := 510) 3 dL_law_509 rfl rfl rfl ?_
  refine am_iconst (pc' := 511) (v := 1) dL_law_510 kc_1 rfl ?_
  refine am_iadd (pc' := 512) dL_law_511 rfl ?_
  refine lw_ld (pc' := 513) (n + 1) (lw_j1 n) (by omega) hL dL_law_512 rfl ?_
  refine am_aload_n (pc' := 514) 0 dL_law_513 rfl rfl rfl ?_
  refine am_iload_n (pc' := 515) 3 dL_law_514 rfl rfl rfl ?_
  refine am_iconst (pc' := 516) (v := 2) dL_law_515 kc_2 rfl ?_
  refine am_iadd (pc' := 517) dL_law_516 rfl ?_
  refine lw_ld (pc' := 518) (n + 2) (lw_j2 n) (by omega) hL dL_law_517 rfl ?_
  refine am_aload_n (pc' := 519) 0 dL_law_518 rfl rfl rfl ?_
  refine am_iload_n (pc' := 520) 3 dL_law_519 rfl rfl rfl ?_
  refine am_iconst (pc' := 521) (v := 3) dL_law_520 kc_3 rfl ?_
  refine am_iadd (pc' := 522) dL_law_521 rfl ?_
  refine lw_ld (pc' := 523) (n + 3) (lw_j3 n) (by omega) hL dL_law_522 rfl ?_
  refine lw_call (pc' := 526) (w1 := (sx_w S' (sm_w M))) (v := .int r) [] [.int (xs (n + 1)), .int (xs (n + 2)), .int (xs (n + 3))] dL_law_523 cs_L_55 (tx_X11_put (sm_w M) (xs (n + 1)) (xs (n + 2)) (xs (n + 3)) S (r, S') h1p) rfl rfl rfl rfl rfl (Nat.le_of_ble_eq_true rfl) rfl rfl rfl ?_
  refine am_aload_n (pc' := 527) 2 dL_law_526 rfl rfl rfl ?_
  refine am_aload_n (pc' := 528) 0 dL_law_527 rfl rfl rfl ?_
  refine am_iload_n (pc' := 529) 3 dL_law_528 rfl rfl rfl ?_
  refine am_iconst (pc' := 530) (v := 1) dL_law_529 kc_1 rfl ?_
  refine am_iadd (pc' := 531) dL_law_530 rfl ?_
  refine lw_ld (pc' := 532) (n + 1) (lw_j1 n) (by omega) hL dL_law_531 rfl ?_
  refine am_aload_n (pc' := 533) 0 dL_law_532 rfl rfl rfl ?_
  refine am_iload_n (pc' := 534) 3 dL_law_533 rfl rfl rfl ?_
  refine am_iconst (pc' := 535) (v := 2) dL_law_534 kc_2 rfl ?_
  refine am_iadd (pc' := 536) dL_law_535 rfl ?_
  refine lw_ld (pc' := 537) (n + 2) (lw_j2 n) (by omega) hL dL_law_536 rfl ?_
  refine am_aload_n (pc' := 538) 0 dL_law_537 rfl rfl rfl ?_
  refine am_iload_n (pc' := 539) 3 dL_law_538 rfl rfl rfl ?_
  refine am_iconst (pc' := 540) (v := 3) dL_law_539 kc_3 rfl ?_
  refine am_iadd (pc' := 541) dL_law_540 rfl ?_
  refine lw_ld (pc' := 542) (n + 3) (lw_j3 n) (by omega) hL dL_law_541 rfl ?_
  refine lw_call (pc' := 545) (w1 := (sx_w S' (sm_w M'))) (v := .int r) [.int r] [.int (xs (n + 1)), .int (xs (n + 2)), .int (xs (n + 3))] dL_law_542 cs_L_58 (tx_X12_put S' (xs (n + 1)) (xs (n + 2)) (xs (n + 3)) M (r, M') h2p) rfl rfl rfl rfl rfl (Nat.le_of_ble_eq_true rfl) rfl rfl rfl ?_
  exact am_icmp_eq (pc' := 548) 1627 dL_law_545 rfl rfl (fun _ => kk) (fun h => absurd rfl h)
def lx_one (a1 a2 : Int32) (S : sx_T) : Option (Int32 × sx_T) := some (fx_X11_one a1 a2 S, S)
def lm_one (a1 a2 : Int32) (M : sm_T) : Option (Int32 × sm_T) := (fx_X12_one a1 a2 M).map (fun r => (r, M))
def lq_one (R : sx_T → sm_T → Prop) : Prop := ∀ (S : sx_T) (M : sm_T), R S M → ∀ a1 a2 : Int32, ∃ r S' M', lx_one a1 a2 S = some (r, S') ∧ lm_one a1 a2 M = some (r, M') ∧ R S' M'
set_option maxHeartbeats 100000 in
theorem lk_one {L : Nat} {xs : Nat → Int32} {n : Nat} (hn : n + 7 ≤ L) (hL : L ≤ 3584) {S S' : sx_T} {M M' : sm_T} {r : Int32} (h1 : lx_one (xs (n + 1)) (xs (n + 2)) S = some (r, S')) (h2 : lm_one (xs (n + 1)) (xs (n + 2)) M = some (r, M'))
    (kk : am_G mL_law (lw_g L xs) lw_kn 1627 [some (.ref 1050), some (.ref 0), some (.ref 45), some (.int (nI n))] [] (sx_w S' (sm_w M'))) : am_G mL_law (lw_g L xs) lw_kn 550 [some (.ref 1050), some (.ref 0), some (.ref 45), some (.int (nI n))] [] (sx_w S (sm_w M)) := by
  have h1q := Prod.mk.inj (Option.some.inj (show some (fx_X11_one (xs (n + 1)) (xs (n + 2)) S, S) = some (r, S') from h1))
  obtain ⟨h1p, rfl⟩ := h1q
  have h2p : fx_X12_one (xs (n + 1)) (xs (n + 2)) M = some r ∧ M = M' := by
    have q : (fx_X12_one (xs (n + 1)) (xs (n + 2)) M).map (fun r => (r, M)) = some (r, M') := h2
    cases e : fx_X12_one (xs (n + 1)) (xs (n + 2)) M with
    | none => rw [e] at q; cases q
    | some v => rw [e] at q; cases q; exact ⟨rfl, rfl⟩
  obtain ⟨h2p, rfl⟩ := h2p
  refine am_aload_n (pc' := 551) 1 dL_law_550 rfl rfl rfl ?_
  refine am_aload_n (pc' := 552) 0 dL_law_551 rfl rfl rfl ?_
  refine am_iload_n (pc' := 553) 3 dL_law_552 rfl rfl rfl ?_
  refine am_iconst (pc' := 554) (v := 1) dL_law_553 kc_1 rfl ?_
  refine am_iadd (pc' := 555) dL_law_554 rfl ?_
  refine lw_ld (pc' := 556) (n + 1) (lw_j1 n) (by omega) hL dL_law_555 rfl ?_
  refine am_aload_n (pc' := 557) 0 dL_law_556 rfl rfl rfl ?_
  refine am_iload_n (pc' := 558) 3 dL_law_557 rfl rfl rfl ?_
  refine am_iconst (pc' := 559) (v := 2) dL_law_558 kc_2 rfl ?_
  refine am_iadd (pc' := 560) dL_law_559 rfl ?_
  refine lw_ld (pc' := 561) (n + 2) (lw_j2 n) (by omega) hL dL_law_560 rfl ?_
  refine lw_call (pc' := 564) (w1 := (sx_w S (sm_w M))) (v := .int r) [] [.int (xs (n + 1)), .int (xs (n + 2))] dL_law_561 cs_L_59 (tx_X11_one (sm_w M) (xs (n + 1)) (xs (n + 2)) S r h1p) rfl rfl rfl rfl rfl (Nat.le_of_ble_eq_true rfl) rfl rfl rfl ?_
  refine am_aload_n (pc' := 565) 2 dL_law_564 rfl rfl rfl ?_
  refine am_aload_n (pc' := 566) 0 dL_law_565 rfl rfl rfl ?_
  refine am_iload_n (pc' := 567) 3 dL_law_566 rfl rfl rfl ?_
  refine am_iconst (pc' := 568) (v := 1) dL_law_567 kc_1 rfl ?_
  refine am_iadd (pc' := 569) dL_law_568 rfl ?_
  refine lw_ld (pc' := 570) (n + 1) (lw_j1 n) (by omega) hL dL_law_569 rfl ?_
  refine am_aload_n (pc' := 571) 0 dL_law_570 rfl rfl rfl ?_
  refine am_iload_n (pc' := 572) 3 dL_law_571 rfl rfl rfl ?_
  refine am_iconst (pc' := 573) (v := 2) dL_law_572 kc_2 rfl ?_
  refine am_iadd (pc' := 574) dL_law_573 rfl ?_
  refine lw_ld (pc' := 575) (n + 2) (lw_j2 n) (by omega) hL dL_law_574 rfl ?_
  refine lw_call (pc' := 578) (w1 := (sx_w S (sm_w M))) (v := .int r) [.int r] [.int (xs (n + 1)), .int (xs (n + 2))] dL_law_575 cs_L_62 (tx_X12_one S (xs (n + 1)) (xs (n + 2)) M r h2p) rfl rfl rfl rfl rfl (Nat.le_of_ble_eq_true rfl) rfl rfl rfl ?_
  exact am_icmp_eq (pc' := 581) 1627 dL_law_578 rfl rfl (fun _ => kk) (fun h => absurd rfl h)
def lx_tour (a1 a2 a3 a4 : Int32) (S : sx_T) : Option (Int32 × sx_T) := fx_X11_tour a1 a2 a3 a4 S
def lm_tour (a1 a2 a3 a4 : Int32) (M : sm_T) : Option (Int32 × sm_T) := fx_X12_tour a1 a2 a3 a4 M
def lq_tour (R : sx_T → sm_T → Prop) : Prop := ∀ (S : sx_T) (M : sm_T), R S M → ∀ a1 a2 a3 a4 : Int32, ∃ r S' M', lx_tour a1 a2 a3 a4 S = some (r, S') ∧ lm_tour a1 a2 a3 a4 M = some (r, M') ∧ R S' M'
set_option maxHeartbeats 100000 in
theorem lk_tour {L : Nat} {xs : Nat → Int32} {n : Nat} (hn : n + 7 ≤ L) (hL : L ≤ 3584) {S S' : sx_T} {M M' : sm_T} {r : Int32} (h1 : lx_tour (xs (n + 1)) (xs (n + 2)) (xs (n + 3)) (xs (n + 4)) S = some (r, S')) (h2 : lm_tour (xs (n + 1)) (xs (n + 2)) (xs (n + 3)) (xs (n + 4)) M = some (r, M'))
    (kk : am_G mL_law (lw_g L xs) lw_kn 1627 [some (.ref 1050), some (.ref 0), some (.ref 45), some (.int (nI n))] [] (sx_w S' (sm_w M'))) : am_G mL_law (lw_g L xs) lw_kn 583 [some (.ref 1050), some (.ref 0), some (.ref 45), some (.int (nI n))] [] (sx_w S (sm_w M)) := by
  have h1p : fx_X11_tour (xs (n + 1)) (xs (n + 2)) (xs (n + 3)) (xs (n + 4)) S = some (r, S') := h1
  have h2p : fx_X12_tour (xs (n + 1)) (xs (n + 2)) (xs (n + 3)) (xs (n + 4)) M = some (r, M') := h2
  refine am_aload_n (pc' := 584) 1 dL_law_583 rfl rfl rfl ?_
  refine am_aload_n (pc' := 585) 0 dL_law_584 rfl rfl rfl ?_
  refine am_iload_n (pc' := 586) 3 dL_law_585 rfl rfl rfl ?_
  refine am_iconst (pc' := 587) (v := 1) dL_law_586 kc_1 rfl ?_
  refine am_iadd (pc' := 588) dL_law_587 rfl ?_
  refine lw_ld (pc' := 589) (n + 1) (lw_j1 n) (by omega) hL dL_law_588 rfl ?_
  refine am_aload_n (pc' := 590) 0 dL_law_589 rfl rfl rfl ?_
  refine am_iload_n (pc' := 591) 3 dL_law_590 rfl rfl rfl ?_
  refine am_iconst (pc' := 592) (v := 2) dL_law_591 kc_2 rfl ?_
  refine am_iadd (pc' := 593) dL_law_592 rfl ?_
  refine lw_ld (pc' := 594) (n + 2) (lw_j2 n) (by omega) hL dL_law_593 rfl ?_
  refine am_aload_n (pc' := 595) 0 dL_law_594 rfl rfl rfl ?_
  refine am_iload_n (pc' := 596) 3 dL_law_595 rfl rfl rfl ?_
  refine am_iconst (pc' := 597) (v := 3) dL_law_596 kc_3 rfl ?_
  refine am_iadd (pc' := 598) dL_law_597 rfl ?_
  refine lw_ld (pc' := 599) (n + 3) (lw_j3 n) (by omega) hL dL_law_598 rfl ?_
  refine am_aload_n (pc' := 600) 0 dL_law_599 rfl rfl rfl ?_
  refine am_iload_n (pc' := 601) 3 dL_law_600 rfl rfl rfl ?_
  refine am_iconst (pc' := 602) (v := 4) dL_law_601 kc_4 rfl ?_
  refine am_iadd (pc' := 603) dL_law_602 rfl ?_
  refine lw_ld (pc' := 604) (n + 4) (lw_j4 n) (by omega) hL dL_law_603 rfl ?_
  refine lw_call (pc' := 607) (w1 := (sx_w S' (sm_w M))) (v := .int r) [] [.int (xs (n + 1)), .int (xs (n + 2)), .int (xs (n + 3)), .int (xs (n + 4))] dL_law_604 cs_L_63 (tx_X11_tour (sm_w M) (xs (n + 1)) (xs (n + 2)) (xs (n + 3)) (xs (n + 4)) S (r, S') h1p) rfl rfl rfl rfl rfl (Nat.le_of_ble_eq_true rfl) rfl rfl rfl ?_
  refine am_aload_n (pc' := 608) 2 dL_law_607 rfl rfl rfl ?_
  refine am_aload_n (pc' := 609) 0 dL_law_608 rfl rfl rfl ?_
  refine am_iload_n (pc' := 610) 3 dL_law_609 rfl rfl rfl ?_
  refine am_iconst (pc' := 611) (v := 1) dL_law_610 kc_1 rfl ?_
  refine am_iadd (pc' := 612) dL_law_611 rfl ?_
  refine lw_ld (pc' := 613) (n + 1) (lw_j1 n) (by omega) hL dL_law_612 rfl ?_
  refine am_aload_n (pc' := 614) 0 dL_law_613 rfl rfl rfl ?_
  refine am_iload_n (pc' := 615) 3 dL_law_614 rfl rfl rfl ?_
  refine am_iconst (pc' := 616) (v := 2) dL_law_615 kc_2 rfl ?_
  refine am_iadd (pc' := 617) dL_law_616 rfl ?_
  refine lw_ld (pc' := 618) (n + 2) (lw_j2 n) (by omega) hL dL_law_617 rfl ?_
  refine am_aload_n (pc' := 619) 0 dL_law_618 rfl rfl rfl ?_
  refine am_iload_n (pc' := 620) 3 dL_law_619 rfl rfl rfl ?_
  refine am_iconst (pc' := 621) (v := 3) dL_law_620 kc_3 rfl ?_
  refine am_iadd (pc' := 622) dL_law_621 rfl ?_
  refine lw_ld (pc' := 623) (n + 3) (lw_j3 n) (by omega) hL dL_law_622 rfl ?_
  refine am_aload_n (pc' := 624) 0 dL_law_623 rfl rfl rfl ?_
  refine am_iload_n (pc' := 625) 3 dL_law_624 rfl rfl rfl ?_
  refine am_iconst (pc' := 626) (v := 4) dL_law_625 kc_4 rfl ?_
  refine am_iadd (pc' := 627) dL_law_626 rfl ?_
  refine lw_ld (pc' := 628) (n + 4) (lw_j4 n) (by omega) hL dL_law_627 rfl ?_
  refine lw_call (pc' := 631) (w1 := (sx_w S' (sm_w M'))) (v := .int r) [.int r] [.int (xs (n + 1)), .int (xs (n + 2)), .int (xs (n + 3)), .int (xs (n + 4))] dL_law_628 cs_L_66 (tx_X12_tour S' (xs (n + 1)) (xs (n + 2)) (xs (n + 3)) (xs (n + 4)) M (r, M') h2p) rfl rfl rfl rfl rfl (Nat.le_of_ble_eq_true rfl) rfl rfl rfl ?_
  exact am_icmp_eq (pc' := 634) 1627 dL_law_631 rfl rfl (fun _ => kk) (fun h => absurd rfl h)
def lx_shown (a1 a2 a3 : Int32) (S : sx_T) : Option (Int32 × sx_T) := fx_X11_shown a1 a2 a3 S
def lm_shown (a1 a2 a3 : Int32) (M : sm_T) : Option (Int32 × sm_T) := fx_X12_shown a1 a2 a3 M
def lq_shown (R : sx_T → sm_T → Prop) : Prop := ∀ (S : sx_T) (M : sm_T), R S M → ∀ a1 a2 a3 : Int32, ∃ r S' M', lx_shown a1 a2 a3 S = some (r, S') ∧ lm_shown a1 a2 a3 M = some (r, M') ∧ R S' M'
set_option maxHeartbeats 100000 in
theorem lk_shown {L : Nat} {xs : Nat → Int32} {n : Nat} (hn : n + 7 ≤ L) (hL : L ≤ 3584) {S S' : sx_T} {M M' : sm_T} {r : Int32} (h1 : lx_shown (xs (n + 1)) (xs (n + 2)) (xs (n + 3)) S = some (r, S')) (h2 : lm_shown (xs (n + 1)) (xs (n + 2)) (xs (n + 3)) M = some (r, M'))
    (kk : am_G mL_law (lw_g L xs) lw_kn 1627 [some (.ref 1050), some (.ref 0), some (.ref 45), some (.int (nI n))] [] (sx_w S' (sm_w M'))) : am_G mL_law (lw_g L xs) lw_kn 636 [some (.ref 1050), some (.ref 0), some (.ref 45), some (.int (nI n))] [] (sx_w S (sm_w M)) := by
  have h1p : fx_X11_shown (xs (n + 1)) (xs (n + 2)) (xs (n + 3)) S = some (r, S') := h1
  have h2p : fx_X12_shown (xs (n + 1)) (xs (n + 2)) (xs (n + 3)) M = some (r, M') := h2
  refine am_aload_n (pc' := 637) 1 dL_law_636 rfl rfl rfl ?_
  refine am_aload_n (pc' := 638) 0 dL_law_637 rfl rfl rfl ?_
  refine am_iload_n (pc' := 639) 3 dL_law_638 rfl rfl rfl ?_
  refine am_iconst (pc' := 640) (v := 1) dL_law_639 kc_1 rfl ?_
  refine am_iadd (pc' := 641) dL_law_640 rfl ?_
  refine lw_ld (pc' := 642) (n + 1) (lw_j1 n) (by omega) hL dL_law_641 rfl ?_
  refine am_aload_n (pc' := 643) 0 dL_law_642 rfl rfl rfl ?_
  refine am_iload_n (pc' := 644) 3 dL_law_643 rfl rfl rfl ?_
  refine am_iconst (pc' := 645) (v := 2) dL_law_644 kc_2 rfl ?_
  refine am_iadd (pc' := 646) dL_law_645 rfl ?_
  refine lw_ld (pc' := 647) (n + 2) (lw_j2 n) (by omega) hL dL_law_646 rfl ?_
  refine am_aload_n (pc' := 648) 0 dL_law_647 rfl rfl rfl ?_
  refine am_iload_n (pc' := 649) 3 dL_law_648 rfl rfl rfl ?_
  refine am_iconst (pc' := 650) (v := 3) dL_law_649 kc_3 rfl ?_
  refine am_iadd (pc' := 651) dL_law_650 rfl ?_
  refine lw_ld (pc' := 652) (n + 3) (lw_j3 n) (by omega) hL dL_law_651 rfl ?_
  refine lw_call (pc' := 655) (w1 := (sx_w S' (sm_w M))) (v := .int r) [] [.int (xs (n + 1)), .int (xs (n + 2)), .int (xs (n + 3))] dL_law_652 cs_L_67 (tx_X11_shown (sm_w M) (xs (n + 1)) (xs (n + 2)) (xs (n + 3)) S (r, S') h1p) rfl rfl rfl rfl rfl (Nat.le_of_ble_eq_true rfl) rfl rfl rfl ?_
  refine am_aload_n (pc' := 656) 2 dL_law_655 rfl rfl rfl ?_
  refine am_aload_n (pc' := 657) 0 dL_law_656 rfl rfl rfl ?_
  refine am_iload_n (pc' := 658) 3 dL_law_657 rfl rfl rfl ?_
  refine am_iconst (pc' := 659) (v := 1) dL_law_658 kc_1 rfl ?_
  refine am_iadd (pc' := 660) dL_law_659 rfl ?_
  refine lw_ld (pc' := 661) (n + 1) (lw_j1 n) (by omega) hL dL_law_660 rfl ?_
  refine am_aload_n (pc' := 662) 0 dL_law_661 rfl rfl rfl ?_
  refine am_iload_n (pc' := 663) 3 dL_law_662 rfl rfl rfl ?_
  refine am_iconst (pc' := 664) (v := 2) dL_law_663 kc_2 rfl ?_
  refine am_iadd (pc' := 665) dL_law_664 rfl ?_
  refine lw_ld (pc' := 666) (n + 2) (lw_j2 n) (by omega) hL dL_law_665 rfl ?_
  refine am_aload_n (pc' := 667) 0 dL_law_666 rfl rfl rfl ?_
  refine am_iload_n (pc' := 668) 3 dL_law_667 rfl rfl rfl ?_
  refine am_iconst (pc' := 669) (v := 3) dL_law_668 kc_3 rfl ?_
  refine am_iadd (pc' := 670) dL_law_669 rfl ?_
  refine lw_ld (pc' := 671) (n + 3) (lw_j3 n) (by omega) hL dL_law_670 rfl ?_
  refine lw_call (pc' := 674) (w1 := (sx_w S' (sm_w M'))) (v := .int r) [.int r] [.int (xs (n + 1)), .int (xs (n + 2)), .int (xs (n + 3))] dL_law_671 cs_L_70 (tx_X12_shown S' (xs (n + 1)) (xs (n + 2)) (xs (n + 3)) M (r, M') h2p) rfl rfl rfl rfl rfl (Nat.le_of_ble_eq_true rfl) rfl rfl rfl ?_
  exact am_icmp_eq (pc' := 677) 1627 dL_law_674 rfl rfl (fun _ => kk) (fun h => absurd rfl h)
def lx_best (a1 a2 a3 : Int32) (S : sx_T) : Option (Int32 × sx_T) := fx_X11_best a1 a2 a3 S
def lm_best (a1 a2 a3 : Int32) (M : sm_T) : Option (Int32 × sm_T) := fx_X12_best a1 a2 a3 M
def lq_best (R : sx_T → sm_T → Prop) : Prop := ∀ (S : sx_T) (M : sm_T), R S M → ∀ a1 a2 a3 : Int32, ∃ r S' M', lx_best a1 a2 a3 S = some (r, S') ∧ lm_best a1 a2 a3 M = some (r, M') ∧ R S' M'
set_option maxHeartbeats 100000 in
theorem lk_best {L : Nat} {xs : Nat → Int32} {n : Nat} (hn : n + 7 ≤ L) (hL : L ≤ 3584) {S S' : sx_T} {M M' : sm_T} {r : Int32} (h1 : lx_best (xs (n + 1)) (xs (n + 2)) (xs (n + 3)) S = some (r, S')) (h2 : lm_best (xs (n + 1)) (xs (n + 2)) (xs (n + 3)) M = some (r, M'))
    (kk : am_G mL_law (lw_g L xs) lw_kn 1627 [some (.ref 1050), some (.ref 0), some (.ref 45), some (.int (nI n))] [] (sx_w S' (sm_w M'))) : am_G mL_law (lw_g L xs) lw_kn 679 [some (.ref 1050), some (.ref 0), some (.ref 45), some (.int (nI n))] [] (sx_w S (sm_w M)) := by
  have h1p : fx_X11_best (xs (n + 1)) (xs (n + 2)) (xs (n + 3)) S = some (r, S') := h1
  have h2p : fx_X12_best (xs (n + 1)) (xs (n + 2)) (xs (n + 3)) M = some (r, M') := h2
  refine am_aload_n (pc' := 680) 1 dL_law_679 rfl rfl rfl ?_
  refine am_aload_n (pc' := 681) 0 dL_law_680 rfl rfl rfl ?_
  refine am_iload_n (pc' := 682) 3 dL_law_681 rfl rfl rfl ?_
  refine am_iconst (pc' := 683) (v := 1) dL_law_682 kc_1 rfl ?_
  refine am_iadd (pc' := 684) dL_law_683 rfl ?_
  refine lw_ld (pc' := 685) (n + 1) (lw_j1 n) (by omega) hL dL_law_684 rfl ?_
  refine am_aload_n (pc' := 686) 0 dL_law_685 rfl rfl rfl ?_
  refine am_iload_n (pc' := 687) 3 dL_law_686 rfl rfl rfl ?_
  refine am_iconst (pc' := 688) (v := 2) dL_law_687 kc_2 rfl ?_
  refine am_iadd (pc' := 689) dL_law_688 rfl ?_
  refine lw_ld (pc' := 690) (n + 2) (lw_j2 n) (by omega) hL dL_law_689 rfl ?_
  refine am_aload_n (pc' := 691) 0 dL_law_690 rfl rfl rfl ?_
  refine am_iload_n (pc' := 692) 3 dL_law_691 rfl rfl rfl ?_
  refine am_iconst (pc' := 693) (v := 3) dL_law_692 kc_3 rfl ?_
  refine am_iadd (pc' := 694) dL_law_693 rfl ?_
  refine lw_ld (pc' := 695) (n + 3) (lw_j3 n) (by omega) hL dL_law_694 rfl ?_
  refine lw_call (pc' := 698) (w1 := (sx_w S' (sm_w M))) (v := .int r) [] [.int (xs (n + 1)), .int (xs (n + 2)), .int (xs (n + 3))] dL_law_695 cs_L_71 (tx_X11_best (sm_w M) (xs (n + 1)) (xs (n + 2)) (xs (n + 3)) S (r, S') h1p) rfl rfl rfl rfl rfl (Nat.le_of_ble_eq_true rfl) rfl rfl rfl ?_
  refine am_aload_n (pc' := 699) 2 dL_law_698 rfl rfl rfl ?_
  refine am_aload_n (pc' := 700) 0 dL_law_699 rfl rfl rfl ?_
  refine am_iload_n (pc' := 701) 3 dL_law_700 rfl rfl rfl ?_
  refine am_iconst (pc' := 702) (v := 1) dL_law_701 kc_1 rfl ?_
  refine am_iadd (pc' := 703) dL_law_702 rfl ?_
  refine lw_ld (pc' := 704) (n + 1) (lw_j1 n) (by omega) hL dL_law_703 rfl ?_
  refine am_aload_n (pc' := 705) 0 dL_law_704 rfl rfl rfl ?_
  refine am_iload_n (pc' := 706) 3 dL_law_705 rfl rfl rfl ?_
  refine am_iconst (pc' := 707) (v := 2) dL_law_706 kc_2 rfl ?_
  refine am_iadd (pc' := 708) dL_law_707 rfl ?_
  refine lw_ld (pc' := 709) (n + 2) (lw_j2 n) (by omega) hL dL_law_708 rfl ?_
  refine am_aload_n (pc' := 710) 0 dL_law_709 rfl rfl rfl ?_
  refine am_iload_n (pc' := 711) 3 dL_law_710 rfl rfl rfl ?_
  refine am_iconst (pc' := 712) (v := 3) dL_law_711 kc_3 rfl ?_
  refine am_iadd (pc' := 713) dL_law_712 rfl ?_
  refine lw_ld (pc' := 714) (n + 3) (lw_j3 n) (by omega) hL dL_law_713 rfl ?_
  refine lw_call (pc' := 717) (w1 := (sx_w S' (sm_w M'))) (v := .int r) [.int r] [.int (xs (n + 1)), .int (xs (n + 2)), .int (xs (n + 3))] dL_law_714 cs_L_74 (tx_X12_best S' (xs (n + 1)) (xs (n + 2)) (xs (n + 3)) M (r, M') h2p) rfl rfl rfl rfl rfl (Nat.le_of_ble_eq_true rfl) rfl rfl rfl ?_
  exact am_icmp_eq (pc' := 720) 1627 dL_law_717 rfl rfl (fun _ => kk) (fun h => absurd rfl h)
def lx_when (a1 a2 a3 : Int32) (S : sx_T) : Option (Int32 × sx_T) := fx_X11_when a1 a2 a3 S
def lm_when (a1 a2 a3 : Int32) (M : sm_T) : Option (Int32 × sm_T) := fx_X12_when a1 a2 a3 M
def lq_when (R : sx_T → sm_T → Prop) : Prop := ∀ (S : sx_T) (M : sm_T), R S M → ∀ a1 a2 a3 : Int32, ∃ r S' M', lx_when a1 a2 a3 S = some (r, S') ∧ lm_when a1 a2 a3 M = some (r, M') ∧ R S' M'
set_option maxHeartbeats 100000 in
theorem lk_when {L : Nat} {xs : Nat → Int32} {n : Nat} (hn : n + 7 ≤ L) (hL : L ≤ 3584) {S S' : sx_T} {M M' : sm_T} {r : Int32} (h1 : lx_when (xs (n + 1)) (xs (n + 2)) (xs (n + 3)) S = some (r, S')) (h2 : lm_when (xs (n + 1)) (xs (n + 2)) (xs (n + 3)) M = some (r, M'))
    (kk : am_G mL_law (lw_g L xs) lw_kn 1627 [some (.ref 1050), some (.ref 0), some (.ref 45), some (.int (nI n))] [] (sx_w S' (sm_w M'))) : am_G mL_law (lw_g L xs) lw_kn 722 [some (.ref 1050), some (.ref 0), some (.ref 45), some (.int (nI n))] [] (sx_w S (sm_w M)) := by
  have h1p : fx_X11_when (xs (n + 1)) (xs (n + 2)) (xs (n + 3)) S = some (r, S') := h1
  have h2p : fx_X12_when (xs (n + 1)) (xs (n + 2)) (xs (n + 3)) M = some (r, M') := h2
  refine am_aload_n (pc' := 723) 1 dL_law_722 rfl rfl rfl ?_
  refine am_aload_n (pc' := 724) 0 dL_law_723 rfl rfl rfl ?_
  refine am_iload_n (pc' := 725) 3 dL_law_724 rfl rfl rfl ?_
  refine am_iconst (pc' := 726) (v := 1) dL_law_725 kc_1 rfl ?_
  refine am_iadd (pc' := 727) dL_law_726 rfl ?_
  refine lw_ld (pc' := 728) (n + 1) (lw_j1 n) (by omega) hL dL_law_727 rfl ?_
  refine am_aload_n (pc' := 729) 0 dL_law_728 rfl rfl rfl ?_
  refine am_iload_n (pc' := 730) 3 dL_law_729 rfl rfl rfl ?_
  refine am_iconst (pc' := 731) (v := 2) dL_law_730 kc_2 rfl ?_
  refine am_iadd (pc' := 732) dL_law_731 rfl ?_
  refine lw_ld (pc' := 733) (n + 2) (lw_j2 n) (by omega) hL dL_law_732 rfl ?_
  refine am_aload_n (pc' := 734) 0 dL_law_733 rfl rfl rfl ?_
  refine am_iload_n (pc' := 735) 3 dL_law_734 rfl rfl rfl ?_
  refine am_iconst (pc' := 736) (v := 3) dL_law_735 kc_3 rfl ?_
  refine am_iadd (pc' := 737) dL_law_736 rfl ?_
  refine lw_ld (pc' := 738) (n + 3) (lw_j3 n) (by omega) hL dL_law_737 rfl ?_
  refine lw_call (pc' := 741) (w1 := (sx_w S' (sm_w M))) (v := .int r) [] [.int (xs (n + 1)), .int (xs (n + 2)), .int (xs (n + 3))] dL_law_738 cs_L_75 (tx_X11_when (sm_w M) (xs (n + 1)) (xs (n + 2)) (xs (n + 3)) S (r, S') h1p) rfl rfl rfl rfl rfl (Nat.le_of_ble_eq_true rfl) rfl rfl rfl ?_
  refine am_aload_n (pc' := 742) 2 dL_law_741 rfl rfl rfl ?_
  refine am_aload_n (pc' := 743) 0 dL_law_742 rfl rfl rfl ?_
  refine am_iload_n (pc' := 744) 3 dL_law_743 rfl rfl rfl ?_
  refine am_iconst (pc' := 745) (v := 1) dL_law_744 kc_1 rfl ?_
  refine am_iadd (pc' := 746) dL_law_745 rfl ?_
  refine lw_ld (pc' := 747) (n + 1) (lw_j1 n) (by omega) hL dL_law_746 rfl ?_
  refine am_aload_n (pc' := 748) 0 dL_law_747 rfl rfl rfl ?_
  refine am_iload_n (pc' := 749) 3 dL_law_748 rfl rfl rfl ?_
  refine am_iconst (pc' := 750) (v := 2) dL_law_749 kc_2 rfl ?_
  refine am_iadd (pc' := 751) dL_law_750 rfl ?_
  refine lw_ld (pc' := 752) (n + 2) (lw_j2 n) (by omega) hL dL_law_751 rfl ?_
  refine am_aload_n (pc' := 753) 0 dL_law_752 rfl rfl rfl ?_
  refine am_iload_n (pc' := 754) 3 dL_law_753 rfl rfl rfl ?_
  refine am_iconst (pc' := 755) (v := 3) dL_law_754 kc_3 rfl ?_
  refine am_iadd (pc' := 756) dL_law_755 rfl ?_
  refine lw_ld (pc' := 757) (n + 3) (lw_j3 n) (by omega) hL dL_law_756 rfl ?_
  refine lw_call (pc' := 760) (w1 := (sx_w S' (sm_w M'))) (v := .int r) [.int r] [.int (xs (n + 1)), .int (xs (n + 2)), .int (xs (n + 3))] dL_law_757 cs_L_78 (tx_X12_when S' (xs (n + 1)) (xs (n + 2)) (xs (n + 3)) M (r, M') h2p) rfl rfl rfl rfl rfl (Nat.le_of_ble_eq_true rfl) rfl rfl rfl ?_
  exact am_icmp_eq (pc' := 763) 1627 dL_law_760 rfl rfl (fun _ => kk) (fun h => absurd rfl h)
def lx_together (a1 a2 : Int32) (S : sx_T) : Option (Int32 × sx_T) := fx_X11_together a1 a2 S
def lm_together (a1 a2 : Int32) (M : sm_T) : Option (Int32 × sm_T) := fx_X12_together a1 a2 M
def lq_together (R : sx_T → sm_T → Prop) : Prop := ∀ (S : sx_T) (M : sm_T), R S M → ∀ a1 a2 : Int32, ∃ r S' M', lx_together a1 a2 S = some (r, S') ∧ lm_together a1 a2 M = some (r, M') ∧ R S' M'
set_option maxHeartbeats 100000 in
theorem lk_together {L : Nat} {xs : Nat → Int32} {n : Nat} (hn : n + 7 ≤ L) (hL : L ≤ 3584) {S S' : sx_T} {M M' : sm_T} {r : Int32} (h1 : lx_together (xs (n + 1)) (xs (n + 2)) S = some (r, S')) (h2 : lm_together (xs (n + 1)) (xs (n + 2)) M = some (r, M'))
    (kk : am_G mL_law (lw_g L xs) lw_kn 1627 [some (.ref 1050), some (.ref 0), some (.ref 45), some (.int (nI n))] [] (sx_w S' (sm_w M'))) : am_G mL_law (lw_g L xs) lw_kn 765 [some (.ref 1050), some (.ref 0), some (.ref 45), some (.int (nI n))] [] (sx_w S (sm_w M)) := by
  have h1p : fx_X11_together (xs (n + 1)) (xs (n + 2)) S = some (r, S') := h1
  have h2p : fx_X12_together (xs (n + 1)) (xs (n + 2)) M = some (r, M') := h2
  refine am_aload_n (pc' := 766) 1 dL_law_765 rfl rfl rfl ?_
  refine am_aload_n (pc' := 767) 0 dL_law_766 rfl rfl rfl ?_
  refine am_iload_n (pc' := 768) 3 dL_law_767 rfl rfl rfl ?_
  refine am_iconst (pc' := 769) (v := 1) dL_law_768 kc_1 rfl ?_
  refine am_iadd (pc' := 770) dL_law_769 rfl ?_
  refine lw_ld (pc' := 771) (n + 1) (lw_j1 n) (by omega) hL dL_law_770 rfl ?_
  refine am_aload_n (pc' := 772) 0 dL_law_771 rfl rfl rfl ?_
  refine am_iload_n (pc' := 773) 3 dL_law_772 rfl rfl rfl ?_
  refine am_iconst (pc' := 774) (v := 2) dL_law_773 kc_2 rfl ?_
  refine am_iadd (pc' := 775) dL_law_774 rfl ?_
  refine lw_ld (pc' := 776) (n + 2) (lw_j2 n) (by omega) hL dL_law_775 rfl ?_
  refine lw_call (pc' := 779) (w1 := (sx_w S' (sm_w M))) (v := .int r) [] [.int (xs (n + 1)), .int (xs (n + 2))] dL_law_776 cs_L_79 (tx_X11_together (sm_w M) (xs (n + 1)) (xs (n + 2)) S (r, S') h1p) rfl rfl rfl rfl rfl (Nat.le_of_ble_eq_true rfl) rfl rfl rfl ?_
  refine am_aload_n (pc' := 780) 2 dL_law_779 rfl rfl rfl ?_
  refine am_aload_n (pc' := 781) 0 dL_law_780 rfl rfl rfl ?_
  refine am_iload_n (pc' := 782) 3 dL_law_781 rfl rfl rfl ?_
  refine am_iconst (pc' := 783) (v := 1) dL_law_782 kc_1 rfl ?_
  refine am_iadd (pc' := 784) dL_law_783 rfl ?_
  refine lw_ld (pc' := 785) (n + 1) (lw_j1 n) (by omega) hL dL_law_784 rfl ?_
  refine am_aload_n (pc' := 786) 0 dL_law_785 rfl rfl rfl ?_
  refine am_iload_n (pc' := 787) 3 dL_law_786 rfl rfl rfl ?_
  refine am_iconst (pc' := 788) (v := 2) dL_law_787 kc_2 rfl ?_
  refine am_iadd (pc' := 789) dL_law_788 rfl ?_
  refine lw_ld (pc' := 790) (n + 2) (lw_j2 n) (by omega) hL dL_law_789 rfl ?_
  refine lw_call (pc' := 793) (w1 := (sx_w S' (sm_w M'))) (v := .int r) [.int r] [.int (xs (n + 1)), .int (xs (n + 2))] dL_law_790 cs_L_82 (tx_X12_together S' (xs (n + 1)) (xs (n + 2)) M (r, M') h2p) rfl rfl rfl rfl rfl (Nat.le_of_ble_eq_true rfl) rfl rfl rfl ?_
  exact am_icmp_eq (pc' := 796) 1627 dL_law_793 rfl rfl (fun _ => kk) (fun h => absurd rfl h)
def lx_without (a1 a2 a3 : Int32) (S : sx_T) : Option (Int32 × sx_T) := fx_X11_without a1 a2 a3 S
def lm_without (a1 a2 a3 : Int32) (M : sm_T) : Option (Int32 × sm_T) := fx_X12_without a1 a2 a3 M
def lq_without (R : sx_T → sm_T → Prop) : Prop := ∀ (S : sx_T) (M : sm_T), R S M → ∀ a1 a2 a3 : Int32, ∃ r S' M', lx_without a1 a2 a3 S = some (r, S') ∧ lm_without a1 a2 a3 M = some (r, M') ∧ R S' M'
set_option maxHeartbeats 100000 in
theorem lk_without {L : Nat} {xs : Nat → Int32} {n : Nat} (hn : n + 7 ≤ L) (hL : L ≤ 3584) {S S' : sx_T} {M M' : sm_T} {r : Int32} (h1 : lx_without (xs (n + 1)) (xs (n + 2)) (xs (n + 3)) S = some (r, S')) (h2 : lm_without (xs (n + 1)) (xs (n + 2)) (xs (n + 3)) M = some (r, M'))
    (kk : am_G mL_law (lw_g L xs) lw_kn 1627 [some (.ref 1050), some (.ref 0), some (.ref 45), some (.int (nI n))] [] (sx_w S' (sm_w M'))) : am_G mL_law (lw_g L xs) lw_kn 798 [some (.ref 1050), some (.ref 0), some (.ref 45), some (.int (nI n))] [] (sx_w S (sm_w M)) := by
  have h1p : fx_X11_without (xs (n + 1)) (xs (n + 2)) (xs (n + 3)) S = some (r, S') := h1
  have h2p : fx_X12_without (xs (n + 1)) (xs (n + 2)) (xs (n + 3)) M = some (r, M') := h2
  refine am_aload_n (pc' := 799) 1 dL_law_798 rfl rfl rfl ?_
  refine am_aload_n (pc' := 800) 0 dL_law_799 rfl rfl rfl ?_
  refine am_iload_n (pc' := 801) 3 dL_law_800 rfl rfl rfl ?_
  refine am_iconst (pc' := 802) (v := 1) dL_law_801 kc_1 rfl ?_
  refine am_iadd (pc' := 803) dL_law_802 rfl ?_
  refine lw_ld (pc' := 804) (n + 1) (lw_j1 n) (by omega) hL dL_law_803 rfl ?_
  refine am_aload_n (pc' := 805) 0 dL_law_804 rfl rfl rfl ?_
  refine am_iload_n (pc' := 806) 3 dL_law_805 rfl rfl rfl ?_
  refine am_iconst (pc' := 807) (v := 2) dL_law_806 kc_2 rfl ?_
  refine am_iadd (pc' := 808) dL_law_807 rfl ?_
  refine lw_ld (pc' := 809) (n + 2) (lw_j2 n) (by omega) hL dL_law_808 rfl ?_
  refine am_aload_n (pc' := 810) 0 dL_law_809 rfl rfl rfl ?_
  refine am_iload_n (pc' := 811) 3 dL_law_810 rfl rfl rfl ?_
  refine am_iconst (pc' := 812) (v := 3) dL_law_811 kc_3 rfl ?_
  refine am_iadd (pc' := 813) dL_law_812 rfl ?_
  refine lw_ld (pc' := 814) (n + 3) (lw_j3 n) (by omega) hL dL_law_813 rfl ?_
  refine lw_call (pc' := 817) (w1 := (sx_w S' (sm_w M))) (v := .int r) [] [.int (xs (n + 1)), .int (xs (n + 2)), .int (xs (n + 3))] dL_law_814 cs_L_83 (tx_X11_without (sm_w M) (xs (n + 1)) (xs (n + 2)) (xs (n + 3)) S (r, S') h1p) rfl rfl rfl rfl rfl (Nat.le_of_ble_eq_true rfl) rfl rfl rfl ?_
  refine am_aload_n (pc' := 818) 2 dL_law_817 rfl rfl rfl ?_
  refine am_aload_n (pc' := 819) 0 dL_law_818 rfl rfl rfl ?_
  refine am_iload_n (pc' := 820) 3 dL_law_819 rfl rfl rfl ?_
  refine am_iconst (pc' := 821) (v := 1) dL_law_820 kc_1 rfl ?_
  refine am_iadd (pc' := 822) dL_law_821 rfl ?_
  refine lw_ld (pc' := 823) (n + 1) (lw_j1 n) (by omega) hL dL_law_822 rfl ?_
  refine am_aload_n (pc' := 824) 0 dL_law_823 rfl rfl rfl ?_
  refine am_iload_n (pc' := 825) 3 dL_law_824 rfl rfl rfl ?_
  refine am_iconst (pc' := 826) (v := 2) dL_law_825 kc_2 rfl ?_
  refine am_iadd (pc' := 827) dL_law_826 rfl ?_
  refine lw_ld (pc' := 828) (n + 2) (lw_j2 n) (by omega) hL dL_law_827 rfl ?_
  refine am_aload_n (pc' := 829) 0 dL_law_828 rfl rfl rfl ?_
  refine am_iload_n (pc' := 830) 3 dL_law_829 rfl rfl rfl ?_
  refine am_iconst (pc' := 831) (v := 3) dL_law_830 kc_3 rfl ?_
  refine am_iadd (pc' := 832) dL_law_831 rfl ?_
  refine lw_ld (pc' := 833) (n + 3) (lw_j3 n) (by omega) hL dL_law_832 rfl ?_
  refine lw_call (pc' := 836) (w1 := (sx_w S' (sm_w M'))) (v := .int r) [.int r] [.int (xs (n + 1)), .int (xs (n + 2)), .int (xs (n + 3))] dL_law_833 cs_L_86 (tx_X12_without S' (xs (n + 1)) (xs (n + 2)) (xs (n + 3)) M (r, M') h2p) rfl rfl rfl rfl rfl (Nat.le_of_ble_eq_true rfl) rfl rfl rfl ?_
  exact am_icmp_eq (pc' := 839) 1627 dL_law_836 rfl rfl (fun _ => kk) (fun h => absurd rfl h)
def lx_paint (a1 a2 a3 : Int32) (S : sx_T) : Option (Int32 × sx_T) := fx_X11_paint a1 a2 a3 S
def lm_paint (a1 a2 a3 : Int32) (M : sm_T) : Option (Int32 × sm_T) := fx_X12_paint a1 a2 a3 M
def lq_paint (R : sx_T → sm_T → Prop) : Prop := ∀ (S : sx_T) (M : sm_T), R S M → ∀ a1 a2 a3 : Int32, ∃ r S' M', lx_paint a1 a2 a3 S = some (r, S') ∧ lm_paint a1 a2 a3 M = some (r, M') ∧ R S' M'
set_option maxHeartbeats 100000 in
theorem lk_paint {L : Nat} {xs : Nat → Int32} {n : Nat} (hn : n + 7 ≤ L) (hL : L ≤ 3584) {S S' : sx_T} {M M' : sm_T} {r : Int32} (h1 : lx_paint (xs (n + 1)) (xs (n + 2)) (xs (n + 3)) S = some (r, S')) (h2 : lm_paint (xs (n + 1)) (xs (n + 2)) (xs (n + 3)) M = some (r, M'))
    (kk : am_G mL_law (lw_g L xs) lw_kn 1627 [some (.ref 1050), some (.ref 0), some (.ref 45), some (.int (nI n))] [] (sx_w S' (sm_w M'))) : am_G mL_law (lw_g L xs) lw_kn 841 [some (.ref 1050), some (.ref 0), some (.ref 45), some (.int (nI n))] [] (sx_w S (sm_w M)) := by
  have h1p : fx_X11_paint (xs (n + 1)) (xs (n + 2)) (xs (n + 3)) S = some (r, S') := h1
  have h2p : fx_X12_paint (xs (n + 1)) (xs (n + 2)) (xs (n + 3)) M = some (r, M') := h2
  refine am_aload_n (pc' := 842) 1 dL_law_841 rfl rfl rfl ?_
  refine am_aload_n (pc' := 843) 0 dL_law_842 rfl rfl rfl ?_
  refine am_iload_n (pc' := 844) 3 dL_law_843 rfl rfl rfl ?_
  refine am_iconst (pc' := 845) (v := 1) dL_law_844 kc_1 rfl ?_
  refine am_iadd (pc' := 846) dL_law_845 rfl ?_
  refine lw_ld (pc' := 847) (n + 1) (lw_j1 n) (by omega) hL dL_law_846 rfl ?_
  refine am_aload_n (pc' := 848) 0 dL_law_847 rfl rfl rfl ?_
  refine am_iload_n (pc' := 849) 3 dL_law_848 rfl rfl rfl ?_
  refine am_iconst (pc' := 850) (v := 2) dL_law_849 kc_2 rfl ?_
  refine am_iadd (pc' := 851) dL_law_850 rfl ?_
  refine lw_ld (pc' := 852) (n + 2) (lw_j2 n) (by omega) hL dL_law_851 rfl ?_
  refine am_aload_n (pc' := 853) 0 dL_law_852 rfl rfl rfl ?_
  refine am_iload_n (pc' := 854) 3 dL_law_853 rfl rfl rfl ?_
  refine am_iconst (pc' := 855) (v := 3) dL_law_854 kc_3 rfl ?_
  refine am_iadd (pc' := 856) dL_law_855 rfl ?_
  refine lw_ld (pc' := 857) (n + 3) (lw_j3 n) (by omega) hL dL_law_856 rfl ?_
  refine lw_call (pc' := 860) (w1 := (sx_w S' (sm_w M))) (v := .int r) [] [.int (xs (n + 1)), .int (xs (n + 2)), .int (xs (n + 3))] dL_law_857 cs_L_87 (tx_X11_paint (sm_w M) (xs (n + 1)) (xs (n + 2)) (xs (n + 3)) S (r, S') h1p) rfl rfl rfl rfl rfl (Nat.le_of_ble_eq_true rfl) rfl rfl rfl ?_
  refine am_aload_n (pc' := 861) 2 dL_law_860 rfl rfl rfl ?_
  refine am_aload_n (pc' := 862) 0 dL_law_861 rfl rfl rfl ?_
  refine am_iload_n (pc' := 863) 3 dL_law_862 rfl rfl rfl ?_
  refine am_iconst (pc' := 864) (v := 1) dL_law_863 kc_1 rfl ?_
  refine am_iadd (pc' := 865) dL_law_864 rfl ?_
  refine lw_ld (pc' := 866) (n + 1) (lw_j1 n) (by omega) hL dL_law_865 rfl ?_
  refine am_aload_n (pc' := 867) 0 dL_law_866 rfl rfl rfl ?_
  refine am_iload_n (pc' := 868) 3 dL_law_867 rfl rfl rfl ?_
  refine am_iconst (pc' := 869) (v := 2) dL_law_868 kc_2 rfl ?_
  refine am_iadd (pc' := 870) dL_law_869 rfl ?_
  refine lw_ld (pc' := 871) (n + 2) (lw_j2 n) (by omega) hL dL_law_870 rfl ?_
  refine am_aload_n (pc' := 872) 0 dL_law_871 rfl rfl rfl ?_
  refine am_iload_n (pc' := 873) 3 dL_law_872 rfl rfl rfl ?_
  refine am_iconst (pc' := 874) (v := 3) dL_law_873 kc_3 rfl ?_
  refine am_iadd (pc' := 875) dL_law_874 rfl ?_
  refine lw_ld (pc' := 876) (n + 3) (lw_j3 n) (by omega) hL dL_law_875 rfl ?_
  refine lw_call (pc' := 879) (w1 := (sx_w S' (sm_w M'))) (v := .int r) [.int r] [.int (xs (n + 1)), .int (xs (n + 2)), .int (xs (n + 3))] dL_law_876 cs_L_90 (tx_X12_paint S' (xs (n + 1)) (xs (n + 2)) (xs (n + 3)) M (r, M') h2p) rfl rfl rfl rfl rfl (Nat.le_of_ble_eq_true rfl) rfl rfl rfl ?_
  exact am_icmp_eq (pc' := 882) 1627 dL_law_879 rfl rfl (fun _ => kk) (fun h => absurd rfl h)
