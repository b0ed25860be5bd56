def am_kr (c : Fin 8) : Nat := if c.val = 7 then 39 else 12 + c.val
def am_kinds : Nat → Option Nat := fun i => if i < 6 then some (12 + i) else none
def am_lawtextL : List Int32 := [108, 105, 107, 101, 115, 32, 108, 105, 103, 104, 116, 32, 45, 32, 100, 97, 109, 112, 32, 59, 32, 107, 101, 101, 112, 115, 32, 49, 32, 59, 32, 111, 102, 102, 101, 114, 115, 32, 114, 105, 99, 104, 32, 59]
def am_lawtext : Nat → Int32 := fun i => am_lawtextL.getD i 0
def am_wordsL : List Int32 := [108, 105, 107, 101, 115, 32, 32, 32, 107, 101, 101, 112, 115, 32, 32, 32, 111, 102, 102, 101, 114, 115, 32, 32, 108, 105, 103, 104, 116, 32, 32, 32, 100, 97, 109, 112, 32, 32, 32, 32, 114, 111, 111, 109, 32, 32, 32, 32, 104, 111, 117, 114, 32, 32, 32, 32, 99, 114, 111, 119, 100, 32, 32, 32, 114, 105, 99, 104, 32, 32, 32, 32, 111, 114, 32, 32, 32, 32, 32, 32, 97, 110, 100, 32, 32, 32, 32, 32, 110, 111, 116, 32, 32, 32, 32, 32]
def am_words : Nat → Int32 := fun i => am_wordsL.getD i 0
/-- a row with one place changed -/
def am_us {α : Type} (f : Nat → α) (k : Nat) (v : α) : Nat → α := fun j => cond (Nat.beq j k) v (f j)
abbrev sx_T : Type := (Nat → Int32) × (Nat → Nat → Int32) × Fin 8
def sx_imageKept (S : sx_T) : Int32 := S.1 0
def ux_imageKept (S : sx_T) (v : Int32) : sx_T := (am_us S.1 0 v, S.2)
def sx_wayLength (S : sx_T) : Int32 := S.1 1
def ux_wayLength (S : sx_T) (v : Int32) : sx_T := (am_us S.1 1 v, S.2)
def sx_now_viewers (S : sx_T) : Int32 := S.1 2
def ux_now_viewers (S : sx_T) (v : Int32) : sx_T := (am_us S.1 2 v, S.2)
def sx_now_hour (S : sx_T) : Int32 := S.1 3
def ux_now_hour (S : sx_T) (v : Int32) : sx_T := (am_us S.1 3 v, S.2)
def sx_now_law (S : sx_T) : Int32 := S.1 4
def ux_now_law (S : sx_T) (v : Int32) : sx_T := (am_us S.1 4 v, S.2)
def sx_kept_viewers (S : sx_T) : Int32 := S.1 5
def ux_kept_viewers (S : sx_T) (v : Int32) : sx_T := (am_us S.1 5 v, S.2)
def sx_kept_hour (S : sx_T) : Int32 := S.1 6
def ux_kept_hour (S : sx_T) (v : Int32) : sx_T := (am_us S.1 6 v, S.2)
def sx_kept_law (S : sx_T) : Int32 := S.1 7
def ux_kept_law (S : sx_T) (v : Int32) : sx_T := (am_us S.1 7 v, S.2)
def sx_tx_count (S : sx_T) : Int32 := S.1 8
def ux_tx_count (S : sx_T) (v : Int32) : sx_T := (am_us S.1 8 v, S.2)
def sx_tx_written (S : sx_T) : Int32 := S.1 9
def ux_tx_written (S : sx_T) (v : Int32) : sx_T := (am_us S.1 9 v, S.2)
def sx_tx_names (S : sx_T) : Int32 := S.1 10
def ux_tx_names (S : sx_T) (v : Int32) : sx_T := (am_us S.1 10 v, S.2)
def sx_rd_size (S : sx_T) : Int32 := S.1 11
def ux_rd_size (S : sx_T) (v : Int32) : sx_T := (am_us S.1 11 v, S.2)
def sx_rd_known (S : sx_T) : Int32 := S.1 12
def ux_rd_known (S : sx_T) (v : Int32) : sx_T := (am_us S.1 12 v, S.2)
def sx_rd_token (S : sx_T) : Int32 := S.1 13
def ux_rd_token (S : sx_T) (v : Int32) : sx_T := (am_us S.1 13 v, S.2)
def sx_rd_seen (S : sx_T) : Int32 := S.1 14
def ux_rd_seen (S : sx_T) (v : Int32) : sx_T := (am_us S.1 14 v, S.2)
def sx_vi_length (S : sx_T) : Int32 := S.1 15
def ux_vi_length (S : sx_T) (v : Int32) : sx_T := (am_us S.1 15 v, S.2)
def sx_vi_more (S : sx_T) : Int32 := S.1 16
def ux_vi_more (S : sx_T) (v : Int32) : sx_T := (am_us S.1 16 v, S.2)
def sx_vi_crowd (S : sx_T) : Int32 := S.1 17
def ux_vi_crowd (S : sx_T) (v : Int32) : sx_T := (am_us S.1 17 v, S.2)
def sx_vi_law (S : sx_T) : Int32 := S.1 18
def ux_vi_law (S : sx_T) (v : Int32) : sx_T := (am_us S.1 18 v, S.2)
def sx_vi_hour (S : sx_T) : Int32 := S.1 19
def ux_vi_hour (S : sx_T) (v : Int32) : sx_T := (am_us S.1 19 v, S.2)
def sx_vi_known (S : sx_T) : Int32 := S.1 20
def ux_vi_known (S : sx_T) (v : Int32) : sx_T := (am_us S.1 20 v, S.2)
def sx_now_light (S : sx_T) : Nat → Int32 := S.2.1 0
def ux_now_light (S : sx_T) (v : Nat → Int32) : sx_T := (S.1, am_us S.2.1 0 v, S.2.2)
def sx_now_damp (S : sx_T) : Nat → Int32 := S.2.1 1
def ux_now_damp (S : sx_T) (v : Nat → Int32) : sx_T := (S.1, am_us S.2.1 1 v, S.2.2)
def sx_now_rich (S : sx_T) : Nat → Int32 := S.2.1 2
def ux_now_rich (S : sx_T) (v : Nat → Int32) : sx_T := (S.1, am_us S.2.1 2 v, S.2.2)
def sx_now_quiet (S : sx_T) : Nat → Int32 := S.2.1 3
def ux_now_quiet (S : sx_T) (v : Nat → Int32) : sx_T := (S.1, am_us S.2.1 3 v, S.2.2)
def sx_kept_light (S : sx_T) : Nat → Int32 := S.2.1 4
def ux_kept_light (S : sx_T) (v : Nat → Int32) : sx_T := (S.1, am_us S.2.1 4 v, S.2.2)
def sx_kept_damp (S : sx_T) : Nat → Int32 := S.2.1 5
def ux_kept_damp (S : sx_T) (v : Nat → Int32) : sx_T := (S.1, am_us S.2.1 5 v, S.2.2)
def sx_kept_rich (S : sx_T) : Nat → Int32 := S.2.1 6
def ux_kept_rich (S : sx_T) (v : Nat → Int32) : sx_T := (S.1, am_us S.2.1 6 v, S.2.2)
def sx_kept_quiet (S : sx_T) : Nat → Int32 := S.2.1 7
def ux_kept_quiet (S : sx_T) (v : Nat → Int32) : sx_T := (S.1, am_us S.2.1 7 v, S.2.2)
def sx_kindOf (S : sx_T) : Nat → Int32 := S.2.1 8
def ux_kindOf (S : sx_T) (v : Nat → Int32) : sx_T := (S.1, am_us S.2.1 8 v, S.2.2)
def sx_moreOf (S : sx_T) : Nat → Int32 := S.2.1 9
def ux_moreOf (S : sx_T) (v : Nat → Int32) : sx_T := (S.1, am_us S.2.1 9 v, S.2.2)
def sx_tx_steps (S : sx_T) : Nat → Int32 := S.2.1 10
def ux_tx_steps (S : sx_T) (v : Nat → Int32) : sx_T := (S.1, am_us S.2.1 10 v, S.2.2)
def sx_tx_ends (S : sx_T) : Nat → Int32 := S.2.1 11
def ux_tx_ends (S : sx_T) (v : Nat → Int32) : sx_T := (S.1, am_us S.2.1 11 v, S.2.2)
def sx_tx_named (S : sx_T) : Nat → Int32 := S.2.1 12
def ux_tx_named (S : sx_T) (v : Nat → Int32) : sx_T := (S.1, am_us S.2.1 12 v, S.2.2)
def sx_tx_stack (S : sx_T) : Nat → Int32 := S.2.1 13
def ux_tx_stack (S : sx_T) (v : Nat → Int32) : sx_T := (S.1, am_us S.2.1 13 v, S.2.2)
def sx_rd_tape (S : sx_T) : Nat → Int32 := S.2.1 14
def ux_rd_tape (S : sx_T) (v : Nat → Int32) : sx_T := (S.1, am_us S.2.1 14 v, S.2.2)
def sx_rd_tokens (S : sx_T) : Nat → Int32 := S.2.1 15
def ux_rd_tokens (S : sx_T) (v : Nat → Int32) : sx_T := (S.1, am_us S.2.1 15 v, S.2.2)
def sx_rd_places (S : sx_T) : Nat → Int32 := S.2.1 16
def ux_rd_places (S : sx_T) (v : Nat → Int32) : sx_T := (S.1, am_us S.2.1 16 v, S.2.2)
def sx_sh_cells (S : sx_T) : Nat → Int32 := S.2.1 17
def ux_sh_cells (S : sx_T) (v : Nat → Int32) : sx_T := (S.1, am_us S.2.1 17 v, S.2.2)
def sx_sh_sorts (S : sx_T) : Nat → Int32 := S.2.1 18
def ux_sh_sorts (S : sx_T) (v : Nat → Int32) : sx_T := (S.1, am_us S.2.1 18 v, S.2.2)
def sx_sh_sizes (S : sx_T) : Nat → Int32 := S.2.1 19
def ux_sh_sizes (S : sx_T) (v : Nat → Int32) : sx_T := (S.1, am_us S.2.1 19 v, S.2.2)
def sx_vi_light (S : sx_T) : Nat → Int32 := S.2.1 20
def ux_vi_light (S : sx_T) (v : Nat → Int32) : sx_T := (S.1, am_us S.2.1 20 v, S.2.2)
def sx_vi_damp (S : sx_T) : Nat → Int32 := S.2.1 21
def ux_vi_damp (S : sx_T) (v : Nat → Int32) : sx_T := (S.1, am_us S.2.1 21 v, S.2.2)
def sx_vi_walked (S : sx_T) : Nat → Int32 := S.2.1 22
def ux_vi_walked (S : sx_T) (v : Nat → Int32) : sx_T := (S.1, am_us S.2.1 22 v, S.2.2)
def sx_vi_names (S : sx_T) : Nat → Int32 := S.2.1 23
def ux_vi_names (S : sx_T) (v : Nat → Int32) : sx_T := (S.1, am_us S.2.1 23 v, S.2.2)
def sx_vi_minds (S : sx_T) : Nat → Int32 := S.2.1 24
def ux_vi_minds (S : sx_T) (v : Nat → Int32) : sx_T := (S.1, am_us S.2.1 24 v, S.2.2)
def sx_order (S : sx_T) : Nat → Int32 := S.2.1 25
def ux_order (S : sx_T) (v : Nat → Int32) : sx_T := (S.1, am_us S.2.1 25 v, S.2.2)
def sx_way (S : sx_T) : Nat → Int32 := S.2.1 26
def ux_way (S : sx_T) (v : Nat → Int32) : sx_T := (S.1, am_us S.2.1 26 v, S.2.2)
def sx_gains (S : sx_T) : Nat → Int32 := S.2.1 27
def ux_gains (S : sx_T) (v : Nat → Int32) : sx_T := (S.1, am_us S.2.1 27 v, S.2.2)
def sx_offered (S : sx_T) : Nat → Int32 := S.2.1 28
def ux_offered (S : sx_T) (v : Nat → Int32) : sx_T := (S.1, am_us S.2.1 28 v, S.2.2)
abbrev sm_T : Type := (Nat → Int32) × (Nat → Nat → Int32)
def sm_viewers (S : sm_T) : Int32 := S.1 0
def um_viewers (S : sm_T) (v : Int32) : sm_T := (am_us S.1 0 v, S.2)
def sm_hour (S : sm_T) : Int32 := S.1 1
def um_hour (S : sm_T) (v : Int32) : sm_T := (am_us S.1 1 v, S.2)
def sm_taped (S : sm_T) : Int32 := S.1 2
def um_taped (S : sm_T) (v : Int32) : sm_T := (am_us S.1 2 v, S.2)
def sm_texts (S : sm_T) : Int32 := S.1 3
def um_texts (S : sm_T) (v : Int32) : sm_T := (am_us S.1 3 v, S.2)
def sm_rule (S : sm_T) : Int32 := S.1 4
def um_rule (S : sm_T) (v : Int32) : sm_T := (am_us S.1 4 v, S.2)
def sm_hasImage (S : sm_T) : Int32 := S.1 5
def um_hasImage (S : sm_T) (v : Int32) : sm_T := (am_us S.1 5 v, S.2)
def sm_at (S : sm_T) : Int32 := S.1 6
def um_at (S : sm_T) (v : Int32) : sm_T := (am_us S.1 6 v, S.2)
def sm_begun (S : sm_T) : Int32 := S.1 7
def um_begun (S : sm_T) (v : Int32) : sm_T := (am_us S.1 7 v, S.2)
def sm_token (S : sm_T) : Int32 := S.1 8
def um_token (S : sm_T) (v : Int32) : sm_T := (am_us S.1 8 v, S.2)
def sm_value (S : sm_T) : Int32 := S.1 9
def um_value (S : sm_T) (v : Int32) : sm_T := (am_us S.1 9 v, S.2)
def sm_heldMany (S : sm_T) : Int32 := S.1 10
def um_heldMany (S : sm_T) (v : Int32) : sm_T := (am_us S.1 10 v, S.2)
def sm_opens (S : sm_T) : Int32 := S.1 11
def um_opens (S : sm_T) (v : Int32) : sm_T := (am_us S.1 11 v, S.2)
def sm_out (S : sm_T) : Int32 := S.1 12
def um_out (S : sm_T) (v : Int32) : sm_T := (am_us S.1 12 v, S.2)
def sm_rooms0 (S : sm_T) : Int32 := S.1 13
def um_rooms0 (S : sm_T) (v : Int32) : sm_T := (am_us S.1 13 v, S.2)
def sm_bestOne (S : sm_T) : Int32 := S.1 14
def um_bestOne (S : sm_T) (v : Int32) : sm_T := (am_us S.1 14 v, S.2)
def sm_bestOffer (S : sm_T) : Int32 := S.1 15
def um_bestOffer (S : sm_T) (v : Int32) : sm_T := (am_us S.1 15 v, S.2)
def sm_nextOffer (S : sm_T) : Int32 := S.1 16
def um_nextOffer (S : sm_T) (v : Int32) : sm_T := (am_us S.1 16 v, S.2)
def sm_kind (S : sm_T) : Nat → Int32 := S.2 0
def um_kind (S : sm_T) (v : Nat → Int32) : sm_T := (S.1, am_us S.2 0 v)
def sm_moreOf (S : sm_T) : Nat → Int32 := S.2 1
def um_moreOf (S : sm_T) (v : Nat → Int32) : sm_T := (S.1, am_us S.2 1 v)
def sm_ones (S : sm_T) : Nat → Int32 := S.2 2
def um_ones (S : sm_T) (v : Nat → Int32) : sm_T := (S.1, am_us S.2 2 v)
def sm_flat (S : sm_T) : Nat → Int32 := S.2 3
def um_flat (S : sm_T) (v : Nat → Int32) : sm_T := (S.1, am_us S.2 3 v)
def sm_tape (S : sm_T) : Nat → Int32 := S.2 4
def um_tape (S : sm_T) (v : Nat → Int32) : sm_T := (S.1, am_us S.2 4 v)
def sm_codes (S : sm_T) : Nat → Int32 := S.2 5
def um_codes (S : sm_T) (v : Nat → Int32) : sm_T := (S.1, am_us S.2 5 v)
def sm_starts (S : sm_T) : Nat → Int32 := S.2 6
def um_starts (S : sm_T) (v : Nat → Int32) : sm_T := (S.1, am_us S.2 6 v)
def sm_imageRows (S : sm_T) : Nat → Int32 := S.2 7
def um_imageRows (S : sm_T) (v : Nat → Int32) : sm_T := (S.1, am_us S.2 7 v)
def sm_imageHeld (S : sm_T) : Nat → Int32 := S.2 8
def um_imageHeld (S : sm_T) (v : Nat → Int32) : sm_T := (S.1, am_us S.2 8 v)
def sm_sheetSort (S : sm_T) : Nat → Int32 := S.2 9
def um_sheetSort (S : sm_T) (v : Nat → Int32) : sm_T := (S.1, am_us S.2 9 v)
def sm_sheetSize (S : sm_T) : Nat → Int32 := S.2 10
def um_sheetSize (S : sm_T) (v : Nat → Int32) : sm_T := (S.1, am_us S.2 10 v)
def sm_cells (S : sm_T) : Nat → Int32 := S.2 11
def um_cells (S : sm_T) (v : Nat → Int32) : sm_T := (S.1, am_us S.2 11 v)
def sm_held (S : sm_T) : Nat → Int32 := S.2 12
def um_held (S : sm_T) (v : Nat → Int32) : sm_T := (S.1, am_us S.2 12 v)
def sm_stack (S : sm_T) : Nat → Int32 := S.2 13
def um_stack (S : sm_T) (v : Nat → Int32) : sm_T := (S.1, am_us S.2 13 v)
def sm_named (S : sm_T) : Nat → Int32 := S.2 14
def um_named (S : sm_T) (v : Nat → Int32) : sm_T := (S.1, am_us S.2 14 v)
def sm_row (S : sm_T) : Nat → Int32 := S.2 15
def um_row (S : sm_T) (v : Nat → Int32) : sm_T := (S.1, am_us S.2 15 v)
def sm_mindBy (S : sm_T) : Nat → Int32 := S.2 16
def um_mindBy (S : sm_T) (v : Nat → Int32) : sm_T := (S.1, am_us S.2 16 v)
def sm_offerBy (S : sm_T) : Nat → Int32 := S.2 17
def um_offerBy (S : sm_T) (v : Nat → Int32) : sm_T := (S.1, am_us S.2 17 v)
def sm_offerAlone (S : sm_T) : Nat → Int32 := S.2 18
def um_offerAlone (S : sm_T) (v : Nat → Int32) : sm_T := (S.1, am_us S.2 18 v)
def sm_comer (S : sm_T) : Nat → Int32 := S.2 19
def um_comer (S : sm_T) (v : Nat → Int32) : sm_T := (S.1, am_us S.2 19 v)
def sx_vi_kind (S : sx_T) : Fin 8 := S.2.2
def ux_vi_kind (S : sx_T) (v : Fin 8) : sx_T := (S.1, S.2.1, v)
def sx_w (S : sx_T) (r : am_W) : am_W := (.inr (.inr (11, [.ref 1, .ref 6, .int (sx_imageKept S), .ref 11, .ref 18, .ref 19, .ref 20, .ref 21, .ref 26, .ref 30, .ref 34, .ref 41, .ref 42, .int (sx_wayLength S), .ref 43, .ref 44]))) :: (.inr (.inr (6, [.ref 2, .ref 3, .ref 4, .ref 5, .int (sx_now_viewers S), .int (sx_now_hour S), .int (sx_now_law S)]))) :: (.inl (6, sx_now_light S)) :: (.inl (6, sx_now_damp S)) :: (.inl (8, sx_now_rich S)) :: (.inl (8, sx_now_quiet S)) :: (.inr (.inr (6, [.ref 7, .ref 8, .ref 9, .ref 10, .int (sx_kept_viewers S), .int (sx_kept_hour S), .int (sx_kept_law S)]))) :: (.inl (6, sx_kept_light S)) :: (.inl (6, sx_kept_damp S)) :: (.inl (8, sx_kept_rich S)) :: (.inl (8, sx_kept_quiet S)) :: (.inr (.inl (6, am_kinds))) :: (.inr (.inr (9, []))) :: (.inr (.inr (1, []))) :: (.inr (.inr (7, []))) :: (.inr (.inr (2, []))) :: (.inr (.inr (3, []))) :: (.inr (.inr (0, []))) :: (.inr (.inr (9, []))) :: (.inl (8, sx_kindOf S)) :: (.inl (8, sx_moreOf S)) :: (.inr (.inr (8, [.ref 22, .ref 23, .ref 24, .ref 25, .int (sx_tx_count S), .int (sx_tx_written S), .int (sx_tx_names S)]))) :: (.inl (960, sx_tx_steps S)) :: (.inl (18, sx_tx_ends S)) :: (.inl (18, sx_tx_named S)) :: (.inl (160, sx_tx_stack S)) :: (.inr (.inr (4, [.ref 27, .int (sx_rd_size S), .ref 21, .ref 28, .ref 29, .int (sx_rd_known S), .int (sx_rd_token S), .int (sx_rd_seen S)]))) :: (.inl (160, sx_rd_tape S)) :: (.inl (161, sx_rd_tokens S)) :: (.inl (161, sx_rd_places S)) :: (.inr (.inr (5, [.ref 31, .ref 32, .ref 33]))) :: (.inl (160, sx_sh_cells S)) :: (.inl (4, sx_sh_sorts S)) :: (.inl (4, sx_sh_sizes S)) :: (.inr (.inr (10, [.ref 21, .ref 35, .ref 36, .ref 37, .ref 38, .int (sx_vi_length S), .ref (am_kr (sx_vi_kind S)), .int (sx_vi_more S), .int (sx_vi_crowd S), .int (sx_vi_law S), .int (sx_vi_hour S), .ref 40, .int (sx_vi_known S)]))) :: (.inl (6, sx_vi_light S)) :: (.inl (6, sx_vi_damp S)) :: (.inl (6, sx_vi_walked S)) :: (.inl (6, sx_vi_names S)) :: (.inr (.inr (9, []))) :: (.inl (12, sx_vi_minds S)) :: (.inl (6, sx_order S)) :: (.inl (6, sx_way S)) :: (.inl (18, sx_gains S)) :: (.inl (8, sx_offered S)) :: r
def sm_w (S : sm_T) : am_W := (.inr (.inr (12, [.int (sm_viewers S), .ref 46, .ref 47, .ref 48, .ref 49, .int (sm_hour S), .ref 50, .int (sm_taped S), .ref 51, .ref 52, .int (sm_texts S), .int (sm_rule S), .int (sm_hasImage S), .ref 53, .ref 54, .ref 55, .ref 56, .ref 57, .ref 58, .int (sm_at S), .int (sm_begun S), .int (sm_token S), .int (sm_value S), .ref 59, .ref 60, .int (sm_heldMany S), .int (sm_opens S), .int (sm_out S), .ref 61, .ref 62, .ref 63, .int (sm_rooms0 S), .int (sm_bestOne S), .int (sm_bestOffer S), .int (sm_nextOffer S), .ref 64, .ref 65, .ref 66, .ref 67]))) :: (.inl (8, sm_kind S)) :: (.inl (8, sm_moreOf S)) :: (.inl (16, sm_ones S)) :: (.inl (12, sm_flat S)) :: (.inl (160, sm_tape S)) :: (.inl (1200, sm_codes S)) :: (.inl (24, sm_starts S)) :: (.inl (28, sm_imageRows S)) :: (.inl (3, sm_imageHeld S)) :: (.inl (4, sm_sheetSort S)) :: (.inl (4, sm_sheetSize S)) :: (.inl (160, sm_cells S)) :: (.inl (44, am_lawtext)) :: (.inl (96, am_words)) :: (.inl (200, sm_held S)) :: (.inl (200, sm_stack S)) :: (.inl (6, sm_named S)) :: (.inl (6, sm_row S)) :: (.inl (36, sm_mindBy S)) :: (.inl (72, sm_offerBy S)) :: (.inl (8, sm_offerAlone S)) :: (.inl (6, sm_comer S)) :: []
theorem sx_len (S S2 : sx_T) (r : am_W) : (sx_w S2 r).length = (sx_w S r).length + 0 ∧ (0 = 0 ∨ (sx_w S2 r).length ≤ 1000) := ⟨rfl, Or.inl rfl⟩
theorem sm_len (S0 S1 : sx_T) (S S2 : sm_T) : (sx_w S1 (sm_w S2)).length = (sx_w S0 (sm_w S)).length + 0 ∧ (0 = 0 ∨ (sx_w S1 (sm_w S2)).length ≤ 1000) := ⟨rfl, Or.inl rfl⟩
theorem sx_c0 (S : sx_T) (r : am_W) : (sx_w S r)[0]? = some (.inr (.inr (11, [.ref 1, .ref 6, .int (sx_imageKept S), .ref 11, .ref 18, .ref 19, .ref 20, .ref 21, .ref 26, .ref 30, .ref 34, .ref 41, .ref 42, .int (sx_wayLength S), .ref 43, .ref 44]))) := rfl
theorem sx_c1 (S : sx_T) (r : am_W) : (sx_w S r)[1]? = some (.inr (.inr (6, [.ref 2, .ref 3, .ref 4, .ref 5, .int (sx_now_viewers S), .int (sx_now_hour S), .int (sx_now_law S)]))) := rfl
theorem sx_c2 (S : sx_T) (r : am_W) : (sx_w S r)[2]? = some (.inl (6, sx_now_light S)) := rfl
theorem sx_c3 (S : sx_T) (r : am_W) : (sx_w S r)[3]? = some (.inl (6, sx_now_damp S)) := rfl
theorem sx_c4 (S : sx_T) (r : am_W) : (sx_w S r)[4]? = some (.inl (8, sx_now_rich S)) := rfl
theorem sx_c5 (S : sx_T) (r : am_W) : (sx_w S r)[5]? = some (.inl (8, sx_now_quiet S)) := rfl
theorem sx_c6 (S : sx_T) (r : am_W) : (sx_w S r)[6]? = some (.inr (.inr (6, [.ref 7, .ref 8, .ref 9, .ref 10, .int (sx_kept_viewers S), .int (sx_kept_hour S), .int (sx_kept_law S)]))) := rfl
theorem sx_c7 (S : sx_T) (r : am_W) : (sx_w S r)[7]? = some (.inl (6, sx_kept_light S)) := rfl
theorem sx_c8 (S : sx_T) (r : am_W) : (sx_w S r)[8]? = some (.inl (6, sx_kept_damp S)) := rfl
theorem sx_c9 (S : sx_T) (r : am_W) : (sx_w S r)[9]? = some (.inl (8, sx_kept_rich S)) := rfl
theorem sx_c10 (S : sx_T) (r : am_W) : (sx_w S r)[10]? = some (.inl (8, sx_kept_quiet S)) := rfl
theorem sx_c11 (S : sx_T) (r : am_W) : (sx_w S r)[11]? = some (.inr (.inl (6, am_kinds))) := rfl
theorem sx_c12 (S : sx_T) (r : am_W) : (sx_w S r)[12]? = some (.inr (.inr (9, []))) := rfl
theorem sx_c13 (S : sx_T) (r : am_W) : (sx_w S r)[13]? = some (.inr (.inr (1, []))) := rfl
theorem sx_c14 (S : sx_T) (r : am_W) : (sx_w S r)[14]? = some (.inr (.inr (7, []))) := rfl
theorem sx_c15 (S : sx_T) (r : am_W) : (sx_w S r)[15]? = some (.inr (.inr (2, []))) := rfl
theorem sx_c16 (S : sx_T) (r : am_W) : (sx_w S r)[16]? = some (.inr (.inr (3, []))) := rfl
theorem sx_c17 (S : sx_T) (r : am_W) : (sx_w S r)[17]? = some (.inr (.inr (0, []))) := rfl
theorem sx_c18 (S : sx_T) (r : am_W) : (sx_w S r)[18]? = some (.inr (.inr (9, []))) := rfl
theorem sx_c19 (S : sx_T) (r : am_W) : (sx_w S r)[19]? = some (.inl (8, sx_kindOf S)) := rfl
theorem sx_c20 (S : sx_T) (r : am_W) : (sx_w S r)[20]? = some (.inl (8, sx_moreOf S)) := rfl
theorem sx_c21 (S : sx_T) (r : am_W) : (sx_w S r)[21]? = some (.inr (.inr (8, [.ref 22, .ref 23, .ref 24, .ref 25, .int (sx_tx_count S), .int (sx_tx_written S), .int (sx_tx_names S)]))) := rfl
theorem sx_c22 (S : sx_T) (r : am_W) : (sx_w S r)[22]? = some (.inl (960, sx_tx_steps S)) := rfl
theorem sx_c23 (S : sx_T) (r : am_W) : (sx_w S r)[23]? = some (.inl (18, sx_tx_ends S)) := rfl
theorem sx_c24 (S : sx_T) (r : am_W) : (sx_w S r)[24]? = some (.inl (18, sx_tx_named S)) := rfl
theorem sx_c25 (S : sx_T) (r : am_W) : (sx_w S r)[25]? = some (.inl (160, sx_tx_stack S)) := rfl
theorem sx_c26 (S : sx_T) (r : am_W) : (sx_w S r)[26]? = some (.inr (.inr (4, [.ref 27, .int (sx_rd_size S), .ref 21, .ref 28, .ref 29, .int (sx_rd_known S), .int (sx_rd_token S), .int (sx_rd_seen S)]))) := rfl
theorem sx_c27 (S : sx_T) (r : am_W) : (sx_w S r)[27]? = some (.inl (160, sx_rd_tape S)) := rfl
theorem sx_c28 (S : sx_T) (r : am_W) : (sx_w S r)[28]? = some (.inl (161, sx_rd_tokens S)) := rfl
theorem sx_c29 (S : sx_T) (r : am_W) : (sx_w S r)[29]? = some (.inl (161, sx_rd_places S)) := rfl
theorem sx_c30 (S : sx_T) (r : am_W) : (sx_w S r)[30]? = some (.inr (.inr (5, [.ref 31, .ref 32, .ref 33]))) := rfl
theorem sx_c31 (S : sx_T) (r : am_W) : (sx_w S r)[31]? = some (.inl (160, sx_sh_cells S)) := rfl
theorem sx_c32 (S : sx_T) (r : am_W) : (sx_w S r)[32]? = some (.inl (4, sx_sh_sorts S)) := rfl
theorem sx_c33 (S : sx_T) (r : am_W) : (sx_w S r)[33]? = some (.inl (4, sx_sh_sizes S)) := rfl
theorem sx_c34 (S : sx_T) (r : am_W) : (sx_w S r)[34]? = some (.inr (.inr (10, [.ref 21, .ref 35, .ref 36, .ref 37, .ref 38, .int (sx_vi_length S), .ref (am_kr (sx_vi_kind S)), .int (sx_vi_more S), .int (sx_vi_crowd S), .int (sx_vi_law S), .int (sx_vi_hour S), .ref 40, .int (sx_vi_known S)]))) := rfl
theorem sx_c35 (S : sx_T) (r : am_W) : (sx_w S r)[35]? = some (.inl (6, sx_vi_light S)) := rfl
theorem sx_c36 (S : sx_T) (r : am_W) : (sx_w S r)[36]? = some (.inl (6, sx_vi_damp S)) := rfl
theorem sx_c37 (S : sx_T) (r : am_W) : (sx_w S r)[37]? = some (.inl (6, sx_vi_walked S)) := rfl
theorem sx_c38 (S : sx_T) (r : am_W) : (sx_w S r)[38]? = some (.inl (6, sx_vi_names S)) := rfl
theorem sx_c39 (S : sx_T) (r : am_W) : (sx_w S r)[39]? = some (.inr (.inr (9, []))) := rfl
theorem sx_c40 (S : sx_T) (r : am_W) : (sx_w S r)[40]? = some (.inl (12, sx_vi_minds S)) := rfl
theorem sx_c41 (S : sx_T) (r : am_W) : (sx_w S r)[41]? = some (.inl (6, sx_order S)) := rfl
theorem sx_c42 (S : sx_T) (r : am_W) : (sx_w S r)[42]? = some (.inl (6, sx_way S)) := rfl
theorem sx_c43 (S : sx_T) (r : am_W) : (sx_w S r)[43]? = some (.inl (18, sx_gains S)) := rfl
theorem sx_c44 (S : sx_T) (r : am_W) : (sx_w S r)[44]? = some (.inl (8, sx_offered S)) := rfl
theorem sm_c45 (S0 : sx_T) (S : sm_T) : (sx_w S0 (sm_w S))[45]? = some (.inr (.inr (12, [.int (sm_viewers S), .ref 46, .ref 47, .ref 48, .ref 49, .int (sm_hour S), .ref 50, .int (sm_taped S), .ref 51, .ref 52, .int (sm_texts S), .int (sm_rule S), .int (sm_hasImage S), .ref 53, .ref 54, .ref 55, .ref 56, .ref 57, .ref 58, .int (sm_at S), .int (sm_begun S), .int (sm_token S), .int (sm_value S), .ref 59, .ref 60, .int (sm_heldMany S), .int (sm_opens S), .int (sm_out S), .ref 61, .ref 62, .ref 63, .int (sm_rooms0 S), .int (sm_bestOne S), .int (sm_bestOffer S), .int (sm_nextOffer S), .ref 64, .ref 65, .ref 66, .ref 67]))) := rfl
theorem sm_c46 (S0 : sx_T) (S : sm_T) : (sx_w S0 (sm_w S))[46]? = some (.inl (8, sm_kind S)) := rfl
theorem sm_c47 (S0 : sx_T) (S : sm_T) : (sx_w S0 (sm_w S))[47]? = some (.inl (8, sm_moreOf S)) := rfl
theorem sm_c48 (S0 : sx_T) (S : sm_T) : (sx_w S0 (sm_w S))[48]? = some (.inl (16, sm_ones S)) := rfl
theorem sm_c49 (S0 : sx_T) (S : sm_T) : (sx_w S0 (sm_w S))[49]? = some (.inl (12, sm_flat S)) := rfl
theorem sm_c50 (S0 : sx_T) (S : sm_T) : (sx_w S0 (sm_w S))[50]? = some (.inl (160, sm_tape S)) := rfl
theorem sm_c51 (S0 : sx_T) (S : sm_T) : (sx_w S0 (sm_w S))[51]? = some (.inl (1200, sm_codes S)) := rfl
theorem sm_c52 (S0 : sx_T) (S : sm_T) : (sx_w S0 (sm_w S))[52]? = some (.inl (24, sm_starts S)) := rfl
theorem sm_c53 (S0 : sx_T) (S : sm_T) : (sx_w S0 (sm_w S))[53]? = some (.inl (28, sm_imageRows S)) := rfl
theorem sm_c54 (S0 : sx_T) (S : sm_T) : (sx_w S0 (sm_w S))[54]? = some (.inl (3, sm_imageHeld S)) := rfl
theorem sm_c55 (S0 : sx_T) (S : sm_T) : (sx_w S0 (sm_w S))[55]? = some (.inl (4, sm_sheetSort S)) := rfl
theorem sm_c56 (S0 : sx_T) (S : sm_T) : (sx_w S0 (sm_w S))[56]? = some (.inl (4, sm_sheetSize S)) := rfl
theorem sm_c57 (S0 : sx_T) (S : sm_T) : (sx_w S0 (sm_w S))[57]? = some (.inl (160, sm_cells S)) := rfl
theorem sm_c58 (S0 : sx_T) (S : sm_T) : (sx_w S0 (sm_w S))[58]? = some (.inl (44, am_lawtext)) := rfl
theorem sm_c59 (S0 : sx_T) (S : sm_T) : (sx_w S0 (sm_w S))[59]? = some (.inl (96, am_words)) := rfl
theorem sm_c60 (S0 : sx_T) (S : sm_T) : (sx_w S0 (sm_w S))[60]? = some (.inl (200, sm_held S)) := rfl
theorem sm_c61 (S0 : sx_T) (S : sm_T) : (sx_w S0 (sm_w S))[61]? = some (.inl (200, sm_stack S)) := rfl
theorem sm_c62 (S0 : sx_T) (S : sm_T) : (sx_w S0 (sm_w S))[62]? = some (.inl (6, sm_named S)) := rfl
theorem sm_c63 (S0 : sx_T) (S : sm_T) : (sx_w S0 (sm_w S))[63]? = some (.inl (6, sm_row S)) := rfl
theorem sm_c64 (S0 : sx_T) (S : sm_T) : (sx_w S0 (sm_w S))[64]? = some (.inl (36, sm_mindBy S)) := rfl
theorem sm_c65 (S0 : sx_T) (S : sm_T) : (sx_w S0 (sm_w S))[65]? = some (.inl (72, sm_offerBy S)) := rfl
theorem sm_c66 (S0 : sx_T) (S : sm_T) : (sx_w S0 (sm_w S))[66]? = some (.inl (8, sm_offerAlone S)) := rfl
theorem sm_c67 (S0 : sx_T) (S : sm_T) : (sx_w S0 (sm_w S))[67]? = some (.inl (6, sm_comer S)) := rfl
theorem sx_p_imageKept (S : sx_T) (r : am_W) (v : Int32) : (sx_w S r).set 0 (.inr (.inr (11, [.ref 1, .ref 6, .int (sx_imageKept S), .ref 11, .ref 18, .ref 19, .ref 20, .ref 21, .ref 26, .ref 30, .ref 34, .ref 41, .ref 42, .int (sx_wayLength S), .ref 43, .ref 44].set 2 (.int v)))) = sx_w (ux_imageKept S v) r := rfl
theorem sx_p_wayLength (S : sx_T) (r : am_W) (v : Int32) : (sx_w S r).set 0 (.inr (.inr (11, [.ref 1, .ref 6, .int (sx_imageKept S), .ref 11, .ref 18, .ref 19, .ref 20, .ref 21, .ref 26, .ref 30, .ref 34, .ref 41, .ref 42, .int (sx_wayLength S), .ref 43, .ref 44].set 13 (.int v)))) = sx_w (ux_wayLength S v) r := rfl
theorem sx_p_now_viewers (S : sx_T) (r : am_W) (v : Int32) : (sx_w S r).set 1 (.inr (.inr (6, [.ref 2, .ref 3, .ref 4, .ref 5, .int (sx_now_viewers S), .int (sx_now_hour S), .int (sx_now_law S)].set 4 (.int v)))) = sx_w (ux_now_viewers S v) r := rfl
theorem sx_p_now_hour (S : sx_T) (r : am_W) (v : Int32) : (sx_w S r).set 1 (.inr (.inr (6, [.ref 2, .ref 3, .ref 4, .ref 5, .int (sx_now_viewers S), .int (sx_now_hour S), .int (sx_now_law S)].set 5 (.int v)))) = sx_w (ux_now_hour S v) r := rfl
theorem sx_p_now_law (S : sx_T) (r : am_W) (v : Int32) : (sx_w S r).set 1 (.inr (.inr (6, [.ref 2, .ref 3, .ref 4, .ref 5, .int (sx_now_viewers S), .int (sx_now_hour S), .int (sx_now_law S)].set 6 (.int v)))) = sx_w (ux_now_law S v) r := rfl
theorem sx_p_now_light (S : sx_T) (r : am_W) (v : Nat → Int32) : (sx_w S r).set 2 (.inl (6, v)) = sx_w (ux_now_light S v) r := rfl
theorem sx_p_now_damp (S : sx_T) (r : am_W) (v : Nat → Int32) : (sx_w S r).set 3 (.inl (6, v)) = sx_w (ux_now_damp S v) r := rfl
theorem sx_p_now_rich (S : sx_T) (r : am_W) (v : Nat → Int32) : (sx_w S r).set 4 (.inl (8, v)) = sx_w (ux_now_rich S v) r := rfl
theorem sx_p_now_quiet (S : sx_T) (r : am_W) (v : Nat → Int32) : (sx_w S r).set 5 (.inl (8, v)) = sx_w (ux_now_quiet S v) r := rfl
theorem sx_p_kept_viewers (S : sx_T) (r : am_W) (v : Int32) : (sx_w S r).set 6 (.inr (.inr (6, [.ref 7, .ref 8, .ref 9, .ref 10, .int (sx_kept_viewers S), .int (sx_kept_hour S), .int (sx_kept_law S)].set 4 (.int v)))) = sx_w (ux_kept_viewers S v) r := rfl
theorem sx_p_kept_hour (S : sx_T) (r : am_W) (v : Int32) : (sx_w S r).set 6 (.inr (.inr (6, [.ref 7, .ref 8, .ref 9, .ref 10, .int (sx_kept_viewers S), .int (sx_kept_hour S), .int (sx_kept_law S)].set 5 (.int v)))) = sx_w (ux_kept_hour S v) r := rfl
theorem sx_p_kept_law (S : sx_T) (r : am_W) (v : Int32) : (sx_w S r).set 6 (.inr (.inr (6, [.ref 7, .ref 8, .ref 9, .ref 10, .int (sx_kept_viewers S), .int (sx_kept_hour S), .int (sx_kept_law S)].set 6 (.int v)))) = sx_w (ux_kept_law S v) r := rfl
theorem sx_p_kept_light (S : sx_T) (r : am_W) (v : Nat → Int32) : (sx_w S r).set 7 (.inl (6, v)) = sx_w (ux_kept_light S v) r := rfl
theorem sx_p_kept_damp (S : sx_T) (r : am_W) (v : Nat → Int32) : (sx_w S r).set 8 (.inl (6, v)) = sx_w (ux_kept_damp S v) r := rfl
theorem sx_p_kept_rich (S : sx_T) (r : am_W) (v : Nat → Int32) : (sx_w S r).set 9 (.inl (8, v)) = sx_w (ux_kept_rich S v) r := rfl
theorem sx_p_kept_quiet (S : sx_T) (r : am_W) (v : Nat → Int32) : (sx_w S r).set 10 (.inl (8, v)) = sx_w (ux_kept_quiet S v) r := rfl
theorem sx_p_kindOf (S : sx_T) (r : am_W) (v : Nat → Int32) : (sx_w S r).set 19 (.inl (8, v)) = sx_w (ux_kindOf S v) r := rfl
theorem sx_p_moreOf (S : sx_T) (r : am_W) (v : Nat → Int32) : (sx_w S r).set 20 (.inl (8, v)) = sx_w (ux_moreOf S v) r := rfl
theorem sx_p_tx_count (S : sx_T) (r : am_W) (v : Int32) : (sx_w S r).set 21 (.inr (.inr (8, [.ref 22, .ref 23, .ref 24, .ref 25, .int (sx_tx_count S), .int (sx_tx_written S), .int (sx_tx_names S)].set 4 (.int v)))) = sx_w (ux_tx_count S v) r := rfl
theorem sx_p_tx_written (S : sx_T) (r : am_W) (v : Int32) : (sx_w S r).set 21 (.inr (.inr (8, [.ref 22, .ref 23, .ref 24, .ref 25, .int (sx_tx_count S), .int (sx_tx_written S), .int (sx_tx_names S)].set 5 (.int v)))) = sx_w (ux_tx_written S v) r := rfl
theorem sx_p_tx_names (S : sx_T) (r : am_W) (v : Int32) : (sx_w S r).set 21 (.inr (.inr (8, [.ref 22, .ref 23, .ref 24, .ref 25, .int (sx_tx_count S), .int (sx_tx_written S), .int (sx_tx_names S)].set 6 (.int v)))) = sx_w (ux_tx_names S v) r := rfl
theorem sx_p_tx_steps (S : sx_T) (r : am_W) (v : Nat → Int32) : (sx_w S r).set 22 (.inl (960, v)) = sx_w (ux_tx_steps S v) r := rfl
theorem sx_p_tx_ends (S : sx_T) (r : am_W) (v : Nat → Int32) : (sx_w S r).set 23 (.inl (18, v)) = sx_w (ux_tx_ends S v) r := rfl
theorem sx_p_tx_named (S : sx_T) (r : am_W) (v : Nat → Int32) : (sx_w S r).set 24 (.inl (18, v)) = sx_w (ux_tx_named S v) r := rfl
theorem sx_p_tx_stack (S : sx_T) (r : am_W) (v : Nat → Int32) : (sx_w S r).set 25 (.inl (160, v)) = sx_w (ux_tx_stack S v) r := rfl
theorem sx_p_rd_size (S : sx_T) (r : am_W) (v : Int32) : (sx_w S r).set 26 (.inr (.inr (4, [.ref 27, .int (sx_rd_size S), .ref 21, .ref 28, .ref 29, .int (sx_rd_known S), .int (sx_rd_token S), .int (sx_rd_seen S)].set 1 (.int v)))) = sx_w (ux_rd_size S v) r := rfl
theorem sx_p_rd_known (S : sx_T) (r : am_W) (v : Int32) : (sx_w S r).set 26 (.inr (.inr (4, [.ref 27, .int (sx_rd_size S), .ref 21, .ref 28, .ref 29, .int (sx_rd_known S), .int (sx_rd_token S), .int (sx_rd_seen S)].set 5 (.int v)))) = sx_w (ux_rd_known S v) r := rfl
theorem sx_p_rd_token (S : sx_T) (r : am_W) (v : Int32) : (sx_w S r).set 26 (.inr (.inr (4, [.ref 27, .int (sx_rd_size S), .ref 21, .ref 28, .ref 29, .int (sx_rd_known S), .int (sx_rd_token S), .int (sx_rd_seen S)].set 6 (.int v)))) = sx_w (ux_rd_token S v) r := rfl
theorem sx_p_rd_seen (S : sx_T) (r : am_W) (v : Int32) : (sx_w S r).set 26 (.inr (.inr (4, [.ref 27, .int (sx_rd_size S), .ref 21, .ref 28, .ref 29, .int (sx_rd_known S), .int (sx_rd_token S), .int (sx_rd_seen S)].set 7 (.int v)))) = sx_w (ux_rd_seen S v) r := rfl
theorem sx_p_rd_tape (S : sx_T) (r : am_W) (v : Nat → Int32) : (sx_w S r).set 27 (.inl (160, v)) = sx_w (ux_rd_tape S v) r := rfl
theorem sx_p_rd_tokens (S : sx_T) (r : am_W) (v : Nat → Int32) : (sx_w S r).set 28 (.inl (161, v)) = sx_w (ux_rd_tokens S v) r := rfl
theorem sx_p_rd_places (S : sx_T) (r : am_W) (v : Nat → Int32) : (sx_w S r).set 29 (.inl (161, v)) = sx_w (ux_rd_places S v) r := rfl
theorem sx_p_sh_cells (S : sx_T) (r : am_W) (v : Nat → Int32) : (sx_w S r).set 31 (.inl (160, v)) = sx_w (ux_sh_cells S v) r := rfl
theorem sx_p_sh_sorts (S : sx_T) (r : am_W) (v : Nat → Int32) : (sx_w S r).set 32 (.inl (4, v)) = sx_w (ux_sh_sorts S v) r := rfl
theorem sx_p_sh_sizes (S : sx_T) (r : am_W) (v : Nat → Int32) : (sx_w S r).set 33 (.inl (4, v)) = sx_w (ux_sh_sizes S v) r := rfl
theorem sx_p_vi_length (S : sx_T) (r : am_W) (v : Int32) : (sx_w S r).set 34 (.inr (.inr (10, [.ref 21, .ref 35, .ref 36, .ref 37, .ref 38, .int (sx_vi_length S), .ref (am_kr (sx_vi_kind S)), .int (sx_vi_more S), .int (sx_vi_crowd S), .int (sx_vi_law S), .int (sx_vi_hour S), .ref 40, .int (sx_vi_known S)].set 5 (.int v)))) = sx_w (ux_vi_length S v) r := rfl
theorem sx_p_vi_kind (S : sx_T) (r : am_W) (v : Fin 8) : (sx_w S r).set 34 (.inr (.inr (10, [.ref 21, .ref 35, .ref 36, .ref 37, .ref 38, .int (sx_vi_length S), .ref (am_kr (sx_vi_kind S)), .int (sx_vi_more S), .int (sx_vi_crowd S), .int (sx_vi_law S), .int (sx_vi_hour S), .ref 40, .int (sx_vi_known S)].set 6 (.ref (am_kr v))))) = sx_w (ux_vi_kind S v) r := rfl
theorem sx_p_vi_more (S : sx_T) (r : am_W) (v : Int32) : (sx_w S r).set 34 (.inr (.inr (10, [.ref 21, .ref 35, .ref 36, .ref 37, .ref 38, .int (sx_vi_length S), .ref (am_kr (sx_vi_kind S)), .int (sx_vi_more S), .int (sx_vi_crowd S), .int (sx_vi_law S), .int (sx_vi_hour S), .ref 40, .int (sx_vi_known S)].set 7 (.int v)))) = sx_w (ux_vi_more S v) r := rfl
theorem sx_p_vi_crowd (S : sx_T) (r : am_W) (v : Int32) : (sx_w S r).set 34 (.inr (.inr (10, [.ref 21, .ref 35, .ref 36, .ref 37, .ref 38, .int (sx_vi_length S), .ref (am_kr (sx_vi_kind S)), .int (sx_vi_more S), .int (sx_vi_crowd S), .int (sx_vi_law S), .int (sx_vi_hour S), .ref 40, .int (sx_vi_known S)].set 8 (.int v)))) = sx_w (ux_vi_crowd S v) r := rfl
theorem sx_p_vi_law (S : sx_T) (r : am_W) (v : Int32) : (sx_w S r).set 34 (.inr (.inr (10, [.ref 21, .ref 35, .ref 36, .ref 37, .ref 38, .int (sx_vi_length S), .ref (am_kr (sx_vi_kind S)), .int (sx_vi_more S), .int (sx_vi_crowd S), .int (sx_vi_law S), .int (sx_vi_hour S), .ref 40, .int (sx_vi_known S)].set 9 (.int v)))) = sx_w (ux_vi_law S v) r := rfl
theorem sx_p_vi_hour (S : sx_T) (r : am_W) (v : Int32) : (sx_w S r).set 34 (.inr (.inr (10, [.ref 21, .ref 35, .ref 36, .ref 37, .ref 38, .int (sx_vi_length S), .ref (am_kr (sx_vi_kind S)), .int (sx_vi_more S), .int (sx_vi_crowd S), .int (sx_vi_law S), .int (sx_vi_hour S), .ref 40, .int (sx_vi_known S)].set 10 (.int v)))) = sx_w (ux_vi_hour S v) r := rfl
theorem sx_p_vi_known (S : sx_T) (r : am_W) (v : Int32) : (sx_w S r).set 34 (.inr (.inr (10, [.ref 21, .ref 35, .ref 36, .ref 37, .ref 38, .int (sx_vi_length S), .ref (am_kr (sx_vi_kind S)), .int (sx_vi_more S), .int (sx_vi_crowd S), .int (sx_vi_law S), .int (sx_vi_hour S), .ref 40, .int (sx_vi_known S)].set 12 (.int v)))) = sx_w (ux_vi_known S v) r := rfl
theorem sx_p_vi_light (S : sx_T) (r : am_W) (v : Nat → Int32) : (sx_w S r).set 35 (.inl (6, v)) = sx_w (ux_vi_light S v) r := rfl
theorem sx_p_vi_damp (S : sx_T) (r : am_W) (v : Nat → Int32) : (sx_w S r).set 36 (.inl (6, v)) = sx_w (ux_vi_damp S v) r := rfl
theorem sx_p_vi_walked (S : sx_T) (r : am_W) (v : Nat → Int32) : (sx_w S r).set 37 (.inl (6, v)) = sx_w (ux_vi_walked S v) r := rfl
theorem sx_p_vi_names (S : sx_T) (r : am_W) (v : Nat → Int32) : (sx_w S r).set 38 (.inl (6, v)) = sx_w (ux_vi_names S v) r := rfl
theorem sx_p_vi_minds (S : sx_T) (r : am_W) (v : Nat → Int32) : (sx_w S r).set 40 (.inl (12, v)) = sx_w (ux_vi_minds S v) r := rfl
theorem sx_p_order (S : sx_T) (r : am_W) (v : Nat → Int32) : (sx_w S r).set 41 (.inl (6, v)) = sx_w (ux_order S v) r := rfl
theorem sx_p_way (S : sx_T) (r : am_W) (v : Nat → Int32) : (sx_w S r).set 42 (.inl (6, v)) = sx_w (ux_way S v) r := rfl
theorem sx_p_gains (S : sx_T) (r : am_W) (v : Nat → Int32) : (sx_w S r).set 43 (.inl (18, v)) = sx_w (ux_gains S v) r := rfl
theorem sx_p_offered (S : sx_T) (r : am_W) (v : Nat → Int32) : (sx_w S r).set 44 (.inl (8, v)) = sx_w (ux_offered S v) r := rfl
theorem sm_p_viewers (S0 : sx_T) (S : sm_T) (v : Int32) : (sx_w S0 (sm_w S)).set 45 (.inr (.inr (12, [.int (sm_viewers S), .ref 46, .ref 47, .ref 48, .ref 49, .int (sm_hour S), .ref 50, .int (sm_taped S), .ref 51, .ref 52, .int (sm_texts S), .int (sm_rule S), .int (sm_hasImage S), .ref 53, .ref 54, .ref 55, .ref 56, .ref 57, .ref 58, .int (sm_at S), .int (sm_begun S), .int (sm_token S), .int (sm_value S), .ref 59, .ref 60, .int (sm_heldMany S), .int (sm_opens S), .int (sm_out S), .ref 61, .ref 62, .ref 63, .int (sm_rooms0 S), .int (sm_bestOne S), .int (sm_bestOffer S), .int (sm_nextOffer S), .ref 64, .ref 65, .ref 66, .ref 67].set 0 (.int v)))) = sx_w S0 (sm_w (um_viewers S v)) := rfl
theorem sm_p_hour (S0 : sx_T) (S : sm_T) (v : Int32) : (sx_w S0 (sm_w S)).set 45 (.inr (.inr (12, [.int (sm_viewers S), .ref 46, .ref 47, .ref 48, .ref 49, .int (sm_hour S), .ref 50, .int (sm_taped S), .ref 51, .ref 52, .int (sm_texts S), .int (sm_rule S), .int (sm_hasImage S), .ref 53, .ref 54, .ref 55, .ref 56, .ref 57, .ref 58, .int (sm_at S), .int (sm_begun S), .int (sm_token S), .int (sm_value S), .ref 59, .ref 60, .int (sm_heldMany S), .int (sm_opens S), .int (sm_out S), .ref 61, .ref 62, .ref 63, .int (sm_rooms0 S), .int (sm_bestOne S), .int (sm_bestOffer S), .int (sm_nextOffer S), .ref 64, .ref 65, .ref 66, .ref 67].set 5 (.int v)))) = sx_w S0 (sm_w (um_hour S v)) := rfl
theorem sm_p_taped (S0 : sx_T) (S : sm_T) (v : Int32) : (sx_w S0 (sm_w S)).set 45 (.inr (.inr (12, [.int (sm_viewers S), .ref 46, .ref 47, .ref 48, .ref 49, .int (sm_hour S), .ref 50, .int (sm_taped S), .ref 51, .ref 52, .int (sm_texts S), .int (sm_rule S), .int (sm_hasImage S), .ref 53, .ref 54, .ref 55, .ref 56, .ref 57, .ref 58, .int (sm_at S), .int (sm_begun S), .int (sm_token S), .int (sm_value S), .ref 59, .ref 60, .int (sm_heldMany S), .int (sm_opens S), .int (sm_out S), .ref 61, .ref 62, .ref 63, .int (sm_rooms0 S), .int (sm_bestOne S), .int (sm_bestOffer S), .int (sm_nextOffer S), .ref 64, .ref 65, .ref 66, .ref 67].set 7 (.int v)))) = sx_w S0 (sm_w (um_taped S v)) := rfl
theorem sm_p_texts (S0 : sx_T) (S : sm_T) (v : Int32) : (sx_w S0 (sm_w S)).set 45 (.inr (.inr (12, [.int (sm_viewers S), .ref 46, .ref 47, .ref 48, .ref 49, .int (sm_hour S), .ref 50, .int (sm_taped S), .ref 51, .ref 52, .int (sm_texts S), .int (sm_rule S), .int (sm_hasImage S), .ref 53, .ref 54, .ref 55, .ref 56, .ref 57, .ref 58, .int (sm_at S), .int (sm_begun S), .int (sm_token S), .int (sm_value S), .ref 59, .ref 60, .int (sm_heldMany S), .int (sm_opens S), .int (sm_out S), .ref 61, .ref 62, .ref 63, .int (sm_rooms0 S), .int (sm_bestOne S), .int (sm_bestOffer S), .int (sm_nextOffer S), .ref 64, .ref 65, .ref 66, .ref 67].set 10 (.int v)))) = sx_w S0 (sm_w (um_texts S v)) := rfl
theorem sm_p_rule (S0 : sx_T) (S : sm_T) (v : Int32) : (sx_w S0 (sm_w S)).set 45 (.inr (.inr (12, [.int (sm_viewers S), .ref 46, .ref 47, .ref 48, .ref 49, .int (sm_hour S), .ref 50, .int (sm_taped S), .ref 51, .ref 52, .int (sm_texts S), .int (sm_rule S), .int (sm_hasImage S), .ref 53, .ref 54, .ref 55, .ref 56, .ref 57, .ref 58, .int (sm_at S), .int (sm_begun S), .int (sm_token S), .int (sm_value S), .ref 59, .ref 60, .int (sm_heldMany S), .int (sm_opens S), .int (sm_out S), .ref 61, .ref 62, .ref 63, .int (sm_rooms0 S), .int (sm_bestOne S), .int (sm_bestOffer S), .int (sm_nextOffer S), .ref 64, .ref 65, .ref 66, .ref 67].set 11 (.int v)))) = sx_w S0 (sm_w (um_rule S v)) := rfl
theorem sm_p_hasImage (S0 : sx_T) (S : sm_T) (v : Int32) : (sx_w S0 (sm_w S)).set 45 (.inr (.inr (12, [.int (sm_viewers S), .ref 46, .ref 47, .ref 48, .ref 49, .int (sm_hour S), .ref 50, .int (sm_taped S), .ref 51, .ref 52, .int (sm_texts S), .int (sm_rule S), .int (sm_hasImage S), .ref 53, .ref 54, .ref 55, .ref 56, .ref 57, .ref 58, .int (sm_at S), .int (sm_begun S), .int (sm_token S), .int (sm_value S), .ref 59, .ref 60, .int (sm_heldMany S), .int (sm_opens S), .int (sm_out S), .ref 61, .ref 62, .ref 63, .int (sm_rooms0 S), .int (sm_bestOne S), .int (sm_bestOffer S), .int (sm_nextOffer S), .ref 64, .ref 65, .ref 66, .ref 67].set 12 (.int v)))) = sx_w S0 (sm_w (um_hasImage S v)) := rfl
theorem sm_p_at (S0 : sx_T) (S : sm_T) (v : Int32) : (sx_w S0 (sm_w S)).set 45 (.inr (.inr (12, [.int (sm_viewers S), .ref 46, .ref 47, .ref 48, .ref 49, .int (sm_hour S), .ref 50, .int (sm_taped S), .ref 51, .ref 52, .int (sm_texts S), .int (sm_rule S), .int (sm_hasImage S), .ref 53, .ref 54, .ref 55, .ref 56, .ref 57, .ref 58, .int (sm_at S), .int (sm_begun S), .int (sm_token S), .int (sm_value S), .ref 59, .ref 60, .int (sm_heldMany S), .int (sm_opens S), .int (sm_out S), .ref 61, .ref 62, .ref 63, .int (sm_rooms0 S), .int (sm_bestOne S), .int (sm_bestOffer S), .int (sm_nextOffer S), .ref 64, .ref 65, .ref 66, .ref 67].set 19 (.int v)))) = sx_w S0 (sm_w (um_at S v)) := rfl
theorem sm_p_begun (S0 : sx_T) (S : sm_T) (v : Int32) : (sx_w S0 (sm_w S)).set 45 (.inr (.inr (12, [.int (sm_viewers S), .ref 46, .ref 47, .ref 48, .ref 49, .int (sm_hour S), .ref 50, .int (sm_taped S), .ref 51, .ref 52, .int (sm_texts S), .int (sm_rule S), .int (sm_hasImage S), .ref 53, .ref 54, .ref 55, .ref 56, .ref 57, .ref 58, .int (sm_at S), .int (sm_begun S), .int (sm_token S), .int (sm_value S), .ref 59, .ref 60, .int (sm_heldMany S), .int (sm_opens S), .int (sm_out S), .ref 61, .ref 62, .ref 63, .int (sm_rooms0 S), .int (sm_bestOne S), .int (sm_bestOffer S), .int (sm_nextOffer S), .ref 64, .ref 65, .ref 66, .ref 67].set 20 (.int v)))) = sx_w S0 (sm_w (um_begun S v)) := rfl
theorem sm_p_token (S0 : sx_T) (S : sm_T) (v : Int32) : (sx_w S0 (sm_w S)).set 45 (.inr (.inr (12, [.int (sm_viewers S), .ref 46, .ref 47, .ref 48, .ref 49, .int (sm_hour S), .ref 50, .int (sm_taped S), .ref 51, .ref 52, .int (sm_texts S), .int (sm_rule S), .int (sm_hasImage S), .ref 53, .ref 54, .ref 55, .ref 56, .ref 57, .ref 58, .int (sm_at S), .int (sm_begun S), .int (sm_token S), .int (sm_value S), .ref 59, .ref 60, .int (sm_heldMany S), .int (sm_opens S), .int (sm_out S), .ref 61, .ref 62, .ref 63, .int (sm_rooms0 S), .int (sm_bestOne S), .int (sm_bestOffer S), .int (sm_nextOffer S), .ref 64, .ref 65, .ref 66, .ref 67].set 21 (.int v)))) = sx_w S0 (sm_w (um_token S v)) := rfl
theorem sm_p_value (S0 : sx_T) (S : sm_T) (v : Int32) : (sx_w S0 (sm_w S)).set 45 (.inr (.inr (12, [.int (sm_viewers S), .ref 46, .ref 47, .ref 48, .ref 49, .int (sm_hour S), .ref 50, .int (sm_taped S), .ref 51, .ref 52, .int (sm_texts S), .int (sm_rule S), .int (sm_hasImage S), .ref 53, .ref 54, .ref 55, .ref 56, .ref 57, .ref 58, .int (sm_at S), .int (sm_begun S), .int (sm_token S), .int (sm_value S), .ref 59, .ref 60, .int (sm_heldMany S), .int (sm_opens S), .int (sm_out S), .ref 61, .ref 62, .ref 63, .int (sm_rooms0 S), .int (sm_bestOne S), .int (sm_bestOffer S), .int (sm_nextOffer S), .ref 64, .ref 65, .ref 66, .ref 67].set 22 (.int v)))) = sx_w S0 (sm_w (um_value S v)) := rfl
theorem sm_p_heldMany (S0 : sx_T) (S : sm_T) (v : Int32) : (sx_w S0 (sm_w S)).set 45 (.inr (.inr (12, [.int (sm_viewers S), .ref 46, .ref 47, .ref 48, .ref 49, .int (sm_hour S), .ref 50, .int (sm_taped S), .ref 51, .ref 52, .int (sm_texts S), .int (sm_rule S), .int (sm_hasImage S), .ref 53, .ref 54, .ref 55, .ref 56, .ref 57, .ref 58, .int (sm_at S), .int (sm_begun S), .int (sm_token S), .int (sm_value S), .ref 59, .ref 60, .int (sm_heldMany S), .int (sm_opens S), .int (sm_out S), .ref 61, .ref 62, .ref 63, .int (sm_rooms0 S), .int (sm_bestOne S), .int (sm_bestOffer S), .int (sm_nextOffer S), .ref 64, .ref 65, .ref 66, .ref 67].set 25 (.int v)))) = sx_w S0 (sm_w (um_heldMany S v)) := rfl
theorem sm_p_opens (S0 : sx_T) (S : sm_T) (v : Int32) : (sx_w S0 (sm_w S)).set 45 (.inr (.inr (12, [.int (sm_viewers S), .ref 46, .ref 47, .ref 48, .ref 49, .int (sm_hour S), .ref 50, .int (sm_taped S), .ref 51, .ref 52, .int (sm_texts S), .int (sm_rule S), .int (sm_hasImage S), .ref 53, .ref 54, .ref 55, .ref 56, .ref 57, .ref 58, .int (sm_at S), .int (sm_begun S), .int (sm_token S), .int (sm_value S), .ref 59, .ref 60, .int (sm_heldMany S), .int (sm_opens S), .int (sm_out S), .ref 61, .ref 62, .ref 63, .int (sm_rooms0 S), .int (sm_bestOne S), .int (sm_bestOffer S), .int (sm_nextOffer S), .ref 64, .ref 65, .ref 66, .ref 67].set 26 (.int v)))) = sx_w S0 (sm_w (um_opens S v)) := rfl
theorem sm_p_out (S0 : sx_T) (S : sm_T) (v : Int32) : (sx_w S0 (sm_w S)).set 45 (.inr (.inr (12, [.int (sm_viewers S), .ref 46, .ref 47, .ref 48, .ref 49, .int (sm_hour S), .ref 50, .int (sm_taped S), .ref 51, .ref 52, .int (sm_texts S), .int (sm_rule S), .int (sm_hasImage S), .ref 53, .ref 54, .ref 55, .ref 56, .ref 57, .ref 58, .int (sm_at S), .int (sm_begun S), .int (sm_token S), .int (sm_value S), .ref 59, .ref 60, .int (sm_heldMany S), .int (sm_opens S), .int (sm_out S), .ref 61, .ref 62, .ref 63, .int (sm_rooms0 S), .int (sm_bestOne S), .int (sm_bestOffer S), .int (sm_nextOffer S), .ref 64, .ref 65, .ref 66, .ref 67].set 27 (.int v)))) = sx_w S0 (sm_w (um_out S v)) := rfl
theorem sm_p_rooms0 (S0 : sx_T) (S : sm_T) (v : Int32) : (sx_w S0 (sm_w S)).set 45 (.inr (.inr (12, [.int (sm_viewers S), .ref 46, .ref 47, .ref 48, .ref 49, .int (sm_hour S), .ref 50, .int (sm_taped S), .ref 51, .ref 52, .int (sm_texts S), .int (sm_rule S), .int (sm_hasImage S), .ref 53, .ref 54, .ref 55, .ref 56, .ref 57, .ref 58, .int (sm_at S), .int (sm_begun S), .int (sm_token S), .int (sm_value S), .ref 59, .ref 60, .int (sm_heldMany S), .int (sm_opens S), .int (sm_out S), .ref 61, .ref 62, .ref 63, .int (sm_rooms0 S), .int (sm_bestOne S), .int (sm_bestOffer S), .int (sm_nextOffer S), .ref 64, .ref 65, .ref 66, .ref 67].set 31 (.int v)))) = sx_w S0 (sm_w (um_rooms0 S v)) := rfl
theorem sm_p_bestOne (S0 : sx_T) (S : sm_T) (v : Int32) : (sx_w S0 (sm_w S)).set 45 (.inr (.inr (12, [.int (sm_viewers S), .ref 46, .ref 47, .ref 48, .ref 49, .int (sm_hour S), .ref 50, .int (sm_taped S), .ref 51, .ref 52, .int (sm_texts S), .int (sm_rule S), .int (sm_hasImage S), .ref 53, .ref 54, .ref 55, .ref 56, .ref 57, .ref 58, .int (sm_at S), .int (sm_begun S), .int (sm_token S), .int (sm_value S), .ref 59, .ref 60, .int (sm_heldMany S), .int (sm_opens S), .int (sm_out S), .ref 61, .ref 62, .ref 63, .int (sm_rooms0 S), .int (sm_bestOne S), .int (sm_bestOffer S), .int (sm_nextOffer S), .ref 64, .ref 65, .ref 66, .ref 67].set 32 (.int v)))) = sx_w S0 (sm_w (um_bestOne S v)) := rfl
theorem sm_p_bestOffer (S0 : sx_T) (S : sm_T) (v : Int32) : (sx_w S0 (sm_w S)).set 45 (.inr (.inr (12, [.int (sm_viewers S), .ref 46, .ref 47, .ref 48, .ref 49, .int (sm_hour S), .ref 50, .int (sm_taped S), .ref 51, .ref 52, .int (sm_texts S), .int (sm_rule S), .int (sm_hasImage S), .ref 53, .ref 54, .ref 55, .ref 56, .ref 57, .ref 58, .int (sm_at S), .int (sm_begun S), .int (sm_token S), .int (sm_value S), .ref 59, .ref 60, .int (sm_heldMany S), .int (sm_opens S), .int (sm_out S), .ref 61, .ref 62, .ref 63, .int (sm_rooms0 S), .int (sm_bestOne S), .int (sm_bestOffer S), .int (sm_nextOffer S), .ref 64, .ref 65, .ref 66, .ref 67].set 33 (.int v)))) = sx_w S0 (sm_w (um_bestOffer S v)) := rfl
theorem sm_p_nextOffer (S0 : sx_T) (S : sm_T) (v : Int32) : (sx_w S0 (sm_w S)).set 45 (.inr (.inr (12, [.int (sm_viewers S), .ref 46, .ref 47, .ref 48, .ref 49, .int (sm_hour S), .ref 50, .int (sm_taped S), .ref 51, .ref 52, .int (sm_texts S), .int (sm_rule S), .int (sm_hasImage S), .ref 53, .ref 54, .ref 55, .ref 56, .ref 57, .ref 58, .int (sm_at S), .int (sm_begun S), .int (sm_token S), .int (sm_value S), .ref 59, .ref 60, .int (sm_heldMany S), .int (sm_opens S), .int (sm_out S), .ref 61, .ref 62, .ref 63, .int (sm_rooms0 S), .int (sm_bestOne S), .int (sm_bestOffer S), .int (sm_nextOffer S), .ref 64, .ref 65, .ref 66, .ref 67].set 34 (.int v)))) = sx_w S0 (sm_w (um_nextOffer S v)) := rfl
theorem sm_p_kind (S0 : sx_T) (S : sm_T) (v : Nat → Int32) : (sx_w S0 (sm_w S)).set 46 (.inl (8, v)) = sx_w S0 (sm_w (um_kind S v)) := rfl
theorem sm_p_moreOf (S0 : sx_T) (S : sm_T) (v : Nat → Int32) : (sx_w S0 (sm_w S)).set 47 (.inl (8, v)) = sx_w S0 (sm_w (um_moreOf S v)) := rfl
theorem sm_p_ones (S0 : sx_T) (S : sm_T) (v : Nat → Int32) : (sx_w S0 (sm_w S)).set 48 (.inl (16, v)) = sx_w S0 (sm_w (um_ones S v)) := rfl
theorem sm_p_flat (S0 : sx_T) (S : sm_T) (v : Nat → Int32) : (sx_w S0 (sm_w S)).set 49 (.inl (12, v)) = sx_w S0 (sm_w (um_flat S v)) := rfl
theorem sm_p_tape (S0 : sx_T) (S : sm_T) (v : Nat → Int32) : (sx_w S0 (sm_w S)).set 50 (.inl (160, v)) = sx_w S0 (sm_w (um_tape S v)) := rfl
theorem sm_p_codes (S0 : sx_T) (S : sm_T) (v : Nat → Int32) : (sx_w S0 (sm_w S)).set 51 (.inl (1200, v)) = sx_w S0 (sm_w (um_codes S v)) := rfl
theorem sm_p_starts (S0 : sx_T) (S : sm_T) (v : Nat → Int32) : (sx_w S0 (sm_w S)).set 52 (.inl (24, v)) = sx_w S0 (sm_w (um_starts S v)) := rfl
theorem sm_p_imageRows (S0 : sx_T) (S : sm_T) (v : Nat → Int32) : (sx_w S0 (sm_w S)).set 53 (.inl (28, v)) = sx_w S0 (sm_w (um_imageRows S v)) := rfl
theorem sm_p_imageHeld (S0 : sx_T) (S : sm_T) (v : Nat → Int32) : (sx_w S0 (sm_w S)).set 54 (.inl (3, v)) = sx_w S0 (sm_w (um_imageHeld S v)) := rfl
theorem sm_p_sheetSort (S0 : sx_T) (S : sm_T) (v : Nat → Int32) : (sx_w S0 (sm_w S)).set 55 (.inl (4, v)) = sx_w S0 (sm_w (um_sheetSort S v)) := rfl
theorem sm_p_sheetSize (S0 : sx_T) (S : sm_T) (v : Nat → Int32) : (sx_w S0 (sm_w S)).set 56 (.inl (4, v)) = sx_w S0 (sm_w (um_sheetSize S v)) := rfl
theorem sm_p_cells (S0 : sx_T) (S : sm_T) (v : Nat → Int32) : (sx_w S0 (sm_w S)).set 57 (.inl (160, v)) = sx_w S0 (sm_w (um_cells S v)) := rfl
theorem sm_p_held (S0 : sx_T) (S : sm_T) (v : Nat → Int32) : (sx_w S0 (sm_w S)).set 60 (.inl (200, v)) = sx_w S0 (sm_w (um_held S v)) := rfl
theorem sm_p_stack (S0 : sx_T) (S : sm_T) (v : Nat → Int32) : (sx_w S0 (sm_w S)).set 61 (.inl (200, v)) = sx_w S0 (sm_w (um_stack S v)) := rfl
theorem sm_p_named (S0 : sx_T) (S : sm_T) (v : Nat → Int32) : (sx_w S0 (sm_w S)).set 62 (.inl (6, v)) = sx_w S0 (sm_w (um_named S v)) := rfl
theorem sm_p_row (S0 : sx_T) (S : sm_T) (v : Nat → Int32) : (sx_w S0 (sm_w S)).set 63 (.inl (6, v)) = sx_w S0 (sm_w (um_row S v)) := rfl
theorem sm_p_mindBy (S0 : sx_T) (S : sm_T) (v : Nat → Int32) : (sx_w S0 (sm_w S)).set 64 (.inl (36, v)) = sx_w S0 (sm_w (um_mindBy S v)) := rfl
theorem sm_p_offerBy (S0 : sx_T) (S : sm_T) (v : Nat → Int32) : (sx_w S0 (sm_w S)).set 65 (.inl (72, v)) = sx_w S0 (sm_w (um_offerBy S v)) := rfl
theorem sm_p_offerAlone (S0 : sx_T) (S : sm_T) (v : Nat → Int32) : (sx_w S0 (sm_w S)).set 66 (.inl (8, v)) = sx_w S0 (sm_w (um_offerAlone S v)) := rfl
theorem sm_p_comer (S0 : sx_T) (S : sm_T) (v : Nat → Int32) : (sx_w S0 (sm_w S)).set 67 (.inl (6, v)) = sx_w S0 (sm_w (um_comer S v)) := rfl
