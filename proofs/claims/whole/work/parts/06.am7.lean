theorem nb_ite {c : Prop} [Decidable c] {a b : Int32} (ha : narrow .boolean (.int a) = .int a) (hb : narrow .boolean (.int b) = .int b) : narrow .boolean (.int (if c then a else b)) = .int (if c then a else b) := by
  split
  · exact ha
  · exact hb
/-- a truth value that is returned -/
def am_bz {α : Type} (v : Int32) (a : α) : Option α := if v = 0 then some a else if v = 1 then some a else none
theorem am_bz_s {α : Type} {v : Int32} {a r : α} (h : am_bz v a = some r) : narrow .boolean (.int v) = .int v ∧ a = r := by
  rw [am_bz] at h
  split at h
  · rename_i h0
    cases h
    exact ⟨by rw [h0]; rfl, rfl⟩
  · split at h
    · rename_i h0 h1
      cases h
      exact ⟨by rw [h1]; rfl, rfl⟩
    · cases h
/-! ===== the string constants: length() and charAt(i) ===== -/
theorem am_spv (X : am_X) (j : Nat) : am_cv X (.ref (1000 + j)) = .ref (X.2.1 j) := by
  show Value.ref (if 1000 + j < 1000 then _ else _) = _
  rw [if_neg (by omega), Nat.add_sub_cancel_left]
section
variable {M : am_M} {g : am_g} {kn : Nat × Nat} {pc pc' : Nat} {ls : List (Option Value)} {st : List Value} {ws : am_W}
theorem am_sgv {idx j : Nat} (d : decode M.2.1 pc = .ok (.getfield idx, 3)) (hw : Cond.fieldLink M.1.cls idx "java/lang/String" "value" "[B" ∈ am_WS) (hj : j < 13) (hp : pc + 3 = pc') (k : am_G M g kn pc' ls (.ref (1000 + (100 + j)) :: st) ws) : am_G M g kn pc ls (.ref (1000 + j) :: st) ws := by
  subst hp
  intro X p l e s m args below meth c E H locs lsA hP hS hk hL
  have k1 := k X p l e s m args below meth c E H locs lsA hP hS hk hL
  rw [List.map_cons, am_spv] at k1 ⊢
  exact vk_getf E.1 E.2.1 (E.2.2.2.2.2.2.2.2.2.1.1.1 j hj).2.2.1 hS E.2.2.2.2.1 (E.2.2.2.2.2.1 _ hw) (fun _ h => h) d k1
theorem am_sgc {idx j : Nat} (d : decode M.2.1 pc = .ok (.getfield idx, 3)) (hw : Cond.fieldLink M.1.cls idx "java/lang/String" "coder" "B" ∈ am_WS) (hj : j < 13) (hp : pc + 3 = pc') (k : am_G M g kn pc' ls (.int 0 :: st) ws) : am_G M g kn pc ls (.ref (1000 + j) :: st) ws := by
  subst hp
  intro X p l e s m args below meth c E H locs lsA hP hS hk hL
  have k1 := k X p l e s m args below meth c E H locs lsA hP hS hk hL
  rw [List.map_cons, am_spv]
  exact vk_getf E.1 E.2.1 (E.2.2.2.2.2.2.2.2.2.1.1.1 j hj).2.1 hS E.2.2.2.2.1 (E.2.2.2.2.2.1 _ hw) (fun _ h => h) d k1
theorem am_scs {idx : Nat} (d : decode M.2.1 pc = .ok (.getstatic idx, 3)) (hw : Cond.fieldLink M.1.cls idx "java/lang/String" "COMPACT_STRINGS" "Z" ∈ am_WS) (hp : pc + 3 = pc') (k : am_G M g kn pc' ls (.int 1 :: st) ws) : am_G M g kn pc ls st ws := by
  subst hp
  intro X p l e s m args below meth c E H locs lsA hP hS hk hL
  exact va_gets E.1 E.2.1 E.2.2.2.2.2.2.2.2.2.1.2.1 hS E.2.2.2.2.1 (E.2.2.2.2.2.1 _ hw) (fun _ h => h) d (k X p l e s m args below meth c E H locs lsA hP hS hk hL)
theorem am_sal {j : Nat} (d : decode M.2.1 pc = .ok (.arraylength, 1)) (hj : j < 13) (hp : pc + 1 = pc') (k : am_G M g kn pc' ls (.int (nI (am_len.getD j 0)) :: st) ws) : am_G M g kn pc ls (.ref (1000 + (100 + j)) :: st) ws := by
  subst hp
  intro X p l e s m args below meth c E H locs lsA hP hS hk hL
  rw [List.map_cons, am_spv]
  exact va_tlen E.1 E.2.1 (E.2.2.2.2.2.2.2.2.2.1.1.1 j hj).2.2.2 hS rfl d (k X p l e s m args below meth c E H locs lsA hP hS hk hL)
theorem am_sbl {j : Nat} {i : Int32} (d : decode M.2.1 pc = .ok (.baload, 1)) (hj : j < 13) (hin : vp_in i (am_len.getD j 0)) (hp : pc + 1 = pc') (k : am_G M g kn pc' ls (.int ((am_byt.getD j []).getD i.toNatClampNeg 0) :: st) ws) : am_G M g kn pc ls (.int i :: .ref (1000 + (100 + j)) :: st) ws := by
  subst hp
  intro X p l e s m args below meth c E H locs lsA hP hS hk hL
  rw [List.map_cons, List.map_cons, am_spv]
  exact va_tb E.1 E.2.1 (E.2.2.2.2.2.2.2.2.2.1.1.1 j hj).2.2.2 hS hin rfl d (k X p l e s m args below meth c E H locs lsA hP hS hk hL)
end
section
variable {M : am_M} {g : am_g} {kn kn' : Nat × Nat} {pc pc' : Nat} {ls : List (Option Value)} {st0 st' : List Value} {ws w1 : am_W}
theorem am_callVs {idx n d' j : Nat} (rest as : List Value) {M' : am_M} {r : Option Value} (d : decode M.2.1 pc = .ok (.invokevirtual idx, 3)) (hs : am_cvt M.1.cls idx M' n) (hT : am_T M' d' 0 0 (.ref (1000 + j) :: as) ws r w1) (hn : as.length = n) (hst : as.reverse ++ (.ref (1000 + j) :: rest) = st0) (hj : j < 13) (hqc : M'.1.cls = "java/lang/String") (hcat : (rest.map fun v => v.category).sum ≤ 8)
    (hroom : (d' + 1 ≤ (am_R g).frames ∧ 8 + (M'.2.2.1 + 11) + 60 * d' ≤ (am_R g).locals) ∧ kn.1 ≤ (am_R g).cells ∧ kn.2 ≤ (am_R g).slots) (hp : pc + 3 = pc') (k : am_G M g kn pc' ls (r.toList ++ rest) w1) : am_G M g kn pc ls st0 ws := by
  subst hp; subst hst
  intro X p l e s m args below meth c E H locs lsA hP hS hk hL T hT0 X0
  have hz := am_size hk.1 E.2.2.2.2.2.2.2.2.2.2.1 hP hS hT0 X0
  obtain ⟨hd, h1, h2, h3, h4, h5⟩ := hs
  have hts := E.2.2.2.2.2.1
  have e0 := am_spv X j
  have e1 : (as.reverse ++ (.ref (1000 + j) :: rest)).map (am_cv X) = (as.map (am_cv X)).reverse ++ .ref (X.2.1 j) :: rest.map (am_cv X) := by rw [List.map_append, List.map_reverse, List.map_cons, e0]
  rw [e1]
  have hrc := vk_recv E.2.2.2.2.2.2.2.2.2.1.1 hj hS
  rw [← hqc] at hrc
  refine am_call (X := X) (a := (Value.ref (X.2.1 j) :: as.map (am_cv X)).toArray) (va_runV (C := M'.1.cls) (b := X.2.1 j) (As := as.map (am_cv X)) (rest := rest.map (am_cv X)) ⟨E.1, E.2.1, E.2.2.1, E.2.2.2.2.1, E.2.2.2.2.2.1⟩ (hT.2 l X)
    (cwV n hts (am_gi (am_cs1 h1 (am_cs1 h2 (am_cs1 h3 (am_cs1 h4 (am_wsAll h5)))))) rfl rfl rfl ⟨rfl, hd⟩ hroom.1) ⟨am_blind X _ ws, hrc, fun U hU hW => ⟨by rw [List.map_cons, e0], am_preU E.2.2.2.2.2.2.2.2.1 E.2.2.2.2.2.2.2.2.2.1 hP hS ⟨hz, hk.2⟩ hU hW⟩⟩ rfl (by rw [List.length_map]; exact hn) hL.2.1 rfl (lv_room (by rw [am_cats]; exact hcat)) d hroom.2) hS (fun H1 locs1 hP1 hS1 => ?_) T hT0 X0
  rw [am_rl]
  exact k X p l e s m args below meth c E H1 locs1 lsA hP1 hS1 ⟨by rw [hT.1.1]; exact hk.1, by rw [hT.1.1]; exact hk.2⟩ hL
end
theorem am_cVs {M : am_M} {dd : Nat} {r0 : Option Value} {wF : am_W} {pc pc' : Nat} {ls : List (Option Value)} {st0 st' : List Value} {ws w1 : am_W} {idx n d' j : Nat} (rest as : List Value) {M' : am_M} {r : Option Value} (d : decode M.2.1 pc = .ok (.invokevirtual idx, 3)) (hs : am_cvt M.1.cls idx M' n) (hT : am_T M' d' 0 0 (.ref (1000 + j) :: as) ws r w1) (hn : as.length = n) (hst : as.reverse ++ (.ref (1000 + j) :: rest) = st0) (hst' : r.toList ++ rest = st') (hj : j < 13) (hqc : M'.1.cls = "java/lang/String") (hcat : Nat.ble (rest.map fun v => v.category).sum 8 = true)
    (hroom : am_rb d' M'.2.2.1 dd = true) (hp : pc + 3 = pc') (k : am_G M (none, dd, 0, 0, r0, wF) (0, 0) pc' ls st' w1) : am_G M (none, dd, 0, 0, r0, wF) (0, 0) pc ls st0 ws := by
  subst hst'
  exact am_callVs rest as d hs hT hn hst hj hqc (Nat.le_of_ble_eq_true hcat) ⟨am_rb_s hroom, Nat.le_refl 0, Nat.le_refl 0⟩ hp k
theorem tj_coder (ws : am_W) (j : Nat) (hj : j < 13) : am_T mJ0_coder_7d493 0 0 0 [.ref (1000 + j)] ws (some (.int 0)) ws := by
  refine am_meth (ls := [some (.ref (1000 + j))]) (by decide +kernel) rfl (Nat.le_of_ble_eq_true rfl) ⟨rfl, Or.inl rfl⟩ ?_
  refine am_scs (pc' := 3) dJ0_coder_7d493_0 fw_J0_38 rfl ?_
  refine am_if_eq (pc' := 6) 13 dJ0_coder_7d493_3 rfl rfl (fun h => absurd h (by decide)) (fun _ => ?_)
  refine am_aload_n (pc' := 7) 0 dJ0_coder_7d493_6 rfl rfl rfl ?_
  refine am_sgc (pc' := 10) dJ0_coder_7d493_7 fw_J0_15 hj rfl ?_
  refine am_goto 14 dJ0_coder_7d493_10 rfl ?_
  exact am_zret dJ0_coder_7d493_14 rfl rfl rfl rfl
theorem tj_isLatin1 (ws : am_W) (j : Nat) (hj : j < 13) : am_T mJ0_isLatin1_aae02 0 0 0 [.ref (1000 + j)] ws (some (.int 1)) ws := by
  refine am_meth (ls := [some (.ref (1000 + j))]) (by decide +kernel) rfl (Nat.le_of_ble_eq_true rfl) ⟨rfl, Or.inl rfl⟩ ?_
  refine am_scs (pc' := 3) dJ0_isLatin1_aae02_0 fw_J0_38 rfl ?_
  refine am_if_eq (pc' := 6) 17 dJ0_isLatin1_aae02_3 rfl rfl (fun h => absurd h (by decide)) (fun _ => ?_)
  refine am_aload_n (pc' := 7) 0 dJ0_isLatin1_aae02_6 rfl rfl rfl ?_
  refine am_sgc (pc' := 10) dJ0_isLatin1_aae02_7 fw_J0_15 hj rfl ?_
  refine am_if_ne (pc' := 13) 17 dJ0_isLatin1_aae02_10 rfl rfl (fun h => absurd rfl h) (fun _ => ?_)
  refine am_iconst (pc' := 14) (v := 1) dJ0_isLatin1_aae02_13 kc_1 rfl ?_
  refine am_goto 18 dJ0_isLatin1_aae02_14 rfl ?_
  exact am_zret dJ0_isLatin1_aae02_18 rfl rfl rfl rfl
theorem tj_length (ws : am_W) (j : Nat) (hj : j < 13) : am_T mJ0_length_8abf5 1 0 0 [.ref (1000 + j)] ws (some (.int (nI (am_len.getD j 0)))) ws := by
  refine am_meth (ls := [some (.ref (1000 + j))]) (by decide +kernel) rfl (Nat.le_of_ble_eq_true rfl) ⟨rfl, Or.inl rfl⟩ ?_
  refine am_aload_n (pc' := 1) 0 dJ0_length_8abf5_0 rfl rfl rfl ?_
  refine am_sgv (pc' := 4) dJ0_length_8abf5_1 fw_J0_9 hj rfl ?_
  refine am_sal (pc' := 5) dJ0_length_8abf5_4 hj rfl ?_
  refine am_aload_n (pc' := 6) 0 dJ0_length_8abf5_5 rfl rfl rfl ?_
  refine am_cVs (pc' := 9) (st' := [.int 0, .int (nI (am_len.getD j 0))]) [.int (nI (am_len.getD j 0))] [] dJ0_length_8abf5_6 cs_J0_335 (tj_coder ws j hj) rfl rfl rfl hj rfl rfl rfl rfl ?_
  refine am_ishr (pc' := 10) dJ0_length_8abf5_9 rfl ?_
  exact am_iret dJ0_length_8abf5_10 rfl (by rw [sb_shr0]) rfl
/-- the JDK's own check of an index, where it holds -/
theorem tj_pre (l : Launch) (X : am_X) (ws : am_W) (i n : Int32) (v : Value) (hv : v.category = 1) (h0 : ¬ i < 0) (h1 : i < n) : Met l yJ3_checkIndex_8e157 (Cond.code mJ3_checkIndex_8e157.1 mJ3_checkIndex_8e157.2.1 mJ3_checkIndex_8e157.2.2.1 mJ3_checkIndex_8e157.2.2.2 :: am_WS) (am_rm 0 0 0) (va_Pc [.int i, .int n, v] (am_Pp X ws)) (am_P X (some (.int i)) ws) 0 0 (am_F X) := by
  refine Met.ofW (cc := cJ3_checkIndex_8e157) (maxL := 3) (ret := (some .int)) (by decide +kernel) rfl ?_
  intro p e s m args below meth c s₁ B hml hvv
  obtain ⟨rfl, ⟨hK, hH⟩, hP, hsz, hle2⟩ := hvv
  have hx := B.exec
  have hb := B.bytes
  have hl := lv_entry ([.int i, .int n, v]) (n := 3) (by cases v <;> first | exact Nat.le_of_ble_eq_true rfl | exact absurd (show (2 : Nat) = 1 from hv) (by decide))
  rw [lg_entry_eq]
  generalize (lg_sl ([.int i, .int n, v]) ++ List.replicate (3 - (lg_sl ([.int i, .int n, v])).length) Slot.unset).toArray = ls at hl ⊢
  have hl : lv_has ls 3 [(0, .int i), (1, .int n), (2, v)] := hl
  have hS : va_S (am_F X) s.heap s.heap [] := va_S.rf
  refine lv_iload_n hx hb dJ3_checkIndex_8e157_0 rfl (lv_at hl 0 rfl) ?_
  refine lv_if_lt (tgt := 9) hx hb dJ3_checkIndex_8e157_1 rfl (fun h => absurd h h0) (fun _ => ?_)
  refine lv_iload_n hx hb dJ3_checkIndex_8e157_4 rfl (lv_at hl 0 rfl) ?_
  refine lv_iload_n hx hb dJ3_checkIndex_8e157_5 rfl (lv_at hl 1 rfl) ?_
  refine lv_icmp_lt (tgt := 16) hx hb dJ3_checkIndex_8e157_6 rfl (fun _ => ?_) (fun h => absurd h1 h)
  refine lv_iload_n hx hb dJ3_checkIndex_8e157_16 rfl (lv_at hl 0 rfl) ?_
  exact W.iret (hlocks := B.notSynchronized) hx hb B.returns (fun t ht hW => ⟨⟨rfl, by rw [ht]; exact hP⟩, hS.F ht⟩) hS.2.2 dJ3_checkIndex_8e157_17
theorem tj_checkIndex (ws : am_W) (i n : Int32) (h0 : ¬ i < 0) (h1 : i < n) : am_T mJ0_checkIndex_df160 1 0 0 [.int i, .int n] ws none ws := by
  refine am_meth (ls := [some (.int i), some (.int n)]) (by decide +kernel) rfl (Nat.le_of_ble_eq_true rfl) ⟨rfl, Or.inl rfl⟩ ?_
  refine am_iload_n (pc' := 1) 0 dJ0_checkIndex_df160_0 rfl rfl rfl ?_
  refine am_iload_n (pc' := 2) 1 dJ0_checkIndex_df160_1 rfl rfl rfl ?_
  intro X p l e s m args below meth c E H locs lsA hP hS hk hL
  have hx := E.1
  have hb := E.2.1
  have hts := E.2.2.2.2.2.1
  have main : ∀ v : Value, v.category = 1 → va_Z "jdk/internal/util/Preconditions" "SIOOBE_FORMATTER" "Ljava/util/function/BiFunction;" v (am_F X) s s.heap → W p l e (am_R (none, 1, 0, 0, none, ws)) s m args below meth c H locs 0 0 (am_Q X (none, 1, 0, 0, none, ws) below args s) (F0 m 2 lsA [.int n, .int i]) := by
    intro v hv hZ
    refine va_gets hx hb hZ hS E.2.2.2.2.1 (hts _ fw_J0_1053) (fun _ h => h) dJ0_checkIndex_df160_2 ?_
    intro T hT0 X0
    have hz := am_size hk.1 E.2.2.2.2.2.2.2.2.2.2.1 hP hS hT0 X0
    obtain ⟨hd, q1, q2, q3, q4⟩ := cs_J0_1059
    refine am_call (X := X) (r := some (.int i)) (wF := ws) (mc := 0) (ms := 0) (rest := []) (a := ([.int i, .int n, v] : List Value).toArray) (va_runS (As := [.int i, .int n, v]) (rest := []) ⟨hx, hb, E.2.2.1, E.2.2.2.2.1, hts⟩ (tj_pre l X ws i n v hv h0 h1)
      (va_cwS 3 hts (am_gi (am_cs1 q1 (am_cs1 q2 (am_cs1 q3 (am_wsAll q4))))) rfl rfl rfl hd ⟨Nat.le_of_ble_eq_true rfl, Nat.le_of_ble_eq_true rfl⟩) ⟨am_blind X _ ws, fun U hU hW => ⟨rfl, am_preU E.2.2.2.2.2.2.2.2.1 E.2.2.2.2.2.2.2.2.2.1 hP hS ⟨hz, hk.2⟩ hU hW⟩⟩ rfl rfl hL.2.1 rfl (lv_room (Nat.le_of_ble_eq_true rfl)) dJ0_checkIndex_df160_5 ⟨Nat.le_refl 0, Nat.le_refl 0⟩) hS (fun H1 locs1 hP1 hS1 => ?_) T hT0 X0
    refine lv_pop hx hb dJ0_checkIndex_df160_8 rfl ?_
    exact W.vret (hlocks := E.2.2.2.2.2.2.1) hx hb E.2.2.2.1 (fun t ht hW => ⟨⟨rfl, by rw [ht]; exact hP1⟩, hS1.F ht⟩) hS1.2.2 dJ0_checkIndex_df160_9
  rcases E.2.2.2.2.2.2.2.2.2.1.2.2 with hZ | ⟨t, hZ⟩
  · exact main _ rfl hZ
  · exact main _ rfl hZ
theorem am_byt7 : ∀ j, j < 13 → ∀ i, i < am_len.getD j 0 → (((am_byt.getD j []).getD i 0 &&& 255).toUInt32 % 65536).toInt32 = (am_byt.getD j []).getD i 0 ∧ narrow .char (.int ((am_byt.getD j []).getD i 0)) = .int ((am_byt.getD j []).getD i 0) := by decide +kernel
theorem am_len_lt : ∀ j, j < 13 → am_len.getD j 0 < 2147483648 := by decide +kernel
theorem tj_l1charAt (ws : am_W) (j : Nat) (i : Int32) (hj : j < 13) (h0 : ¬ i < 0) (h1 : ¬ nI (am_len.getD j 0) ≤ i) : am_T mJ1_charAt_3b067 2 0 0 [.ref (1000 + (100 + j)), .int i] ws (some (.int ((am_byt.getD j []).getD i.toNatClampNeg 0))) ws := by
  have hin := am_inI (am_len_lt j hj) h0 h1
  have hlt : i.toNatClampNeg < am_len.getD j 0 := Nat.not_le.mp fun q => hin (Or.inr q)
  have h1' : i < nI (am_len.getD j 0) := by
    rw [Int32.lt_iff_toInt_lt]
    rw [Int32.le_iff_toInt_le] at h1
    omega
  obtain ⟨hb1, hb2⟩ := am_byt7 j hj _ hlt
  refine am_meth (ls := [some (.ref (1000 + (100 + j))), some (.int i)]) (by decide +kernel) rfl (Nat.le_of_ble_eq_true rfl) ⟨rfl, Or.inl rfl⟩ ?_
  refine am_iload_n (pc' := 1) 1 dJ1_charAt_3b067_0 rfl rfl rfl ?_
  refine am_aload_n (pc' := 2) 0 dJ1_charAt_3b067_1 rfl rfl rfl ?_
  refine am_sal (pc' := 3) dJ1_charAt_3b067_2 hj rfl ?_
  refine am_cS (pc' := 6) (st' := []) [] [.int i, .int (nI (am_len.getD j 0))] dJ1_charAt_3b067_3 cs_J1_9 (tj_checkIndex ws i _ h0 h1') rfl rfl rfl rfl rfl rfl ?_
  refine am_aload_n (pc' := 7) 0 dJ1_charAt_3b067_6 rfl rfl rfl ?_
  refine am_iload_n (pc' := 8) 1 dJ1_charAt_3b067_7 rfl rfl rfl ?_
  refine am_sbl (pc' := 9) dJ1_charAt_3b067_8 hj hin rfl ?_
  refine am_sipush (pc' := 12) (v := 255) dJ1_charAt_3b067_9 ks_255 rfl ?_
  refine am_iand (pc' := 13) dJ1_charAt_3b067_12 rfl ?_
  refine am_i2c (pc' := 14) dJ1_charAt_3b067_13 hb1 rfl ?_
  exact am_zret dJ1_charAt_3b067_14 rfl hb2 rfl rfl
def am_ch (j : Nat) (i : Int32) : Int32 := (am_byt.getD j []).getD i.toNatClampNeg 0
theorem tj_charAt (ws : am_W) (j : Nat) (i : Int32) (hj : j < 13) (h0 : ¬ i < 0) (h1 : ¬ nI (am_len.getD j 0) ≤ i) : am_T mJ0_charAt_5068e 3 0 0 [.ref (1000 + j), .int i] ws (some (.int (am_ch j i))) ws := by
  have hin := am_inI (am_len_lt j hj) h0 h1
  have hlt : i.toNatClampNeg < am_len.getD j 0 := Nat.not_le.mp fun q => hin (Or.inr q)
  obtain ⟨hb1, hb2⟩ := am_byt7 j hj _ hlt
  refine am_meth (ls := [some (.ref (1000 + j)), some (.int i)]) (by decide +kernel) rfl (Nat.le_of_ble_eq_true rfl) ⟨rfl, Or.inl rfl⟩ ?_
  refine am_aload_n (pc' := 1) 0 dJ0_charAt_5068e_0 rfl rfl rfl ?_
  refine am_cVs (pc' := 4) (st' := [.int 1]) [] [] dJ0_charAt_5068e_1 cs_J0_492 (tj_isLatin1 ws j hj) rfl rfl rfl hj rfl rfl rfl rfl ?_
  refine am_if_eq (pc' := 7) 16 dJ0_charAt_5068e_4 rfl rfl (fun h => absurd h (by decide)) (fun _ => ?_)
  refine am_aload_n (pc' := 8) 0 dJ0_charAt_5068e_7 rfl rfl rfl ?_
  refine am_sgv (pc' := 11) dJ0_charAt_5068e_8 fw_J0_9 hj rfl ?_
  refine am_iload_n (pc' := 12) 1 dJ0_charAt_5068e_11 rfl rfl rfl ?_
  refine am_cS (pc' := 15) (st' := [.int ((am_byt.getD j []).getD i.toNatClampNeg 0)]) [] [.ref (1000 + (100 + j)), .int i] dJ0_charAt_5068e_12 cs_J0_495 (tj_l1charAt ws j i hj h0 h1) rfl rfl rfl rfl rfl rfl ?_
  exact am_zret dJ0_charAt_5068e_15 rfl hb2 rfl rfl
/-! Math.max -/
def am_mx (x y : Int32) : Int32 := if x < y then y else x
def am_mxs (own : String) (idx : Nat) : Prop := Cond.methodLink own idx Lib.Math.max.name ∈ am_WS ∧ Cond.static Lib.Math.max.name ∈ am_WS ∧ Cond.initialized "java/lang/Math" ∈ am_WS ∧ Cond.code Lib.Math.max.name Lib.Math.max.code 2 (some .int) ∈ am_WS
theorem am_mmax {M : am_M} {dd : Nat} {r0 : Option Value} {wF : am_W} {pc pc' : Nat} {ls : List (Option Value)} {st : List Value} {ws : am_W} {idx : Nat} {x y : Int32} (d : decode M.2.1 pc = .ok (.invokestatic idx, 3)) (hs : am_mxs M.1.cls idx) (hcat : Nat.ble (st.map fun v => v.category).sum 8 = true) (hd : 1 ≤ dd) (hp : pc + 3 = pc') (k : am_G M (none, dd, 0, 0, r0, wF) (0, 0) pc' ls (.int (am_mx x y) :: st) ws) : am_G M (none, dd, 0, 0, r0, wF) (0, 0) pc ls (.int y :: .int x :: st) ws := by
  subst hp
  have hcat' := Nat.le_of_ble_eq_true hcat
  obtain ⟨h1, h2, h3, h4⟩ := hs
  intro X p l e s m args below meth c E H locs lsA hP hS hk hL
  have hts := E.2.2.2.2.2.1
  exact va_mmax E.1 E.2.1 (E.2.2.1.trans hL.2.1.symm) E.2.2.2.2.1 (hts _ h1) (hts _ h2) (hts _ h3) (hts _ h4) hd (by rw [am_cats]; show _ ≤ 60 * dd; omega) (Nat.le_refl 0) (Nat.le_refl 0) d (k X p l e s m args below meth c E H locs lsA hP hS hk hL)
