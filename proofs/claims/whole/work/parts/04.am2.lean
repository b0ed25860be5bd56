theorem am_iconst {M : am_M} {g : am_g} {kn : Nat × Nat} {pc pc' : Nat} {ls : List (Option Value)} {st : List Value} {ws : am_W} {n : Int} {v : Int32} (d : decode M.2.1 pc = .ok (.iconst n, 1)) (hv : Int32.ofInt n = v) (hp : pc + 1 = pc') (k : am_G M g kn pc' ls (.int v :: st) ws) : am_G M g kn pc ls (st) ws := by
  subst hp
  intro X p l e s m args below meth c E H locs lsA hP hS hk hL
  exact lv_iconst E.1 E.2.1 d hv (k X p l e s m args below meth c E H locs lsA hP hS hk hL)
theorem am_bipush {M : am_M} {g : am_g} {kn : Nat × Nat} {pc pc' : Nat} {ls : List (Option Value)} {st : List Value} {ws : am_W} {n : Int} {v : Int32} (d : decode M.2.1 pc = .ok (.bipush n, 2)) (hv : (Int8.ofInt n).toInt32 = v) (hp : pc + 2 = pc') (k : am_G M g kn pc' ls (.int v :: st) ws) : am_G M g kn pc ls (st) ws := by
  subst hp
  intro X p l e s m args below meth c E H locs lsA hP hS hk hL
  exact lv_bipush E.1 E.2.1 d hv (k X p l e s m args below meth c E H locs lsA hP hS hk hL)
theorem am_sipush {M : am_M} {g : am_g} {kn : Nat × Nat} {pc pc' : Nat} {ls : List (Option Value)} {st : List Value} {ws : am_W} {n : Int} {v : Int32} (d : decode M.2.1 pc = .ok (.sipush n, 3)) (hv : (Int16.ofInt n).toInt32 = v) (hp : pc + 3 = pc') (k : am_G M g kn pc' ls (.int v :: st) ws) : am_G M g kn pc ls (st) ws := by
  subst hp
  intro X p l e s m args below meth c E H locs lsA hP hS hk hL
  exact lv_sipush E.1 E.2.1 d hv (k X p l e s m args below meth c E H locs lsA hP hS hk hL)
theorem am_lconst {M : am_M} {g : am_g} {kn : Nat × Nat} {pc pc' : Nat} {ls : List (Option Value)} {st : List Value} {ws : am_W} {n : Fin 2} {v : Int64} (d : decode M.2.1 pc = .ok (.lconst n, 1)) (hv : Int64.ofNat (n : Nat) = v) (hp : pc + 1 = pc') (k : am_G M g kn pc' ls (.long v :: st) ws) : am_G M g kn pc ls (st) ws := by
  subst hp
  intro X p l e s m args below meth c E H locs lsA hP hS hk hL
  exact lv_lconst E.1 E.2.1 d hv (k X p l e s m args below meth c E H locs lsA hP hS hk hL)
theorem am_iload {M : am_M} {g : am_g} {kn : Nat × Nat} {pc pc' : Nat} {ls : List (Option Value)} {st : List Value} {ws : am_W} {i : Nat} {x : Int32} (d : decode M.2.1 pc = .ok (.iload i, 2)) (hl : ls[i]? = some (some (.int x))) (hp : pc + 2 = pc') (k : am_G M g kn pc' ls (.int x :: st) ws) : am_G M g kn pc ls st ws := by
  subst hp
  intro X p l e s m args below meth c E H locs lsA hP hS hk hL
  exact lv_iload E.1 E.2.1 d (hL.2.2.2 i _ hl) (k X p l e s m args below meth c E H locs lsA hP hS hk hL)
theorem am_iload_n {M : am_M} {g : am_g} {kn : Nat × Nat} {pc pc' : Nat} {ls : List (Option Value)} {st : List Value} {ws : am_W} {j : Fin 4} (i : Nat) {x : Int32} (d : decode M.2.1 pc = .ok (.iload_n j, 1)) (hi : (j : Nat) = i) (hl : ls[i]? = some (some (.int x))) (hp : pc + 1 = pc') (k : am_G M g kn pc' ls (.int x :: st) ws) : am_G M g kn pc ls st ws := by
  subst hp
  intro X p l e s m args below meth c E H locs lsA hP hS hk hL
  exact lv_iload_n E.1 E.2.1 d hi (hL.2.2.2 i _ hl) (k X p l e s m args below meth c E H locs lsA hP hS hk hL)
theorem am_lload {M : am_M} {g : am_g} {kn : Nat × Nat} {pc pc' : Nat} {ls : List (Option Value)} {st : List Value} {ws : am_W} {i : Nat} {x : Int64} (d : decode M.2.1 pc = .ok (.lload i, 2)) (hl : ls[i]? = some (some (.long x))) (hp : pc + 2 = pc') (k : am_G M g kn pc' ls (.long x :: st) ws) : am_G M g kn pc ls st ws := by
  subst hp
  intro X p l e s m args below meth c E H locs lsA hP hS hk hL
  exact lv_lload E.1 E.2.1 d (hL.2.2.2 i _ hl) (k X p l e s m args below meth c E H locs lsA hP hS hk hL)
theorem am_lload_n {M : am_M} {g : am_g} {kn : Nat × Nat} {pc pc' : Nat} {ls : List (Option Value)} {st : List Value} {ws : am_W} {j : Fin 4} (i : Nat) {x : Int64} (d : decode M.2.1 pc = .ok (.lload_n j, 1)) (hi : (j : Nat) = i) (hl : ls[i]? = some (some (.long x))) (hp : pc + 1 = pc') (k : am_G M g kn pc' ls (.long x :: st) ws) : am_G M g kn pc ls st ws := by
  subst hp
  intro X p l e s m args below meth c E H locs lsA hP hS hk hL
  exact lv_lload_n E.1 E.2.1 d hi (hL.2.2.2 i _ hl) (k X p l e s m args below meth c E H locs lsA hP hS hk hL)
theorem am_aload {M : am_M} {g : am_g} {kn : Nat × Nat} {pc pc' : Nat} {ls : List (Option Value)} {st : List Value} {ws : am_W} {i q : Nat} (d : decode M.2.1 pc = .ok (.aload i, 2)) (hl : ls[i]? = some (some (.ref q))) (hp : pc + 2 = pc') (k : am_G M g kn pc' ls (.ref q :: st) ws) : am_G M g kn pc ls st ws := by
  subst hp
  intro X p l e s m args below meth c E H locs lsA hP hS hk hL
  exact lv_aload E.1 E.2.1 d (hL.2.2.2 i _ hl) (k X p l e s m args below meth c E H locs lsA hP hS hk hL)
theorem am_aload_n {M : am_M} {g : am_g} {kn : Nat × Nat} {pc pc' : Nat} {ls : List (Option Value)} {st : List Value} {ws : am_W} {j : Fin 4} (i : Nat) {q : Nat} (d : decode M.2.1 pc = .ok (.aload_n j, 1)) (hi : (j : Nat) = i) (hl : ls[i]? = some (some (.ref q))) (hp : pc + 1 = pc') (k : am_G M g kn pc' ls (.ref q :: st) ws) : am_G M g kn pc ls st ws := by
  subst hp
  intro X p l e s m args below meth c E H locs lsA hP hS hk hL
  exact lv_aload_n E.1 E.2.1 d hi (hL.2.2.2 i _ hl) (k X p l e s m args below meth c E H locs lsA hP hS hk hL)
theorem am_istore {M : am_M} {g : am_g} {kn : Nat × Nat} {pc pc' : Nat} {ls : List (Option Value)} {st : List Value} {ws : am_W} {ls' : List (Option Value)} {i : Nat} {x : Int32} (d : decode M.2.1 pc = .ok (.istore i, 2)) (hn : i < M.2.2.1) (hok : am_ok ls i = true) (he : ls.set i (some (.int x)) = ls') (hp : pc + 2 = pc') (k : am_G M g kn pc' ls' st ws) : am_G M g kn pc ls (.int x :: st) ws := by
  subst hp; subst he
  intro X p l e s m args below meth c E H locs lsA hP hS hk hL
  exact lv_istore E.1 E.2.1 d (am_has hL) hn rfl (fun lsB h' => k X p l e s m args below meth c E H locs lsB hP hS hk (am_st1 (v := .int x) hL.1 hn hok h'))
theorem am_istore_n {M : am_M} {g : am_g} {kn : Nat × Nat} {pc pc' : Nat} {ls : List (Option Value)} {st : List Value} {ws : am_W} {ls' : List (Option Value)} {j : Fin 4} (i : Nat) {x : Int32} (d : decode M.2.1 pc = .ok (.istore_n j, 1)) (hi : (j : Nat) = i) (hn : i < M.2.2.1) (hok : am_ok ls i = true) (he : ls.set i (some (.int x)) = ls') (hp : pc + 1 = pc') (k : am_G M g kn pc' ls' st ws) : am_G M g kn pc ls (.int x :: st) ws := by
  subst hp; subst he
  intro X p l e s m args below meth c E H locs lsA hP hS hk hL
  exact lv_istore_n E.1 E.2.1 d hi (am_has hL) hn rfl (fun lsB h' => k X p l e s m args below meth c E H locs lsB hP hS hk (am_st1 (v := .int x) hL.1 hn hok h'))
theorem am_lstore {M : am_M} {g : am_g} {kn : Nat × Nat} {pc pc' : Nat} {ls : List (Option Value)} {st : List Value} {ws : am_W} {ls' : List (Option Value)} {i : Nat} {x : Int64} (d : decode M.2.1 pc = .ok (.lstore i, 2)) (hn : i + 1 < M.2.2.1) (hok : am_ok ls i = true) (he : (ls.set i (some (.long x))).set (i + 1) none = ls') (hp : pc + 2 = pc') (k : am_G M g kn pc' ls' st ws) : am_G M g kn pc ls (.long x :: st) ws := by
  subst hp; subst he
  intro X p l e s m args below meth c E H locs lsA hP hS hk hL
  exact lv_lstore E.1 E.2.1 d (am_has hL) hn rfl (fun lsB h' => k X p l e s m args below meth c E H locs lsB hP hS hk (am_st2 (v := .long x) hL.1 hn hok h'))
theorem am_lstore_n {M : am_M} {g : am_g} {kn : Nat × Nat} {pc pc' : Nat} {ls : List (Option Value)} {st : List Value} {ws : am_W} {ls' : List (Option Value)} {j : Fin 4} (i : Nat) {x : Int64} (d : decode M.2.1 pc = .ok (.lstore_n j, 1)) (hi : (j : Nat) = i) (hn : i + 1 < M.2.2.1) (hok : am_ok ls i = true) (he : (ls.set i (some (.long x))).set (i + 1) none = ls') (hp : pc + 1 = pc') (k : am_G M g kn pc' ls' st ws) : am_G M g kn pc ls (.long x :: st) ws := by
  subst hp; subst he
  intro X p l e s m args below meth c E H locs lsA hP hS hk hL
  exact lv_lstore_n E.1 E.2.1 d hi (am_has hL) hn rfl (fun lsB h' => k X p l e s m args below meth c E H locs lsB hP hS hk (am_st2 (v := .long x) hL.1 hn hok h'))
theorem am_astore {M : am_M} {g : am_g} {kn : Nat × Nat} {pc pc' : Nat} {ls : List (Option Value)} {st : List Value} {ws : am_W} {ls' : List (Option Value)} {i : Nat} {x : Nat} (d : decode M.2.1 pc = .ok (.astore i, 2)) (hn : i < M.2.2.1) (hok : am_ok ls i = true) (he : ls.set i (some (.ref x)) = ls') (hp : pc + 2 = pc') (k : am_G M g kn pc' ls' st ws) : am_G M g kn pc ls (.ref x :: st) ws := by
  subst hp; subst he
  intro X p l e s m args below meth c E H locs lsA hP hS hk hL
  exact lv_astore E.1 E.2.1 d (am_has hL) hn rfl (fun lsB h' => k X p l e s m args below meth c E H locs lsB hP hS hk (am_st1 (v := .ref x) hL.1 hn hok h'))
theorem am_astore_n {M : am_M} {g : am_g} {kn : Nat × Nat} {pc pc' : Nat} {ls : List (Option Value)} {st : List Value} {ws : am_W} {ls' : List (Option Value)} {j : Fin 4} (i : Nat) {x : Nat} (d : decode M.2.1 pc = .ok (.astore_n j, 1)) (hi : (j : Nat) = i) (hn : i < M.2.2.1) (hok : am_ok ls i = true) (he : ls.set i (some (.ref x)) = ls') (hp : pc + 1 = pc') (k : am_G M g kn pc' ls' st ws) : am_G M g kn pc ls (.ref x :: st) ws := by
  subst hp; subst he
  intro X p l e s m args below meth c E H locs lsA hP hS hk hL
  exact lv_astore_n E.1 E.2.1 d hi (am_has hL) hn rfl (fun lsB h' => k X p l e s m args below meth c E H locs lsB hP hS hk (am_st1 (v := .ref x) hL.1 hn hok h'))
theorem am_iinc {M : am_M} {g : am_g} {kn : Nat × Nat} {pc pc' : Nat} {ls : List (Option Value)} {st : List Value} {ws : am_W} {ls' : List (Option Value)} {i : Nat} {n : Int} {x v : Int32} (d : decode M.2.1 pc = .ok (.iinc i n, 3)) (hl : ls[i]? = some (some (.int x))) (hv : x + Int32.ofInt n = v) (hn : i < M.2.2.1) (hok : am_ok ls i = true) (he : ls.set i (some (.int v)) = ls') (hp : pc + 3 = pc') (k : am_G M g kn pc' ls' st ws) : am_G M g kn pc ls st ws := by
  subst hp; subst he
  intro X p l e s m args below meth c E H locs lsA hP hS hk hL
  obtain ⟨q, hq⟩ := List.getElem?_of_mem (am_as_in (X := X) hl)
  exact lv_iinc E.1 E.2.1 d (am_has hL) hq hv hn rfl (fun lsB h' => k X p l e s m args below meth c E H locs lsB hP hS hk (am_st1 (v := .int v) hL.1 hn hok h'))
theorem am_iadd {M : am_M} {g : am_g} {kn : Nat × Nat} {pc pc' : Nat} {ls : List (Option Value)} {st : List Value} {ws : am_W} {x y : Int32} (d : decode M.2.1 pc = .ok (.iadd, 1))  (hp : pc + 1 = pc') (k : am_G M g kn pc' ls (.int (x + y) :: st) ws) : am_G M g kn pc ls (.int y :: .int x :: st) ws := by
  subst hp
  intro X p l e s m args below meth c E H locs lsA hP hS hk hL
  exact lv_iadd E.1 E.2.1 d  (k X p l e s m args below meth c E H locs lsA hP hS hk hL)
theorem am_isub {M : am_M} {g : am_g} {kn : Nat × Nat} {pc pc' : Nat} {ls : List (Option Value)} {st : List Value} {ws : am_W} {x y : Int32} (d : decode M.2.1 pc = .ok (.isub, 1))  (hp : pc + 1 = pc') (k : am_G M g kn pc' ls (.int (x - y) :: st) ws) : am_G M g kn pc ls (.int y :: .int x :: st) ws := by
  subst hp
  intro X p l e s m args below meth c E H locs lsA hP hS hk hL
  exact lv_isub E.1 E.2.1 d  (k X p l e s m args below meth c E H locs lsA hP hS hk hL)
theorem am_imul {M : am_M} {g : am_g} {kn : Nat × Nat} {pc pc' : Nat} {ls : List (Option Value)} {st : List Value} {ws : am_W} {x y : Int32} (d : decode M.2.1 pc = .ok (.imul, 1))  (hp : pc + 1 = pc') (k : am_G M g kn pc' ls (.int (x * y) :: st) ws) : am_G M g kn pc ls (.int y :: .int x :: st) ws := by
  subst hp
  intro X p l e s m args below meth c E H locs lsA hP hS hk hL
  exact lv_imul E.1 E.2.1 d  (k X p l e s m args below meth c E H locs lsA hP hS hk hL)
theorem am_iand {M : am_M} {g : am_g} {kn : Nat × Nat} {pc pc' : Nat} {ls : List (Option Value)} {st : List Value} {ws : am_W} {x y : Int32} (d : decode M.2.1 pc = .ok (.iand, 1))  (hp : pc + 1 = pc') (k : am_G M g kn pc' ls (.int (x &&& y) :: st) ws) : am_G M g kn pc ls (.int y :: .int x :: st) ws := by
  subst hp
  intro X p l e s m args below meth c E H locs lsA hP hS hk hL
  exact lv_iand E.1 E.2.1 d  (k X p l e s m args below meth c E H locs lsA hP hS hk hL)
theorem am_ior {M : am_M} {g : am_g} {kn : Nat × Nat} {pc pc' : Nat} {ls : List (Option Value)} {st : List Value} {ws : am_W} {x y : Int32} (d : decode M.2.1 pc = .ok (.ior, 1))  (hp : pc + 1 = pc') (k : am_G M g kn pc' ls (.int (x ||| y) :: st) ws) : am_G M g kn pc ls (.int y :: .int x :: st) ws := by
  subst hp
  intro X p l e s m args below meth c E H locs lsA hP hS hk hL
  exact lv_ior E.1 E.2.1 d  (k X p l e s m args below meth c E H locs lsA hP hS hk hL)
theorem am_ixor {M : am_M} {g : am_g} {kn : Nat × Nat} {pc pc' : Nat} {ls : List (Option Value)} {st : List Value} {ws : am_W} {x y : Int32} (d : decode M.2.1 pc = .ok (.ixor, 1))  (hp : pc + 1 = pc') (k : am_G M g kn pc' ls (.int (x ^^^ y) :: st) ws) : am_G M g kn pc ls (.int y :: .int x :: st) ws := by
  subst hp
  intro X p l e s m args below meth c E H locs lsA hP hS hk hL
  exact lv_ixor E.1 E.2.1 d  (k X p l e s m args below meth c E H locs lsA hP hS hk hL)
theorem am_ishl {M : am_M} {g : am_g} {kn : Nat × Nat} {pc pc' : Nat} {ls : List (Option Value)} {st : List Value} {ws : am_W} {x y : Int32} (d : decode M.2.1 pc = .ok (.ishl, 1))  (hp : pc + 1 = pc') (k : am_G M g kn pc' ls (.int (x <<< (y &&& 31)) :: st) ws) : am_G M g kn pc ls (.int y :: .int x :: st) ws := by
  subst hp
  intro X p l e s m args below meth c E H locs lsA hP hS hk hL
  exact lv_ishl E.1 E.2.1 d  (k X p l e s m args below meth c E H locs lsA hP hS hk hL)
theorem am_ishr {M : am_M} {g : am_g} {kn : Nat × Nat} {pc pc' : Nat} {ls : List (Option Value)} {st : List Value} {ws : am_W} {x y : Int32} (d : decode M.2.1 pc = .ok (.ishr, 1))  (hp : pc + 1 = pc') (k : am_G M g kn pc' ls (.int (x >>> (y &&& 31)) :: st) ws) : am_G M g kn pc ls (.int y :: .int x :: st) ws := by
  subst hp
  intro X p l e s m args below meth c E H locs lsA hP hS hk hL
  exact lv_ishr E.1 E.2.1 d  (k X p l e s m args below meth c E H locs lsA hP hS hk hL)
theorem am_idiv {M : am_M} {g : am_g} {kn : Nat × Nat} {pc pc' : Nat} {ls : List (Option Value)} {st : List Value} {ws : am_W} {x y : Int32} (d : decode M.2.1 pc = .ok (.idiv, 1)) (hne : ¬ y = 0) (hp : pc + 1 = pc') (k : am_G M g kn pc' ls (.int (x / y) :: st) ws) : am_G M g kn pc ls (.int y :: .int x :: st) ws := by
  subst hp
  intro X p l e s m args below meth c E H locs lsA hP hS hk hL
  exact lv_idiv E.1 E.2.1 d hne (k X p l e s m args below meth c E H locs lsA hP hS hk hL)
theorem am_irem {M : am_M} {g : am_g} {kn : Nat × Nat} {pc pc' : Nat} {ls : List (Option Value)} {st : List Value} {ws : am_W} {x y : Int32} (d : decode M.2.1 pc = .ok (.irem, 1)) (hne : ¬ y = 0) (hp : pc + 1 = pc') (k : am_G M g kn pc' ls (.int (x - x / y * y) :: st) ws) : am_G M g kn pc ls (.int y :: .int x :: st) ws := by
  subst hp
  intro X p l e s m args below meth c E H locs lsA hP hS hk hL
  exact lv_irem E.1 E.2.1 d hne (k X p l e s m args below meth c E H locs lsA hP hS hk hL)
theorem am_iushr {M : am_M} {g : am_g} {kn : Nat × Nat} {pc pc' : Nat} {ls : List (Option Value)} {st : List Value} {ws : am_W} {x y v : Int32} (d : decode M.2.1 pc = .ok (.iushr, 1)) (hv : (x.toUInt32 >>> (y.toUInt32 &&& Int32.toUInt32 31)).toInt32 = v) (hp : pc + 1 = pc') (k : am_G M g kn pc' ls (.int v :: st) ws) : am_G M g kn pc ls (.int y :: .int x :: st) ws := by
  subst hp
  intro X p l e s m args below meth c E H locs lsA hP hS hk hL
  exact lv_iushr E.1 E.2.1 d hv (k X p l e s m args below meth c E H locs lsA hP hS hk hL)
theorem am_ineg {M : am_M} {g : am_g} {kn : Nat × Nat} {pc pc' : Nat} {ls : List (Option Value)} {st : List Value} {ws : am_W} {x : Int32} (d : decode M.2.1 pc = .ok (.ineg, 1))  (hp : pc + 1 = pc') (k : am_G M g kn pc' ls (.int (-x) :: st) ws) : am_G M g kn pc ls (.int x :: st) ws := by
  subst hp
  intro X p l e s m args below meth c E H locs lsA hP hS hk hL
  exact lv_ineg E.1 E.2.1 d  (k X p l e s m args below meth c E H locs lsA hP hS hk hL)
theorem am_i2l {M : am_M} {g : am_g} {kn : Nat × Nat} {pc pc' : Nat} {ls : List (Option Value)} {st : List Value} {ws : am_W} {x : Int32} (d : decode M.2.1 pc = .ok (.i2l, 1))  (hp : pc + 1 = pc') (k : am_G M g kn pc' ls (.long x.toInt64 :: st) ws) : am_G M g kn pc ls (.int x :: st) ws := by
  subst hp
  intro X p l e s m args below meth c E H locs lsA hP hS hk hL
  exact lv_i2l E.1 E.2.1 d rfl (k X p l e s m args below meth c E H locs lsA hP hS hk hL)
theorem am_l2i {M : am_M} {g : am_g} {kn : Nat × Nat} {pc pc' : Nat} {ls : List (Option Value)} {st : List Value} {ws : am_W} {x : Int64} (d : decode M.2.1 pc = .ok (.l2i, 1))  (hp : pc + 1 = pc') (k : am_G M g kn pc' ls (.int x.toInt32 :: st) ws) : am_G M g kn pc ls (.long x :: st) ws := by
  subst hp
  intro X p l e s m args below meth c E H locs lsA hP hS hk hL
  exact lv_l2i E.1 E.2.1 d rfl (k X p l e s m args below meth c E H locs lsA hP hS hk hL)
theorem am_i2b {M : am_M} {g : am_g} {kn : Nat × Nat} {pc pc' : Nat} {ls : List (Option Value)} {st : List Value} {ws : am_W} {x : Int32} (d : decode M.2.1 pc = .ok (.i2b, 1))  (hp : pc + 1 = pc') (k : am_G M g kn pc' ls (.int x.toInt8.toInt32 :: st) ws) : am_G M g kn pc ls (.int x :: st) ws := by
  subst hp
  intro X p l e s m args below meth c E H locs lsA hP hS hk hL
  exact lv_i2b E.1 E.2.1 d rfl (k X p l e s m args below meth c E H locs lsA hP hS hk hL)
theorem am_i2s {M : am_M} {g : am_g} {kn : Nat × Nat} {pc pc' : Nat} {ls : List (Option Value)} {st : List Value} {ws : am_W} {x : Int32} (d : decode M.2.1 pc = .ok (.i2s, 1))  (hp : pc + 1 = pc') (k : am_G M g kn pc' ls (.int x.toInt16.toInt32 :: st) ws) : am_G M g kn pc ls (.int x :: st) ws := by
  subst hp
  intro X p l e s m args below meth c E H locs lsA hP hS hk hL
  exact lv_i2s E.1 E.2.1 d rfl (k X p l e s m args below meth c E H locs lsA hP hS hk hL)
theorem am_i2c {M : am_M} {g : am_g} {kn : Nat × Nat} {pc pc' : Nat} {ls : List (Option Value)} {st : List Value} {ws : am_W} {x v : Int32} (d : decode M.2.1 pc = .ok (.i2c, 1)) (hv : (x.toUInt32 % 65536).toInt32 = v) (hp : pc + 1 = pc') (k : am_G M g kn pc' ls (.int v :: st) ws) : am_G M g kn pc ls (.int x :: st) ws := by
  subst hp
  intro X p l e s m args below meth c E H locs lsA hP hS hk hL
  exact lv_i2c E.1 E.2.1 d hv (k X p l e s m args below meth c E H locs lsA hP hS hk hL)
theorem am_ladd {M : am_M} {g : am_g} {kn : Nat × Nat} {pc pc' : Nat} {ls : List (Option Value)} {st : List Value} {ws : am_W} {x y : Int64} (d : decode M.2.1 pc = .ok (.ladd, 1))  (hp : pc + 1 = pc') (k : am_G M g kn pc' ls (.long (x + y) :: st) ws) : am_G M g kn pc ls (.long y :: .long x :: st) ws := by
  subst hp
  intro X p l e s m args below meth c E H locs lsA hP hS hk hL
  exact lv_ladd E.1 E.2.1 d  (k X p l e s m args below meth c E H locs lsA hP hS hk hL)
theorem am_lmul {M : am_M} {g : am_g} {kn : Nat × Nat} {pc pc' : Nat} {ls : List (Option Value)} {st : List Value} {ws : am_W} {x y : Int64} (d : decode M.2.1 pc = .ok (.lmul, 1))  (hp : pc + 1 = pc') (k : am_G M g kn pc' ls (.long (x * y) :: st) ws) : am_G M g kn pc ls (.long y :: .long x :: st) ws := by
  subst hp
  intro X p l e s m args below meth c E H locs lsA hP hS hk hL
  exact lv_lmul E.1 E.2.1 d  (k X p l e s m args below meth c E H locs lsA hP hS hk hL)
theorem am_ldiv {M : am_M} {g : am_g} {kn : Nat × Nat} {pc pc' : Nat} {ls : List (Option Value)} {st : List Value} {ws : am_W} {x y : Int64} (d : decode M.2.1 pc = .ok (.ldiv, 1)) (hne : ¬ y = 0) (hp : pc + 1 = pc') (k : am_G M g kn pc' ls (.long (x / y) :: st) ws) : am_G M g kn pc ls (.long y :: .long x :: st) ws := by
  subst hp
  intro X p l e s m args below meth c E H locs lsA hP hS hk hL
  exact lv_ldiv E.1 E.2.1 d hne (k X p l e s m args below meth c E H locs lsA hP hS hk hL)
theorem am_lrem {M : am_M} {g : am_g} {kn : Nat × Nat} {pc pc' : Nat} {ls : List (Option Value)} {st : List Value} {ws : am_W} {x y : Int64} (d : decode M.2.1 pc = .ok (.lrem, 1)) (hne : ¬ y = 0) (hp : pc + 1 = pc') (k : am_G M g kn pc' ls (.long (x - x / y * y) :: st) ws) : am_G M g kn pc ls (.long y :: .long x :: st) ws := by
  subst hp
  intro X p l e s m args below meth c E H locs lsA hP hS hk hL
  exact lv_lrem E.1 E.2.1 d hne (k X p l e s m args below meth c E H locs lsA hP hS hk hL)
theorem am_dup {M : am_M} {g : am_g} {kn : Nat × Nat} {pc pc' : Nat} {ls : List (Option Value)} {st : List Value} {ws : am_W} {x : Int32} (d : decode M.2.1 pc = .ok (.dup, 1))  (hp : pc + 1 = pc') (k : am_G M g kn pc' ls (.int x :: .int x :: st) ws) : am_G M g kn pc ls (.int x :: st) ws := by
  subst hp
  intro X p l e s m args below meth c E H locs lsA hP hS hk hL
  exact lv_dup E.1 E.2.1 d rfl (k X p l e s m args below meth c E H locs lsA hP hS hk hL)
theorem am_pop {M : am_M} {g : am_g} {kn : Nat × Nat} {pc pc' : Nat} {ls : List (Option Value)} {st : List Value} {ws : am_W} {x : Int32} (d : decode M.2.1 pc = .ok (.pop, 1))  (hp : pc + 1 = pc') (k : am_G M g kn pc' ls (st) ws) : am_G M g kn pc ls (.int x :: st) ws := by
  subst hp
  intro X p l e s m args below meth c E H locs lsA hP hS hk hL
  exact lv_pop E.1 E.2.1 d rfl (k X p l e s m args below meth c E H locs lsA hP hS hk hL)
theorem am_dupa {M : am_M} {g : am_g} {kn : Nat × Nat} {pc pc' : Nat} {ls : List (Option Value)} {st : List Value} {ws : am_W} {x : Nat} (d : decode M.2.1 pc = .ok (.dup, 1))  (hp : pc + 1 = pc') (k : am_G M g kn pc' ls (.ref x :: .ref x :: st) ws) : am_G M g kn pc ls (.ref x :: st) ws := by
  subst hp
  intro X p l e s m args below meth c E H locs lsA hP hS hk hL
  exact lv_dup E.1 E.2.1 d rfl (k X p l e s m args below meth c E H locs lsA hP hS hk hL)
theorem am_popa {M : am_M} {g : am_g} {kn : Nat × Nat} {pc pc' : Nat} {ls : List (Option Value)} {st : List Value} {ws : am_W} {x : Nat} (d : decode M.2.1 pc = .ok (.pop, 1))  (hp : pc + 1 = pc') (k : am_G M g kn pc' ls (st) ws) : am_G M g kn pc ls (.ref x :: st) ws := by
  subst hp
  intro X p l e s m args below meth c E H locs lsA hP hS hk hL
  exact lv_pop E.1 E.2.1 d rfl (k X p l e s m args below meth c E H locs lsA hP hS hk hL)
theorem am_dup2 {M : am_M} {g : am_g} {kn : Nat × Nat} {pc pc' : Nat} {ls : List (Option Value)} {st : List Value} {ws : am_W} {x q : Nat} {i : Int32} (d : decode M.2.1 pc = .ok (.dup2, 1))  (hp : pc + 1 = pc') (k : am_G M g kn pc' ls (.int i :: .ref q :: .int i :: .ref q :: st) ws) : am_G M g kn pc ls (.int i :: .ref q :: st) ws := by
  subst hp
  intro X p l e s m args below meth c E H locs lsA hP hS hk hL
  exact lv_dup2_11 E.1 E.2.1 d rfl rfl (k X p l e s m args below meth c E H locs lsA hP hS hk hL)
theorem am_if_eq {M : am_M} {g : am_g} {kn : Nat × Nat} {pc pc' : Nat} {ls : List (Option Value)} {st : List Value} {ws : am_W} {x : Int32} {off : Int} (tgt : Nat) (d : decode M.2.1 pc = .ok (.ifCond .eq off, 3)) (ht : (pc : Int) + off = (tgt : Int)) (hp : pc + 3 = pc') (kt : x = 0 → am_G M g kn tgt ls st ws) (kf : ¬ x = 0 → am_G M g kn pc' ls st ws) : am_G M g kn pc ls (.int x :: st) ws := by
  subst hp
  intro X p l e s m args below meth c E H locs lsA hP hS hk hL
  exact lv_if_eq E.1 E.2.1 d ht (fun h => kt h X p l e s m args below meth c E H locs lsA hP hS hk hL) (fun h => kf h X p l e s m args below meth c E H locs lsA hP hS hk hL)
theorem am_icmp_eq {M : am_M} {g : am_g} {kn : Nat × Nat} {pc pc' : Nat} {ls : List (Option Value)} {st : List Value} {ws : am_W} {x y : Int32} {off : Int} (tgt : Nat) (d : decode M.2.1 pc = .ok (.if_icmp .eq off, 3)) (ht : (pc : Int) + off = (tgt : Int)) (hp : pc + 3 = pc') (kt : x = y → am_G M g kn tgt ls st ws) (kf : ¬ x = y → am_G M g kn pc' ls st ws) : am_G M g kn pc ls (.int y :: .int x :: st) ws := by
  subst hp
  intro X p l e s m args below meth c E H locs lsA hP hS hk hL
  exact lv_icmp_eq E.1 E.2.1 d ht (fun h => kt h X p l e s m args below meth c E H locs lsA hP hS hk hL) (fun h => kf h X p l e s m args below meth c E H locs lsA hP hS hk hL)
theorem am_if_ne {M : am_M} {g : am_g} {kn : Nat × Nat} {pc pc' : Nat} {ls : List (Option Value)} {st : List Value} {ws : am_W} {x : Int32} {off : Int} (tgt : Nat) (d : decode M.2.1 pc = .ok (.ifCond .ne off, 3)) (ht : (pc : Int) + off = (tgt : Int)) (hp : pc + 3 = pc') (kt : ¬ x = 0 → am_G M g kn tgt ls st ws) (kf : x = 0 → am_G M g kn pc' ls st ws) : am_G M g kn pc ls (.int x :: st) ws := by
  subst hp
  intro X p l e s m args below meth c E H locs lsA hP hS hk hL
  exact lv_if_ne E.1 E.2.1 d ht (fun h => kt h X p l e s m args below meth c E H locs lsA hP hS hk hL) (fun h => kf h X p l e s m args below meth c E H locs lsA hP hS hk hL)
theorem am_icmp_ne {M : am_M} {g : am_g} {kn : Nat × Nat} {pc pc' : Nat} {ls : List (Option Value)} {st : List Value} {ws : am_W} {x y : Int32} {off : Int} (tgt : Nat) (d : decode M.2.1 pc = .ok (.if_icmp .ne off, 3)) (ht : (pc : Int) + off = (tgt : Int)) (hp : pc + 3 = pc') (kt : ¬ x = y → am_G M g kn tgt ls st ws) (kf : x = y → am_G M g kn pc' ls st ws) : am_G M g kn pc ls (.int y :: .int x :: st) ws := by
  subst hp
  intro X p l e s m args below meth c E H locs lsA hP hS hk hL
  exact lv_icmp_ne E.1 E.2.1 d ht (fun h => kt h X p l e s m args below meth c E H locs lsA hP hS hk hL) (fun h => kf h X p l e s m args below meth c E H locs lsA hP hS hk hL)
theorem am_if_lt {M : am_M} {g : am_g} {kn : Nat × Nat} {pc pc' : Nat} {ls : List (Option Value)} {st : List Value} {ws : am_W} {x : Int32} {off : Int} (tgt : Nat) (d : decode M.2.1 pc = .ok (.ifCond .lt off, 3)) (ht : (pc : Int) + off = (tgt : Int)) (hp : pc + 3 = pc') (kt : x < 0 → am_G M g kn tgt ls st ws) (kf : ¬ x < 0 → am_G M g kn pc' ls st ws) : am_G M g kn pc ls (.int x :: st) ws := by
  subst hp
  intro X p l e s m args below meth c E H locs lsA hP hS hk hL
  exact lv_if_lt E.1 E.2.1 d ht (fun h => kt h X p l e s m args below meth c E H locs lsA hP hS hk hL) (fun h => kf h X p l e s m args below meth c E H locs lsA hP hS hk hL)
theorem am_icmp_lt {M : am_M} {g : am_g} {kn : Nat × Nat} {pc pc' : Nat} {ls : List (Option Value)} {st : List Value} {ws : am_W} {x y : Int32} {off : Int} (tgt : Nat) (d : decode M.2.1 pc = .ok (.if_icmp .lt off, 3)) (ht : (pc : Int) + off = (tgt : Int)) (hp : pc + 3 = pc') (kt : x < y → am_G M g kn tgt ls st ws) (kf : ¬ x < y → am_G M g kn pc' ls st ws) : am_G M g kn pc ls (.int y :: .int x :: st) ws := by
  subst hp
  intro X p l e s m args below meth c E H locs lsA hP hS hk hL
  exact lv_icmp_lt E.1 E.2.1 d ht (fun h => kt h X p l e s m args below meth c E H locs lsA hP hS hk hL) (fun h => kf h X p l e s m args below meth c E H locs lsA hP hS hk hL)
theorem am_if_ge {M : am_M} {g : am_g} {kn : Nat × Nat} {pc pc' : Nat} {ls : List (Option Value)} {st : List Value} {ws : am_W} {x : Int32} {off : Int} (tgt : Nat) (d : decode M.2.1 pc = .ok (.ifCond .ge off, 3)) (ht : (pc : Int) + off = (tgt : Int)) (hp : pc + 3 = pc') (kt : 0 ≤ x → am_G M g kn tgt ls st ws) (kf : ¬ 0 ≤ x → am_G M g kn pc' ls st ws) : am_G M g kn pc ls (.int x :: st) ws := by
  subst hp
  intro X p l e s m args below meth c E H locs lsA hP hS hk hL
  exact lv_if_ge E.1 E.2.1 d ht (fun h => kt h X p l e s m args below meth c E H locs lsA hP hS hk hL) (fun h => kf h X p l e s m args below meth c E H locs lsA hP hS hk hL)
theorem am_icmp_ge {M : am_M} {g : am_g} {kn : Nat × Nat} {pc pc' : Nat} {ls : List (Option Value)} {st : List Value} {ws : am_W} {x y : Int32} {off : Int} (tgt : Nat) (d : decode M.2.1 pc = .ok (.if_icmp .ge off, 3)) (ht : (pc : Int) + off = (tgt : Int)) (hp : pc + 3 = pc') (kt : y ≤ x → am_G M g kn tgt ls st ws) (kf : ¬ y ≤ x → am_G M g kn pc' ls st ws) : am_G M g kn pc ls (.int y :: .int x :: st) ws := by
  subst hp
  intro X p l e s m args below meth c E H locs lsA hP hS hk hL
  exact lv_icmp_ge E.1 E.2.1 d ht (fun h => kt h X p l e s m args below meth c E H locs lsA hP hS hk hL) (fun h => kf h X p l e s m args below meth c E H locs lsA hP hS hk hL)
theorem am_if_gt {M : am_M} {g : am_g} {kn : Nat × Nat} {pc pc' : Nat} {ls : List (Option Value)} {st : List Value} {ws : am_W} {x : Int32} {off : Int} (tgt : Nat) (d : decode M.2.1 pc = .ok (.ifCond .gt off, 3)) (ht : (pc : Int) + off = (tgt : Int)) (hp : pc + 3 = pc') (kt : 0 < x → am_G M g kn tgt ls st ws) (kf : ¬ 0 < x → am_G M g kn pc' ls st ws) : am_G M g kn pc ls (.int x :: st) ws := by
  subst hp
  intro X p l e s m args below meth c E H locs lsA hP hS hk hL
  exact lv_if_gt E.1 E.2.1 d ht (fun h => kt h X p l e s m args below meth c E H locs lsA hP hS hk hL) (fun h => kf h X p l e s m args below meth c E H locs lsA hP hS hk hL)
theorem am_icmp_gt {M : am_M} {g : am_g} {kn : Nat × Nat} {pc pc' : Nat} {ls : List (Option Value)} {st : List Value} {ws : am_W} {x y : Int32} {off : Int} (tgt : Nat) (d : decode M.2.1 pc = .ok (.if_icmp .gt off, 3)) (ht : (pc : Int) + off = (tgt : Int)) (hp : pc + 3 = pc') (kt : y < x → am_G M g kn tgt ls st ws) (kf : ¬ y < x → am_G M g kn pc' ls st ws) : am_G M g kn pc ls (.int y :: .int x :: st) ws := by
  subst hp
  intro X p l e s m args below meth c E H locs lsA hP hS hk hL
  exact lv_icmp_gt E.1 E.2.1 d ht (fun h => kt h X p l e s m args below meth c E H locs lsA hP hS hk hL) (fun h => kf h X p l e s m args below meth c E H locs lsA hP hS hk hL)
theorem am_if_le {M : am_M} {g : am_g} {kn : Nat × Nat} {pc pc' : Nat} {ls : List (Option Value)} {st : List Value} {ws : am_W} {x : Int32} {off : Int} (tgt : Nat) (d : decode M.2.1 pc = .ok (.ifCond .le off, 3)) (ht : (pc : Int) + off = (tgt : Int)) (hp : pc + 3 = pc') (kt : x ≤ 0 → am_G M g kn tgt ls st ws) (kf : ¬ x ≤ 0 → am_G M g kn pc' ls st ws) : am_G M g kn pc ls (.int x :: st) ws := by
  subst hp
  intro X p l e s m args below meth c E H locs lsA hP hS hk hL
  exact lv_if_le E.1 E.2.1 d ht (fun h => kt h X p l e s m args below meth c E H locs lsA hP hS hk hL) (fun h => kf h X p l e s m args below meth c E H locs lsA hP hS hk hL)
theorem am_icmp_le {M : am_M} {g : am_g} {kn : Nat × Nat} {pc pc' : Nat} {ls : List (Option Value)} {st : List Value} {ws : am_W} {x y : Int32} {off : Int} (tgt : Nat) (d : decode M.2.1 pc = .ok (.if_icmp .le off, 3)) (ht : (pc : Int) + off = (tgt : Int)) (hp : pc + 3 = pc') (kt : x ≤ y → am_G M g kn tgt ls st ws) (kf : ¬ x ≤ y → am_G M g kn pc' ls st ws) : am_G M g kn pc ls (.int y :: .int x :: st) ws := by
  subst hp
  intro X p l e s m args below meth c E H locs lsA hP hS hk hL
  exact lv_icmp_le E.1 E.2.1 d ht (fun h => kt h X p l e s m args below meth c E H locs lsA hP hS hk hL) (fun h => kf h X p l e s m args below meth c E H locs lsA hP hS hk hL)
theorem am_goto {M : am_M} {g : am_g} {kn : Nat × Nat} {pc : Nat} {ls : List (Option Value)} {st : List Value} {ws : am_W} {off : Int} (tgt : Nat) (d : decode M.2.1 pc = .ok (.goto off, 3)) (ht : (pc : Int) + off = (tgt : Int)) (k : am_G M g kn tgt ls st ws) : am_G M g kn pc ls st ws := by
  intro X p l e s m args below meth c E H locs lsA hP hS hk hL
  exact lv_goto E.1 E.2.1 d ht (k X p l e s m args below meth c E H locs lsA hP hS hk hL)
theorem am_ifnull {M : am_M} {g : am_g} {kn : Nat × Nat} {pc pc' : Nat} {ls : List (Option Value)} {st : List Value} {ws : am_W} {q : Nat} {off : Int} (d : decode M.2.1 pc = .ok (.ifnull off, 3)) (hp : pc + 3 = pc') (k : am_G M g kn pc' ls st ws) : am_G M g kn pc ls (.ref q :: st) ws := by
  subst hp
  intro X p l e s m args below meth c E H locs lsA hP hS hk hL
  exact lv_ifnull E.1 E.2.1 d (k X p l e s m args below meth c E H locs lsA hP hS hk hL)
theorem am_ifnonnull {M : am_M} {g : am_g} {kn : Nat × Nat} {pc : Nat} {ls : List (Option Value)} {st : List Value} {ws : am_W} {q : Nat} {off : Int} (tgt : Nat) (d : decode M.2.1 pc = .ok (.ifnonnull off, 3)) (ht : (pc : Int) + off = (tgt : Int)) (k : am_G M g kn tgt ls st ws) : am_G M g kn pc ls (.ref q :: st) ws := by
  intro X p l e s m args below meth c E H locs lsA hP hS hk hL
  exact lv_ifnonnull E.1 E.2.1 d ht (k X p l e s m args below meth c E H locs lsA hP hS hk hL)
theorem am_tsOut {M : am_M} {g : am_g} {kn : Nat × Nat} {pc : Nat} {ls : List (Option Value)} {st : List Value} {ws : am_W} {dflt lo hi : Int} {offs : Array Int} {len : Nat} {x : Int32} (tgt : Nat) (d : decode M.2.1 pc = .ok (.tableswitch dflt lo hi offs, len)) (h : x.toInt < lo ∨ hi < x.toInt) (ht : (pc : Int) + dflt = (tgt : Int)) (k : am_G M g kn tgt ls st ws) : am_G M g kn pc ls (.int x :: st) ws := by
  intro X p l e s m args below meth c E H locs lsA hP hS hk hL
  exact lv_tableOut E.1 E.2.1 d h ht (k X p l e s m args below meth c E H locs lsA hP hS hk hL)
theorem am_tsIn {M : am_M} {g : am_g} {kn : Nat × Nat} {pc : Nat} {ls : List (Option Value)} {st : List Value} {ws : am_W} {dflt lo hi : Int} {offs : Array Int} {len : Nat} {x : Int32} {off : Int} (tgt : Nat) (d : decode M.2.1 pc = .ok (.tableswitch dflt lo hi offs, len)) (h1 : ¬ x.toInt < lo) (h2 : ¬ hi < x.toInt) (ho : offs[(x.toInt - lo).toNat]? = some off) (ht : (pc : Int) + off = (tgt : Int)) (k : am_G M g kn tgt ls st ws) : am_G M g kn pc ls (.int x :: st) ws := by
  intro X p l e s m args below meth c E H locs lsA hP hS hk hL
  exact lv_tableIn E.1 E.2.1 d h1 h2 ho ht (k X p l e s m args below meth c E H locs lsA hP hS hk hL)
theorem am_lookup {M : am_M} {g : am_g} {kn : Nat × Nat} {pc : Nat} {ls : List (Option Value)} {st : List Value} {ws : am_W} {dflt : Int} {ps : Array (Int × Int)} {len : Nat} {x : Int32} {off : Int} (tgt : Nat) (d : decode M.2.1 pc = .ok (.lookupswitch dflt ps, len)) (hs : (ps.toList.zip (ps.toList.drop 1)).all (fun (a, next) => a.1 < next.1) = true) (ho : Op.lookupswitch.offset ps.toList dflt x.toInt = off) (ht : (pc : Int) + off = (tgt : Int)) (k : am_G M g kn tgt ls st ws) : am_G M g kn pc ls (.int x :: st) ws := by
  intro X p l e s m args below meth c E H locs lsA hP hS hk hL
  exact lv_lookup E.1 E.2.1 d hs ho ht (k X p l e s m args below meth c E H locs lsA hP hS hk hL)
theorem am_ldc {M : am_M} {g : am_g} {kn : Nat × Nat} {pc pc' : Nat} {ls : List (Option Value)} {st : List Value} {ws : am_W} {i : Nat} {v : Int32} (d : decode M.2.1 pc = .ok (.ldc i, 2)) (hw : Cond.constant M.1.cls i v ∈ am_WS) (hp : pc + 2 = pc') (k : am_G M g kn pc' ls (.int v :: st) ws) : am_G M g kn pc ls st ws := by
  subst hp
  intro X p l e s m args below meth c E H locs lsA hP hS hk hL
  exact lv_ldc E.1 E.2.1 E.2.2.2.2.1 (E.2.2.2.2.2.1 _ hw) d (k X p l e s m args below meth c E H locs lsA hP hS hk hL)
theorem am_ldcw {M : am_M} {g : am_g} {kn : Nat × Nat} {pc pc' : Nat} {ls : List (Option Value)} {st : List Value} {ws : am_W} {i : Nat} {v : Int32} (d : decode M.2.1 pc = .ok (.ldc_w i, 3)) (hw : Cond.constant M.1.cls i v ∈ am_WS) (hp : pc + 3 = pc') (k : am_G M g kn pc' ls (.int v :: st) ws) : am_G M g kn pc ls st ws := by
  subst hp
  intro X p l e s m args below meth c E H locs lsA hP hS hk hL
  exact lv_ldcw E.1 E.2.1 E.2.2.2.2.1 (E.2.2.2.2.2.1 _ hw) d (k X p l e s m args below meth c E H locs lsA hP hS hk hL)
theorem am_ldc2 {M : am_M} {g : am_g} {kn : Nat × Nat} {pc pc' : Nat} {ls : List (Option Value)} {st : List Value} {ws : am_W} {i : Nat} {v : Int64} (d : decode M.2.1 pc = .ok (.ldc2_w i, 3)) (hw : Cond.constantLong M.1.cls i v ∈ am_WS) (hp : pc + 3 = pc') (k : am_G M g kn pc' ls (.long v :: st) ws) : am_G M g kn pc ls st ws := by
  subst hp
  intro X p l e s m args below meth c E H locs lsA hP hS hk hL
  exact lv_ldc2 E.1 E.2.1 E.2.2.2.2.1 (E.2.2.2.2.2.1 _ hw) d (k X p l e s m args below meth c E H locs lsA hP hS hk hL)
theorem am_ldcS {M : am_M} {g : am_g} {kn : Nat × Nat} {pc pc' : Nat} {ls : List (Option Value)} {st : List Value} {ws : am_W} {i j : Nat} {tx : String} (d : decode M.2.1 pc = .ok (.ldc i, 2)) (hw : (M.1.cls, i, tx, j) ∈ am_str) (hp : pc + 2 = pc') (k : am_G M g kn pc' ls (.ref (1000 + j) :: st) ws) : am_G M g kn pc ls st ws := by
  subst hp
  intro X p l e s m args below meth c E H locs lsA hP hS hk hL
  have h1 := E.2.2.2.2.2.2.2.2.1.2.2.2 _ hw
  have h2 := k X p l e s m args below meth c E H locs lsA hP hS hk hL
  have h3 : am_cv X (.ref (1000 + j)) = .ref (X.2.1 j) := by
    show Value.ref (if 1000 + j < 1000 then _ else _) = _
    rw [if_neg (by omega), Nat.add_sub_cancel_left]
  rw [List.map_cons, h3] at h2
  exact va_ldcS E.1 E.2.1 E.2.2.2.2.1 h1 d h2
