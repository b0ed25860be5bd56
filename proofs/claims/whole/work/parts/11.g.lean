/-! what the law's start gives -/
theorem lw_k1 {s : State} {args : Array Value} {c : Nat} {C : String} {T : u_T} {N n : Nat} (hWS : ∀ w ∈ am_WS, w.before args s = true) (h1 : ∀ w ∈ u_ws C T N, w ∈ am_WS) (h2 : Cond.instantiable C n ∈ am_WS) (h3 : vwCl[c]? = some (C, T, N)) : ∃ q : ClassId × (Nat → Nat), ∀ r : vw_C, vwCl[c]? = some r → u_Kn s r.1 r.2.1 r.2.2 q.1 q.2 := by
  obtain ⟨cC, iS, h⟩ := u_known hWS h1 (hWS _ h2)
  exact ⟨(cC, iS), fun r hr => by cases h3.symm.trans hr; exact h⟩
theorem lw_kinds {s : State} {args : Array Value} (hWS : ∀ w ∈ am_WS, w.before args s = true) : ∀ c : Nat, ∃ q : ClassId × (Nat → Nat), ∀ r : vw_C, vwCl[c]? = some r → u_Kn s r.1 r.2.1 r.2.2 q.1 q.2
  | 0 => lw_k1 hWS uin_X0 wi_X0 rfl
  | 1 => lw_k1 hWS uin_X1 wi_X1 rfl
  | 2 => lw_k1 hWS uin_X2 wi_X2 rfl
  | 3 => lw_k1 hWS uin_X3 wi_X3 rfl
  | 4 => lw_k1 hWS uin_X4 wi_X4 rfl
  | 5 => lw_k1 hWS uin_X5 wi_X5 rfl
  | 6 => lw_k1 hWS uin_X6 wi_X6 rfl
  | 7 => lw_k1 hWS uin_X7 wi_X7 rfl
  | 8 => lw_k1 hWS uin_X8 wi_X8 rfl
  | 9 => lw_k1 hWS uin_X9 wi_X9 rfl
  | 10 => lw_k1 hWS uin_X10 wi_X10 rfl
  | 11 => lw_k1 hWS uin_X11 wi_X11 rfl
  | 12 => lw_k1 hWS uin_X12 wi_X12 rfl
  | n + 13 => ⟨(0, fun _ => 0), fun r hr => absurd (List.getElem?_eq_some_iff.mp hr).1 (by show ¬ n + 13 < 13; omega)⟩
theorem lw_nwof {w : Cond} (h : am_isN w = true) {A : Array Value} {s : State} (hb : w.before A s = true) : va_Nw w s := by
  cases w <;> first | (exact va_Nw.of rfl hb) | (cases h; done) | (rename_i t; cases t <;> first | (exact va_AO.of (A := A) hb) | (cases h))
theorem lw_nw : ∀ w ∈ am_nw, w ∈ lw_tbl := List.forall_mem_cons.mpr ⟨lw_t1 31 (by decide +kernel), List.forall_mem_cons.mpr ⟨lw_t1 72 (by decide +kernel), List.forall_mem_cons.mpr ⟨lw_t1 79 (by decide +kernel), List.forall_mem_cons.mpr ⟨lw_t1 82 (by decide +kernel), List.forall_mem_cons.mpr ⟨lw_t1 86 (by decide +kernel), List.forall_mem_cons.mpr ⟨lw_t1 89 (by decide +kernel), List.forall_mem_cons.mpr ⟨lw_t1 93 (by decide +kernel), List.forall_mem_cons.mpr ⟨lw_t1 96 (by decide +kernel), List.forall_mem_cons.mpr ⟨lw_t1 100 (by decide +kernel), List.forall_mem_cons.mpr ⟨lw_t1 103 (by decide +kernel), List.forall_mem_cons.mpr ⟨lw_t1 107 (by decide +kernel), List.forall_mem_cons.mpr ⟨lw_t1 110 (by decide +kernel), List.forall_mem_cons.mpr ⟨lw_t1 114 (by decide +kernel), List.forall_mem_cons.mpr ⟨lw_t1 175 (by decide +kernel), List.forall_mem_cons.mpr ⟨lw_t1 196 (by decide +kernel), List.forall_mem_cons.mpr ⟨lw_t2 50 (by decide +kernel), List.forall_mem_cons.mpr ⟨lw_t2 61 (by decide +kernel), List.forall_mem_cons.mpr ⟨lw_t2 135 (by decide +kernel), List.forall_mem_cons.mpr ⟨lw_t2 138 (by decide +kernel), List.forall_mem_cons.mpr ⟨lw_t3 18 (by decide +kernel), List.forall_mem_cons.mpr ⟨lw_t3 19 (by decide +kernel), List.forall_mem_cons.mpr ⟨lw_t3 48 (by decide +kernel), List.forall_mem_cons.mpr ⟨lw_t3 72 (by decide +kernel), List.forall_mem_cons.mpr ⟨lw_t3 100 (by decide +kernel), List.forall_mem_cons.mpr ⟨lw_t3 113 (by decide +kernel), List.forall_mem_cons.mpr ⟨lw_t3 185 (by decide +kernel), List.forall_mem_cons.mpr ⟨lw_t4 101 (by decide +kernel), List.forall_mem_cons.mpr ⟨lw_t4 128 (by decide +kernel), List.forall_mem_cons.mpr ⟨lw_t4 129 (by decide +kernel), List.forall_mem_cons.mpr ⟨lw_t6 108 (by decide +kernel), List.forall_mem_cons.mpr ⟨lw_t6 109 (by decide +kernel), List.forall_mem_cons.mpr ⟨lw_t6 110 (by decide +kernel), List.forall_mem_cons.mpr ⟨lw_t6 111 (by decide +kernel), List.forall_mem_cons.mpr ⟨lw_t6 112 (by decide +kernel), List.forall_mem_cons.mpr ⟨lw_t6 113 (by decide +kernel), List.forall_mem_cons.mpr ⟨lw_t6 114 (by decide +kernel), List.forall_mem_cons.mpr ⟨lw_t1 70 (by decide +kernel), fun w hw => absurd hw List.not_mem_nil⟩⟩⟩⟩⟩⟩⟩⟩⟩⟩⟩⟩⟩⟩⟩⟩⟩⟩⟩⟩⟩⟩⟩⟩⟩⟩⟩⟩⟩⟩⟩⟩⟩⟩⟩⟩⟩
theorem lw_nc : ∀ q ∈ am_nc, Cond.not (.castable q.1 q.2) ∈ flatC (Jvm.Cond.and given_1 narrow_1) := by decide +kernel
def lw_sr (q : String × Nat × String × Nat) : Cond := Cond.stringRef q.1 q.2.1 q.2.2.1
theorem lw_srs : ∀ w ∈ am_str.map lw_sr, w ∈ lw_tbl := List.forall_mem_cons.mpr ⟨lw_t1 237 (by decide +kernel), List.forall_mem_cons.mpr ⟨lw_t2 71 (by decide +kernel), List.forall_mem_cons.mpr ⟨lw_t2 78 (by decide +kernel), List.forall_mem_cons.mpr ⟨lw_t2 79 (by decide +kernel), List.forall_mem_cons.mpr ⟨lw_t2 80 (by decide +kernel), List.forall_mem_cons.mpr ⟨lw_t2 81 (by decide +kernel), List.forall_mem_cons.mpr ⟨lw_t2 82 (by decide +kernel), List.forall_mem_cons.mpr ⟨lw_t2 83 (by decide +kernel), List.forall_mem_cons.mpr ⟨lw_t2 84 (by decide +kernel), List.forall_mem_cons.mpr ⟨lw_t2 85 (by decide +kernel), List.forall_mem_cons.mpr ⟨lw_t2 86 (by decide +kernel), List.forall_mem_cons.mpr ⟨lw_t2 87 (by decide +kernel), List.forall_mem_cons.mpr ⟨lw_t2 88 (by decide +kernel), fun w hw => absurd hw List.not_mem_nil⟩⟩⟩⟩⟩⟩⟩⟩⟩⟩⟩⟩⟩
def lw_F : List Cond := flatC (Jvm.Cond.and given_1 narrow_1)
def lw_b : List Nat := [87, 135, 145, 156, 169, 179, 191, 204, 220, 236, 253, 271, 291]
def lw_tm (i : Nat) : Term := (am_str.map fun q => Term.string q.1 q.2.1).getD i (.string "" 0)
theorem lw_s1 : ∀ i, i < 13 → lw_F[lw_b.getD i 0]? = some (.exactly (lw_tm i) "java/lang/String") := by decide +kernel
theorem lw_s2 : ∀ i, i < 13 → lw_F[lw_b.getD i 0 + 1]? = some (.eq (.field (lw_tm i) "java/lang/String" "coder" "B") (.int 0)) := by decide +kernel
theorem lw_s3 : ∀ i, i < 13 → lw_F[lw_b.getD i 0 + 2]? = some (.arrayOf (.field (lw_tm i) "java/lang/String" "value" "[B") .byte) := by decide +kernel
theorem lw_s4 : ∀ i, i < 13 → lw_F[lw_b.getD i 0 + 3]? = some (.eq (.length (.field (lw_tm i) "java/lang/String" "value" "[B")) (.int (Int32.ofNat (am_len.getD i 0)))) := by decide +kernel
theorem lw_s5 : ∀ i, i < 13 → ∀ j, j < am_len.getD i 0 → lw_F[lw_b.getD i 0 + 4 + j]? = some (.eq (.elem (.field (lw_tm i) "java/lang/String" "value" "[B") (.int (Int32.ofNat j))) (.int ((am_byt.getD i []).getD j 0))) := by decide +kernel
theorem lw_s6 : ∀ j, j < 13 → ∀ i, i < j → lw_F[lw_b.getD j 0 + 4 + am_len.getD j 0 + i]? = some (.not (.eq (lw_tm i) (lw_tm j))) := by decide +kernel
theorem lw_s7 : ∀ i, i < 13 → am_len.getD i 0 < 2 ^ 31 := by decide +kernel
theorem lw_s8 : ∀ q ∈ am_str, q.2.2.2 < 13 ∧ lw_tm q.2.2.2 = Term.string q.1 q.2.1 := by decide +kernel
theorem lw_z1 : Cond.laysStatic "java/lang/String" "COMPACT_STRINGS" "Z" ∈ lw_tbl := lw_t2 7 (by decide +kernel)
theorem lw_z2 : Cond.initialized "java/lang/String" ∈ lw_tbl := lw_t1 13 (by decide +kernel)
theorem lw_z3 : Cond.laysStatic "jdk/internal/util/Preconditions" "SIOOBE_FORMATTER" "Ljava/util/function/BiFunction;" ∈ lw_tbl := lw_t2 23 (by decide +kernel)
theorem lw_z4 : Cond.initialized "jdk/internal/util/Preconditions" ∈ lw_tbl := lw_t1 15 (by decide +kernel)
theorem lw_z5 : Cond.arrayOver (.object RX9) ∈ lw_tbl := lw_t1 70 (by decide +kernel)
theorem lw_z6 : lw_F[4]? = some (.eq (.static "java/lang/String" "COMPACT_STRINGS" "Z") (.int 1)) := by decide +kernel
theorem lw_z7 : lw_F[5]? = some (.isRef (.static "jdk/internal/util/Preconditions" "SIOOBE_FORMATTER" "Ljava/util/function/BiFunction;")) := by decide +kernel
def lw_sp (adK adV : Nat → Nat) (b k : Nat) : Nat := if k < 50 then adK k else if k = 50 then b else adV (k - 100)
theorem lw_env {p : Program} {s : State} {m : MethodId} {meth : Method} {c : Code} {b L : Nat} {xs : Nat → Int32} (hL : L ≤ 3584) (C0 : lw_At p s m meth c b L xs) : ∃ X : am_X, X.1 = s.heap.size ∧ X.2.1 50 = b ∧ am_E X mL_law (lw_g L xs) p s m #[.ref b] meth c := by
  obtain ⟨e1, e2, e3, e4, e5, e6, e7, e8, e9, e10⟩ := C0
  have hs : ∀ w ∈ lw_F, w.before #[.ref b] s = true := flat_of_before _ e10
  have hF : ∀ (i : Nat) (w : Cond), lw_F[i]? = some w → w.before #[.ref b] s = true := fun i w h => hs w (List.mem_of_getElem? h)
  have hWS : ∀ w ∈ am_WS, w.before #[.ref b] s = true := fun w hw => e6 w (List.mem_filter.mp hw).1
  have hA : ∀ a : Nat, a < s.heap.size → ¬ s.heap.size ≤ a := fun a h q => Nat.lt_irrefl _ (Nat.lt_of_lt_of_le h q)
  have hD := lw_kinds hWS
  obtain ⟨cI, kI, compI, i1, i2, i3⟩ := Cond.arrayClass_spec (hWS _ wa_int)
  obtain ⟨comp, cV, kV, v1, v2, v3, v4, v5⟩ := Cond.arrayOver_spec (e6 _ lw_z5)
  obtain ⟨adK, adV, hSS, hev⟩ := vk_Sof (N := 13) (tm := lw_tm) (len := am_len) (byt := am_byt) (A := fun q => s.heap.size ≤ q) lw_s7 (fun i hi => hF _ _ (lw_s1 i hi)) (fun i hi => hF _ _ (lw_s2 i hi)) (fun i hi => hF _ _ (lw_s3 i hi)) (fun i hi => hF _ _ (lw_s4 i hi)) (fun i hi j hj => hF _ _ (lw_s5 i hi j hj))
    (fun i j hi hj hne => by
      rcases Nat.lt_or_gt_of_ne hne with h | h
      · exact Or.inl (hF _ _ (lw_s6 j hj i h))
      · exact Or.inr (hF _ _ (lw_s6 i hi j h))) hA
  have k1 : ∀ i, i < 13 → lw_sp adK adV b i = adK i := fun i hi => if_pos (by omega)
  have k2 : lw_sp adK adV b 50 = b := rfl
  have k3 : ∀ i, lw_sp adK adV b (100 + i) = adV i := fun i => by
    unfold lw_sp
    rw [if_neg (by omega), if_neg (by omega), Nat.add_sub_cancel_left]
  refine ⟨(s.heap.size, lw_sp adK adV b, (fun c => (Classical.choose (hD c)).1, fun c => (Classical.choose (hD c)).2), cI, cV), rfl, k2, e1, e2, e4, e3, e5, hWS, e9, fun h => absurd h (by decide), ⟨⟨fun c q hq => Classical.choose_spec (hD c) q hq, fun k q hq => ?_⟩, fun w hw => lw_nwof (List.all_eq_true.mp am_nw_ok w hw) (e6 w (lw_nw w hw)), fun q hq => va_Nc.of (hs _ (lw_nc q hq)), fun q hq => ?_⟩, ⟨⟨fun i hi => ?_, fun i j hi hj h => ?_⟩, va_Zof (e6 _ lw_z1) (e6 _ lw_z2) (va_eqi (hF _ _ lw_z6)) hA, va_Zqof (e6 _ lw_z3) (e6 _ lw_z4) (hF _ _ lw_z7) hA⟩, Nat.le_refl _, hL, rfl, e8, e7⟩
  · match k, hq with
    | 0, hq => cases hq; exact ⟨fun n z => ⟨fun k h => (by cases h), kI, i2, compI, i3⟩, i1⟩
    | 1, hq => cases hq; exact ⟨fun n z => ⟨fun k h => (by cases h), kV, v3, comp, v4⟩, kV, comp, v3, v4, v1, v5⟩
    | n + 2, hq => cases hq
  · have h1 := lw_s8 q hq
    have h2 := e6 _ (lw_srs _ (List.mem_map.mpr ⟨q, hq, rfl⟩))
    have h3 := hev _ h1.1
    rw [h1.2] at h3
    show vk_R q.1 q.2.1 q.2.2.1 (lw_sp adK adV b q.2.2.2) s
    rw [k1 _ h1.1]
    exact vk_R.of h2 h3
  · show va_O "java/lang/String" (lw_sp adK adV b i) _ s s.heap ∧ va_OF "java/lang/String" "coder" "B" (.int 0) (lw_sp adK adV b i) _ s s.heap ∧ va_OF "java/lang/String" "value" "[B" (.ref (lw_sp adK adV b (100 + i))) (lw_sp adK adV b i) _ s s.heap ∧ va_T .byte (lw_sp adK adV b (100 + i)) _ _ _ s s.heap
    rw [k1 i hi, k3 i]
    exact hSS.1 i hi
  · have h' : lw_sp adK adV b i = lw_sp adK adV b j := h
    rw [k1 i hi, k1 j hj] at h'
    exact hSS.2 i j hi hj h'
