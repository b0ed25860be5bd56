/-! ===== text: the new text, the old ones ===== -/
theorem pv_gl {X Y : List Int32} {i : Nat} (h : i < X.length) : (X ++ Y).getD i 0 = X.getD i 0 := by
  simp only [List.getD_eq_getElem?_getD]
  rw [List.getElem?_append_left h]
theorem pv_gr {X Y : List Int32} {j i : Nat} (h : j = X.length) : (X ++ Y).getD (j + i) 0 = Y.getD i 0 := by
  simp only [List.getD_eq_getElem?_getD]
  rw [List.getElem?_append_right (by omega), h, Nat.add_sub_cancel_left]
def pv_T (A B C : List Int32) : Nat → List Int32
  | 0 => A
  | 1 => B
  | _ => C
theorem pv_tx {A B C : List Int32} {q : Nat} {S : sx_T} {M : sm_T} (hl : (A ++ B ++ C).length ≤ 160) (okA : pc_ok A) (okB : pc_ok B) (okC : pc_ok C)
    (eA : sx_tx_ends S (3 * q + 0) = nI (160 * q + A.length)) (eB : sx_tx_ends S (3 * q + 1) = nI (160 * q + (A ++ B).length)) (eC : sx_tx_ends S (3 * q + 2) = nI (160 * q + (A ++ B ++ C).length))
    (nA : ∀ j, j < 6 → pb_it (sx_tx_named S (3 * q + 0)) j = false → (-10 - nI j) ∉ A) (nB : ∀ j, j < 6 → pb_it (sx_tx_named S (3 * q + 1)) j = false → (-10 - nI j) ∉ B) (nC : ∀ j, j < 6 → pb_it (sx_tx_named S (3 * q + 2)) j = false → (-10 - nI j) ∉ C)
    (s0 : sm_starts M (4 * q + 0) = nI 0) (s1 : sm_starts M (4 * q + 1) = nI A.length) (s2 : sm_starts M (4 * q + 2) = nI (A ++ B).length) (s3 : sm_starts M (4 * q + 3) = nI (A ++ B ++ C).length)
    (hs : ∀ i, i < (A ++ B ++ C).length → sx_tx_steps S (160 * q + i) = (A ++ B ++ C).getD i 0) (hm : ∀ i, i < (A ++ B ++ C).length → sm_codes M (200 * q + i) = pt_tr ((A ++ B ++ C).getD i 0)) : pr_tx1 (pv_T A B C) q S M := by
  have l1 : (A ++ B).length = A.length + B.length := List.length_append
  have l2 : (A ++ B ++ C).length = A.length + B.length + C.length := by rw [List.length_append, l1]
  have o1 : pt_off (pv_T A B C) 1 = A.length := Nat.zero_add _
  have o2 : pt_off (pv_T A B C) 2 = A.length + B.length := by
    show pt_off (pv_T A B C) 1 + B.length = _
    rw [o1]
  have o3 : pt_off (pv_T A B C) 3 = A.length + B.length + C.length := by
    show pt_off (pv_T A B C) 2 + C.length = _
    rw [o2]
  refine ⟨by rw [o3]; omega, fun p hp => ?_⟩
  have h3 : p = 0 ∨ p = 1 ∨ p = 2 := by omega
  rcases h3 with rfl | rfl | rfl
  · refine ⟨⟨okA.1, okA.2 0⟩, ⟨by rw [o1]; exact eA, s0, by rw [o1]; exact s1⟩, nA, fun i hi => ?_⟩
    have hi' : i < A.length := hi
    have g : (A ++ B ++ C).getD i 0 = A.getD i 0 := (pv_gl (by omega)).trans (pv_gl hi')
    exact ⟨(hs i (by omega)).trans g, (hm i (by omega)).trans (congrArg pt_tr g)⟩
  · refine ⟨⟨okB.1, okB.2 0⟩, ⟨by rw [o2, ← l1]; exact eB, by rw [o1]; exact s1, by rw [o2, ← l1]; exact s2⟩, nB, fun i hi => ?_⟩
    have hi' : i < B.length := hi
    have g : (A ++ B ++ C).getD (A.length + i) 0 = B.getD i 0 := (pv_gl (by omega)).trans (pv_gr rfl)
    rw [o1, Nat.add_assoc, Nat.add_assoc]
    exact ⟨(hs _ (by omega)).trans g, (hm _ (by omega)).trans (congrArg pt_tr g)⟩
  · refine ⟨⟨okC.1, okC.2 0⟩, ⟨by rw [o3, ← l2]; exact eC, by rw [o2, ← l1]; exact s2, by rw [o3, ← l2]; exact s3⟩, nC, fun i hi => ?_⟩
    have hi' : i < C.length := hi
    have g : (A ++ B ++ C).getD (A.length + B.length + i) 0 = C.getD i 0 := pv_gr l1.symm
    rw [o2, Nat.add_assoc (160 * q), Nat.add_assoc (200 * q)]
    exact ⟨(hs _ (by omega)).trans g, (hm _ (by omega)).trans (congrArg pt_tr g)⟩
theorem pv_old {T : Nat → List Int32} {t q : Nat} {S S' : sx_T} {M M' : sm_T} (h : pr_tx1 T t S M) (hq : t < q) (a1 : ∀ i, i < 160 * q → sx_tx_steps S' i = sx_tx_steps S i) (a2 : ∀ i, i < 3 * q → sx_tx_ends S' i = sx_tx_ends S i ∧ sx_tx_named S' i = sx_tx_named S i) (a3 : ∀ i, i < 200 * q → sm_codes M' i = sm_codes M i) (a4 : ∀ i, i < 4 * q → sm_starts M' i = sm_starts M i) : pr_tx1 T t S' M' := by
  obtain ⟨h1, h2⟩ := h
  refine ⟨h1, fun p hp => ?_⟩
  obtain ⟨b1, ⟨b2, b3, b4⟩, b5, b6⟩ := h2 p hp
  have o3 : pt_off T 3 = 0 + (T 0).length + (T 1).length + (T 2).length := rfl
  have op : pt_off T p + (T p).length ≤ pt_off T 3 := by
    have h3 : p = 0 ∨ p = 1 ∨ p = 2 := by omega
    rcases h3 with rfl | rfl | rfl
    · have : pt_off T 0 = 0 := rfl
      omega
    · have : pt_off T 1 = 0 + (T 0).length := rfl
      omega
    · have : pt_off T 2 = 0 + (T 0).length + (T 1).length := rfl
      omega
  refine ⟨b1, ⟨(a2 _ (by omega)).1.trans b2, (a4 _ (by omega)).trans b3, (a4 _ (by omega)).trans b4⟩, fun k hk hb => b5 k hk (by rw [← (a2 (3 * t + p) (by omega)).2]; exact hb), fun i hi => ?_⟩
  obtain ⟨b7, b8⟩ := b6 i hi
  exact ⟨(a1 _ (by omega)).trans b7, (a3 _ (by omega)).trans b8⟩
theorem pv_R {T T' : Nat → Nat → List Int32} {S S' : sx_T} {M M' : sm_T} (h : px_Q T S M) (hx : px_f [8, 9, 10, 11, 12, 13, 14] [10, 11, 12, 15, 16] S S') (hm : pm_f [2, 3, 6, 7, 8, 9, 10, 11, 12] [5, 6, 12] M M') (hs : sx_rd_size S' = 0) (ht : sm_taped M' = 0) (hl : pr_law T' S' M') : px_R S' M' := by
  obtain ⟨x, y⟩ := hx
  obtain ⟨u, w⟩ := hm
  have a2 : sx_now_viewers S' = sx_now_viewers S := x 2 (by decide)
  have a3 : sx_now_hour S' = sx_now_hour S := x 3 (by decide)
  have a0 : sx_imageKept S' = sx_imageKept S := x 0 (by decide)
  have a5 : sx_kept_viewers S' = sx_kept_viewers S := x 5 (by decide)
  have a6 : sx_kept_hour S' = sx_kept_hour S := x 6 (by decide)
  have a7 : sx_kept_law S' = sx_kept_law S := x 7 (by decide)
  have b0 : sx_now_light S' = sx_now_light S := y 0 (by decide)
  have b1 : sx_now_damp S' = sx_now_damp S := y 1 (by decide)
  have b2 : sx_now_rich S' = sx_now_rich S := y 2 (by decide)
  have b3 : sx_now_quiet S' = sx_now_quiet S := y 3 (by decide)
  have b4 : sx_kept_light S' = sx_kept_light S := y 4 (by decide)
  have b5 : sx_kept_damp S' = sx_kept_damp S := y 5 (by decide)
  have b6 : sx_kept_rich S' = sx_kept_rich S := y 6 (by decide)
  have b7 : sx_kept_quiet S' = sx_kept_quiet S := y 7 (by decide)
  have b8 : sx_kindOf S' = sx_kindOf S := y 8 (by decide)
  have b9 : sx_moreOf S' = sx_moreOf S := y 9 (by decide)
  have b17 : sx_sh_cells S' = sx_sh_cells S := y 17 (by decide)
  have b18 : sx_sh_sorts S' = sx_sh_sorts S := y 18 (by decide)
  have b19 : sx_sh_sizes S' = sx_sh_sizes S := y 19 (by decide)
  have c0 : sm_viewers M' = sm_viewers M := u 0 (by decide)
  have c1 : sm_hour M' = sm_hour M := u 1 (by decide)
  have c5 : sm_hasImage M' = sm_hasImage M := u 5 (by decide)
  have d0 : sm_kind M' = sm_kind M := w 0 (by decide)
  have d1 : sm_moreOf M' = sm_moreOf M := w 1 (by decide)
  have d2 : sm_ones M' = sm_ones M := w 2 (by decide)
  have d3 : sm_flat M' = sm_flat M := w 3 (by decide)
  have d7 : sm_imageRows M' = sm_imageRows M := w 7 (by decide)
  have d8 : sm_imageHeld M' = sm_imageHeld M := w 8 (by decide)
  have d9 : sm_sheetSort M' = sm_sheetSort M := w 9 (by decide)
  have d10 : sm_sheetSize M' = sm_sheetSize M := w 10 (by decide)
  have d11 : sm_cells M' = sm_cells M := w 11 (by decide)
  obtain ⟨q1, -, q3, q4, q5, -, q7, q8⟩ := h
  refine ⟨T', ?_, hl, ?_, ?_, ?_, ⟨0, by decide, hs, ht, fun i hi => by omega⟩, ?_, ?_⟩
  · unfold pr_nh
    rw [a2, a3, c0, c1]
    exact q1
  · unfold pr_flat
    rw [b0, b1, d3]
    exact q3
  · unfold pr_ones
    rw [b2, b3, d2]
    exact q4
  · unfold pr_kind
    rw [b8, b9, d0, d1]
    exact q5
  · unfold pr_img
    rw [a0, a5, a6, a7, b4, b5, b6, b7, c5, d7, d8]
    exact q7
  · unfold pr_sh pr_sh1
    rw [b17, b18, b19, d9, d10, d11]
    exact q8
