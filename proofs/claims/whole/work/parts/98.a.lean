/-! ===== the two starts are alike ===== -/
def y_S : sx_T := (fx_X11_init_end SX0).get e_x0
def y_M : sm_T := (fx_X12_init_end SM0).get e_m0
theorem y_S1 : fx_X11_init_end SX0 = some y_S := (Option.some_get e_x0).symm
theorem y_M1 : fx_X12_init_end SM0 = some y_M := (Option.some_get e_m0).symm
theorem y_c1 : (sx_now_viewers y_S = nI 0 ∧ sm_viewers y_M = nI 0 ∧ sx_now_hour y_S = nI 6 ∧ sm_hour y_M = nI 6) ∧ (sx_tx_count y_S = nI 1 ∧ sm_texts y_M = nI 1 ∧ sx_now_law y_S = nI 0 ∧ sm_rule y_M = nI 0 ∧ sx_imageKept y_S = 0 ∧ sm_hasImage y_M = 0) ∧ sx_rd_size y_S = nI 0 ∧ sm_taped y_M = nI 0 := by decide +kernel
theorem y_c2 : (∀ p, p < 3 → sx_tx_ends y_S p = nI (3 + p) ∧ sx_tx_named y_S p = ([3, 0, 32] : List Int32).getD p 0) ∧ (sm_starts y_M 0 = nI 0 ∧ sm_starts y_M 1 = nI 3 ∧ sm_starts y_M 2 = nI 4 ∧ sm_starts y_M 3 = nI 5) ∧ ∀ i, i < 5 → sx_tx_steps y_S i = ([-10, -11, -45, 1, -15] : List Int32).getD i 0 ∧ sm_codes y_M i = pt_tr (([-10, -11, -45, 1, -15] : List Int32).getD i 0) := by decide +kernel
theorem y_c3 : (∀ r, r < 6 → sm_flat y_M (2 * r) = sx_now_light y_S r ∧ sm_flat y_M (2 * r + 1) = sx_now_damp y_S r) ∧ ∀ v, v < 8 → (sm_ones y_M (2 * v) = sx_now_rich y_S v ∧ sm_ones y_M (2 * v + 1) = sx_now_quiet y_S v) ∧ (sx_kindOf y_S v = nI 0 ∧ sm_kind y_M v = nI 0) ∧ (sx_moreOf y_S v = nI 0 ∧ sm_moreOf y_M v = nI 0) := by decide +kernel
theorem y_c4 : ∀ s, s < 4 → sm_sheetSort y_M s = sx_sh_sorts y_S s ∧ sx_sh_sizes y_S s = nI 0 ∧ sm_sheetSize y_M s = nI 0 := by decide +kernel
theorem y_tx : pr_tx1 (pv_T [-10, -11, -45] [1] [-15]) 0 y_S y_M := by
  obtain ⟨e, ⟨s0, s1, s2, s3⟩, c⟩ := y_c2
  obtain ⟨e0, n0⟩ := e 0 (by decide)
  obtain ⟨e1, n1⟩ := e 1 (by decide)
  obtain ⟨e2, n2⟩ := e 2 (by decide)
  refine ⟨by decide, fun p hp => ?_⟩
  have h3 : p = 0 ∨ p = 1 ∨ p = 2 := by omega
  rcases h3 with rfl | rfl | rfl
  · refine ⟨⟨fun s hs => Or.inr ?_, by decide⟩, ⟨e0, s0, s1⟩, fun k hk hb => ?_, fun i hi => ?_⟩
    · exact (by decide : ∀ s ∈ ([-10, -11, -45] : List Int32), s ∈ ([-6, -7, -8, -9, -10, -11, -12, -13, -14, -15, -60, -61, -43, -45, -42] : List Int32)) s hs
    · have hb' : pb_it (sx_tx_named y_S 0) k = false := hb
      rw [n0] at hb'
      exact (by decide +kernel : ∀ k, k < 6 → pb_it (([3, 0, 32] : List Int32).getD 0 0) k = false → (-10 - nI k) ∉ ([-10, -11, -45] : List Int32)) k hk hb'
    · have hi' : i < 3 := hi
      have q := c i (by omega)
      have w := (by decide : ∀ i, i < 3 → ([-10, -11, -45, 1, -15] : List Int32).getD i 0 = ([-10, -11, -45] : List Int32).getD i 0) i hi'
      rw [w] at q
      have x : 160 * 0 + pt_off (pv_T [-10, -11, -45] [1] [-15]) 0 + i = i := Nat.zero_add _
      rw [x]
      exact q
  · refine ⟨⟨fun s hs => Or.inl ⟨1, by decide, ?_⟩, by decide⟩, ⟨e1, s1, s2⟩, fun k hk hb => ?_, fun i hi => ?_⟩
    · exact List.mem_singleton.mp hs
    · exact (by decide +kernel : ∀ k, k < 6 → (-10 - nI k) ∉ ([1] : List Int32)) k hk
    · obtain rfl : i = 0 := by have hi' : i < 1 := hi; omega
      exact c 3 (by decide)
  · refine ⟨⟨fun s hs => Or.inr ?_, by decide⟩, ⟨e2, s2, s3⟩, fun k hk hb => ?_, fun i hi => ?_⟩
    · exact (by decide : ∀ s ∈ ([-15] : List Int32), s ∈ ([-6, -7, -8, -9, -10, -11, -12, -13, -14, -15, -60, -61, -43, -45, -42] : List Int32)) s hs
    · have hb' : pb_it (sx_tx_named y_S 2) k = false := hb
      rw [n2] at hb'
      exact (by decide +kernel : ∀ k, k < 6 → pb_it (([3, 0, 32] : List Int32).getD 2 0) k = false → (-10 - nI k) ∉ ([-15] : List Int32)) k hk hb'
    · obtain rfl : i = 0 := by have hi' : i < 1 := hi; omega
      exact c 4 (by decide)
theorem y_R : px_R y_S y_M := by
  obtain ⟨⟨a1, a2, a3, a4⟩, ⟨b1, b2, b3, b4, b5, b6⟩, c1, c2⟩ := y_c1
  obtain ⟨f, o⟩ := y_c3
  refine ⟨fun _ => pv_T [-10, -11, -45] [1] [-15], ⟨⟨⟨0, by decide, a1⟩, a2.trans a1.symm⟩, ⟨6, by decide, a3⟩, a4.trans a3.symm⟩, ⟨1, by decide, b1, b2, ⟨⟨0, by decide, b3⟩, b4.trans b3.symm⟩, fun w => absurd b5 w, fun t ht => ?_⟩, f, fun v hv => (o v hv).1, fun v hv => ?_, ⟨0, by decide, c1, c2, fun i hi => absurd hi (Nat.not_lt_zero _)⟩, ⟨b6.trans b5.symm, fun w => absurd b5 w⟩, fun s hs => ?_⟩
  · obtain rfl : t = 0 := by omega
    exact y_tx
  · obtain ⟨-, ⟨k1, k2⟩, k3, k4⟩ := o v hv
    exact ⟨⟨⟨0, by decide, k1⟩, k2.trans k1.symm⟩, ⟨0, by decide, k3⟩, k4.trans k3.symm⟩
  · obtain ⟨k1, k2, k3⟩ := y_c4 s hs
    exact ⟨k1, 0, by decide, k2, k3, fun i hi => absurd hi (Nat.not_lt_zero _)⟩
/-! ===== all methods ===== -/
theorem y_all : lw_all px_R := ⟨pq_count, pq_hours, pq_room, pq_told, pq_feed, pq_text, pq_force, pq_asks, pq_viewer, pq_put, pq_one, pq_tour, pq_shown, pq_best, pq_when, pq_together, pq_without, pq_paint, pq_tenant, pq_waits, pq_judge, pq_kinds, pq_riches, pq_rooms, pq_laws, pq_film, pq_drawn, pq_odds, pq_image, pq_back, pq_sheet, pq_cell, pq_copy, pq_viewersBy, pq_taken⟩
