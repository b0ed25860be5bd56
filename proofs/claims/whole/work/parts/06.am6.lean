theorem am_rg {c : Prop} [Decidable c] {α : Type} {A : Option α} {r : α} (h : (if c then none else A) = some r) : ¬ c ∧ A = some r := by
  by_cases hc : c
  · rw [if_pos hc] at h
    cases h
  · rw [if_neg hc] at h
    exact ⟨hc, h⟩
section
variable {M : am_M} {g : am_g} {kn : Nat × Nat} {pc pc' : Nat} {ls : List (Option Value)} {st : List Value} {ws ws' : am_W}
theorem am_aret {d mc ms q : Nat} {r : Option Value} {wF : am_W} {cn : String} (dd : decode M.2.1 pc = .ok (.areturn, 1)) (hret : M.2.2.2 = some (.object cn)) (hr : r = some (.ref q)) (hw : ws = wF) : am_G M (none, d, mc, ms, r, wF) (mc, ms) pc ls [.ref q] ws := by
  subst hr; subst hw
  intro X p l e s m args below meth c E H locs lsA hP hS hk hL
  exact W.aret (hlocks := E.2.2.2.2.2.2.1) E.1 E.2.1 (E.2.2.2.1.trans hret) (Or.inl ⟨_, rfl⟩) (Or.inr ⟨_, rfl⟩) (fun t ht hW => ⟨⟨rfl, by rw [ht]; exact hP⟩, hS.F ht⟩) hS.2.2 dd
theorem am_lcmp {x y : Int64} (d : decode M.2.1 pc = .ok (.lcmp, 1)) (hp : pc + 1 = pc') (k : am_G M g kn pc' ls (.int (lg_cmp x y) :: st) ws) : am_G M g kn pc ls (.long y :: .long x :: st) ws := by
  subst hp
  intro X p l e s m args below meth c E H locs lsA hP hS hk hL
  exact W.lcmp E.1 E.2.1 d (k X p l e s m args below meth c E H locs lsA hP hS hk hL)
end
