/-! ===== rules in the shape that the walks take (methods that make no cells) ===== -/
def am_fu : Nat := 1000000
def am_let {α β : Sort _} (a : α) (f : α → β) : β := f a
def am_bd {α β : Type} (a : Option α) (f : α → Option β) : Option β := match a with
  | none => none
  | some x => f x
theorem am_bd_s {α β : Type} {a : Option α} {f : α → Option β} {r : β} (h : am_bd a f = some r) : ∃ x, a = some x ∧ f x = some r := by
  cases a with
  | none => cases h
  | some x => exact ⟨x, rfl, h⟩
theorem am_let_s {α β : Type} {a : α} {f : α → β} {r : β} (h : am_let a f = r) : ∃ x, a = x ∧ f x = r := ⟨a, rfl, h⟩
/-- a row's number at a place, 0 outside; a row with a number put -/
def am_rd (n : Nat) (f : Nat → Int32) (i : Int32) : Int32 := if i < 0 then 0 else if nI n ≤ i then 0 else f i.toNatClampNeg
def am_up (n : Nat) (f : Nat → Int32) (i : Int32) (x : Int32) : Nat → Int32 := if i < 0 then f else if nI n ≤ i then f else upd f i.toNatClampNeg x
theorem am_inI {i : Int32} {n : Nat} (hn : n < 2147483648) (h0 : ¬ i < 0) (h1 : ¬ nI n ≤ i) : vp_in i n := by
  obtain ⟨j, hj, rfl⟩ := nI_of h0
  have h2 : j < n := by
    rcases Nat.lt_or_ge j n with q | q
    · exact q
    · exact absurd (nI_le q hj) h1
  exact vp_in_nI h2 hn
/-- fewer locals -/
def am_mask : List Bool → List (Option Value) → List (Option Value)
  | true :: bs, _ :: ls => none :: am_mask bs ls
  | false :: bs, v :: ls => v :: am_mask bs ls
  | _, ls => ls
theorem am_mask_len : ∀ (bs : List Bool) (ls : List (Option Value)), (am_mask bs ls).length = ls.length
  | [], ls => rfl
  | b :: bs, [] => by cases b <;> rfl
  | b :: bs, v :: ls => by
    have := am_mask_len bs ls
    cases b <;> simp [am_mask, this]
theorem am_mask_at : ∀ (bs : List Bool) (ls : List (Option Value)) (i : Nat) (v : Value), (am_mask bs ls)[i]? = some (some v) → ls[i]? = some (some v)
  | [], ls, i, v, h => h
  | b :: bs, [], i, v, h => by cases b <;> exact h
  | b :: bs, w :: ls, 0, v, h => by
    cases b
    · exact h
    · simp [am_mask] at h
  | b :: bs, w :: ls, i + 1, v, h => by
    cases b
    · exact am_mask_at bs ls i v (by simpa [am_mask] using h)
    · exact am_mask_at bs ls i v (by simpa [am_mask] using h)
section
variable {M : am_M} {g : am_g} {kn : Nat × Nat} {pc pc' : Nat} {ls ls' : List (Option Value)} {st st0 st' : List Value} {ws w1 ws' : am_W}
theorem am_weak (bs : List Bool) (h : am_mask bs ls = ls') (k : am_G M g kn pc ls' st ws) : am_G M g kn pc ls st ws := by
  subst h
  intro X p l e s m args below meth c E H locs lsA hP hS hk hL
  exact k X p l e s m args below meth c E H locs lsA hP hS hk ⟨(am_mask_len bs ls).trans hL.1, hL.2.1, hL.2.2.1, fun i v h => hL.2.2.2 i v (am_mask_at bs ls i v h)⟩
end
def am_rb (d' ml dd : Nat) : Bool := Nat.ble (d' + 1) dd && Nat.ble (8 + (ml + 11) + 60 * d') (60 * dd)
theorem am_rb_s {d' ml dd : Nat} (h : am_rb d' ml dd = true) : d' + 1 ≤ dd ∧ 8 + (ml + 11) + 60 * d' ≤ 60 * dd := by
  simp only [am_rb, Bool.and_eq_true] at h
  exact ⟨Nat.le_of_ble_eq_true h.1, Nat.le_of_ble_eq_true h.2⟩
section
variable {M : am_M} {dd : Nat} {r0 : Option Value} {wF : am_W} {pc pc' : Nat} {ls ls' : List (Option Value)} {st st0 st' : List Value} {ws w1 ws' : am_W}
theorem am_cS {idx n d' : Nat} (rest as : List Value) {M' : am_M} {r : Option Value} (d : decode M.2.1 pc = .ok (.invokestatic idx, 3)) (hs : am_cs M.1.cls idx M' n) (hT : am_T M' d' 0 0 as ws r w1) (hn : as.length = n) (hst : as.reverse ++ rest = st0) (hst' : r.toList ++ rest = st') (hcat : Nat.ble (rest.map fun v => v.category).sum 8 = true)
    (hroom : am_rb d' M'.2.2.1 dd = true) (hp : pc + 3 = pc') (k : am_G M (none, dd, 0, 0, r0, wF) (0, 0) pc' ls st' w1) : am_G M (none, dd, 0, 0, r0, wF) (0, 0) pc ls st0 ws := by
  subst hst'
  exact am_callS rest as d hs hT hn hst (Nat.le_of_ble_eq_true hcat) ⟨am_rb_s hroom, Nat.le_refl 0, Nat.le_refl 0⟩ rfl hp k
theorem am_cSN {idx n d' : Nat} {host : String} (rest as : List Value) {M' : am_M} {r : Option Value} (d : decode M.2.1 pc = .ok (.invokestatic idx, 3)) (hs : am_csN M.1.cls idx M' n host) (hT : am_T M' d' 0 0 as ws r w1) (hn : as.length = n) (hst : as.reverse ++ rest = st0) (hst' : r.toList ++ rest = st') (hcat : Nat.ble (rest.map fun v => v.category).sum 8 = true)
    (hroom : am_rb d' M'.2.2.1 dd = true) (hp : pc + 3 = pc') (k : am_G M (none, dd, 0, 0, r0, wF) (0, 0) pc' ls st' w1) : am_G M (none, dd, 0, 0, r0, wF) (0, 0) pc ls st0 ws := by
  subst hst'
  exact am_callSN rest as d hs hT hn hst (Nat.le_of_ble_eq_true hcat) ⟨am_rb_s hroom, Nat.le_refl 0, Nat.le_refl 0⟩ rfl hp k
theorem am_cV {idx n d' q ci : Nat} {fs : List Value} {q0 : vw_C} (rest as : List Value) {M' : am_M} {r : Option Value} (d : decode M.2.1 pc = .ok (.invokevirtual idx, 3)) (hs : am_cvt M.1.cls idx M' n) (hT : am_T M' d' 0 0 (.ref q :: as) ws r w1) (hn : as.length = n) (hst : as.reverse ++ (.ref q :: rest) = st0) (hst' : r.toList ++ rest = st') (hc : ws[q]? = some (.inr (.inr (ci, fs)))) (hcl : vwCl[ci]? = some q0) (hqc : q0.1 = M'.1.cls) (hcat : Nat.ble (rest.map fun v => v.category).sum 8 = true)
    (hroom : am_rb d' M'.2.2.1 dd = true) (hp : pc + 3 = pc') (k : am_G M (none, dd, 0, 0, r0, wF) (0, 0) pc' ls st' w1) : am_G M (none, dd, 0, 0, r0, wF) (0, 0) pc ls st0 ws := by
  subst hst'
  exact am_callV rest as d hs hT hn hst hc hcl hqc (Nat.le_of_ble_eq_true hcat) ⟨am_rb_s hroom, Nat.le_refl 0, Nat.le_refl 0⟩ rfl hp k
theorem am_tsAt {dflt lo hi : Int} {offs : Array Int} {len : Nat} {x : Int32} {off : Int} {g : am_g} {kn : Nat × Nat} (v : Int32) (tgt : Nat) (d : decode M.2.1 pc = .ok (.tableswitch dflt lo hi offs, len)) (h : x = v) (h1 : ¬ v.toInt < lo) (h2 : ¬ hi < v.toInt) (ho : offs[(v.toInt - lo).toNat]? = some off) (ht : (pc : Int) + off = (tgt : Int)) (k : am_G M g kn tgt ls st ws) : am_G M g kn pc ls (.int x :: st) ws := by
  subst h
  exact am_tsIn tgt d h1 h2 ho ht k
theorem am_tsOff {dflt lo hi : Int} {offs : Array Int} {len : Nat} {x : Int32} {g : am_g} {kn : Nat × Nat} (N : Nat) (tgt : Nat) (d : decode M.2.1 pc = .ok (.tableswitch dflt lo hi offs, len)) (hN : hi = lo + N - 1) (h : ∀ i : Nat, i < N → ¬ x = Int32.ofInt (lo + i)) (ht : (pc : Int) + dflt = (tgt : Int)) (k : am_G M g kn tgt ls st ws) : am_G M g kn pc ls (.int x :: st) ws := by
  refine am_tsOut tgt d ?_ ht k
  rcases Classical.em (x.toInt < lo) with q | q
  · exact Or.inl q
  · rcases Classical.em (hi < x.toInt) with q2 | q2
    · exact Or.inr q2
    · refine absurd ?_ (h (x.toInt - lo).toNat (by omega))
      have e : lo + ((x.toInt - lo).toNat : Int) = x.toInt := by omega
      rw [e, Int32.ofInt_toInt]
end
theorem kc_m1 : Int32.ofInt (-1) = (-1) := by decide
theorem kc_0 : Int32.ofInt 0 = 0 := by decide
theorem kc_1 : Int32.ofInt 1 = 1 := by decide
theorem kc_2 : Int32.ofInt 2 = 2 := by decide
theorem kc_3 : Int32.ofInt 3 = 3 := by decide
theorem kc_4 : Int32.ofInt 4 = 4 := by decide
theorem kc_5 : Int32.ofInt 5 = 5 := by decide
theorem kb_m100 : (Int8.ofInt (-100)).toInt32 = (-100) := by decide
theorem kb_m99 : (Int8.ofInt (-99)).toInt32 = (-99) := by decide
theorem kb_m61 : (Int8.ofInt (-61)).toInt32 = (-61) := by decide
theorem kb_m60 : (Int8.ofInt (-60)).toInt32 = (-60) := by decide
theorem kb_m59 : (Int8.ofInt (-59)).toInt32 = (-59) := by decide
theorem kb_m45 : (Int8.ofInt (-45)).toInt32 = (-45) := by decide
theorem kb_m43 : (Int8.ofInt (-43)).toInt32 = (-43) := by decide
theorem kb_m42 : (Int8.ofInt (-42)).toInt32 = (-42) := by decide
theorem kb_m41 : (Int8.ofInt (-41)).toInt32 = (-41) := by decide
theorem kb_m40 : (Int8.ofInt (-40)).toInt32 = (-40) := by decide
theorem kb_m15 : (Int8.ofInt (-15)).toInt32 = (-15) := by decide
theorem kb_m14 : (Int8.ofInt (-14)).toInt32 = (-14) := by decide
theorem kb_m13 : (Int8.ofInt (-13)).toInt32 = (-13) := by decide
theorem kb_m12 : (Int8.ofInt (-12)).toInt32 = (-12) := by decide
theorem kb_m11 : (Int8.ofInt (-11)).toInt32 = (-11) := by decide
theorem kb_m10 : (Int8.ofInt (-10)).toInt32 = (-10) := by decide
theorem kb_m9 : (Int8.ofInt (-9)).toInt32 = (-9) := by decide
theorem kb_m8 : (Int8.ofInt (-8)).toInt32 = (-8) := by decide
theorem kb_m7 : (Int8.ofInt (-7)).toInt32 = (-7) := by decide
theorem kb_m6 : (Int8.ofInt (-6)).toInt32 = (-6) := by decide
theorem kb_m5 : (Int8.ofInt (-5)).toInt32 = (-5) := by decide
theorem kb_m4 : (Int8.ofInt (-4)).toInt32 = (-4) := by decide
theorem kb_m3 : (Int8.ofInt (-3)).toInt32 = (-3) := by decide
theorem kb_m2 : (Int8.ofInt (-2)).toInt32 = (-2) := by decide
theorem kb_6 : (Int8.ofInt 6).toInt32 = 6 := by decide
theorem kb_7 : (Int8.ofInt 7).toInt32 = 7 := by decide
theorem kb_8 : (Int8.ofInt 8).toInt32 = 8 := by decide
theorem kb_9 : (Int8.ofInt 9).toInt32 = 9 := by decide
theorem kb_10 : (Int8.ofInt 10).toInt32 = 10 := by decide
theorem kb_11 : (Int8.ofInt 11).toInt32 = 11 := by decide
theorem kb_12 : (Int8.ofInt 12).toInt32 = 12 := by decide
theorem kb_13 : (Int8.ofInt 13).toInt32 = 13 := by decide
theorem kb_14 : (Int8.ofInt 14).toInt32 = 14 := by decide
theorem kb_15 : (Int8.ofInt 15).toInt32 = 15 := by decide
theorem kb_16 : (Int8.ofInt 16).toInt32 = 16 := by decide
theorem kb_17 : (Int8.ofInt 17).toInt32 = 17 := by decide
theorem kb_18 : (Int8.ofInt 18).toInt32 = 18 := by decide
theorem kb_19 : (Int8.ofInt 19).toInt32 = 19 := by decide
theorem kb_20 : (Int8.ofInt 20).toInt32 = 20 := by decide
theorem kb_21 : (Int8.ofInt 21).toInt32 = 21 := by decide
theorem kb_22 : (Int8.ofInt 22).toInt32 = 22 := by decide
theorem kb_23 : (Int8.ofInt 23).toInt32 = 23 := by decide
theorem kb_24 : (Int8.ofInt 24).toInt32 = 24 := by decide
theorem kb_25 : (Int8.ofInt 25).toInt32 = 25 := by decide
theorem kb_26 : (Int8.ofInt 26).toInt32 = 26 := by decide
theorem kb_27 : (Int8.ofInt 27).toInt32 = 27 := by decide
theorem kb_28 : (Int8.ofInt 28).toInt32 = 28 := by decide
theorem kb_29 : (Int8.ofInt 29).toInt32 = 29 := by decide
theorem kb_30 : (Int8.ofInt 30).toInt32 = 30 := by decide
theorem kb_31 : (Int8.ofInt 31).toInt32 = 31 := by decide
theorem kb_32 : (Int8.ofInt 32).toInt32 = 32 := by decide
theorem kb_33 : (Int8.ofInt 33).toInt32 = 33 := by decide
theorem kb_34 : (Int8.ofInt 34).toInt32 = 34 := by decide
theorem kb_35 : (Int8.ofInt 35).toInt32 = 35 := by decide
theorem kb_36 : (Int8.ofInt 36).toInt32 = 36 := by decide
theorem kb_37 : (Int8.ofInt 37).toInt32 = 37 := by decide
theorem kb_38 : (Int8.ofInt 38).toInt32 = 38 := by decide
theorem kb_39 : (Int8.ofInt 39).toInt32 = 39 := by decide
theorem kb_40 : (Int8.ofInt 40).toInt32 = 40 := by decide
theorem kb_41 : (Int8.ofInt 41).toInt32 = 41 := by decide
theorem kb_42 : (Int8.ofInt 42).toInt32 = 42 := by decide
theorem kb_43 : (Int8.ofInt 43).toInt32 = 43 := by decide
theorem kb_44 : (Int8.ofInt 44).toInt32 = 44 := by decide
theorem kb_45 : (Int8.ofInt 45).toInt32 = 45 := by decide
theorem kb_46 : (Int8.ofInt 46).toInt32 = 46 := by decide
theorem kb_47 : (Int8.ofInt 47).toInt32 = 47 := by decide
theorem kb_48 : (Int8.ofInt 48).toInt32 = 48 := by decide
theorem kb_49 : (Int8.ofInt 49).toInt32 = 49 := by decide
theorem kb_50 : (Int8.ofInt 50).toInt32 = 50 := by decide
theorem kb_51 : (Int8.ofInt 51).toInt32 = 51 := by decide
theorem kb_52 : (Int8.ofInt 52).toInt32 = 52 := by decide
theorem kb_53 : (Int8.ofInt 53).toInt32 = 53 := by decide
theorem kb_54 : (Int8.ofInt 54).toInt32 = 54 := by decide
theorem kb_55 : (Int8.ofInt 55).toInt32 = 55 := by decide
theorem kb_56 : (Int8.ofInt 56).toInt32 = 56 := by decide
theorem kb_57 : (Int8.ofInt 57).toInt32 = 57 := by decide
theorem kb_58 : (Int8.ofInt 58).toInt32 = 58 := by decide
theorem kb_59 : (Int8.ofInt 59).toInt32 = 59 := by decide
theorem kb_60 : (Int8.ofInt 60).toInt32 = 60 := by decide
theorem kb_61 : (Int8.ofInt 61).toInt32 = 61 := by decide
theorem kb_62 : (Int8.ofInt 62).toInt32 = 62 := by decide
theorem kb_63 : (Int8.ofInt 63).toInt32 = 63 := by decide
theorem kb_64 : (Int8.ofInt 64).toInt32 = 64 := by decide
theorem kb_65 : (Int8.ofInt 65).toInt32 = 65 := by decide
theorem kb_66 : (Int8.ofInt 66).toInt32 = 66 := by decide
theorem kb_67 : (Int8.ofInt 67).toInt32 = 67 := by decide
theorem kb_68 : (Int8.ofInt 68).toInt32 = 68 := by decide
theorem kb_69 : (Int8.ofInt 69).toInt32 = 69 := by decide
theorem kb_70 : (Int8.ofInt 70).toInt32 = 70 := by decide
theorem kb_71 : (Int8.ofInt 71).toInt32 = 71 := by decide
theorem kb_72 : (Int8.ofInt 72).toInt32 = 72 := by decide
theorem kb_73 : (Int8.ofInt 73).toInt32 = 73 := by decide
theorem kb_74 : (Int8.ofInt 74).toInt32 = 74 := by decide
theorem kb_75 : (Int8.ofInt 75).toInt32 = 75 := by decide
theorem kb_76 : (Int8.ofInt 76).toInt32 = 76 := by decide
theorem kb_77 : (Int8.ofInt 77).toInt32 = 77 := by decide
theorem kb_78 : (Int8.ofInt 78).toInt32 = 78 := by decide
theorem kb_79 : (Int8.ofInt 79).toInt32 = 79 := by decide
theorem kb_80 : (Int8.ofInt 80).toInt32 = 80 := by decide
theorem kb_81 : (Int8.ofInt 81).toInt32 = 81 := by decide
theorem kb_82 : (Int8.ofInt 82).toInt32 = 82 := by decide
theorem kb_83 : (Int8.ofInt 83).toInt32 = 83 := by decide
theorem kb_84 : (Int8.ofInt 84).toInt32 = 84 := by decide
theorem kb_85 : (Int8.ofInt 85).toInt32 = 85 := by decide
theorem kb_86 : (Int8.ofInt 86).toInt32 = 86 := by decide
theorem kb_87 : (Int8.ofInt 87).toInt32 = 87 := by decide
theorem kb_88 : (Int8.ofInt 88).toInt32 = 88 := by decide
theorem kb_89 : (Int8.ofInt 89).toInt32 = 89 := by decide
theorem kb_90 : (Int8.ofInt 90).toInt32 = 90 := by decide
theorem kb_91 : (Int8.ofInt 91).toInt32 = 91 := by decide
theorem kb_92 : (Int8.ofInt 92).toInt32 = 92 := by decide
theorem kb_93 : (Int8.ofInt 93).toInt32 = 93 := by decide
theorem kb_94 : (Int8.ofInt 94).toInt32 = 94 := by decide
theorem kb_95 : (Int8.ofInt 95).toInt32 = 95 := by decide
theorem kb_96 : (Int8.ofInt 96).toInt32 = 96 := by decide
theorem kb_97 : (Int8.ofInt 97).toInt32 = 97 := by decide
theorem kb_99 : (Int8.ofInt 99).toInt32 = 99 := by decide
theorem kb_100 : (Int8.ofInt 100).toInt32 = 100 := by decide
theorem kb_101 : (Int8.ofInt 101).toInt32 = 101 := by decide
theorem kb_102 : (Int8.ofInt 102).toInt32 = 102 := by decide
theorem kb_103 : (Int8.ofInt 103).toInt32 = 103 := by decide
theorem kb_104 : (Int8.ofInt 104).toInt32 = 104 := by decide
theorem kb_105 : (Int8.ofInt 105).toInt32 = 105 := by decide
theorem kb_107 : (Int8.ofInt 107).toInt32 = 107 := by decide
theorem kb_108 : (Int8.ofInt 108).toInt32 = 108 := by decide
theorem kb_109 : (Int8.ofInt 109).toInt32 = 109 := by decide
theorem kb_110 : (Int8.ofInt 110).toInt32 = 110 := by decide
theorem kb_111 : (Int8.ofInt 111).toInt32 = 111 := by decide
theorem kb_112 : (Int8.ofInt 112).toInt32 = 112 := by decide
theorem kb_114 : (Int8.ofInt 114).toInt32 = 114 := by decide
theorem kb_115 : (Int8.ofInt 115).toInt32 = 115 := by decide
theorem kb_116 : (Int8.ofInt 116).toInt32 = 116 := by decide
theorem kb_117 : (Int8.ofInt 117).toInt32 = 117 := by decide
theorem kb_119 : (Int8.ofInt 119).toInt32 = 119 := by decide
theorem kb_122 : (Int8.ofInt 122).toInt32 = 122 := by decide
theorem ks_m1000 : (Int16.ofInt (-1000)).toInt32 = (-1000) := by decide
theorem ks_160 : (Int16.ofInt 160).toInt32 = 160 := by decide
theorem ks_161 : (Int16.ofInt 161).toInt32 = 161 := by decide
theorem ks_200 : (Int16.ofInt 200).toInt32 = 200 := by decide
theorem ks_255 : (Int16.ofInt 255).toInt32 = 255 := by decide
theorem ks_256 : (Int16.ofInt 256).toInt32 = 256 := by decide
theorem ks_511 : (Int16.ofInt 511).toInt32 = 511 := by decide
theorem ks_600 : (Int16.ofInt 600).toInt32 = 600 := by decide
theorem ks_720 : (Int16.ofInt 720).toInt32 = 720 := by decide
theorem ks_960 : (Int16.ofInt 960).toInt32 = 960 := by decide
theorem ks_999 : (Int16.ofInt 999).toInt32 = 999 := by decide
theorem ks_1000 : (Int16.ofInt 1000).toInt32 = 1000 := by decide
theorem ks_1200 : (Int16.ofInt 1200).toInt32 = 1200 := by decide
theorem ks_7776 : (Int16.ofInt 7776).toInt32 = 7776 := by decide
theorem ks_9999 : (Int16.ofInt 9999).toInt32 = 9999 := by decide
theorem ks_10000 : (Int16.ofInt 10000).toInt32 = 10000 := by decide
theorem kl_0 : Int64.ofNat ((0 : Fin 2) : Nat) = 0 := by decide
theorem kl_1 : Int64.ofNat ((1 : Fin 2) : Nat) = 1 := by decide
