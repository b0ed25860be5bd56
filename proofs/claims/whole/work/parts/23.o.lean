/-! ===== together ===== -/
theorem pn_pcn : ∀ n, n < 9 → ∀ s, s < 2 ^ n → pn_pc s ≤ n := by decide +kernel
theorem pn_pc1 : ∀ s, s < 256 → s ≠ 0 → 1 ≤ pn_pc s := by decide +kernel
theorem pn_all : ∀ n, n < 9 → ∀ j, j < n → pb_it (nI (2 ^ n - 1)) j = true := by decide +kernel
/-- the best of what has been looked at -/
def pm_o (P : Nat → Prop) (val : Nat → Nat) (most who : Nat) : Prop := (most = 0 ∧ who = 0 ∧ ∀ s, P s → val s = 0) ∨ (0 < most ∧ P who ∧ val who = most ∧ ∀ s, P s → val s < most ∨ (val s = most ∧ (pn_pc who < pn_pc s ∨ (pn_pc who = pn_pc s ∧ who ≤ s))))
theorem pm_ou {P Q : Nat → Prop} {val : Nat → Nat} {m w m' w' : Nat} (h : pm_o P val m w) (h' : pm_o Q val m' w') (hPQ : ∀ s, P s ↔ Q s) : m = m' ∧ w = w' := by
  rcases h with ⟨a1, a2, a3⟩ | ⟨a1, a2, a3, a4⟩
  · rcases h' with ⟨b1, b2, b3⟩ | ⟨b1, b2, b3, b4⟩
    · omega
    · have := a3 w' ((hPQ w').mpr b2); omega
  · rcases h' with ⟨b1, b2, b3⟩ | ⟨b1, b2, b3, b4⟩
    · have := b3 w ((hPQ w).mp a2); omega
    · have c1 := a4 w' ((hPQ w').mpr b2)
      have c2 := b4 w ((hPQ w).mp a2)
      omega
theorem pm_oc {P Q : Nat → Prop} {val : Nat → Nat} {m w : Nat} (h : pm_o P val m w) (hPQ : ∀ s, P s ↔ Q s) : pm_o Q val m w := by
  rcases h with ⟨a1, a2, a3⟩ | ⟨a1, a2, a3, a4⟩
  · exact Or.inl ⟨a1, a2, fun s hs => a3 s ((hPQ s).mpr hs)⟩
  · exact Or.inr ⟨a1, (hPQ w).mp a2, a3, fun s hs => a4 s ((hPQ s).mpr hs)⟩
/-- one more is looked at -/
theorem pm_oa {P : Nat → Prop} {val : Nat → Nat} {m w s0 : Nat} (h : pm_o P val m w) : (m < val s0 → (∀ s, P s → val s = val s0 → False) → pm_o (fun s => P s ∨ s = s0) val (val s0) s0) ∧ (val s0 < m ∨ (val s0 = m ∧ (m = 0 ∨ pn_pc w < pn_pc s0 ∨ (pn_pc w = pn_pc s0 ∧ w ≤ s0))) → pm_o (fun s => P s ∨ s = s0) val m w) := by
  refine ⟨fun h1 h2 => ?_, fun h1 => ?_⟩
  · refine Or.inr ⟨by omega, Or.inr rfl, rfl, fun s hs => ?_⟩
    rcases hs with hs | rfl
    · rcases h with ⟨a1, a2, a3⟩ | ⟨a1, a2, a3, a4⟩
      · have := a3 s hs; omega
      · have := a4 s hs; omega
    · exact Or.inr ⟨rfl, Or.inr ⟨rfl, Nat.le_refl _⟩⟩
  · rcases h with ⟨a1, a2, a3⟩ | ⟨a1, a2, a3, a4⟩
    · refine Or.inl ⟨a1, a2, fun s hs => ?_⟩
      rcases hs with hs | rfl
      · exact a3 s hs
      · omega
    · refine Or.inr ⟨a1, Or.inl a2, a3, fun s hs => ?_⟩
      rcases hs with hs | rfl
      · exact a4 s hs
      · omega
/-- fewer, at a like offer -/
theorem pm_ob {P : Nat → Prop} {val : Nat → Nat} {m w s0 : Nat} (h : pm_o P val m w) (h0 : 0 < m) (h1 : val s0 = m) (h2 : pn_pc s0 < pn_pc w) : pm_o (fun s => P s ∨ s = s0) val m s0 := by
  rcases h with ⟨a1, a2, a3⟩ | ⟨a1, a2, a3, a4⟩
  · omega
  · refine Or.inr ⟨h0, Or.inr rfl, h1, fun s hs => ?_⟩
    rcases hs with hs | rfl
    · have := a4 s hs; omega
    · exact Or.inr ⟨h1, Or.inr ⟨rfl, Nat.le_refl _⟩⟩
/-- what some offer together -/
def pt_val (T : Nat → Nat → List Int32) (t : Nat) (S : sx_T) (hr : Int32) (W : Nat → Nat) (n nv s : Nat) : Nat := pm_v (pv_ofN T t S (pn_pc s) hr W n) (pb_it (nI s)) nv
theorem pt_vall (T : Nat → Nat → List Int32) (t : Nat) (S : sx_T) (hr : Int32) (W : Nat → Nat) (n : Nat) {nv s : Nat} (hnv : nv < 9) (hs : s < 256) : pt_val T t S hr W n nv s < 2147483648 := by
  unfold pt_val
  rcases pm_bv (f := pv_ofN T t S (pn_pc s) hr W n) (B := pb_it (nI s)) nv (by omega) with ⟨-, a2, -⟩ | ⟨-, -, a3⟩
  · omega
  · rw [a3]; exact (pv_ofE T t S (pn_bc s hs).2 hr W n _).2
/-- the class: all of one crowd -/
theorem pf_to68 {T : Nat → Nat → List Int32} {t nv c w : Nat} {hr : Int32} {W : Nat → Nat} {n : Nat} {S : sx_T} (hnv : nv < 9) (hc : c < 10) (k45 : Int32 → Int32 → Int32 → Int32 → Int32 → sx_T → Option (Int32 × sx_T)) {S' : sx_T} (n1 : sx_now_viewers S' = nI nv) (ho : ∀ j, j < nv → sx_offered S' j = nI (pv_ofN T t S c hr W n j)) : ∀ (d s g m who : Nat), s + d = 2 ^ nv → 1 ≤ s → d < g → m < 2147483648 → pm_o (fun x => 1 ≤ x ∧ x < 2 ^ nv ∧ (pn_pc x < c ∨ (pn_pc x = c ∧ x < s))) (pt_val T t S hr W n nv) m who → ∃ m' who', fx_X11_together_68 k45 g (nI w) (nI (2 ^ nv - 1)) (nI m) (nI who) (nI c) (nI s) S' = k45 (nI w) (nI (2 ^ nv - 1)) (nI m') (nI who') (nI (c + 1)) S' ∧ m' < 2147483648 ∧ pm_o (fun x => 1 ≤ x ∧ x < 2 ^ nv ∧ pn_pc x < c + 1) (pt_val T t S hr W n nv) m' who' := by
  have h256 : 2 ^ nv ≤ 256 := by
    have : 2 ^ nv ≤ 2 ^ 8 := Nat.pow_le_pow_right (by decide) (by omega)
    exact this
  intro d
  induction d with
  | zero =>
    intro s g m who h1 hs1 h2 hm inv
    obtain ⟨e, rfl⟩ : ∃ e, g = e + 1 := ⟨g - 1, by omega⟩
    refine ⟨m, who, ?_, hm, pm_oc inv (fun x => ?_)⟩
    · rw [fx_X11_together_68, if_pos (nI_lt (by omega) (by omega)), show nI c + 1 = nI (c + 1) from (nI_succ c).symm]
    · constructor <;> intro q <;> omega
  | succ d ih =>
    intro s g m who h1 hs1 h2 hm inv
    obtain ⟨e, rfl⟩ : ∃ e, g = e + 1 := ⟨g - 1, by omega⟩
    have e3 : nI s + 1 = nI (s + 1) := (nI_succ s).symm
    have hs : s < 256 := by omega
    obtain ⟨bc, bl⟩ := pn_bc s hs
    rw [fx_X11_together_68, if_neg (nI_nlt (by omega) (by omega)), bc, e3]
    by_cases q : pn_pc s = c
    · rw [if_pos (by rw [q])]
      have mo := pf_most (S := S') (x := nI s) (f := pv_ofN T t S c hr W n) hnv n1 (fun j hj _ => ho j hj) (fun j _ => (pv_ofE T t S (by omega) hr W n j).2)
      have vv : pm_v (pv_ofN T t S c hr W n) (pb_it (nI s)) nv = pt_val T t S hr W n nv s := by unfold pt_val; rw [q]
      have vl := pt_vall T t S hr W n hnv hs
      rw [vv] at mo
      rw [mo, pz_bd]
      obtain ⟨o1, o2⟩ := pm_oa (s0 := s) inv
      have hPQ : ∀ x, ((1 ≤ x ∧ x < 2 ^ nv ∧ (pn_pc x < c ∨ (pn_pc x = c ∧ x < s))) ∨ x = s) ↔ (1 ≤ x ∧ x < 2 ^ nv ∧ (pn_pc x < c ∨ (pn_pc x = c ∧ x < s + 1))) := by
        intro x
        constructor
        · rintro (⟨a, b, c'⟩ | rfl)
          · exact ⟨a, b, by omega⟩
          · exact ⟨hs1, by omega, Or.inr ⟨q, by omega⟩⟩
        · rintro ⟨a, b, c'⟩
          by_cases xs : x = s
          · exact Or.inr xs
          · exact Or.inl ⟨a, b, by omega⟩
      by_cases cmp : pt_val T t S hr W n nv s ≤ m
      · rw [if_pos (nI_le cmp hm)]
        refine ih (s + 1) e m who (by omega) (by omega) (by omega) hm (pm_oc (o2 ?_) hPQ)
        rcases inv with ⟨a1, a2, a3⟩ | ⟨a1, a2, a3, a4⟩
        · right; omega
        · rcases Nat.lt_or_ge (pt_val T t S hr W n nv s) m with l | l
          · left; exact l
          · right; exact ⟨by omega, Or.inr (by omega)⟩
      · rw [if_neg (nI_ge (by omega) vl)]
        refine ih (s + 1) e _ s (by omega) (by omega) (by omega) vl (pm_oc (o1 (by omega) (fun x hx ex => ?_)) hPQ)
        rcases inv with ⟨a1, a2, a3⟩ | ⟨a1, a2, a3, a4⟩
        · have := a3 x hx; omega
        · have := a4 x hx; omega
    · rw [if_neg (fun r => q ((nI_eq (by omega) (by omega)).mp r))]
      exact ih (s + 1) e m who (by omega) (by omega) (by omega) hm (pm_oc inv (fun x => by
        constructor
        · rintro ⟨a, b, c'⟩; exact ⟨a, b, by omega⟩
        · rintro ⟨a, b, c'⟩
          refine ⟨a, b, ?_⟩
          by_cases xs : x = s
          · subst xs; omega
          · omega))
/-- the class: all crowds -/
theorem pf_to45 {T : Nat → Nat → List Int32} {t nv w : Nat} {hr : Int32} {W : Nat → Nat} {n : Nat} {S : sx_T} {M : sm_T} (hnv : nv < 9) (hw : w < 2) (n1 : sx_now_viewers S = nI nv) : ∀ (d c g m who : Nat) (S' : sx_T), c + d = nv + 1 → 1 ≤ c → d < g → m < 2147483648 → px_runH T t hr W n M S S' → pm_o (fun x => 1 ≤ x ∧ x < 2 ^ nv ∧ pn_pc x < c) (pt_val T t S hr W n nv) m who → ∃ m' who' S2, fx_X11_together_45 g (nI w) (nI (2 ^ nv - 1)) (nI m) (nI who) (nI c) S' = some ((if w = 0 then nI who' else nI m'), S2) ∧ px_f px_es px_ea S S2 ∧ pm_o (fun x => 1 ≤ x ∧ x < 2 ^ nv) (pt_val T t S hr W n nv) m' who' := by
  have h256 : 2 ^ nv ≤ 256 := by
    have : 2 ^ nv ≤ 2 ^ 8 := Nat.pow_le_pow_right (by decide) (by omega)
    exact this
  have h1p : 1 ≤ 2 ^ nv := Nat.one_le_two_pow
  intro d
  induction d with
  | zero =>
    intro c g m who S' h1 hc1 h2 hm r inv
    obtain ⟨e, rfl⟩ : ∃ e, g = e + 1 := ⟨g - 1, by omega⟩
    have e1 : sx_now_viewers S' = nI nv := (r.1.1 2 (by decide)).trans n1
    refine ⟨m, who, S', ?_, r.1, pm_oc inv (fun x => ?_)⟩
    · rw [fx_X11_together_45, e1, if_pos (nI_lt (by omega) (by omega))]
      have hw2 : w = 0 ∨ w = 1 := by omega
      rcases hw2 with rfl | rfl
      · rw [if_pos (show nI 0 = 0 from rfl), if_pos rfl]
      · rw [if_neg (show ¬ nI 1 = 0 by decide), if_neg (by decide)]
    · constructor
      · rintro ⟨a, b, -⟩; exact ⟨a, b⟩
      · rintro ⟨a, b⟩
        have := pn_pcn nv hnv x b
        exact ⟨a, b, by omega⟩
  | succ d ih =>
    intro c g m who S' h1 hc1 h2 hm r inv
    obtain ⟨e, rfl⟩ : ∃ e, g = e + 1 := ⟨g - 1, by omega⟩
    have e1 : sx_now_viewers S' = nI nv := (r.1.1 2 (by decide)).trans n1
    obtain ⟨S1, q1, q2, q2', q3, q4⟩ := pf_fillO (some' := nI (2 ^ nv - 1)) (cr := c) hnv (by omega) n1 nv 0 am_fu S' (by omega) (by rw [pf_u]; omega) r
    have q1' : fx_X11_fillOffers (nI (2 ^ nv - 1)) (nI c) S' = some S1 := q1
    have e2 : sx_now_viewers S1 = nI nv := (q2.1.1 2 (by decide)).trans n1
    obtain ⟨m', who', p1, p2, p3⟩ := pf_to68 (T := T) (t := t) (c := c) (w := w) (hr := hr) (W := W) (n := n) (S := S) hnv (by omega) (fun a0 a1 a2 a3 a4 a5 => fx_X11_together_45 e a0 a1 a2 a3 a4 a5) e2 (fun j hj => by
      rw [q4 j (Nat.zero_le j) hj (pn_all nv hnv j hj)]
      exact (pv_ofE T t S (by omega) hr W n j).1) (2 ^ nv - 1) 1 am_fu m who (by omega) (by decide) (by rw [pf_u]; omega) hm (pm_oc inv (fun x => by
      constructor <;> intro q <;> omega))
    obtain ⟨m2, who2, S2, r1, r2, r3⟩ := ih (c + 1) e m' who' S1 (by omega) (by omega) (by omega) p2 q2 p3
    refine ⟨m2, who2, S2, Eq.trans ?_ r1, r2, r3⟩
    rw [fx_X11_together_45, e1, if_neg (nI_nlt (by omega) (by omega)), q1', pz_bd]
    exact p1
/-- the reference: who offers most of some -/
theorem pf_tm118 {nv c s w : Nat} {F : Nat → Nat} (hnv : nv < 9) (hc : c < 9) (k93 : Int32 → Int32 → Int32 → Int32 → Int32 → sm_T → Option (Int32 × sm_T)) {M' : sm_T} (best most few : Int32) (n3 : sm_viewers M' = nI nv) (ho : ∀ j, j < nv → pb_it (nI s) j = true → sm_offerBy M' (9 * j + c) = nI (F j)) (hF : ∀ j, F j < 2147483648) : ∀ (d k g : Nat), k + d = nv → d < g → ∃ g', fx_X12_together_118 k93 g (nI w) best most few (nI s) (nI c) (nI (pm_v F (pb_it (nI s)) k)) (nI k) M' = fx_X12_together_118 k93 (g' + 1) (nI w) best most few (nI s) (nI c) (nI (pm_v F (pb_it (nI s)) nv)) (nI nv) M' := by
  intro d
  induction d with
  | zero =>
    intro k g h1 h2
    obtain ⟨e, rfl⟩ : ∃ e, g = e + 1 := ⟨g - 1, by omega⟩
    have hk : k = nv := by omega
    subst hk
    exact ⟨e, rfl⟩
  | succ d ih =>
    intro k g h1 h2
    obtain ⟨e, rfl⟩ : ∃ e, g = e + 1 := ⟨g - 1, by omega⟩
    obtain ⟨g', hg'⟩ := ih (k + 1) e (by omega) (by omega)
    refine ⟨g', Eq.trans ?_ hg'⟩
    have e3 : nI k + 1 = nI (k + 1) := (nI_succ k).symm
    have ml : pm_v F (pb_it (nI s)) k < 2147483648 := by
      rcases pm_bv (f := F) (B := pb_it (nI s)) k (by omega) with ⟨-, a2, -⟩ | ⟨-, -, a3⟩
      · omega
      · rw [a3]; exact hF _
    rw [fx_X12_together_118, n3, if_neg (nI_ge (by omega) (by omega)), pm_vS]
    have ix : (9 : Int32) * nI k + nI c = nI (9 * k + c) := by
      rw [show (9 : Int32) * nI k = nI (9 * k) from pk_mul 9 k, nI_add]
    rcases pb_tst (nI s) (k := k) (by omega) with ⟨b1, b2⟩ | ⟨b1, b2⟩
    · rw [if_neg (by rw [b1]; decide), b2, if_neg (by decide)]
      unfold fx_X12_together_160 fx_X12_together_161
      rw [if_pos rfl, e3]
    · rw [if_pos b1, b2, if_pos rfl, ix, if_neg (nI_in (show 9 * k + c < 72 by omega) (by decide)), pz_cl (by omega), ho k (by omega) b2]
      by_cases q : F k ≤ pm_v F (pb_it (nI s)) k
      · rw [if_pos (nI_le q ml), if_neg (by omega)]
        unfold fx_X12_together_160 fx_X12_together_161
        rw [if_pos rfl, e3]
      · rw [if_neg (nI_ge (by omega) (hF k)), if_pos (by omega)]
        unfold fx_X12_together_161
        rw [if_neg (by decide), ix, if_neg (nI_in (show 9 * k + c < 72 by omega) (by decide)), pz_cl (by omega), ho k (by omega) b2, e3]
/-- the reference: all of some -/
theorem pf_tm93 {T : Nat → Nat → List Int32} {t nv w : Nat} {hr : Int32} {W : Nat → Nat} {n : Nat} {S : sx_T} (hnv : nv < 9) (hw : w < 2) {M' : sm_T} (n3 : sm_viewers M' = nI nv) (ho : ∀ j c, j < nv → 1 ≤ c → c ≤ nv → sm_offerBy M' (9 * j + c) = nI (pv_ofN T t S c hr W n j)) : ∀ (d s g m who : Nat), s + d = 2 ^ nv → 1 ≤ s → d < g → m < 2147483648 → pm_o (fun x => 1 ≤ x ∧ x < s) (pt_val T t S hr W n nv) m who → who < s → ∃ m' who', fx_X12_together_93 g (nI w) (nI who) (nI m) (nI (if who = 0 then 0 else pn_pc who)) (nI s) M' = some ((if w = 0 then nI who' else nI m'), M') ∧ pm_o (fun x => 1 ≤ x ∧ x < 2 ^ nv) (pt_val T t S hr W n nv) m' who' := by
  have h256 : 2 ^ nv ≤ 256 := by
    have : 2 ^ nv ≤ 2 ^ 8 := Nat.pow_le_pow_right (by decide) (by omega)
    exact this
  intro d
  induction d with
  | zero =>
    intro s g m who h1 hs1 h2 hm inv hws
    obtain ⟨e, rfl⟩ : ∃ e, g = e + 1 := ⟨g - 1, by omega⟩
    have hs : s = 2 ^ nv := by omega
    subst hs
    refine ⟨m, who, ?_, inv⟩
    rw [fx_X12_together_93, n3, (pn_2n nv hnv).1, if_pos (nI_le (Nat.le_refl _) (by omega))]
    have hw2 : w = 0 ∨ w = 1 := by omega
    rcases hw2 with rfl | rfl
    · rw [if_pos (show nI 0 = 0 from rfl), if_pos rfl]
    · rw [if_neg (show ¬ nI 1 = 0 by decide), if_neg (by decide)]
  | succ d ih =>
    intro s g m who h1 hs1 h2 hm inv hws
    obtain ⟨e, rfl⟩ : ∃ e, g = e + 1 := ⟨g - 1, by omega⟩
    have hs : s < 256 := by omega
    have pc := pn_pcn nv hnv s (by omega)
    have pc1 := pn_pc1 s hs (by omega)
    have e3 : nI s + 1 = nI (s + 1) := (nI_succ s).symm
    rw [fx_X12_together_93, n3, (pn_2n nv hnv).1, if_neg (nI_ge (by omega) (by omega)), pf_cr, pz_bd]
    have fl : ∀ j, pv_ofN T t S (pn_pc s) hr W n j < 2147483648 := fun j => (pv_ofE T t S (by omega) hr W n j).2
    obtain ⟨g', hg'⟩ := pf_tm118 (w := w) (F := pv_ofN T t S (pn_pc s) hr W n) (c := pn_pc s) (s := s) hnv (by omega) (fun a0 a1 a2 a3 a4 a5 => fx_X12_together_93 e a0 a1 a2 a3 a4 a5) (nI who) (nI m) (nI (if who = 0 then 0 else pn_pc who)) n3 (fun j hj _ => ho j (pn_pc s) hj pc1 pc) fl nv 0 am_fu (by omega) (by rw [pf_u]; omega)
    have hg : fx_X12_together_118 (fun a0 a1 a2 a3 a4 a5 => fx_X12_together_93 e a0 a1 a2 a3 a4 a5) am_fu (nI w) (nI who) (nI m) (nI (if who = 0 then 0 else pn_pc who)) (nI s) (nI (pn_pc s)) 0 0 M' = _ := hg'
    rw [hg, fx_X12_together_118, n3, if_pos (nI_le (Nat.le_refl nv) (by omega))]
    have vv : pm_v (pv_ofN T t S (pn_pc s) hr W n) (pb_it (nI s)) nv = pt_val T t S hr W n nv s := rfl
    rw [vv]
    have vl := pt_vall T t S hr W n hnv hs
    obtain ⟨o1, o2⟩ := pm_oa (s0 := s) inv
    have hPQ : ∀ x, ((1 ≤ x ∧ x < s) ∨ x = s) ↔ (1 ≤ x ∧ x < s + 1) := by
      intro x
      constructor
      · rintro (⟨a, b⟩ | rfl)
        · exact ⟨a, by omega⟩
        · exact ⟨hs1, by omega⟩
      · rintro ⟨a, b⟩
        by_cases xs : x = s
        · exact Or.inr xs
        · exact Or.inl ⟨a, by omega⟩
    have better : ∀ v9 : Nat, fx_X12_together_220 (fun a0 a1 a2 a3 a4 a5 => fx_X12_together_93 e a0 a1 a2 a3 a4 a5) (nI w) (nI who) (nI m) (nI (if who = 0 then 0 else pn_pc who)) (nI s) (nI (pn_pc s)) (nI v9) M' = fx_X12_together_93 e (nI w) (nI s) (nI v9) (nI (pn_pc s)) (nI (s + 1)) M' := by
      intro v9
      unfold fx_X12_together_220 fx_X12_together_225 fx_X12_together_239
      rw [if_neg (by decide), if_neg (by decide), if_neg (by decide), e3]
    have worse : ∀ v9 : Nat, fx_X12_together_224 (fun a0 a1 a2 a3 a4 a5 => fx_X12_together_93 e a0 a1 a2 a3 a4 a5) (nI w) (nI who) (nI m) (nI (if who = 0 then 0 else pn_pc who)) (nI s) (nI (pn_pc s)) (nI v9) M' = fx_X12_together_93 e (nI w) (nI who) (nI m) (nI (if who = 0 then 0 else pn_pc who)) (nI (s + 1)) M' := by
      intro v9
      unfold fx_X12_together_224 fx_X12_together_225 fx_X12_together_239
      rw [if_pos rfl, if_pos rfl, if_pos rfl, e3]
    have fs : nI (pn_pc s) = nI (if s = 0 then 0 else pn_pc s) := by rw [if_neg (by omega)]
    rw [better, worse, fs]
    have ww : who = 0 → m = 0 := by
      intro w0
      rcases inv with ⟨a1, a2, a3⟩ | ⟨a1, a2, a3, a4⟩
      · exact a1
      · omega
    by_cases c1 : m < pt_val T t S hr W n nv s
    · rw [if_pos (nI_lt c1 vl)]
      exact ih (s + 1) e _ s (by omega) (by omega) (by omega) vl (pm_oc (o1 c1 (fun x hx ex => by
        rcases inv with ⟨a1, a2, a3⟩ | ⟨a1, a2, a3, a4⟩
        · have := a3 x hx; omega
        · have := a4 x hx; omega)) hPQ) (by omega)
    · rw [if_neg (nI_nlt (by omega) hm)]
      by_cases c2 : pt_val T t S hr W n nv s = m
      · rw [if_pos (by rw [c2])]
        by_cases c3 : who = 0
        · rw [if_pos (show nI who ≤ 0 by rw [c3]; decide)]
          exact ih (s + 1) e m who (by omega) (by omega) (by omega) hm (pm_oc (o2 (Or.inr ⟨c2, Or.inl (ww c3)⟩)) hPQ) (by omega)
        · rw [if_neg (show ¬ nI who ≤ 0 from nI_nle (by omega) (by omega))]
          have pcw := (pn_bc who (by omega)).2
          have few : (if who = 0 then 0 else pn_pc who) = pn_pc who := if_neg c3
          rw [few, ← fs]
          by_cases c4 : pn_pc who ≤ pn_pc s
          · rw [if_pos (nI_le c4 (by omega))]
            have := ih (s + 1) e m who (by omega) (by omega) (by omega) hm (pm_oc (o2 (Or.inr ⟨c2, Or.inr (by omega)⟩)) hPQ) (by omega)
            rw [few] at this
            exact this
          · rw [if_neg (nI_ge (by omega) (by omega)), fs, c2]
            have m0 : 0 < m := by
              rcases inv with ⟨a1, a2, a3⟩ | ⟨a1, a2, a3, a4⟩
              · exact absurd a2 c3
              · exact a1
            exact ih (s + 1) e m s (by omega) (by omega) (by omega) hm (pm_oc (pm_ob inv m0 c2 (by omega)) hPQ) (by omega)
      · rw [if_neg (fun q => c2 ((nI_eq vl hm).mp q))]
        exact ih (s + 1) e m who (by omega) (by omega) (by omega) hm (pm_oc (o2 (Or.inl (by omega))) hPQ) (by omega)
/-- the reference: the offers by crowds -/
theorem pf_tm39 {T : Nat → Nat → List Int32} {t nv v w : Nat} {W : Nat → Nat} {n : Nat} {S : sx_T} {M : sm_T} (h : px_Q T S M) (lt : sx_now_law S = nI t) (ht : t < 6) (hnv : nv < 9) (hv : v < nv) (n3 : sm_viewers M = nI nv) (k27 : Int32 → Int32 → sm_T → Option (Int32 × sm_T)) : ∀ (d c g : Nat) (M' : sm_T), c + d = nv + 1 → 1 ≤ c → d < g → pm_runH (sm_hour M) W n M M' → (∀ j b, j < v → 1 ≤ b → b ≤ nv → sm_offerBy M' (9 * j + b) = nI (pv_ofN T t S b (sm_hour M) W n j)) → (∀ b, 1 ≤ b → b < c → sm_offerBy M' (9 * v + b) = nI (pv_ofN T t S b (sm_hour M) W n v)) → ∃ M2, fx_X12_together_39 k27 g (nI w) (nI v) (nI c) M' = k27 (nI w) (nI (v + 1)) M2 ∧ pm_runH (sm_hour M) W n M M2 ∧ (∀ j b, j < v + 1 → 1 ≤ b → b ≤ nv → sm_offerBy M2 (9 * j + b) = nI (pv_ofN T t S b (sm_hour M) W n j)) := by
  intro d
  induction d with
  | zero =>
    intro c g M' h1 hc1 h2 r a b
    obtain ⟨e, rfl⟩ : ∃ e, g = e + 1 := ⟨g - 1, by omega⟩
    have e2 : sm_viewers M' = nI nv := (r.1.1 0 (by decide)).trans n3
    refine ⟨M', ?_, r, fun j x hj hx hx2 => ?_⟩
    · rw [fx_X12_together_39, e2, if_pos (nI_lt (by omega) (by omega)), show nI v + 1 = nI (v + 1) from (nI_succ v).symm]
    · by_cases q : j = v
      · subst q; exact b x hx (by omega)
      · exact a j x (by omega) hx hx2
  | succ d ih =>
    intro c g M' h1 hc1 h2 r a b
    obtain ⟨e, rfl⟩ : ∃ e, g = e + 1 := ⟨g - 1, by omega⟩
    have e2 : sm_viewers M' = nI nv := (r.1.1 0 (by decide)).trans n3
    have hM := pm_CH (cr := c) h lt ht (show v < 8 by omega) (by omega) r
    obtain ⟨M1, y1, y2⟩ := pe_offer hM r.2.2
    obtain ⟨oe, ol⟩ := pv_ofE T t S (cr := c) (by omega) (sm_hour M) W n v
    rw [oe] at y1
    have ob : sm_offerBy M1 = sm_offerBy M' := y2.2 17 (by decide)
    have r1 : pm_runH (sm_hour M) W n M (um_offerBy M1 (upd (sm_offerBy M1) (9 * v + c) (nI (pv_ofN T t S c (sm_hour M) W n v)))) := ⟨pm_fa (j := 17) (S' := M1) (pm_ft r.1 (pm_fm y2 (by decide) (by decide))) (by decide), (y2.1 1 (by decide)).trans r.2.1, (have w2 : pm_W W n M1 := pm_Wf r.2.2 y2; w2)⟩
    obtain ⟨M2, p1, p2, p3⟩ := ih (c + 1) e _ (by omega) (by omega) (by omega) r1 (fun j x hj hx hx2 => by
      show upd (sm_offerBy M1) (9 * v + c) _ (9 * j + x) = _
      rw [pz_un (by omega), ob]
      exact a j x hj hx hx2) (fun x hx hx2 => by
      show upd (sm_offerBy M1) (9 * v + c) _ (9 * v + x) = _
      by_cases q : x = c
      · subst q; exact pz_us
      · rw [pz_un (by omega), ob]
        exact b x hx (by omega))
    refine ⟨M2, Eq.trans ?_ p1, p2, p3⟩
    have ix : (9 : Int32) * nI v + nI c = nI (9 * v + c) := by
      rw [show (9 : Int32) * nI v = nI (9 * v) from pk_mul 9 v, nI_add]
    rw [fx_X12_together_39, e2, if_neg (nI_nlt (by omega) (by omega)), y1, pz_bd]
    show (if 9 * nI v + nI c < 0 ∨ 72 ≤ (9 * nI v + nI c).toNatClampNeg then none else _) = _
    rw [ix, if_neg (nI_in (show 9 * v + c < 72 by omega) (by decide)), pz_cl (by omega), show nI c + 1 = nI (c + 1) from (nI_succ c).symm]
theorem pf_tm27 {T : Nat → Nat → List Int32} {t nv w : Nat} {W : Nat → Nat} {n : Nat} {S : sx_T} {M : sm_T} (h : px_Q T S M) (lt : sx_now_law S = nI t) (ht : t < 6) (hnv : nv < 9) (n3 : sm_viewers M = nI nv) : ∀ (d v g : Nat) (M' : sm_T), v + d = nv → d < g → pm_runH (sm_hour M) W n M M' → (∀ j b, j < v → 1 ≤ b → b ≤ nv → sm_offerBy M' (9 * j + b) = nI (pv_ofN T t S b (sm_hour M) W n j)) → ∃ M2, fx_X12_together_27 g (nI w) (nI v) M' = fx_X12_together_93 am_fu (nI w) (nI 0) (nI 0) (nI 0) (nI 1) M2 ∧ pm_runH (sm_hour M) W n M M2 ∧ (∀ j b, j < nv → 1 ≤ b → b ≤ nv → sm_offerBy M2 (9 * j + b) = nI (pv_ofN T t S b (sm_hour M) W n j)) := by
  intro d
  induction d with
  | zero =>
    intro v g M' h1 h2 r a
    obtain ⟨e, rfl⟩ : ∃ e, g = e + 1 := ⟨g - 1, by omega⟩
    have hv : v = nv := by omega
    subst hv
    have e2 : sm_viewers M' = nI v := (r.1.1 0 (by decide)).trans n3
    refine ⟨M', ?_, r, a⟩
    rw [fx_X12_together_27, e2, if_pos (nI_le (Nat.le_refl v) (by omega))]
    rfl
  | succ d ih =>
    intro v g M' h1 h2 r a
    obtain ⟨e, rfl⟩ : ∃ e, g = e + 1 := ⟨g - 1, by omega⟩
    have e2 : sm_viewers M' = nI nv := (r.1.1 0 (by decide)).trans n3
    obtain ⟨M1, p1, p2, p3⟩ := pf_tm39 (w := w) h lt ht hnv (show v < nv by omega) n3 (fun a0 a1 a2 => fx_X12_together_27 e a0 a1 a2) nv 1 am_fu M' (by omega) (by decide) (by rw [pf_u]; omega) r a (fun b hb hb2 => absurd hb (by omega))
    obtain ⟨M2, q1, q2, q3⟩ := ih (v + 1) e M1 (by omega) (by omega) p2 p3
    refine ⟨M2, Eq.trans ?_ q1, q2, q3⟩
    rw [fx_X12_together_27, e2, if_neg (nI_ge (by omega) (by omega))]
    exact p1
theorem pq_together : lq_together px_R := by
  rintro S M ⟨T, h⟩ a1 a2
  obtain ⟨⟨⟨nv, hnv, n1⟩, n2⟩, nh, hh2⟩ := id h.1
  have n3 : sm_viewers M = nI nv := n2.trans n1
  rcases pq_start h a1 with ⟨M1, e, he, e1, e2, f2⟩ | ⟨s', W, n, t, S1, M1, rfl, hs', e1, e2, f1, f2', ⟨ht, lt⟩, hA, hL, ⟨wl, wy⟩, hW, -, -⟩
  · refine ⟨e, S, M1, ?_, ?_, T, px_Qf h px_fr f2⟩
    · rcases he with rfl | ⟨rfl, -⟩
      · unfold lx_together fx_X11_together; rw [e1, pz_bd]; exact if_neg (show ¬ (-2 : Int32) = 0 by decide)
      · unfold lx_together fx_X11_together; rw [e1, pz_bd]; exact if_neg (show ¬ (-11 : Int32) = 0 by decide)
    · rcases he with rfl | ⟨rfl, -⟩
      · unfold lm_together fx_X12_together; rw [e2, pz_bd]; exact if_neg (show ¬ (-2 : Int32) = 0 by decide)
      · unfold lm_together fx_X12_together; rw [e2, pz_bd]; exact if_neg (show ¬ (-11 : Int32) = 0 by decide)
  have f2 : pm_f pm_es pm_ea M M1 := pm_fm f2' (by decide) (by decide)
  have n1' : sx_now_viewers S1 = nI nv := (f1.1 2 (by decide)).trans n1
  have hq1 : px_Q T S1 M1 := px_Qf h f1 f2
  have z1 : ((0 : Int32), S1).1 = 0 := rfl
  have z2 : ((0 : Int32), M1).1 = 0 := rfl
  rcases pn_w a2 2 1 rfl (by decide) with ⟨q1, q2⟩ | ⟨w, hw, rfl, q1, q2⟩
  · refine ⟨-7, S1, M1, ?_, ?_, T, hq1⟩
    · unfold lx_together fx_X11_together; rw [e1, pz_bd, if_pos z1]; exact if_pos q1
    · unfold lm_together fx_X12_together; rw [e2, pz_bd, if_pos z2]; exact if_pos q2
  have x2 : ¬ fx_X11_within (nI w) 2 = 0 := by rw [show fx_X11_within (nI w) 2 = nI 1 from q1]; decide
  have y2 : ¬ fx_X12_in (nI w) 0 1 = 0 := by rw [show fx_X12_in (nI w) 0 1 = nI 1 from q2]; decide
  have h256 : 2 ^ nv ≤ 256 := by
    have : 2 ^ nv ≤ 2 ^ 8 := Nat.pow_le_pow_right (by decide) (by omega)
    exact this
  have h1p : 1 ≤ 2 ^ nv := Nat.one_le_two_pow
  have rS : px_runH T t (sm_hour M) W n M S S1 := by rw [hh2]; exact ⟨f1, hA, hL⟩
  obtain ⟨m, who, S2, b1, b2, b3⟩ := pf_to45 (w := w) hnv hw n1 nv 1 am_fu 0 0 S1 (by omega) (by decide) (by rw [pf_u]; omega) (by decide) rS (Or.inl ⟨rfl, rfl, fun s hs => by
    have := pn_pc1 s (by omega) (by omega)
    omega⟩)
  obtain ⟨M2, c1, c2, c3⟩ := pf_tm27 (w := w) h lt ht hnv n3 nv 0 am_fu M1 (by omega) (by rw [pf_u]; omega) (pm_rH0 f2' hW) (fun j b hj => absurd hj (Nat.not_lt_zero j))
  have e3 : sm_viewers M2 = nI nv := (c2.1.1 0 (by decide)).trans n3
  obtain ⟨m', who', d1, d2⟩ := pf_tm93 (w := w) hnv hw e3 c3 (2 ^ nv - 1) 1 am_fu 0 0 (by omega) (by decide) (by rw [pf_u]; omega) (by decide) (Or.inl ⟨rfl, rfl, fun s hs => by omega⟩) (by decide)
  obtain ⟨rfl, rfl⟩ := pm_ou b3 d2 (fun _ => Iff.rfl)
  refine ⟨(if w = 0 then nI who else nI m), S2, M2, ?_, ?_, T, px_Qf h b2 (pm_rHb c2 rfl)⟩
  · unfold lx_together fx_X11_together
    rw [e1, pz_bd, if_pos z1, if_neg x2]
    show fx_X11_together_45 am_fu (nI w) (((1 : Int32) <<< ((sx_now_viewers S1) &&& 31)) - (1 : Int32)) 0 0 1 S1 = _
    rw [n1', (pn_2n nv hnv).1, show nI (2 ^ nv) - 1 = nI (2 ^ nv - 1) from pz_sub (b := 1) h1p]
    exact b1
  · unfold lm_together fx_X12_together
    rw [e2, pz_bd, if_pos z2, if_neg y2]
    exact c1.trans d1
