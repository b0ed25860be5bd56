/-! ===== waits ===== -/
theorem pq_chS {n x y : Nat} {l : List Nat} (h : pq_ch n (x :: y :: l) = true) : (∃ Q, nx_N n (pq_de n x) = some Q ∧ ∀ i, i < n → Q i = pq_de n y i) ∧ pq_ch n (y :: l) = true := by
  have h' : (pq_sb n x y && pq_ch n (y :: l)) = true := h
  rw [Bool.and_eq_true] at h'
  refine ⟨?_, h'.2⟩
  have hs := h'.1
  unfold pq_sb at hs
  cases e : nx_N n (pq_de n x) with
  | none => rw [e] at hs; cases hs
  | some Q =>
    rw [e] at hs
    refine ⟨Q, rfl, fun i hi => ?_⟩
    have := List.all_eq_true.mp hs i (List.mem_range.mpr hi)
    exact Nat.eq_of_beq_eq_true this
theorem pq_chL {n x : Nat} (h : pq_ch n [x] = true) : nx_N n (pq_de n x) = none := by
  have h' : (pq_la n x && true) = true := h
  rw [Bool.and_true] at h'
  unfold pq_la at h'
  cases e : nx_N n (pq_de n x) with
  | none => rfl
  | some Q => rw [e] at h'; cases h'
theorem pq_del {n x i : Nat} (hn : 0 < n) : pq_de n x i < n := Nat.mod_lt _ hn
/-- who is taken: so many are still to come, the most so far -/
def pt_tk2 (F : Nat → Nat) (P : Nat → Nat) (n sk : Nat) : Nat → Int32 → Nat
  | 0, _ => P (n - 1)
  | d + 1, a => if n - (d + 1) < sk then pt_tk2 F P n sk d (if nI (F (P (n - (d + 1)))) ≤ a then a else nI (F (P (n - (d + 1))))) else if nI (F (P (n - (d + 1)))) ≤ a then pt_tk2 F P n sk d a else P (n - (d + 1))
theorem pf_taX {F P : Nat → Nat} {n sk : Nat} {S : sx_T} (hn : n < 7) (hn1 : 0 < n) (hsk : sk < n) (hO : px_O n P S) (ho : ∀ i, i < n → sx_offered S (P i) = nI (F (P i))) : ∀ (d g : Nat) (a : Int32), d ≤ n → d < g → fx_X11_takenOfOrder_5 S g (nI n) (nI sk) a (nI (n - d)) = some (nI (pt_tk2 F P n sk d a)) ∧ ∃ i, i < n ∧ pt_tk2 F P n sk d a = P i := by
  intro d
  induction d with
  | zero =>
    intro g a h1 h2
    obtain ⟨e, rfl⟩ : ∃ e, g = e + 1 := ⟨g - 1, by omega⟩
    refine ⟨?_, n - 1, by omega, rfl⟩
    rw [fx_X11_takenOfOrder_5, Nat.sub_zero, if_pos (nI_le (Nat.le_refl n) (by omega)), show nI n - 1 = nI (n - 1) from pz_sub (b := 1) hn1, pz_rd (by omega) (by decide), (hO (n - 1) (by omega)).2]
    rfl
  | succ d ih =>
    intro g a h1 h2
    obtain ⟨e, rfl⟩ : ∃ e, g = e + 1 := ⟨g - 1, by omega⟩
    have es : pt_tk2 F P n sk (d + 1) a = if n - (d + 1) < sk then pt_tk2 F P n sk d (if nI (F (P (n - (d + 1)))) ≤ a then a else nI (F (P (n - (d + 1))))) else if nI (F (P (n - (d + 1)))) ≤ a then pt_tk2 F P n sk d a else P (n - (d + 1)) := rfl
    have hi : n - (d + 1) < n := by omega
    have e3 : nI (n - (d + 1)) + 1 = nI (n - d) := by rw [show n - d = n - (d + 1) + 1 by omega]; exact (nI_succ _).symm
    obtain ⟨p6, po⟩ := hO _ hi
    have oo := ho _ hi
    have rd : am_rd 8 (sx_offered S) (am_rd 6 (sx_order S) (nI (n - (d + 1)))) = nI (F (P (n - (d + 1)))) := by
      rw [pz_rd (by omega) (by decide), po, pz_rd (by omega) (by decide), oo]
    have mx : ∀ x : Int32, am_mx a x = if x ≤ a then a else x := by
      intro x
      unfold am_mx
      by_cases c : x ≤ a
      · rw [if_pos c, if_neg (Int32.not_lt.mpr c)]
      · rw [if_neg c, if_pos (Int32.not_le.mp c)]
    rw [fx_X11_takenOfOrder_5, if_neg (nI_ge (by omega) (by omega)), rd, mx, e3, es]
    by_cases c : n - (d + 1) < sk
    · rw [if_pos (nI_lt c (by omega)), if_pos c]
      exact ih e _ (by omega) (by omega)
    · rw [if_neg (nI_nlt (by omega) (by omega)), if_neg c]
      by_cases c2 : nI (F (P (n - (d + 1)))) ≤ a
      · rw [if_pos c2, if_pos c2, if_pos c2]
        exact ih e _ (by omega) (by omega)
      · rw [if_neg c2, if_neg c2, pz_rd (by omega) (by decide), po]
        exact ⟨rfl, n - (d + 1), hi, rfl⟩
theorem pf_taM {F P : Nat → Nat} {n sk : Nat} {M : sm_T} (hn : n < 7) (hn1 : 0 < n) (hsk : sk < n) (hO : ∀ i, i < n → P i < 6 ∧ sm_comer M i = nI (P i)) (ho : ∀ i, i < n → sm_offerAlone M (P i) = nI (F (P i))) : ∀ (d g : Nat) (a : Int32), d ≤ n → d < g → fx_X12_takenOf_5 M g (nI n) (nI sk) a (nI (n - d)) = some (nI (F (pt_tk2 F P n sk d a))) := by
  intro d
  induction d with
  | zero =>
    intro g a h1 h2
    obtain ⟨e, rfl⟩ : ∃ e, g = e + 1 := ⟨g - 1, by omega⟩
    obtain ⟨p6, po⟩ := hO (n - 1) (by omega)
    rw [fx_X12_takenOf_5, Nat.sub_zero, if_pos (nI_le (Nat.le_refl n) (by omega)), show nI n - 1 = nI (n - 1) from pz_sub (b := 1) hn1, if_neg (nI_in (show n - 1 < 6 by omega) (by decide)), pz_cl (by omega), po, if_neg (nI_in (show P (n - 1) < 8 by omega) (by decide)), pz_cl (by omega), ho (n - 1) (by omega)]
    rfl
  | succ d ih =>
    intro g a h1 h2
    obtain ⟨e, rfl⟩ : ∃ e, g = e + 1 := ⟨g - 1, by omega⟩
    have es : pt_tk2 F P n sk (d + 1) a = if n - (d + 1) < sk then pt_tk2 F P n sk d (if nI (F (P (n - (d + 1)))) ≤ a then a else nI (F (P (n - (d + 1))))) else if nI (F (P (n - (d + 1)))) ≤ a then pt_tk2 F P n sk d a else P (n - (d + 1)) := rfl
    have hi : n - (d + 1) < n := by omega
    have e3 : nI (n - (d + 1)) + 1 = nI (n - d) := by rw [show n - d = n - (d + 1) + 1 by omega]; exact (nI_succ _).symm
    obtain ⟨p6, po⟩ := hO _ hi
    have oo := ho _ hi
    rw [fx_X12_takenOf_5, if_neg (nI_ge (by omega) (by omega)), if_neg (nI_in (show n - (d + 1) < 6 by omega) (by decide)), pz_cl (by omega), po, if_neg (nI_in (show P (n - (d + 1)) < 8 by omega) (by decide)), pz_cl (by omega), oo, e3, es]
    by_cases c : n - (d + 1) < sk
    · rw [if_pos (nI_lt c (by omega)), if_pos c]
      by_cases c2 : nI (F (P (n - (d + 1)))) ≤ a
      · rw [if_pos c2, if_pos c2]
        exact ih e _ (by omega) (by omega)
      · rw [if_neg c2, if_neg c2]
        exact ih e _ (by omega) (by omega)
    · rw [if_neg (nI_nlt (by omega) (by omega)), if_neg c]
      by_cases c2 : nI (F (P (n - (d + 1)))) ≤ a
      · rw [if_pos c2, if_pos c2, if_pos c2]
        exact ih e _ (by omega) (by omega)
      · rw [if_neg c2, if_neg c2]
theorem pt_tk2c {F P P' : Nat → Nat} {n sk : Nat} (hn1 : 0 < n) (h : ∀ i, i < n → P i = P' i) : ∀ (d : Nat) (a : Int32), d ≤ n → pt_tk2 F P n sk d a = pt_tk2 F P' n sk d a := by
  intro d
  induction d with
  | zero => intro a _; exact h (n - 1) (by omega)
  | succ d ih =>
    intro a hd
    unfold pt_tk2
    rw [h (n - (d + 1)) (by omega), ih _ (by omega), ih _ (by omega)]
/-- in how many of some orders the best is taken -/
def pt_cn (F : Nat → Nat) (n sk mo : Nat) : List Nat → Nat
  | [] => 0
  | x :: l => (if F (pt_tk2 F (pq_de n x) n sk n (-(nI 1))) = mo then 1 else 0) + pt_cn F n sk mo l
theorem pt_cnl (F : Nat → Nat) (n sk mo : Nat) : ∀ l, pt_cn F n sk mo l ≤ l.length := by
  intro l
  induction l with
  | nil => exact Nat.le_refl 0
  | cons x l ih =>
    show (if F (pt_tk2 F (pq_de n x) n sk n (-(nI 1))) = mo then 1 else 0) + pt_cn F n sk mo l ≤ l.length + 1
    split <;> omega
/-- the class goes through the orders -/
theorem pf_waX {F : Nat → Nat} {n sk mo p : Nat} (hn : n < 7) (hn1 : 0 < n) (hsk : sk < n) (hF : ∀ j, F j < 2147483648) (hmo : mo < 2147483648) : ∀ (l : List Nat) (x k a b g : Nat) (S : sx_T), pq_ch n (x :: l) = true → k + (l.length + 1) ≤ 720 → l.length + 1 < g → px_O n (pq_de n x) S → (∀ v, v < n → sx_offered S v = nI (F v)) → ∃ S', fx_X11_waits_98 g (nI n) (nI sk) (nI p) (nI mo) (nI a) (nI b) 1 (nI k) S = am_bd (fx_X11_inLowestTerms (nI (a + pt_cn F n sk mo (x :: l))) (nI (b + (l.length + 1))) (nI p)) (fun q => some (q, S')) ∧ px_f [] [25] S S' := by
  intro l
  induction l with
  | nil =>
    intro x k a b g S hch hk hg hO ho
    obtain ⟨e, rfl⟩ : ∃ e, g = e + 1 := ⟨g - 1, by omega⟩
    obtain ⟨e2, rfl⟩ : ∃ q, e = q + 1 := ⟨e - 1, by have : ([] : List Nat).length = 0 := rfl; omega⟩
    have hl : ([] : List Nat).length = 0 := rfl
    rw [hl] at hk
    obtain ⟨t1, i, hi, t2⟩ := pf_taX (F := F) (sk := sk) hn hn1 hsk hO (fun i hi => ho _ (pq_del hn1)) n am_fu (-(nI 1)) (Nat.le_refl n) (by rw [pf_u]; omega)
    have t1' : fx_X11_takenOfOrder (nI n) (nI sk) S = some (nI (pt_tk2 F (pq_de n x) n sk n (-(nI 1)))) := by
      rw [Nat.sub_self] at t1; exact t1
    obtain ⟨S', f1, f2, hh⟩ := pf_no hn hn1 hO
    have hN := pq_chL hch
    rcases hh with ⟨-, n2⟩ | ⟨Q, n1, -⟩
    · refine ⟨S', ?_, f1⟩
      have q8 : pt_tk2 F (pq_de n x) n sk n (-(nI 1)) < n := by rw [t2]; exact pq_del hn1
      have off : am_rd 8 (sx_offered S) (nI (pt_tk2 F (pq_de n x) n sk n (-(nI 1)))) = nI (F (pt_tk2 F (pq_de n x) n sk n (-(nI 1)))) := by
        rw [pz_rd (by omega) (by decide), ho _ q8]
      have cn : pt_cn F n sk mo [x] = (if F (pt_tk2 F (pq_de n x) n sk n (-(nI 1))) = mo then 1 else 0) + 0 := rfl
      have fin : ∀ a' b' k', fx_X11_waits_98 (e2 + 1) (nI n) (nI sk) (nI p) (nI mo) a' b' 0 k' S' = am_bd (fx_X11_inLowestTerms a' b' (nI p)) (fun q => some (q, S')) := by
        intro a' b' k'
        rw [fx_X11_waits_98]
        by_cases c : (720 : Int32) ≤ k'
        · rw [if_pos c]
        · rw [if_neg c, if_pos rfl]
      rw [fx_X11_waits_98, if_neg (show ¬ (720 : Int32) ≤ nI k from nI_ge (b := 720) (by omega) (by decide)), if_neg (by decide), t1', pz_bd, off, cn, hl]
      by_cases c : F (pt_tk2 F (pq_de n x) n sk n (-(nI 1))) = mo
      · rw [if_pos (by rw [c]), n2, pz_bd, if_pos c]
        rw [show nI a + 1 = nI (a + 1) from (nI_succ a).symm, show nI b + 1 = nI (b + 1) from (nI_succ b).symm]
        exact fin _ _ _
      · rw [if_neg (fun q => c ((nI_eq (hF _) hmo).mp q)), n2, pz_bd, if_neg c]
        rw [show nI b + 1 = nI (b + 1) from (nI_succ b).symm]
        exact fin _ _ _
    · rw [hN] at n1; cases n1
  | cons y l ih =>
    intro x k a b g S hch hk hg hO ho
    obtain ⟨e, rfl⟩ : ∃ e, g = e + 1 := ⟨g - 1, by omega⟩
    have hl : (y :: l).length = l.length + 1 := rfl
    rw [hl] at hk hg
    obtain ⟨t1, i, hi, t2⟩ := pf_taX (F := F) (sk := sk) hn hn1 hsk hO (fun i hi => ho _ (pq_del hn1)) n am_fu (-(nI 1)) (Nat.le_refl n) (by rw [pf_u]; omega)
    have t1' : fx_X11_takenOfOrder (nI n) (nI sk) S = some (nI (pt_tk2 F (pq_de n x) n sk n (-(nI 1)))) := by
      rw [Nat.sub_self] at t1; exact t1
    obtain ⟨S', f1, f2, hh⟩ := pf_no hn hn1 hO
    obtain ⟨⟨Q, hQ, hQ2⟩, hch2⟩ := pq_chS hch
    rcases hh with ⟨n1, -⟩ | ⟨Q', n1, n2, n3⟩
    · rw [hQ] at n1; cases n1
    · rw [hQ] at n1
      obtain rfl := Option.some.inj n1
      have hO' : px_O n (pq_de n y) S' := fun i hi => by
        have := n3 i hi
        rw [hQ2 i hi] at this
        exact this
      have ho' : ∀ v, v < n → sx_offered S' v = nI (F v) := fun v hv => by
        rw [show sx_offered S' = sx_offered S from f1.2 28 (by decide)]; exact ho v hv
      have q8 : pt_tk2 F (pq_de n x) n sk n (-(nI 1)) < n := by rw [t2]; exact pq_del hn1
      have off : am_rd 8 (sx_offered S) (nI (pt_tk2 F (pq_de n x) n sk n (-(nI 1)))) = nI (F (pt_tk2 F (pq_de n x) n sk n (-(nI 1)))) := by
        rw [pz_rd (by omega) (by decide), ho _ q8]
      have cn : pt_cn F n sk mo (x :: y :: l) = (if F (pt_tk2 F (pq_de n x) n sk n (-(nI 1))) = mo then 1 else 0) + pt_cn F n sk mo (y :: l) := rfl
      have e3 : nI k + 1 = nI (k + 1) := (nI_succ k).symm
      have e4 : nI b + 1 = nI (b + 1) := (nI_succ b).symm
      by_cases c : F (pt_tk2 F (pq_de n x) n sk n (-(nI 1))) = mo
      · obtain ⟨S2, r1, r2⟩ := ih y (k + 1) (a + 1) (b + 1) e S' hch2 (by omega) (by omega) hO' ho'
        refine ⟨S2, Eq.trans ?_ (r1.trans ?_), px_ft f1 r2⟩
        · rw [fx_X11_waits_98, if_neg (show ¬ (720 : Int32) ≤ nI k from nI_ge (b := 720) (by omega) (by decide)), if_neg (by decide), t1', pz_bd, off, if_pos (by rw [c]), n2, pz_bd, e3, e4, show nI a + 1 = nI (a + 1) from (nI_succ a).symm]
        · rw [cn, if_pos c, hl, show a + 1 + pt_cn F n sk mo (y :: l) = a + (1 + pt_cn F n sk mo (y :: l)) by omega, show b + 1 + (l.length + 1) = b + (l.length + 1 + 1) by omega]
      · obtain ⟨S2, r1, r2⟩ := ih y (k + 1) a (b + 1) e S' hch2 (by omega) (by omega) hO' ho'
        refine ⟨S2, Eq.trans ?_ (r1.trans ?_), px_ft f1 r2⟩
        · rw [fx_X11_waits_98, if_neg (show ¬ (720 : Int32) ≤ nI k from nI_ge (b := 720) (by omega) (by decide)), if_neg (by decide), t1', pz_bd, off, if_neg (fun q => c ((nI_eq (hF _) hmo).mp q)), n2, pz_bd, e3, e4]
        · rw [cn, if_neg c, hl, Nat.zero_add, show b + 1 + (l.length + 1) = b + (l.length + 1 + 1) by omega]
/-- the reference: is a number an order -/
theorem pf_io {n : Nat} (hn : n < 7) (hn1 : 0 < n) : ∀ (kk g : Nat) (seen : Int32) (s : List Nat) (x : Nat) (M : sm_T), kk ≤ n → kk < g → x < 2147483648 → (∀ d, d < n → pb_it seen d = s.contains d) → ∃ M', fx_X12_isOrder_10 g (nI n) seen (nI x) (nI kk - nI 1) M = some ((if pq_v n kk s x = true then 1 else 0), M') ∧ pm_f [] [19] M M' ∧ (pq_v n kk s x = true → (∀ i, i < kk → sm_comer M' i = nI (x / n ^ (kk - 1 - i) % n)) ∧ ∀ i, kk ≤ i → sm_comer M' i = sm_comer M i) := by
  intro kk
  induction kk with
  | zero =>
    intro g seen s x M h1 h2 hx hs
    obtain ⟨e, rfl⟩ : ∃ e, g = e + 1 := ⟨g - 1, by omega⟩
    refine ⟨M, ?_, pm_fr, fun _ => ⟨fun i hi => absurd hi (Nat.not_lt_zero i), fun _ _ => rfl⟩⟩
    rw [fx_X12_isOrder_10, if_pos (show nI 0 - nI 1 < 0 by decide)]
    rfl
  | succ kk ih =>
    intro g seen s x M h1 h2 hx hs
    obtain ⟨e, rfl⟩ : ∃ e, g = e + 1 := ⟨g - 1, by omega⟩
    have n0 : ¬ nI n = 0 := nI_ne0 hn1 (by omega)
    have hr : x % n < n := Nat.mod_lt _ hn1
    have es : pq_v n (kk + 1) s x = (!(s.contains (x % n)) && pq_v n kk (x % n :: s) (x / n)) := rfl
    rw [fx_X12_isOrder_10, show nI (kk + 1) - nI 1 = nI kk from nI_pred kk, if_neg (nI_pos (by omega)), if_neg n0, if_neg (nI_in (show kk < 6 by omega) (by decide)), if_neg n0, if_neg (nI_in (show kk < 6 by omega) (by decide)), pz_cl (by omega), pz_rem hx hn1 (by omega), pz_us, es]
    have fr : ∀ v, pm_f [] [19] M (um_comer M (upd (sm_comer M) kk v)) := fun v => pm_fa (j := 19) (S' := M) pm_fr (by decide)
    rcases pb_tst seen (k := x % n) (by omega) with ⟨b1, b2⟩ | ⟨b1, b2⟩
    · have hc : s.contains (x % n) = false := by rw [← hs _ hr]; exact b2
      rw [if_neg (by rw [b1]; decide), if_neg (show ¬ (nI kk < 0 ∨ 6 ≤ kk) from fun q => q.elim (nI_pos (by omega)) (by omega)), hc, Bool.not_false, Bool.true_and, pz_div hx hn1 (by omega), show nI kk + -1 = nI kk - nI 1 from (Int32.sub_eq_add_neg _ _).symm]
      obtain ⟨M', q1, q2, q3⟩ := ih e (seen ||| ((1 : Int32) <<< (nI (x % n) &&& 31))) (x % n :: s) (x / n) (um_comer M (upd (sm_comer M) kk (nI (x % n)))) (by omega) (by omega) (by have := Nat.div_le_self x n; omega) (fun d hd => by
        rw [pb_set seen (by omega) (by omega), hs d hd, List.contains_cons]
        by_cases q : d = x % n
        · subst q; simp
        · have : (d == x % n) = false := by simpa using q
          rw [this]; simp [q])
      refine ⟨M', q1, pm_ft (fr _) q2, fun hv => ?_⟩
      obtain ⟨w1, w2⟩ := q3 hv
      refine ⟨fun i hi => ?_, fun i hi => ?_⟩
      · by_cases q : i = kk
        · subst q
          rw [w2 i (Nat.le_refl i), show i + 1 - 1 - i = 0 by omega, Nat.pow_zero, Nat.div_one]
          exact pz_us
        · rw [w1 i (by omega), Nat.div_div_eq_div_mul, show kk + 1 - 1 - i = (kk - 1 - i) + 1 by omega, Nat.pow_succ, Nat.mul_comm]
      · rw [w2 i (by omega)]
        exact pz_un (by omega)
    · have hc : s.contains (x % n) = true := by rw [← hs _ hr]; exact b2
      rw [if_pos b1, hc]
      exact ⟨_, rfl, fr _, fun hv => by cases hv⟩
