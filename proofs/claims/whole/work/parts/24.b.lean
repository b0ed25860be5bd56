/-! ===== all orders, as numbers ===== -/
def pq_de (n x i : Nat) : Nat := x / n ^ (n - 1 - i) % n
def pq_sb (n x y : Nat) : Bool := match nx_N n (pq_de n x) with
  | none => false
  | some Q => (List.range n).all (fun i => Nat.beq (Q i) (pq_de n y i))
def pq_la (n x : Nat) : Bool := match nx_N n (pq_de n x) with
  | none => true
  | some _ => false
def pq_ch (n : Nat) : List Nat → Bool
  | [] => true
  | x :: l => (match l with
    | [] => pq_la n x
    | y :: _ => pq_sb n x y) && pq_ch n l
/-- no digit twice: as many of them, those seen, the number -/
def pq_v (n : Nat) : Nat → List Nat → Nat → Bool
  | 0, _, _ => true
  | k + 1, s, x => !(s.contains (x % n)) && pq_v n k (x % n :: s) (x / n)
def pq_rg (a : Nat) : Nat → List Nat
  | 0 => []
  | k + 1 => pq_rg a k ++ [a + k]
def pq_F (f : Nat → List Nat) : Nat → List Nat
  | 0 => []
  | d + 1 => pq_F f d ++ f d
def pq_E (n : Nat) : Nat → Nat → Nat → List Nat
  | 0, k, p => if pq_v n k [] p = true then [p] else []
  | m + 1, k, p => if pq_v n k [] p = true then pq_F (fun d => pq_E n m (k + 1) (n * p + d)) n else []
theorem pq_rga (a i : Nat) : ∀ j, pq_rg a (i + j) = pq_rg a i ++ pq_rg (a + i) j := by
  intro j
  induction j with
  | zero => exact (List.append_nil _).symm
  | succ j ih =>
    show pq_rg a (i + j) ++ [a + (i + j)] = pq_rg a i ++ (pq_rg (a + i) j ++ [a + i + j])
    rw [ih, List.append_assoc, Nat.add_assoc]
theorem pq_rgc (a k : Nat) : pq_rg a (k + 1) = a :: pq_rg (a + 1) k := by
  rw [Nat.add_comm k 1, pq_rga a 1 k]
  rfl
theorem pq_rgF (a c : Nat) : ∀ j, pq_rg a (c * j) = pq_F (fun d => pq_rg (a + c * d) c) j := by
  intro j
  induction j with
  | zero => rfl
  | succ j ih =>
    rw [Nat.mul_succ, pq_rga, ih]
    rfl
theorem pq_Ff (P : Nat → Bool) (f : Nat → List Nat) : ∀ j, (pq_F f j).filter P = pq_F (fun d => (f d).filter P) j := by
  intro j
  induction j with
  | zero => rfl
  | succ j ih =>
    show (pq_F f j ++ f j).filter P = pq_F (fun d => (f d).filter P) j ++ (f j).filter P
    rw [List.filter_append, ih]
theorem pq_Fc {f f' : Nat → List Nat} : ∀ j, (∀ d, d < j → f d = f' d) → pq_F f j = pq_F f' j := by
  intro j
  induction j with
  | zero => intro _; rfl
  | succ j ih =>
    intro h
    show pq_F f j ++ f j = pq_F f' j ++ f' j
    rw [ih (fun d hd => h d (by omega)), h j (by omega)]
theorem pq_vm (n : Nat) : ∀ (k : Nat) (s s' : List Nat) (x : Nat), (∀ y, y ∈ s' → y ∈ s) → pq_v n k s x = true → pq_v n k s' x = true := by
  intro k
  induction k with
  | zero => intro s s' x _ _; rfl
  | succ k ih =>
    intro s s' x hs h
    unfold pq_v at h ⊢
    rw [Bool.and_eq_true] at h ⊢
    refine ⟨?_, ih (x % n :: s) (x % n :: s') (x / n) (fun y hy => ?_) h.2⟩
    · cases c : s'.contains (x % n) with
      | false => rfl
      | true =>
        have m : x % n ∈ s' := by simpa using c
        have m2 := hs _ m
        have h1 := h.1
        have : s.contains (x % n) = true := by simpa using m2
        rw [this] at h1; cases h1
    · rcases List.mem_cons.mp hy with rfl | hy
      · exact List.mem_cons_self
      · exact List.mem_cons_of_mem _ (hs y hy)
theorem pq_vp (n k : Nat) : ∀ (m : Nat) (s : List Nat) (x : Nat), pq_v n (k + m) s x = true → pq_v n k [] (x / n ^ m) = true := by
  intro m
  induction m with
  | zero =>
    intro s x h
    rw [Nat.pow_zero, Nat.div_one]
    exact pq_vm n k s [] x (fun y hy => by cases hy) h
  | succ m ih =>
    intro s x h
    have h' : pq_v n (k + m + 1) s x = true := h
    unfold pq_v at h'
    rw [Bool.and_eq_true] at h'
    have := ih _ _ h'.2
    rw [Nat.div_div_eq_div_mul] at this
    rw [Nat.pow_succ, Nat.mul_comm]
    exact this
theorem pq_rgm {a x : Nat} : ∀ {k : Nat}, x ∈ pq_rg a k → a ≤ x ∧ x < a + k := by
  intro k
  induction k with
  | zero => intro h; cases h
  | succ k ih =>
    intro h
    have h' : x ∈ pq_rg a k ++ [a + k] := h
    rcases List.mem_append.mp h' with h1 | h1
    · have := ih h1; omega
    · have : x = a + k := by simpa using h1
      omega
theorem pq_blk (n : Nat) (hn : 0 < n) : ∀ (m k p : Nat), (pq_rg (p * n ^ m) (n ^ m)).filter (fun x => pq_v n (k + m) [] x) = pq_E n m k p := by
  intro m
  induction m with
  | zero =>
    intro k p
    have e : pq_rg (p * n ^ 0) (n ^ 0) = [p] := by
      rw [Nat.pow_zero, Nat.mul_one]; rfl
    rw [e]
    unfold pq_E
    cases c : pq_v n k [] p with
    | true => simp [c]
    | false => simp [c]
  | succ m ih =>
    intro k p
    unfold pq_E
    by_cases c : pq_v n k [] p = true
    · rw [if_pos c, Nat.pow_succ, pq_rgF, pq_Ff]
      refine pq_Fc n (fun d hd => ?_)
      have := ih (k + 1) (n * p + d)
      rw [show (n * p + d) * n ^ m = p * (n ^ m * n) + n ^ m * d by
        rw [Nat.add_mul, Nat.mul_comm d, Nat.mul_comm n p, Nat.mul_assoc, Nat.mul_comm n (n ^ m)]] at this
      rw [show k + 1 + m = k + (m + 1) by omega] at this
      exact this
    · rw [if_neg c, List.filter_eq_nil_iff]
      intro x hx hv
      obtain ⟨h1, h2⟩ := pq_rgm hx
      have hp : 0 < n ^ (m + 1) := Nat.pow_pos hn
      have hd : x / n ^ (m + 1) = p := by
        rw [Nat.div_eq_iff hp]
        omega
      have := pq_vp n k (m + 1) [] x hv
      rw [hd] at this
      exact c this
theorem pq_all (n : Nat) (hn : 0 < n) : (pq_rg 0 (n ^ n)).filter (fun x => pq_v n n [] x) = pq_E n n 0 0 := by
  have := pq_blk n hn n 0 0
  rw [Nat.zero_mul, Nat.zero_add] at this
  exact this
def pq_L1 : List Nat := [0]
def pq_L2 : List Nat := [1, 2]
def pq_L3 : List Nat := [5, 7, 11, 15, 19, 21]
def pq_L4 : List Nat := [27, 30, 39, 45, 54, 57, 75, 78, 99, 108, 114, 120, 135, 141, 147, 156, 177, 180, 198, 201, 210, 216, 225, 228]
def pq_L5 : List Nat := [194, 198, 214, 222, 238, 242, 294, 298, 334, 346, 358, 366, 414, 422, 434, 446, 482, 486, 538, 542, 558, 566, 582, 586, 694, 698, 714, 722, 738, 742, 894, 898, 954, 970, 978, 990, 1014, 1022, 1054, 1070, 1102, 1110, 1138, 1142, 1178, 1190, 1202, 1210, 1294, 1298, 1334, 1346, 1358, 1366, 1394, 1398, 1454, 1470, 1478, 1490, 1634, 1646, 1654, 1670, 1726, 1730, 1758, 1766, 1778, 1790, 1826, 1830, 1914, 1922, 1934, 1946, 1982, 1986, 2014, 2022, 2054, 2070, 2102, 2110, 2134, 2146, 2154, 2170, 2226, 2230, 2382, 2386, 2402, 2410, 2426, 2430, 2538, 2542, 2558, 2566, 2582, 2586, 2638, 2642, 2678, 2690, 2702, 2710, 2758, 2766, 2778, 2790, 2826, 2830, 2882, 2886, 2902, 2910, 2926, 2930]
def pq_L6 : List Nat := [1865, 1870, 1895, 1905, 1930, 1935, 2045, 2050, 2105, 2120, 2140, 2150, 2255, 2265, 2285, 2300, 2355, 2360, 2470, 2475, 2500, 2510, 2535, 2540, 2945, 2950, 2975, 2985, 3010, 3015, 3305, 3310, 3395, 3415, 3430, 3445, 3515, 3525, 3575, 3595, 3645, 3655, 3730, 3735, 3790, 3805, 3825, 3835, 4205, 4210, 4265, 4280, 4300, 4310, 4385, 4390, 4475, 4495, 4510, 4525, 4805, 4820, 4835, 4855, 4940, 4945, 5020, 5030, 5050, 5065, 5120, 5125, 5495, 5505, 5525, 5540, 5595, 5600, 5675, 5685, 5735, 5755, 5805, 5815, 5885, 5900, 5915, 5935, 6020, 6025, 6315, 6320, 6345, 6355, 6380, 6385, 6790, 6795, 6820, 6830, 6855, 6860, 6970, 6975, 7030, 7045, 7065, 7075, 7180, 7190, 7210, 7225, 7280, 7285, 7395, 7400, 7425, 7435, 7460, 7465, 8345, 8350, 8375, 8385, 8410, 8415, 8525, 8530, 8585, 8600, 8620, 8630, 8735, 8745, 8765, 8780, 8835, 8840, 8950, 8955, 8980, 8990, 9015, 9020, 10505, 10510, 10535, 10545, 10570, 10575, 11045, 11050, 11165, 11190, 11200, 11220, 11255, 11265, 11345, 11370, 11415, 11430, 11470, 11475, 11560, 11580, 11595, 11610, 11765, 11770, 11825, 11840, 11860, 11870, 12125, 12130, 12245, 12270, 12280, 12300, 12545, 12560, 12605, 12630, 12710, 12720, 12760, 12770, 12820, 12840, 12890, 12900, 13055, 13065, 13085, 13100, 13155, 13160, 13415, 13425, 13505, 13530, 13575, 13590, 13625, 13640, 13685, 13710, 13790, 13800, 14055, 14060, 14115, 14130, 14150, 14160, 14350, 14355, 14380, 14390, 14415, 14420, 14710, 14715, 14800, 14820, 14835, 14850, 14920, 14930, 14980, 15000, 15050, 15060, 15135, 15140, 15195, 15210, 15230, 15240, 15905, 15910, 15935, 15945, 15970, 15975, 16265, 16270, 16355, 16375, 16390, 16405, 16475, 16485, 16535, 16555, 16605, 16615, 16690, 16695, 16750, 16765, 16785, 16795, 16985, 16990, 17015, 17025, 17050, 17055, 17525, 17530, 17645, 17670, 17680, 17700, 17735, 17745, 17825, 17850, 17895, 17910, 17950, 17955, 18040, 18060, 18075, 18090, 19505, 19510, 19595, 19615, 19630, 19645, 19685, 19690, 19805, 19830, 19840, 19860, 20315, 20335, 20345, 20370, 20485, 20490, 20530, 20545, 20560, 20580, 20665, 20670, 20795, 20805, 20855, 20875, 20925, 20935, 20975, 20985, 21065, 21090, 21135, 21150, 21395, 21415, 21425, 21450, 21565, 21570, 21825, 21835, 21855, 21870, 21925, 21930, 22090, 22095, 22150, 22165, 22185, 22195, 22270, 22275, 22360, 22380, 22395, 22410, 22690, 22705, 22720, 22740, 22825, 22830, 22905, 22915, 22935, 22950, 23005, 23010, 23645, 23650, 23705, 23720, 23740, 23750, 23825, 23830, 23915, 23935, 23950, 23965, 24245, 24260, 24275, 24295, 24380, 24385, 24460, 24470, 24490, 24505, 24560, 24565, 24725, 24730, 24785, 24800, 24820, 24830, 25085, 25090, 25205, 25230, 25240, 25260, 25505, 25520, 25565, 25590, 25670, 25680, 25720, 25730, 25780, 25800, 25850, 25860, 25985, 25990, 26075, 26095, 26110, 26125, 26165, 26170, 26285, 26310, 26320, 26340, 26795, 26815, 26825, 26850, 26965, 26970, 27010, 27025, 27040, 27060, 27145, 27150, 28565, 28580, 28595, 28615, 28700, 28705, 28745, 28760, 28805, 28830, 28910, 28920, 28955, 28975, 28985, 29010, 29125, 29130, 29600, 29605, 29630, 29640, 29665, 29670, 29860, 29870, 29890, 29905, 29960, 29965, 30040, 30050, 30100, 30120, 30170, 30180, 30250, 30265, 30280, 30300, 30385, 30390, 30680, 30685, 30710, 30720, 30745, 30750, 31415, 31425, 31445, 31460, 31515, 31520, 31595, 31605, 31655, 31675, 31725, 31735, 31805, 31820, 31835, 31855, 31940, 31945, 32235, 32240, 32265, 32275, 32300, 32305, 32495, 32505, 32525, 32540, 32595, 32600, 32855, 32865, 32945, 32970, 33015, 33030, 33065, 33080, 33125, 33150, 33230, 33240, 33495, 33500, 33555, 33570, 33590, 33600, 33755, 33765, 33815, 33835, 33885, 33895, 33935, 33945, 34025, 34050, 34095, 34110, 34355, 34375, 34385, 34410, 34525, 34530, 34785, 34795, 34815, 34830, 34885, 34890, 35045, 35060, 35075, 35095, 35180, 35185, 35225, 35240, 35285, 35310, 35390, 35400, 35435, 35455, 35465, 35490, 35605, 35610, 36080, 36085, 36110, 36120, 36145, 36150, 37635, 37640, 37665, 37675, 37700, 37705, 37815, 37820, 37875, 37890, 37910, 37920, 38025, 38035, 38055, 38070, 38125, 38130, 38240, 38245, 38270, 38280, 38305, 38310, 39190, 39195, 39220, 39230, 39255, 39260, 39370, 39375, 39430, 39445, 39465, 39475, 39580, 39590, 39610, 39625, 39680, 39685, 39795, 39800, 39825, 39835, 39860, 39865, 40270, 40275, 40300, 40310, 40335, 40340, 40630, 40635, 40720, 40740, 40755, 40770, 40840, 40850, 40900, 40920, 40970, 40980, 41055, 41060, 41115, 41130, 41150, 41160, 41530, 41535, 41590, 41605, 41625, 41635, 41710, 41715, 41800, 41820, 41835, 41850, 42130, 42145, 42160, 42180, 42265, 42270, 42345, 42355, 42375, 42390, 42445, 42450, 42820, 42830, 42850, 42865, 42920, 42925, 43000, 43010, 43060, 43080, 43130, 43140, 43210, 43225, 43240, 43260, 43345, 43350, 43640, 43645, 43670, 43680, 43705, 43710, 44115, 44120, 44145, 44155, 44180, 44185, 44295, 44300, 44355, 44370, 44390, 44400, 44505, 44515, 44535, 44550, 44605, 44610, 44720, 44725, 44750, 44760, 44785, 44790]
theorem pq_e1 : pq_E 1 1 0 0 = pq_L1 := by decide +kernel
theorem pq_c1 : pq_ch 1 pq_L1 = true := by decide +kernel
theorem pq_e2 : pq_E 2 2 0 0 = pq_L2 := by decide +kernel
theorem pq_c2 : pq_ch 2 pq_L2 = true := by decide +kernel
theorem pq_e3 : pq_E 3 3 0 0 = pq_L3 := by decide +kernel
theorem pq_c3 : pq_ch 3 pq_L3 = true := by decide +kernel
theorem pq_e4 : pq_E 4 4 0 0 = pq_L4 := by decide +kernel
theorem pq_c4 : pq_ch 4 pq_L4 = true := by decide +kernel
theorem pq_e5 : pq_E 5 5 0 0 = pq_L5 := by decide +kernel
theorem pq_c5 : pq_ch 5 pq_L5 = true := by decide +kernel
theorem pq_e6 : pq_E 6 6 0 0 = pq_L6 := by decide +kernel
theorem pq_c6 : pq_ch 6 pq_L6 = true := by decide +kernel
