/-! PURE: longs by integers -/
def J (z : Int) : Int64 := Int64.ofInt z
def nw (z : Int) : Prop := -9223372036854775808 < z ∧ z < 9223372036854775808
theorem J_toInt {z : Int} (h : nw z) : (J z).toInt = z := Int64.toInt_ofInt_of_le (by unfold nw at h; omega) (by unfold nw at h; omega)
theorem J_of (x : Int64) : x = J x.toInt := (Int64.ofInt_toInt x).symm
theorem J_min : (-9223372036854775808 : Int64) = J (-9223372036854775808) := by decide
theorem J_max : (9223372036854775807 : Int64) = J 9223372036854775807 := by decide
theorem J_m1 : (-1 : Int64) = J (-1) := by decide
theorem J_0 : (0 : Int64) = J 0 := by decide
theorem J_1 : (1 : Int64) = J 1 := by decide
theorem J_ne_min {z : Int} (h : nw z) : ¬ J z = (-9223372036854775808 : Int64) := by
  intro e
  have := congrArg Int64.toInt e
  rw [J_toInt h] at this
  have e2 : (-9223372036854775808 : Int64).toInt = -9223372036854775808 := by decide
  rw [e2] at this
  unfold nw at h
  omega
theorem nw_of {x : Int64} (h : ¬ x = (-9223372036854775808 : Int64)) : nw x.toInt := by
  have h1 := x.toInt_lt
  have h2 := x.le_toInt
  unfold nw
  refine ⟨?_, by omega⟩
  by_cases e : x.toInt = -9223372036854775808
  · exact absurd (by rw [J_of x, e]; exact J_min.symm) h
  · omega
theorem J_add (a b : Int) : J a + J b = J (a + b) := (Int64.ofInt_add a b).symm
theorem J_sub (a b : Int) : J a - J b = J (a - b) := (Int64.ofInt_sub a b).symm
theorem J_mul (a b : Int) : J a * J b = J (a * b) := (Int64.ofInt_mul a b).symm
theorem J_neg (a : Int) : -J a = J (-a) := (Int64.ofInt_neg a).symm
theorem J_lt {a b : Int} (ha : nw a) (hb : nw b) : J a < J b ↔ a < b := by rw [Int64.lt_iff_toInt_lt, J_toInt ha, J_toInt hb]
theorem J_le {a b : Int} (ha : nw a) (hb : nw b) : J a ≤ J b ↔ a ≤ b := by rw [Int64.le_iff_toInt_le, J_toInt ha, J_toInt hb]
theorem J_eq {a b : Int} (ha : nw a) (hb : nw b) : J a = J b ↔ a = b := by
  refine ⟨fun h => ?_, congrArg J⟩
  have := congrArg Int64.toInt h
  rwa [J_toInt ha, J_toInt hb] at this
theorem nw_0 : nw 0 := by unfold nw; omega
theorem nw_1 : nw 1 := by unfold nw; omega
theorem nw_m1 : nw (-1) := by unfold nw; omega
theorem nw_max : nw 9223372036854775807 := by unfold nw; omega
theorem nw_neg {a : Int} (h : nw a) : nw (-a) := by unfold nw at *; omega
theorem nw_le {a b : Int} (h : nw b) (hab : a.natAbs ≤ b.natAbs) : nw a := by unfold nw at *; omega
theorem nw_abs {a : Int} (h : nw a) : nw (a.natAbs : Int) := by unfold nw at *; omega
theorem nw_nat {n : Nat} (h : n < 9223372036854775808) : nw (n : Int) := by unfold nw; omega
theorem nw_natle {n : Nat} {a : Int} (h : nw a) (hn : n ≤ a.natAbs) : nw (n : Int) := by unfold nw at *; omega
theorem nw_tdiv {a : Int} (b : Int) (h : nw a) : nw (a.tdiv b) := nw_le h (Int.natAbs_tdiv_le_natAbs a b)
theorem J_div {a b : Int} (ha : nw a) (hb : nw b) : J a / J b = J (a.tdiv b) := by
  rw [← Int64.toInt_inj, Int64.toInt_div_of_ne_left _ _ (fun e => ?_), J_toInt ha, J_toInt hb, J_toInt (nw_tdiv b ha)]
  have := congrArg Int64.toInt e
  rw [J_toInt ha, Int64.toInt_minValue] at this
  unfold nw at ha
  omega
theorem J_rem {a b : Int} (ha : nw a) (hb : nw b) : lmd (J a) (J b) = J (a.tmod b) := by
  show J a - J a / J b * J b = _
  rw [J_div ha hb, J_mul, J_sub, Int.tmod_def]
  congr 1
  rw [Int.mul_comm]
theorem J_abs {a : Int} (ha : nw a) : jabs (J a) = J (a.natAbs : Int) := by
  show (if 0 < J a then J a else -J a) = _
  rw [J_0]
  by_cases h : 0 < a
  · rw [if_pos ((J_lt nw_0 ha).mpr h)]; congr 1; omega
  · rw [if_neg (fun q => h ((J_lt nw_0 ha).mp q)), J_neg]; congr 1; omega
theorem J_ne0 {a : Int} (ha : nw a) (h : a ≠ 0) : ¬ J a = (0 : Int64) := fun q => h ((J_eq ha nw_0).mp (by rw [q]; exact J_0))
theorem J_is0 {a : Int} (ha : nw a) (h : J a = (0 : Int64)) : a = 0 := (J_eq ha nw_0).mp (by rw [h]; exact J_0)
theorem tdivN (a b : Nat) : ((a : Int)).tdiv (b : Int) = ((a / b : Nat) : Int) := by
  rw [Int.tdiv_eq_ediv_of_nonneg (by omega)]; rfl
theorem tmodN (a b : Nat) : ((a : Int)).tmod (b : Int) = ((a % b : Nat) : Int) := by
  rw [Int.tmod_eq_emod_of_nonneg (by omega)]; rfl
/-! small ints -/
theorem nI_ix {i n : Nat} (h : i < n) (hn : n < 2147483648) : ix (nI i) n = true := by
  simp only [ix, Bool.and_eq_true, decide_eq_true_eq]
  rw [nI_toInt (by omega)]
  omega
theorem nI_toNat {n : Nat} (h : n < 2147483648) : (nI n).toNatClampNeg = n := nI_clamp (by omega)
theorem nI_toL {n : Nat} (h : n < 2147483648) : (nI n).toInt64 = J (n : Int) := by
  rw [← Int64.toInt_inj, Int32.toInt_toInt64, nI_toInt (by omega), J_toInt (nw_nat (by omega))]
theorem i2l_J (x : Int32) : x.toInt64 = J x.toInt := by
  rw [J_of x.toInt64, Int32.toInt_toInt64]
theorem nw_i (x : Int32) : nw x.toInt := by
  have h1 := x.toInt_lt
  have h2 := x.le_toInt
  unfold nw
  omega
theorem i_lt {x y : Int32} : x < y ↔ x.toInt < y.toInt := Int32.lt_iff_toInt_lt
theorem i_le {x y : Int32} : x ≤ y ↔ x.toInt ≤ y.toInt := Int32.le_iff_toInt_le
theorem nI_num (k : Nat) : (OfNat.ofNat k : Int32) = nI k := rfl
/-! the greatest divisor -/
theorem lp_succ {α β : Type} (b : (α → Option β) → α → Option β) (n : Nat) (a : α) : lp b (n + 1) a = b (lp b n) a := rfl
theorem gcd_half {a b : Nat} (hb : 0 < b) (hab : b ≤ a) : 2 * (a % b) < a := by
  have h1 : a % b < b := Nat.mod_lt _ hb
  have h2 : a % b + b * (a / b) = a := Nat.mod_add_div a b
  have h3 : 1 ≤ a / b := (Nat.one_le_div_iff hb).mpr hab
  have h4 : b * 1 ≤ b * (a / b) := Nat.mul_le_mul_left b h3
  omega
theorem gcd_meas {a b k : Nat} (hb : 0 < b) (hab : b ≤ a) (h : a * b < 2 ^ k) : ∃ j, k = j + 1 ∧ b * (a % b) < 2 ^ j := by
  cases k with
  | zero =>
    have : 1 * 1 ≤ a * b := Nat.mul_le_mul (by omega) hb
    omega
  | succ j =>
    refine ⟨j, rfl, ?_⟩
    have h1 := gcd_half hb hab
    have h2 : b * (2 * (a % b)) ≤ b * a := Nat.mul_le_mul_left b (Nat.le_of_lt h1)
    rw [Nat.pow_succ] at h
    have h3 : b * (2 * (a % b)) = 2 * (b * (a % b)) := by rw [Nat.mul_left_comm]
    have h4 : b * a = a * b := Nat.mul_comm b a
    rcases Nat.eq_zero_or_pos (a % b) with e | e
    · rw [e, Nat.mul_zero]; exact Nat.pow_pos (by omega)
    · have h5 : b * (2 * (a % b)) < b * a := (Nat.mul_lt_mul_left hb).mpr h1
      omega
theorem gd_step (k : Int64 × Int64 × Int32 → Option Int64) {a b i : Nat} (ha : a < 9223372036854775808) (hb : b < 9223372036854775808) (hb0 : 0 < b) (hi : i < 200) : fX0_greatestDivisor_B15 k (J a) (J b) (nI i) = k (J b, J ((a % b : Nat) : Int), nI (i + 1)) := by
  unfold fX0_greatestDivisor_B15
  have n1 : ¬ (200 : Int32) ≤ nI i := nI_ge (b := 200) hi (by omega)
  have n2 := J_ne0 (nw_nat hb) (show ((b : Nat) : Int) ≠ 0 by omega)
  rw [if_neg n1, if_neg n2, if_neg n2, J_rem (nw_nat ha) (nw_nat hb), tmodN, nI_1]
theorem gd_end (k : Int64 × Int64 × Int32 → Option Int64) {a i : Nat} (ha : a < 9223372036854775808) : fX0_greatestDivisor_B15 k (J a) (J 0) (nI i) = some (J ((max 1 a : Nat) : Int)) := by
  have e : fX0_greatestDivisor_L51 (J a) = some (J ((max 1 a : Nat) : Int)) := by
    unfold fX0_greatestDivisor_L51
    show some (if J a < (1 : Int64) then (1 : Int64) else J a) = _
    rw [J_1]
    by_cases h : a < 1
    · rw [if_pos ((J_lt (nw_nat ha) nw_1).mpr (by omega))]; congr 2; omega
    · rw [if_neg (fun q => h (by have := (J_lt (nw_nat ha) nw_1).mp q; omega))]; congr 2; omega
  unfold fX0_greatestDivisor_B15
  rw [if_pos (show J 0 = (0 : Int64) from rfl), e]
  split <;> rfl
theorem gd_loop : ∀ (k a b i f : Nat), b ≤ a → a < 9223372036854775808 → a * b < 2 ^ k → i + k ≤ 200 → k < f → lp (fun k t => fX0_greatestDivisor_B15 k t.1 t.2.1 t.2.2) f (J a, J b, nI i) = some (J ((max 1 (Nat.gcd a b) : Nat) : Int)) := by
  intro k
  induction k with
  | zero =>
    intro a b i f hab ha hk hi hf
    obtain ⟨f, rfl⟩ : ∃ g, f = g + 1 := ⟨f - 1, by omega⟩
    have hb : b = 0 := by
      rcases Nat.eq_zero_or_pos b with e | e
      · exact e
      · obtain ⟨j, hj, -⟩ := gcd_meas e hab hk; omega
    subst hb
    rw [lp_succ]
    show fX0_greatestDivisor_B15 _ (J a) (J 0) (nI i) = _
    rw [gd_end _ ha, Nat.gcd_zero_right]
  | succ k ih =>
    intro a b i f hab ha hk hi hf
    obtain ⟨f, rfl⟩ : ∃ g, f = g + 1 := ⟨f - 1, by omega⟩
    rw [lp_succ]
    show fX0_greatestDivisor_B15 _ (J a) (J b) (nI i) = _
    rcases Nat.eq_zero_or_pos b with e | e
    · subst e
      show fX0_greatestDivisor_B15 _ (J a) (J 0) (nI i) = _
      rw [gd_end _ ha, Nat.gcd_zero_right]
    · rw [gd_step _ ha (by omega) e (by omega)]
      obtain ⟨j, hj, hm⟩ := gcd_meas e hab hk
      have hj' : j = k := by omega
      subst hj'
      rw [ih b (a % b) (i + 1) f (Nat.le_of_lt (Nat.mod_lt _ e)) (by omega) hm (by omega) (by omega)]
      rw [Nat.gcd_comm a b, Nat.gcd_rec b a, Nat.gcd_comm (a % b) b]
theorem mul63 {a b : Nat} (ha : a < 9223372036854775808) (hb : b < 9223372036854775808) : a * b < 2 ^ 126 := by
  have : a * b < 9223372036854775808 * 9223372036854775808 := Nat.mul_lt_mul'' ha hb
  have e : (9223372036854775808 * 9223372036854775808 : Nat) = 2 ^ 126 := by decide
  omega
theorem gd_eq {u v : Int} (hu : nw u) (hv : nw v) : fX0_greatestDivisor (J u) (J v) = some (J ((max 1 (Nat.gcd u.natAbs v.natAbs) : Nat) : Int)) := by
  unfold fX0_greatestDivisor fX0_greatestDivisor_L15
  rw [J_abs hu, J_abs hv]
  have ha : u.natAbs < 9223372036854775808 := by unfold nw at hu; omega
  have hb : v.natAbs < 9223372036854775808 := by unfold nw at hv; omega
  generalize u.natAbs = a at ha ⊢
  generalize v.natAbs = b at hb ⊢
  have h0 := mul63 ha hb
  rcases Nat.lt_or_ge a b with h | h
  · show lp _ (69999 + 1) (J a, J b, nI 0) = _
    rw [lp_succ]
    show fX0_greatestDivisor_B15 _ (J a) (J b) (nI 0) = _
    rw [gd_step _ ha hb (by omega) (by omega), Nat.mod_eq_of_lt h]
    rw [gd_loop 126 b a 1 69999 (by omega) hb (by rw [Nat.mul_comm]; exact h0) (by omega) (by omega), Nat.gcd_comm]
  · exact gd_loop 126 a b 0 70000 h ha h0 (by omega) (by omega)
theorem gd1_step (k : Int64 × Int64 → Option Int64) {a b : Nat} (ha : a < 9223372036854775808) (hb : b < 9223372036854775808) (hb0 : 0 < b) : fX1_divisor_B12 k (J a) (J b) = k (J b, J ((a % b : Nat) : Int)) := by
  unfold fX1_divisor_B12
  have n2 := J_ne0 (nw_nat hb) (show ((b : Nat) : Int) ≠ 0 by omega)
  rw [if_neg n2, if_neg n2, J_rem (nw_nat ha) (nw_nat hb), tmodN]
theorem gd1_end (k : Int64 × Int64 → Option Int64) (a : Nat) : fX1_divisor_B12 k (J a) (J 0) = some (J a) := by
  unfold fX1_divisor_B12
  rw [if_pos (show J 0 = (0 : Int64) from rfl)]
theorem gd1_loop : ∀ (k a b f : Nat), b ≤ a → a < 9223372036854775808 → a * b < 2 ^ k → k < f → lp (fun k t => fX1_divisor_B12 k t.1 t.2) f (J a, J b) = some (J (Nat.gcd a b : Nat)) := by
  intro k
  induction k with
  | zero =>
    intro a b f hab ha hk hf
    obtain ⟨f, rfl⟩ : ∃ g, f = g + 1 := ⟨f - 1, by omega⟩
    have hb : b = 0 := by
      rcases Nat.eq_zero_or_pos b with e | e
      · exact e
      · obtain ⟨j, hj, -⟩ := gcd_meas e hab hk; omega
    subst hb
    rw [lp_succ]
    show fX1_divisor_B12 _ (J a) (J 0) = _
    rw [gd1_end, Nat.gcd_zero_right]
  | succ k ih =>
    intro a b f hab ha hk hf
    obtain ⟨f, rfl⟩ : ∃ g, f = g + 1 := ⟨f - 1, by omega⟩
    rw [lp_succ]
    show fX1_divisor_B12 _ (J a) (J b) = _
    rcases Nat.eq_zero_or_pos b with e | e
    · subst e
      show fX1_divisor_B12 _ (J a) (J 0) = _
      rw [gd1_end, Nat.gcd_zero_right]
    · rw [gd1_step _ ha (by omega) e]
      obtain ⟨j, hj, hm⟩ := gcd_meas e hab hk
      have hj' : j = k := by omega
      subst hj'
      rw [ih b (a % b) f (Nat.le_of_lt (Nat.mod_lt _ e)) (by omega) hm (by omega)]
      rw [Nat.gcd_comm a b, Nat.gcd_rec b a, Nat.gcd_comm (a % b) b]
theorem sizeOf_eq {a : Int} (ha : nw a) : fX1_sizeOf (J a) = some (J (a.natAbs : Int)) := by
  unfold fX1_sizeOf
  rw [J_0]
  by_cases h : 0 ≤ a
  · rw [if_pos ((J_le nw_0 ha).mpr h)]; congr 2; omega
  · rw [if_neg (fun q => h ((J_le nw_0 ha).mp q)), J_neg]; congr 2; omega
theorem gd1_eq {u v : Int} (hu : nw u) (hv : nw v) : fX1_divisor (J u) (J v) = some (J (Nat.gcd u.natAbs v.natAbs : Nat)) := by
  unfold fX1_divisor
  rw [sizeOf_eq hu, sizeOf_eq hv]
  show fX1_divisor_L12 (J _) (J _) = _
  unfold fX1_divisor_L12
  have ha : u.natAbs < 9223372036854775808 := by unfold nw at hu; omega
  have hb : v.natAbs < 9223372036854775808 := by unfold nw at hv; omega
  generalize u.natAbs = a at ha ⊢
  generalize v.natAbs = b at hb ⊢
  have h0 := mul63 ha hb
  rcases Nat.lt_or_ge a b with h | h
  · show lp _ (69999 + 1) (J a, J b) = _
    rw [lp_succ]
    show fX1_divisor_B12 _ (J a) (J b) = _
    rw [gd1_step _ ha hb (by omega), Nat.mod_eq_of_lt h]
    rw [gd1_loop 126 b a 69999 (by omega) hb (by rw [Nat.mul_comm]; exact h0) (by omega), Nat.gcd_comm]
  · exact gd1_loop 126 a b 70000 h ha h0 (by omega)
theorem max1_gcd {a b : Nat} (h : 0 < a ∨ 0 < b) : max 1 (Nat.gcd a b) = Nat.gcd a b := by
  have : 0 < Nat.gcd a b := Nat.gcd_pos_iff.mpr h
  omega
