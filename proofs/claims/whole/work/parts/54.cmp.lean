/-! PURE: floor, compared of the class -/
theorem xor_neg (x y : Int64) : (0 : Int64) ≤ x ^^^ y ↔ (x.toInt < 0 ↔ y.toInt < 0) := by
  rw [Int64.le_iff_toInt_le, show (0 : Int64).toInt = 0 by decide]
  have h : (x ^^^ y).toBitVec.msb = (x.toBitVec.msb ^^ y.toBitVec.msb) := by
    rw [show (x ^^^ y).toBitVec = x.toBitVec ^^^ y.toBitVec from rfl, BitVec.msb_xor]
  rw [BitVec.msb_eq_toInt, BitVec.msb_eq_toInt, BitVec.msb_eq_toInt] at h
  have e1 : (x ^^^ y).toBitVec.toInt = (x ^^^ y).toInt := rfl
  have e2 : x.toBitVec.toInt = x.toInt := rfl
  have e3 : y.toBitVec.toInt = y.toInt := rfl
  rw [e1, e2, e3] at h
  by_cases a : x.toInt < 0 <;> by_cases b : y.toInt < 0 <;> simp [a, b] at h ⊢ <;> omega
theorem nw_ediv {a b : Int} (ha : nw a) (hb : 0 < b) : nw (a / b) := by
  have h1 : b * (a / b) ≤ a := Int.mul_ediv_self_le (by omega)
  have h2 : a < b * (a / b) + b := Int.lt_mul_ediv_self_add hb
  unfold nw at *
  refine ⟨?_, ?_⟩
  · have : a / b ≥ -9223372036854775807 := by
      by_cases q : a / b < -9223372036854775807
      · have q2 : a / b + 1 ≤ -9223372036854775807 := by omega
        have q3 : b * (a / b + 1) ≤ b * (-9223372036854775807) := Int.mul_le_mul_of_nonneg_left q2 (by omega)
        rw [Int.mul_add, Int.mul_one] at q3
        omega
      · omega
    omega
  · by_cases q : a / b < 9223372036854775808
    · exact q
    · have q3 : 1 * (a / b) ≤ b * (a / b) := Int.mul_le_mul_of_nonneg_right (by omega) (by omega)
      omega
theorem tdiv_floor {a b : Int} (hb : 0 < b) : a / b = if 0 ≤ a ∨ a.tdiv b * b = a then a.tdiv b else a.tdiv b - 1 := by
  have h := @Int.tdiv_eq_ediv a b
  have hs : b.sign = 1 := Int.sign_eq_one_of_pos hb
  rw [hs] at h
  by_cases h1 : 0 ≤ a
  · rw [if_pos (Or.inl h1)]
    rw [if_pos (Or.inl h1)] at h
    omega
  · by_cases h2 : b ∣ a
    · rw [if_pos (Or.inr h2)] at h
      rw [if_pos (Or.inr (Int.tdiv_mul_cancel h2))]
      omega
    · rw [if_neg (by rintro (q | q); exact h1 q; exact h2 q)] at h
      rw [if_neg]
      · omega
      · rintro (q | q)
        · exact h1 q
        · exact h2 ⟨a.tdiv b, by rw [Int.mul_comm]; exact q.symm⟩
theorem floorDiv_eq {a b : Int} (ha : nw a) (hb : nw b) (h0 : 0 < b) : fJ9_floorDiv_f86c9 (J a) (J b) = some (J (a / b)) := by
  unfold fJ9_floorDiv_f86c9
  rw [if_neg (J_ne0 hb (by omega)), J_div ha hb, J_mul, tdiv_floor h0]
  have hx := xor_neg (J a) (J b)
  rw [J_toInt ha, J_toInt hb] at hx
  by_cases h1 : 0 ≤ a
  · rw [if_pos (hx.mpr ⟨fun q => by omega, fun q => by omega⟩), if_pos (Or.inl h1)]
  · rw [if_neg (fun q => by have := (hx.mp q).mp (by omega); omega)]
    have nm : nw (a.tdiv b * b) := by
      have e := Int.tmod_def a b
      have e2 : (a.tmod b).natAbs ≤ a.natAbs := by rw [Int.natAbs_tmod]; exact Nat.mod_le _ _
      have e3 : 0 ≤ -(a.tmod b) := by
        have := Int.tmod_nonneg (a := -a) b (by omega)
        rw [Int.neg_tmod] at this
        exact this
      rw [Int.mul_comm] at e
      unfold nw at *
      omega
    by_cases h2 : a.tdiv b * b = a
    · rw [if_pos ((J_eq nm ha).mpr h2), if_pos (Or.inr h2)]
    · rw [if_neg (fun q => h2 ((J_eq nm ha).mp q)), if_neg (by rintro (q | q); exact h1 q; exact h2 q), J_1, J_sub]
theorem floor_eq {a b : Int} (ha : nw a) (hb : nw b) (h0 : 0 < b) : fX1_floor (J a) (J b) = some (J (a / b)) := by
  unfold fX1_floor
  have n0 := J_ne0 hb (show b ≠ 0 by omega)
  rw [if_neg n0, if_neg n0, J_rem ha hb, J_div ha hb, J_0, tdiv_floor h0]
  have nm : nw (a.tmod b) := nw_le ha (by rw [Int.natAbs_tmod]; exact Nat.mod_le _ _)
  have e := Int.tmod_def a b
  rw [Int.mul_comm] at e
  by_cases h1 : 0 ≤ a
  · rw [if_pos ((J_le nw_0 nm).mpr (Int.tmod_nonneg b h1)), if_pos (Or.inl h1)]
  · have e3 : 0 ≤ -(a.tmod b) := by
      have := Int.tmod_nonneg (a := -a) b (by omega)
      rw [Int.neg_tmod] at this
      exact this
    by_cases h2 : a.tdiv b * b = a
    · rw [if_pos ((J_le nw_0 nm).mpr (by omega)), if_pos (Or.inr h2)]
    · rw [if_neg (fun q => by have := (J_le nw_0 nm).mp q; omega), if_neg (by rintro (q | q); exact h1 q; exact h2 q), J_1, J_sub]
/-- the sign, as an int -/
def sgI (z : Int) : Int32 := if z < 0 then -1 else if z = 0 then 0 else 1
/-- the sign under a sign s -/
def sgS (s : Int32) (z : Int) : Int32 := if z < 0 then -s else if z = 0 then 0 else s
theorem sgS_1 (z : Int) : sgS 1 z = sgI z := rfl
theorem sgS_neg (s : Int32) (z : Int) : sgS (-s) (-z) = sgS s z := by
  unfold sgS
  by_cases h1 : z < 0
  · rw [if_pos h1, if_neg (by omega), if_neg (by omega)]
  · by_cases h2 : z = 0
    · rw [if_neg h1, if_pos h2, if_neg (by omega), if_pos (by omega)]
    · rw [if_neg h1, if_neg h2, if_pos (by omega), Int32.neg_neg]
theorem cmp_quot {a b c d : Int} (hb : 0 < b) (hd : 0 < d) (h : a / b < c / d) : a * d - c * b < 0 := by
  have h1 : a < b * (a / b) + b := Int.lt_mul_ediv_self_add hb
  have h2 : d * (c / d) ≤ c := Int.mul_ediv_self_le (by omega)
  have h3 : b * (a / b + 1) ≤ b * (c / d) := Int.mul_le_mul_of_nonneg_left (by omega) (by omega)
  rw [Int.mul_add, Int.mul_one] at h3
  have h4 : a < b * (c / d) := by omega
  have h5 : a * d < b * (c / d) * d := Int.mul_lt_mul_of_pos_right h4 hd
  have h6 : d * (c / d) * b ≤ c * b := Int.mul_le_mul_of_nonneg_right h2 (by omega)
  have h7 : b * (c / d) * d = d * (c / d) * b := by
    rw [Int.mul_assoc, Int.mul_comm b, Int.mul_comm (c / d) d]
  omega
theorem cmp_same {a b c d : Int} (h : a / b = c / d) : a * d - c * b = a % b * d - c % d * b := by
  have h1 := Int.emod_def a b
  have h2 := Int.emod_def c d
  rw [h1, h2, h, Int.sub_mul, Int.sub_mul]
  have : b * (c / d) * d = d * (c / d) * b := by
    rw [Int.mul_assoc, Int.mul_comm b, Int.mul_comm (c / d) d]
  omega
theorem cmp_step (k : Int64 × Int64 × Int64 × Int64 × Int32 × Int32 → Option Int32) {a b c d : Int} (ha : nw a) (hb : nw b) (hc : nw c) (hd : nw d) (b0 : 0 < b) (d0 : 0 < d) (s : Int32) {i : Nat} (hi : i < 200) (hk : a % b ≠ 0 → c % d ≠ 0 → k (J b, J (a % b), J d, J (c % d), -s, nI (i + 1)) = some (sgS (-s) (b * (c % d) - d * (a % b)))) : fX0_compared_B6 k (J a) (J b) (J c) (J d) s (nI i) = some (sgS s (a * d - c * b)) := by
  unfold fX0_compared_B6 fX0_compared_L100
  have n1 : ¬ (200 : Int32) ≤ nI i := nI_ge (b := 200) hi (by omega)
  rw [if_neg n1, J_0, if_neg (fun q => absurd ((J_le hb nw_0).mp q) (by omega)), if_neg (fun q => absurd ((J_le hd nw_0).mp q) (by omega)), floorDiv_eq ha hb b0, floorDiv_eq hc hd d0]
  simp only [Option.bind_some]
  have q1 := nw_ediv ha b0
  have q2 := nw_ediv hc d0
  have r1 : J a - J (a / b) * J b = J (a % b) := by rw [J_mul, J_sub, Int.emod_def, Int.mul_comm]
  have r2 : J c - J (c / d) * J d = J (c % d) := by rw [J_mul, J_sub, Int.emod_def, Int.mul_comm]
  have m1 := Int.emod_nonneg a (show b ≠ 0 by omega)
  have m2 := Int.emod_nonneg c (show d ≠ 0 by omega)
  have m3 := Int.emod_lt_of_pos a b0
  have m4 := Int.emod_lt_of_pos c d0
  have w1 : nw (a % b) := by unfold nw at *; omega
  have w2 : nw (c % d) := by unfold nw at *; omega
  rw [r1, r2]
  by_cases e : a / b = c / d
  · rw [if_pos ((J_eq q1 q2).mpr e), cmp_same e]
    have res : a % b = 0 ∨ c % d = 0 → (if J (c % d) ≤ J (a % b) then if J (a % b) ≤ J (c % d) then some 0 else some s else some (-s)) = some (sgS s (a % b * d - c % d * b)) := by
      intro h
      unfold sgS
      rcases h with h | h
      · rw [h, Int.zero_mul]
        by_cases z : c % d = 0
        · rw [z, Int.zero_mul]; rfl
        · have p : 0 < c % d * b := Int.mul_pos (by omega) b0
          rw [if_neg (fun q => by have := (J_le w2 nw_0).mp q; omega), if_pos (by omega)]
      · rw [h, Int.zero_mul]
        by_cases z : a % b = 0
        · rw [z, Int.zero_mul]; rfl
        · have p : 0 < a % b * d := Int.mul_pos (by omega) d0
          rw [if_pos ((J_le nw_0 w1).mpr (by omega)), if_neg (fun q => by have := (J_le w1 nw_0).mp q; omega), if_neg (by omega), if_neg (by omega)]
    by_cases z1 : a % b = 0
    · rw [if_pos ((J_eq w1 nw_0).mpr z1)]
      exact res (Or.inl z1)
    · rw [if_neg (fun q => z1 ((J_eq w1 nw_0).mp q))]
      by_cases z2 : c % d = 0
      · rw [if_pos ((J_eq w2 nw_0).mpr z2)]
        exact res (Or.inr z2)
      · rw [if_neg (fun q => z2 ((J_eq w2 nw_0).mp q)), nI_1, hk z1 z2, ← sgS_neg s]
        congr 2
        rw [Int.mul_comm b, Int.mul_comm d]
        omega
  · rw [if_neg (fun q => e ((J_eq q1 q2).mp q))]
    unfold sgS
    rcases Int.lt_or_gt_of_ne e with l | l
    · rw [if_neg (fun q => by have := (J_le q2 q1).mp q; omega), if_pos (cmp_quot b0 d0 l)]
    · have := cmp_quot d0 b0 l
      rw [if_pos ((J_le q2 q1).mpr (by omega)), if_neg (by omega), if_neg (by omega)]
theorem cmp_loop : ∀ (k : Nat) (a b : Nat) (c d : Int) (s : Int32) (i f : Nat), 0 < b → b ≤ a → a < 9223372036854775808 → nw c → nw d → 0 < d → a * b < 2 ^ k → i + k ≤ 200 → k ≤ f → lp (fun k t => fX0_compared_B6 k t.1 t.2.1 t.2.2.1 t.2.2.2.1 t.2.2.2.2.1 t.2.2.2.2.2) f (J a, J b, J c, J d, s, nI i) = some (sgS s (a * d - c * b)) := by
  intro k
  induction k with
  | zero =>
    intro a b c d s i f hb hab ha hc hd d0 hk hi hf
    obtain ⟨j, hj, -⟩ := gcd_meas hb hab hk
    omega
  | succ k ih =>
    intro a b c d s i f hb hab ha hc hd d0 hk hi hf
    obtain ⟨f, rfl⟩ : ∃ g, f = g + 1 := ⟨f - 1, by omega⟩
    rw [lp_succ]
    refine cmp_step _ (nw_nat ha) (nw_nat (by omega)) hc hd (by omega) d0 s (by omega) (fun h1 h2 => ?_)
    obtain ⟨j, hj, hm⟩ := gcd_meas hb hab hk
    have hj' : j = k := by omega
    subst hj'
    have e : ((a : Int) % (b : Int)) = ((a % b : Nat) : Int) := rfl
    have m2 := Int.emod_nonneg c (show d ≠ 0 by omega)
    have m4 := Int.emod_lt_of_pos c d0
    rw [e]
    refine ih b (a % b) d (c % d) (-s) (i + 1) f ?_ (Nat.le_of_lt (Nat.mod_lt _ hb)) (by omega) hd (by unfold nw at *; omega) (by omega) hm (by omega) (by omega)
    rw [e] at h1
    omega
theorem cmp0 {a b c d : Int} (ha : nw a) (hb : nw b) (hc : nw c) (hd : nw d) (b0 : 0 < b) (d0 : 0 < d) : fX0_compared (J a) (J b) (J c) (J d) = some (sgI (a * d - c * b)) := by
  unfold fX0_compared fX0_compared_L6
  show lp _ (69999 + 1) (J a, J b, J c, J d, 1, nI 0) = _
  rw [lp_succ, ← sgS_1]
  refine cmp_step _ ha hb hc hd b0 d0 1 (by omega) (fun h1 h2 => ?_)
  have h1' : 0 < a % b := by have := Int.emod_nonneg a (show b ≠ 0 by omega); omega
  have m1 := Int.emod_nonneg a (show b ≠ 0 by omega)
  have m2 := Int.emod_nonneg c (show d ≠ 0 by omega)
  have m3 := Int.emod_lt_of_pos a b0
  have m4 := Int.emod_lt_of_pos c d0
  obtain ⟨x, hx⟩ : ∃ x : Nat, b = (x : Int) := ⟨b.toNat, by omega⟩
  obtain ⟨y, hy⟩ : ∃ y : Nat, a % b = (y : Int) := ⟨(a % b).toNat, by omega⟩
  rw [hy] at m1 m3 h1' ⊢
  rw [hx] at m3 hb ⊢
  have hx' : x < 9223372036854775808 := by unfold nw at hb; omega
  exact cmp_loop 126 x y d (c % d) (-1) 1 69999 (by omega) (by omega) hx' hd (by unfold nw at *; omega) (by omega) (mul63 hx' (by omega)) (by omega) (by omega)
