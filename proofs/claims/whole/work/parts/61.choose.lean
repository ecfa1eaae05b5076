/-! PURE: choose -/
def ch : Nat → Nat → Nat
  | _, 0 => 1
  | 0, _ + 1 => 0
  | n + 1, k + 1 => ch n k + ch n (k + 1)
theorem ch_0 (n : Nat) : ch n 0 = 1 := by cases n <;> rfl
theorem ch_s (n k : Nat) : ch (n + 1) (k + 1) = ch n k + ch n (k + 1) := rfl
theorem ch_gt : ∀ (n k : Nat), n < k → ch n k = 0 := by
  intro n
  induction n with
  | zero =>
    intro k h
    cases k with
    | zero => omega
    | succ k => rfl
  | succ n ih =>
    intro k h
    cases k with
    | zero => omega
    | succ k => rw [ch_s, ih k (by omega), ih (k + 1) (by omega)]
theorem ch_pos : ∀ (n k : Nat), k ≤ n → 0 < ch n k := by
  intro n
  induction n with
  | zero =>
    intro k h
    have : k = 0 := by omega
    subst this
    rw [ch_0]
    omega
  | succ n ih =>
    intro k h
    cases k with
    | zero => rw [ch_0]; omega
    | succ k =>
      have := ih k (by omega)
      rw [ch_s]
      omega
theorem ch_S : ∀ (n k : Nat), (n + 1) * ch n k = ch (n + 1) (k + 1) * (k + 1) := by
  intro n
  induction n with
  | zero =>
    intro k
    cases k with
    | zero => rfl
    | succ k => rw [ch_gt 0 (k + 1) (by omega), ch_gt 1 (k + 2) (by omega)]; omega
  | succ n ih =>
    intro k
    cases k with
    | zero =>
      have := ih 0
      rw [ch_0] at *
      rw [ch_s, ch_0]
      omega
    | succ k =>
      have h1 := ih k
      have h2 := ih (k + 1)
      have e : ch (n + 1) (k + 1) * (k + 1 + 1) = ch (n + 1) (k + 1) * (k + 1) + ch (n + 1) (k + 1) := Nat.mul_succ _ _
      have e2 : (n + 1) * ch (n + 1) (k + 1) = (n + 1) * ch n k + (n + 1) * ch n (k + 1) := by rw [ch_s n k, Nat.mul_add]
      have e3 : (n + 1 + 1) * ch (n + 1) (k + 1) = (n + 1) * ch (n + 1) (k + 1) + ch (n + 1) (k + 1) := Nat.succ_mul _ _
      rw [ch_s (n + 1) (k + 1), Nat.add_mul (ch (n + 1) (k + 1)) (ch (n + 1) (k + 1 + 1)) (k + 1 + 1), e, ← h1, ← h2, e3, e2]
      omega
theorem ch_mul (n k : Nat) : ch n (k + 1) * (k + 1) = ch n k * (n - k) := by
  by_cases h : k ≤ n
  · have := ch_S n k
    rw [ch_s, Nat.add_mul (ch n k) (ch n (k + 1)) (k + 1), Nat.mul_comm (n + 1)] at this
    have e : ch n k * (n + 1) = ch n k * (k + 1) + ch n k * (n - k) := by
      rw [← Nat.mul_add]
      congr 1
      omega
    omega
  · rw [ch_gt n k (by omega), ch_gt n (k + 1) (by omega)]
    omega
theorem ch_mono (n k : Nat) : ∀ d, ch n k ≤ ch (n + d) k := by
  intro d
  induction d with
  | zero => exact Nat.le_refl _
  | succ d ih =>
    refine Nat.le_trans ih ?_
    cases k with
    | zero => rw [ch_0, ch_0]; omega
    | succ k =>
      rw [← Nat.add_assoc, ch_s]
      omega
theorem ch_two : ∀ (n k : Nat), ch n k ≤ 2 ^ n := by
  intro n
  induction n with
  | zero =>
    intro k
    cases k with
    | zero => exact Nat.le_refl _
    | succ k => rw [ch_gt 0 (k + 1) (by omega)]; omega
  | succ n ih =>
    intro k
    have p : 1 ≤ 2 ^ n := Nat.one_le_two_pow
    cases k with
    | zero => rw [ch_0, Nat.pow_succ]; omega
    | succ k =>
      have h1 := ih k
      have h2 := ih (k + 1)
      rw [ch_s, Nat.pow_succ]
      omega
def cf : Nat → Nat
  | 0 => 1
  | i + 1 => cf i * (60 - i) / (i + 1)
theorem cf_eq : ∀ i, ch 60 i = cf i := by
  intro i
  induction i with
  | zero => rfl
  | succ i ih =>
    show ch 60 (i + 1) = cf i * (60 - i) / (i + 1)
    rw [← ih, ← ch_mul, Nat.mul_div_cancel _ (by omega)]
theorem cf_b : ∀ i, i < 61 → cf i * 60 < 9223372036854775808 := by decide +kernel
theorem ch_b {n k : Nat} (hn : n ≤ 60) : ch n k * 60 < 9223372036854775808 := by
  by_cases h : k < 61
  · have h1 := ch_mono n k (60 - n)
    rw [show n + (60 - n) = 60 by omega, cf_eq] at h1
    have := cf_b k h
    omega
  · rw [ch_gt n k (by omega)]
    omega
/-! the class's -/
theorem c0_loop {n k : Nat} (hn : n ≤ 60) (hk : k ≤ n) : ∀ (d i f : Nat), i + d = k → d < f → lp (fun k t => fX0_choose_B16 k t.1 t.2.1 t.2.2.1 t.2.2.2) f (nI n, nI k, J ((ch n i : Nat) : Int), nI i) = some (J ((ch n k : Nat) : Int)) := by
  intro d
  induction d with
  | zero =>
    intro i f hi hf
    obtain ⟨f, rfl⟩ : ∃ g, f = g + 1 := ⟨f - 1, by omega⟩
    have : i = k := by omega
    subst this
    rw [lp_succ]
    show fX0_choose_B16 _ (nI n) (nI i) _ (nI i) = _
    unfold fX0_choose_B16
    rw [if_pos (Int32.le_refl _)]
  | succ d ih =>
    intro i f hi hf
    obtain ⟨f, rfl⟩ : ∃ g, f = g + 1 := ⟨f - 1, by omega⟩
    rw [lp_succ]
    show fX0_choose_B16 _ (nI n) (nI k) _ (nI i) = _
    unfold fX0_choose_B16
    have e1 : nI n - nI i = nI (n - i) := by
      apply Int32.toInt_inj.mp
      rw [pk_sub_toInt (by omega) (by omega), nI_toInt (by omega)]
      omega
    have b := ch_b (k := i) hn
    have b2 : ch n i * (n - i) ≤ ch n i * 60 := Nat.mul_le_mul_left _ (by omega)
    rw [if_neg (nI_ge (show i < k by omega) (by omega)), nI_1, nI_toL (by omega), if_neg (J_ne0 (nw_nat (by omega)) (by omega)), e1, nI_toL (by omega), J_mulN, J_divN (by omega) (by omega), ← ch_mul, Nat.mul_div_cancel _ (by omega)]
    exact ih (i + 1) f (by omega) (by omega)
theorem choose0 {n k : Nat} (hn : n ≤ 60) : fX0_choose (nI n) (nI k) = some (J ((ch n k : Nat) : Int)) ∨ ¬ k < 2147483648 := by
  by_cases hk : k < 2147483648
  · left
    unfold fX0_choose
    rw [if_neg (nI_pos (by omega))]
    by_cases h : k ≤ n
    · rw [if_pos (nI_le h (by omega))]
      have := c0_loop hn h k 0 FU (by omega) (by unfold FU; omega)
      rw [ch_0] at this
      exact this
    · rw [if_neg (nI_ge (by omega) (by omega)), ch_gt n k (by omega)]
      rfl
  · exact Or.inr hk
theorem choose0' {n k : Nat} (hn : n ≤ 60) (hk : k < 2147483648) : fX0_choose (nI n) (nI k) = some (J ((ch n k : Nat) : Int)) := (choose0 hn).resolve_right (fun q => q hk)
theorem choose0_neg {x y : Int32} (h : y < 0) : fX0_choose x y = some 0 := by
  unfold fX0_choose
  rw [if_pos h]
theorem choose1_neg {x y : Int32} (h : y < 0) : fX1_choose x y = some 0 := by
  unfold fX1_choose
  rw [if_pos h]
/-! the model's -/
theorem gcd_step {c i m e : Nat} (i0 : 0 < i) (h : c * m = e * i) : i / Nat.gcd c i ∣ m ∧ c / Nat.gcd c i * (m / (i / Nat.gcd c i)) = e := by
  have g0 : 0 < Nat.gcd c i := Nat.gcd_pos_of_pos_right _ i0
  obtain ⟨x, hx⟩ := Nat.gcd_dvd_left c i
  obtain ⟨y, hy⟩ := Nat.gcd_dvd_right c i
  have hcop : Nat.Coprime (c / Nat.gcd c i) (i / Nat.gcd c i) := Nat.coprime_div_gcd_div_gcd g0
  generalize Nat.gcd c i = g at *
  subst hx hy
  rw [Nat.mul_div_cancel_left _ g0, Nat.mul_div_cancel_left _ g0] at *
  have y0 : 0 < y := Nat.pos_of_mul_pos_left i0 |> fun _ => by
    by_cases z : y = 0
    · rw [z] at i0; omega
    · omega
  have h2 : x * m = e * y := by
    rw [Nat.mul_assoc, Nat.mul_left_comm e] at h
    exact Nat.eq_of_mul_eq_mul_left g0 h
  have d : y ∣ m := hcop.symm.dvd_of_dvd_mul_left ⟨e, by rw [h2, Nat.mul_comm]⟩
  refine ⟨d, ?_⟩
  obtain ⟨t, rfl⟩ := d
  rw [Nat.mul_div_cancel_left _ y0]
  rw [Nat.mul_left_comm, Nat.mul_comm e] at h2
  exact Nat.eq_of_mul_eq_mul_left y0 h2
theorem c1_loop {n k : Nat} (hn : n ≤ 60) (hk : k ≤ n) : ∀ (d i f : Nat), i + d = k → d < f → lp (fun k t => fX1_choose_B16 k t.1 t.2.1 t.2.2.1 t.2.2.2) f (nI n, nI k, J ((ch (n - k + i) i : Nat) : Int), nI (i + 1)) = some (J ((ch n k : Nat) : Int)) := by
  intro d
  induction d with
  | zero =>
    intro i f hi hf
    obtain ⟨f, rfl⟩ : ∃ g, f = g + 1 := ⟨f - 1, by omega⟩
    have : i = k := by omega
    subst this
    rw [lp_succ]
    show fX1_choose_B16 _ (nI n) (nI i) _ (nI (i + 1)) = _
    unfold fX1_choose_B16
    rw [if_pos (nI_lt (by omega) (by omega)), show n - i + i = n by omega]
  | succ d ih =>
    intro i f hi hf
    obtain ⟨f, rfl⟩ : ∃ g, f = g + 1 := ⟨f - 1, by omega⟩
    rw [lp_succ]
    show fX1_choose_B16 _ (nI n) (nI k) _ (nI (i + 1)) = _
    unfold fX1_choose_B16
    have e1 : nI n - nI k + nI (i + 1) = nI (n - k + i + 1) := by
      have e : nI n - nI k = nI (n - k) := by
        apply Int32.toInt_inj.mp
        rw [pk_sub_toInt (by omega) (by omega), nI_toInt (by omega)]
        omega
      rw [e, nI_add]
      rfl
    have hS := ch_S (n - k + i) i
    rw [Nat.mul_comm] at hS
    obtain ⟨g1, g2'⟩ := gcd_step (show 0 < i + 1 by omega) hS
    have b := ch_b (n := n - k + i) (k := i) (by omega)
    have gle : Nat.gcd (ch (n - k + i) i) (i + 1) ≤ i + 1 := Nat.gcd_le_right _ (by omega)
    have g0 : 0 < Nat.gcd (ch (n - k + i) i) (i + 1) := Nat.gcd_pos_of_pos_right _ (by omega)
    have q0 : 0 < (i + 1) / Nat.gcd (ch (n - k + i) i) (i + 1) := Nat.div_pos gle g0
    have q1 : (i + 1) / Nat.gcd (ch (n - k + i) i) (i + 1) ≤ i + 1 := Nat.div_le_self _ _
    have gd := gd1_eq (u := ((ch (n - k + i) i : Nat) : Int)) (v := ((i + 1 : Nat) : Int)) (nw_nat (by omega)) (nw_nat (by omega))
    rw [Int.natAbs_natCast, Int.natAbs_natCast] at gd
    rw [if_neg (show ¬ nI k < nI (i + 1) from fun q => by
      have := i_lt.mp q
      rw [nI_toInt (by omega), nI_toInt (by omega)] at this
      omega), nI_toL (show i + 1 < 2147483648 by omega), gd, Option.bind_some]
    generalize hg : Nat.gcd (ch (n - k + i) i) (i + 1) = g at *
    have ng := J_ne0 (nw_nat (show g < 9223372036854775808 by omega)) (show ((g : Nat) : Int) ≠ 0 by omega)
    rw [if_neg ng, if_neg ng, J_divN (by omega) (by omega), if_neg (J_ne0 (nw_nat (by omega)) (by omega)), e1, nI_toL (by omega), J_divN (by omega) (by omega), J_divN (by omega) (by omega), J_mulN, g2', nI_1]
    exact ih (i + 1) f (by omega) (by omega)
theorem choose1' {n k : Nat} (hn : n ≤ 60) (hk : k < 2147483648) : fX1_choose (nI n) (nI k) = some (J ((ch n k : Nat) : Int)) := by
  unfold fX1_choose
  rw [if_neg (nI_pos (by omega))]
  by_cases h : k ≤ n
  · rw [if_pos (nI_le h (by omega))]
    have := c1_loop hn h k 0 FU (by omega) (by unfold FU; omega)
    rw [ch_0] at this
    exact this
  · rw [if_neg (nI_ge (by omega) (by omega)), ch_gt n k (by omega)]
    rfl
