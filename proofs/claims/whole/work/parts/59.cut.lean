/-! PURE: power, cut -/
theorem pow_lt {b n i : Nat} (h : b ^ n < 9223372036854775808) (hi : i ≤ n) : b ^ i < 9223372036854775808 := by
  by_cases z : b = 0
  · subst z
    have := Nat.pow_le_pow_left (show 0 ≤ 1 by omega) i
    rw [Nat.one_pow] at this
    omega
  · exact Nat.lt_of_le_of_lt (Nat.pow_le_pow_right (by omega) hi) h
theorem p0_ok {b n : Nat} (hb : b < 9223372036854775808) (hn : n ≤ 60) (h : b ^ n < 9223372036854775808) : ∀ (d i f : Nat), i + d = n → d < f → lp (fun k t => fX0_power_B5 k t.1 t.2.1 t.2.2.1 t.2.2.2) f (J (b : Int), nI n, J ((b ^ i : Nat) : Int), nI i) = some (J ((b ^ n : Nat) : Int)) := by
  intro d
  induction d with
  | zero =>
    intro i f hi hf
    obtain ⟨f, rfl⟩ : ∃ g, f = g + 1 := ⟨f - 1, by omega⟩
    have : i = n := by omega
    subst this
    rw [lp_succ]
    show fX0_power_B5 _ (J (b : Int)) (nI i) (J ((b ^ i : Nat) : Int)) (nI i) = _
    unfold fX0_power_B5
    rw [if_pos (Int32.le_refl _)]
  | succ d ih =>
    intro i f hi hf
    obtain ⟨f, rfl⟩ : ∃ g, f = g + 1 := ⟨f - 1, by omega⟩
    have e : ((b ^ i : Nat) : Int) * (b : Int) = ((b ^ (i + 1) : Nat) : Int) := by rw [Nat.pow_succ]; simp
    rw [lp_succ]
    show fX0_power_B5 _ (J (b : Int)) (nI n) (J ((b ^ i : Nat) : Int)) (nI i) = _
    unfold fX0_power_B5
    rw [if_neg (nI_ge (by omega) (by omega)), times0_ok (nw_nat (pow_lt h (by omega))) (nw_nat hb) (by rw [e]; exact nw_nat (pow_lt h (by omega))), e, Option.bind_some, nI_1]
    exact ih (i + 1) f (by omega) (by omega)
theorem power0_ok {b n : Nat} (hb : b < 9223372036854775808) (hn : n ≤ 60) (h : b ^ n < 9223372036854775808) : fX0_power (J (b : Int)) (nI n) = some (J ((b ^ n : Nat) : Int)) := p0_ok hb hn h n 0 FU (by omega) (by unfold FU; omega)
theorem p0_m {b n : Nat} (hb : b < 9223372036854775808) (hn : n ≤ 60) : ∀ (d i f : Nat), i + d = n → d < f → lp (fun k t => fX0_power_B5 k t.1 t.2.1 t.2.2.1 t.2.2.2) f (J (b : Int), nI n, (-9223372036854775808 : Int64), nI i) = some (-9223372036854775808 : Int64) := by
  intro d
  induction d with
  | zero =>
    intro i f hi hf
    obtain ⟨f, rfl⟩ : ∃ g, f = g + 1 := ⟨f - 1, by omega⟩
    have : i = n := by omega
    subst this
    rw [lp_succ]
    show fX0_power_B5 _ (J (b : Int)) (nI i) _ (nI i) = _
    unfold fX0_power_B5
    rw [if_pos (Int32.le_refl _)]
  | succ d ih =>
    intro i f hi hf
    obtain ⟨f, rfl⟩ : ∃ g, f = g + 1 := ⟨f - 1, by omega⟩
    rw [lp_succ]
    show fX0_power_B5 _ (J (b : Int)) (nI n) _ (nI i) = _
    unfold fX0_power_B5
    rw [if_neg (nI_ge (by omega) (by omega)), times0_m1, Option.bind_some, nI_1]
    exact ih (i + 1) f (by omega) (by omega)
theorem p0_w {b n : Nat} (hb : b < 9223372036854775808) (hn : n ≤ 60) (h : ¬ b ^ n < 9223372036854775808) : ∀ (d i f : Nat), i + d = n → d < f → b ^ i < 9223372036854775808 → lp (fun k t => fX0_power_B5 k t.1 t.2.1 t.2.2.1 t.2.2.2) f (J (b : Int), nI n, J ((b ^ i : Nat) : Int), nI i) = some (-9223372036854775808 : Int64) := by
  intro d
  induction d with
  | zero =>
    intro i f hi hf q
    have : i = n := by omega
    subst this
    exact absurd q h
  | succ d ih =>
    intro i f hi hf q
    obtain ⟨f, rfl⟩ : ∃ g, f = g + 1 := ⟨f - 1, by omega⟩
    have e : ((b ^ i : Nat) : Int) * (b : Int) = ((b ^ (i + 1) : Nat) : Int) := by rw [Nat.pow_succ]; simp
    rw [lp_succ]
    show fX0_power_B5 _ (J (b : Int)) (nI n) (J ((b ^ i : Nat) : Int)) (nI i) = _
    unfold fX0_power_B5
    rw [if_neg (nI_ge (by omega) (by omega))]
    by_cases z : b ^ (i + 1) < 9223372036854775808
    · rw [times0_ok (nw_nat q) (nw_nat hb) (by rw [e]; exact nw_nat z), e, Option.bind_some, nI_1]
      exact ih (i + 1) f (by omega) (by omega) z
    · rw [times0_w (nw_nat q) (nw_nat hb) (by rw [e]; unfold nw; omega), Option.bind_some, nI_1]
      exact p0_m hb hn d (i + 1) f (by omega) (by omega)
theorem power0_w {b n : Nat} (hb : b < 9223372036854775808) (hn : n ≤ 60) (h : ¬ b ^ n < 9223372036854775808) : fX0_power (J (b : Int)) (nI n) = some (-9223372036854775808 : Int64) := p0_w hb hn h n 0 FU (by omega) (by unfold FU; omega) (by rw [Nat.pow_zero]; omega)
/-! the model's -/
theorem p1_ok (τ : MS) {b n : Nat} (hb : b < 9223372036854775808) (hn : n ≤ 60) (h : b ^ n < 9223372036854775808) : ∀ (d i f : Nat), i + d = n → d < f → lp (fun k t => fX1_power_B6 t.2.2.2.2 k t.1 t.2.1 t.2.2.1 t.2.2.2.1) f (J (b : Int), nI n, J ((b ^ i : Nat) : Int), nI i, τ) = some (J ((b ^ n : Nat) : Int), τ) := by
  intro d
  induction d with
  | zero =>
    intro i f hi hf
    obtain ⟨f, rfl⟩ : ∃ g, f = g + 1 := ⟨f - 1, by omega⟩
    have : i = n := by omega
    subst this
    rw [lp_succ]
    show fX1_power_B6 τ _ (J (b : Int)) (nI i) (J ((b ^ i : Nat) : Int)) (nI i) = _
    unfold fX1_power_B6
    rw [if_pos (Int32.le_refl _)]
  | succ d ih =>
    intro i f hi hf
    obtain ⟨f, rfl⟩ : ∃ g, f = g + 1 := ⟨f - 1, by omega⟩
    have e : ((b ^ i : Nat) : Int) * (b : Int) = ((b ^ (i + 1) : Nat) : Int) := by rw [Nat.pow_succ]; simp
    rw [lp_succ]
    show fX1_power_B6 τ _ (J (b : Int)) (nI n) (J ((b ^ i : Nat) : Int)) (nI i) = _
    unfold fX1_power_B6
    rw [if_neg (nI_ge (by omega) (by omega)), times1_ok τ (nw_nat (pow_lt h (by omega))) (nw_nat hb) (by rw [e]; exact nw_nat (pow_lt h (by omega))), e, Option.bind_some, nI_1]
    exact ih (i + 1) f (by omega) (by omega)
theorem power1_ok (τ : MS) {b n : Nat} (hb : b < 9223372036854775808) (hn : n ≤ 60) (h : b ^ n < 9223372036854775808) : fX1_power τ (J (b : Int)) (nI n) = some (J ((b ^ n : Nat) : Int), τ) := p1_ok τ hb hn h n 0 FU (by omega) (by unfold FU; omega)
theorem p1_m (τ : MS) {b n : Nat} (hb : b < 9223372036854775808) (hn : n ≤ 60) : ∀ (d i f : Nat), i + d = n → d < f → lp (fun k t => fX1_power_B6 t.2.2.2.2 k t.1 t.2.1 t.2.2.1 t.2.2.2.1) f (J (b : Int), nI n, J 0, nI i, τ) = some (J 0, τ) := by
  intro d
  induction d with
  | zero =>
    intro i f hi hf
    obtain ⟨f, rfl⟩ : ∃ g, f = g + 1 := ⟨f - 1, by omega⟩
    have : i = n := by omega
    subst this
    rw [lp_succ]
    show fX1_power_B6 τ _ (J (b : Int)) (nI i) (J 0) (nI i) = _
    unfold fX1_power_B6
    rw [if_pos (Int32.le_refl _)]
  | succ d ih =>
    intro i f hi hf
    obtain ⟨f, rfl⟩ : ∃ g, f = g + 1 := ⟨f - 1, by omega⟩
    rw [lp_succ]
    show fX1_power_B6 τ _ (J (b : Int)) (nI n) (J 0) (nI i) = _
    unfold fX1_power_B6
    rw [if_neg (nI_ge (by omega) (by omega)), times1_ok τ nw_0 (nw_nat hb) (by rw [Int.zero_mul]; exact nw_0), Int.zero_mul, Option.bind_some, nI_1]
    exact ih (i + 1) f (by omega) (by omega)
theorem p1_w (τ : MS) {b n : Nat} (hb : b < 9223372036854775808) (hn : n ≤ 60) (h : ¬ b ^ n < 9223372036854775808) : ∀ (d i f : Nat), i + d = n → d < f → b ^ i < 9223372036854775808 → lp (fun k t => fX1_power_B6 t.2.2.2.2 k t.1 t.2.1 t.2.2.1 t.2.2.2.1) f (J (b : Int), nI n, J ((b ^ i : Nat) : Int), nI i, τ) = some (J 0, sm_isWide τ 1) := by
  intro d
  induction d with
  | zero =>
    intro i f hi hf q
    have : i = n := by omega
    subst this
    exact absurd q h
  | succ d ih =>
    intro i f hi hf q
    obtain ⟨f, rfl⟩ : ∃ g, f = g + 1 := ⟨f - 1, by omega⟩
    have e : ((b ^ i : Nat) : Int) * (b : Int) = ((b ^ (i + 1) : Nat) : Int) := by rw [Nat.pow_succ]; simp
    rw [lp_succ]
    show fX1_power_B6 τ _ (J (b : Int)) (nI n) (J ((b ^ i : Nat) : Int)) (nI i) = _
    unfold fX1_power_B6
    rw [if_neg (nI_ge (by omega) (by omega))]
    by_cases z : b ^ (i + 1) < 9223372036854775808
    · rw [times1_ok τ (nw_nat q) (nw_nat hb) (by rw [e]; exact nw_nat z), e, Option.bind_some, nI_1]
      exact ih (i + 1) f (by omega) (by omega) z
    · rw [times1_w τ (nw_nat q) (nw_nat hb) (by rw [e]; unfold nw; omega), Option.bind_some, nI_1]
      exact p1_m (sm_isWide τ 1) hb hn d (i + 1) f (by omega) (by omega)
theorem power1_w (τ : MS) {b n : Nat} (hb : b < 9223372036854775808) (hn : n ≤ 60) (h : ¬ b ^ n < 9223372036854775808) : fX1_power τ (J (b : Int)) (nI n) = some (J 0, sm_isWide τ 1) := p1_w τ hb hn h n 0 FU (by omega) (by unfold FU; omega) (by rw [Nat.pow_zero]; omega)
/-! cut -/
theorem ceil_eq {m v : Int} (hv : 0 < v) : -((-m) / v) = if m.tmod v = 0 then m / v else m / v + 1 := by
  have e := Int.mul_ediv_add_emod m v
  have r0 := Int.emod_nonneg m (show v ≠ 0 by omega)
  have r1 := Int.emod_lt_of_pos m hv
  by_cases z : m.tmod v = 0
  · rw [if_pos z]
    have d := Int.dvd_of_tmod_eq_zero z
    rw [Int.neg_ediv_of_dvd d]
    omega
  · rw [if_neg z]
    have z2 : m % v ≠ 0 := fun q => z (Int.tmod_eq_zero_of_dvd (Int.dvd_of_emod_eq_zero q))
    have := (Int.ediv_emod_unique (a := -m) (b := v) (r := v - m % v) (q := -(m / v) - 1) hv).mpr ⟨by rw [Int.mul_sub, Int.mul_neg, Int.mul_one]; omega, by omega, by omega⟩
    rw [this.1]
    omega
theorem pow10 {U : Int} {D i : Nat} (h : nw (U * ((10 ^ D : Nat) : Int))) (hi : i ≤ D) : nw (U * ((10 ^ i : Nat) : Int)) := by
  refine nw_le h ?_
  rw [Int.natAbs_mul, Int.natAbs_mul]
  exact Nat.mul_le_mul_left _ (Nat.pow_le_pow_right (by omega) hi)
theorem J_10 : (10 : Int64) = J 10 := by decide
theorem nw_10 : nw 10 := by unfold nw; omega
def cutE (τ : MS) (i : Nat) (x3 : Int32) (u : Int64) : Option (Int64 × MS) := ((fX1_floor u ((m_lower τ) i)).bind fun o4 => (if x3 = (0 : Int32) then (some (o4, τ)) else (if ((m_lower τ) i) = (0 : Int64) then none else (if (lmd u ((m_lower τ) i)) = (0 : Int64) then (some (o4, τ)) else (some ((o4 + (1 : Int64)), τ))))))
theorem c45_ok (τ : MS) (hw : m_isWide τ = 0) {i D : Nat} (hi : i < 40) (hD : D ≤ 15) (x3 : Int32) {U : Int} (h : nw (U * ((10 ^ D : Nat) : Int))) : ∀ (d k f : Nat), k + d = D → d < f → lp (fun k t => fX1_cut_B45 t.2.2.2.2.2 k t.1 t.2.1 t.2.2.1 t.2.2.2.1 t.2.2.2.2.1) f (nI i, nI D, x3, J (U * ((10 ^ k : Nat) : Int)), nI k, τ) = cutE τ i x3 (J (U * ((10 ^ D : Nat) : Int))) := by
  intro d
  have xi : ix (nI i) 41 = true := nI_ix (by omega) (by omega)
  induction d with
  | zero =>
    intro k f hk hf
    obtain ⟨f, rfl⟩ : ∃ g, f = g + 1 := ⟨f - 1, by omega⟩
    have : k = D := by omega
    subst this
    rw [lp_succ]
    show fX1_cut_B45 τ _ (nI i) (nI k) x3 _ (nI k) = _
    unfold fX1_cut_B45 cutE
    simp only [if_pos (Int32.le_refl _), if_pos hw, if_pos xi, nI_toNat (show i < 2147483648 by omega)]
  | succ d ih =>
    intro k f hk hf
    obtain ⟨f, rfl⟩ : ∃ g, f = g + 1 := ⟨f - 1, by omega⟩
    have e : U * ((10 ^ k : Nat) : Int) * 10 = U * ((10 ^ (k + 1) : Nat) : Int) := by rw [Nat.pow_succ, Int.mul_assoc]; simp
    rw [lp_succ]
    show fX1_cut_B45 τ _ (nI i) (nI D) x3 _ (nI k) = _
    unfold fX1_cut_B45
    rw [if_neg (nI_ge (by omega) (by omega)), J_10, times1_ok τ (pow10 h (by omega)) nw_10 (by rw [e]; exact pow10 h (by omega)), e, Option.bind_some, nI_1]
    exact ih (k + 1) f (by omega) (by omega)
theorem c45_m (τ : MS) (hw : ¬ m_isWide τ = 0) {i D : Nat} (hi : i < 40) (hD : D ≤ 15) (x3 : Int32) : ∀ (d k f : Nat), k + d = D → d < f → lp (fun k t => fX1_cut_B45 t.2.2.2.2.2 k t.1 t.2.1 t.2.2.1 t.2.2.2.1 t.2.2.2.2.1) f (nI i, nI D, x3, J 0, nI k, τ) = some ((-9223372036854775808 : Int64), τ) := by
  intro d
  induction d with
  | zero =>
    intro k f hk hf
    obtain ⟨f, rfl⟩ : ∃ g, f = g + 1 := ⟨f - 1, by omega⟩
    have : k = D := by omega
    subst this
    rw [lp_succ]
    show fX1_cut_B45 τ _ (nI i) (nI k) x3 _ (nI k) = _
    unfold fX1_cut_B45
    simp only [if_pos (Int32.le_refl _), if_neg hw]
  | succ d ih =>
    intro k f hk hf
    obtain ⟨f, rfl⟩ : ∃ g, f = g + 1 := ⟨f - 1, by omega⟩
    rw [lp_succ]
    show fX1_cut_B45 τ _ (nI i) (nI D) x3 _ (nI k) = _
    unfold fX1_cut_B45
    rw [if_neg (nI_ge (by omega) (by omega)), J_10, times1_ok τ nw_0 nw_10 (by rw [Int.zero_mul]; exact nw_0), Int.zero_mul, Option.bind_some, nI_1]
    exact ih (k + 1) f (by omega) (by omega)
theorem c45_w (τ : MS) {i D : Nat} (hi : i < 40) (hD : D ≤ 15) (x3 : Int32) {U : Int} (h : ¬ nw (U * ((10 ^ D : Nat) : Int))) : ∀ (d k f : Nat), k + d = D → d < f → nw (U * ((10 ^ k : Nat) : Int)) → lp (fun k t => fX1_cut_B45 t.2.2.2.2.2 k t.1 t.2.1 t.2.2.1 t.2.2.2.1 t.2.2.2.2.1) f (nI i, nI D, x3, J (U * ((10 ^ k : Nat) : Int)), nI k, τ) = some ((-9223372036854775808 : Int64), sm_isWide τ 1) := by
  intro d
  induction d with
  | zero =>
    intro k f hk hf q
    have : k = D := by omega
    subst this
    exact absurd q h
  | succ d ih =>
    intro k f hk hf q
    obtain ⟨f, rfl⟩ : ∃ g, f = g + 1 := ⟨f - 1, by omega⟩
    have e : U * ((10 ^ k : Nat) : Int) * 10 = U * ((10 ^ (k + 1) : Nat) : Int) := by rw [Nat.pow_succ, Int.mul_assoc]; simp
    rw [lp_succ]
    show fX1_cut_B45 τ _ (nI i) (nI D) x3 _ (nI k) = _
    unfold fX1_cut_B45
    rw [if_neg (nI_ge (by omega) (by omega)), J_10]
    by_cases z : nw (U * ((10 ^ (k + 1) : Nat) : Int))
    · rw [times1_ok τ q nw_10 (by rw [e]; exact z), e, Option.bind_some, nI_1]
      exact ih (k + 1) f (by omega) (by omega) z
    · rw [times1_w τ q nw_10 (by rw [e]; exact z), Option.bind_some, nI_1]
      exact c45_m (sm_isWide τ 1) (show ¬ (1 : Int32) = 0 from one_ne) hi hD x3 d (k + 1) f (by omega) (by omega)
theorem pu_cut {σ : CS} {τ : MS} (h : Rel σ τ) (x y b : Int32) : ∃ r τ', fX0_cut σ x y b = some r ∧ fX1_cut τ x y b = some (r, τ') ∧ Rel σ τ' := by
  have hR : Rel σ (sm_thrown τ 0) := h
  unfold fX0_cut fX1_cut
  simp only [bd]
  generalize hτ : sm_thrown τ 0 = τ1 at hR ⊢
  obtain ⟨⟨N, hM1⟩, hE1⟩ := id hR
  obtain ⟨hN, h1, h2, h3⟩ := id hM1
  rcases pk_ix x (n := N) (by omega) with q | q | ⟨i, hi, rfl⟩
  · rw [num0_out h1 (Or.inl q), num1_out hN h2 (Or.inl q)]; exact ⟨_, _, rfl, rfl, hR⟩
  · rw [num0_out h1 (Or.inr q), num1_out hN h2 (Or.inr q)]; exact ⟨_, _, rfl, rfl, hR⟩
  rw [num0_in hN h1 hi, num1_in hN h2 hi]
  simp only [Option.bind_some]
  rw [if_neg one_ne, if_neg one_ne]
  obtain ⟨U, V, a1, a2, a3, a4, hU, hV, V0, hg⟩ := h3 i hi
  have xi : ix (nI i) 40 = true := nI_ix (by omega) (by omega)
  have xj : ix (nI i) 41 = true := nI_ix (by omega) (by omega)
  have w6 : nw 15 := by unfold nw; omega
  rw [show (15 : Int64) = J 15 by decide, show (0 : Int64) = J 0 from J_0]
  by_cases c1 : y.toInt < 0
  · rw [if_pos (show y < (0 : Int32) from i_lt.mpr c1), isIn_f nw_0 w6 (Or.inl c1)]
    exact ⟨_, _, rfl, rfl, hR⟩
  rw [if_neg (show ¬ y < (0 : Int32) from fun q => c1 (i_lt.mp q))]
  by_cases c2 : y.toInt ≤ 15
  case neg =>
    rw [if_neg (show ¬ y ≤ (15 : Int32) from fun q => c2 (i_le.mp q)), isIn_f nw_0 w6 (Or.inr (by omega))]
    exact ⟨_, _, rfl, rfl, hR⟩
  rw [if_pos (show y ≤ (15 : Int32) from i_le.mpr c2), isIn_t nw_0 w6 (by omega) c2]
  obtain ⟨D, hy, hD⟩ : ∃ M : Nat, y = nI M ∧ y.toInt = M := ⟨y.toInt.toNat, by
    apply Int32.toInt_inj.mp
    rw [nI_toInt (by omega)]
    omega, by omega⟩
  rw [hD] at c1 c2
  subst hy
  have a2' : m_upper (sm_isWide τ1 0) i = J U := a2
  have a4' : m_lower (sm_isWide τ1 0) i = J V := a4
  have hw : m_isWide (sm_isWide τ1 0) = 0 := rfl
  have hR2 : Rel σ (sm_isWide τ1 0) := hR
  simp only [Option.bind_some, if_neg one_ne]
  generalize hτ2 : sm_isWide τ1 0 = τ2 at a2' a4' hw hR2 ⊢
  have p15 : (10 : Nat) ^ D ≤ 10 ^ 15 := Nat.pow_le_pow_right (by omega) (by omega)
  have p10 : (10 : Nat) ^ D < 9223372036854775808 := by omega
  have pw : fX0_power 10 (nI D) = some (J ((10 ^ D : Nat) : Int)) := power0_ok (b := 10) (by omega) (by omega) p10
  simp only [if_pos xi, if_pos xj, nI_toNat (show i < 2147483648 by omega), a1, a3, a2', pw, Option.bind_some]
  have st : J U = J (U * ((10 ^ 0 : Nat) : Int)) := by
    rw [Nat.pow_zero]
    congr 1
    omega
  unfold fX1_cut_L45
  by_cases z : nw (U * ((10 ^ D : Nat) : Int))
  · have e5 := c45_ok τ2 hw (show i < 40 by omega) (show D ≤ 15 by omega) b z D 0 FU (by omega) (by unfold FU; omega)
    rw [← st] at e5
    have e5' : lp (fun k t => fX1_cut_B45 t.2.2.2.2.2 k t.1 t.2.1 t.2.2.1 t.2.2.2.1 t.2.2.2.2.1) FU (nI i, nI D, b, J U, (0 : Int32), τ2) = _ := e5
    rw [e5', times0_ok hU (nw_nat p10) z]
    simp only [Option.bind_some]
    rw [if_neg (J_ne_min z), if_pos (show (1 : Int64) ≤ J V by rw [J_1]; exact (J_le nw_1 hV).mpr (by omega))]
    unfold cutE
    rw [a4', floor_eq z hV V0, floorDiv_eq z hV V0, J_neg, floorDiv_eq (nw_neg z) hV V0]
    simp only [Option.bind_some]
    by_cases c3 : b = 0
    · rw [if_pos c3, if_pos c3]
      exact ⟨_, _, rfl, rfl, hR2⟩
    · rw [if_neg c3, if_neg c3, J_neg, ceil_eq V0, if_neg (J_ne0 hV (by omega)), J_rem z hV]
      have nt : nw ((U * ((10 ^ D : Nat) : Int)).tmod V) := nw_le z (by rw [Int.natAbs_tmod]; exact Nat.mod_le _ _)
      by_cases c4 : (U * ((10 ^ D : Nat) : Int)).tmod V = 0
      · rw [if_pos c4, if_pos (show J _ = (0 : Int64) by rw [c4]; rfl)]
        exact ⟨_, _, rfl, rfl, hR2⟩
      · rw [if_neg c4, if_neg (J_ne0 nt c4), J_1, J_add]
        exact ⟨_, _, rfl, rfl, hR2⟩
  · have e5 := c45_w τ2 (show i < 40 by omega) (show D ≤ 15 by omega) b z D 0 FU (by omega) (by unfold FU; omega) (by rw [← show U = U * ((10 ^ 0 : Nat) : Int) by rw [Nat.pow_zero]; omega]; exact hU)
    rw [← st] at e5
    have e5' : lp (fun k t => fX1_cut_B45 t.2.2.2.2.2 k t.1 t.2.1 t.2.2.1 t.2.2.2.1 t.2.2.2.2.1) FU (nI i, nI D, b, J U, (0 : Int32), τ2) = _ := e5
    rw [e5', times0_w hU (nw_nat p10) z]
    exact ⟨_, _, rfl, rfl, hR2⟩
