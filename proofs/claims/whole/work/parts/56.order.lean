/-! PURE: order, simplest -/
theorem sgI_neg (z : Int) : sgI (-z) = -sgI z := by
  unfold sgI
  by_cases h1 : z < 0
  · rw [if_pos h1, if_neg (by omega), if_neg (by omega)]; decide
  · by_cases h2 : z = 0
    · rw [if_neg h1, if_pos h2, if_neg (by omega), if_pos (by omega)]; decide
    · rw [if_neg h1, if_neg h2, if_pos (by omega)]
theorem sgI_le (z : Int) : sgI z ≤ (0 : Int32) ↔ z ≤ 0 := by
  unfold sgI
  by_cases h1 : z < 0
  · rw [if_pos h1]; exact ⟨fun _ => by omega, fun _ => by decide⟩
  · by_cases h2 : z = 0
    · rw [if_neg h1, if_pos h2]; exact ⟨fun _ => by omega, fun _ => by decide⟩
    · rw [if_neg h1, if_neg h2]; exact ⟨fun q => absurd q (by decide), fun q => by omega⟩
theorem sgI_pos (z : Int) : (0 : Int32) < sgI z ↔ 0 < z := by
  have := sgI_le z
  rw [← Int32.not_le, this]
  omega
theorem o2_upper (τ : MS) (f g : Nat → Int64) : m_upper (o2 τ f g) = m_upper τ := by
  obtain ⟨a1, a2, a3, a4, a5, a6, a7, a8, a9, a10, a11, a12, a13, a14, a15, a16, a17⟩ := τ
  exact Eq.trans (b := a1) rfl rfl
theorem o2_lower (τ : MS) (f g : Nat → Int64) : m_lower (o2 τ f g) = m_lower τ := by
  obtain ⟨a1, a2, a3, a4, a5, a6, a7, a8, a9, a10, a11, a12, a13, a14, a15, a16, a17⟩ := τ
  exact Eq.trans (b := a2) rfl rfl
theorem o2_numbers (τ : MS) (f g : Nat → Int64) : m_numbers (o2 τ f g) = m_numbers τ := by
  obtain ⟨a1, a2, a3, a4, a5, a6, a7, a8, a9, a10, a11, a12, a13, a14, a15, a16, a17⟩ := τ
  exact Eq.trans (b := a3) rfl rfl
theorem o2_grown (τ : MS) (f g : Nat → Int64) : m_grown (o2 τ f g) = m_grown τ := by
  obtain ⟨a1, a2, a3, a4, a5, a6, a7, a8, a9, a10, a11, a12, a13, a14, a15, a16, a17⟩ := τ
  exact Eq.trans (b := a4) rfl rfl
theorem o2_thrown (τ : MS) (f g : Nat → Int64) : m_thrown (o2 τ f g) = m_thrown τ := by
  obtain ⟨a1, a2, a3, a4, a5, a6, a7, a8, a9, a10, a11, a12, a13, a14, a15, a16, a17⟩ := τ
  exact Eq.trans (b := a5) rfl rfl
theorem o2_isWide (τ : MS) (f g : Nat → Int64) : m_isWide (o2 τ f g) = m_isWide τ := by
  obtain ⟨a1, a2, a3, a4, a5, a6, a7, a8, a9, a10, a11, a12, a13, a14, a15, a16, a17⟩ := τ
  exact Eq.trans (b := a6) rfl rfl
theorem o2_value (τ : MS) (f g : Nat → Int64) : m_value (o2 τ f g) = m_value τ := by
  obtain ⟨a1, a2, a3, a4, a5, a6, a7, a8, a9, a10, a11, a12, a13, a14, a15, a16, a17⟩ := τ
  exact Eq.trans (b := a7) rfl rfl
theorem o2_many (τ : MS) (f g : Nat → Int64) : m_many (o2 τ f g) = m_many τ := by
  obtain ⟨a1, a2, a3, a4, a5, a6, a7, a8, a9, a10, a11, a12, a13, a14, a15, a16, a17⟩ := τ
  exact Eq.trans (b := a8) rfl rfl
theorem o2_seated (τ : MS) (f g : Nat → Int64) : m_seated (o2 τ f g) = m_seated τ := by
  obtain ⟨a1, a2, a3, a4, a5, a6, a7, a8, a9, a10, a11, a12, a13, a14, a15, a16, a17⟩ := τ
  exact Eq.trans (b := a9) rfl rfl
theorem o2_seat (τ : MS) (f g : Nat → Int64) : m_seat (o2 τ f g) = m_seat τ := by
  obtain ⟨a1, a2, a3, a4, a5, a6, a7, a8, a9, a10, a11, a12, a13, a14, a15, a16, a17⟩ := τ
  exact Eq.trans (b := a10) rfl rfl
theorem o2_left (τ : MS) (f g : Nat → Int64) : m_left (o2 τ f g) = m_left τ := by
  obtain ⟨a1, a2, a3, a4, a5, a6, a7, a8, a9, a10, a11, a12, a13, a14, a15, a16, a17⟩ := τ
  exact Eq.trans (b := a11) rfl rfl
theorem o2_isTested (τ : MS) (f g : Nat → Int64) : m_isTested (o2 τ f g) = m_isTested τ := by
  obtain ⟨a1, a2, a3, a4, a5, a6, a7, a8, a9, a10, a11, a12, a13, a14, a15, a16, a17⟩ := τ
  exact Eq.trans (b := a12) rfl rfl
theorem o2_notBelow (τ : MS) (f g : Nat → Int64) : m_notBelow (o2 τ f g) = m_notBelow τ := by
  obtain ⟨a1, a2, a3, a4, a5, a6, a7, a8, a9, a10, a11, a12, a13, a14, a15, a16, a17⟩ := τ
  exact Eq.trans (b := a13) rfl rfl
theorem o2_all (τ : MS) (f g : Nat → Int64) : m_all (o2 τ f g) = m_all τ := by
  obtain ⟨a1, a2, a3, a4, a5, a6, a7, a8, a9, a10, a11, a12, a13, a14, a15, a16, a17⟩ := τ
  exact Eq.trans (b := a14) rfl rfl
theorem o2_just (τ : MS) (f g : Nat → Int64) : m_just (o2 τ f g) = m_just τ := by
  obtain ⟨a1, a2, a3, a4, a5, a6, a7, a8, a9, a10, a11, a12, a13, a14, a15, a16, a17⟩ := τ
  exact Eq.trans (b := a15) rfl rfl
theorem RM_o2 {σ : CS} {τ : MS} {N : Nat} (h : RM σ τ N) (f g : Nat → Int64) : RM σ (o2 τ f g) N := by
  unfold RM at *
  rw [o2_upper, o2_lower, o2_numbers]
  exact h
theorem RE_o2 {σ : CS} {τ : MS} (h : RE σ τ) (f g : Nat → Int64) : RE σ (o2 τ f g) := by
  unfold RE at *
  rw [o2_grown, o2_value, o2_many, o2_seated, o2_seat, o2_isTested, o2_notBelow, o2_all, o2_just]
  exact h
theorem ord1 {τ : MS} {i j : Nat} (hi : i < 40) (hj : j < 40) {a b c d : Int} (a2 : m_upper τ i = J a) (a4 : m_lower τ i = J b) (c2 : m_upper τ j = J c) (c4 : m_lower τ j = J d) (ha : nw a) (hb : nw b) (hc : nw c) (hd : nw d) (b0 : 0 < b) (d0 : 0 < d) : ∃ f g, fX1_ordered τ (nI i) (nI j) = some (sgI (a * d - c * b), o2 τ f g) := by
  have xi : ix (nI i) 41 = true := nI_ix (by omega) (by omega)
  have xj : ix (nI j) 41 = true := nI_ix (by omega) (by omega)
  unfold fX1_ordered fX1_ordered_L16
  simp only [if_pos xi, if_pos xj, nI_toNat (show i < 2147483648 by omega), nI_toNat (show j < 2147483648 by omega), a2, c2, J_0]
  have L33 : ∀ x : Int32, ∃ f g, fX1_ordered_L33 τ (nI i) (nI j) x x = some (if x = 0 then sgI ((a.natAbs : Int) * d - c.natAbs * b) else -sgI ((a.natAbs : Int) * d - c.natAbs * b), o2 τ f g) := by
    intro x
    obtain ⟨f, g, e⟩ := cmp1 τ (nw_abs ha) hd (nw_abs hc) hb (by omega) (by omega) (by omega) (by omega)
    refine ⟨f, g, ?_⟩
    unfold fX1_ordered_L33
    simp only [if_true, if_pos xi, if_pos xj, nI_toNat (show i < 2147483648 by omega), nI_toNat (show j < 2147483648 by omega), a2, c2, a4, c4, sizeOf_eq ha, sizeOf_eq hc, Option.bind_some, e]
    by_cases h : x = 0
    · rw [if_pos h, if_pos h]
    · rw [if_neg h, if_neg h]
  by_cases s : 0 ≤ a
  · rw [if_pos ((J_le nw_0 ha).mpr s)]
    by_cases t : 0 ≤ c
    · rw [if_pos ((J_le nw_0 hc).mpr t)]
      obtain ⟨f, g, e⟩ := L33 0
      rw [if_pos rfl, show ((a.natAbs : Nat) : Int) = a by omega, show ((c.natAbs : Nat) : Int) = c by omega] at e
      exact ⟨f, g, e⟩
    · rw [if_neg (fun q => t ((J_le nw_0 hc).mp q))]
      refine ⟨m_one τ, m_two τ, ?_⟩
      unfold fX1_ordered_L33
      rw [if_neg (show ¬ (0 : Int32) = 1 by decide), if_pos rfl, o2_i]
      have p1 : 0 ≤ a * d := Int.mul_nonneg s (by omega)
      have p2 : 0 < (-c) * b := Int.mul_pos (by omega) b0
      rw [Int.neg_mul] at p2
      unfold sgI
      rw [if_neg (by omega), if_neg (by omega)]
  · rw [if_neg (fun q => s ((J_le nw_0 ha).mp q))]
    by_cases t : 0 ≤ c
    · rw [if_pos ((J_le nw_0 hc).mpr t)]
      refine ⟨m_one τ, m_two τ, ?_⟩
      unfold fX1_ordered_L33
      rw [if_neg (show ¬ (1 : Int32) = 0 by decide), if_neg (show ¬ (1 : Int32) = 0 by decide), o2_i]
      have p1 : 0 ≤ c * b := Int.mul_nonneg t (by omega)
      have p2 : 0 < (-a) * d := Int.mul_pos (by omega) d0
      rw [Int.neg_mul] at p2
      unfold sgI
      rw [if_pos (by omega)]
    · rw [if_neg (fun q => t ((J_le nw_0 hc).mp q))]
      obtain ⟨f, g, e⟩ := L33 1
      rw [if_neg (show ¬ (1 : Int32) = 0 by decide), ← sgI_neg, show ((a.natAbs : Nat) : Int) = -a by omega, show ((c.natAbs : Nat) : Int) = -c by omega, Int.neg_mul, Int.neg_mul, show -(-(a * d) - -(c * b)) = a * d - c * b by omega] at e
      exact ⟨f, g, e⟩
theorem pu_order {σ : CS} {τ : MS} (h : Rel σ τ) (x y : Int32) : ∃ r τ', fX0_order σ x y = some r ∧ fX1_order τ x y = some (r, τ') ∧ Rel σ τ' := by
  have hR : Rel σ (sm_thrown τ 0) := h
  unfold fX0_order fX1_order
  simp only [bd]
  generalize hτ : sm_thrown τ 0 = τ1 at hR ⊢
  obtain ⟨⟨N, hM1⟩, hE1⟩ := id hR
  obtain ⟨hN, h1, h2, h3⟩ := id hM1
  rcases pk_ix x (n := N) (by omega) with q | q | ⟨i, hi, rfl⟩
  · rw [num0_out h1 (Or.inl q), num1_out hN h2 (Or.inl q)]; exact ⟨_, _, rfl, rfl, hR⟩
  · rw [num0_out h1 (Or.inr q), num1_out hN h2 (Or.inr q)]; exact ⟨_, _, rfl, rfl, hR⟩
  rw [num0_in hN h1 hi, num1_in hN h2 hi]
  simp only [Option.bind_some]
  rw [if_neg one_ne, if_neg one_ne]
  rcases pk_ix y (n := N) (by omega) with q | q | ⟨j, hj, rfl⟩
  · rw [num0_out h1 (Or.inl q), num1_out hN h2 (Or.inl q)]; exact ⟨_, _, rfl, rfl, hR⟩
  · rw [num0_out h1 (Or.inr q), num1_out hN h2 (Or.inr q)]; exact ⟨_, _, rfl, rfl, hR⟩
  rw [num0_in hN h1 hj, num1_in hN h2 hj]
  simp only [Option.bind_some]
  rw [if_neg one_ne, if_neg one_ne]
  obtain ⟨a, b, a1, a2, a3, a4, ha, hb, b0, -⟩ := h3 i hi
  obtain ⟨c, d, c1, c2, c3, c4, hc, hd, d0, -⟩ := h3 j hj
  obtain ⟨f, g, e⟩ := ord1 (τ := τ1) (show i < 40 by omega) (show j < 40 by omega) a2 a4 c2 c4 ha hb hc hd b0 d0
  have xi : ix (nI i) 40 = true := nI_ix (by omega) (by omega)
  have xj : ix (nI j) 40 = true := nI_ix (by omega) (by omega)
  rw [e, if_pos xi, if_pos xi, if_pos xj, if_pos xj, nI_toNat (by omega), nI_toNat (by omega), a1, a3, c1, c3, cmp0 ha hb hc hd b0 d0]
  exact ⟨_, _, rfl, rfl, ⟨N, RM_o2 hM1 f g⟩, RE_o2 hE1 f g⟩
/-! simplest -/
theorem J_divN {a b : Nat} (ha : a < 9223372036854775808) (hb : b < 9223372036854775808) : J (a : Int) / J (b : Int) = J ((a / b : Nat) : Int) := by
  rw [J_div (nw_nat ha) (nw_nat hb), tdivN]
theorem J_remN {a b : Nat} (ha : a < 9223372036854775808) (hb : b < 9223372036854775808) : lmd (J (a : Int)) (J (b : Int)) = J ((a % b : Nat) : Int) := by
  rw [J_rem (nw_nat ha) (nw_nat hb), tmodN]
theorem J_mac (t x y : Nat) : J (t : Int) * J (x : Int) + J (y : Int) = J ((t * x + y : Nat) : Int) := by
  rw [J_mul, J_add]
  congr 1
abbrev S0 (σ : CS) (x9 : Int32) (a b c d p0 q0 p1 q1 : Nat) (fd : Int32) (i : Nat) : Int64 × Int64 × Int64 × Int64 × Int32 × Int64 × Int64 × Int64 × Int64 × Int32 × Int32 × CS := (J (a : Int), J (b : Int), J (c : Int), J (d : Int), x9, J (p0 : Int), J (q0 : Int), J (p1 : Int), J (q1 : Int), fd, nI i, σ)
theorem sm0_step (σ : CS) (k : Int64 × Int64 × Int64 × Int64 × Int32 × Int64 × Int64 × Int64 × Int64 × Int32 × Int32 × CS → Option (Int32 × CS)) (x9 : Int32) {a b c d p0 q0 p1 q1 i : Nat} (ha : a < 9223372036854775808) (hb : b < 9223372036854775808) (hc : c < 9223372036854775808) (hd : d < 9223372036854775808) (b0 : 0 < b) (d0 : 0 < d) (hi : i < 200) (hle : a / b * d ≤ c) :
    fX0_keepSimplest_B18 σ k (J a) (J b) (J c) (J d) x9 (J p0) (J q0) (J p1) (J q1) 0 (nI i) = if a % b = 0 then k (S0 σ x9 d (c - a / b * d) b (a % b) p1 q1 (a / b * p1 + p0) (a / b * q1 + q0) 1 (i + 1)) else if c - a / b * d < d then k (S0 σ x9 d (c - a / b * d) b (a % b) p1 q1 (a / b * p1 + p0) (a / b * q1 + q0) 0 (i + 1)) else k (S0 σ x9 d (c - a / b * d) b (a % b) p1 q1 ((a / b + 1) * p1 + p0) ((a / b + 1) * q1 + q0) 1 (i + 1)) := by
  unfold fX0_keepSimplest_B18 fX0_keepSimplest_L79 fX0_keepSimplest_L84 fX0_keepSimplest_L98 fX0_keepSimplest_L107
  have nb := J_ne0 (nw_nat hb) (show ((b : Nat) : Int) ≠ 0 by omega)
  have r1 : a % b < b := Nat.mod_lt _ b0
  rw [if_neg (show ¬ (200 : Int32) ≤ nI i from nI_ge (b := 200) hi (by omega)), if_pos rfl, J_0, if_neg (fun q => absurd ((J_le (nw_nat hb) nw_0).mp q) (by omega)), if_neg (fun q => absurd ((J_le (nw_nat hd) nw_0).mp q) (by omega)), J_divN ha hb, J_remN ha hb]
  simp only [if_neg (show ¬ J (b : Int) = J 0 from nb)]
  have e1 : J (c : Int) - J ((a / b : Nat) : Int) * J (d : Int) = J ((c - a / b * d : Nat) : Int) := by
    rw [J_mul, J_sub]
    congr 1
    have : (((a / b : Nat) : Int)) * (d : Int) = ((a / b * d : Nat) : Int) := by simp
    omega
  have e2 : J ((a / b : Nat) : Int) + 1 = J ((a / b + 1 : Nat) : Int) := by
    rw [J_1, J_add]
    rfl
  rw [e1, e2]
  simp only [J_mac, nI_1]
  by_cases h : a % b = 0
  · rw [if_pos h, if_pos ((J_eq (nw_nat (by omega)) nw_0).mpr (by omega)), if_pos ((J_eq (nw_nat (by omega)) nw_0).mpr (by omega))]
  · have n0 : ¬ J ((a % b : Nat) : Int) = J 0 := fun q => absurd ((J_eq (nw_nat (by omega)) nw_0).mp q) (by omega)
    rw [if_neg h, if_neg n0]
    by_cases h2 : c - a / b * d < d
    · rw [if_pos h2, if_pos ((J_lt (nw_nat (by omega)) (nw_nat hd)).mpr (by omega)), if_neg n0, if_pos trivial]
    · rw [if_neg h2, if_neg (fun q => absurd ((J_lt (nw_nat (by omega)) (nw_nat hd)).mp q) (by omega)), if_neg n0, if_neg one_ne]
theorem sm0_end (σ : CS) (k : Int64 × Int64 × Int64 × Int64 × Int32 × Int64 × Int64 × Int64 × Int64 × Int32 × Int32 × CS → Option (Int32 × CS)) (x9 : Int32) (a b c d p0 q0 p1 q1 : Int64) (i : Int32) : fX0_keepSimplest_B18 σ k a b c d x9 p0 q0 p1 q1 1 i = fX0_keepSimplest_L164 σ x9 p1 q1 := by
  unfold fX0_keepSimplest_B18
  rw [if_neg one_ne]
  split <;> rfl
abbrev S1 (τ : MS) (x3 : Int32) (a b c d p0 q0 p1 q1 : Nat) (mr : Int32) : Int32 × Int64 × Int64 × Int64 × Int64 × Int64 × Int64 × Int64 × Int64 × Int32 × MS := (x3, J (a : Int), J (b : Int), J (c : Int), J (d : Int), J (p0 : Int), J (q0 : Int), J (p1 : Int), J (q1 : Int), mr, τ)
theorem sm1_step (τ : MS) (k : Int32 × Int64 × Int64 × Int64 × Int64 × Int64 × Int64 × Int64 × Int64 × Int32 × MS → Option (Int32 × MS)) (x3 : Int32) {a b c d p0 q0 p1 q1 : Nat} (ha : a < 9223372036854775808) (hb : b < 9223372036854775808) (hc : c < 9223372036854775808) (hd : d < 9223372036854775808) (b0 : 0 < b) (d0 : 0 < d) :
    fX1_between_B53 τ k x3 (J a) (J b) (J c) (J d) (J p0) (J q0) (J p1) (J q1) 1 = if a % b = 0 then k (S1 τ x3 a b c d p1 q1 (a / b * p1 + p0) (a / b * q1 + q0) 0) else if c / d = a / b then k (S1 τ x3 d (c % d) b (a % b) p1 q1 (a / b * p1 + p0) (a / b * q1 + q0) 1) else k (S1 τ x3 a b c d p1 q1 ((a / b + 1) * p1 + p0) ((a / b + 1) * q1 + q0) 0) := by
  unfold fX1_between_B53 fX1_between_L90 fX1_between_L91 fX1_between_L114 fX1_between_L185
  have nb := J_ne0 (nw_nat hb) (show ((b : Nat) : Int) ≠ 0 by omega)
  have nd := J_ne0 (nw_nat hd) (show ((d : Nat) : Int) ≠ 0 by omega)
  have r1 : a % b < b := Nat.mod_lt _ b0
  have t1 : a / b ≤ a := Nat.div_le_self _ _
  have t2 : c / d ≤ c := Nat.div_le_self _ _
  have e2 : J ((a / b : Nat) : Int) + 1 = J ((a / b + 1 : Nat) : Int) := by
    rw [J_1, J_add]
    rfl
  simp only [if_neg one_ne, if_neg nb, if_neg nd, J_divN ha hb, J_remN ha hb, J_divN hc hd, J_remN hc hd, e2, J_mac, if_true]
  by_cases h : a % b = 0
  · have n0 : J ((a % b : Nat) : Int) = (0 : Int64) := by rw [h]; rfl
    rw [if_pos h, if_pos n0, if_pos n0]
  · have n0 : ¬ J ((a % b : Nat) : Int) = (0 : Int64) := fun q => absurd ((J_eq (nw_nat (by omega)) nw_0).mp q) (by omega)
    rw [if_neg h, if_neg n0, if_neg n0]
    by_cases h2 : c / d = a / b
    · rw [if_pos h2, if_pos (by rw [h2])]
    · rw [if_neg h2, if_neg (fun q => absurd ((J_eq (nw_nat (by omega)) (nw_nat (by omega))).mp q) (by omega))]
theorem sm1_end (τ : MS) (k : Int32 × Int64 × Int64 × Int64 × Int64 × Int64 × Int64 × Int64 × Int64 × Int32 × MS → Option (Int32 × MS)) (x3 : Int32) (a b c d p0 q0 p1 q1 : Int64) : fX1_between_B53 τ k x3 a b c d p0 q0 p1 q1 0 = if x3 = 0 then fX1_between_L201 τ q1 p1 else fX1_between_L201 τ q1 (-p1) := by
  unfold fX1_between_B53
  rw [if_pos rfl]

theorem sm_nat {a b c d : Nat} (b0 : 0 < b) (d0 : 0 < d) (h : a * d ≤ c * b) : a / b * d ≤ c := by
  have h1 : a / b * b ≤ a := Nat.div_mul_le_self a b
  have h2 : a / b * b * d ≤ c * b := Nat.le_trans (Nat.mul_le_mul_right d h1) h
  rw [Nat.mul_right_comm] at h2
  exact Nat.le_of_mul_le_mul_right h2 b0
theorem sm_q {c d t : Nat} (d0 : 0 < d) (h : t * d ≤ c) : c - t * d < d ↔ c / d = t := by
  constructor
  · intro q
    exact Nat.div_eq_of_lt_le h (by rw [Nat.add_mul]; omega)
  · intro q
    have := Nat.div_add_mod c d
    have r := Nat.mod_lt c d0
    rw [q, Nat.mul_comm] at this
    omega
theorem sm_loop {σ : CS} {τ : MS} (x9 x3 : Int32) : ∀ (k a b c d p0 q0 p1 q1 i f0 f1 : Nat), a < 9223372036854775808 → b < 9223372036854775808 → c < 9223372036854775808 → d < 9223372036854775808 → 0 < b → 0 < d → a * d ≤ c * b → p1 * a + p0 * b < 9223372036854775808 → p1 * c + p0 * d < 9223372036854775808 → q1 * a + q0 * b < 9223372036854775808 → q1 * c + q0 * d < 9223372036854775808 → (0 < q0 ∨ (0 < q1 ∧ b ≤ a)) → ((b ≤ a ∧ d ≤ c ∧ a * b < 2 ^ k ∧ c * d < 2 ^ k) ∨ k = 127) → i + k ≤ 200 → k < f0 → k < f1 →
    ∃ p q : Nat, p < 9223372036854775808 ∧ q < 9223372036854775808 ∧ 0 < q ∧ lp (fun k t => fX0_keepSimplest_B18 t.2.2.2.2.2.2.2.2.2.2.2   k t.1 t.2.1 t.2.2.1 t.2.2.2.1 t.2.2.2.2.1 t.2.2.2.2.2.1 t.2.2.2.2.2.2.1 t.2.2.2.2.2.2.2.1 t.2.2.2.2.2.2.2.2.1 t.2.2.2.2.2.2.2.2.2.1 t.2.2.2.2.2.2.2.2.2.2.1) f0 (S0 σ x9 a b c d p0 q0 p1 q1 0 i) = fX0_keepSimplest_L164 σ x9 (J p) (J q) ∧ lp (fun k t => fX1_between_B53 t.2.2.2.2.2.2.2.2.2.2   k t.1 t.2.1 t.2.2.1 t.2.2.2.1 t.2.2.2.2.1 t.2.2.2.2.2.1 t.2.2.2.2.2.2.1 t.2.2.2.2.2.2.2.1 t.2.2.2.2.2.2.2.2.1 t.2.2.2.2.2.2.2.2.2.1) f1 (S1 τ x3 a b c d p0 q0 p1 q1 1) = if x3 = 0 then fX1_between_L201 τ (J q) (J p) else fX1_between_L201 τ (J q) (-J p) := by
  intro k
  induction k with
  | zero =>
    intro a b c d p0 q0 p1 q1 i f0 f1 ha hb hc hd b0 d0 hle hp1 hp2 hq1 hq2 hq hm hi hf0 hf1
    rcases hm with ⟨m1, m2, m3, m4⟩ | m
    · have : 0 < a * b := Nat.mul_pos (by omega) b0
      omega
    · omega
  | succ k ih =>
    intro a b c d p0 q0 p1 q1 i f0 f1 ha hb hc hd b0 d0 hle hp1 hp2 hq1 hq2 hq hm hi hf0 hf1
    obtain ⟨f0, rfl⟩ : ∃ g, f0 = g + 1 := ⟨f0 - 1, by omega⟩
    obtain ⟨f1, rfl⟩ : ∃ g, f1 = g + 1 := ⟨f1 - 1, by omega⟩
    have hn := sm_nat b0 d0 hle
    have hq' := sm_q d0 hn
    have da := Nat.div_add_mod a b
    have dc := Nat.div_add_mod c d
    have ra := Nat.mod_lt a b0
    have rc := Nat.mod_lt c d0
    have qp : 0 < a / b * q1 + q0 := by
      rcases hq with q | ⟨q, q'⟩
      · omega
      · have : 0 < a / b := Nat.div_pos q' b0
        have := Nat.mul_pos this q
        omega
    have up : ∀ x y : Nat, x * a + y * b = (a / b * x + y) * b + x * (a % b) := fun x y => by
      conv => lhs; rw [← da]
      rw [Nat.mul_add, Nat.add_mul, ← Nat.mul_assoc, Nat.mul_comm x b, Nat.mul_assoc, Nat.mul_comm b, Nat.mul_comm x (a / b)]
      omega
    rw [lp_succ, lp_succ]
    show ∃ p q : Nat, _ ∧ _ ∧ _ ∧ fX0_keepSimplest_B18 σ _ (J a) (J b) (J c) (J d) x9 (J p0) (J q0) (J p1) (J q1) 0 (nI i) = _ ∧ fX1_between_B53 τ _ x3 (J a) (J b) (J c) (J d) (J p0) (J q0) (J p1) (J q1) 1 = _
    rw [sm0_step σ _ x9 ha hb hc hd b0 d0 (by omega) hn, sm1_step τ _ x3 ha hb hc hd b0 d0]
    by_cases h : a % b = 0
    · rw [if_pos h, if_pos h]
      obtain ⟨f0, rfl⟩ : ∃ g, f0 = g + 1 := ⟨f0 - 1, by omega⟩
      obtain ⟨f1, rfl⟩ : ∃ g, f1 = g + 1 := ⟨f1 - 1, by omega⟩
      have fit : ∀ x y : Nat, x * a + y * b < 9223372036854775808 → a / b * x + y < 9223372036854775808 := fun x y hxy => by
        rw [up x y, h] at hxy
        have : (a / b * x + y) * 1 ≤ (a / b * x + y) * b := Nat.mul_le_mul_left _ b0
        omega
      refine ⟨a / b * p1 + p0, a / b * q1 + q0, fit _ _ hp1, fit _ _ hq1, qp, ?_, ?_⟩
      · rw [lp_succ]
        exact sm0_end σ _ x9 _ _ _ _ _ _ _ _ _
      · rw [lp_succ]
        exact sm1_end τ _ x3 _ _ _ _ _ _ _ _
    · rw [if_neg h, if_neg h]
      by_cases h2 : c / d = a / b
      · rw [if_pos h2, if_pos (hq'.mpr h2)]
        have hs : c - a / b * d = c % d := by
          rw [h2, Nat.mul_comm] at dc
          omega
        rw [hs]
        have uc : ∀ x y : Nat, x * c + y * d = (a / b * x + y) * d + x * (c % d) := fun x y => by
          conv => lhs; rw [← dc, h2]
          rw [Nat.mul_add, Nat.add_mul, ← Nat.mul_assoc, Nat.mul_comm x d, Nat.mul_assoc, Nat.mul_comm d, Nat.mul_comm x (a / b)]
          omega
        have hle2 : d * (a % b) ≤ b * (c % d) := by
          have z1 := up d 0
          have z2 := uc b 0
          rw [Nat.zero_mul, Nat.add_zero, Nat.add_zero] at z1 z2
          rw [Nat.mul_comm a d, Nat.mul_comm c b, z1, z2, Nat.mul_right_comm (a / b) b d] at hle
          omega
        have s0 : 0 < c % d := by
          by_cases z : c % d = 0
          · rw [z, Nat.mul_zero] at hle2
            have := Nat.mul_pos d0 (show 0 < a % b by omega)
            omega
          · omega
        obtain ⟨p, q, e1, e2, e3, e4, e5⟩ := ih d (c % d) b (a % b) p1 q1 (a / b * p1 + p0) (a / b * q1 + q0) (i + 1) f0 f1 hd (by omega) hb (by omega) s0 (by omega) hle2 (by rw [← uc]; exact hp2) (by rw [← up]; exact hp1) (by rw [← uc]; exact hq2) (by rw [← up]; exact hq1) (Or.inr ⟨qp, by omega⟩) (by
          refine Or.inl ⟨by omega, by omega, ?_⟩
          rcases hm with ⟨m1, m2, m3, m4⟩ | m
          · obtain ⟨j1, j2, j3⟩ := gcd_meas b0 m1 m3
            obtain ⟨l1, l2, l3⟩ := gcd_meas d0 m2 m4
            rw [show l1 = k by omega] at l3
            rw [show j1 = k by omega] at j3
            exact ⟨l3, j3⟩
          · rw [show k = 126 by omega]
            exact ⟨mul63 hd (by omega), mul63 hb (by omega)⟩) (by omega) (by omega) (by omega)
        exact ⟨p, q, e1, e2, e3, e4, e5⟩
      · rw [if_neg h2, if_neg (fun z => h2 (hq'.mp z))]
        obtain ⟨f0, rfl⟩ : ∃ g, f0 = g + 1 := ⟨f0 - 1, by omega⟩
        obtain ⟨f1, rfl⟩ : ∃ g, f1 = g + 1 := ⟨f1 - 1, by omega⟩
        have hd2 : (a / b + 1) * d ≤ c := by
          have : ¬ c - a / b * d < d := fun z => h2 (hq'.mp z)
          rw [Nat.add_mul]
          omega
        have fit : ∀ x y : Nat, x * c + y * d < 9223372036854775808 → (a / b + 1) * x + y < 9223372036854775808 := fun x y hxy => by
          have z1 : x * ((a / b + 1) * d) ≤ x * c := Nat.mul_le_mul_left x hd2
          have z2 : ((a / b + 1) * x + y) * d = x * ((a / b + 1) * d) + y * d := by
            rw [Nat.add_mul, ← Nat.mul_assoc x, Nat.mul_comm x (a / b + 1)]
          have z3 : ((a / b + 1) * x + y) * 1 ≤ ((a / b + 1) * x + y) * d := Nat.mul_le_mul_left _ d0
          omega
        refine ⟨(a / b + 1) * p1 + p0, (a / b + 1) * q1 + q0, fit _ _ hp2, fit _ _ hq2, ?_, ?_, ?_⟩
        · rw [Nat.add_mul]
          omega
        · rw [lp_succ]
          exact sm0_end σ _ x9 _ _ _ _ _ _ _ _ _
        · rw [lp_succ]
          exact sm1_end τ _ x3 _ _ _ _ _ _ _ _
