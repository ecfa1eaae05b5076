/-! simplest, whole -/
theorem sm_run (σ : CS) (τ : MS) (x9 x3 : Int32) {a b c d : Int} (ha : nw a) (hb : nw b) (hc : nw c) (hd : nw d) (a0 : 0 ≤ a) (b0 : 0 < b) (c0 : 0 ≤ c) (d0 : 0 < d) (h : a * d ≤ c * b) : ∃ p q : Int, nw p ∧ nw q ∧ 0 < q ∧ fX0_keepSimplest σ (J a) (J b) (J c) (J d) x9 = fX0_keepSimplest_L164 σ x9 (J p) (J q) ∧ fX1_between_L53 τ x3 (J a) (J b) (J c) (J d) 0 1 1 0 1 = if x3 = 0 then fX1_between_L201 τ (J q) (J p) else fX1_between_L201 τ (J q) (-J p) := by
  obtain ⟨x, rfl⟩ : ∃ n : Nat, a = (n : Int) := ⟨a.toNat, by omega⟩
  obtain ⟨y, rfl⟩ : ∃ n : Nat, b = (n : Int) := ⟨b.toNat, by omega⟩
  obtain ⟨z, rfl⟩ : ∃ n : Nat, c = (n : Int) := ⟨c.toNat, by omega⟩
  obtain ⟨w, rfl⟩ : ∃ n : Nat, d = (n : Int) := ⟨d.toNat, by omega⟩
  unfold nw at ha hb hc hd
  have h' : x * w ≤ z * y := by exact_mod_cast h
  obtain ⟨p, q, e1, e2, e3, e4, e5⟩ := sm_loop (σ := σ) (τ := τ) x9 x3 127 x y z w 0 1 1 0 0 FU FU (by omega) (by omega) (by omega) (by omega) (by omega) (by omega) h' (by omega) (by omega) (by omega) (by omega) (Or.inl (by omega)) (Or.inr rfl) (by omega) (by unfold FU; omega) (by unfold FU; omega)
  exact ⟨p, q, nw_nat e1, nw_nat e2, by omega, e4, e5⟩
theorem one_L : (1 : Int32).toInt64 = J 1 := by decide
theorem mone_L : (-1 : Int32).toInt64 = J (-1) := by decide
theorem simpB {σ : CS} {τ : MS} {N : Nat} (hM : RM σ τ N) (hE : RE σ τ) {i j : Nat} (hi : i < N) (hj : j < N) {a b c d : Int} (a1 : c_above σ i = J a) (a2 : m_upper τ i = J a) (a3 : c_below σ i = J b) (a4 : m_lower τ i = J b) (c1 : c_above σ j = J c) (c2 : m_upper τ j = J c) (c3 : c_below σ j = J d) (c4 : m_lower τ j = J d) (ha : nw a) (hb : nw b) (hc : nw c) (hd : nw d) (b0 : 0 < b) (d0 : 0 < d) (hle : a * d ≤ c * b) : (N < 40 → ∃ r σ' τ', fX0_simplest_L74 σ (nI i) (nI j) = some (r, σ') ∧ fX1_simplest_L70 τ (nI i) (nI j) = some (r, τ') ∧ Rel σ' τ') ∧ (N = 40 → fX0_simplest_L74 σ (nI i) (nI j) = some (-4, σ)) := by
  have hN := hM.1
  have h1 := hM.2.1
  have h2 := hM.2.2.1
  have xi : ix (nI i) 41 = true := nI_ix (by omega) (by omega)
  have xj : ix (nI j) 41 = true := nI_ix (by omega) (by omega)
  have yi : ix (nI i) 40 = true := nI_ix (by omega) (by omega)
  have yj : ix (nI j) 40 = true := nI_ix (by omega) (by omega)
  unfold fX0_simplest_L74 fX1_simplest_L70 fX1_simplest_L103 fX1_simplest_L120 fX1_simplest_L135 fX1_simplest_L147 fX1_between
  simp only [if_pos xi, if_pos xj, if_pos yi, if_pos yj, nI_toNat (show i < 2147483648 by omega), nI_toNat (show j < 2147483648 by omega), a1, a2, a3, a4, c1, c2, c3, c4, sizeOf_eq ha, sizeOf_eq hc, Option.bind_some, if_true, if_neg one_ne]
  by_cases s : 0 < a
  · have p1 : 0 < a * d := Int.mul_pos s d0
    have s2 : 0 < c := by
      by_cases z : 0 < c
      · exact z
      · have : 0 ≤ (-c) * b := Int.mul_nonneg (by omega) (by omega)
        rw [Int.neg_mul] at this
        omega
    rw [show (0 : Int64) = J 0 from J_0, if_neg (fun q => absurd ((J_le ha nw_0).mp q) (by omega)), if_pos ((J_lt nw_0 ha).mpr s), if_pos ((J_le nw_0 hc).mpr (by omega)), show ((a.natAbs : Nat) : Int) = a by omega, show ((c.natAbs : Nat) : Int) = c by omega, ← J_0]
    obtain ⟨p, q, np, nq, q0, e1, e2⟩ := sm_run σ τ 1 0 ha hb hc hd (by omega) b0 (by omega) d0 hle
    rw [e1, e2, if_pos rfl]
    unfold fX0_keepSimplest_L164 fX1_between_L201
    rw [one_L, J_mul, Int.one_mul]
    refine ⟨fun hN => ?_, fun hN => ?_⟩
    · obtain ⟨σ', τ', k1, k2, k3⟩ := keepB hM hE hN np nq q0
      rw [k1, k2]
      exact ⟨_, _, _, rfl, rfl, k3⟩
    · subst hN
      rw [keep0_full h1]
      rfl
  · have j0 := J_0
    rw [show (0 : Int64) = J 0 from J_0, if_pos ((J_le ha nw_0).mpr (by omega)), if_neg (fun q => s ((J_lt nw_0 ha).mp q))]
    by_cases t : c < 0
    · have p1 : 0 < (-c) * b := Int.mul_pos (by omega) b0
      rw [Int.neg_mul] at p1
      have s2 : a < 0 := by
        by_cases z : a < 0
        · exact z
        · have : a = 0 := by omega
          rw [this, Int.zero_mul] at hle
          omega
      rw [if_neg (fun q => absurd ((J_le nw_0 hc).mp q) (by omega)), if_pos ((J_lt hc nw_0).mpr t), if_neg (fun q => absurd ((J_le nw_0 hc).mp q) (by omega)), show ((a.natAbs : Nat) : Int) = -a by omega, show ((c.natAbs : Nat) : Int) = -c by omega, ← J_0, J_neg, J_neg]
      obtain ⟨p, q, np, nq, q0, e1, e2⟩ := sm_run σ τ (-1) 1 (nw_neg hc) hd (nw_neg ha) hb (by omega) d0 (by omega) b0 (by rw [Int.neg_mul, Int.neg_mul]; omega)
      rw [e1, e2, if_neg one_ne]
      unfold fX0_keepSimplest_L164 fX1_between_L201
      rw [mone_L, J_mul, J_neg, show -1 * p = -p by omega]
      refine ⟨fun hN => ?_, fun hN => ?_⟩
      · obtain ⟨σ', τ', k1, k2, k3⟩ := keepB hM hE hN (nw_neg np) nq q0
        rw [k1, k2]
        exact ⟨_, _, _, rfl, rfl, k3⟩
      · subst hN
        rw [keep0_full h1]
        rfl
    · rw [if_pos ((J_le nw_0 hc).mpr (by omega)), if_neg (fun q => t ((J_lt hc nw_0).mp q))]
      refine ⟨fun hN => ?_, fun hN => ?_⟩
      · obtain ⟨σ', τ', k1, k2, k3⟩ := keepB hM hE hN nw_0 nw_1 (by omega)
        rw [J_1, k1, k2]
        exact ⟨_, _, _, rfl, rfl, k3⟩
      · subst hN
        rw [keep0_full h1]
        rfl
theorem pu_simplest {σ : CS} {τ : MS} (h : Rel σ τ) (x y : Int32) : ∃ r σ' τ', fX0_simplest σ x y = some (r, σ') ∧ fX1_simplest τ x y = some (r, τ') ∧ Rel σ' τ' := by
  have hR : Rel σ (sm_thrown τ 0) := h
  unfold fX0_simplest fX1_simplest
  simp only [bd]
  generalize hτ : sm_thrown τ 0 = τ1 at hR ⊢
  obtain ⟨⟨N, hM1⟩, hE1⟩ := id hR
  obtain ⟨hN, h1, h2, h3⟩ := id hM1
  rcases pk_ix x (n := N) (by omega) with q | q | ⟨i, hi, rfl⟩
  · rw [num0_out h1 (Or.inl q), num1_out hN h2 (Or.inl q)]; exact ⟨_, _, _, rfl, rfl, hR⟩
  · rw [num0_out h1 (Or.inr q), num1_out hN h2 (Or.inr q)]; exact ⟨_, _, _, rfl, rfl, hR⟩
  rw [num0_in hN h1 hi, num1_in hN h2 hi]
  simp only [Option.bind_some]
  rw [if_neg one_ne, if_neg one_ne]
  rcases pk_ix y (n := N) (by omega) with q | q | ⟨j, hj, rfl⟩
  · rw [num0_out h1 (Or.inl q), num1_out hN h2 (Or.inl q)]; exact ⟨_, _, _, rfl, rfl, hR⟩
  · rw [num0_out h1 (Or.inr q), num1_out hN h2 (Or.inr q)]; exact ⟨_, _, _, rfl, rfl, hR⟩
  rw [num0_in hN h1 hj, num1_in hN h2 hj]
  simp only [Option.bind_some]
  rw [if_neg one_ne, if_neg one_ne]
  obtain ⟨a, b, a1, a2, a3, a4, ha, hb, b0, -⟩ := h3 i hi
  obtain ⟨c, d, c1, c2, c3, c4, hc, hd, d0, -⟩ := h3 j hj
  obtain ⟨f, g, e⟩ := ord1 (τ := τ1) (show i < 40 by omega) (show j < 40 by omega) a2 a4 c2 c4 ha hb hc hd b0 d0
  have xi : ix (nI i) 40 = true := nI_ix (by omega) (by omega)
  have xj : ix (nI j) 40 = true := nI_ix (by omega) (by omega)
  rw [e, if_pos xi, if_pos xi, if_pos xj, if_pos xj, nI_toNat (by omega), nI_toNat (by omega), a1, a3, c1, c3, cmp0 ha hb hc hd b0 d0]
  simp only [Option.bind_some]
  have hM2 := RM_o2 hM1 f g
  have hE2 := RE_o2 hE1 f g
  have a2' : m_upper (o2 τ1 f g) i = J a := by rw [o2_upper]; exact a2
  have a4' : m_lower (o2 τ1 f g) i = J b := by rw [o2_lower]; exact a4
  have c2' : m_upper (o2 τ1 f g) j = J c := by rw [o2_upper]; exact c2
  have c4' : m_lower (o2 τ1 f g) j = J d := by rw [o2_lower]; exact c4
  generalize o2 τ1 f g = τ2 at *
  by_cases s : a * d - c * b ≤ 0
  · obtain ⟨k1, k2⟩ := simpB hM2 hE2 hi hj a1 a2' a3 a4' c1 c2' c3 c4' ha hb hc hd b0 d0 (by omega)
    rw [if_pos ((sgI_le _).mpr s), if_neg (fun q => absurd ((sgI_pos _).mp q) (by omega))]
    unfold fX0_simplest_L53 fX0_simplest_L63 fX1_simplest_L49 fX1_simplest_L59
    rw [if_neg one_ne, if_neg one_ne, if_pos rfl, if_pos rfl]
    by_cases hf : N = 40
    · rw [if_pos (show m_numbers τ1 = (40 : Int32) by rw [h2, hf]; rfl), k2 hf]
      exact ⟨_, _, _, rfl, rfl, hR⟩
    · rw [if_neg (full1 h2 (by omega))]
      exact k1 (by omega)
  · obtain ⟨k1, k2⟩ := simpB hM2 hE2 hj hi c1 c2' c3 c4' a1 a2' a3 a4' hc hd ha hb d0 b0 (by omega)
    rw [if_neg (fun q => s ((sgI_le _).mp q)), if_pos ((sgI_pos _).mpr (by omega))]
    unfold fX0_simplest_L53 fX0_simplest_L63 fX1_simplest_L49 fX1_simplest_L59
    rw [if_neg one_ne, if_neg one_ne, if_pos rfl, if_pos rfl]
    by_cases hf : N = 40
    · rw [if_pos (show m_numbers τ1 = (40 : Int32) by rw [h2, hf]; rfl), k2 hf]
      exact ⟨_, _, _, rfl, rfl, hR⟩
    · rw [if_neg (full1 h2 (by omega))]
      exact k1 (by omega)
