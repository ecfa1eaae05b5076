/-! PURE: tail, urn -/
def tT (n a c i : Nat) : Nat := ch n i * a ^ i * c ^ (n - i)
def tS (n a c : Nat) : Nat → Nat
  | 0 => 0
  | m + 1 => tS n a c m + tT n a c m
theorem tT_0 (n a c : Nat) : tT (n + 1) a c 0 = c * tT n a c 0 := by
  unfold tT
  rw [ch_0, ch_0, Nat.pow_zero, Nat.sub_zero, Nat.sub_zero, Nat.pow_succ]
  simp [Nat.mul_comm]
theorem tT_s (n a c i : Nat) : tT (n + 1) a c (i + 1) = a * tT n a c i + c * tT n a c (i + 1) := by
  unfold tT
  rw [ch_s, Nat.add_mul, Nat.add_mul, Nat.add_sub_add_right]
  congr 1
  · rw [Nat.pow_succ, ← Nat.mul_assoc, ← Nat.mul_assoc, ← Nat.mul_assoc, Nat.mul_right_comm, Nat.mul_comm _ a, ← Nat.mul_assoc, ← Nat.mul_assoc]
  · by_cases h : i + 1 ≤ n
    · obtain ⟨e, he⟩ : ∃ e, n - i = e + 1 := ⟨n - i - 1, by omega⟩
      rw [he, show n - (i + 1) = e by omega, Nat.pow_succ c, ← Nat.mul_assoc, Nat.mul_comm _ c]
    · rw [ch_gt n (i + 1) (by omega)]
      simp
theorem tS_s (n a c : Nat) : ∀ m, tS (n + 1) a c (m + 1) = a * tS n a c m + c * tS n a c (m + 1) := by
  intro m
  induction m with
  | zero =>
    show 0 + tT (n + 1) a c 0 = a * 0 + c * (0 + tT n a c 0)
    rw [tT_0]
    simp
  | succ m ih =>
    show tS (n + 1) a c (m + 1) + tT (n + 1) a c (m + 1) = a * (tS n a c m + tT n a c m) + c * (tS n a c (m + 1) + tT n a c (m + 1))
    rw [ih, tT_s, Nat.mul_add, Nat.mul_add]
    omega
theorem tS_all (a c : Nat) : ∀ n, tS n a c (n + 1) = (a + c) ^ n := by
  intro n
  induction n with
  | zero =>
    show 0 + tT 0 a c 0 = 1
    unfold tT
    rw [ch_0]
    simp
  | succ n ih =>
    rw [tS_s]
    have e : tS n a c (n + 1 + 1) = tS n a c (n + 1) := by
      show tS n a c (n + 1) + tT n a c (n + 1) = _
      unfold tT
      rw [ch_gt n (n + 1) (by omega)]
      simp
    rw [e, ih, Nat.pow_succ, ← Nat.add_mul, Nat.mul_comm]
theorem tS_mono (n a c m : Nat) : ∀ d, tS n a c m ≤ tS n a c (m + d) := by
  intro d
  induction d with
  | zero => exact Nat.le_refl _
  | succ d ih =>
    show _ ≤ tS n a c (m + d) + tT n a c (m + d)
    omega
theorem tailB {σ : CS} {τ : MS} {N p : Nat} (hM : RM σ τ N) (hE : RE σ τ) (hN : N < 40) (hp : p < N) {n a c : Nat} (hn : n ≤ 60) (hb : a + c < 9223372036854775808) (hw : (a + c) ^ n < 9223372036854775808) (b0 : 0 < a + c) (p1 : c_above σ p = J (a : Int)) (p2 : m_upper τ p = J (a : Int)) (p3 : c_below σ p = J ((a + c : Nat) : Int)) (p4 : m_lower τ p = J ((a + c : Nat) : Int)) : ∀ (d i f0 f1 : Nat) (s : Nat), i + d = n + 1 → d < f0 → d < f1 → s + tS n a c i ≤ tS n a c i + s → s ≤ tS n a c i → ∃ r σ' τ', lp (fun k t => fX0_tail_B94 t.2.2.2.2.2 k t.1 t.2.1 t.2.2.1 t.2.2.2.1 t.2.2.2.2.1) f0 (nI n, nI p, J (((a + c) ^ n : Nat) : Int), J (s : Int), nI i, σ) = some (r, σ') ∧ lp (fun k t => fX1_tail_B111 t.2.2.2.2.2 k t.1 t.2.1 t.2.2.1 t.2.2.2.1 t.2.2.2.2.1) f1 (nI n, nI p, J (((a + c) ^ n : Nat) : Int), J (s : Int), nI i, τ) = some (r, τ') ∧ Rel σ' τ' := by
  intro d
  induction d with
  | zero =>
    intro i f0 f1 s hi hf0 hf1 _ hs
    obtain ⟨f0, rfl⟩ : ∃ g, f0 = g + 1 := ⟨f0 - 1, by omega⟩
    obtain ⟨f1, rfl⟩ : ∃ g, f1 = g + 1 := ⟨f1 - 1, by omega⟩
    have : i = n + 1 := by omega
    subst this
    rw [tS_all] at hs
    have pp : 0 < (a + c) ^ n := Nat.pow_pos b0
    obtain ⟨σ', τ', k1, k2, k3⟩ := keepB hM hE hN (nw_nat (show s < 9223372036854775808 by omega)) (nw_nat hw) (by omega)
    refine ⟨nI N, σ', τ', ?_, ?_, k3⟩
    · rw [lp_succ]
      show fX0_tail_B94 σ _ (nI n) (nI p) _ _ (nI (n + 1)) = _
      unfold fX0_tail_B94
      rw [if_pos (nI_lt (by omega) (by omega)), k1]
      rfl
    · rw [lp_succ]
      show fX1_tail_B111 τ _ (nI n) (nI p) _ _ (nI (n + 1)) = _
      unfold fX1_tail_B111
      rw [if_pos (nI_lt (by omega) (by omega)), k2]
      rfl
  | succ d ih =>
    intro i f0 f1 s hi hf0 hf1 _ hs
    obtain ⟨f0, rfl⟩ : ∃ g, f0 = g + 1 := ⟨f0 - 1, by omega⟩
    obtain ⟨f1, rfl⟩ : ∃ g, f1 = g + 1 := ⟨f1 - 1, by omega⟩
    have hin : i ≤ n := by omega
    have pa : a ^ i < 9223372036854775808 := Nat.lt_of_le_of_lt (Nat.pow_le_pow_left (by omega) i) (pow_lt hw hin)
    have pc : c ^ (n - i) < 9223372036854775808 := Nat.lt_of_le_of_lt (Nat.pow_le_pow_left (by omega) (n - i)) (pow_lt hw (by omega))
    have e1 : nI n - nI i = nI (n - i) := by
      apply Int32.toInt_inj.mp
      rw [pk_sub_toInt (by omega) (by omega), nI_toInt (by omega)]
      omega
    have lt : ¬ nI n < nI i := fun q => by
      have := i_lt.mp q
      rw [nI_toInt (by omega), nI_toInt (by omega)] at this
      omega
    have ec : J ((a + c : Nat) : Int) - J (a : Int) = J (c : Int) := by
      rw [J_subN (by omega)]
      congr 1
      omega
    have x0 : ix (nI p) 40 = true := nI_ix (by omega) (by omega)
    have x1 : ix (nI p) 41 = true := nI_ix (by omega) (by omega)
    obtain ⟨r, σ', τ', k1, k2, k3⟩ := ih (i + 1) f0 f1 (s + tT n a c i) (by omega) (by omega) (by omega) (by omega) (by
      show s + tT n a c i ≤ tS n a c i + tT n a c i
      omega)
    refine ⟨r, σ', τ', ?_, ?_, k3⟩
    · rw [lp_succ]
      refine Eq.trans ?_ k1
      show fX0_tail_B94 σ _ (nI n) (nI p) _ _ (nI i) = _
      unfold fX0_tail_B94
      rw [if_neg lt, choose0' hn (by omega), Option.bind_some, if_pos x0, nI_toNat (by omega), p1, p3, power0_ok (by omega) (by omega) pa, Option.bind_some, if_pos x0, if_pos x0, ec, e1, power0_ok (by omega) (by omega) pc, Option.bind_some, J_mulN, J_mulN, J_addN, nI_1]
      rfl
    · rw [lp_succ]
      refine Eq.trans ?_ k2
      show fX1_tail_B111 τ _ (nI n) (nI p) _ _ (nI i) = _
      unfold fX1_tail_B111
      rw [if_neg lt, choose1' hn (by omega), Option.bind_some, if_pos x1, nI_toNat (by omega), p2, power1_ok τ (by omega) (by omega) pa, Option.bind_some, if_pos x1, if_pos x1]
      show (fX1_power τ (m_lower τ p - m_upper τ p) (nI n - nI i)).bind _ = _
      rw [p2, p4, ec, e1, power1_ok τ (by omega) (by omega) pc, Option.bind_some]
      show lp _ f1 (nI n, nI p, _, J (s : Int) + J ((ch n i : Nat) : Int) * J ((a ^ i : Nat) : Int) * J ((c ^ (n - i) : Nat) : Int), nI i + 1, τ) = _
      rw [J_mulN, J_mulN, J_addN, nI_1]
      rfl
theorem imax_eq (x : Int32) : imax 0 x = if 0 ≤ x then x else 0 := by
  unfold imax
  by_cases q : (0 : Int32) < x
  · rw [if_pos q, if_pos (i_le.mpr (Int.le_of_lt (i_lt.mp q)))]
  · rw [if_neg q]
    by_cases h : (0 : Int32) ≤ x
    · rw [if_pos h]
      apply Int32.toInt_inj.mp
      have h1 := i_le.mp h
      have h2 : ¬ (0 : Int32).toInt < x.toInt := fun z => q (i_lt.mpr z)
      omega
    · rw [if_neg h]
theorem pu_tail {σ : CS} {τ : MS} (h : Rel σ τ) (x y w : Int32) : ∃ r σ' τ', fX0_tail σ x y w = some (r, σ') ∧ fX1_tail τ x y w = some (r, τ') ∧ Rel σ' τ' := by
  have hR : Rel σ (sm_thrown τ 0) := h
  unfold fX0_tail fX1_tail
  simp only [bd]
  generalize hτ : sm_thrown τ 0 = τ1 at hR ⊢
  obtain ⟨⟨N, hM1⟩, hE1⟩ := id hR
  obtain ⟨hN, h1, h2', h3⟩ := id hM1
  have w6 : nw 60 := by unfold nw; omega
  rw [show (60 : Int64) = J 60 by decide, show (0 : Int64) = J 0 from J_0]
  by_cases c1 : x.toInt < 0
  · rw [if_pos (show x < (0 : Int32) from i_lt.mpr c1), isIn_f nw_0 w6 (Or.inl c1)]
    exact ⟨_, _, _, rfl, rfl, hR⟩
  rw [if_neg (show ¬ x < (0 : Int32) from fun q => c1 (i_lt.mp q))]
  by_cases c2 : x.toInt ≤ 60
  case neg =>
    rw [if_pos (show (60 : Int32) < x from i_lt.mpr (by rw [show (60 : Int32).toInt = 60 from rfl]; omega)), isIn_f nw_0 w6 (Or.inr (by omega))]
    exact ⟨_, _, _, rfl, rfl, hR⟩
  rw [if_neg (show ¬ (60 : Int32) < x from fun q => absurd (i_lt.mp q) (by rw [show (60 : Int32).toInt = 60 from rfl]; omega)), isIn_t nw_0 w6 (by omega) c2]
  simp only [Option.bind_some]
  rw [if_neg one_ne]
  obtain ⟨n, hx, hn⟩ : ∃ M : Nat, x = nI M ∧ x.toInt = M := ⟨x.toInt.toNat, by
    apply Int32.toInt_inj.mp
    rw [nI_toInt (by omega)]
    omega, by omega⟩
  rw [hn] at c1 c2
  subst hx
  rcases pk_ix w (n := N) (by omega) with q | q | ⟨p, hp, rfl⟩
  · rw [num0_out h1 (Or.inl q), num1_out hN h2' (Or.inl q)]; exact ⟨_, _, _, rfl, rfl, hR⟩
  · rw [num0_out h1 (Or.inr q), num1_out hN h2' (Or.inr q)]; exact ⟨_, _, _, rfl, rfl, hR⟩
  rw [num0_in hN h1 hp, num1_in hN h2' hp]
  obtain ⟨U, V, a1, a2, a3, a4, hU, hV, V0, hg⟩ := h3 p hp
  have xi : ix (nI p) 40 = true := nI_ix (by omega) (by omega)
  have xj : ix (nI p) 41 = true := nI_ix (by omega) (by omega)
  simp only [Option.bind_some, if_neg one_ne, if_pos xi, if_pos xj, nI_toNat (show p < 2147483648 by omega), a1, a2, a3, a4]
  by_cases c3 : U < 0
  · rw [if_pos ((J_lt hU nw_0).mpr c3), if_pos ((J_lt hU nw_0).mpr c3)]
    exact ⟨_, _, _, rfl, rfl, hR⟩
  rw [if_neg (fun q => c3 ((J_lt hU nw_0).mp q)), if_neg (fun q => c3 ((J_lt hU nw_0).mp q))]
  by_cases c4 : U ≤ V
  case neg =>
    rw [if_neg (fun q => c4 ((J_le hU hV).mp q)), if_neg (fun q => c4 ((J_le hU hV).mp q))]
    exact ⟨_, _, _, rfl, rfl, hR⟩
  rw [if_pos ((J_le hU hV).mpr c4), if_pos ((J_le hU hV).mpr c4)]
  by_cases hf : N = 40
  · subst hf
    rw [full0' h1, if_pos (show m_numbers τ1 = (40 : Int32) from h2')]
    exact ⟨_, _, _, rfl, rfl, hR⟩
  have hN' : N < 40 := by omega
  rw [full0 h1 hN', if_neg (full1 h2' hN')]
  obtain ⟨a, rfl⟩ : ∃ a : Nat, U = (a : Int) := ⟨U.toNat, by omega⟩
  obtain ⟨c, hc⟩ : ∃ c : Nat, V = ((a + c : Nat) : Int) := ⟨(V - a).toNat, by omega⟩
  subst hc
  have a4' : m_lower (sm_isWide τ1 0) p = J ((a + c : Nat) : Int) := a4
  have a2' : m_upper (sm_isWide τ1 0) p = J (a : Int) := a2
  have hw : m_isWide (sm_isWide τ1 0) = 0 := rfl
  have hR2 : Rel σ (sm_isWide τ1 0) := hR
  have hM2 : RM σ (sm_isWide τ1 0) N := hM1
  have hE2 : RE σ (sm_isWide τ1 0) := hE1
  have hR3 : Rel σ (sm_isWide (sm_isWide τ1 0) 1) := hR
  have hw3 : m_isWide (sm_isWide (sm_isWide τ1 0) 1) = 1 := rfl
  generalize hτ2 : sm_isWide τ1 0 = τ2 at a4' a2' hw hR2 hM2 hE2 hR3 hw3 ⊢
  simp only [Option.bind_some, if_true]
  have hVb : a + c < 9223372036854775808 := by unfold nw at hV; omega
  rw [a4']
  by_cases z : (a + c) ^ n < 9223372036854775808
  · rw [power0_ok hVb (by omega) z, power1_ok τ2 hVb (by omega) z]
    simp only [Option.bind_some]
    rw [if_neg (J_ne_min (nw_nat z)), if_pos hw, imax_eq]
    unfold fX1_tail_L109 fX0_tail_L94 fX1_tail_L111
    have main : ∀ i : Nat, i ≤ n + 1 → ∃ r σ' τ', lp (fun k t => fX0_tail_B94 t.2.2.2.2.2 k t.1 t.2.1 t.2.2.1 t.2.2.2.1 t.2.2.2.2.1) FU (nI n, nI p, J (((a + c) ^ n : Nat) : Int), J 0, nI i, σ) = some (r, σ') ∧ lp (fun k t => fX1_tail_B111 t.2.2.2.2.2 k t.1 t.2.1 t.2.2.1 t.2.2.2.1 t.2.2.2.2.1) FU (nI n, nI p, J (((a + c) ^ n : Nat) : Int), J 0, nI i, τ2) = some (r, τ') ∧ Rel σ' τ' := fun i hi => tailB hM2 hE2 hN' hp (by omega) hVb z (by omega) a1 a2' a3 a4' (n + 1 - i) i FU FU 0 (by omega) (by unfold FU; omega) (by unfold FU; omega) (by omega) (by omega)
    by_cases c5 : (0 : Int32) ≤ y
    · rw [if_pos c5, if_pos c5]
      rcases pk_ix y (n := n + 1) (by omega) with q | q | ⟨i, hi, rfl⟩
      · exact absurd c5 (Int32.not_le.mpr q)
      · have lt : nI n < y := by
          apply i_lt.mpr
          have := i_le.mp q
          rw [nI_toInt (by omega)] at this ⊢
          omega
        obtain ⟨r, σ', τ', k1, k2, k3⟩ := main (n + 1) (by omega)
        refine ⟨r, σ', τ', ?_, ?_, k3⟩
        · rw [← k1]
          show lp _ (69999 + 1) _ = lp _ (69999 + 1) _
          rw [lp_succ, lp_succ]
          show fX0_tail_B94 σ _ (nI n) (nI p) _ _ y = fX0_tail_B94 σ _ (nI n) (nI p) _ _ (nI (n + 1))
          unfold fX0_tail_B94
          rw [if_pos lt, if_pos (nI_lt (by omega) (by omega))]
        · rw [← k2]
          show lp _ (69999 + 1) _ = lp _ (69999 + 1) _
          rw [lp_succ, lp_succ]
          show fX1_tail_B111 τ2 _ (nI n) (nI p) _ _ y = fX1_tail_B111 τ2 _ (nI n) (nI p) _ _ (nI (n + 1))
          unfold fX1_tail_B111
          rw [if_pos lt, if_pos (nI_lt (by omega) (by omega))]
      · exact main i (by omega)
    · rw [if_neg c5, if_neg c5]
      exact main 0 (by omega)
  · rw [power0_w hVb (by omega) z, power1_w τ2 hVb (by omega) z]
    simp only [Option.bind_some, if_true]
    rw [hw3, if_neg one_ne]
    exact ⟨_, _, _, rfl, rfl, hR3⟩
theorem nI_subN {a b : Nat} (h : b ≤ a) (ha : a < 1073741824) : nI a - nI b = nI (a - b) := by
  apply Int32.toInt_inj.mp
  rw [pk_sub_toInt (by omega) (by omega), nI_toInt (by omega)]
  omega
theorem nat_of {x : Int32} (h : 0 ≤ x.toInt) : ∃ n : Nat, x = nI n ∧ x.toInt = n ∧ n < 2147483648 := ⟨x.toInt.toNat, by
    have := Int32.toInt_lt x
    apply Int32.toInt_inj.mp
    rw [nI_toInt (by omega)]
    omega, by omega, by have := Int32.toInt_lt x; omega⟩
theorem choose0_any {n : Nat} (hn : n ≤ 60) (x : Int32) : ∃ z, fX0_choose (nI n) x = some z := by
  by_cases h : x < 0
  · exact ⟨_, choose0_neg h⟩
  · obtain ⟨k, rfl, -, hk⟩ := nat_of (x := x) (by
      have : ¬ x.toInt < 0 := fun q => h (i_lt.mpr q)
      omega)
    exact ⟨_, choose0' hn hk⟩
theorem J0mul (z : Int64) : J 0 * z = J 0 := by rw [J_of z, J_mul, Int.zero_mul]
theorem mulJ0 (z : Int64) : z * J 0 = J 0 := by rw [J_of z, J_mul, Int.mul_zero]
theorem pu_urn {σ : CS} {τ : MS} (h : Rel σ τ) (x y w v : Int32) : ∃ r σ' τ', fX0_urn σ x y w v = some (r, σ') ∧ fX1_urn τ x y w v = some (r, τ') ∧ Rel σ' τ' := by
  have hR : Rel σ (sm_thrown τ 0) := h
  unfold fX0_urn fX1_urn
  simp only [bd]
  generalize hτ : sm_thrown τ 0 = τ1 at hR ⊢
  obtain ⟨⟨N, hM1⟩, hE1⟩ := id hR
  obtain ⟨hN, h1, h2', h3⟩ := id hM1
  have w6 : nw 60 := by unfold nw; omega
  rw [show (60 : Int64) = J 60 by decide, show (0 : Int64) = J 0 from J_0]
  by_cases c1 : x.toInt < 0
  · rw [if_pos (show x < (0 : Int32) from i_lt.mpr c1), isIn_f nw_0 w6 (Or.inl c1)]
    exact ⟨_, _, _, rfl, rfl, hR⟩
  rw [if_neg (show ¬ x < (0 : Int32) from fun q => c1 (i_lt.mp q))]
  by_cases c2 : x.toInt ≤ 60
  case neg =>
    rw [if_pos (show (60 : Int32) < x from i_lt.mpr (by rw [show (60 : Int32).toInt = 60 from rfl]; omega)), isIn_f nw_0 w6 (Or.inr (by omega))]
    exact ⟨_, _, _, rfl, rfl, hR⟩
  rw [if_neg (show ¬ (60 : Int32) < x from fun q => absurd (i_lt.mp q) (by rw [show (60 : Int32).toInt = 60 from rfl]; omega)), isIn_t nw_0 w6 (by omega) c2]
  simp only [Option.bind_some]
  rw [if_neg one_ne]
  obtain ⟨n, hx, hn, -⟩ := nat_of (x := x) (by omega)
  rw [hn] at c1 c2
  subst hx
  rw [nI_toL (show n < 2147483648 by omega)]
  have wn : nw (n : Int) := nw_nat (by omega)
  by_cases c3 : y.toInt < 0
  · rw [if_pos (show y < (0 : Int32) from i_lt.mpr c3), isIn_f nw_0 wn (Or.inl c3)]
    exact ⟨_, _, _, rfl, rfl, hR⟩
  rw [if_neg (show ¬ y < (0 : Int32) from fun q => c3 (i_lt.mp q))]
  by_cases c4 : y.toInt ≤ n
  case neg =>
    rw [if_pos (show nI n < y from i_lt.mpr (by rw [hn]; omega)), isIn_f nw_0 wn (Or.inr (by omega))]
    exact ⟨_, _, _, rfl, rfl, hR⟩
  rw [if_neg (show ¬ nI n < y from fun q => absurd (i_lt.mp q) (by rw [hn]; omega)), isIn_t nw_0 wn (by omega) c4]
  simp only [Option.bind_some]
  rw [if_neg one_ne]
  obtain ⟨g, hy, hg, -⟩ := nat_of (x := y) (by omega)
  rw [hg] at c3 c4
  subst hy
  by_cases c5 : w.toInt < 0
  · rw [if_pos (show w < (0 : Int32) from i_lt.mpr c5), isIn_f nw_0 wn (Or.inl c5)]
    exact ⟨_, _, _, rfl, rfl, hR⟩
  rw [if_neg (show ¬ w < (0 : Int32) from fun q => c5 (i_lt.mp q))]
  by_cases c6 : w.toInt ≤ n
  case neg =>
    rw [if_neg (show ¬ w ≤ nI n from fun q => absurd (i_le.mp q) (by rw [hn]; omega)), isIn_f nw_0 wn (Or.inr (by omega))]
    exact ⟨_, _, _, rfl, rfl, hR⟩
  rw [if_pos (show w ≤ nI n from i_le.mpr (by rw [hn]; omega)), isIn_t nw_0 wn (by omega) c6]
  simp only [Option.bind_some]
  rw [if_neg one_ne]
  obtain ⟨d, hw, hd, -⟩ := nat_of (x := w) (by omega)
  rw [hd] at c5 c6
  subst hw
  have fin : ∀ u : Nat, u < 9223372036854775808 → ∀ A : Option (Int32 × MS), A = ((fX1_kept τ1 (J (u : Int)) (J ((ch n d : Nat) : Int))).bind fun o5 => some (o5.1, o5.2)) → ∃ r σ' τ', ((fX0_keep σ (J (u : Int)) (J ((ch n d : Nat) : Int))).bind fun o13 => some (o13.1, o13.2)) = some (r, σ') ∧ (if m_numbers τ1 = 40 then some (-4, τ1) else A) = some (r, τ') ∧ Rel σ' τ' := by
    intro u hu A hA
    have b := ch_b (n := n) (k := d) (by omega)
    have b0 := ch_pos n d (by omega)
    by_cases hf : N = 40
    · subst hf
      rw [keep0_full h1, if_pos (show m_numbers τ1 = (40 : Int32) from h2')]
      exact ⟨_, _, _, rfl, rfl, hR⟩
    · have hN' : N < 40 := by omega
      obtain ⟨σ', τ', k1, k2, k3⟩ := keepB hM1 hE1 hN' (nw_nat hu) (nw_nat (show ch n d < 9223372036854775808 by omega)) (by omega)
      rw [if_neg (full1 h2' hN'), hA, k1, k2]
      exact ⟨_, _, _, rfl, rfl, k3⟩
  have e1 : nI n - nI g = nI (n - g) := nI_subN (by omega) (by omega)
  have cd0 := choose0' (n := n) (k := d) (by omega) (by omega)
  have cd1 := choose1' (n := n) (k := d) (by omega) (by omega)
  unfold fX1_urn_L85
  rw [e1, cd0, cd1]
  by_cases c7 : v < 0
  · obtain ⟨z, hz⟩ := choose0_any (n := n - g) (by omega) (nI d - v)
    rw [choose0_neg c7, choose1_neg c7, hz]
    simp only [Option.bind_some]
    rw [if_neg (show ¬ (0 : Int32) ≤ v from Int32.not_le.mpr c7), choose1_neg (show (-1 : Int32) < 0 by decide)]
    simp only [Option.bind_some]
    rw [show (0 : Int64) = J 0 from J_0, J0mul, J0mul]
    exact fin 0 (by omega) _ rfl
  · obtain ⟨k, rfl, hk, hk2⟩ := nat_of (x := v) (by
      have : ¬ v.toInt < 0 := fun q => c7 (i_lt.mpr q)
      omega)
    rw [choose0' (by omega) hk2, choose1' (by omega) hk2]
    simp only [Option.bind_some]
    rw [if_pos (show (0 : Int32) ≤ nI k from i_le.mpr (by rw [hk]; exact Int.natCast_nonneg _))]
    by_cases c8 : k ≤ d
    · have e2 : nI d - nI k = nI (d - k) := nI_subN c8 (by omega)
      rw [if_pos (nI_le c8 (by omega)), e2, choose0' (by omega) (by omega), choose1' (by omega) (by omega)]
      simp only [Option.bind_some]
      rw [J_mulN]
      refine fin _ ?_ _ rfl
      have p1 := ch_two g k
      have p2 := ch_two (n - g) (d - k)
      have p3 : ch g k * ch (n - g) (d - k) ≤ 2 ^ g * 2 ^ (n - g) := Nat.mul_le_mul p1 p2
      rw [← Nat.pow_add, show g + (n - g) = n by omega] at p3
      have p4 : 2 ^ n ≤ 2 ^ 60 := Nat.pow_le_pow_right (by omega) (by omega)
      have p5 : (2 : Nat) ^ 60 = 1152921504606846976 := by decide
      omega
    · have lt : nI d - nI k < 0 := by
        apply i_lt.mpr
        rw [show (0 : Int32).toInt = 0 from rfl]
        have e : (nI d - nI k).toInt = (d : Int) - k := by
          have h4 : I (d : Int) - I (k : Int) = I ((d : Int) - k) := I_sub _ _
          rw [I_nat, I_nat] at h4
          rw [h4, I_toInt (by omega) (by omega)]
        rw [e]
        omega
      rw [if_neg (show ¬ nI k ≤ nI d from nI_ge (by omega) (by omega)), choose0_neg lt, choose1_neg (show (-1 : Int32) < 0 by decide)]
      simp only [Option.bind_some]
      rw [show (0 : Int64) = J 0 from J_0, mulJ0]
      exact fin 0 (by omega) _ rfl
