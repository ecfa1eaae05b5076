/-! PURE: related states; times, plus, keep; value, drop, part, count, given, ways, empty, into, at -/
def RN (ab be : Nat → Int64) (n : Int32) (up lo : Nat → Int64) (n' : Int32) (N : Nat) : Prop :=
  N ≤ 40 ∧ n = nI N ∧ n' = nI N ∧ ∀ i, i < N → ∃ u v : Int, ab i = J u ∧ up i = J u ∧ be i = J v ∧ lo i = J v ∧ nw u ∧ nw v ∧ 0 < v ∧ Nat.gcd u.natAbs v.natAbs = 1
def RR (va : Nat → Nat → Int64) (sz : Nat → Int32) (vl : Nat → Int64) (mn : Nat → Int32) : Prop :=
  ∀ r, r < 4 → ∃ k : Nat, k ≤ 8 ∧ sz r = nI k ∧ mn r = nI k ∧ ∀ j, j < k → ∃ v : Nat, v ≤ 1000000 ∧ va r j = J (v : Int) ∧ vl (8 * r + j) = J (v : Int)
def RS (st : Int32) (sg : Nat → Int32) (sd : Int32) (se : Nat → Int32) : Prop :=
  (st = 0 ∧ sd = -5) ∨ ∃ k : Nat, k ≤ 8 ∧ st = nI k ∧ sd = nI k ∧ ∀ j, j < k → sg j = se j
def RW (w0 w1 w2 : Int32) (it nb al ju : Int32) : Prop :=
  (w1 = 0 ∧ it = 0) ∨ (¬ w1 = 0 ∧ ¬ it = 0 ∧ w0 = nb ∧ w1 = al ∧ w2 = ju)
def RE (σ : CS) (τ : MS) : Prop := c_grown σ = m_grown τ ∧ RR (c_values σ) (c_sizes σ) (m_value τ) (m_many τ) ∧ RS (c_seatsGivenTo σ) (c_seatsGiven σ) (m_seated τ) (m_seat τ) ∧ RW (c_waysNotBelow σ) (c_waysInAll σ) (c_waysWithJustThat σ) (m_isTested τ) (m_notBelow τ) (m_all τ) (m_just τ)
def RM (σ : CS) (τ : MS) (N : Nat) : Prop := RN (c_above σ) (c_below σ) (c_numbers σ) (m_upper τ) (m_lower τ) (m_numbers τ) N
def Rel (σ : CS) (τ : MS) : Prop := (∃ N, RM σ τ N) ∧ RE σ τ
theorem Rel_0 : Rel cs0 ms0 := by
  refine ⟨⟨0, by omega, rfl, rfl, fun i h => absurd h (by omega)⟩, rfl, ?_, Or.inl ⟨rfl, rfl⟩, Or.inl ⟨rfl, rfl⟩⟩
  intro r hr
  exact ⟨0, by omega, rfl, rfl, fun j h => absurd h (by omega)⟩
/-! whether it is a number's place -/
theorem num0_in {σ : CS} {N i : Nat} (hN : N ≤ 40) (h : c_numbers σ = nI N) (hi : i < N) : fX0_isNumber σ (nI i) = some 1 := by
  unfold fX0_isNumber
  rw [if_neg (nI_pos (by omega)), h, if_neg (nI_ge hi (by omega))]
theorem num0_out {σ : CS} {N : Nat} {x : Int32} (h : c_numbers σ = nI N) (hx : x < 0 ∨ nI N ≤ x) : fX0_isNumber σ x = some 0 := by
  unfold fX0_isNumber
  by_cases h0 : x < 0
  · rw [if_pos h0]
  · rw [if_neg h0, h, if_pos (hx.resolve_left h0)]
theorem isIn_eq (x y z : Int64) : fX1_isIn x y z = some (if y ≤ x ∧ x ≤ z then 1 else 0) := by
  unfold fX1_isIn
  by_cases h1 : x < y
  · rw [if_pos h1, if_neg (fun q => absurd q.1 (Int64.not_le.mpr h1))]
  · rw [if_neg h1]
    by_cases h2 : z < x
    · rw [if_pos h2, if_neg (fun q => absurd q.2 (Int64.not_le.mpr h2))]
    · rw [if_neg h2, if_pos ⟨Int64.not_lt.mp h1, Int64.not_lt.mp h2⟩]
theorem isIn_i (x : Int32) {a b : Int} (ha : nw a) (hb : nw b) : fX1_isIn x.toInt64 (J a) (J b) = some (if a ≤ x.toInt ∧ x.toInt ≤ b then 1 else 0) := by
  rw [isIn_eq, i2l_J]
  by_cases h : a ≤ x.toInt ∧ x.toInt ≤ b
  · rw [if_pos h, if_pos ⟨(J_le ha (nw_i x)).mpr h.1, (J_le (nw_i x) hb).mpr h.2⟩]
  · rw [if_neg h, if_neg (fun q => h ⟨(J_le ha (nw_i x)).mp q.1, (J_le (nw_i x) hb).mp q.2⟩)]
theorem isIn_t {x : Int32} {a b : Int} (ha : nw a) (hb : nw b) (h1 : a ≤ x.toInt) (h2 : x.toInt ≤ b) : fX1_isIn x.toInt64 (J a) (J b) = some 1 := by
  rw [isIn_i x ha hb, if_pos ⟨h1, h2⟩]
theorem isIn_f {x : Int32} {a b : Int} (ha : nw a) (hb : nw b) (h : x.toInt < a ∨ b < x.toInt) : fX1_isIn x.toInt64 (J a) (J b) = some 0 := by
  rw [isIn_i x ha hb, if_neg (fun q => by omega)]
theorem num1_eq {τ : MS} {N : Nat} (hN : N ≤ 40) (h : m_numbers τ = nI N) (x : Int32) : fX1_isNumber τ x = some (if 0 ≤ x.toInt ∧ x.toInt ≤ (N : Int) - 1 then 1 else 0) := by
  unfold fX1_isNumber
  have e : (m_numbers τ - (1 : Int32)).toInt64 = J ((N : Int) - 1) := by
    rw [i2l_J, h]
    congr 1
    rw [show (1 : Int32) = nI 1 from rfl, pk_sub_toInt (by omega) (by omega)]
    rfl
  rw [e, J_0, isIn_i x nw_0 (by unfold nw; omega)]
  show (if zb _ = true then _ else _) = _
  by_cases hc : 0 ≤ x.toInt ∧ x.toInt ≤ (N : Int) - 1
  · rw [if_pos hc]; rfl
  · rw [if_neg hc]; rfl
theorem num1_in {τ : MS} {N i : Nat} (hN : N ≤ 40) (h : m_numbers τ = nI N) (hi : i < N) : fX1_isNumber τ (nI i) = some 1 := by
  rw [num1_eq hN h, nI_toInt (by omega), if_pos (by omega)]
theorem num1_out {τ : MS} {N : Nat} {x : Int32} (hN : N ≤ 40) (h : m_numbers τ = nI N) (hx : x < 0 ∨ nI N ≤ x) : fX1_isNumber τ x = some 0 := by
  rw [num1_eq hN h, if_neg]
  rintro ⟨h1, h2⟩
  rcases hx with q | q
  · have := i_lt.mp q
    rw [show (0 : Int32).toInt = 0 from rfl] at this
    omega
  · have := i_le.mp q
    rw [nI_toInt (by omega)] at this
    omega
/-! wide or not -/
theorem times0_ok {a b : Int} (ha : nw a) (hb : nw b) (h : nw (a * b)) : fX0_times (J a) (J b) = some (J (a * b)) := by
  unfold fX0_times fX0_times_L48
  rw [if_neg (J_ne_min ha), if_neg (J_ne_min hb), J_mul]
  by_cases hb0 : b = 0
  · subst hb0; rw [if_pos (show J 0 = (0 : Int64) from rfl)]
  · rw [if_neg (J_ne0 hb hb0), J_abs ha, J_abs hb, if_neg (J_ne0 (nw_abs hb) (by omega)), J_max, J_div nw_max (nw_abs hb)]
    rw [if_pos]
    rw [J_le (nw_abs ha) (nw_tdiv _ nw_max)]
    have e : (9223372036854775807 : Int).tdiv (b.natAbs : Int) = ((9223372036854775807 / b.natAbs : Nat) : Int) := tdivN 9223372036854775807 b.natAbs
    rw [e]
    have : a.natAbs ≤ 9223372036854775807 / b.natAbs := (Nat.le_div_iff_mul_le (by omega)).mpr (by rw [← Int.natAbs_mul]; unfold nw at h; omega)
    omega
theorem times0_w {a b : Int} (ha : nw a) (hb : nw b) (h : ¬ nw (a * b)) : fX0_times (J a) (J b) = some (-9223372036854775808 : Int64) := by
  unfold fX0_times fX0_times_L48
  rw [if_neg (J_ne_min ha), if_neg (J_ne_min hb)]
  have hb0 : b ≠ 0 := fun e => h (by rw [e, Int.mul_zero]; exact nw_0)
  rw [if_neg (J_ne0 hb hb0), J_abs ha, J_abs hb, if_neg (J_ne0 (nw_abs hb) (by omega)), J_max, J_div nw_max (nw_abs hb)]
  rw [if_neg]
  rw [J_le (nw_abs ha) (nw_tdiv _ nw_max)]
  have e : (9223372036854775807 : Int).tdiv (b.natAbs : Int) = ((9223372036854775807 / b.natAbs : Nat) : Int) := tdivN 9223372036854775807 b.natAbs
  rw [e]
  intro q
  have q' : a.natAbs ≤ 9223372036854775807 / b.natAbs := by omega
  have := (Nat.le_div_iff_mul_le (by omega)).mp q'
  rw [← Int.natAbs_mul] at this
  exact h (by unfold nw; omega)
theorem times0_m1 {b : Int64} : fX0_times (-9223372036854775808 : Int64) b = some (-9223372036854775808 : Int64) := by
  unfold fX0_times
  rw [if_pos rfl]
theorem times1_ok (τ : MS) {a b : Int} (ha : nw a) (hb : nw b) (h : nw (a * b)) : fX1_times τ (J a) (J b) = some (J (a * b), τ) := by
  unfold fX1_times
  by_cases ha0 : a = 0
  · subst ha0; rw [if_pos (show J 0 = (0 : Int64) from rfl), Int.zero_mul]; rfl
  · rw [if_neg (J_ne0 ha ha0)]
    by_cases hb0 : b = 0
    · subst hb0; rw [if_pos (show J 0 = (0 : Int64) from rfl), Int.mul_zero]; rfl
    · rw [if_neg (J_ne0 hb hb0), sizeOf_eq ha, sizeOf_eq hb]
      show (if J _ = 0 then none else if J _ ≤ _ / J _ then _ else _) = _
      rw [if_neg (J_ne0 (nw_abs hb) (by omega)), J_max, J_div nw_max (nw_abs hb), if_pos, J_mul]
      rw [J_le (nw_abs ha) (nw_tdiv _ nw_max)]
      have e : (9223372036854775807 : Int).tdiv (b.natAbs : Int) = ((9223372036854775807 / b.natAbs : Nat) : Int) := tdivN 9223372036854775807 b.natAbs
      rw [e]
      have : a.natAbs ≤ 9223372036854775807 / b.natAbs := (Nat.le_div_iff_mul_le (by omega)).mpr (by rw [← Int.natAbs_mul]; unfold nw at h; omega)
      omega
theorem times1_w (τ : MS) {a b : Int} (ha : nw a) (hb : nw b) (h : ¬ nw (a * b)) : fX1_times τ (J a) (J b) = some (0, sm_isWide τ 1) := by
  unfold fX1_times
  have ha0 : a ≠ 0 := fun e => h (by rw [e, Int.zero_mul]; exact nw_0)
  have hb0 : b ≠ 0 := fun e => h (by rw [e, Int.mul_zero]; exact nw_0)
  rw [if_neg (J_ne0 ha ha0), if_neg (J_ne0 hb hb0), sizeOf_eq ha, sizeOf_eq hb]
  show (if J _ = 0 then none else if J _ ≤ _ / J _ then _ else _) = _
  rw [if_neg (J_ne0 (nw_abs hb) (by omega)), J_max, J_div nw_max (nw_abs hb), if_neg]
  · rfl
  rw [J_le (nw_abs ha) (nw_tdiv _ nw_max)]
  have e : (9223372036854775807 : Int).tdiv (b.natAbs : Int) = ((9223372036854775807 / b.natAbs : Nat) : Int) := tdivN 9223372036854775807 b.natAbs
  rw [e]
  intro q
  have q' : a.natAbs ≤ 9223372036854775807 / b.natAbs := by omega
  have := (Nat.le_div_iff_mul_le (by omega)).mp q'
  rw [← Int.natAbs_mul] at this
  exact h (by unfold nw; omega)
theorem J_wrap (z : Int) : J (z + 18446744073709551616) = J z := by
  rw [← J_add, show J 18446744073709551616 = J 0 by decide, J_add, Int.add_zero]
theorem J_wrap' (z : Int) : J (z - 18446744073709551616) = J z := by
  rw [← J_sub, show J 18446744073709551616 = J 0 by decide, J_sub, Int.sub_zero]
theorem plus0_ok {a b : Int} (ha : nw a) (hb : nw b) (h : nw (a + b)) : fX0_plus (J a) (J b) = some (J (a + b)) := by
  unfold fX0_plus fX0_plus_L44 fX0_plus_L63 fX0_plus_L67 fX0_plus_L68
  rw [if_neg (J_ne_min ha), if_neg (J_ne_min hb), J_add, J_0]
  simp only [J_le nw_0 ha, J_le ha nw_0, J_le nw_0 hb, J_le hb nw_0, J_lt h nw_0]
  by_cases h1 : a ≤ 0
  · rw [if_pos h1]
    by_cases h2 : 0 ≤ a
    · rw [if_pos h2]; rfl
    · rw [if_neg h2]
      by_cases h3 : 0 ≤ b
      · rw [if_pos h3]; rfl
      · rw [if_neg h3, if_pos (by omega)]; rfl
  · rw [if_neg h1]
    by_cases h2 : b ≤ 0
    · rw [if_pos h2, if_pos (by omega)]; rfl
    · rw [if_neg h2, if_neg (by omega), if_pos (by omega)]; rfl
theorem plus0_w {a b : Int} (ha : nw a) (hb : nw b) (h : ¬ nw (a + b)) : fX0_plus (J a) (J b) = some (-9223372036854775808 : Int64) := by
  unfold fX0_plus fX0_plus_L44 fX0_plus_L63 fX0_plus_L67 fX0_plus_L68
  rw [if_neg (J_ne_min ha), if_neg (J_ne_min hb), J_add, J_0]
  simp only [J_le nw_0 ha, J_le ha nw_0, J_le nw_0 hb, J_le hb nw_0]
  by_cases h1 : a ≤ 0
  · have h2 : ¬ 0 ≤ a := by unfold nw at *; omega
    have h3 : ¬ 0 ≤ b := by unfold nw at *; omega
    rw [if_pos h1, if_neg h2, if_neg h3]
    by_cases h4 : a + b = -9223372036854775808
    · rw [h4, if_pos (by decide)]
      show some (J _) = _
      rw [← J_min]
    · rw [← J_wrap (a + b), if_neg (fun q => by
        have := (J_lt (by unfold nw at *; omega) nw_0).mp q
        unfold nw at *
        omega)]
      rfl
  · have h2 : ¬ b ≤ 0 := by unfold nw at *; omega
    have h3 : J (a + b) < J 0 := by
      by_cases h4 : a + b = 9223372036854775808
      · rw [h4]; decide
      · rw [← J_wrap' (a + b)]
        exact (J_lt (a := a + b - 18446744073709551616) (b := 0) (by unfold nw at *; omega) nw_0).mpr (by unfold nw at *; omega)
    rw [if_neg h1, if_neg h2, if_pos h3]
    rfl
theorem plus0_m1 {b : Int64} : fX0_plus (-9223372036854775808 : Int64) b = some (-9223372036854775808 : Int64) := by
  unfold fX0_plus
  rw [if_pos rfl]
theorem plus0_m2 {a : Int64} : fX0_plus a (-9223372036854775808 : Int64) = some (-9223372036854775808 : Int64) := by
  unfold fX0_plus
  by_cases h : a = (-9223372036854775808 : Int64)
  · rw [if_pos h]
  · rw [if_neg h, if_pos rfl]
theorem J_nmax : (-9223372036854775807 : Int64) = J (-9223372036854775807) := by decide
theorem plus1_ok (τ : MS) {a b : Int} (ha : nw a) (hb : nw b) (h : nw (a + b)) : fX1_plus τ (J a) (J b) = some (J (a + b), τ) := by
  unfold fX1_plus fX1_plus_L16 fX1_plus_L32 fX1_plus_L39
  rw [J_0, J_nmax, J_max, J_sub, J_sub, J_add]
  simp only [J_le nw_0 ha, J_le ha nw_0]
  by_cases h1 : a ≤ 0
  · rw [if_pos h1]
    by_cases h2 : 0 ≤ a
    · rw [if_pos h2]
    · rw [if_neg h2, if_pos ((J_le (by unfold nw at *; omega) hb).mpr (by unfold nw at *; omega))]
  · rw [if_neg h1, if_neg (fun q => by
      have := (J_lt (by unfold nw at *; omega) hb).mp q
      unfold nw at *
      omega), if_pos (by omega)]
theorem plus1_w (τ : MS) {a b : Int} (ha : nw a) (hb : nw b) (h : ¬ nw (a + b)) : fX1_plus τ (J a) (J b) = some (0, sm_isWide τ 1) := by
  unfold fX1_plus fX1_plus_L16 fX1_plus_L32 fX1_plus_L39
  rw [J_0, J_nmax, J_max, J_sub, J_sub, J_add]
  simp only [J_le nw_0 ha, J_le ha nw_0]
  by_cases h1 : a ≤ 0
  · rw [if_pos h1, if_neg (by unfold nw at *; omega), if_neg (fun q => by
      have := (J_le (by unfold nw at *; omega) hb).mp q
      unfold nw at *
      omega)]
    rfl
  · rw [if_neg h1, if_pos ((J_lt (by unfold nw at *; omega) hb).mpr (by unfold nw at *; omega))]
    rfl
/-- with a flag that stands already, plus keeps it -/
theorem plus1_any (τ : MS) (h : ¬ m_isWide τ = 0) (x y : Int64) : ∃ z τ', fX1_plus τ x y = some (z, τ') ∧ ¬ m_isWide τ' = 0 ∧ (τ' = τ ∨ τ' = sm_isWide τ 1) := by
  unfold fX1_plus fX1_plus_L16 fX1_plus_L32 fX1_plus_L39
  simp only [bd]
  have k : ¬ m_isWide (sm_isWide τ 1) = 0 := show ¬ (1 : Int32) = 0 by decide
  split
  · split
    · exact ⟨_, _, rfl, h, Or.inl rfl⟩
    · split
      · exact ⟨_, _, rfl, h, Or.inl rfl⟩
      · exact ⟨_, _, rfl, k, Or.inr rfl⟩
  · split
    · exact ⟨_, _, rfl, k, Or.inr rfl⟩
    · split
      · exact ⟨_, _, rfl, h, Or.inl rfl⟩
      · split
        · exact ⟨_, _, rfl, h, Or.inl rfl⟩
        · exact ⟨_, _, rfl, k, Or.inr rfl⟩
/-! keep -/
theorem full0 {σ : CS} {N : Nat} (h : c_numbers σ = nI N) (hN : N < 40) : fX0_isFull σ = some 0 := by
  unfold fX0_isFull
  rw [h, if_pos (show nI N < (40 : Int32) from nI_lt (b := 40) hN (by omega))]
theorem full0' {σ : CS} (h : c_numbers σ = nI 40) : fX0_isFull σ = some 1 := by
  unfold fX0_isFull
  rw [h]
  rfl
def k0 (σ : CS) (N : Nat) (a b : Int64) : CS := sc_numbers (sc_below (sc_above σ (vp_updL (c_above σ) N a)) (vp_updL (c_below σ) N b)) (nI (N + 1))
def k1 (τ : MS) (N : Nat) (a b : Int64) : MS := sm_numbers (sm_lower (sm_upper τ (vp_updL (m_upper τ) N a)) (vp_updL (m_lower τ) N b)) (nI (N + 1))
theorem keep0 {σ : CS} {N : Nat} (h : c_numbers σ = nI N) (hN : N < 40) {u v : Int} (hu : nw u) (hv : nw v) (h0 : 0 < v) : fX0_keep σ (J u) (J v) = some (nI N, k0 σ N (J (u.tdiv (Nat.gcd u.natAbs v.natAbs))) (J (v.tdiv (Nat.gcd u.natAbs v.natAbs)))) := by
  have hg : 0 < Nat.gcd u.natAbs v.natAbs := Nat.gcd_pos_iff.mpr (Or.inr (by omega))
  have hgle : Nat.gcd u.natAbs v.natAbs ≤ v.natAbs := Nat.gcd_le_right _ (by omega)
  have hgn : nw ((Nat.gcd u.natAbs v.natAbs : Nat) : Int) := nw_natle hv hgle
  unfold fX0_keep
  rw [full0 h hN, gd_eq hu hv, max1_gcd (Or.inr (by omega))]
  generalize Nat.gcd u.natAbs v.natAbs = g at hg hgn ⊢
  have n0 := J_ne0 hgn (show ((g : Nat) : Int) ≠ 0 by omega)
  obtain ⟨ab, be, nn, rest⟩ := σ
  have h : nn = nI N := h
  subst h
  have i1 : ix (nI N) 40 = true := nI_ix hN (by omega)
  simp only [Option.bind_some, bd, if_neg n0, i1, nI_toNat (show N < 2147483648 by omega), nI_1, nI_pred, J_div hu hgn, J_div hv hgn, if_true, k0, c_numbers, c_above, c_below, sc_above, sc_below, sc_numbers]
theorem keep0_full {σ : CS} (h : c_numbers σ = nI 40) (u v : Int64) : fX0_keep σ u v = some (-4, σ) := by
  unfold fX0_keep
  rw [full0' h]
  rfl
theorem kept1 {τ : MS} {N : Nat} (h : m_numbers τ = nI N) (hN : N < 40) {u v : Int} (hu : nw u) (hv : nw v) (h0 : 0 < v) : fX1_kept τ (J u) (J v) = some (nI N, k1 τ N (J (u.tdiv (Nat.gcd u.natAbs v.natAbs))) (J (v.tdiv (Nat.gcd u.natAbs v.natAbs)))) := by
  have hg : 0 < Nat.gcd u.natAbs v.natAbs := Nat.gcd_pos_iff.mpr (Or.inr (by omega))
  have hgle : Nat.gcd u.natAbs v.natAbs ≤ v.natAbs := Nat.gcd_le_right _ (by omega)
  have hgn : nw ((Nat.gcd u.natAbs v.natAbs : Nat) : Int) := nw_natle hv hgle
  unfold fX1_kept fX1_kept_L20
  rw [gd1_eq hu hv]
  generalize Nat.gcd u.natAbs v.natAbs = g at hg hgn ⊢
  have n0 := J_ne0 hgn (show ((g : Nat) : Int) ≠ 0 by omega)
  have n1 : (0 : Int64) ≤ J v := by rw [J_0]; exact (J_le nw_0 hv).mpr (by omega)
  obtain ⟨up, lo, nn, rest⟩ := τ
  have h : nn = nI N := h
  subst h
  have i1 : ix (nI N) 41 = true := nI_ix (by omega) (by omega)
  simp only [Option.bind_some, bd, if_neg n0, if_pos n1, i1, nI_toNat (show N < 2147483648 by omega), nI_1, nI_pred, J_div hu hgn, J_div hv hgn, if_true, k1, m_numbers, m_upper, m_lower, sm_upper, sm_lower, sm_numbers, J_1, J_mul, Int.one_mul]
theorem kept1_neg {τ : MS} {N : Nat} (h : m_numbers τ = nI N) (hN : N < 40) {u v : Int} (hu : nw u) (hv : nw v) (h0 : v < 0) : fX1_kept τ (J u) (J v) = some (nI N, k1 τ N (J ((-u).tdiv (Nat.gcd (-u).natAbs (-v).natAbs))) (J ((-v).tdiv (Nat.gcd (-u).natAbs (-v).natAbs)))) := by
  rw [Int.natAbs_neg, Int.natAbs_neg]
  have hg : 0 < Nat.gcd u.natAbs v.natAbs := Nat.gcd_pos_iff.mpr (Or.inr (by omega))
  have hgle : Nat.gcd u.natAbs v.natAbs ≤ v.natAbs := Nat.gcd_le_right _ (by omega)
  have hgn : nw ((Nat.gcd u.natAbs v.natAbs : Nat) : Int) := nw_natle hv hgle
  unfold fX1_kept fX1_kept_L20
  rw [gd1_eq hu hv]
  generalize Nat.gcd u.natAbs v.natAbs = g at hg hgn ⊢
  have n0 := J_ne0 hgn (show ((g : Nat) : Int) ≠ 0 by omega)
  have n1 : ¬ (0 : Int64) ≤ J v := by rw [J_0]; exact fun q => absurd ((J_le nw_0 hv).mp q) (by omega)
  obtain ⟨up, lo, nn, rest⟩ := τ
  have h : nn = nI N := h
  subst h
  have i1 : ix (nI N) 41 = true := nI_ix (by omega) (by omega)
  simp only [Option.bind_some, bd, if_neg n0, if_neg n1, i1, nI_toNat (show N < 2147483648 by omega), nI_1, nI_pred, J_div hu hgn, J_div hv hgn, if_true, k1, m_numbers, m_upper, m_lower, sm_upper, sm_lower, sm_numbers, J_m1, J_mul, Int.neg_tdiv, Int.neg_mul, Int.one_mul]
theorem RM_push {σ : CS} {τ : MS} {N : Nat} (h : RM σ τ N) (hN : N < 40) {u v : Int} (hu : nw u) (hv : nw v) (h0 : 0 < v) (hc : Nat.gcd u.natAbs v.natAbs = 1) : RM (k0 σ N (J u) (J v)) (k1 τ N (J u) (J v)) (N + 1) := by
  obtain ⟨h1, h2, h3, h4⟩ := h
  refine ⟨by omega, rfl, rfl, fun i hi => ?_⟩
  show ∃ x y : Int, vp_updL (c_above σ) N (J u) i = J x ∧ vp_updL (m_upper τ) N (J u) i = J x ∧ vp_updL (c_below σ) N (J v) i = J y ∧ vp_updL (m_lower τ) N (J v) i = J y ∧ _
  by_cases e : i = N
  · subst e
    exact ⟨u, v, pk_uLs, pk_uLs, pk_uLs, pk_uLs, hu, hv, h0, hc⟩
  · rw [pk_uLn e, pk_uLn e, pk_uLn e, pk_uLn e]
    exact h4 i (by omega)
theorem low_terms {u v : Int} (hu : nw u) (hv : nw v) (h0 : 0 < v) : nw (u.tdiv (Nat.gcd u.natAbs v.natAbs)) ∧ nw (v.tdiv (Nat.gcd u.natAbs v.natAbs)) ∧ 0 < v.tdiv (Nat.gcd u.natAbs v.natAbs) ∧ Nat.gcd (u.tdiv (Nat.gcd u.natAbs v.natAbs)).natAbs (v.tdiv (Nat.gcd u.natAbs v.natAbs)).natAbs = 1 := by
  refine ⟨nw_tdiv _ hu, nw_tdiv _ hv, ?_, ?_⟩
  · have hg : 0 < Nat.gcd u.natAbs v.natAbs := Nat.gcd_pos_iff.mpr (Or.inr (by omega))
    have hgle : Nat.gcd u.natAbs v.natAbs ≤ v.natAbs := Nat.gcd_le_right _ (by omega)
    obtain ⟨w, rfl⟩ : ∃ w : Nat, v = (w : Int) := ⟨v.toNat, by omega⟩
    rw [tdivN]
    have : 0 < w / Nat.gcd u.natAbs (w : Int).natAbs := Nat.div_pos (by omega) hg
    omega
  · rw [Int.natAbs_tdiv, Int.natAbs_tdiv]
    exact Nat.gcd_div_gcd_div_gcd_of_pos_right (by omega)
/-- both keep u / v, v above 0, alike -/
theorem keepB {σ : CS} {τ : MS} {N : Nat} (h : RM σ τ N) (he : RE σ τ) (hN : N < 40) {u v : Int} (hu : nw u) (hv : nw v) (h0 : 0 < v) : ∃ σ' τ', fX0_keep σ (J u) (J v) = some (nI N, σ') ∧ fX1_kept τ (J u) (J v) = some (nI N, τ') ∧ Rel σ' τ' := by
  obtain ⟨a1, a2, a3, a4⟩ := low_terms hu hv h0
  exact ⟨_, _, keep0 h.2.1 hN hu hv h0, kept1 h.2.2.1 hN hu hv h0, ⟨N + 1, RM_push h hN a1 a2 a3 a4⟩, he⟩
theorem J_rep {x : Int64} (h : ¬ x = (-9223372036854775808 : Int64)) : ∃ z, nw z ∧ x = J z := ⟨x.toInt, nw_of h, J_of x⟩
/-! value -/
theorem pu_value {σ : CS} {τ : MS} (h : Rel σ τ) (u v : Int64) : ∃ r σ' τ', fX0_value σ u v = some (r, σ') ∧ fX1_value τ u v = some (r, τ') ∧ Rel σ' τ' := by
  obtain ⟨⟨N, hM⟩, hE⟩ := h
  unfold fX0_value fX1_value
  simp only [bd]
  by_cases c1 : v = 0
  · rw [if_pos c1, if_pos c1]; exact ⟨_, _, _, rfl, rfl, ⟨N, hM⟩, hE⟩
  rw [if_neg c1, if_neg c1]
  by_cases c2 : u = (-9223372036854775808 : Int64)
  · rw [if_pos c2, if_pos c2]; exact ⟨_, _, _, rfl, rfl, ⟨N, hM⟩, hE⟩
  rw [if_neg c2, if_neg c2]
  by_cases c3 : v = (-9223372036854775808 : Int64)
  · rw [if_pos c3, if_pos c3]; exact ⟨_, _, _, rfl, rfl, ⟨N, hM⟩, hE⟩
  rw [if_neg c3, if_neg c3]
  obtain ⟨a, hu, rfl⟩ := J_rep c2
  obtain ⟨b, hv, rfl⟩ := J_rep c3
  have hb0 : b ≠ 0 := fun e => c1 (by rw [e]; rfl)
  have hE1 : RE σ (sm_thrown τ 0) := hE
  have hM1 : RM σ (sm_thrown τ 0) N := hM
  by_cases hf : N = 40
  · subst hf
    rw [if_pos (show m_numbers (sm_thrown τ 0) = (40 : Int32) from hM.2.2.1)]
    refine ⟨-4, σ, _, ?_, rfl, ⟨40, hM1⟩, hE1⟩
    split <;> rw [keep0_full hM.2.1] <;> rfl
  · have hN : N < 40 := by have := hM.1; omega
    rw [if_neg (fun q : m_numbers (sm_thrown τ 0) = (40 : Int32) => hf ((nI_eq (a := N) (b := 40) (by omega) (by omega)).mp (hM.2.2.1.symm.trans q)))]
    by_cases hs : 0 < b
    · rw [if_pos (show (0 : Int64) ≤ J b by rw [J_0]; exact (J_le nw_0 hv).mpr (by omega))]
      obtain ⟨σ', τ', e1, e2, e3⟩ := keepB hM1 hE1 hN hu hv hs
      rw [e1, e2]
      exact ⟨_, _, _, rfl, rfl, e3⟩
    · rw [if_neg (show ¬ (0 : Int64) ≤ J b by rw [J_0]; exact fun q => absurd ((J_le nw_0 hv).mp q) (by omega))]
      rw [J_neg, J_neg]
      obtain ⟨a1, a2, a3, a4⟩ := low_terms (nw_neg hu) (nw_neg hv) (by omega)
      rw [keep0 hM.2.1 hN (nw_neg hu) (nw_neg hv) (by omega), kept1_neg hM1.2.2.1 hN hu hv (by omega)]
      exact ⟨_, _, _, rfl, rfl, ⟨N + 1, RM_push hM1 hN a1 a2 a3 a4⟩, hE1⟩
theorem pu_drop {σ : CS} {τ : MS} (h : Rel σ τ) : ∃ r σ' τ', fX0_drop σ = some (r, σ') ∧ fX1_drop τ = some (r, τ') ∧ Rel σ' τ' := by
  obtain ⟨⟨N, hM⟩, hE⟩ := h
  obtain ⟨hN, h1, h2, h3⟩ := id hM
  unfold fX0_drop fX1_drop
  simp only [bd]
  have h2' : m_numbers (sm_thrown τ 0) = nI N := h2
  cases N with
  | zero =>
    rw [if_pos (show c_numbers σ = (0 : Int32) from h1), if_pos (show m_numbers (sm_thrown τ 0) = (0 : Int32) from h2)]
    exact ⟨_, _, _, rfl, rfl, ⟨0, hM⟩, hE⟩
  | succ N =>
    have n0 : ¬ nI (N + 1) = (0 : Int32) := nI_ne0 (by omega) (by omega)
    rw [h1, h2', if_neg n0, if_neg n0, nI_pred]
    exact ⟨nI N, _, _, rfl, rfl, ⟨N, by omega, rfl, rfl, fun i hi => h3 i (by omega)⟩, hE⟩
theorem pu_part {σ : CS} {τ : MS} (h : Rel σ τ) (x y : Int32) : ∃ r τ', fX0_part σ x y = some r ∧ fX1_part τ x y = some (r, τ') ∧ Rel σ τ' := by
  obtain ⟨⟨N, hM⟩, hE⟩ := h
  obtain ⟨hN, h1, h2, h3⟩ := id hM
  have h2' : m_numbers (sm_thrown τ 0) = nI N := h2
  have hR : Rel σ (sm_thrown τ 0) := ⟨⟨N, hM⟩, hE⟩
  unfold fX0_part fX1_part fX1_part_L23
  simp only [bd]
  rcases pk_ix x (n := N) (by omega) with q | q | ⟨i, hi, rfl⟩
  · rw [num0_out h1 (Or.inl q), num1_out hN h2' (Or.inl q)]; exact ⟨_, _, rfl, rfl, hR⟩
  · rw [num0_out h1 (Or.inr q), num1_out hN h2' (Or.inr q)]; exact ⟨_, _, rfl, rfl, hR⟩
  · rw [num0_in hN h1 hi, num1_in hN h2' hi]
    obtain ⟨u, v, e1, e2, e3, e4, -⟩ := h3 i hi
    have e2' : m_upper (sm_thrown τ 0) i = J u := e2
    have e4' : m_lower (sm_thrown τ 0) i = J v := e4
    simp only [Option.bind_some, nI_ix (show i < 40 by omega) (by omega), nI_ix (show i < 41 by omega) (by omega), nI_toNat (show i < 2147483648 by omega), i_lt, i_le, if_true]
    rw [e1, e3, e2', e4', show (0 : Int32).toInt = 0 from rfl, show (1 : Int32).toInt = 1 from rfl, J_0, J_1, if_neg (show ¬ (1 : Int32) = 0 by decide), if_neg (show ¬ (1 : Int32) = 0 by decide)]
    by_cases c1 : y.toInt < 0
    · rw [if_pos c1, isIn_f nw_0 nw_1 (Or.inl c1)]; exact ⟨_, _, rfl, rfl, hR⟩
    · rw [if_neg c1]
      by_cases c2 : y.toInt ≤ 1
      · rw [if_pos c2, isIn_t nw_0 nw_1 (by omega) c2]
        by_cases c3 : y = 0
        · rw [if_pos c3]; exact ⟨_, _, rfl, by rw [Option.bind_some, if_neg (show ¬ (1 : Int32) = 0 by decide), if_pos c3], hR⟩
        · rw [if_neg c3]; exact ⟨_, _, rfl, by rw [Option.bind_some, if_neg (show ¬ (1 : Int32) = 0 by decide), if_neg c3], hR⟩
      · rw [if_neg c2, isIn_f nw_0 nw_1 (Or.inr (by omega))]; exact ⟨_, _, rfl, rfl, hR⟩
