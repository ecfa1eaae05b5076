/-! PURE: count, given, ways, empty, into, at, share -/
theorem one_ne : ¬ (1 : Int32) = 0 := by decide
theorem row0_in {r : Nat} (h : r < 4) : fX0_isRow (nI r) = some 1 := by
  unfold fX0_isRow
  rw [if_neg (nI_pos (by omega)), if_neg (show ¬ (4 : Int32) ≤ nI r from nI_ge (b := 4) h (by omega))]
theorem row0_out {x : Int32} (h : x < 0 ∨ nI 4 ≤ x) : fX0_isRow x = some 0 := by
  unfold fX0_isRow
  by_cases h0 : x < 0
  · rw [if_pos h0]
  · rw [if_neg h0, if_pos (show (4 : Int32) ≤ x from h.resolve_left h0)]
theorem nw_3 : nw 3 := by unfold nw; omega
theorem J_3 : (3 : Int64) = J 3 := by decide
theorem row1_in {r : Nat} (h : r < 4) : fX1_isRow (nI r) = some 1 := by
  unfold fX1_isRow
  rw [J_0, J_3, isIn_t nw_0 nw_3 (by rw [nI_toInt (by omega)]; omega) (by rw [nI_toInt (by omega)]; omega)]
  rfl
theorem out_toInt {x : Int32} {N : Nat} (hN : N < 2147483648) (h : x < 0 ∨ nI N ≤ x) : x.toInt < 0 ∨ (N : Int) ≤ x.toInt := by
  rcases h with q | q
  · left
    have := i_lt.mp q
    rwa [show (0 : Int32).toInt = 0 from rfl] at this
  · right
    have := i_le.mp q
    rwa [nI_toInt (by omega)] at this
theorem row1_out {x : Int32} (h : x < 0 ∨ nI 4 ≤ x) : fX1_isRow x = some 0 := by
  unfold fX1_isRow
  rw [J_0, J_3, isIn_f nw_0 nw_3 (by have := out_toInt (by omega) h; omega)]
  rfl
theorem pu_count {σ : CS} {τ : MS} (h : Rel σ τ) (x : Int32) : ∃ r τ', fX0_count σ x = some r ∧ fX1_count τ x = some (r, τ') ∧ Rel σ τ' := by
  obtain ⟨⟨N, hM⟩, hE⟩ := id h
  have hR : Rel σ (sm_thrown τ 0) := h
  obtain ⟨hg, hr, -, -⟩ := hE
  have n1 : nw 4 := by unfold nw; omega
  unfold fX0_count fX1_count fX0_count_L29
  simp only [bd]
  rw [J_1, show (4 : Int64) = J 4 by decide]
  rcases pk_ix x (n := 5) (by omega) with q | q | ⟨i, hi, rfl⟩
  · have q2 := out_toInt (N := 5) (by omega) (Or.inl q)
    have c0 : ¬ x = 0 := fun e => by rw [e] at q; exact absurd q (by decide)
    have c5 : ¬ x = 5 := fun e => by rw [e] at q; exact absurd q (by decide)
    have q3 := i_lt.mp q
    rw [show (0 : Int32).toInt = 0 from rfl] at q3
    rw [if_neg c0, if_neg c5, if_neg c0, isIn_f nw_1 n1 (by omega), if_pos (show x < 1 by rw [i_lt]; show _ < (1 : Int); omega)]
    exact ⟨_, _, rfl, by rw [Option.bind_some, if_pos rfl, if_neg c5], hR⟩
  · have q3 := i_le.mp q
    rw [nI_toInt (by omega)] at q3
    have c0 : ¬ x = 0 := fun e => by rw [e] at q3; exact absurd q3 (by decide)
    rw [if_neg c0, if_neg c0, isIn_f nw_1 n1 (by omega)]
    by_cases c5 : x = 5
    · rw [if_pos c5]; exact ⟨_, _, rfl, by rw [Option.bind_some, if_pos rfl, if_pos c5, hg], hR⟩
    · rw [if_neg c5, if_neg (show ¬ x < 1 by rw [i_lt]; show ¬ _ < (1 : Int); omega), if_neg (show ¬ x ≤ 4 by rw [i_le]; show ¬ _ ≤ (4 : Int); omega)]
      exact ⟨_, _, rfl, by rw [Option.bind_some, if_pos rfl, if_neg c5], hR⟩
  · cases i with
    | zero =>
      rw [if_pos (show nI 0 = (0 : Int32) from rfl), if_pos (show nI 0 = (0 : Int32) from rfl)]
      refine ⟨_, _, rfl, ?_, hR⟩
      rw [hM.2.1]
      show some (m_numbers τ, _) = _
      rw [hM.2.2.1]
    | succ i =>
      have c0 : ¬ nI (i + 1) = (0 : Int32) := nI_ne0 (by omega) (by omega)
      have c5 : ¬ nI (i + 1) = (5 : Int32) := fun e => by have := (nI_eq (a := i + 1) (b := 5) (by omega) (by omega)).mp e; omega
      rw [if_neg c0, if_neg c5, if_neg c0, isIn_t nw_1 n1 (by rw [nI_toInt (by omega)]; omega) (by rw [nI_toInt (by omega)]; omega), if_neg (show ¬ nI (i + 1) < (1 : Int32) from nI_nlt (b := 1) (by omega) (by omega)), if_pos (show nI (i + 1) ≤ (4 : Int32) from nI_le (b := 4) (by omega) (by omega)), nI_pred]
      obtain ⟨k, hk, e1, e2, -⟩ := hr i (by omega)
      simp only [Option.bind_some, nI_ix (show i < 4 by omega) (by omega), nI_toNat (show i < 2147483648 by omega), if_true]
      rw [if_neg one_ne, e1]
      refine ⟨_, _, rfl, ?_, hR⟩
      show some (m_many τ i, _) = _
      rw [e2]
theorem pu_given {σ : CS} {τ : MS} (h : Rel σ τ) (x : Int32) : ∃ r τ', fX0_given σ x = some r ∧ fX1_given τ x = some (r, τ') ∧ Rel σ τ' := by
  have hR : Rel σ (sm_thrown τ 0) := h
  obtain ⟨-, -, -, hs, -⟩ := id h
  unfold fX0_given fX1_given fX0_given_L12
  simp only [bd]
  rw [J_0, i2l_J (m_seated _ - 1)]
  rcases hs with ⟨s1, s2⟩ | ⟨k, hk, s1, s2, s3⟩
  · have e : (m_seated (sm_thrown τ 0) - (1 : Int32)).toInt = -6 := by
      show (m_seated τ - 1).toInt = _
      rw [s2]; decide
    rw [e, isIn_f nw_0 (by unfold nw; omega) (by omega), s1]
    refine ⟨-5, _, ?_, rfl, hR⟩
    by_cases c : x < 0
    · rw [if_pos c]
    · rw [if_neg c, if_neg c]
  · have e : (m_seated (sm_thrown τ 0) - (1 : Int32)).toInt = (k : Int) - 1 := by
      show (m_seated τ - 1).toInt = _
      rw [s2, show (1 : Int32) = nI 1 from rfl, pk_sub_toInt (by omega) (by omega)]; rfl
    rw [e, s1]
    rcases pk_ix x (n := k) (by omega) with q | q | ⟨i, hi, rfl⟩
    · have q2 := i_lt.mp q
      rw [show (0 : Int32).toInt = 0 from rfl] at q2
      rw [if_pos q, isIn_f nw_0 (by unfold nw; omega) (Or.inl q2)]
      exact ⟨_, _, rfl, rfl, hR⟩
    · have q2 := i_le.mp q
      rw [nI_toInt (by omega)] at q2
      rw [isIn_f nw_0 (by unfold nw; omega) (by omega), if_neg (show ¬ x < nI k from fun w => by have := i_lt.mp w; rw [nI_toInt (by omega)] at this; omega)]
      refine ⟨-5, _, ?_, rfl, hR⟩
      split <;> rfl
    · rw [if_neg (nI_pos (by omega)), if_pos (nI_lt hi (by omega)), isIn_t nw_0 (by unfold nw; omega) (by rw [nI_toInt (by omega)]; omega) (by rw [nI_toInt (by omega)]; omega)]
      simp only [Option.bind_some, nI_ix (show i < 8 by omega) (by omega), nI_toNat (show i < 2147483648 by omega), if_true]
      rw [if_neg one_ne, s3 i hi]
      exact ⟨_, _, rfl, rfl, hR⟩
theorem pu_ways {σ : CS} {τ : MS} (h : Rel σ τ) (x : Int32) : ∃ r τ', fX0_ways σ x = some r ∧ fX1_ways τ x = some (r, τ') ∧ Rel σ τ' := by
  have hR : Rel σ (sm_thrown τ 0) := h
  obtain ⟨-, -, -, -, hw⟩ := id h
  unfold fX0_ways fX1_ways
  simp only [bd]
  rcases hw with ⟨w1, w2⟩ | ⟨w1, w2, w3, w4, w5⟩
  · rw [if_pos w1, if_pos (show m_isTested (sm_thrown τ 0) = 0 from w2)]; exact ⟨_, _, rfl, rfl, hR⟩
  · rw [if_neg w1, if_neg (show ¬ m_isTested (sm_thrown τ 0) = 0 from w2), w3, w4, w5]
    by_cases c0 : x = 0
    · rw [if_pos c0, if_pos c0]; exact ⟨_, _, rfl, rfl, hR⟩
    rw [if_neg c0, if_neg c0]
    by_cases c1 : x = 1
    · rw [if_pos c1, if_pos c1]; exact ⟨_, _, rfl, rfl, hR⟩
    rw [if_neg c1, if_neg c1]
    by_cases c2 : x = 2
    · rw [if_pos c2, if_pos c2]; exact ⟨_, _, rfl, rfl, hR⟩
    rw [if_neg c2, if_neg c2]
    exact ⟨_, _, rfl, rfl, hR⟩
theorem pu_empty {σ : CS} {τ : MS} (h : Rel σ τ) (x : Int32) : ∃ r σ' τ', fX0_empty σ x = some (r, σ') ∧ fX1_empty τ x = some (r, τ') ∧ Rel σ' τ' := by
  have hR : Rel σ (sm_thrown τ 0) := h
  obtain ⟨hM, hg, hr, hs, hw⟩ := id h
  unfold fX0_empty fX1_empty
  simp only [bd]
  rcases pk_ix x (n := 4) (by omega) with q | q | ⟨i, hi, rfl⟩
  · rw [row0_out (Or.inl q), row1_out (Or.inl q)]; exact ⟨_, _, _, rfl, rfl, hR⟩
  · rw [row0_out (Or.inr q), row1_out (Or.inr q)]; exact ⟨_, _, _, rfl, rfl, hR⟩
  · rw [row0_in hi, row1_in hi]
    obtain ⟨k, hk, e1, e2, e3⟩ := hr i hi
    simp only [Option.bind_some, nI_ix hi (by omega), nI_toNat (show i < 2147483648 by omega), if_true]
    rw [if_neg one_ne, if_neg one_ne, e1]
    refine ⟨_, _, _, rfl, (show some (m_many τ i, _) = _ by rw [e2]), ?_⟩
    · refine ⟨hM, hg, ?_, hs, hw⟩
      intro r hr4
      by_cases c : r = i
      · subst c
        exact ⟨0, by omega, pk_us, pk_us, fun j hj => absurd hj (by omega)⟩
      · obtain ⟨k', hk', a1, a2, a3⟩ := hr r hr4
        exact ⟨k', hk', (pk_un c).trans a1, (pk_un c).trans a2, a3⟩
theorem pu_into {σ : CS} {τ : MS} (h : Rel σ τ) (x : Int32) (v : Int64) : ∃ r σ' τ', fX0_into σ x v = some (r, σ') ∧ fX1_into τ x v = some (r, τ') ∧ Rel σ' τ' := by
  have hR : Rel σ (sm_thrown τ 0) := h
  obtain ⟨hM, hg, hr, hs, hw⟩ := id h
  unfold fX0_into fX1_into
  simp only [bd]
  rcases pk_ix x (n := 4) (by omega) with q | q | ⟨i, hi, rfl⟩
  · rw [row0_out (Or.inl q), row1_out (Or.inl q)]; exact ⟨_, _, _, rfl, rfl, hR⟩
  · rw [row0_out (Or.inr q), row1_out (Or.inr q)]; exact ⟨_, _, _, rfl, rfl, hR⟩
  · rw [row0_in hi, row1_in hi]
    obtain ⟨k, hk, e1, e2, e3⟩ := hr i hi
    have e2' : m_many (sm_thrown τ 0) i = nI k := e2
    rw [isIn_eq]
    simp only [Option.bind_some, nI_ix hi (by omega), nI_toNat (show i < 2147483648 by omega), if_true]
    rw [if_neg one_ne, if_neg one_ne, e1, e2']
    by_cases c1 : v < 0
    · rw [if_pos c1, if_neg (show ¬ ((0 : Int64) ≤ v ∧ v ≤ (1000000 : Int64)) from fun q => absurd q.1 (Int64.not_le.mpr c1))]
      exact ⟨_, _, _, rfl, rfl, hR⟩
    rw [if_neg c1]
    by_cases c2 : v ≤ (1000000 : Int64)
    · rw [if_pos c2, if_pos (show (0 : Int64) ≤ v ∧ v ≤ (1000000 : Int64) from ⟨Int64.not_lt.mp c1, c2⟩), if_neg one_ne]
      by_cases c3 : k = 8
      · subst c3
        exact ⟨_, _, _, rfl, rfl, hR⟩
      · have hk8 : k < 8 := by omega
        rw [if_pos (show nI k < (8 : Int32) from nI_lt (b := 8) hk8 (by omega)), if_neg (show ¬ nI k = (8 : Int32) from fun e => c3 ((nI_eq (a := k) (b := 8) (by omega) (by omega)).mp e))]
        have e8 : (8 : Int32) * nI i + nI k = nI (8 * i + k) := by rw [show (8 : Int32) = nI 8 from rfl, pk_mul, nI_add]
        rw [e8]
        simp only [nI_ix hk8 (by omega), nI_ix (show 8 * i + k < 32 by omega) (by omega), nI_toNat (show k < 2147483648 by omega), nI_toNat (show 8 * i + k < 2147483648 by omega), if_true]
        obtain ⟨w, hw0, rfl⟩ : ∃ w : Nat, w ≤ 1000000 ∧ v = J (w : Int) := by
          have a1 := Int64.le_iff_toInt_le.mp c2
          have a2 := Int64.le_iff_toInt_le.mp (Int64.not_lt.mp c1)
          rw [show (1000000 : Int64).toInt = 1000000 by decide] at a1
          rw [show (0 : Int64).toInt = 0 by decide] at a2
          refine ⟨v.toInt.toNat, by omega, ?_⟩
          have hz : v.toInt = ((v.toInt.toNat : Nat) : Int) := by omega
          rw [← hz]
          exact J_of v
        have s1 : upd (c_sizes σ) i (nI k + 1) i = nI (k + 1) := by rw [pk_us, nI_1]
        have s2 : upd (m_many τ) i (nI k + 1) i = nI (k + 1) := by rw [pk_us, nI_1]
        refine ⟨nI (k + 1), _, _, (show some (upd (c_sizes σ) i (nI k + 1) i, _) = some (nI (k + 1), _) by rw [s1]), (show some (upd (m_many τ) i (nI k + 1) i, _) = some (nI (k + 1), _) by rw [s2]), ?_⟩
        · refine ⟨hM, hg, ?_, hs, hw⟩
          intro r hr4
          by_cases c : r = i
          · subst c
            refine ⟨k + 1, by omega, s1, s2, fun j hj => ?_⟩
            show ∃ v : Nat, v ≤ 1000000 ∧ va_up (c_values σ) r (vp_updL (c_values σ r) k (J w)) r j = J (v : Int) ∧ vp_updL (m_value τ) (8 * r + k) (J w) (8 * r + j) = J (v : Int)
            rw [show va_up (c_values σ) r (vp_updL (c_values σ r) k (J w)) r = vp_updL (c_values σ r) k (J w) from if_pos rfl]
            by_cases cj : j = k
            · subst cj
              exact ⟨w, hw0, pk_uLs, pk_uLs⟩
            · rw [pk_uLn cj, pk_uLn (by omega)]
              exact e3 j (by omega)
          · obtain ⟨k', hk', a1, a2, a3⟩ := hr r hr4
            refine ⟨k', hk', (pk_un c).trans a1, (pk_un c).trans a2, fun j hj => ?_⟩
            show ∃ v : Nat, v ≤ 1000000 ∧ va_up (c_values σ) i (vp_updL (c_values σ i) k (J w)) r j = J (v : Int) ∧ vp_updL (m_value τ) (8 * i + k) (J w) (8 * r + j) = J (v : Int)
            rw [show va_up (c_values σ) i (vp_updL (c_values σ i) k (J w)) r = c_values σ r from if_neg c, pk_uLn (by omega)]
            exact a3 j hj
    · rw [if_neg c2, if_neg (show ¬ ((0 : Int64) ≤ v ∧ v ≤ (1000000 : Int64)) from fun q => c2 q.2)]
      exact ⟨_, _, _, rfl, rfl, hR⟩
theorem val0_in {σ : CS} {r k i : Nat} (hr : r < 4) (hk : k ≤ 8) (hz : c_sizes σ r = nI k) (hi : i < k) : fX0_isValue σ (nI r) (nI i) = some 1 := by
  unfold fX0_isValue
  rw [row0_in hr]
  simp only [Option.bind_some, nI_ix hr (by omega), nI_toNat (show r < 2147483648 by omega), if_true]
  rw [if_neg one_ne, if_neg (nI_pos (by omega)), hz, if_neg (nI_ge hi (by omega))]
theorem val0_out {σ : CS} {r k : Nat} {x : Int32} (hr : r < 4) (hz : c_sizes σ r = nI k) (hx : x < 0 ∨ nI k ≤ x) : fX0_isValue σ (nI r) x = some 0 := by
  unfold fX0_isValue
  rw [row0_in hr]
  simp only [Option.bind_some, nI_ix hr (by omega), nI_toNat (show r < 2147483648 by omega), if_true]
  rw [if_neg one_ne]
  by_cases c : x < 0
  · rw [if_pos c]
  · rw [if_neg c, hz, if_pos (hx.resolve_left c)]
theorem val0_row {σ : CS} {x y : Int32} (h : x < 0 ∨ nI 4 ≤ x) : fX0_isValue σ x y = some 0 := by
  unfold fX0_isValue
  rw [row0_out h]
  rfl
theorem many_m1 {k : Nat} (hk : k ≤ 8) : (nI k - (1 : Int32)).toInt64 = J ((k : Int) - 1) := by
  rw [i2l_J, show (1 : Int32) = nI 1 from rfl, pk_sub_toInt (by omega) (by omega)]
  rfl
theorem pu_at {σ : CS} {τ : MS} (h : Rel σ τ) (x y : Int32) : ∃ r τ', fX0_at σ x y = some r ∧ fX1_at τ x y = some (r, τ') ∧ Rel σ τ' := by
  have hR : Rel σ (sm_thrown τ 0) := h
  obtain ⟨hM, hg, hr, hs, hw⟩ := id h
  unfold fX0_at fX1_at
  simp only [bd]
  rcases pk_ix x (n := 4) (by omega) with q | q | ⟨i, hi, rfl⟩
  · rw [val0_row (Or.inl q), row1_out (Or.inl q)]; exact ⟨_, _, rfl, rfl, hR⟩
  · rw [val0_row (Or.inr q), row1_out (Or.inr q)]; exact ⟨_, _, rfl, rfl, hR⟩
  · rw [row1_in hi]
    obtain ⟨k, hk, e1, e2, e3⟩ := hr i hi
    have e2' : m_many (sm_thrown τ 0) i = nI k := e2
    simp only [Option.bind_some, nI_ix hi (by omega), nI_toNat (show i < 2147483648 by omega), if_true]
    rw [if_neg one_ne, e2', J_0, many_m1 hk]
    rcases pk_ix y (n := k) (by omega) with q | q | ⟨j, hj, rfl⟩
    · have q2 := out_toInt (N := k) (by omega) (Or.inl q)
      have q3 := i_lt.mp q
      rw [show (0 : Int32).toInt = 0 from rfl] at q3
      rw [val0_out hi e1 (Or.inl q), isIn_f nw_0 (by unfold nw; omega) (Or.inl q3)]
      exact ⟨_, _, rfl, rfl, hR⟩
    · have q3 := i_le.mp q
      rw [nI_toInt (by omega)] at q3
      rw [val0_out hi e1 (Or.inr q), isIn_f nw_0 (by unfold nw; omega) (Or.inr (by omega))]
      exact ⟨_, _, rfl, rfl, hR⟩
    · rw [val0_in hi hk e1 hj, isIn_t nw_0 (by unfold nw; omega) (by rw [nI_toInt (by omega)]; omega) (by rw [nI_toInt (by omega)]; omega)]
      have e8 : (8 : Int32) * nI i + nI j = nI (8 * i + j) := by rw [show (8 : Int32) = nI 8 from rfl, pk_mul, nI_add]
      obtain ⟨v, -, v1, v2⟩ := e3 j hj
      rw [e8]
      simp only [Option.bind_some, nI_ix (show j < 8 by omega) (by omega), nI_ix (show 8 * i + j < 32 by omega) (by omega), nI_toNat (show j < 2147483648 by omega), nI_toNat (show 8 * i + j < 2147483648 by omega), if_true]
      rw [if_neg one_ne, if_neg one_ne, v1]
      refine ⟨_, _, rfl, ?_, hR⟩
      show some (m_value τ (8 * i + j), _) = _
      rw [v2]
/-! the sum of a row -/
def sv (f : Nat → Int64) : Nat → Int
  | 0 => 0
  | n + 1 => sv f n + (f n).toInt
theorem sum0_loop {σ : CS} {r k : Nat} (hr : r < 4) (hk : k ≤ 8) (hz : c_sizes σ r = nI k) : ∀ (d j f : Nat), j + d = k → d < f → lp (fun k t => fX0_sumOf_B5 σ k t.1 t.2.1 t.2.2) f (nI r, J (sv (c_values σ r) j), nI j) = some (J (sv (c_values σ r) k)) := by
  intro d
  induction d with
  | zero =>
    intro j f hj hf
    obtain ⟨f, rfl⟩ : ∃ g, f = g + 1 := ⟨f - 1, by omega⟩
    rw [lp_succ]
    show fX0_sumOf_B5 σ _ (nI r) _ (nI j) = _
    unfold fX0_sumOf_B5
    simp only [nI_ix hr (by omega), nI_toNat (show r < 2147483648 by omega), if_true]
    rw [hz, if_pos (nI_le (by omega) (by omega)), show j = k by omega]
  | succ d ih =>
    intro j f hj hf
    obtain ⟨f, rfl⟩ : ∃ g, f = g + 1 := ⟨f - 1, by omega⟩
    rw [lp_succ]
    show fX0_sumOf_B5 σ _ (nI r) _ (nI j) = _
    unfold fX0_sumOf_B5
    simp only [nI_ix hr (by omega), nI_ix (show j < 8 by omega) (by omega), nI_toNat (show r < 2147483648 by omega), nI_toNat (show j < 2147483648 by omega), if_true]
    rw [hz, if_neg (nI_ge (show j < k by omega) (by omega)), nI_1, J_of (c_values σ r j), J_add]
    exact ih (j + 1) f (by omega) (by omega)
theorem sum0 {σ : CS} {r k : Nat} (hr : r < 4) (hk : k ≤ 8) (hz : c_sizes σ r = nI k) : fX0_sumOf σ (nI r) = some (J (sv (c_values σ r) k)) := sum0_loop hr hk hz k 0 FU (by omega) (by unfold FU; omega)
theorem sum1_loop {τ : MS} {r k : Nat} (hr : r < 4) (hk : k ≤ 8) (hz : m_many τ r = nI k) : ∀ (d j f : Nat), j + d = k → d < f → lp (fun k t => fX1_sumOf_B5 τ k t.1 t.2.1 t.2.2) f (nI r, J (sv (fun j => m_value τ (8 * r + j)) j), nI j) = some (J (sv (fun j => m_value τ (8 * r + j)) k)) := by
  intro d
  induction d with
  | zero =>
    intro j f hj hf
    obtain ⟨f, rfl⟩ : ∃ g, f = g + 1 := ⟨f - 1, by omega⟩
    rw [lp_succ]
    show fX1_sumOf_B5 τ _ (nI r) _ (nI j) = _
    unfold fX1_sumOf_B5
    simp only [nI_ix hr (by omega), nI_toNat (show r < 2147483648 by omega), if_true]
    rw [hz, if_pos (nI_le (by omega) (by omega)), show j = k by omega]
  | succ d ih =>
    intro j f hj hf
    obtain ⟨f, rfl⟩ : ∃ g, f = g + 1 := ⟨f - 1, by omega⟩
    rw [lp_succ]
    show fX1_sumOf_B5 τ _ (nI r) _ (nI j) = _
    unfold fX1_sumOf_B5
    have e8 : (8 : Int32) * nI r + nI j = nI (8 * r + j) := by rw [show (8 : Int32) = nI 8 from rfl, pk_mul, nI_add]
    rw [e8]
    simp only [nI_ix hr (by omega), nI_ix (show 8 * r + j < 32 by omega) (by omega), nI_toNat (show r < 2147483648 by omega), nI_toNat (show 8 * r + j < 2147483648 by omega), if_true]
    rw [hz, if_neg (nI_ge (show j < k by omega) (by omega)), nI_1, J_of (m_value τ (8 * r + j)), J_add]
    exact ih (j + 1) f (by omega) (by omega)
theorem sum1 {τ : MS} {r k : Nat} (hr : r < 4) (hk : k ≤ 8) (hz : m_many τ r = nI k) : fX1_sumOf τ (nI r) = some (J (sv (fun j => m_value τ (8 * r + j)) k)) := sum1_loop hr hk hz k 0 FU (by omega) (by unfold FU; omega)
theorem sv_congr {f g : Nat → Int64} {k : Nat} (h : ∀ j, j < k → f j = g j) : sv f k = sv g k := by
  induction k with
  | zero => rfl
  | succ k ih =>
    show sv f k + (f k).toInt = sv g k + (g k).toInt
    rw [ih (fun j hj => h j (by omega)), h k (by omega)]
theorem sv_bd {f : Nat → Int64} {k : Nat} (h : ∀ j, j < k → ∃ v : Nat, v ≤ 1000000 ∧ f j = J (v : Int)) : 0 ≤ sv f k ∧ sv f k ≤ 1000000 * (k : Int) := by
  induction k with
  | zero => exact ⟨Int.le_refl _, Int.le_refl _⟩
  | succ k ih =>
    obtain ⟨h1, h2⟩ := ih (fun j hj => h j (by omega))
    obtain ⟨v, hv, e⟩ := h k (by omega)
    have e2 : (f k).toInt = v := by rw [e, J_toInt (nw_nat (by omega))]
    show 0 ≤ sv f k + (f k).toInt ∧ sv f k + (f k).toInt ≤ 1000000 * ((k + 1 : Nat) : Int)
    rw [e2]
    omega
theorem sumB {σ : CS} {τ : MS} (h : RE σ τ) {r : Nat} (hr : r < 4) : ∃ k : Nat, ∃ z : Int, k ≤ 8 ∧ c_sizes σ r = nI k ∧ m_many τ r = nI k ∧ fX0_sumOf σ (nI r) = some (J z) ∧ fX1_sumOf τ (nI r) = some (J z) ∧ 0 ≤ z ∧ z ≤ 8000000 ∧ z = sv (c_values σ r) k ∧ (∀ j, j < k → ∃ v : Nat, v ≤ 1000000 ∧ c_values σ r j = J (v : Int) ∧ m_value τ (8 * r + j) = J (v : Int)) := by
  obtain ⟨k, hk, e1, e2, e3⟩ := h.2.1 r hr
  have hb := sv_bd (f := c_values σ r) (k := k) (fun j hj => by obtain ⟨v, a, b, -⟩ := e3 j hj; exact ⟨v, a, b⟩)
  refine ⟨k, sv (c_values σ r) k, hk, e1, e2, sum0 hr hk e1, ?_, hb.1, by omega, rfl, e3⟩
  rw [sum1 hr hk e2]
  congr 2
  exact sv_congr (fun j hj => by obtain ⟨v, -, a, b⟩ := e3 j hj; rw [a, b])
theorem full1 {τ : MS} {N : Nat} (h : m_numbers τ = nI N) (hN : N < 40) : ¬ m_numbers τ = (40 : Int32) := fun q => by
  have := (nI_eq (a := N) (b := 40) (by omega) (by omega)).mp (h.symm.trans q)
  omega
theorem pu_share {σ : CS} {τ : MS} (h : Rel σ τ) (x y : Int32) : ∃ r τ' b, fX0_share σ x y = some r ∧ fX1_share τ x y = some (b, τ') ∧ Rel r.2 τ' ∧ ((r.1 = none ∧ m_thrown τ' = 1) ∨ (r.1 = some b ∧ m_thrown τ' = 0)) := by
  have hR : Rel σ (sm_thrown τ 0) := h
  obtain ⟨⟨N, hM⟩, hE⟩ := id h
  have hE1 : RE σ (sm_thrown τ 0) := hE
  have hM1 : RM σ (sm_thrown τ 0) N := hM
  unfold fX0_share fX1_share
  simp only [bd]
  have ht : m_thrown (sm_thrown τ 0) = 0 := rfl
  generalize hτ : sm_thrown τ 0 = τ1 at hR hE1 hM1 ht ⊢
  rcases pk_ix x (n := 4) (by omega) with q | q | ⟨i, hi, rfl⟩
  · rw [val0_row (Or.inl q), row1_out (Or.inl q)]; exact ⟨_, _, _, rfl, rfl, hR, Or.inr ⟨rfl, ht⟩⟩
  · rw [val0_row (Or.inr q), row1_out (Or.inr q)]; exact ⟨_, _, _, rfl, rfl, hR, Or.inr ⟨rfl, ht⟩⟩
  · obtain ⟨k, z, hk, e1, e2, e3, e4, z1, z2, -, e5⟩ := sumB hE1 hi
    rw [row1_in hi]
    simp only [Option.bind_some, nI_ix hi (by omega), nI_toNat (show i < 2147483648 by omega), if_true]
    rw [if_neg one_ne, e2, J_0, many_m1 hk]
    rcases pk_ix y (n := k) (by omega) with q | q | ⟨j, hj, rfl⟩
    · have q3 := i_lt.mp q
      rw [show (0 : Int32).toInt = 0 from rfl] at q3
      rw [val0_out hi e1 (Or.inl q), isIn_f nw_0 (by unfold nw; omega) (Or.inl q3)]
      exact ⟨_, _, _, rfl, rfl, hR, Or.inr ⟨rfl, ht⟩⟩
    · have q3 := i_le.mp q
      rw [nI_toInt (by omega)] at q3
      rw [val0_out hi e1 (Or.inr q), isIn_f nw_0 (by unfold nw; omega) (Or.inr (by omega))]
      exact ⟨_, _, _, rfl, rfl, hR, Or.inr ⟨rfl, ht⟩⟩
    · rw [val0_in hi hk e1 hj, isIn_t nw_0 (by unfold nw; omega) (by rw [nI_toInt (by omega)]; omega) (by rw [nI_toInt (by omega)]; omega)]
      have e8 : (8 : Int32) * nI i + nI j = nI (8 * i + j) := by rw [show (8 : Int32) = nI 8 from rfl, pk_mul, nI_add]
      obtain ⟨v, hv, v1, v2⟩ := e5 j hj
      rw [e8, e3, e4]
      simp only [Option.bind_some, nI_ix (show j < 8 by omega) (by omega), nI_ix (show 8 * i + j < 32 by omega) (by omega), nI_toNat (show j < 2147483648 by omega), nI_toNat (show 8 * i + j < 2147483648 by omega), if_true]
      rw [if_neg one_ne, if_neg one_ne, v1, v2]
      by_cases hf : N = 40
      · subst hf
        rw [full0' hM.2.1, if_pos (show m_numbers τ1 = (40 : Int32) from hM1.2.2.1)]
        exact ⟨_, _, _, rfl, rfl, hR, Or.inr ⟨rfl, ht⟩⟩
      · have hN : N < 40 := by have := hM.1; omega
        rw [full0 hM.2.1 hN, if_neg (full1 hM1.2.2.1 hN)]
        simp only [Option.bind_some, if_true]
        by_cases hz : z = 0
        · subst hz
          exact ⟨_, _, _, rfl, rfl, hR, Or.inl ⟨rfl, rfl⟩⟩
        · have n0 : ¬ J z = J 0 := J_ne0 (by unfold nw; omega) hz
          rw [if_neg n0, if_neg n0]
          obtain ⟨σ', τ', a1, a2, a3⟩ := keepB hM1 hE1 hN (u := (v : Int)) (v := z) (nw_nat (by omega)) (by unfold nw; omega) (by omega)
          have ht' : m_thrown τ' = 0 := by
            have := kept1 hM1.2.2.1 hN (u := (v : Int)) (v := z) (nw_nat (by omega)) (by unfold nw; omega) (by omega)
            rw [a2] at this
            have e9 := (Prod.mk.inj (Option.some.inj this)).2
            rw [e9]
            exact ht
          rw [a1, a2]
          exact ⟨_, _, _, rfl, rfl, a3, Or.inr ⟨rfl, ht'⟩⟩
