/-! PURE: seats -/
def g2 (σ : CS) (k : Int32) (f : Nat → Int32) (l : Nat → Int64) : CS := sc_seatsGivenTo (sc_remainders (sc_seatsGiven σ f) l) k
def h2 (τ : MS) (k : Int32) (f : Nat → Int32) (l : Nat → Int64) : MS := sm_seated (sm_left (sm_seat τ f) l) k
theorem g_above (σ : CS) (k : Int32) (f : Nat → Int32) (l : Nat → Int64) : c_above (g2 σ k f l) = c_above σ := by
  obtain ⟨b1, b2, b3, b4, b5, b6, b7, b8, b9, b10, b11, b12, b13⟩ := σ
  exact Eq.trans (b := b1) rfl rfl
theorem g_below (σ : CS) (k : Int32) (f : Nat → Int32) (l : Nat → Int64) : c_below (g2 σ k f l) = c_below σ := by
  obtain ⟨b1, b2, b3, b4, b5, b6, b7, b8, b9, b10, b11, b12, b13⟩ := σ
  exact Eq.trans (b := b2) rfl rfl
theorem g_numbers (σ : CS) (k : Int32) (f : Nat → Int32) (l : Nat → Int64) : c_numbers (g2 σ k f l) = c_numbers σ := by
  obtain ⟨b1, b2, b3, b4, b5, b6, b7, b8, b9, b10, b11, b12, b13⟩ := σ
  exact Eq.trans (b := b3) rfl rfl
theorem g_grown (σ : CS) (k : Int32) (f : Nat → Int32) (l : Nat → Int64) : c_grown (g2 σ k f l) = c_grown σ := by
  obtain ⟨b1, b2, b3, b4, b5, b6, b7, b8, b9, b10, b11, b12, b13⟩ := σ
  exact Eq.trans (b := b4) rfl rfl
theorem g_values (σ : CS) (k : Int32) (f : Nat → Int32) (l : Nat → Int64) : c_values (g2 σ k f l) = c_values σ := by
  obtain ⟨b1, b2, b3, b4, b5, b6, b7, b8, b9, b10, b11, b12, b13⟩ := σ
  exact Eq.trans (b := b5) rfl rfl
theorem g_sizes (σ : CS) (k : Int32) (f : Nat → Int32) (l : Nat → Int64) : c_sizes (g2 σ k f l) = c_sizes σ := by
  obtain ⟨b1, b2, b3, b4, b5, b6, b7, b8, b9, b10, b11, b12, b13⟩ := σ
  exact Eq.trans (b := b6) rfl rfl
theorem g_seatsGiven (σ : CS) (k : Int32) (f : Nat → Int32) (l : Nat → Int64) : c_seatsGiven (g2 σ k f l) = f := by
  obtain ⟨b1, b2, b3, b4, b5, b6, b7, b8, b9, b10, b11, b12, b13⟩ := σ
  exact Eq.trans (b := f) rfl rfl
theorem g_remainders (σ : CS) (k : Int32) (f : Nat → Int32) (l : Nat → Int64) : c_remainders (g2 σ k f l) = l := by
  obtain ⟨b1, b2, b3, b4, b5, b6, b7, b8, b9, b10, b11, b12, b13⟩ := σ
  exact Eq.trans (b := l) rfl rfl
theorem g_seatsGivenTo (σ : CS) (k : Int32) (f : Nat → Int32) (l : Nat → Int64) : c_seatsGivenTo (g2 σ k f l) = k := by
  obtain ⟨b1, b2, b3, b4, b5, b6, b7, b8, b9, b10, b11, b12, b13⟩ := σ
  exact Eq.trans (b := k) rfl rfl
theorem g_things (σ : CS) (k : Int32) (f : Nat → Int32) (l : Nat → Int64) : c_things (g2 σ k f l) = c_things σ := by
  obtain ⟨b1, b2, b3, b4, b5, b6, b7, b8, b9, b10, b11, b12, b13⟩ := σ
  exact Eq.trans (b := b10) rfl rfl
theorem g_waysNotBelow (σ : CS) (k : Int32) (f : Nat → Int32) (l : Nat → Int64) : c_waysNotBelow (g2 σ k f l) = c_waysNotBelow σ := by
  obtain ⟨b1, b2, b3, b4, b5, b6, b7, b8, b9, b10, b11, b12, b13⟩ := σ
  exact Eq.trans (b := b11) rfl rfl
theorem g_waysInAll (σ : CS) (k : Int32) (f : Nat → Int32) (l : Nat → Int64) : c_waysInAll (g2 σ k f l) = c_waysInAll σ := by
  obtain ⟨b1, b2, b3, b4, b5, b6, b7, b8, b9, b10, b11, b12, b13⟩ := σ
  exact Eq.trans (b := b12) rfl rfl
theorem g_waysWithJustThat (σ : CS) (k : Int32) (f : Nat → Int32) (l : Nat → Int64) : c_waysWithJustThat (g2 σ k f l) = c_waysWithJustThat σ := by
  obtain ⟨b1, b2, b3, b4, b5, b6, b7, b8, b9, b10, b11, b12, b13⟩ := σ
  exact Eq.trans (b := b13) rfl rfl
theorem h_upper (τ : MS) (k : Int32) (f : Nat → Int32) (l : Nat → Int64) : m_upper (h2 τ k f l) = m_upper τ := by
  obtain ⟨b1, b2, b3, b4, b5, b6, b7, b8, b9, b10, b11, b12, b13, b14, b15, b16, b17⟩ := τ
  exact Eq.trans (b := b1) rfl rfl
theorem h_lower (τ : MS) (k : Int32) (f : Nat → Int32) (l : Nat → Int64) : m_lower (h2 τ k f l) = m_lower τ := by
  obtain ⟨b1, b2, b3, b4, b5, b6, b7, b8, b9, b10, b11, b12, b13, b14, b15, b16, b17⟩ := τ
  exact Eq.trans (b := b2) rfl rfl
theorem h_numbers (τ : MS) (k : Int32) (f : Nat → Int32) (l : Nat → Int64) : m_numbers (h2 τ k f l) = m_numbers τ := by
  obtain ⟨b1, b2, b3, b4, b5, b6, b7, b8, b9, b10, b11, b12, b13, b14, b15, b16, b17⟩ := τ
  exact Eq.trans (b := b3) rfl rfl
theorem h_grown (τ : MS) (k : Int32) (f : Nat → Int32) (l : Nat → Int64) : m_grown (h2 τ k f l) = m_grown τ := by
  obtain ⟨b1, b2, b3, b4, b5, b6, b7, b8, b9, b10, b11, b12, b13, b14, b15, b16, b17⟩ := τ
  exact Eq.trans (b := b4) rfl rfl
theorem h_thrown (τ : MS) (k : Int32) (f : Nat → Int32) (l : Nat → Int64) : m_thrown (h2 τ k f l) = m_thrown τ := by
  obtain ⟨b1, b2, b3, b4, b5, b6, b7, b8, b9, b10, b11, b12, b13, b14, b15, b16, b17⟩ := τ
  exact Eq.trans (b := b5) rfl rfl
theorem h_isWide (τ : MS) (k : Int32) (f : Nat → Int32) (l : Nat → Int64) : m_isWide (h2 τ k f l) = m_isWide τ := by
  obtain ⟨b1, b2, b3, b4, b5, b6, b7, b8, b9, b10, b11, b12, b13, b14, b15, b16, b17⟩ := τ
  exact Eq.trans (b := b6) rfl rfl
theorem h_value (τ : MS) (k : Int32) (f : Nat → Int32) (l : Nat → Int64) : m_value (h2 τ k f l) = m_value τ := by
  obtain ⟨b1, b2, b3, b4, b5, b6, b7, b8, b9, b10, b11, b12, b13, b14, b15, b16, b17⟩ := τ
  exact Eq.trans (b := b7) rfl rfl
theorem h_many (τ : MS) (k : Int32) (f : Nat → Int32) (l : Nat → Int64) : m_many (h2 τ k f l) = m_many τ := by
  obtain ⟨b1, b2, b3, b4, b5, b6, b7, b8, b9, b10, b11, b12, b13, b14, b15, b16, b17⟩ := τ
  exact Eq.trans (b := b8) rfl rfl
theorem h_seated (τ : MS) (k : Int32) (f : Nat → Int32) (l : Nat → Int64) : m_seated (h2 τ k f l) = k := by
  obtain ⟨b1, b2, b3, b4, b5, b6, b7, b8, b9, b10, b11, b12, b13, b14, b15, b16, b17⟩ := τ
  exact Eq.trans (b := k) rfl rfl
theorem h_seat (τ : MS) (k : Int32) (f : Nat → Int32) (l : Nat → Int64) : m_seat (h2 τ k f l) = f := by
  obtain ⟨b1, b2, b3, b4, b5, b6, b7, b8, b9, b10, b11, b12, b13, b14, b15, b16, b17⟩ := τ
  exact Eq.trans (b := f) rfl rfl
theorem h_left (τ : MS) (k : Int32) (f : Nat → Int32) (l : Nat → Int64) : m_left (h2 τ k f l) = l := by
  obtain ⟨b1, b2, b3, b4, b5, b6, b7, b8, b9, b10, b11, b12, b13, b14, b15, b16, b17⟩ := τ
  exact Eq.trans (b := l) rfl rfl
theorem h_isTested (τ : MS) (k : Int32) (f : Nat → Int32) (l : Nat → Int64) : m_isTested (h2 τ k f l) = m_isTested τ := by
  obtain ⟨b1, b2, b3, b4, b5, b6, b7, b8, b9, b10, b11, b12, b13, b14, b15, b16, b17⟩ := τ
  exact Eq.trans (b := b12) rfl rfl
theorem h_notBelow (τ : MS) (k : Int32) (f : Nat → Int32) (l : Nat → Int64) : m_notBelow (h2 τ k f l) = m_notBelow τ := by
  obtain ⟨b1, b2, b3, b4, b5, b6, b7, b8, b9, b10, b11, b12, b13, b14, b15, b16, b17⟩ := τ
  exact Eq.trans (b := b13) rfl rfl
theorem h_all (τ : MS) (k : Int32) (f : Nat → Int32) (l : Nat → Int64) : m_all (h2 τ k f l) = m_all τ := by
  obtain ⟨b1, b2, b3, b4, b5, b6, b7, b8, b9, b10, b11, b12, b13, b14, b15, b16, b17⟩ := τ
  exact Eq.trans (b := b14) rfl rfl
theorem h_just (τ : MS) (k : Int32) (f : Nat → Int32) (l : Nat → Int64) : m_just (h2 τ k f l) = m_just τ := by
  obtain ⟨b1, b2, b3, b4, b5, b6, b7, b8, b9, b10, b11, b12, b13, b14, b15, b16, b17⟩ := τ
  exact Eq.trans (b := b15) rfl rfl
theorem h_one (τ : MS) (k : Int32) (f : Nat → Int32) (l : Nat → Int64) : m_one (h2 τ k f l) = m_one τ := by
  obtain ⟨b1, b2, b3, b4, b5, b6, b7, b8, b9, b10, b11, b12, b13, b14, b15, b16, b17⟩ := τ
  exact Eq.trans (b := b16) rfl rfl
theorem h_two (τ : MS) (k : Int32) (f : Nat → Int32) (l : Nat → Int64) : m_two (h2 τ k f l) = m_two τ := by
  obtain ⟨b1, b2, b3, b4, b5, b6, b7, b8, b9, b10, b11, b12, b13, b14, b15, b16, b17⟩ := τ
  exact Eq.trans (b := b17) rfl rfl
theorem g_b1_s (σ : CS) (k : Int32) (f : Nat → Int32) (l : Nat → Int64) (f' : Nat → Int32) : sc_seatsGiven (g2 σ k f l) f' = g2 σ k f' l := by
  obtain ⟨b1, b2, b3, b4, b5, b6, b7, b8, b9, b10, b11, b12, b13⟩ := σ
  exact Eq.trans (b := ((b1, b2, b3, b4, b5, b6, f', l, k, b10, b11, b12, b13) : CS)) rfl rfl
theorem g_b1 {β : Type} (σ : CS) (k : Int32) (f : Nat → Int32) (l : Nat → Int64) (f' : Nat → Int32) (kk : CS → Option β) : bd (sc_seatsGiven (g2 σ k f l) f') kk = kk (g2 σ k f' l) := by unfold bd; rw [g_b1_s]
theorem g_b2_s (σ : CS) (k : Int32) (f : Nat → Int32) (l : Nat → Int64) (l' : Nat → Int64) : sc_remainders (g2 σ k f l) l' = g2 σ k f l' := by
  obtain ⟨b1, b2, b3, b4, b5, b6, b7, b8, b9, b10, b11, b12, b13⟩ := σ
  exact Eq.trans (b := ((b1, b2, b3, b4, b5, b6, f, l', k, b10, b11, b12, b13) : CS)) rfl rfl
theorem g_b2 {β : Type} (σ : CS) (k : Int32) (f : Nat → Int32) (l : Nat → Int64) (l' : Nat → Int64) (kk : CS → Option β) : bd (sc_remainders (g2 σ k f l) l') kk = kk (g2 σ k f l') := by unfold bd; rw [g_b2_s]
theorem h_b1_s (τ : MS) (k : Int32) (f : Nat → Int32) (l : Nat → Int64) (f' : Nat → Int32) : sm_seat (h2 τ k f l) f' = h2 τ k f' l := by
  obtain ⟨b1, b2, b3, b4, b5, b6, b7, b8, b9, b10, b11, b12, b13, b14, b15, b16, b17⟩ := τ
  exact Eq.trans (b := ((b1, b2, b3, b4, b5, b6, b7, b8, k, f', l, b12, b13, b14, b15, b16, b17) : MS)) rfl rfl
theorem h_b1 {β : Type} (τ : MS) (k : Int32) (f : Nat → Int32) (l : Nat → Int64) (f' : Nat → Int32) (kk : MS → Option β) : bd (sm_seat (h2 τ k f l) f') kk = kk (h2 τ k f' l) := by unfold bd; rw [h_b1_s]
theorem h_b2_s (τ : MS) (k : Int32) (f : Nat → Int32) (l : Nat → Int64) (l' : Nat → Int64) : sm_left (h2 τ k f l) l' = h2 τ k f l' := by
  obtain ⟨b1, b2, b3, b4, b5, b6, b7, b8, b9, b10, b11, b12, b13, b14, b15, b16, b17⟩ := τ
  exact Eq.trans (b := ((b1, b2, b3, b4, b5, b6, b7, b8, k, f, l', b12, b13, b14, b15, b16, b17) : MS)) rfl rfl
theorem h_b2 {β : Type} (τ : MS) (k : Int32) (f : Nat → Int32) (l : Nat → Int64) (l' : Nat → Int64) (kk : MS → Option β) : bd (sm_left (h2 τ k f l) l') kk = kk (h2 τ k f l') := by unfold bd; rw [h_b2_s]
theorem g_b0 {β : Type} (σ : CS) (k : Int32) (kk : CS → Option β) : bd (sc_seatsGivenTo σ k) kk = kk (g2 σ k (c_seatsGiven σ) (c_remainders σ)) := by
  have e : sc_seatsGivenTo σ k = g2 σ k (c_seatsGiven σ) (c_remainders σ) := by
    obtain ⟨b1, b2, b3, b4, b5, b6, b7, b8, b9, b10, b11, b12, b13⟩ := σ
    exact Eq.trans (b := ((b1, b2, b3, b4, b5, b6, b7, b8, k, b10, b11, b12, b13) : CS)) rfl rfl
  unfold bd
  rw [e]
theorem h_b0 {β : Type} (τ : MS) (k : Int32) (kk : MS → Option β) : bd (sm_seated τ k) kk = kk (h2 τ k (m_seat τ) (m_left τ)) := by
  have e : sm_seated τ k = h2 τ k (m_seat τ) (m_left τ) := by
    obtain ⟨b1, b2, b3, b4, b5, b6, b7, b8, b9, b10, b11, b12, b13, b14, b15, b16, b17⟩ := τ
    exact Eq.trans (b := ((b1, b2, b3, b4, b5, b6, b7, b8, k, b10, b11, b12, b13, b14, b15, b16, b17) : MS)) rfl rfl
  unfold bd
  rw [e]
theorem RM_gh {σ : CS} {τ : MS} {N : Nat} (h : RM σ τ N) (k : Int32) (f f' : Nat → Int32) (l l' : Nat → Int64) : RM (g2 σ k f l) (h2 τ k f' l') N := by
  unfold RM at *
  rw [g_above, g_below, g_numbers, h_upper, h_lower, h_numbers]
  exact h
theorem RE_gh {σ : CS} {τ : MS} (h : RE σ τ) {K : Nat} (hK : K ≤ 8) {f f' : Nat → Int32} (l l' : Nat → Int64) (hf : ∀ j, j < K → f j = f' j) : RE (g2 σ (nI K) f l) (h2 τ (nI K) f' l') := by
  unfold RE at *
  rw [g_grown, g_values, g_sizes, g_seatsGivenTo, g_seatsGiven, g_waysNotBelow, g_waysInAll, g_waysWithJustThat, h_grown, h_value, h_many, h_seated, h_seat, h_isTested, h_notBelow, h_all, h_just]
  exact ⟨h.1, h.2.1, Or.inr ⟨K, hK, rfl, rfl, hf⟩, h.2.2.2⟩
/-! ints -/
def I (z : Int) : Int32 := Int32.ofInt z
theorem I_nat (n : Nat) : I (n : Int) = nI n := Int32.ofInt_eq_ofNat
theorem I_sub (a b : Int) : I a - I b = I (a - b) := (Int32.ofInt_sub a b).symm
theorem I_toInt {z : Int} (h1 : -2147483648 ≤ z) (h2 : z < 2147483648) : (I z).toInt = z := Int32.toInt_ofInt_of_le (by omega) (by omega)
theorem J_toI (z : Int) : (J z).toInt32 = I z := Int64.toInt32_ofInt
theorem upd_s {f : Nat → Int32} {k : Nat} {x : Int32} : upd f k x k = x := if_pos rfl
theorem upd_n {f : Nat → Int32} {k j : Nat} {x : Int32} (h : j ≠ k) : upd f k x j = f j := if_neg h
theorem e8r (r j : Nat) : (8 : Int32) * nI r + nI j = nI (8 * r + j) := by rw [show (8 : Int32) = nI 8 from rfl, pk_mul, nI_add]
theorem nI_m1 (k : Nat) : nI (k + 1) + (-1 : Int32) = nI k := by rw [← Int32.sub_eq_add_neg, nI_pred]
/-! the best of a row -/
def bs (P : Nat → Nat → Bool) : Nat → Nat → Nat → Nat
  | 0, b, _ => b
  | d + 1, b, k => bs P d (if P k b = true then k else b) (k + 1)
theorem bs_lt (P : Nat → Nat → Bool) {K : Nat} : ∀ (d b k : Nat), k + d = K → b < K → bs P d b k < K := by
  intro d
  induction d with
  | zero => intro b k _ hb; exact hb
  | succ d ih =>
    intro b k hk hb
    refine ih _ (k + 1) (by omega) ?_
    split <;> omega
theorem bs_congr {P Q : Nat → Nat → Bool} {K : Nat} (h : ∀ i j, i < K → j < K → P i j = Q i j) : ∀ (d b k : Nat), k + d = K → b < K → bs P d b k = bs Q d b k := by
  intro d
  induction d with
  | zero => intro b k _ _; rfl
  | succ d ih =>
    intro b k hk hb
    show bs P d (if P k b = true then k else b) (k + 1) = bs Q d (if Q k b = true then k else b) (k + 1)
    rw [h k b (by omega) hb]
    refine ih _ (k + 1) (by omega) ?_
    split <;> omega
abbrev PL (l : Nat → Int64) : Nat → Nat → Bool := fun k b => !decide (l k ≤ l b)
theorem fg_loop (σ : CS) {K : Nat} (hK : K ≤ 8) (F : Nat → Int32) (L : Nat → Int64) : ∀ (d b k f : Nat), k + d = K → b < K → d < f → lp (fun k t => fX0_firstGreatestRemainder_B4 (g2 σ (nI K) F L) k t.1 t.2) f (nI b, nI k) = some (nI (bs (PL L) d b k)) := by
  intro d
  induction d with
  | zero =>
    intro b k f hk hb hf
    obtain ⟨f, rfl⟩ : ∃ g, f = g + 1 := ⟨f - 1, by omega⟩
    have : k = K := by omega
    subst this
    rw [lp_succ]
    show fX0_firstGreatestRemainder_B4 (g2 σ (nI k) F L) _ (nI b) (nI k) = _
    unfold fX0_firstGreatestRemainder_B4
    rw [g_seatsGivenTo, if_pos (Int32.le_refl _)]
    rfl
  | succ d ih =>
    intro b k f hk hb hf
    obtain ⟨f, rfl⟩ : ∃ g, f = g + 1 := ⟨f - 1, by omega⟩
    rw [lp_succ]
    show fX0_firstGreatestRemainder_B4 (g2 σ (nI K) F L) _ (nI b) (nI k) = _
    unfold fX0_firstGreatestRemainder_B4 fX0_firstGreatestRemainder_L30
    rw [g_seatsGivenTo, if_neg (nI_ge (by omega) (by omega)), if_pos (nI_ix (show k < 8 by omega) (by omega)), if_pos (nI_ix (show b < 8 by omega) (by omega)), g_remainders, nI_toNat (by omega), nI_toNat (by omega), nI_1]
    show _ = some (nI (bs (PL L) d (if PL L k b = true then k else b) (k + 1)))
    by_cases z : L k ≤ L b
    · rw [if_pos z, if_neg (show ¬ PL L k b = true by simp [PL, z])]
      exact ih b (k + 1) f (by omega) (by omega) (by omega)
    · rw [if_neg z, if_pos (show PL L k b = true by simp [PL, z])]
      exact ih k (k + 1) f (by omega) (by omega) (by omega)
theorem m_in0 (τ : MS) (k165 : Int32 × Int32 × Int32 × MS → Option (Int32 × MS)) {K r : Nat} (hr : r < 4) (hK : K ≤ 8) (F : Nat → Int32) (L : Nat → Int64) (x6 : Int32) : ∀ (d b k f : Nat), k + d = K → b < K → d < f → lp (fun k t => fX1_seats_B176 t.2.2.2.2.2 k165 k t.1 t.2.1 t.2.2.1 t.2.2.2.1 t.2.2.2.2.1) f (nI r, 0, x6, nI b, nI k, h2 τ (nI K) F L) = k165 (nI r, 0, x6 + (-1 : Int32), h2 τ (nI K) (upd F (bs (PL L) d b k) (F (bs (PL L) d b k) + 1)) (vp_updL L (bs (PL L) d b k) (-1 : Int64))) := by
  intro d
  induction d with
  | zero =>
    intro b k f hk hb hf
    obtain ⟨f, rfl⟩ : ∃ g, f = g + 1 := ⟨f - 1, by omega⟩
    have : k = K := by omega
    subst this
    rw [lp_succ]
    show fX1_seats_B176 (h2 τ (nI k) F L) k165 _ (nI r) 0 x6 (nI b) (nI k) = _
    unfold fX1_seats_B176
    have xb : ix (nI b) 8 = true := nI_ix (by omega) (by omega)
    rw [h_seated, if_pos (Int32.le_refl _), if_pos xb, if_pos xb, nI_toNat (by omega), h_seat, h_b1, if_pos xb, h_left, h_b2]
    rfl
  | succ d ih =>
    intro b k f hk hb hf
    obtain ⟨f, rfl⟩ : ∃ g, f = g + 1 := ⟨f - 1, by omega⟩
    rw [lp_succ]
    show fX1_seats_B176 (h2 τ (nI K) F L) k165 _ (nI r) 0 x6 (nI b) (nI k) = _
    have xb : ix (nI b) 8 = true := nI_ix (by omega) (by omega)
    have xk : ix (nI k) 8 = true := nI_ix (by omega) (by omega)
    unfold fX1_seats_B176 fX1_seats_L217 fX1_seats_L251 fX1_seats_L322 fX1_seats_L336
    rw [h_seated, if_neg (nI_ge (show k < K by omega) (by omega))]
    simp only [if_neg (show ¬ (0 : Int32) = 1 by decide), if_pos xk, if_pos xb, h_left, nI_toNat (show k < 2147483648 by omega), nI_toNat (show b < 2147483648 by omega), nI_1, if_true, if_neg one_ne]
    show _ = k165 (nI r, 0, x6 + (-1 : Int32), h2 τ (nI K) (upd F (bs (PL L) d (if PL L k b = true then k else b) (k + 1)) (F (bs (PL L) d (if PL L k b = true then k else b) (k + 1)) + 1)) (vp_updL L (bs (PL L) d (if PL L k b = true then k else b) (k + 1)) (-1 : Int64)))
    by_cases z : L k ≤ L b
    · rw [if_pos z, if_neg (show ¬ PL L k b = true by simp [PL, z])]
      exact ih b (k + 1) f (by omega) (by omega) (by omega)
    · rw [if_neg z, if_pos (show PL L k b = true by simp [PL, z])]
      exact ih k (k + 1) f (by omega) (by omega) (by omega)
/-! the seats by remainders -/
theorem s0_step (σ : CS) (k13 : Int32 × Int64 × Int32 × Int32 × CS → Option CS) {K r n j V S : Nat} (hK : K ≤ 8) (hn : n ≤ 2000) (hV : V ≤ 1000000) (hS : S ≤ 8000000) (S0 : 0 < S) (hj : j < K) (hv : c_values σ r j = J (V : Int)) (R : Int) (F : Nat → Int32) (L : Nat → Int64) : fX0_giveByRemainders_B13 (g2 σ (nI K) F L) r k13 (nI n) (J S) (I R) (nI j) = k13 (nI n, J S, I (R - ((n * V / S : Nat) : Int)), nI (j + 1), g2 σ (nI K) (upd F j (I ((n * V / S : Nat) : Int))) (vp_updL L j (J ((n * V % S : Nat) : Int)))) := by
  unfold fX0_giveByRemainders_B13
  have xj : ix (nI j) 8 = true := nI_ix (by omega) (by omega)
  have ns := J_ne0 (nw_nat (show S < 9223372036854775808 by omega)) (show ((S : Nat) : Int) ≠ 0 by omega)
  have b1 : n * V ≤ 2000 * 1000000 := Nat.mul_le_mul hn hV
  rw [g_seatsGivenTo, if_neg (nI_ge hj (by omega)), if_pos xj, if_neg ns, if_pos xj, nI_toNat (by omega), g_seatsGiven, g_values, hv, nI_toL (by omega), J_mulN, J_divN (by omega) (by omega), J_toI, g_b1, if_pos xj, if_neg ns, if_pos xj, g_remainders, g_values, hv, J_mulN, J_remN (by omega) (by omega), g_b2, if_pos xj, g_seatsGiven, upd_s, I_sub, nI_1]
theorem s1_step (τ : MS) (k71 : Int32 × Int32 × Int32 × Int64 × Int32 × Int32 × MS → Option (Int32 × MS)) {K r n j V S : Nat} (hr : r < 4) (hK : K ≤ 8) (hn : n ≤ 2000) (hV : V ≤ 1000000) (hS : S ≤ 8000000) (S0 : 0 < S) (hj : j < K) (hv : m_value τ (8 * r + j) = J (V : Int)) (R : Int) (F : Nat → Int32) (L : Nat → Int64) : fX1_seats_B71 (h2 τ (nI K) F L) k71 (nI r) (nI n) 0 (J S) (I R) (nI j) = k71 (nI r, nI n, 0, J S, I (R - ((n * V / S : Nat) : Int)), nI (j + 1), h2 τ (nI K) (upd F j (I ((n * V / S : Nat) : Int))) (vp_updL L j (J ((n * V % S : Nat) : Int)))) := by
  unfold fX1_seats_B71 fX1_seats_L113 fX1_seats_L146
  have xj : ix (nI j) 8 = true := nI_ix (by omega) (by omega)
  have xv : ix (nI (8 * r + j)) 32 = true := nI_ix (by omega) (by omega)
  have ns := J_ne0 (nw_nat (show S < 9223372036854775808 by omega)) (show ((S : Nat) : Int) ≠ 0 by omega)
  have b1 : n * V ≤ 2000 * 1000000 := Nat.mul_le_mul hn hV
  rw [h_seated, if_neg (nI_ge hj (by omega)), if_pos rfl, e8r, if_pos xv, if_neg ns, nI_toNat (show 8 * r + j < 2147483648 by omega), h_value, hv, nI_toL (by omega), J_mulN, J_divN (by omega) (by omega), J_toI, if_pos xj, nI_toNat (show j < 2147483648 by omega), h_seat, h_b1, if_pos rfl, if_pos xv, if_neg ns, if_pos xj, h_value, hv, J_mulN, J_remN (by omega) (by omega), h_left, h_b2, if_pos xj, h_seat, upd_s, I_sub, nI_1]
theorem s1_step' (τ : MS) (k71 : Int32 × Int32 × Int32 × Int64 × Int32 × Int32 × MS → Option (Int32 × MS)) {K r j : Nat} (hK : K ≤ 8) (hj : j < K) {w : Int32} (hw : ¬ w = 0) (x1 x2 : Int32) (x4 : Int64) (x6 : Int32) (F : Nat → Int32) (L : Nat → Int64) : fX1_seats_B71 (h2 τ (nI K) F L) k71 x1 x2 w x4 x6 (nI j) = k71 (x1, x2, w, x4, x6, nI (j + 1), h2 τ (nI K) (upd F j 0) (vp_updL L j 0)) := by
  unfold fX1_seats_B71 fX1_seats_L113 fX1_seats_L146
  have xj : ix (nI j) 8 = true := nI_ix (by omega) (by omega)
  rw [h_seated, if_neg (nI_ge hj (by omega)), if_neg hw, if_pos xj, nI_toNat (show j < 2147483648 by omega), h_seat, h_b1, if_neg hw, if_pos xj, h_left, h_b2, if_pos xj, h_seat, upd_s, nI_1, Int32.sub_zero]
theorem A0 (σ : CS) (τ : MS) {K r n S : Nat} {V : Nat → Nat} (hr : r < 4) (hK : K ≤ 8) (hn : n ≤ 2000) (hS : S ≤ 8000000) (S0 : 0 < S) (hV : ∀ j, j < K → V j ≤ 1000000 ∧ V j ≤ S ∧ c_values σ r j = J (V j : Int) ∧ m_value τ (8 * r + j) = J (V j : Int)) : ∀ (d j f0 f1 : Nat) (R : Int) (F F' : Nat → Int32) (L L' : Nat → Int64), j + d = K → d < f0 → d < f1 → (∀ i, i < j → F i = F' i ∧ L i = L' i) → -2000 * (j : Int) ≤ R → R ≤ 2000 → ∃ R' F2 F2' L2 L2', -16000 ≤ R' ∧ R' ≤ 2000 ∧ (∀ i, i < K → F2 i = F2' i ∧ L2 i = L2' i) ∧ lp (fun k t => fX0_giveByRemainders_B13 t.2.2.2.2 r k t.1 t.2.1 t.2.2.1 t.2.2.2.1) f0 (nI n, J S, I R, nI j, g2 σ (nI K) F L) = fX0_giveByRemainders_L76 (g2 σ (nI K) F2 L2) r (I R') 0 ∧ lp (fun k t => fX1_seats_B71 t.2.2.2.2.2.2 k t.1 t.2.1 t.2.2.1 t.2.2.2.1 t.2.2.2.2.1 t.2.2.2.2.2.1) f1 (nI r, nI n, 0, J S, I R, nI j, h2 τ (nI K) F' L') = fX1_seats_L165 (h2 τ (nI K) F2' L2') (nI r) 0 (I R') := by
  intro d
  induction d with
  | zero =>
    intro j f0 f1 R F F' L L' hj hf0 hf1 ha h1 h2'
    obtain ⟨f0, rfl⟩ : ∃ g, f0 = g + 1 := ⟨f0 - 1, by omega⟩
    obtain ⟨f1, rfl⟩ : ∃ g, f1 = g + 1 := ⟨f1 - 1, by omega⟩
    have : j = K := by omega
    subst this
    refine ⟨R, F, F', L, L', by omega, h2', ha, ?_, ?_⟩
    · rw [lp_succ]
      show fX0_giveByRemainders_B13 (g2 σ (nI j) F L) r _ (nI n) (J S) (I R) (nI j) = _
      unfold fX0_giveByRemainders_B13
      rw [g_seatsGivenTo, if_pos (Int32.le_refl _)]
    · rw [lp_succ]
      show fX1_seats_B71 (h2 τ (nI j) F' L') _ (nI r) (nI n) 0 (J S) (I R) (nI j) = _
      unfold fX1_seats_B71
      rw [h_seated, if_pos (Int32.le_refl _)]
  | succ d ih =>
    intro j f0 f1 R F F' L L' hj hf0 hf1 ha h1 h2'
    obtain ⟨f0, rfl⟩ : ∃ g, f0 = g + 1 := ⟨f0 - 1, by omega⟩
    obtain ⟨f1, rfl⟩ : ∃ g, f1 = g + 1 := ⟨f1 - 1, by omega⟩
    obtain ⟨v1, v2, v3, v4⟩ := hV j (by omega)
    have q : n * V j / S ≤ 2000 := by
      have : n * V j / S ≤ n * S / S := Nat.div_le_div_right (Nat.mul_le_mul_left _ v2)
      rw [Nat.mul_div_cancel _ S0] at this
      omega
    have qz : (0 : Int) ≤ ((n * V j / S : Nat) : Int) ∧ ((n * V j / S : Nat) : Int) ≤ 2000 := ⟨Int.natCast_nonneg _, Int.ofNat_le.mpr q⟩
    obtain ⟨R', F2, F2', L2, L2', e1, e2, e3, e4, e5⟩ := ih (j + 1) f0 f1 (R - ((n * V j / S : Nat) : Int)) (upd F j (I ((n * V j / S : Nat) : Int))) (upd F' j (I ((n * V j / S : Nat) : Int))) (vp_updL L j (J ((n * V j % S : Nat) : Int))) (vp_updL L' j (J ((n * V j % S : Nat) : Int))) (by omega) (by omega) (by omega) (fun i hi => by
      by_cases z : i = j
      · subst z
        rw [upd_s, upd_s, pk_uLs, pk_uLs]
        exact ⟨rfl, rfl⟩
      · rw [upd_n z, upd_n z, pk_uLn z, pk_uLn z]
        exact ha i (by omega)) (by omega) (by omega)
    refine ⟨R', F2, F2', L2, L2', e1, e2, e3, ?_, ?_⟩
    · rw [lp_succ]
      exact (s0_step σ _ hK hn v1 hS S0 (by omega) v3 R F L).trans e4
    · rw [lp_succ]
      exact (s1_step τ _ hr hK hn v1 hS S0 (by omega) v4 R F' L').trans e5
theorem A1c (σ : CS) {K r : Nat} (hK : K ≤ 8) (x2 w : Int32) : ∀ (d j f0 : Nat) (F : Nat → Int32) (L : Nat → Int64), j + d = K → d < f0 → (∀ i, i < j → F i = nI 0) → ∃ F2, (∀ i, i < K → F2 i = nI 0) ∧ lp (fun k t => fX0_giveOneByOne_B3 t.2.2.2 r k t.1 t.2.1 t.2.2.1) f0 (x2, w, nI j, g2 σ (nI K) F L) = fX0_giveOneByOne_L29 (g2 σ (nI K) F2 L) r x2 w 0 := by
  intro d
  induction d with
  | zero =>
    intro j f0 F L hj hf0 ha
    obtain ⟨f0, rfl⟩ : ∃ g, f0 = g + 1 := ⟨f0 - 1, by omega⟩
    have : j = K := by omega
    subst this
    refine ⟨F, ha, ?_⟩
    rw [lp_succ]
    show fX0_giveOneByOne_B3 (g2 σ (nI j) F L) r _ x2 w (nI j) = _
    unfold fX0_giveOneByOne_B3
    rw [g_seatsGivenTo, if_pos (Int32.le_refl _)]
  | succ d ih =>
    intro j f0 F L hj hf0 ha
    obtain ⟨f0, rfl⟩ : ∃ g, f0 = g + 1 := ⟨f0 - 1, by omega⟩
    obtain ⟨F2, e1, e2⟩ := ih (j + 1) f0 (upd F j 0) L (by omega) (by omega) (fun i hi => by
      by_cases z : i = j
      · subst z
        rw [upd_s]
        rfl
      · rw [upd_n z]
        exact ha i (by omega))
    refine ⟨F2, e1, ?_⟩
    rw [lp_succ]
    refine Eq.trans ?_ e2
    show fX0_giveOneByOne_B3 (g2 σ (nI K) F L) r _ x2 w (nI j) = _
    unfold fX0_giveOneByOne_B3
    rw [g_seatsGivenTo, if_neg (nI_ge (show j < K by omega) (by omega)), if_pos (nI_ix (show j < 8 by omega) (by omega)), nI_toNat (by omega), g_seatsGiven, g_b1, nI_1]
theorem A1m (τ : MS) {K r : Nat} (hK : K ≤ 8) {w : Int32} (hw : ¬ w = 0) (x1 x2 : Int32) (x4 : Int64) (x6 : Int32) : ∀ (d j f1 : Nat) (F : Nat → Int32) (L : Nat → Int64), j + d = K → d < f1 → (∀ i, i < j → F i = nI 0) → ∃ F2 L2, (∀ i, i < K → F2 i = nI 0) ∧ lp (fun k t => fX1_seats_B71 t.2.2.2.2.2.2 k t.1 t.2.1 t.2.2.1 t.2.2.2.1 t.2.2.2.2.1 t.2.2.2.2.2.1) f1 (x1, x2, w, x4, x6, nI j, h2 τ (nI K) F L) = fX1_seats_L165 (h2 τ (nI K) F2 L2) x1 w x6 := by
  intro d
  induction d with
  | zero =>
    intro j f0 F L hj hf0 ha
    obtain ⟨f0, rfl⟩ : ∃ g, f0 = g + 1 := ⟨f0 - 1, by omega⟩
    have : j = K := by omega
    subst this
    refine ⟨F, L, ha, ?_⟩
    rw [lp_succ]
    show fX1_seats_B71 (h2 τ (nI j) F L) _ x1 x2 w x4 x6 (nI j) = _
    unfold fX1_seats_B71
    rw [h_seated, if_pos (Int32.le_refl _)]
  | succ d ih =>
    intro j f0 F L hj hf0 ha
    obtain ⟨f0, rfl⟩ : ∃ g, f0 = g + 1 := ⟨f0 - 1, by omega⟩
    obtain ⟨F2, L2, e1, e2⟩ := ih (j + 1) f0 (upd F j 0) (vp_updL L j 0) (by omega) (by omega) (fun i hi => by
      by_cases z : i = j
      · subst z
        rw [upd_s]
        rfl
      · rw [upd_n z]
        exact ha i (by omega))
    refine ⟨F2, L2, e1, ?_⟩
    rw [lp_succ]
    exact (s1_step' τ (r := r) _ hK (by omega) hw x1 x2 x4 x6 F L).trans e2
/-! giving, one by one: by remainders -/
theorem B0 (σ : CS) (τ : MS) {K r R : Nat} (hr : r < 4) (hK : K ≤ 8) (K0 : 0 < K) (hR : R ≤ 2000) : ∀ (d i f0 f1 : Nat) (F F' : Nat → Int32) (L L' : Nat → Int64), i + d = R → d < f0 → d < f1 → (∀ i, i < K → F i = F' i ∧ L i = L' i) → ∃ F2 F2' L2 L2', (∀ i, i < K → F2 i = F2' i) ∧ lp (fun k t => fX0_giveByRemainders_B76 t.2.2 r k t.1 t.2.1) f0 (nI R, nI i, g2 σ (nI K) F L) = some (g2 σ (nI K) F2 L2) ∧ lp (fun k t => fX1_seats_B165 t.2.2.2 k t.1 t.2.1 t.2.2.1) f1 (nI r, 0, nI d, h2 τ (nI K) F' L') = fX1_seats_L377 (h2 τ (nI K) F2' L2') 0 0 := by
  intro d
  induction d with
  | zero =>
    intro i f0 f1 F F' L L' hi hf0 hf1 ha
    obtain ⟨f0, rfl⟩ : ∃ g, f0 = g + 1 := ⟨f0 - 1, by omega⟩
    obtain ⟨f1, rfl⟩ : ∃ g, f1 = g + 1 := ⟨f1 - 1, by omega⟩
    have : i = R := by omega
    subst this
    refine ⟨F, F', L, L', fun i hi => (ha i hi).1, ?_, ?_⟩
    · rw [lp_succ]
      show fX0_giveByRemainders_B76 (g2 σ (nI K) F L) r _ (nI i) (nI i) = _
      unfold fX0_giveByRemainders_B76
      rw [if_pos (Int32.le_refl _)]
    · rw [lp_succ]
      show fX1_seats_B165 (h2 τ (nI K) F' L') _ (nI r) 0 (nI 0) = _
      unfold fX1_seats_B165
      rw [if_pos (show nI 0 ≤ (0 : Int32) by decide)]
  | succ d ih =>
    intro i f0 f1 F F' L L' hi hf0 hf1 ha
    obtain ⟨f0, rfl⟩ : ∃ g, f0 = g + 1 := ⟨f0 - 1, by omega⟩
    obtain ⟨f1, rfl⟩ : ∃ g, f1 = g + 1 := ⟨f1 - 1, by omega⟩
    have bq : bs (PL L) (K - 1) 0 1 = bs (PL L') (K - 1) 0 1 := bs_congr (K := K) (fun a b h1 h2 => by
      show (!decide (L a ≤ L b)) = (!decide (L' a ≤ L' b))
      rw [(ha a h1).2, (ha b h2).2]) (K - 1) 0 1 (by omega) (by omega)
    have bl : bs (PL L) (K - 1) 0 1 < K := bs_lt _ (K - 1) 0 1 (by omega) (by omega)
    have fg := fg_loop σ hK F L (K - 1) 0 1 FU (by omega) K0 (by unfold FU; omega)
    have mi := fun k165 => m_in0 τ k165 hr hK F' L' (nI (d + 1)) (K - 1) 0 1 FU (by omega) K0 (by unfold FU; omega)
    rw [← bq] at mi
    generalize bs (PL L) (K - 1) 0 1 = B at bl fg mi
    obtain ⟨F2, F2', L2, L2', e1, e2, e3⟩ := ih (i + 1) f0 f1 (upd F B (F B + 1)) (upd F' B (F' B + 1)) (vp_updL L B (-1)) (vp_updL L' B (-1)) (by omega) (by omega) (by omega) (fun j hj => by
      by_cases z : j = B
      · subst z
        rw [upd_s, upd_s, pk_uLs, pk_uLs, (ha j hj).1]
        exact ⟨rfl, rfl⟩
      · rw [upd_n z, upd_n z, pk_uLn z, pk_uLn z]
        exact ha j hj)
    refine ⟨F2, F2', L2, L2', e1, ?_, ?_⟩
    · rw [lp_succ]
      refine Eq.trans ?_ e2
      show fX0_giveByRemainders_B76 (g2 σ (nI K) F L) r _ (nI R) (nI i) = _
      have fg' : fX0_firstGreatestRemainder (g2 σ (nI K) F L) = some (nI B) := fg
      have xB : ix (nI B) 8 = true := nI_ix (by omega) (by omega)
      unfold fX0_giveByRemainders_B76
      rw [if_neg (nI_ge (show i < R by omega) (by omega)), fg', Option.bind_some, if_pos xB, if_pos xB, nI_toNat (by omega), g_seatsGiven, g_b1, if_pos xB, g_remainders, g_b2, nI_1]
    · rw [lp_succ]
      refine Eq.trans ?_ e3
      show fX1_seats_B165 (h2 τ (nI K) F' L') _ (nI r) 0 (nI (d + 1)) = _
      unfold fX1_seats_B165
      rw [if_neg (show ¬ nI (d + 1) ≤ (0 : Int32) from nI_ge (a := 0) (b := d + 1) (by omega) (by omega))]
      refine (mi _).trans ?_
      rw [nI_m1]
/-! giving, one by one: by divisors -/
abbrev PV (V s : Nat → Nat) (w : Nat) : Nat → Nat → Bool := fun k b => decide (V b * (w * s k + 1) < V k * (w * s b + 1))
theorem dv0 {w s : Nat} (hw : w ≤ 2) (hs : s ≤ 2000) : (nI w * nI s + (1 : Int32)).toInt64 = J ((w * s + 1 : Nat) : Int) := by
  have : w * s ≤ 2 * 2000 := Nat.mul_le_mul hw hs
  rw [pk_mul, nI_1, nI_toL (by omega)]
theorem c_in (σ : CS) (k29 : Int32 × Int32 × Int32 × CS → Option CS) {K r w n : Nat} {V s : Nat → Nat} (hr : r < 4) (hK : K ≤ 8) (hw : w ≤ 2) (x4 : Int32) (F : Nat → Int32) (L : Nat → Int64) (hV : ∀ j, j < K → V j ≤ 1000000 ∧ c_values σ r j = J (V j : Int)) (hF : ∀ j, j < K → F j = nI (s j) ∧ s j ≤ 2000) : ∀ (d b k f : Nat), k + d = K → b < K → d < f → lp (fun k t => fX0_giveOneByOne_B41 t.2.2.2.2.2 r k29 k t.1 t.2.1 t.2.2.1 t.2.2.2.1 t.2.2.2.2.1) f (nI n, nI w, x4, nI b, nI k, g2 σ (nI K) F L) = k29 (nI n, nI w, x4 + 1, g2 σ (nI K) (upd F (bs (PV V s w) d b k) (F (bs (PV V s w) d b k) + 1)) L) := by
  intro d
  induction d with
  | zero =>
    intro b k f hk hb hf
    obtain ⟨f, rfl⟩ : ∃ g, f = g + 1 := ⟨f - 1, by omega⟩
    have : k = K := by omega
    subst this
    rw [lp_succ]
    show fX0_giveOneByOne_B41 (g2 σ (nI k) F L) r k29 _ (nI n) (nI w) x4 (nI b) (nI k) = _
    unfold fX0_giveOneByOne_B41
    have xb : ix (nI b) 8 = true := nI_ix (by omega) (by omega)
    rw [g_seatsGivenTo, if_pos (Int32.le_refl _), if_pos xb, if_pos xb, nI_toNat (by omega), g_seatsGiven, g_b1]
    rfl
  | succ d ih =>
    intro b k f hk hb hf
    obtain ⟨f, rfl⟩ : ∃ g, f = g + 1 := ⟨f - 1, by omega⟩
    rw [lp_succ]
    show fX0_giveOneByOne_B41 (g2 σ (nI K) F L) r k29 _ (nI n) (nI w) x4 (nI b) (nI k) = _
    have xb : ix (nI b) 8 = true := nI_ix (by omega) (by omega)
    have xk : ix (nI k) 8 = true := nI_ix (by omega) (by omega)
    unfold fX0_giveOneByOne_B41 fX0_giveOneByOne_L100
    have hk' : k < K := by omega
    have w1 : w * s b ≤ 2 * 2000 := Nat.mul_le_mul hw (hF b hb).2
    have w2 : w * s k ≤ 2 * 2000 := Nat.mul_le_mul hw (hF k hk').2
    have w3 : V k * (w * s b + 1) ≤ 1000000 * 4001 := Nat.mul_le_mul (hV k hk').1 (by omega)
    have w4 : V b * (w * s k + 1) ≤ 1000000 * 4001 := Nat.mul_le_mul (hV b hb).1 (by omega)
    rw [g_seatsGivenTo, if_neg (nI_ge hk' (by omega)), if_pos xk, if_pos xb, if_pos xk, if_pos xb, nI_toNat (show k < 2147483648 by omega), nI_toNat (show b < 2147483648 by omega), g_values, g_seatsGiven, (hV k hk').2, (hV b hb).2, (hF k hk').1, (hF b hb).1, dv0 hw (hF k hk').2, dv0 hw (hF b hb).2, J_mulN, J_mulN, nI_1]
    show _ = k29 (nI n, nI w, x4 + 1, g2 σ (nI K) (upd F (bs (PV V s w) d (if PV V s w k b = true then k else b) (k + 1)) (F (bs (PV V s w) d (if PV V s w k b = true then k else b) (k + 1)) + 1)) L)
    by_cases z : V k * (w * s b + 1) ≤ V b * (w * s k + 1)
    · rw [if_pos ((J_leN (by omega) (by omega)).mpr z), if_neg (show ¬ PV V s w k b = true by simp [PV, Nat.not_lt.mpr z])]
      exact ih b (k + 1) f (by omega) (by omega) (by omega)
    · rw [if_neg (fun q => z ((J_leN (by omega) (by omega)).mp q)), if_pos (show PV V s w k b = true by simp [PV]; omega)]
      exact ih k (k + 1) f (by omega) (by omega) (by omega)
theorem m_in (τ : MS) (k165 : Int32 × Int32 × Int32 × MS → Option (Int32 × MS)) {K r w : Nat} {V s : Nat → Nat} (hr : r < 4) (hK : K ≤ 8) (hw : w = 1 ∨ w = 2) (x6 : Int32) (F : Nat → Int32) (L : Nat → Int64) (hV : ∀ j, j < K → V j ≤ 1000000 ∧ m_value τ (8 * r + j) = J (V j : Int)) (hF : ∀ j, j < K → F j = nI (s j) ∧ s j ≤ 2000) : ∀ (d b k f : Nat), k + d = K → b < K → d < f → lp (fun k t => fX1_seats_B176 t.2.2.2.2.2 k165 k t.1 t.2.1 t.2.2.1 t.2.2.2.1 t.2.2.2.2.1) f (nI r, nI w, x6, nI b, nI k, h2 τ (nI K) F L) = k165 (nI r, nI w, x6 + (-1 : Int32), h2 τ (nI K) (upd F (bs (PV V s w) d b k) (F (bs (PV V s w) d b k) + 1)) (vp_updL L (bs (PV V s w) d b k) (-1 : Int64))) := by
  intro d
  induction d with
  | zero =>
    intro b k f hk hb hf
    obtain ⟨f, rfl⟩ : ∃ g, f = g + 1 := ⟨f - 1, by omega⟩
    have : k = K := by omega
    subst this
    rw [lp_succ]
    show fX1_seats_B176 (h2 τ (nI k) F L) k165 _ (nI r) (nI w) x6 (nI b) (nI k) = _
    unfold fX1_seats_B176
    have xb : ix (nI b) 8 = true := nI_ix (by omega) (by omega)
    rw [h_seated, if_pos (Int32.le_refl _), if_pos xb, if_pos xb, nI_toNat (by omega), h_seat, h_b1, if_pos xb, h_left, h_b2]
    rfl
  | succ d ih =>
    intro b k f hk hb hf
    obtain ⟨f, rfl⟩ : ∃ g, f = g + 1 := ⟨f - 1, by omega⟩
    rw [lp_succ]
    show fX1_seats_B176 (h2 τ (nI K) F L) k165 _ (nI r) (nI w) x6 (nI b) (nI k) = _
    have xb : ix (nI b) 8 = true := nI_ix (by omega) (by omega)
    have xk : ix (nI k) 8 = true := nI_ix (by omega) (by omega)
    have xvk : ix (nI (8 * r + k)) 32 = true := nI_ix (by omega) (by omega)
    have xvb : ix (nI (8 * r + b)) 32 = true := nI_ix (by omega) (by omega)
    have hk' : k < K := by omega
    have hw2 : w ≤ 2 := by omega
    have w1 : w * s b ≤ 2 * 2000 := Nat.mul_le_mul hw2 (hF b hb).2
    have w2 : w * s k ≤ 2 * 2000 := Nat.mul_le_mul hw2 (hF k hk').2
    have w3 : V k * (w * s b + 1) ≤ 1000000 * 4001 := Nat.mul_le_mul (hV k hk').1 (by omega)
    have w4 : V b * (w * s k + 1) ≤ 1000000 * 4001 := Nat.mul_le_mul (hV b hb).1 (by omega)
    have w0 : ¬ nI w = (0 : Int32) := nI_ne0 (by omega) (by omega)
    unfold fX1_seats_B176 fX1_seats_L217 fX1_seats_L251 fX1_seats_L322 fX1_seats_L336
    have dm : ∀ j, j < K → (if nI w = 1 then (F j).toInt64 + 1 else 2 * (F j).toInt64 + 1) = J ((w * s j + 1 : Nat) : Int) := fun j hj => by
      rw [(hF j hj).1, nI_toL (by have := (hF j hj).2; omega)]
      rcases hw with rfl | rfl
      · rw [if_pos (show nI 1 = (1 : Int32) from rfl), J_1, J_add]
        congr 1
        omega
      · rw [if_neg (show ¬ nI 2 = (1 : Int32) by decide), show (2 : Int64) = J 2 by decide, J_mul, J_1, J_add]
        congr 1
    rw [h_seated, if_neg (nI_ge hk' (by omega))]
    simp only [if_neg w0, if_pos xk, if_pos xb, e8r, if_pos xvk, if_pos xvb, h_seat, h_value, nI_toNat (show k < 2147483648 by omega), nI_toNat (show b < 2147483648 by omega), nI_toNat (show 8 * r + k < 2147483648 by omega), nI_toNat (show 8 * r + b < 2147483648 by omega), (hV k hk').2, (hV b hb).2, nI_1, if_true, if_neg one_ne]
    show _ = k165 (nI r, nI w, x6 + (-1 : Int32), h2 τ (nI K) (upd F (bs (PV V s w) d (if PV V s w k b = true then k else b) (k + 1)) (F (bs (PV V s w) d (if PV V s w k b = true then k else b) (k + 1)) + 1)) (vp_updL L (bs (PV V s w) d (if PV V s w k b = true then k else b) (k + 1)) (-1 : Int64)))
    have dk := dm k hk'
    have db := dm b hb
    have fin : ∀ (X Y : Int64), X = J ((w * s k + 1 : Nat) : Int) → Y = J ((w * s b + 1 : Nat) : Int) → ∀ (t e res : Option (Int32 × MS)), (V k * (w * s b + 1) ≤ V b * (w * s k + 1) → t = res) → (¬ V k * (w * s b + 1) ≤ V b * (w * s k + 1) → e = res) → (if J (V k : Int) * Y ≤ J (V b : Int) * X then t else e) = res := by
      intro X Y hX hY t e res h1 h2
      rw [hX, hY, J_mulN, J_mulN]
      by_cases z : V k * (w * s b + 1) ≤ V b * (w * s k + 1)
      · rw [if_pos ((J_leN (by omega) (by omega)).mpr z)]
        exact h1 z
      · rw [if_neg (fun q => z ((J_leN (by omega) (by omega)).mp q))]
        exact h2 z
    by_cases z1 : nI w = 1
    · rw [if_pos z1] at dk db
      rw [if_pos z1, if_pos z1]
      exact fin _ _ dk db _ _ _ (fun z => by
        rw [if_neg (show ¬ PV V s w k b = true by simp [PV, Nat.not_lt.mpr z])]
        exact ih b (k + 1) f (by omega) (by omega) (by omega)) (fun z => by
        rw [if_pos (show PV V s w k b = true by simp [PV]; omega)]
        exact ih k (k + 1) f (by omega) (by omega) (by omega))
    · rw [if_neg z1] at dk db
      rw [if_neg z1, if_neg z1]
      exact fin _ _ dk db _ _ _ (fun z => by
        rw [if_neg (show ¬ PV V s w k b = true by simp [PV, Nat.not_lt.mpr z])]
        exact ih b (k + 1) f (by omega) (by omega) (by omega)) (fun z => by
        rw [if_pos (show PV V s w k b = true by simp [PV]; omega)]
        exact ih k (k + 1) f (by omega) (by omega) (by omega))
theorem B1 (σ : CS) (τ : MS) {K r w n : Nat} {V : Nat → Nat} (hr : r < 4) (hK : K ≤ 8) (K0 : 0 < K) (hw : w = 1 ∨ w = 2) (hn : n ≤ 2000) (hV : ∀ j, j < K → V j ≤ 1000000 ∧ c_values σ r j = J (V j : Int) ∧ m_value τ (8 * r + j) = J (V j : Int)) : ∀ (d i f0 f1 : Nat) (F F' : Nat → Int32) (L L' : Nat → Int64) (s : Nat → Nat), i + d = n → d < f0 → d < f1 → (∀ j, j < K → F j = nI (s j) ∧ F' j = nI (s j) ∧ s j ≤ i) → ∃ F2 F2' L2 L2', (∀ i, i < K → F2 i = F2' i) ∧ lp (fun k t => fX0_giveOneByOne_B29 t.2.2.2 r k t.1 t.2.1 t.2.2.1) f0 (nI n, nI w, nI i, g2 σ (nI K) F L) = some (g2 σ (nI K) F2 L2) ∧ lp (fun k t => fX1_seats_B165 t.2.2.2 k t.1 t.2.1 t.2.2.1) f1 (nI r, nI w, nI d, h2 τ (nI K) F' L') = fX1_seats_L377 (h2 τ (nI K) F2' L2') 0 0 := by
  intro d
  induction d with
  | zero =>
    intro i f0 f1 F F' L L' s hi hf0 hf1 ha
    obtain ⟨f0, rfl⟩ : ∃ g, f0 = g + 1 := ⟨f0 - 1, by omega⟩
    obtain ⟨f1, rfl⟩ : ∃ g, f1 = g + 1 := ⟨f1 - 1, by omega⟩
    have : i = n := by omega
    subst this
    refine ⟨F, F', L, L', fun i hi => (ha i hi).1.trans (ha i hi).2.1.symm, ?_, ?_⟩
    · rw [lp_succ]
      show fX0_giveOneByOne_B29 (g2 σ (nI K) F L) r _ (nI i) (nI w) (nI i) = _
      unfold fX0_giveOneByOne_B29
      rw [if_pos (Int32.le_refl _)]
    · rw [lp_succ]
      show fX1_seats_B165 (h2 τ (nI K) F' L') _ (nI r) (nI w) (nI 0) = _
      unfold fX1_seats_B165
      rw [if_pos (show nI 0 ≤ (0 : Int32) by decide)]
  | succ d ih =>
    intro i f0 f1 F F' L L' s hi hf0 hf1 ha
    obtain ⟨f0, rfl⟩ : ∃ g, f0 = g + 1 := ⟨f0 - 1, by omega⟩
    obtain ⟨f1, rfl⟩ : ∃ g, f1 = g + 1 := ⟨f1 - 1, by omega⟩
    have bl : bs (PV V s w) (K - 1) 0 1 < K := bs_lt _ (K - 1) 0 1 (by omega) (by omega)
    have ci := fun k29 => c_in σ k29 (n := n) (s := s) hr hK (show w ≤ 2 by omega) (nI i) F L (fun j hj => ⟨(hV j hj).1, (hV j hj).2.1⟩) (fun j hj => ⟨(ha j hj).1, by have := (ha j hj).2.2; omega⟩) (K - 1) 0 1 FU (by omega) K0 (by unfold FU; omega)
    have mi := fun k165 => m_in τ k165 (s := s) hr hK hw (nI (d + 1)) F' L' (fun j hj => ⟨(hV j hj).1, (hV j hj).2.2⟩) (fun j hj => ⟨(ha j hj).2.1, by have := (ha j hj).2.2; omega⟩) (K - 1) 0 1 FU (by omega) K0 (by unfold FU; omega)
    generalize bs (PV V s w) (K - 1) 0 1 = B at bl ci mi
    obtain ⟨F2, F2', L2, L2', e1, e2, e3⟩ := ih (i + 1) f0 f1 (upd F B (F B + 1)) (upd F' B (F' B + 1)) L (vp_updL L' B (-1)) (fun j => if j = B then s j + 1 else s j) (by omega) (by omega) (by omega) (fun j hj => by
      obtain ⟨a1, a2, a3⟩ := ha j hj
      by_cases z : j = B
      · subst z
        rw [upd_s, upd_s, if_pos rfl, a1, a2, nI_1]
        exact ⟨rfl, rfl, by omega⟩
      · rw [upd_n z, upd_n z, if_neg z]
        exact ⟨a1, a2, by omega⟩)
    refine ⟨F2, F2', L2, L2', e1, ?_, ?_⟩
    · rw [lp_succ]
      refine Eq.trans ?_ e2
      show fX0_giveOneByOne_B29 (g2 σ (nI K) F L) r _ (nI n) (nI w) (nI i) = _
      unfold fX0_giveOneByOne_B29
      rw [if_neg (nI_ge (show i < n by omega) (by omega))]
      refine (ci _).trans ?_
      rw [nI_1]
    · rw [lp_succ]
      refine Eq.trans ?_ e3
      show fX1_seats_B165 (h2 τ (nI K) F' L') _ (nI r) (nI w) (nI (d + 1)) = _
      unfold fX1_seats_B165
      rw [if_neg (show ¬ nI (d + 1) ≤ (0 : Int32) from nI_ge (a := 0) (b := d + 1) (by omega) (by omega))]
      refine (mi _).trans ?_
      rw [nI_m1]
/-! how many have a seat -/
theorem cnt (σ : CS) (τ : MS) {K : Nat} (hK : K ≤ 8) {F F' : Nat → Int32} (L L' : Nat → Int64) (ha : ∀ j, j < K → F j = F' j) : ∀ (d j f0 f1 : Nat) (c : Int32), j + d = K → d < f0 → d < f1 → ∃ c', lp (fun k t => fX0_countSeated_B4 (g2 σ (nI K) F L) k t.1 t.2) f0 (c, nI j) = some c' ∧ lp (fun k t => fX1_seats_B377 t.2.2 k t.1 t.2.1) f1 (c, nI j, h2 τ (nI K) F' L') = some (c', h2 τ (nI K) F' L') := by
  intro d
  induction d with
  | zero =>
    intro j f0 f1 c hj hf0 hf1
    obtain ⟨f0, rfl⟩ : ∃ g, f0 = g + 1 := ⟨f0 - 1, by omega⟩
    obtain ⟨f1, rfl⟩ : ∃ g, f1 = g + 1 := ⟨f1 - 1, by omega⟩
    have : j = K := by omega
    subst this
    refine ⟨c, ?_, ?_⟩
    · rw [lp_succ]
      show fX0_countSeated_B4 (g2 σ (nI j) F L) _ c (nI j) = _
      unfold fX0_countSeated_B4
      rw [g_seatsGivenTo, if_pos (Int32.le_refl _)]
    · rw [lp_succ]
      show fX1_seats_B377 (h2 τ (nI j) F' L') _ c (nI j) = _
      unfold fX1_seats_B377
      rw [h_seated, if_pos (Int32.le_refl _)]
  | succ d ih =>
    intro j f0 f1 c hj hf0 hf1
    obtain ⟨f0, rfl⟩ : ∃ g, f0 = g + 1 := ⟨f0 - 1, by omega⟩
    obtain ⟨f1, rfl⟩ : ∃ g, f1 = g + 1 := ⟨f1 - 1, by omega⟩
    have xj : ix (nI j) 8 = true := nI_ix (by omega) (by omega)
    have hj' : j < K := by omega
    obtain ⟨c', e1, e2⟩ := ih (j + 1) f0 f1 (if F j ≤ 0 then c else c + 1) (by omega) (by omega) (by omega)
    refine ⟨c', ?_, ?_⟩
    · rw [lp_succ]
      refine Eq.trans ?_ e1
      show fX0_countSeated_B4 (g2 σ (nI K) F L) _ c (nI j) = _
      unfold fX0_countSeated_B4 fX0_countSeated_L24
      rw [g_seatsGivenTo, if_neg (nI_ge hj' (by omega)), if_pos xj, g_seatsGiven, nI_toNat (by omega), nI_1]
      by_cases z : F j ≤ 0
      · rw [if_pos z, if_pos z]
      · rw [if_neg z, if_neg z]
    · rw [lp_succ]
      refine Eq.trans ?_ e2
      show fX1_seats_B377 (h2 τ (nI K) F' L') _ c (nI j) = _
      unfold fX1_seats_B377 fX1_seats_L403
      rw [h_seated, if_neg (nI_ge hj' (by omega)), if_pos xj, h_seat, nI_toNat (by omega), nI_1, ← ha j hj', Int32.add_zero]
      by_cases z : F j ≤ 0
      · rw [if_pos z, if_pos z]
      · rw [if_neg z, if_neg z]
theorem sv_le {f : Nat → Int64} : ∀ k : Nat, (∀ j, j < k → ∃ v : Nat, v ≤ 1000000 ∧ f j = J (v : Int)) → ∀ j, j < k → (f j).toInt ≤ sv f k := by
  intro k
  induction k with
  | zero => intro _ j hj; omega
  | succ k ih =>
    intro h j hj
    show (f j).toInt ≤ sv f k + (f k).toInt
    have b := sv_bd (f := f) (k := k) (fun j hj => h j (by omega))
    obtain ⟨v, hv, e⟩ := h k (by omega)
    have e2 : (f k).toInt = v := by rw [e, J_toInt (nw_nat (by omega))]
    by_cases z : j = k
    · subst z
      omega
    · have := ih (fun j hj => h j (by omega)) j (by omega)
      omega
theorem seatE {σ : CS} {τ : MS} {N K : Nat} (hM : RM σ τ N) (hE : RE σ τ) (hK : K ≤ 8) {F F' : Nat → Int32} (L L' : Nat → Int64) (ha : ∀ j, j < K → F j = F' j) : ∃ r σ' τ', fX0_seats_L88 (g2 σ (nI K) F L) = some (r, σ') ∧ fX1_seats_L377 (h2 τ (nI K) F' L') 0 0 = some (r, τ') ∧ Rel σ' τ' := by
  obtain ⟨c, e1, e2⟩ := cnt σ τ hK L L' ha K 0 FU FU 0 (by omega) (by unfold FU; omega) (by unfold FU; omega)
  have e1' : fX0_countSeated (g2 σ (nI K) F L) = some c := e1
  have e2' : fX1_seats_L377 (h2 τ (nI K) F' L') 0 0 = some (c, h2 τ (nI K) F' L') := e2
  refine ⟨c, g2 σ (nI K) F L, h2 τ (nI K) F' L', ?_, e2', ⟨N, RM_gh hM _ _ _ _ _⟩, RE_gh hE hK _ _ ha⟩
  unfold fX0_seats_L88
  rw [e1']
  rfl
theorem pu_seats {σ : CS} {τ : MS} (h : Rel σ τ) (x y w : Int32) : ∃ r σ' τ', fX0_seats σ x y w = some (r, σ') ∧ fX1_seats τ x y w = some (r, τ') ∧ Rel σ' τ' := by
  have hR : Rel σ (sm_thrown τ 0) := h
  unfold fX0_seats fX1_seats
  rw [show ∀ kk : MS → Option (Int32 × MS), bd (sm_thrown τ (0 : Int32)) kk = kk (sm_thrown τ 0) from fun _ => rfl]
  generalize hτ : sm_thrown τ 0 = τ1 at hR ⊢
  obtain ⟨⟨N, hM1⟩, hE1⟩ := id hR
  rcases pk_ix x (n := 4) (by omega) with q | q | ⟨r, hr, rfl⟩
  · rw [row0_out (Or.inl q), row1_out (Or.inl q)]; exact ⟨_, _, _, rfl, rfl, hR⟩
  · rw [row0_out (Or.inr q), row1_out (Or.inr q)]; exact ⟨_, _, _, rfl, rfl, hR⟩
  rw [row0_in hr, row1_in hr]
  simp only [Option.bind_some]
  rw [if_neg one_ne, if_neg one_ne]
  have w2 : nw 2000 := by unfold nw; omega
  have w3 : nw 2 := by unfold nw; omega
  rw [show (2000 : Int64) = J 2000 by decide, show (2 : Int64) = J 2 by decide, show (0 : Int64) = J 0 from J_0]
  by_cases c1 : y.toInt < 0
  · rw [if_pos (show y < (0 : Int32) from i_lt.mpr c1), isIn_f nw_0 w2 (Or.inl c1)]
    exact ⟨_, _, _, rfl, rfl, hR⟩
  rw [if_neg (show ¬ y < (0 : Int32) from fun q => c1 (i_lt.mp q))]
  by_cases c2 : y.toInt ≤ 2000
  case neg =>
    rw [if_pos (show (2000 : Int32) < y from i_lt.mpr (by rw [show (2000 : Int32).toInt = 2000 from rfl]; omega)), isIn_f nw_0 w2 (Or.inr (by omega))]
    exact ⟨_, _, _, rfl, rfl, hR⟩
  rw [if_neg (show ¬ (2000 : Int32) < y from fun q => absurd (i_lt.mp q) (by rw [show (2000 : Int32).toInt = 2000 from rfl]; omega)), isIn_t nw_0 w2 (by omega) c2]
  simp only [Option.bind_some]
  rw [if_neg one_ne]
  by_cases c3 : w.toInt < 0
  · rw [if_pos (show w < (0 : Int32) from i_lt.mpr c3), isIn_f nw_0 w3 (Or.inl c3)]
    exact ⟨_, _, _, rfl, rfl, hR⟩
  rw [if_neg (show ¬ w < (0 : Int32) from fun q => c3 (i_lt.mp q))]
  by_cases c4 : w.toInt ≤ 2
  case neg =>
    rw [if_neg (show ¬ w ≤ (2 : Int32) from fun q => c4 (i_le.mp q)), isIn_f nw_0 w3 (Or.inr (by omega))]
    exact ⟨_, _, _, rfl, rfl, hR⟩
  rw [if_pos (show w ≤ (2 : Int32) from i_le.mpr c4), isIn_t nw_0 w3 (by omega) c4]
  simp only [Option.bind_some]
  rw [if_neg one_ne]
  obtain ⟨n, hy, hn⟩ : ∃ M : Nat, y = nI M ∧ y.toInt = M := ⟨y.toInt.toNat, by
    apply Int32.toInt_inj.mp
    rw [nI_toInt (by omega)]
    omega, by omega⟩
  obtain ⟨v, hw, hv⟩ : ∃ M : Nat, w = nI M ∧ w.toInt = M := ⟨w.toInt.toNat, by
    apply Int32.toInt_inj.mp
    rw [nI_toInt (by omega)]
    omega, by omega⟩
  rw [hn] at c1 c2
  rw [hv] at c3 c4
  subst hy hw
  obtain ⟨K, z, hK, s1, s2, s3, s4, z0, z1, zs, hV⟩ := sumB hE1 hr
  rw [s3, s4]
  simp only [Option.bind_some]
  by_cases zz : z = 0
  · rw [if_pos (show J z = J 0 by rw [zz]), if_pos (show J z = J 0 by rw [zz])]
    exact ⟨_, _, _, rfl, rfl, hR⟩
  have nz : ¬ J z = J 0 := fun q => zz ((J_eq (by unfold nw; omega) nw_0).mp q)
  have xr : ix (nI r) 4 = true := nI_ix hr (by omega)
  rw [if_neg nz, if_neg nz, if_pos xr, if_pos xr, nI_toNat (by omega), s1, s2, g_b0, h_b0, if_pos xr, if_pos xr]
  have K0 : 0 < K := by
    by_cases k0 : K = 0
    · subst k0
      exact absurd zs zz
    · omega
  have hV' : ∃ V : Nat → Nat, ∀ j, j < K → V j ≤ 1000000 ∧ c_values σ r j = J (V j : Int) ∧ m_value τ1 (8 * r + j) = J (V j : Int) := by
    refine ⟨fun j => (c_values σ r j).toInt.toNat, fun j hj => ?_⟩
    obtain ⟨v, v1, v2, v3⟩ := hV j hj
    have e : (c_values σ r j).toInt.toNat = v := by
      rw [v2, J_toInt (nw_nat (by omega))]
      omega
    show (c_values σ r j).toInt.toNat ≤ 1000000 ∧ c_values σ r j = J (((c_values σ r j).toInt.toNat : Nat) : Int) ∧ m_value τ1 (8 * r + j) = J (((c_values σ r j).toInt.toNat : Nat) : Int)
    rw [e]
    exact ⟨v1, v2, v3⟩
  obtain ⟨V, hV2⟩ := hV'
  obtain ⟨S, hS⟩ : ∃ S : Nat, z = (S : Int) := ⟨z.toNat, by omega⟩
  have hV3 : ∀ j, j < K → V j ≤ S := fun j hj => by
    have a := sv_le (f := c_values σ r) K (fun j hj => ⟨V j, (hV2 j hj).1, (hV2 j hj).2.1⟩) j hj
    rw [← zs, (hV2 j hj).2.1, J_toInt (nw_nat (by have := (hV2 j hj).1; omega)), hS] at a
    omega
  rw [hS]
  unfold fX1_seats_L71
  by_cases c5 : v = 0
  · subst c5
    obtain ⟨R, F, F', L, L', r1, r2, ra, e1, e2⟩ := A0 σ τ1 (V := V) (S := S) (n := n) hr hK (by omega) (by omega) (by omega) (fun j hj => ⟨(hV2 j hj).1, hV3 j hj, (hV2 j hj).2.1, (hV2 j hj).2.2⟩) K 0 FU FU (n : Int) (c_seatsGiven σ) (m_seat τ1) (c_remainders σ) (m_left τ1) (by omega) (by unfold FU; omega) (by unfold FU; omega) (fun i hi => absurd hi (by omega)) (by omega) (by omega)
    have e1' : fX0_giveByRemainders (g2 σ (nI K) (c_seatsGiven σ) (c_remainders σ)) r (nI n) (J (S : Int)) = fX0_giveByRemainders_L76 (g2 σ (nI K) F L) r (I R) 0 := by
      unfold fX0_giveByRemainders fX0_giveByRemainders_L13
      rw [if_pos (show (1 : Int64) ≤ J (S : Int) by rw [J_1]; exact (J_le nw_1 (nw_nat (by omega))).mpr (by omega))]
      rw [I_nat] at e1
      exact e1
    rw [I_nat] at e2
    have e2' : lp (fun k t => fX1_seats_B71 t.2.2.2.2.2.2 k t.1 t.2.1 t.2.2.1 t.2.2.2.1 t.2.2.2.2.1 t.2.2.2.2.2.1) FU (nI r, nI n, nI 0, J (S : Int), nI n, (0 : Int32), h2 τ1 (nI K) (m_seat τ1) (m_left τ1)) = fX1_seats_L165 (h2 τ1 (nI K) F' L') (nI r) 0 (I R) := e2
    rw [if_pos (show nI 0 = (0 : Int32) from rfl), e1', e2']
    by_cases c6 : R ≤ 0
    · have le : I R ≤ (0 : Int32) := i_le.mpr (by rw [I_toInt (by omega) (by omega)]; exact c6)
      have b0 : fX0_giveByRemainders_L76 (g2 σ (nI K) F L) r (I R) 0 = some (g2 σ (nI K) F L) := by
        unfold fX0_giveByRemainders_L76
        show lp _ (69999 + 1) (I R, (0 : Int32), g2 σ (nI K) F L) = _
        rw [lp_succ]
        show fX0_giveByRemainders_B76 (g2 σ (nI K) F L) r _ (I R) 0 = _
        unfold fX0_giveByRemainders_B76
        rw [if_pos le]
      have b1 : fX1_seats_L165 (h2 τ1 (nI K) F' L') (nI r) 0 (I R) = fX1_seats_L377 (h2 τ1 (nI K) F' L') 0 0 := by
        unfold fX1_seats_L165
        show lp _ (69999 + 1) (nI r, (0 : Int32), I R, h2 τ1 (nI K) F' L') = _
        rw [lp_succ]
        show fX1_seats_B165 (h2 τ1 (nI K) F' L') _ (nI r) 0 (I R) = _
        unfold fX1_seats_B165
        rw [if_pos le]
      rw [b0, b1, Option.bind_some]
      exact seatE hM1 hE1 hK L L' (fun j hj => (ra j hj).1)
    · obtain ⟨R, rfl⟩ : ∃ n : Nat, R = (n : Int) := ⟨R.toNat, by omega⟩
      obtain ⟨F2, F2', L2, L2', k1, k2, k3⟩ := B0 σ τ1 (R := R) hr hK K0 (by omega) R 0 FU FU F F' L L' (by omega) (by unfold FU; omega) (by unfold FU; omega) ra
      have k2' : fX0_giveByRemainders_L76 (g2 σ (nI K) F L) r (I (R : Int)) 0 = some (g2 σ (nI K) F2 L2) := by rw [I_nat]; exact k2
      have k3' : fX1_seats_L165 (h2 τ1 (nI K) F' L') (nI r) 0 (I (R : Int)) = fX1_seats_L377 (h2 τ1 (nI K) F2' L2') 0 0 := by rw [I_nat]; exact k3
      rw [k2', k3', Option.bind_some]
      exact seatE hM1 hE1 hK L2 L2' k1
  · have w0 : ¬ nI v = (0 : Int32) := nI_ne0 (by omega) (by omega)
    obtain ⟨F, ra, e1⟩ := A1c σ (r := r) hK (nI n) (nI v) K 0 FU (c_seatsGiven σ) (c_remainders σ) (by omega) (by unfold FU; omega) (fun i hi => absurd hi (by omega))
    obtain ⟨F', L', ra', e2⟩ := A1m τ1 (r := r) hK w0 (nI r) (nI n) (J (S : Int)) (nI n) K 0 FU (m_seat τ1) (m_left τ1) (by omega) (by unfold FU; omega) (fun i hi => absurd hi (by omega))
    have e1' : fX0_giveOneByOne (g2 σ (nI K) (c_seatsGiven σ) (c_remainders σ)) r (nI n) (nI v) = fX0_giveOneByOne_L29 (g2 σ (nI K) F (c_remainders σ)) r (nI n) (nI v) 0 := e1
    have e2' : lp (fun k t => fX1_seats_B71 t.2.2.2.2.2.2 k t.1 t.2.1 t.2.2.1 t.2.2.2.1 t.2.2.2.2.1 t.2.2.2.2.2.1) FU (nI r, nI n, nI v, J (S : Int), nI n, (0 : Int32), h2 τ1 (nI K) (m_seat τ1) (m_left τ1)) = fX1_seats_L165 (h2 τ1 (nI K) F' L') (nI r) (nI v) (nI n) := e2
    obtain ⟨F2, F2', L2, L2', k1, k2, k3⟩ := B1 σ τ1 (V := V) (w := v) (n := n) hr hK K0 (by omega) (by omega) hV2 n 0 FU FU F F' (c_remainders σ) L' (fun _ => 0) (by omega) (by unfold FU; omega) (by unfold FU; omega) (fun j hj => ⟨ra j hj, ra' j hj, by omega⟩)
    have k2' : fX0_giveOneByOne_L29 (g2 σ (nI K) F (c_remainders σ)) r (nI n) (nI v) 0 = some (g2 σ (nI K) F2 L2) := k2
    have k3' : fX1_seats_L165 (h2 τ1 (nI K) F' L') (nI r) (nI v) (nI n) = fX1_seats_L377 (h2 τ1 (nI K) F2' L2') 0 0 := k3
    rw [if_neg w0, e1', e2', k2', k3', Option.bind_some]
    exact seatE hM1 hE1 hK L2 L2' k1
