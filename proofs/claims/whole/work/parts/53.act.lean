/-! PURE: act, over -/
theorem tdiv_pos {v : Int} {g : Nat} (h0 : 0 < v) (hg : 0 < g) (hle : g ≤ v.natAbs) : 0 < v.tdiv (g : Int) := by
  obtain ⟨w, rfl⟩ : ∃ w : Nat, v = (w : Int) := ⟨v.toNat, by omega⟩
  rw [tdivN]
  have : 0 < w / g := Nat.div_pos (by omega) hg
  omega
theorem times1_any (τ : MS) {a b : Int} (ha : nw a) (hb : nw b) : ∃ z τ', fX1_times τ (J a) (J b) = some (z, τ') ∧ (τ' = τ ∨ τ' = sm_isWide τ 1) := by
  by_cases h : nw (a * b)
  · exact ⟨_, _, times1_ok τ ha hb h, Or.inl rfl⟩
  · exact ⟨_, _, times1_w τ ha hb h, Or.inr rfl⟩
theorem times0_any {a b : Int} (ha : nw a) (hb : nw b) : ∃ z, fX0_times (J a) (J b) = some z := by
  by_cases h : nw (a * b)
  · exact ⟨_, times0_ok ha hb h⟩
  · exact ⟨_, times0_w ha hb h⟩
theorem kuw_1 {σ : CS} {y : Int64} : fX0_keepUnlessWide σ (-9223372036854775808 : Int64) y = some (-3, sc_grown σ (c_grown σ + 1)) := by
  unfold fX0_keepUnlessWide fX0_keepUnlessWide_L16
  rw [if_pos rfl]
  rfl
theorem kuw_2 {σ : CS} {x : Int64} : fX0_keepUnlessWide σ x (-9223372036854775808 : Int64) = some (-3, sc_grown σ (c_grown σ + 1)) := by
  unfold fX0_keepUnlessWide fX0_keepUnlessWide_L16
  by_cases h : x = (-9223372036854775808 : Int64)
  · rw [if_pos h]; rfl
  · rw [if_neg h, if_pos rfl]; rfl
theorem kuw_ok {σ : CS} {u v : Int} (hu : nw u) (hv : nw v) : fX0_keepUnlessWide σ (J u) (J v) = fX0_keep σ (J u) (J v) := by
  unfold fX0_keepUnlessWide
  rw [if_neg (J_ne_min hu), if_neg (J_ne_min hv)]
  cases fX0_keep σ (J u) (J v) <;> rfl
theorem grew1 (τ : MS) : fX1_grew τ = some (-3, sm_grown τ (m_grown τ + 1)) := rfl
theorem grownB {σ : CS} {τ : MS} {N : Nat} (hM : RM σ τ N) (hE : RE σ τ) : Rel (sc_grown σ (c_grown σ + 1)) (sm_grown (sm_isWide τ 1) (m_grown (sm_isWide τ 1) + 1)) := by
  refine ⟨⟨N, hM⟩, ?_, hE.2⟩
  show c_grown σ + 1 = m_grown τ + 1
  rw [hE.1]
theorem keepT {τ τ' : MS} {N : Nat} (h : m_numbers τ = nI N) (hN : N < 40) {u v : Int} (hu : nw u) (hv : nw v) (h0 : 0 < v) {r : Int32} (e : fX1_kept τ (J u) (J v) = some (r, τ')) : m_thrown τ' = m_thrown τ := by
  rw [kept1 h hN hu hv h0] at e
  rw [← (Prod.mk.inj (Option.some.inj e)).2]
  rfl
/-- the sum, both alike -/
theorem sumPB {σ : CS} {τ : MS} {N : Nat} (hM : RM σ τ N) (hE : RE σ τ) (hN : N < 40) (hw : m_isWide τ = 0) {a b c d : Int} (ha : nw a) (hb : nw b) (hc : nw c) (hd : nw d) (b0 : 0 < b) (d0 : 0 < d) : ∃ r σ' τ', fX0_keepSum σ (J a) (J b) (J c) (J d) = some (r, σ') ∧ fX1_summed τ (J a) (J b) (J c) (J d) = some (r, τ') ∧ Rel σ' τ' ∧ m_thrown τ' = m_thrown τ := by
  have hg : 0 < Nat.gcd b.natAbs d.natAbs := Nat.gcd_pos_iff.mpr (Or.inr (by omega))
  have gb : Nat.gcd b.natAbs d.natAbs ≤ b.natAbs := Nat.gcd_le_left _ (by omega)
  have gd : Nat.gcd b.natAbs d.natAbs ≤ d.natAbs := Nat.gcd_le_right _ (by omega)
  have hgn : nw ((Nat.gcd b.natAbs d.natAbs : Nat) : Int) := nw_natle hd gd
  unfold fX0_keepSum fX1_summed
  rw [gd_eq hb hd, gd1_eq hb hd, max1_gcd (Or.inr (by omega))]
  generalize Nat.gcd b.natAbs d.natAbs = g at hg gb gd hgn ⊢
  have n0 := J_ne0 hgn (show ((g : Nat) : Int) ≠ 0 by omega)
  simp only [Option.bind_some, if_neg n0, J_div hd hgn, J_div hb hgn]
  have pd := tdiv_pos d0 hg gd
  have nd : nw (d.tdiv g) := nw_tdiv _ hd
  have nb : nw (b.tdiv g) := nw_tdiv _ hb
  generalize d.tdiv (g : Int) = d' at pd nd ⊢
  generalize b.tdiv (g : Int) = b' at nb ⊢
  have flag : ¬ m_isWide (sm_isWide τ 1) = 0 := show ¬ (1 : Int32) = 0 by decide
  have fin : ∀ τ2 : MS, τ2 = sm_isWide τ 1 ∨ τ2 = sm_isWide (sm_isWide τ 1) 1 → τ2 = sm_isWide τ 1 := fun τ2 h => h.elim id id
  by_cases w1 : nw (a * d')
  · rw [times0_ok ha nd w1, times1_ok τ ha nd w1]
    simp only [Option.bind_some]
    by_cases w2 : nw (c * b')
    · rw [times0_ok hc nb w2, times1_ok τ hc nb w2]
      simp only [Option.bind_some]
      by_cases w3 : nw (a * d' + c * b')
      · rw [plus0_ok w1 w2 w3, plus1_ok τ w1 w2 w3]
        simp only [Option.bind_some]
        by_cases w4 : nw (b * d')
        · rw [times0_ok hb nd w4, times1_ok τ hb nd w4]
          simp only [Option.bind_some]
          rw [if_pos hw, kuw_ok w3 w4]
          have p4 : 0 < b * d' := Int.mul_pos b0 pd
          obtain ⟨σ', τ', e1, e2, e3⟩ := keepB hM hE hN w3 w4 p4
          rw [e1, e2]
          exact ⟨_, _, _, rfl, rfl, e3, keepT hM.2.2.1 hN w3 w4 p4 e2⟩
        · rw [times0_w hb nd w4, times1_w τ hb nd w4]
          simp only [Option.bind_some]
          rw [if_neg flag, kuw_2, grew1]
          exact ⟨_, _, _, rfl, rfl, grownB hM hE, rfl⟩
      · rw [plus0_w w1 w2 w3, plus1_w τ w1 w2 w3]
        simp only [Option.bind_some]
        obtain ⟨z0, e0⟩ := times0_any hb nd
        obtain ⟨z1, τ2, e1, e2⟩ := times1_any (sm_isWide τ 1) hb nd
        rw [e0, e1, fin τ2 e2]
        simp only [Option.bind_some]
        rw [if_neg flag, kuw_1, grew1]
        exact ⟨_, _, _, rfl, rfl, grownB hM hE, rfl⟩
    · rw [times0_w hc nb w2, times1_w τ hc nb w2]
      simp only [Option.bind_some]
      rw [plus0_m2]
      obtain ⟨z1, τ1, e1, -, e2⟩ := plus1_any (sm_isWide τ 1) flag (J (a * d')) 0
      rw [e1, fin τ1 e2]
      simp only [Option.bind_some]
      obtain ⟨z0, f0⟩ := times0_any hb nd
      obtain ⟨z1, τ2, f1, f2⟩ := times1_any (sm_isWide τ 1) hb nd
      rw [f0, f1, fin τ2 f2]
      simp only [Option.bind_some]
      rw [if_neg flag, kuw_1, grew1]
      exact ⟨_, _, _, rfl, rfl, grownB hM hE, rfl⟩
  · rw [times0_w ha nd w1, times1_w τ ha nd w1]
    simp only [Option.bind_some]
    obtain ⟨y0, g0⟩ := times0_any hc nb
    obtain ⟨y1, τ0, g1, g2⟩ := times1_any (sm_isWide τ 1) hc nb
    rw [g0, g1, fin τ0 g2]
    simp only [Option.bind_some]
    rw [plus0_m1]
    obtain ⟨z1, τ1, e1, -, e2⟩ := plus1_any (sm_isWide τ 1) flag 0 y1
    rw [e1, fin τ1 e2]
    simp only [Option.bind_some]
    obtain ⟨z0, f0⟩ := times0_any hb nd
    obtain ⟨z1, τ2, f1, f2⟩ := times1_any (sm_isWide τ 1) hb nd
    rw [f0, f1, fin τ2 f2]
    simp only [Option.bind_some]
    rw [if_neg flag, kuw_1, grew1]
    exact ⟨_, _, _, rfl, rfl, grownB hM hE, rfl⟩
/-- the product, both alike -/
theorem prodPB {σ : CS} {τ : MS} {N : Nat} (hM : RM σ τ N) (hE : RE σ τ) (hN : N < 40) (hw : m_isWide τ = 0) {a b c d : Int} (ha : nw a) (hb : nw b) (hc : nw c) (hd : nw d) (b0 : 0 < b) (d0 : 0 < d) : ∃ r σ' τ', fX0_keepProduct σ (J a) (J b) (J c) (J d) = some (r, σ') ∧ fX1_multiplied τ (J a) (J b) (J c) (J d) = some (r, τ') ∧ Rel σ' τ' ∧ m_thrown τ' = m_thrown τ := by
  have hg : 0 < Nat.gcd a.natAbs d.natAbs := Nat.gcd_pos_iff.mpr (Or.inr (by omega))
  have gd : Nat.gcd a.natAbs d.natAbs ≤ d.natAbs := Nat.gcd_le_right _ (by omega)
  have hgn : nw ((Nat.gcd a.natAbs d.natAbs : Nat) : Int) := nw_natle hd gd
  have hh : 0 < Nat.gcd c.natAbs b.natAbs := Nat.gcd_pos_iff.mpr (Or.inr (by omega))
  have hb' : Nat.gcd c.natAbs b.natAbs ≤ b.natAbs := Nat.gcd_le_right _ (by omega)
  have hhn : nw ((Nat.gcd c.natAbs b.natAbs : Nat) : Int) := nw_natle hb hb'
  unfold fX0_keepProduct fX1_multiplied
  rw [gd_eq ha hd, gd1_eq ha hd, max1_gcd (Or.inr (by omega)), gd_eq hc hb, gd1_eq hc hb, max1_gcd (a := c.natAbs) (Or.inr (by omega))]
  generalize Nat.gcd a.natAbs d.natAbs = g at hg gd hgn ⊢
  generalize Nat.gcd c.natAbs b.natAbs = h at hh hb' hhn ⊢
  have n0 := J_ne0 hgn (show ((g : Nat) : Int) ≠ 0 by omega)
  have n1 := J_ne0 hhn (show ((h : Nat) : Int) ≠ 0 by omega)
  simp only [Option.bind_some, if_neg n0, if_neg n1, J_div ha hgn, J_div hd hgn, J_div hb hhn, J_div hc hhn]
  have pd := tdiv_pos d0 hg gd
  have pb := tdiv_pos b0 hh hb'
  have na : nw (a.tdiv g) := nw_tdiv _ ha
  have nd : nw (d.tdiv g) := nw_tdiv _ hd
  have nb : nw (b.tdiv h) := nw_tdiv _ hb
  have nc : nw (c.tdiv h) := nw_tdiv _ hc
  generalize a.tdiv (g : Int) = a' at na ⊢
  generalize d.tdiv (g : Int) = d' at pd nd ⊢
  generalize b.tdiv (h : Int) = b' at pb nb ⊢
  generalize c.tdiv (h : Int) = c' at nc ⊢
  have flag : ¬ m_isWide (sm_isWide τ 1) = 0 := show ¬ (1 : Int32) = 0 by decide
  have fin : ∀ τ2 : MS, τ2 = sm_isWide τ 1 ∨ τ2 = sm_isWide (sm_isWide τ 1) 1 → τ2 = sm_isWide τ 1 := fun τ2 h => h.elim id id
  by_cases w1 : nw (a' * c')
  · rw [times0_ok na nc w1, times1_ok τ na nc w1]
    simp only [Option.bind_some]
    by_cases w4 : nw (b' * d')
    · rw [times0_ok nb nd w4, times1_ok τ nb nd w4]
      simp only [Option.bind_some]
      rw [if_pos hw, kuw_ok w1 w4]
      have p4 : 0 < b' * d' := Int.mul_pos pb pd
      obtain ⟨σ', τ', e1, e2, e3⟩ := keepB hM hE hN w1 w4 p4
      rw [e1, e2]
      exact ⟨_, _, _, rfl, rfl, e3, keepT hM.2.2.1 hN w1 w4 p4 e2⟩
    · rw [times0_w nb nd w4, times1_w τ nb nd w4]
      simp only [Option.bind_some]
      rw [if_neg flag, kuw_2, grew1]
      exact ⟨_, _, _, rfl, rfl, grownB hM hE, rfl⟩
  · rw [times0_w na nc w1, times1_w τ na nc w1]
    simp only [Option.bind_some]
    obtain ⟨z0, f0⟩ := times0_any nb nd
    obtain ⟨z1, τ2, f1, f2⟩ := times1_any (sm_isWide τ 1) nb nd
    rw [f0, f1, fin τ2 f2]
    simp only [Option.bind_some]
    rw [if_neg flag, kuw_1, grew1]
    exact ⟨_, _, _, rfl, rfl, grownB hM hE, rfl⟩
/-- the quotient of two numbers, both alike -/
theorem quotPB {σ : CS} {τ : MS} {N : Nat} (hM : RM σ τ N) (hE : RE σ τ) (hN : N < 40) (hw : m_isWide τ = 0) {i j : Nat} (hi : i < N) (hj : j < N) (h0 : ¬ c_above σ j = 0) : ∃ r σ' τ', fX0_keepQuotient σ (nI i) (nI j) = some (r, σ') ∧ fX1_divided τ (nI i) (nI j) = some (r, τ') ∧ Rel σ' τ' ∧ m_thrown τ' = m_thrown τ := by
  obtain ⟨a, b, a1, a2, a3, a4, ha, hb, b0, -⟩ := hM.2.2.2 i hi
  obtain ⟨c, d, c1, c2, c3, c4, hc, hd, d0, -⟩ := hM.2.2.2 j hj
  have hc0 : c ≠ 0 := fun e => h0 (by rw [c1, e]; rfl)
  unfold fX0_keepQuotient fX1_divided fX1_divided_L16 fX1_divided_L50 fX1_divided_L70
  simp only [nI_ix (show i < 40 by omega) (by omega), nI_ix (show i < 41 by omega) (by omega), nI_ix (show j < 40 by omega) (by omega), nI_ix (show j < 41 by omega) (by omega), nI_toNat (show i < 2147483648 by omega), nI_toNat (show j < 2147483648 by omega), if_true]
  rw [a1, a2, a3, a4, c1, c2, c3, c4, J_0]
  by_cases s : 0 < c
  · rw [if_pos ((J_le nw_0 hc).mpr (by omega)), if_pos ((J_le nw_0 hc).mpr (by omega))]
    obtain ⟨r, σ', τ', e1, e2, e3⟩ := prodPB hM hE hN hw ha hb hd hc b0 s
    rw [e1]
    refine ⟨r, σ', τ', rfl, ?_, e3⟩
    rw [e2]
    rfl
  · rw [if_neg (fun q => absurd ((J_le nw_0 hc).mp q) (by omega)), if_neg (fun q => absurd ((J_le nw_0 hc).mp q) (by omega)), J_neg, J_neg]
    obtain ⟨r, σ', τ', e1, e2, e3⟩ := prodPB hM hE hN hw ha hb (nw_neg hd) (nw_neg hc) b0 (by omega)
    rw [e1]
    refine ⟨r, σ', τ', rfl, ?_, e3⟩
    rw [if_neg one_ne, if_neg one_ne, e2]
    rfl
theorem pu_over {σ : CS} {τ : MS} (h : Rel σ τ) (x y : Int32) : ∃ r τ' b, fX0_over σ x y = some r ∧ fX1_over τ x y = some (b, τ') ∧ Rel r.2 τ' ∧ ((r.1 = none ∧ m_thrown τ' = 1) ∨ (r.1 = some b ∧ m_thrown τ' = 0)) := by
  have hR : Rel σ (sm_thrown τ 0) := h
  obtain ⟨⟨N, hM⟩, hE⟩ := id h
  have hE1 : RE σ (sm_thrown τ 0) := hE
  have hM1 : RM σ (sm_thrown τ 0) N := hM
  unfold fX0_over fX1_over
  simp only [bd]
  have ht : m_thrown (sm_thrown τ 0) = 0 := rfl
  generalize hτ : sm_thrown τ 0 = τ1 at hR hE1 hM1 ht ⊢
  obtain ⟨hN, h1, h2, h3⟩ := id hM1
  rcases pk_ix x (n := N) (by omega) with q | q | ⟨i, hi, rfl⟩
  · rw [num0_out h1 (Or.inl q), num1_out hN h2 (Or.inl q)]; exact ⟨_, _, _, rfl, rfl, hR, Or.inr ⟨rfl, ht⟩⟩
  · rw [num0_out h1 (Or.inr q), num1_out hN h2 (Or.inr q)]; exact ⟨_, _, _, rfl, rfl, hR, Or.inr ⟨rfl, ht⟩⟩
  rw [num0_in hN h1 hi, num1_in hN h2 hi]
  simp only [Option.bind_some]
  rw [if_neg one_ne, if_neg one_ne]
  rcases pk_ix y (n := N) (by omega) with q | q | ⟨j, hj, rfl⟩
  · rw [num0_out h1 (Or.inl q), num1_out hN h2 (Or.inl q)]; exact ⟨_, _, _, rfl, rfl, hR, Or.inr ⟨rfl, ht⟩⟩
  · rw [num0_out h1 (Or.inr q), num1_out hN h2 (Or.inr q)]; exact ⟨_, _, _, rfl, rfl, hR, Or.inr ⟨rfl, ht⟩⟩
  rw [num0_in hN h1 hj, num1_in hN h2 hj]
  simp only [Option.bind_some]
  rw [if_neg one_ne, if_neg one_ne]
  by_cases hf : N = 40
  · subst hf
    rw [full0' h1, if_pos (show m_numbers τ1 = (40 : Int32) from h2)]
    exact ⟨_, _, _, rfl, rfl, hR, Or.inr ⟨rfl, ht⟩⟩
  · have hN' : N < 40 := by omega
    rw [full0 h1 hN', if_neg (full1 h2 hN')]
    simp only [Option.bind_some, nI_ix (show j < 40 by omega) (by omega), nI_ix (show j < 41 by omega) (by omega), nI_toNat (show j < 2147483648 by omega), if_true]
    obtain ⟨c, d, c1, c2, -⟩ := h3 j hj
    by_cases hz : c_above σ j = 0
    · have hz2 : m_upper τ1 j = 0 := by rw [c2, ← c1]; exact hz
      rw [if_pos hz, if_pos hz2]
      exact ⟨_, _, _, rfl, rfl, hR, Or.inl ⟨rfl, rfl⟩⟩
    · have hz2 : ¬ m_upper τ1 j = 0 := by rw [c2, ← c1]; exact hz
      rw [if_neg hz, if_neg hz2]
      obtain ⟨r, σ', τ', e1, e2, e3, e4⟩ := quotPB (τ := sm_isWide τ1 0) hM1 hE1 hN' rfl hi hj hz
      rw [e1, e2]
      exact ⟨_, _, _, rfl, rfl, e3, Or.inr ⟨rfl, e4.trans ht⟩⟩
theorem pu_act {σ : CS} {τ : MS} (h : Rel σ τ) (op x y : Int32) : ∃ r σ' τ', fX0_act σ op x y = some (r, σ') ∧ fX1_act τ op x y = some (r, τ') ∧ Rel σ' τ' := by
  have hR : Rel σ (sm_thrown τ 0) := h
  obtain ⟨⟨N, hM⟩, hE⟩ := id h
  have hE1 : RE σ (sm_thrown τ 0) := hE
  have hM1 : RM σ (sm_thrown τ 0) N := hM
  unfold fX0_act fX1_act
  simp only [bd]
  generalize hτ : sm_thrown τ 0 = τ1 at hR hE1 hM1 ⊢
  obtain ⟨hN, h1, h2, h3⟩ := id hM1
  rw [J_0, J_3]
  rcases pk_ix op (n := 4) (by omega) with q | q | ⟨k, hk, rfl⟩
  · have q3 := i_lt.mp q
    rw [show (0 : Int32).toInt = 0 from rfl] at q3
    rw [if_pos q, isIn_f nw_0 nw_3 (Or.inl q3)]; exact ⟨_, _, _, rfl, rfl, hR⟩
  · have q3 := i_le.mp q
    rw [nI_toInt (by omega)] at q3
    rw [isIn_f nw_0 nw_3 (Or.inr (by omega)), if_pos (show (3 : Int32) < op by rw [i_lt]; show (3 : Int) < _; omega)]
    refine ⟨-1, σ, _, ?_, rfl, hR⟩
    split <;> rfl
  rw [if_neg (nI_pos (by omega)), if_neg (show ¬ (3 : Int32) < nI k from nI_nlt (a := 3) (by omega) (by omega)), isIn_t nw_0 nw_3 (by rw [nI_toInt (by omega)]; omega) (by rw [nI_toInt (by omega)]; omega)]
  simp only [Option.bind_some]
  rw [if_neg one_ne]
  rcases pk_ix x (n := N) (by omega) with q | q | ⟨i, hi, rfl⟩
  · rw [num0_out h1 (Or.inl q), num1_out hN h2 (Or.inl q)]; exact ⟨_, _, _, rfl, rfl, hR⟩
  · rw [num0_out h1 (Or.inr q), num1_out hN h2 (Or.inr q)]; exact ⟨_, _, _, rfl, rfl, hR⟩
  rw [num0_in hN h1 hi, num1_in hN h2 hi]
  simp only [Option.bind_some]
  rw [if_neg one_ne, if_neg one_ne]
  rcases pk_ix y (n := N) (by omega) with q | q | ⟨j, hj, rfl⟩
  · rw [num0_out h1 (Or.inl q), num1_out hN h2 (Or.inl q)]; exact ⟨_, _, _, rfl, rfl, hR⟩
  · rw [num0_out h1 (Or.inr q), num1_out hN h2 (Or.inr q)]; exact ⟨_, _, _, rfl, rfl, hR⟩
  rw [num0_in hN h1 hj, num1_in hN h2 hj]
  simp only [Option.bind_some]
  rw [if_neg one_ne, if_neg one_ne]
  by_cases hf : N = 40
  · subst hf
    rw [full0' h1, if_pos (show m_numbers τ1 = (40 : Int32) from h2)]
    exact ⟨_, _, _, rfl, rfl, hR⟩
  have hN' : N < 40 := by omega
  rw [full0 h1 hN', if_neg (full1 h2 hN')]
  unfold fX1_act_L66 fX1_act_L154
  simp only [bd, Option.bind_some, nI_ix (show i < 40 by omega) (by omega), nI_ix (show i < 41 by omega) (by omega), nI_ix (show j < 40 by omega) (by omega), nI_ix (show j < 41 by omega) (by omega), nI_toNat (show i < 2147483648 by omega), nI_toNat (show j < 2147483648 by omega), if_true]
  obtain ⟨a, b, a1, a2, a3, a4, ha, hb, b0, -⟩ := h3 i hi
  obtain ⟨c, d, c1, c2, c3, c4, hc, hd, d0, -⟩ := h3 j hj
  have hMw : RM σ (sm_isWide τ1 0) N := hM1
  have hEw : RE σ (sm_isWide τ1 0) := hE1
  have a2' : m_upper (sm_isWide τ1 0) i = J a := a2
  have a4' : m_lower (sm_isWide τ1 0) i = J b := a4
  have c2' : m_upper (sm_isWide τ1 0) j = J c := c2
  have c4' : m_lower (sm_isWide τ1 0) j = J d := c4
  rcases (show k = 0 ∨ k = 1 ∨ k = 2 ∨ k = 3 by omega) with rfl | rfl | rfl | rfl
  · rw [if_pos (show nI 0 = (0 : Int32) from rfl), if_neg (show ¬ nI 0 = (3 : Int32) by decide), if_neg (show ¬ nI 0 = (3 : Int32) by decide), if_neg (show ¬ nI 0 = (2 : Int32) by decide), if_pos (show nI 0 = (0 : Int32) from rfl), a1, a3, c1, c3, a2', a4', c2', c4']
    obtain ⟨r, σ', τ', e1, e2, e3, -⟩ := sumPB hMw hEw hN' rfl ha hb hc hd b0 d0
    rw [e1, e2]
    exact ⟨r, σ', τ', rfl, rfl, e3⟩
  · rw [if_neg (show ¬ nI 1 = (0 : Int32) by decide), if_pos (show nI 1 = (1 : Int32) from rfl), if_neg (show ¬ nI 1 = (3 : Int32) by decide), if_neg (show ¬ nI 1 = (3 : Int32) by decide), if_neg (show ¬ nI 1 = (2 : Int32) by decide), if_neg (show ¬ nI 1 = (0 : Int32) by decide), a1, a3, c1, c3, a2', a4', c2', c4', J_neg]
    obtain ⟨r, σ', τ', e1, e2, e3, -⟩ := sumPB hMw hEw hN' rfl ha hb (nw_neg hc) hd b0 d0
    rw [e1, e2]
    exact ⟨r, σ', τ', rfl, rfl, e3⟩
  · rw [if_neg (show ¬ nI 2 = (0 : Int32) by decide), if_neg (show ¬ nI 2 = (1 : Int32) by decide), if_pos (show nI 2 = (2 : Int32) from rfl), if_neg (show ¬ nI 2 = (3 : Int32) by decide), if_neg (show ¬ nI 2 = (3 : Int32) by decide), if_pos (show nI 2 = (2 : Int32) from rfl), a1, a3, c1, c3, a2', a4', c2', c4']
    obtain ⟨r, σ', τ', e1, e2, e3, -⟩ := prodPB hMw hEw hN' rfl ha hb hc hd b0 d0
    rw [e1, e2]
    exact ⟨r, σ', τ', rfl, rfl, e3⟩
  · rw [if_neg (show ¬ nI 3 = (0 : Int32) by decide), if_neg (show ¬ nI 3 = (1 : Int32) by decide), if_neg (show ¬ nI 3 = (2 : Int32) by decide), if_pos (show nI 3 = (3 : Int32) from rfl)]
    by_cases hz : c_above σ j = J 0
    · have hz2 : m_upper τ1 j = J 0 := by rw [c2, ← c1]; exact hz
      rw [if_pos hz, if_pos hz2]
      exact ⟨_, _, _, rfl, rfl, hR⟩
    · have hz2 : ¬ m_upper τ1 j = J 0 := by rw [c2, ← c1]; exact hz
      rw [if_neg hz, if_neg hz2, if_pos (show nI 3 = (3 : Int32) from rfl)]
      obtain ⟨r, σ', τ', e1, e2, e3, -⟩ := quotPB hMw hEw hN' rfl hi hj hz
      rw [e1, e2]
      exact ⟨r, σ', τ', rfl, rfl, e3⟩
