/-! PURE: near -/
def NI (u v M x y p0 q0 p1 q1 : Nat) : Prop := x + p0 * v = u * q0 ∧ y + u * q1 = p1 * v ∧ x * q1 + y * q0 = v ∧ 1 ≤ q0 ∧ q0 ≤ M ∧ 1 ≤ q1 ∧ q1 ≤ M ∧ M < v ∧ Nat.gcd u v = 1 ∧ v < 9223372036854775808
theorem cop_dvd {u v q : Nat} (h : Nat.gcd u v = 1) (h2 : v ∣ u * q) (q0 : 0 < q) (hq : q < v) : False := by
  have h3 : Nat.Coprime v u := by
    unfold Nat.Coprime
    rw [Nat.gcd_comm]
    exact h
  have := Nat.le_of_dvd q0 (h3.dvd_of_dvd_mul_left h2)
  omega
theorem NI_x {u v M x y p0 q0 p1 q1 : Nat} (h : NI u v M x y p0 q0 p1 q1) : 0 < x := by
  obtain ⟨h1, h2, h3, h4, h5, h6, h7, h8, h9, h10⟩ := h
  by_cases z : x = 0
  · exact (cop_dvd h9 ⟨p0, by rw [← h1, z, Nat.mul_comm]; omega⟩ h4 (by omega)).elim
  · omega
theorem NI_y {u v M x y p0 q0 p1 q1 : Nat} (h : NI u v M x y p0 q0 p1 q1) : 0 < y := by
  obtain ⟨h1, h2, h3, h4, h5, h6, h7, h8, h9, h10⟩ := h
  by_cases z : y = 0
  · exact (cop_dvd h9 ⟨p1, by rw [Nat.mul_comm v, ← h2, z]; omega⟩ h6 (by omega)).elim
  · omega
theorem NI_ne {u v M x y p0 q0 p1 q1 : Nat} (h : NI u v M x y p0 q0 p1 q1) (hq : q0 + q1 ≤ M) : x ≠ y := by
  obtain ⟨h1, h2, h3, h4, h5, h6, h7, h8, h9, h10⟩ := h
  intro z
  refine cop_dvd (q := q0 + q1) h9 ⟨p0 + p1, ?_⟩ (by omega) (by omega)
  rw [Nat.mul_add, Nat.mul_comm v, Nat.add_mul]
  omega
theorem NI_bd {u v M x y p0 q0 p1 q1 : Nat} (h : NI u v M x y p0 q0 p1 q1) : x < v ∧ y < v ∧ x * q1 < v ∧ y * q0 < v := by
  have hx := NI_x h
  have hy := NI_y h
  obtain ⟨h1, h2, h3, h4, h5, h6, h7, h8, h9, h10⟩ := h
  have a1 : x * 1 ≤ x * q1 := Nat.mul_le_mul_left _ h6
  have a2 : y * 1 ≤ y * q0 := Nat.mul_le_mul_left _ h4
  omega
theorem NI_lo {u v M x y p0 q0 p1 q1 k : Nat} (h : NI u v M x y p0 q0 p1 q1) (hk : k * y ≤ x) (hq : q0 + k * q1 ≤ M) : NI u v M (x - k * y) y (p0 + k * p1) (q0 + k * q1) p1 q1 := by
  obtain ⟨h1, h2, h3, h4, h5, h6, h7, h8, h9, h10⟩ := h
  refine ⟨?_, h2, ?_, by omega, hq, h6, h7, h8, h9, h10⟩
  · have e : k * (p1 * v) = k * y + k * (u * q1) := by rw [← h2, Nat.mul_add]
    rw [Nat.add_mul, Nat.mul_assoc, e, Nat.mul_add, Nat.mul_left_comm u]
    omega
  · rw [Nat.sub_mul, Nat.mul_add, Nat.mul_left_comm y, ← Nat.mul_assoc]
    have : k * y * q1 ≤ x * q1 := Nat.mul_le_mul_right _ hk
    rw [Nat.mul_assoc k] at *
    omega
theorem NI_hi {u v M x y p0 q0 p1 q1 k : Nat} (h : NI u v M x y p0 q0 p1 q1) (hk : k * x ≤ y) (hq : q1 + k * q0 ≤ M) : NI u v M x (y - k * x) p0 q0 (p1 + k * p0) (q1 + k * q0) := by
  obtain ⟨h1, h2, h3, h4, h5, h6, h7, h8, h9, h10⟩ := h
  refine ⟨h1, ?_, ?_, h4, h5, by omega, hq, h8, h9, h10⟩
  · have e : k * (u * q0) = k * x + k * (p0 * v) := by rw [← h1, Nat.mul_add]
    rw [Nat.add_mul, Nat.mul_assoc, Nat.mul_add, Nat.mul_left_comm u, e]
    omega
  · rw [Nat.sub_mul, Nat.mul_add, Nat.mul_left_comm x, ← Nat.mul_assoc]
    have : k * x * q0 ≤ y * q0 := Nat.mul_le_mul_right _ hk
    rw [Nat.mul_assoc k] at *
    omega
abbrev N0 (σ : CS) (m : Int32) (w : Int) (x y p0 q0 p1 q1 i : Nat) : Int32 × Int64 × Int64 × Int64 × Int64 × Int64 × Int64 × Int32 × CS := (m, J (w * q0 + p0), J (q0 : Int), J (x : Int), J (w * q1 + p1), J (q1 : Int), J (y : Int), nI i, σ)
abbrev N1 (τ : MS) (m : Int32) (w : Int) (x y p0 q0 p1 q1 : Nat) : Int32 × Int64 × Int64 × Int64 × Int64 × Int64 × Int64 × Int64 × MS := (m, J w, J (x : Int), J (y : Int), J (p0 : Int), J (q0 : Int), J (p1 : Int), J (q1 : Int), τ)
theorem J_addN (a b : Nat) : J (a : Int) + J (b : Int) = J ((a + b : Nat) : Int) := by rw [J_add]; rfl
theorem J_subN {a b : Nat} (h : b ≤ a) : J (a : Int) - J (b : Int) = J ((a - b : Nat) : Int) := by
  rw [J_sub]
  congr 1
  omega
theorem J_mulN (a b : Nat) : J (a : Int) * J (b : Int) = J ((a * b : Nat) : Int) := by rw [J_mul]; congr 1
theorem J_leN {a b : Nat} (ha : a < 9223372036854775808) (hb : b < 9223372036854775808) : J (a : Int) ≤ J (b : Int) ↔ a ≤ b := by
  rw [J_le (nw_nat ha) (nw_nat hb)]; omega
theorem J_ltN {a b : Nat} (ha : a < 9223372036854775808) (hb : b < 9223372036854775808) : J (a : Int) < J (b : Int) ↔ a < b := by
  rw [J_lt (nw_nat ha) (nw_nat hb)]; omega
theorem J_eqN {a b : Nat} (ha : a < 9223372036854775808) (hb : b < 9223372036854775808) : J (a : Int) = J (b : Int) ↔ a = b := by
  rw [J_eq (nw_nat ha) (nw_nat hb)]; omega
theorem J_mn {a b : Nat} (ha : a < 9223372036854775808) (hb : b < 9223372036854775808) : jmin (J (a : Int)) (J (b : Int)) = J ((min a b : Nat) : Int) := by
  unfold jmin
  by_cases h : a ≤ b
  · rw [if_neg (fun q => absurd ((J_ltN hb ha).mp q) (by omega)), Nat.min_eq_left h]
  · rw [if_pos ((J_ltN hb ha).mpr (by omega)), Nat.min_eq_right (by omega)]
theorem stepsOf_eq {g o r b : Nat} (hg : g < 9223372036854775808) (ho : o < 9223372036854775808) (hr : r < 9223372036854775808) (hb : b < 9223372036854775808) (o0 : 0 < o) (b0 : 0 < b) : fX0_stepsOf (J g) (J o) (J r) (J b) = some (J ((min (g / o) (r / b) : Nat) : Int)) := by
  unfold fX0_stepsOf
  have t1 : g / o ≤ g := Nat.div_le_self _ _
  have t2 : r / b ≤ r := Nat.div_le_self _ _
  rw [show (1 : Int64) = J ((1 : Nat) : Int) from J_1, if_neg (fun q => absurd ((J_ltN ho (by omega)).mp q) (by omega)), if_pos ((J_leN (by omega) hb).mpr b0), if_neg (J_ne0 (nw_nat ho) (by omega)), if_neg (J_ne0 (nw_nat hb) (by omega)), J_divN hg ho, J_divN hr hb, J_mn (by omega) (by omega)]
theorem mac (w : Int) (p q k p' q' : Nat) : J (w * (q : Int) + p) + J (k : Int) * J (w * (q' : Int) + p') = J (w * ((q + k * q' : Nat) : Int) + ((p + k * p' : Nat) : Int)) := by
  rw [J_mul, J_add]
  congr 1
  have e1 : ((q + k * q' : Nat) : Int) = (q : Int) + k * q' := by simp
  have e2 : ((p + k * p' : Nat) : Int) = (p : Int) + k * p' := by simp
  rw [e1, e2, Int.mul_add, Int.mul_add, Int.mul_left_comm w]
  omega
theorem n0_lo (σ : CS) (k : Int32 × Int64 × Int64 × Int64 × Int64 × Int64 × Int64 × Int32 × CS → Option (Int32 × CS)) {M : Nat} (hM : M ≤ 1000000) (w : Int) {u v x y p0 q0 p1 q1 i : Nat} (h : NI u v M x y p0 q0 p1 q1) (hi : i < 200) (hq : q0 + q1 ≤ M) (hxy : y < x) : fX0_keepNearest_B50 σ k (nI M) (J (w * q0 + p0)) (J q0) (J x) (J (w * q1 + p1)) (J q1) (J y) (nI i) = k (N0 σ (nI M) w (x - min (x / y) ((M - q0) / q1) * y) y (p0 + min (x / y) ((M - q0) / q1) * p1) (q0 + min (x / y) ((M - q0) / q1) * q1) p1 q1 (i + 1)) := by
  have hx := NI_x h
  have hy := NI_y h
  have hb := NI_bd h
  obtain ⟨h1, h2, h3, h4, h5, h6, h7, h8, h9, h10⟩ := id h
  have hk : min (x / y) ((M - q0) / q1) * y ≤ x := Nat.le_trans (Nat.mul_le_mul_right _ (Nat.min_le_left _ _)) (Nat.div_mul_le_self x y)
  unfold fX0_keepNearest_B50 fX0_keepNearest_L189
  rw [if_neg (show ¬ (200 : Int32) ≤ nI i from nI_ge (b := 200) hi (by omega)), nI_toL (by omega), J_addN, if_neg (fun q => absurd ((J_ltN (by omega) (by omega)).mp q) (by omega)), show (0 : Int64) = J ((0 : Nat) : Int) from J_0, if_neg (fun q => absurd ((J_leN (by omega) (by omega)).mp q) (by omega)), if_neg (fun q => absurd ((J_leN (by omega) (by omega)).mp q) (by omega)), if_neg (fun q => absurd ((J_leN (by omega) (by omega)).mp q) (by omega)), J_subN (by omega), stepsOf_eq (by omega) (by omega) (by omega) (by omega) hy h6, Option.bind_some, mac, J_mulN, J_mulN, J_addN, J_subN hk, nI_1]
theorem n0_hi (σ : CS) (k : Int32 × Int64 × Int64 × Int64 × Int64 × Int64 × Int64 × Int32 × CS → Option (Int32 × CS)) {M : Nat} (hM : M ≤ 1000000) (w : Int) {u v x y p0 q0 p1 q1 i : Nat} (h : NI u v M x y p0 q0 p1 q1) (hi : i < 200) (hq : q0 + q1 ≤ M) (hxy : x < y) : fX0_keepNearest_B50 σ k (nI M) (J (w * q0 + p0)) (J q0) (J x) (J (w * q1 + p1)) (J q1) (J y) (nI i) = k (N0 σ (nI M) w x (y - min (y / x) ((M - q1) / q0) * x) p0 q0 (p1 + min (y / x) ((M - q1) / q0) * p0) (q1 + min (y / x) ((M - q1) / q0) * q0) (i + 1)) := by
  have hx := NI_x h
  have hy := NI_y h
  have hb := NI_bd h
  obtain ⟨h1, h2, h3, h4, h5, h6, h7, h8, h9, h10⟩ := id h
  have hk : min (y / x) ((M - q1) / q0) * x ≤ y := Nat.le_trans (Nat.mul_le_mul_right _ (Nat.min_le_left _ _)) (Nat.div_mul_le_self y x)
  unfold fX0_keepNearest_B50 fX0_keepNearest_L189
  rw [if_neg (show ¬ (200 : Int32) ≤ nI i from nI_ge (b := 200) hi (by omega)), nI_toL (by omega), J_addN, if_neg (fun q => absurd ((J_ltN (by omega) (by omega)).mp q) (by omega)), show (0 : Int64) = J ((0 : Nat) : Int) from J_0, if_neg (fun q => absurd ((J_leN (by omega) (by omega)).mp q) (by omega)), if_neg (fun q => absurd ((J_leN (by omega) (by omega)).mp q) (by omega)), if_pos ((J_leN (by omega) (by omega)).mpr (by omega)), J_subN (by omega), stepsOf_eq (by omega) (by omega) (by omega) (by omega) hx h4, Option.bind_some, mac, J_mulN, J_mulN, J_addN, J_subN hk, nI_1]
theorem macN (p k p' : Nat) : J (p : Int) + J (k : Int) * J (p' : Int) = J ((p + k * p' : Nat) : Int) := by
  rw [J_mulN, J_addN]
theorem pick {α : Sort _} {a b : Nat} (f : Nat → α) : (if b ≤ a then f b else f a) = f (min a b) := by
  by_cases h : b ≤ a
  · rw [if_pos h, Nat.min_eq_right h]
  · rw [if_neg h, Nat.min_eq_left (by omega)]
theorem n1_lo (τ : MS) (k : Int32 × Int64 × Int64 × Int64 × Int64 × Int64 × Int64 × Int64 × MS → Option (Int32 × MS)) {M : Nat} (hM : M ≤ 1000000) (w : Int) {u v x y p0 q0 p1 q1 : Nat} (h : NI u v M x y p0 q0 p1 q1) (hq : q0 + q1 ≤ M) (hxy : y < x) : fX1_near_B124 τ k (nI M) (J w) (J x) (J y) (J p0) (J q0) (J p1) (J q1) = k (N1 τ (nI M) w (x - min (x / y) ((M - q0) / q1) * y) y (p0 + min (x / y) ((M - q0) / q1) * p1) (q0 + min (x / y) ((M - q0) / q1) * q1) p1 q1) := by
  have hx := NI_x h
  have hy := NI_y h
  have hb := NI_bd h
  obtain ⟨h1, h2, h3, h4, h5, h6, h7, h8, h9, h10⟩ := id h
  have hk : min (x / y) ((M - q0) / q1) * y ≤ x := Nat.le_trans (Nat.mul_le_mul_right _ (Nat.min_le_left _ _)) (Nat.div_mul_le_self x y)
  have t1 : x / y ≤ x := Nat.div_le_self _ _
  have t2 : (M - q0) / q1 ≤ M - q0 := Nat.div_le_self _ _
  unfold fX1_near_B124 fX1_near_L175
  rw [nI_toL (by omega), J_addN, if_neg (fun q => absurd ((J_ltN (by omega) (by omega)).mp q) (by omega)), if_neg (fun q => absurd ((J_ltN (by omega) (by omega)).mp q) (by omega)), if_neg (J_ne0 (nw_nat (by omega)) (by omega)), if_neg (J_ne0 (nw_nat (by omega)) (by omega)), J_subN (by omega), J_divN (by omega) (by omega), J_divN (by omega) (by omega)]
  by_cases z : (M - q0) / q1 ≤ x / y
  · rw [Nat.min_eq_right z] at hk ⊢
    rw [if_pos ((J_leN (by omega) (by omega)).mpr z), macN, macN, J_mulN, J_subN hk]
  · rw [Nat.min_eq_left (by omega)] at hk ⊢
    rw [if_neg (fun q => z ((J_leN (by omega) (by omega)).mp q)), macN, macN, J_mulN, J_subN hk]
theorem n1_hi (τ : MS) (k : Int32 × Int64 × Int64 × Int64 × Int64 × Int64 × Int64 × Int64 × MS → Option (Int32 × MS)) {M : Nat} (hM : M ≤ 1000000) (w : Int) {u v x y p0 q0 p1 q1 : Nat} (h : NI u v M x y p0 q0 p1 q1) (hq : q0 + q1 ≤ M) (hxy : x < y) : fX1_near_B124 τ k (nI M) (J w) (J x) (J y) (J p0) (J q0) (J p1) (J q1) = k (N1 τ (nI M) w x (y - min (y / x) ((M - q1) / q0) * x) p0 q0 (p1 + min (y / x) ((M - q1) / q0) * p0) (q1 + min (y / x) ((M - q1) / q0) * q0)) := by
  have hx := NI_x h
  have hy := NI_y h
  have hb := NI_bd h
  obtain ⟨h1, h2, h3, h4, h5, h6, h7, h8, h9, h10⟩ := id h
  have hk : min (y / x) ((M - q1) / q0) * x ≤ y := Nat.le_trans (Nat.mul_le_mul_right _ (Nat.min_le_left _ _)) (Nat.div_mul_le_self y x)
  have t1 : y / x ≤ y := Nat.div_le_self _ _
  have t2 : (M - q1) / q0 ≤ M - q1 := Nat.div_le_self _ _
  unfold fX1_near_B124 fX1_near_L242
  rw [nI_toL (by omega), J_addN, if_neg (fun q => absurd ((J_ltN (by omega) (by omega)).mp q) (by omega)), if_pos ((J_ltN (by omega) (by omega)).mpr hxy), if_neg (J_ne0 (nw_nat (by omega)) (by omega)), if_neg (J_ne0 (nw_nat (by omega)) (by omega)), J_subN (by omega), J_divN (by omega) (by omega), J_divN (by omega) (by omega)]
  by_cases z : (M - q1) / q0 ≤ y / x
  · rw [Nat.min_eq_right z] at hk ⊢
    rw [if_pos ((J_leN (by omega) (by omega)).mpr z), macN, macN, J_mulN, J_subN hk]
  · rw [Nat.min_eq_left (by omega)] at hk ⊢
    rw [if_neg (fun q => z ((J_leN (by omega) (by omega)).mp q)), macN, macN, J_mulN, J_subN hk]
/-! the end -/
theorem near_z {u v q e z : Int} (hv : 0 < v) (h : z * v = u * q + e) (h1 : 0 ≤ q) (h2 : q ≤ v - 1) (h3 : -(v - 1) ≤ e) (h4 : e ≤ v - 1) : -(u.natAbs : Int) ≤ z ∧ z ≤ u.natAbs := by
  have a1 : u * q ≤ (u.natAbs : Int) * (v - 1) := Int.le_trans (Int.mul_le_mul_of_nonneg_right (by omega) h1) (Int.mul_le_mul_of_nonneg_left h2 (by omega))
  have a2 : -((u.natAbs : Int) * (v - 1)) ≤ u * q := by
    have : (-u) * q ≤ (u.natAbs : Int) * (v - 1) := Int.le_trans (Int.mul_le_mul_of_nonneg_right (by omega) h1) (Int.mul_le_mul_of_nonneg_left h2 (by omega))
    rw [Int.neg_mul] at this
    omega
  rw [Int.mul_sub, Int.mul_one] at a1 a2
  have b1 : (u.natAbs : Int) * v + v = ((u.natAbs : Int) + 1) * v := by rw [Int.add_mul, Int.one_mul]
  refine ⟨?_, ?_⟩
  · by_cases c : -(u.natAbs : Int) ≤ z
    · exact c
    · have : ((u.natAbs : Int) + 1) * v ≤ (-z) * v := Int.mul_le_mul_of_nonneg_right (by omega) (by omega)
      rw [Int.neg_mul] at this
      omega
  · by_cases c : z ≤ (u.natAbs : Int)
    · exact c
    · have : ((u.natAbs : Int) + 1) * v ≤ z * v := Int.mul_le_mul_of_nonneg_right (by omega) (by omega)
      omega
theorem near_end (σ : CS) (τ : MS) (k0 : Int32 × Int64 × Int64 × Int64 × Int64 × Int64 × Int64 × Int32 × CS → Option (Int32 × CS)) (k1 : Int32 × Int64 × Int64 × Int64 × Int64 × Int64 × Int64 × Int64 × MS → Option (Int32 × MS)) {M : Nat} (hM : M ≤ 1000000) {w : Int} {u v x y p0 q0 p1 q1 : Nat} (hU : nw (w * v + u)) (h : NI u v M x y p0 q0 p1 q1) (hq : M < q0 + q1) (i : Int32) : ∃ z q : Int, nw z ∧ nw q ∧ 0 < q ∧ fX0_keepNearest_B50 σ k0 (nI M) (J (w * q0 + p0)) (J q0) (J x) (J (w * q1 + p1)) (J q1) (J y) i = (fX0_keep σ (J z) (J q)).bind (fun o => some (o.1, o.2)) ∧ ∃ f g, fX1_near_B124 τ k1 (nI M) (J w) (J x) (J y) (J p0) (J q0) (J p1) (J q1) = (fX1_kept (o2 τ f g) (J z) (J q)).bind (fun o => some (o.1, o.2)) := by
  have hx := NI_x h
  have hy := NI_y h
  have hb := NI_bd h
  obtain ⟨h1, h2, h3, h4, h5, h6, h7, h8, h9, h10⟩ := id h
  have h1' : (x : Int) + p0 * v = u * q0 := by exact_mod_cast h1
  have h2' : (y : Int) + u * q1 = p1 * v := by exact_mod_cast h2
  have z0 := near_z (u := w * v + u) (v := (v : Int)) (q := (q0 : Int)) (e := -(x : Int)) (z := w * q0 + p0) (by omega) (by
    rw [Int.add_mul, Int.add_mul, Int.mul_right_comm w]
    omega) (by omega) (by omega) (by omega) (by omega)
  have z1 := near_z (u := w * v + u) (v := (v : Int)) (q := (q1 : Int)) (e := (y : Int)) (z := w * q1 + p1) (by omega) (by
    rw [Int.add_mul, Int.add_mul, Int.mul_right_comm w]
    omega) (by omega) (by omega) (by omega) (by omega)
  have n0 : nw (w * q0 + p0) := nw_le hU (by omega)
  have n1 : nw (w * q1 + p1) := nw_le hU (by omega)
  have f0 : fX0_keepNearest_B50 σ k0 (nI M) (J (w * q0 + p0)) (J q0) (J x) (J (w * q1 + p1)) (J q1) (J y) i = fX0_keepNearest_L195 σ (J (w * q0 + p0)) (J q0) (J x) (J (w * q1 + p1)) (J q1) (J y) := by
    unfold fX0_keepNearest_B50
    rw [nI_toL (by omega), J_addN, if_pos (show J (M : Int) < J ((q0 + q1 : Nat) : Int) from (J_ltN (by omega) (by omega)).mpr hq)]
    split <;> rfl
  obtain ⟨f, g, e⟩ := cmp1 τ (nw_nat (show x < 9223372036854775808 by omega)) (nw_nat (show q1 < 9223372036854775808 by omega)) (nw_nat (show y < 9223372036854775808 by omega)) (nw_nat (show q0 < 9223372036854775808 by omega)) (by omega) (by omega) (by omega) (by omega)
  have f1 : fX1_near_B124 τ k1 (nI M) (J w) (J x) (J y) (J p0) (J q0) (J p1) (J q1) = if sgI ((x : Int) * q1 - y * q0) < 0 then fX1_near_L309 (o2 τ f g) (J w) (J p0) (J q0) (J p1) (J q1) else if sgI ((x : Int) * q1 - y * q0) = 0 then (if J (q1 : Int) < J (q0 : Int) then fX1_near_L313 (o2 τ f g) (J w) (J p0) (J q0) (J p1) (J q1) else fX1_near_L309 (o2 τ f g) (J w) (J p0) (J q0) (J p1) (J q1)) else fX1_near_L313 (o2 τ f g) (J w) (J p0) (J q0) (J p1) (J q1) := by
    unfold fX1_near_B124
    rw [nI_toL (by omega), J_addN, if_pos (show J (M : Int) < J ((q0 + q1 : Nat) : Int) from (J_ltN (by omega) (by omega)).mpr hq), e, Option.bind_some]
  have lo0 : fX0_keepNearest_L233 σ (J (w * q0 + p0)) (J q0) (J (w * q1 + p1)) (J q1) = (fX0_keep σ (J (w * q0 + p0)) (J q0)).bind (fun o => some (o.1, o.2)) := by
    unfold fX0_keepNearest_L233 fX0_keepNearest_L238
    rw [if_neg one_ne]
  have hi0 : fX0_keepNearest_L237 σ (J (w * q0 + p0)) (J q0) (J (w * q1 + p1)) (J q1) = (fX0_keep σ (J (w * q1 + p1)) (J q1)).bind (fun o => some (o.1, o.2)) := by
    unfold fX0_keepNearest_L237 fX0_keepNearest_L238
    rw [if_pos rfl]
  have lo1 : fX1_near_L309 (o2 τ f g) (J w) (J p0) (J q0) (J p1) (J q1) = (fX1_kept (o2 τ f g) (J (w * q0 + p0)) (J q0)).bind (fun o => some (o.1, o.2)) := by
    unfold fX1_near_L309 fX1_near_L314
    rw [if_neg one_ne, J_mul, J_add]
  have hi1 : fX1_near_L313 (o2 τ f g) (J w) (J p0) (J q0) (J p1) (J q1) = (fX1_kept (o2 τ f g) (J (w * q1 + p1)) (J q1)).bind (fun o => some (o.1, o.2)) := by
    unfold fX1_near_L313 fX1_near_L314
    rw [if_pos rfl, J_mul, J_add]
  have m1 : ((x * q1 : Nat) : Int) = (x : Int) * q1 := by simp
  have m2 : ((y * q0 : Nat) : Int) = (y : Int) * q0 := by simp
  rw [f0, f1, lo1, hi1]
  unfold fX0_keepNearest_L195
  rw [lo0, hi0, J_mulN, J_mulN]
  unfold sgI
  rcases Nat.lt_trichotomy (x * q1) (y * q0) with c | c | c
  · refine ⟨w * q0 + p0, q0, n0, nw_nat (by omega), by omega, ?_, f, g, ?_⟩
    · rw [if_pos ((J_ltN (by omega) (by omega)).mpr c)]
    · rw [if_pos (show (x : Int) * q1 - y * q0 < 0 by omega), if_pos (by decide)]
  · rw [if_neg (show ¬ (x : Int) * q1 - y * q0 < 0 by omega), if_pos (show (x : Int) * q1 - y * q0 = 0 by omega), if_neg (show ¬ (0 : Int32) < 0 by decide), if_pos rfl, if_neg (fun q => absurd ((J_ltN (by omega) (by omega)).mp q) (by omega)), if_pos (by rw [c])]
    by_cases d : q1 < q0
    · refine ⟨w * q1 + p1, q1, n1, nw_nat (by omega), by omega, ?_, f, g, ?_⟩
      · rw [if_pos ((J_ltN (by omega) (by omega)).mpr d)]
      · rw [if_pos ((J_ltN (by omega) (by omega)).mpr d)]
    · refine ⟨w * q0 + p0, q0, n0, nw_nat (by omega), by omega, ?_, f, g, ?_⟩
      · rw [if_neg (fun q => d ((J_ltN (by omega) (by omega)).mp q))]
      · rw [if_neg (fun q => d ((J_ltN (by omega) (by omega)).mp q))]
  · refine ⟨w * q1 + p1, q1, n1, nw_nat (by omega), by omega, ?_, f, g, ?_⟩
    · rw [if_neg (fun q => absurd ((J_ltN (by omega) (by omega)).mp q) (by omega)), if_neg (fun q => absurd ((J_eqN (by omega) (by omega)).mp q) (by omega))]
    · rw [if_neg (show ¬ (x : Int) * q1 - y * q0 < 0 by omega), if_neg (show ¬ (x : Int) * q1 - y * q0 = 0 by omega), if_neg (by decide), if_neg (by decide)]
theorem near_q {M q0 q1 t : Nat} (h : q0 ≤ M) (h1 : 0 < q1) : q0 + min t ((M - q0) / q1) * q1 ≤ M ∧ (t ≤ (M - q0) / q1 ∨ M < q0 + min t ((M - q0) / q1) * q1 + q1) := by
  have a : (M - q0) / q1 * q1 ≤ M - q0 := Nat.div_mul_le_self _ _
  have b : min t ((M - q0) / q1) * q1 ≤ (M - q0) / q1 * q1 := Nat.mul_le_mul_right _ (Nat.min_le_right _ _)
  refine ⟨by omega, ?_⟩
  by_cases c : t ≤ (M - q0) / q1
  · exact Or.inl c
  · right
    rw [Nat.min_eq_right (by omega)]
    have := Nat.lt_div_mul_add (a := M - q0) h1
    omega
theorem near_loop (σ : CS) (τ : MS) {M : Nat} (hM : M ≤ 1000000) {w : Int} {u v : Nat} (hU : nw (w * v + u)) : ∀ (k x y p0 q0 p1 q1 i f0 f1 : Nat), NI u v M x y p0 q0 p1 q1 → (x * y < 2 ^ k ∨ M < q0 + q1) → i + k ≤ 199 → k < f0 → k < f1 → ∃ z q : Int, nw z ∧ nw q ∧ 0 < q ∧ lp (fun k t => fX0_keepNearest_B50 t.2.2.2.2.2.2.2.2   k t.1 t.2.1 t.2.2.1 t.2.2.2.1 t.2.2.2.2.1 t.2.2.2.2.2.1 t.2.2.2.2.2.2.1 t.2.2.2.2.2.2.2.1) f0 (N0 σ (nI M) w x y p0 q0 p1 q1 i) = (fX0_keep σ (J z) (J q)).bind (fun o => some (o.1, o.2)) ∧ ∃ f g, lp (fun k t => fX1_near_B124 t.2.2.2.2.2.2.2.2   k t.1 t.2.1 t.2.2.1 t.2.2.2.1 t.2.2.2.2.1 t.2.2.2.2.2.1 t.2.2.2.2.2.2.1 t.2.2.2.2.2.2.2.1) f1 (N1 τ (nI M) w x y p0 q0 p1 q1) = (fX1_kept (o2 τ f g) (J z) (J q)).bind (fun o => some (o.1, o.2)) := by
  intro k
  induction k with
  | zero =>
    intro x y p0 q0 p1 q1 i f0 f1 h hm hi hf0 hf1
    have hx := NI_x h
    have hy := NI_y h
    obtain ⟨f0, rfl⟩ : ∃ g, f0 = g + 1 := ⟨f0 - 1, by omega⟩
    obtain ⟨f1, rfl⟩ : ∃ g, f1 = g + 1 := ⟨f1 - 1, by omega⟩
    rcases hm with m | m
    · have := Nat.mul_pos hx hy
      omega
    · rw [lp_succ, lp_succ]
      exact near_end σ τ _ _ hM hU h m (nI i)
  | succ k ih =>
    intro x y p0 q0 p1 q1 i f0 f1 h hm hi hf0 hf1
    have hx := NI_x h
    have hy := NI_y h
    obtain ⟨h1, h2, h3, h4, h5, h6, h7, h8, h9, h10⟩ := id h
    obtain ⟨f0, rfl⟩ : ∃ g, f0 = g + 1 := ⟨f0 - 1, by omega⟩
    obtain ⟨f1, rfl⟩ : ∃ g, f1 = g + 1 := ⟨f1 - 1, by omega⟩
    by_cases hq : M < q0 + q1
    · rw [lp_succ, lp_succ]
      exact near_end σ τ _ _ hM hU h hq (nI i)
    · have m : x * y < 2 ^ (k + 1) := hm.resolve_right hq
      have hne := NI_ne h (by omega)
      by_cases hxy : y < x
      · obtain ⟨a1, a2⟩ := near_q (t := x / y) h5 h6
        have hk : min (x / y) ((M - q0) / q1) * y ≤ x := Nat.le_trans (Nat.mul_le_mul_right _ (Nat.min_le_left _ _)) (Nat.div_mul_le_self x y)
        obtain ⟨z, q, e1, e2, e3, e4, f, g, e5⟩ := ih (x - min (x / y) ((M - q0) / q1) * y) y (p0 + min (x / y) ((M - q0) / q1) * p1) (q0 + min (x / y) ((M - q0) / q1) * q1) p1 q1 (i + 1) f0 f1 (NI_lo h hk a1) (by
          rcases a2 with a | a
          · left
            rw [Nat.min_eq_left a]
            obtain ⟨j, j1, j2⟩ := gcd_meas hy (Nat.le_of_lt hxy) m
            have j3 : j = k := by omega
            subst j3
            have e : x - x / y * y = x % y := by
              have := Nat.div_add_mod x y
              rw [Nat.mul_comm] at this
              omega
            rw [e, Nat.mul_comm]
            exact j2
          · exact Or.inr a) (by omega) (by omega) (by omega)
        refine ⟨z, q, e1, e2, e3, ?_, f, g, ?_⟩
        · rw [lp_succ]
          exact (n0_lo σ _ hM w h (by omega) (by omega) hxy).trans e4
        · rw [lp_succ]
          exact (n1_lo τ _ hM w h (by omega) hxy).trans e5
      · have hxy' : x < y := by omega
        obtain ⟨a1, a2⟩ := near_q (t := y / x) h7 h4
        have hk : min (y / x) ((M - q1) / q0) * x ≤ y := Nat.le_trans (Nat.mul_le_mul_right _ (Nat.min_le_left _ _)) (Nat.div_mul_le_self y x)
        obtain ⟨z, q, e1, e2, e3, e4, f, g, e5⟩ := ih x (y - min (y / x) ((M - q1) / q0) * x) p0 q0 (p1 + min (y / x) ((M - q1) / q0) * p0) (q1 + min (y / x) ((M - q1) / q0) * q0) (i + 1) f0 f1 (NI_hi h hk a1) (by
          rcases a2 with a | a
          · left
            rw [Nat.min_eq_left a]
            rw [Nat.mul_comm] at m
            obtain ⟨j, j1, j2⟩ := gcd_meas hx (Nat.le_of_lt hxy') m
            have j3 : j = k := by omega
            subst j3
            have e : y - y / x * x = y % x := by
              have := Nat.div_add_mod y x
              rw [Nat.mul_comm] at this
              omega
            rw [e]
            exact j2
          · right
            omega) (by omega) (by omega) (by omega)
        refine ⟨z, q, e1, e2, e3, ?_, f, g, ?_⟩
        · rw [lp_succ]
          exact (n0_hi σ _ hM w h (by omega) (by omega) hxy').trans e4
        · rw [lp_succ]
          exact (n1_hi τ _ hM w h (by omega) hxy').trans e5
theorem pu_near {σ : CS} {τ : MS} (h : Rel σ τ) (x y : Int32) : ∃ r σ' τ', fX0_near σ x y = some (r, σ') ∧ fX1_near τ x y = some (r, τ') ∧ Rel σ' τ' := by
  have hR : Rel σ (sm_thrown τ 0) := h
  unfold fX0_near fX1_near
  simp only [bd]
  generalize hτ : sm_thrown τ 0 = τ1 at hR ⊢
  obtain ⟨⟨N, hM1⟩, hE1⟩ := id hR
  obtain ⟨hN, h1, h2, h3⟩ := id hM1
  rcases pk_ix x (n := N) (by omega) with q | q | ⟨i, hi, rfl⟩
  · rw [num0_out h1 (Or.inl q), num1_out hN h2 (Or.inl q)]; exact ⟨_, _, _, rfl, rfl, hR⟩
  · rw [num0_out h1 (Or.inr q), num1_out hN h2 (Or.inr q)]; exact ⟨_, _, _, rfl, rfl, hR⟩
  rw [num0_in hN h1 hi, num1_in hN h2 hi]
  simp only [Option.bind_some]
  rw [if_neg one_ne, if_neg one_ne]
  obtain ⟨U, V, a1, a2, a3, a4, hU, hV, V0, hg⟩ := h3 i hi
  have xi : ix (nI i) 40 = true := nI_ix (by omega) (by omega)
  have xj : ix (nI i) 41 = true := nI_ix (by omega) (by omega)
  have w6 : nw 1000000 := by unfold nw; omega
  rw [show (1000000 : Int64) = J 1000000 by decide]
  by_cases c1 : y.toInt < 1
  · rw [if_pos (show y < (1 : Int32) from i_lt.mpr c1), J_1, isIn_f nw_1 w6 (Or.inl c1)]
    exact ⟨_, _, _, rfl, rfl, hR⟩
  · rw [if_neg (show ¬ y < (1 : Int32) from fun q => c1 (i_lt.mp q))]
    by_cases c2 : y.toInt ≤ 1000000
    · rw [if_pos (show y ≤ (1000000 : Int32) from i_le.mpr c2), J_1, isIn_t nw_1 w6 (by omega) c2]
      simp only [Option.bind_some]
      rw [if_neg one_ne]
      obtain ⟨M, hy, hM⟩ : ∃ M : Nat, y = nI M ∧ y.toInt = M := ⟨y.toInt.toNat, by
        apply Int32.toInt_inj.mp
        rw [nI_toInt (by omega)]
        omega, by omega⟩
      rw [hM] at c1 c2
      subst hy
      simp only [if_pos xi, if_pos xj, nI_toNat (show i < 2147483648 by omega), a1, a2, a3, a4, nI_toL (show M < 2147483648 by omega)]
      by_cases c3 : (M : Int) < V
      · simp only [if_pos ((J_lt (nw_nat (show M < 9223372036854775808 by omega)) hV).mpr c3)]
        rw [floor_eq hU hV V0]
        simp only [Option.bind_some]
        unfold fX0_keepNearest fX0_keepNearest_L15 fX1_near_L124 fX0_keepNearest_L50
        rw [if_neg (show ¬ J V ≤ (0 : Int64) from fun q => absurd ((J_le hV nw_0).mp q) (by omega)), floorDiv_eq hU hV V0]
        simp only [Option.bind_some]
        have r0 := Int.emod_nonneg U (show V ≠ 0 by omega)
        have r1 := Int.emod_lt_of_pos U V0
        have r2 : J U - J (U / V) * J V = J (U % V) := by rw [J_mul, J_sub, Int.emod_def, Int.mul_comm]
        have r3 := Int.mul_ediv_add_emod U V
        obtain ⟨v, rfl⟩ : ∃ n : Nat, V = (n : Int) := ⟨V.toNat, by omega⟩
        obtain ⟨u, hu⟩ : ∃ n : Nat, U % (v : Int) = (n : Int) := ⟨(U % (v : Int)).toNat, by omega⟩
        rw [hu] at r0 r1 r2 r3
        have r4 : J (v : Int) - J (u : Int) = J ((v - u : Nat) : Int) := J_subN (by omega)
        have r5 : J (U / (v : Int)) + 1 = J (U / (v : Int) * ((1 : Nat) : Int) + ((1 : Nat) : Int)) := by
          rw [J_1, J_add]
          congr 1
          omega
        rw [r2, r4, r5]
        have gu : Nat.gcd u v = 1 := by
          have e1 : Int.gcd U v = 1 := hg
          rw [← r3, Int.add_comm, Int.gcd_add_mul_left_left] at e1
          exact e1
        have NI0 : NI u v M u (v - u) 0 1 1 1 := ⟨by omega, by omega, by omega, by omega, by omega, by omega, by omega, by omega, gu, by unfold nw at hV; omega⟩
        obtain ⟨z, q, e1, e2, e3, e4, f, g, e5⟩ := near_loop σ τ1 (M := M) (by omega) (w := U / (v : Int)) (u := u) (v := v) (by rw [Int.mul_comm, r3]; exact hU) 126 u (v - u) 0 1 1 1 0 FU FU NI0 (Or.inl (mul63 (by unfold nw at hV; omega) (by unfold nw at hV; omega))) (by omega) (by unfold FU; omega) (by unfold FU; omega)
        have e4' := e4
        have e5' := e5
        have s1 : U / (v : Int) * ((1 : Nat) : Int) + ((0 : Nat) : Int) = U / (v : Int) := by omega
        unfold N0 at e4'
        rw [s1] at e4'
        have k0 : lp (fun k t => fX0_keepNearest_B50 t.2.2.2.2.2.2.2.2   k t.1 t.2.1 t.2.2.1 t.2.2.2.1 t.2.2.2.2.1 t.2.2.2.2.2.1 t.2.2.2.2.2.2.1 t.2.2.2.2.2.2.2.1) FU (nI M, J (U / (v : Int)), (1 : Int64), J (u : Int), J (U / (v : Int) * ((1 : Nat) : Int) + ((1 : Nat) : Int)), (1 : Int64), J ((v - u : Nat) : Int), (0 : Int32), σ) = _ := e4'
        have k1 : lp (fun k t => fX1_near_B124 t.2.2.2.2.2.2.2.2   k t.1 t.2.1 t.2.2.1 t.2.2.2.1 t.2.2.2.2.1 t.2.2.2.2.2.1 t.2.2.2.2.2.2.1 t.2.2.2.2.2.2.2.1) FU (nI M, J (U / (v : Int)), J (u : Int), J ((v - u : Nat) : Int), (0 : Int64), J 1, J 1, J 1, τ1) = _ := e5'
        rw [k0, k1]
        by_cases hf : N = 40
        · subst hf
          rw [keep0_full h1, if_pos (show m_numbers τ1 = (40 : Int32) from h2)]
          exact ⟨_, _, _, rfl, rfl, hR⟩
        · have hN' : N < 40 := by omega
          rw [if_neg (full1 h2 hN')]
          obtain ⟨σ', τ', k1, k2, k3⟩ := keepB (RM_o2 hM1 f g) (RE_o2 hE1 f g) hN' e1 e2 e3
          rw [k1, k2]
          exact ⟨_, _, _, rfl, rfl, k3⟩
      · simp only [if_neg (fun q => c3 ((J_lt (nw_nat (show M < 9223372036854775808 by omega)) hV).mp q))]
        by_cases hf : N = 40
        · subst hf
          rw [keep0_full h1, if_pos (show m_numbers τ1 = (40 : Int32) from h2)]
          exact ⟨_, _, _, rfl, rfl, hR⟩
        · have hN' : N < 40 := by omega
          rw [if_neg (full1 h2 hN')]
          obtain ⟨σ', τ', k1, k2, k3⟩ := keepB hM1 hE1 hN' hU hV V0
          rw [k1, k2]
          exact ⟨_, _, _, rfl, rfl, k3⟩
    · rw [if_neg (show ¬ y ≤ (1000000 : Int32) from fun q => c2 (i_le.mp q)), J_1, isIn_f nw_1 w6 (Or.inr (by omega))]
      exact ⟨_, _, _, rfl, rfl, hR⟩
