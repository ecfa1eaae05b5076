/-! PURE: compared of the model, by limbs of 21 bits -/
theorem J_bv {n : Nat} (h : n < 9223372036854775808) : (J (n : Int)).toBitVec.toNat = n := by
  have h1 : (J (n : Int)).toBitVec = BitVec.ofInt 64 (n : Int) := rfl
  rw [h1, BitVec.toNat_ofInt]
  omega
theorem and_J {n : Nat} (h : n < 9223372036854775808) : J (n : Int) &&& (2097151 : Int64) = J ((n % 2097152 : Nat) : Int) := by
  apply Int64.toBitVec.inj
  apply BitVec.eq_of_toNat_eq
  rw [J_bv (by omega), show (J (n : Int) &&& (2097151 : Int64)).toBitVec = (J (n : Int)).toBitVec &&& (2097151 : Int64).toBitVec from rfl, BitVec.toNat_and, J_bv h, show (2097151 : Int64).toBitVec.toNat = 2 ^ 21 - 1 by decide, Nat.and_two_pow_sub_one_eq_mod]
theorem shr_J {n : Nat} (h : n < 9223372036854775808) (s : Int64) (k : Nat) (hs : (s.toBitVec.smod 64).toNat = k) : J (n : Int) >>> s = J ((n / 2 ^ k : Nat) : Int) := by
  rw [← Int64.toInt_inj]
  have e1 : (J (n : Int) >>> s).toInt = ((J (n : Int)).toBitVec.sshiftRight' (s.toBitVec.smod 64)).toInt := rfl
  have e3 : n / 2 ^ k ≤ n := Nat.div_le_self _ _
  rw [e1, BitVec.toInt_sshiftRight', hs, J_toInt (nw_nat (by omega)), show (J (n : Int)).toBitVec.toInt = (J (n : Int)).toInt from rfl, J_toInt (nw_nat h), Int.shiftRight_eq_div_pow]
  rfl
def limb (a i : Nat) : Nat := a / 2 ^ (21 * i) % 2097152
theorem limb_lt (a i : Nat) : limb a i < 2097152 := Nat.mod_lt _ (by omega)
theorem limb_J {a i : Nat} (h : a < 9223372036854775808) (hi : i < 3) : (J (a : Int) >>> (((21 : Int32) * nI i).toInt64 &&& 63)) &&& (2097151 : Int64) = J ((limb a i : Nat) : Int) := by
  have e3 : a / 2 ^ (21 * i) ≤ a := Nat.div_le_self _ _
  rw [shr_J h _ (21 * i) (by rcases (show i = 0 ∨ i = 1 ∨ i = 2 by omega) with rfl | rfl | rfl <;> decide), and_J (by omega)]
  rfl
theorem limb_val {a : Nat} (h : a < 9223372036854775808) : (limb a 0 : Int) + limb a 1 * 2097152 + limb a 2 * 4398046511104 = a := by
  unfold limb
  omega
def o2 (τ : MS) (f g : Nat → Int64) : MS := sm_two (sm_one τ f) g
theorem o2_1 (τ : MS) (f g : Nat → Int64) : m_one (o2 τ f g) = f := Eq.trans rfl rfl
theorem o2_2 (τ : MS) (f g : Nat → Int64) : m_two (o2 τ f g) = g := Eq.trans rfl rfl
theorem o2_s1 (τ : MS) (f g f' : Nat → Int64) : sm_one (o2 τ f g) f' = o2 τ f' g := by
  obtain ⟨a1, a2, a3, a4, a5, a6, a7, a8, a9, a10, a11, a12, a13, a14, a15, a16, a17⟩ := τ
  exact Eq.trans (b := ((a1, a2, a3, a4, a5, a6, a7, a8, a9, a10, a11, a12, a13, a14, a15, f', g) : MS)) rfl rfl
theorem o2_s2 (τ : MS) (f g g' : Nat → Int64) : sm_two (o2 τ f g) g' = o2 τ f g' := by
  obtain ⟨a1, a2, a3, a4, a5, a6, a7, a8, a9, a10, a11, a12, a13, a14, a15, a16, a17⟩ := τ
  exact Eq.trans (b := ((a1, a2, a3, a4, a5, a6, a7, a8, a9, a10, a11, a12, a13, a14, a15, f, g') : MS)) rfl rfl
theorem o2_b1 {β : Type} (τ : MS) (f g f' : Nat → Int64) (k : MS → Option β) : bd (sm_one (o2 τ f g) f') k = k (o2 τ f' g) := by unfold bd; rw [o2_s1]
theorem o2_b2 {β : Type} (τ : MS) (f g g' : Nat → Int64) (k : MS → Option β) : bd (sm_two (o2 τ f g) g') k = k (o2 τ f g') := by unfold bd; rw [o2_s2]
theorem o2_i (τ : MS) : o2 τ (m_one τ) (m_two τ) = τ := by
  obtain ⟨a1, a2, a3, a4, a5, a6, a7, a8, a9, a10, a11, a12, a13, a14, a15, a16, a17⟩ := τ
  exact Eq.trans (b := ((a1, a2, a3, a4, a5, a6, a7, a8, a9, a10, a11, a12, a13, a14, a15, a16, a17) : MS)) rfl rfl
def Inv (f : Nat → Int64) (P : Nat → Int) : Prop := ∀ m, m < 7 → f m = J (P m)
def sB (P : Nat → Int) : Nat → Int
  | 0 => 0
  | n + 1 => sB P n + P n * 2097152 ^ n
def ad (P : Nat → Int) (k : Nat) (x : Int) : Nat → Int := fun m => if m = k then P m + x else P m
theorem sB_congr {P R : Nat → Int} {n : Nat} (h : ∀ m, m < n → P m = R m) : sB P n = sB R n := by
  induction n with
  | zero => rfl
  | succ n ih =>
    show sB P n + P n * _ = sB R n + R n * _
    rw [ih (fun m hm => h m (by omega)), h n (by omega)]
theorem sB_ad {P : Nat → Int} {k n : Nat} (h : k < n) (x : Int) : sB (ad P k x) n = sB P n + x * 2097152 ^ k := by
  induction n with
  | zero => omega
  | succ n ih =>
    show sB (ad P k x) n + ad P k x n * _ = sB P n + P n * _ + _
    by_cases e : k = n
    · subst e
      rw [sB_congr (P := ad P k x) (R := P) (n := k) (fun m hm => if_neg (by omega)), show ad P k x k = P k + x from if_pos rfl, Int.add_mul]
      omega
    · rw [ih (by omega), show ad P k x n = P n from if_neg (by omega)]
      omega
def ua (f : Nat → Int64) (k : Nat) (x : Int) : Nat → Int64 := vp_updL f k (f k + J x)
theorem Inv_ua {f : Nat → Int64} {P : Nat → Int} (h : Inv f P) {k : Nat} (hk : k < 7) (x : Int) : Inv (ua f k x) (ad P k x) := by
  intro m hm
  unfold ua ad
  by_cases e : m = k
  · subst e
    rw [pk_uLs, if_pos rfl, h m hm, J_add]
  · rw [pk_uLn e, if_neg e, h m hm]
/-! the arrays are emptied -/
theorem c3_loop (τ : MS) (A B C D : Int64) : ∀ (d k fuel : Nat) (f g : Nat → Int64), k + d = 7 → d < fuel → (∀ j, j < k → f j = J 0 ∧ g j = J 0) → ∃ f' g', (∀ j, j < 7 → f' j = J 0 ∧ g' j = J 0) ∧ lp (fun k t => fX1_compared_B3 t.2.2.2.2.2 k t.1 t.2.1 t.2.2.1 t.2.2.2.1 t.2.2.2.2.1) fuel (A, B, C, D, nI k, o2 τ f g) = fX1_compared_L35 (o2 τ f' g') A B C D 0 := by
  intro d
  induction d with
  | zero =>
    intro k fuel f g hk hf h
    obtain ⟨fuel, rfl⟩ : ∃ g, fuel = g + 1 := ⟨fuel - 1, by omega⟩
    have : k = 7 := by omega
    subst this
    refine ⟨f, g, h, ?_⟩
    rw [lp_succ]
    show fX1_compared_B3 (o2 τ f g) _ A B C D (nI 7) = _
    unfold fX1_compared_B3
    rw [if_pos (show (7 : Int32) ≤ nI 7 by decide)]
  | succ d ih =>
    intro k fuel f g hk hf h
    obtain ⟨fuel, rfl⟩ : ∃ g, fuel = g + 1 := ⟨fuel - 1, by omega⟩
    obtain ⟨f', g', h1, h2⟩ := ih (k + 1) fuel (vp_updL f k (J 0)) (vp_updL g k (J 0)) (by omega) (by omega) (fun j hj => by
      by_cases e : j = k
      · subst e; exact ⟨pk_uLs, pk_uLs⟩
      · rw [pk_uLn e, pk_uLn e]; exact h j (by omega))
    refine ⟨f', g', h1, ?_⟩
    rw [lp_succ]
    show fX1_compared_B3 (o2 τ f g) _ A B C D (nI k) = _
    unfold fX1_compared_B3
    rw [if_neg (show ¬ (7 : Int32) ≤ nI k from nI_ge (b := 7) (by omega) (by omega))]
    rw [if_pos (nI_ix (show k < 7 by omega) (by omega)), nI_toNat (show k < 2147483648 by omega), o2_1, o2_b1]
    rw [if_pos (nI_ix (show k < 7 by omega) (by omega)), o2_2, o2_b2, nI_1, J_0]
    exact h2
/-! the products of limbs are added -/
theorem c44_step (τ : MS) (k35 : Int64 × Int64 × Int64 × Int64 × Int32 × MS → Option (Int32 × MS)) (k44 : Int64 × Int64 × Int64 × Int64 × Int32 × Int32 × MS → Option (Int32 × MS)) {a b c d : Nat} (ha : a < 9223372036854775808) (hb : b < 9223372036854775808) (hc : c < 9223372036854775808) (hd : d < 9223372036854775808) {i j : Nat} (hi : i < 3) (hj : j < 3) (f g : Nat → Int64) : fX1_compared_B44 (o2 τ f g) k35 k44 (J a) (J b) (J c) (J d) (nI i) (nI j) = k44 (J a, J b, J c, J d, nI i, nI (j + 1), o2 τ (ua f (i + j) ((limb a i : Int) * limb b j)) (ua g (i + j) ((limb c i : Int) * limb d j))) := by
  unfold fX1_compared_B44
  rw [if_neg (show ¬ (3 : Int32) ≤ nI j from nI_ge (b := 3) hj (by omega)), limb_J ha hi, limb_J hb hj, limb_J hc hi, limb_J hd hj, J_mul, J_mul, nI_add]
  have hx : ix (nI (i + j)) 7 = true := nI_ix (show i + j < 7 by omega) (by omega)
  rw [if_pos hx, if_pos hx, nI_toNat (show i + j < 2147483648 by omega), o2_1, o2_b1, if_pos hx, if_pos hx, o2_2, o2_b2, nI_1]
  rfl
theorem c44_all (τ : MS) (k35 : Int64 × Int64 × Int64 × Int64 × Int32 × MS → Option (Int32 × MS)) {a b c d : Nat} (ha : a < 9223372036854775808) (hb : b < 9223372036854775808) (hc : c < 9223372036854775808) (hd : d < 9223372036854775808) {i : Nat} (hi : i < 3) (f g : Nat → Int64) : fX1_compared_L44 (o2 τ f g) k35 (J a) (J b) (J c) (J d) (nI i) 0 = k35 (J a, J b, J c, J d, nI (i + 1), o2 τ (ua (ua (ua f (i + 0) ((limb a i : Int) * limb b 0)) (i + 1) ((limb a i : Int) * limb b 1)) (i + 2) ((limb a i : Int) * limb b 2)) (ua (ua (ua g (i + 0) ((limb c i : Int) * limb d 0)) (i + 1) ((limb c i : Int) * limb d 1)) (i + 2) ((limb c i : Int) * limb d 2))) := by
  unfold fX1_compared_L44
  show lp _ (69999 + 1) (J a, J b, J c, J d, nI i, nI 0, o2 τ f g) = _
  rw [lp_succ]
  show fX1_compared_B44 (o2 τ f g) k35 _ (J a) (J b) (J c) (J d) (nI i) (nI 0) = _
  rw [c44_step τ k35 _ ha hb hc hd hi (by omega)]
  show lp _ (69998 + 1) _ = _
  rw [lp_succ]
  show fX1_compared_B44 (o2 τ _ _) k35 _ (J a) (J b) (J c) (J d) (nI i) (nI 1) = _
  rw [c44_step τ k35 _ ha hb hc hd hi (by omega)]
  show lp _ (69997 + 1) _ = _
  rw [lp_succ]
  show fX1_compared_B44 (o2 τ _ _) k35 _ (J a) (J b) (J c) (J d) (nI i) (nI 2) = _
  rw [c44_step τ k35 _ ha hb hc hd hi (by omega)]
  show lp _ (69996 + 1) _ = _
  rw [lp_succ]
  show fX1_compared_B44 (o2 τ _ _) k35 _ (J a) (J b) (J c) (J d) (nI i) (nI 3) = _
  unfold fX1_compared_B44
  rw [if_pos (show (3 : Int32) ≤ nI 3 by decide), nI_1]
theorem c35_all (τ : MS) {a b c d : Nat} (ha : a < 9223372036854775808) (hb : b < 9223372036854775808) (hc : c < 9223372036854775808) (hd : d < 9223372036854775808) (f g : Nat → Int64) (hf : ∀ j, j < 7 → f j = J 0 ∧ g j = J 0) : ∃ f' g' P R, Inv f' P ∧ Inv g' R ∧ (∀ m, 0 ≤ P m ∧ P m ≤ 70368744177664) ∧ (∀ m, 0 ≤ R m ∧ R m ≤ 70368744177664) ∧ sB P 7 = (a : Int) * b ∧ sB R 7 = (c : Int) * d ∧ fX1_compared_L35 (o2 τ f g) (J a) (J b) (J c) (J d) 0 = fX1_compared_L139 (o2 τ f' g') 0 := by
  have z : fX1_compared_L35 (o2 τ f g) (J a) (J b) (J c) (J d) 0 = fX1_compared_L139 (o2 τ
      (ua (ua (ua (ua (ua (ua (ua (ua (ua f (0 + 0) ((limb a 0 : Int) * limb b 0)) (0 + 1) ((limb a 0 : Int) * limb b 1)) (0 + 2) ((limb a 0 : Int) * limb b 2)) (1 + 0) ((limb a 1 : Int) * limb b 0)) (1 + 1) ((limb a 1 : Int) * limb b 1)) (1 + 2) ((limb a 1 : Int) * limb b 2)) (2 + 0) ((limb a 2 : Int) * limb b 0)) (2 + 1) ((limb a 2 : Int) * limb b 1)) (2 + 2) ((limb a 2 : Int) * limb b 2))
      (ua (ua (ua (ua (ua (ua (ua (ua (ua g (0 + 0) ((limb c 0 : Int) * limb d 0)) (0 + 1) ((limb c 0 : Int) * limb d 1)) (0 + 2) ((limb c 0 : Int) * limb d 2)) (1 + 0) ((limb c 1 : Int) * limb d 0)) (1 + 1) ((limb c 1 : Int) * limb d 1)) (1 + 2) ((limb c 1 : Int) * limb d 2)) (2 + 0) ((limb c 2 : Int) * limb d 0)) (2 + 1) ((limb c 2 : Int) * limb d 1)) (2 + 2) ((limb c 2 : Int) * limb d 2))) 0 := by
    unfold fX1_compared_L35
    show lp _ (69999 + 1) (J a, J b, J c, J d, nI 0, o2 τ f g) = _
    rw [lp_succ]
    show fX1_compared_B35 (o2 τ f g) _ (J a) (J b) (J c) (J d) (nI 0) = _
    unfold fX1_compared_B35
    rw [if_neg (show ¬ (3 : Int32) ≤ nI 0 by decide), c44_all τ _ ha hb hc hd (by omega)]
    show lp _ (69998 + 1) _ = _
    rw [lp_succ]
    show (if (3 : Int32) ≤ nI 1 then _ else _) = _
    rw [if_neg (show ¬ (3 : Int32) ≤ nI 1 by decide), c44_all τ _ ha hb hc hd (by omega)]
    show lp _ (69997 + 1) _ = _
    rw [lp_succ]
    show (if (3 : Int32) ≤ nI 2 then _ else _) = _
    rw [if_neg (show ¬ (3 : Int32) ≤ nI 2 by decide), c44_all τ _ ha hb hc hd (by omega)]
    show lp _ (69996 + 1) _ = _
    rw [lp_succ]
    show (if (3 : Int32) ≤ nI 3 then _ else _) = _
    rw [if_pos (show (3 : Int32) ≤ nI 3 by decide)]
  have i1 : Inv f (fun _ => 0) := fun m hm => (hf m hm).1
  have i2 : Inv g (fun _ => 0) := fun m hm => (hf m hm).2
  have lp2 : ∀ x y i j : Nat, 0 ≤ (limb x i : Int) * limb y j ∧ (limb x i : Int) * limb y j ≤ 4398046511104 := fun x y i j => by
    have l1 := limb_lt x i
    have l2 := limb_lt y j
    have l3 : limb x i * limb y j ≤ 2097152 * 2097152 := Nat.mul_le_mul (by omega) (by omega)
    have l4 : ((limb x i * limb y j : Nat) : Int) = (limb x i : Int) * limb y j := by simp
    omega
  have adb : ∀ (P : Nat → Int) (M : Int) (k : Nat) (x : Int), (∀ m, 0 ≤ P m ∧ P m ≤ M) → 0 ≤ x → x ≤ 4398046511104 → ∀ m, 0 ≤ ad P k x m ∧ ad P k x m ≤ M + 4398046511104 := fun P M k x h h0 h1 m => by
    unfold ad
    have := h m
    split <;> omega
  have zb : ∀ m : Nat, 0 ≤ (fun _ : Nat => (0 : Int)) m ∧ (fun _ : Nat => (0 : Int)) m ≤ 0 := fun m => ⟨Int.le_refl _, Int.le_refl _⟩
  have tot : ∀ x y : Nat, x < 9223372036854775808 → y < 9223372036854775808 → sB (ad (ad (ad (ad (ad (ad (ad (ad (ad (fun _ => 0) (0 + 0) ((limb x 0 : Int) * limb y 0)) (0 + 1) ((limb x 0 : Int) * limb y 1)) (0 + 2) ((limb x 0 : Int) * limb y 2)) (1 + 0) ((limb x 1 : Int) * limb y 0)) (1 + 1) ((limb x 1 : Int) * limb y 1)) (1 + 2) ((limb x 1 : Int) * limb y 2)) (2 + 0) ((limb x 2 : Int) * limb y 0)) (2 + 1) ((limb x 2 : Int) * limb y 1)) (2 + 2) ((limb x 2 : Int) * limb y 2)) 7 = (x : Int) * y := by
    intro x y hx hy
    rw [sB_ad (by omega), sB_ad (by omega), sB_ad (by omega), sB_ad (by omega), sB_ad (by omega), sB_ad (by omega), sB_ad (by omega), sB_ad (by omega), sB_ad (by omega)]
    rw [show sB (fun _ => 0) 7 = 0 by decide]
    conv => rhs; rw [← limb_val hx, ← limb_val hy]
    simp only [Int.add_mul, Int.mul_add]
    generalize (limb x 0 : Int) = x0
    generalize (limb x 1 : Int) = x1
    generalize (limb x 2 : Int) = x2
    generalize (limb y 0 : Int) = y0
    generalize (limb y 1 : Int) = y1
    generalize (limb y 2 : Int) = y2
    rw [show x0 * (y1 * 2097152) = x0 * y1 * 2097152 by rw [Int.mul_assoc], show x0 * (y2 * 4398046511104) = x0 * y2 * 4398046511104 by rw [Int.mul_assoc]]
    rw [show x1 * 2097152 * y0 = x1 * y0 * 2097152 by rw [Int.mul_assoc, Int.mul_assoc, Int.mul_comm 2097152], show x1 * 2097152 * (y1 * 2097152) = x1 * y1 * 4398046511104 by rw [Int.mul_assoc, Int.mul_assoc, Int.mul_left_comm 2097152]; rfl, show x1 * 2097152 * (y2 * 4398046511104) = x1 * y2 * 9223372036854775808 by rw [Int.mul_assoc, Int.mul_assoc, Int.mul_left_comm 2097152]; rfl]
    rw [show x2 * 4398046511104 * y0 = x2 * y0 * 4398046511104 by rw [Int.mul_assoc, Int.mul_assoc, Int.mul_comm 4398046511104], show x2 * 4398046511104 * (y1 * 2097152) = x2 * y1 * 9223372036854775808 by rw [Int.mul_assoc, Int.mul_assoc, Int.mul_left_comm 4398046511104]; rfl, show x2 * 4398046511104 * (y2 * 4398046511104) = x2 * y2 * 19342813113834066795298816 by rw [Int.mul_assoc, Int.mul_assoc, Int.mul_left_comm 4398046511104]; rfl]
    generalize x0 * y0 = p00
    generalize x0 * y1 = p01
    generalize x0 * y2 = p02
    generalize x1 * y0 = p10
    generalize x1 * y1 = p11
    generalize x1 * y2 = p12
    generalize x2 * y0 = p20
    generalize x2 * y1 = p21
    generalize x2 * y2 = p22
    show 0 + p00 * 1 + p01 * 2097152 + p02 * 4398046511104 + p10 * 2097152 + p11 * 4398046511104 + p12 * 9223372036854775808 + p20 * 4398046511104 + p21 * 9223372036854775808 + p22 * 19342813113834066795298816 = _
    omega
  refine ⟨_, _, _, _, Inv_ua (Inv_ua (Inv_ua (Inv_ua (Inv_ua (Inv_ua (Inv_ua (Inv_ua (Inv_ua i1 (by omega) _) (by omega) _) (by omega) _) (by omega) _) (by omega) _) (by omega) _) (by omega) _) (by omega) _) (by omega) _, Inv_ua (Inv_ua (Inv_ua (Inv_ua (Inv_ua (Inv_ua (Inv_ua (Inv_ua (Inv_ua i2 (by omega) _) (by omega) _) (by omega) _) (by omega) _) (by omega) _) (by omega) _) (by omega) _) (by omega) _) (by omega) _, ?_, ?_, tot a b ha hb, tot c d hc hd, z⟩
  · intro m
    have := adb _ _ (2 + 2) _ (adb _ _ (2 + 1) _ (adb _ _ (2 + 0) _ (adb _ _ (1 + 2) _ (adb _ _ (1 + 1) _ (adb _ _ (1 + 0) _ (adb _ _ (0 + 2) _ (adb _ _ (0 + 1) _ (adb _ _ (0 + 0) _ zb (lp2 a b 0 0).1 (lp2 a b 0 0).2) (lp2 a b 0 1).1 (lp2 a b 0 1).2) (lp2 a b 0 2).1 (lp2 a b 0 2).2) (lp2 a b 1 0).1 (lp2 a b 1 0).2) (lp2 a b 1 1).1 (lp2 a b 1 1).2) (lp2 a b 1 2).1 (lp2 a b 1 2).2) (lp2 a b 2 0).1 (lp2 a b 2 0).2) (lp2 a b 2 1).1 (lp2 a b 2 1).2) (lp2 a b 2 2).1 (lp2 a b 2 2).2 m
    exact ⟨this.1, Int.le_trans this.2 (by decide)⟩
  · intro m
    have := adb _ _ (2 + 2) _ (adb _ _ (2 + 1) _ (adb _ _ (2 + 0) _ (adb _ _ (1 + 2) _ (adb _ _ (1 + 1) _ (adb _ _ (1 + 0) _ (adb _ _ (0 + 2) _ (adb _ _ (0 + 1) _ (adb _ _ (0 + 0) _ zb (lp2 c d 0 0).1 (lp2 c d 0 0).2) (lp2 c d 0 1).1 (lp2 c d 0 1).2) (lp2 c d 0 2).1 (lp2 c d 0 2).2) (lp2 c d 1 0).1 (lp2 c d 1 0).2) (lp2 c d 1 1).1 (lp2 c d 1 1).2) (lp2 c d 1 2).1 (lp2 c d 1 2).2) (lp2 c d 2 0).1 (lp2 c d 2 0).2) (lp2 c d 2 1).1 (lp2 c d 2 1).2) (lp2 c d 2 2).1 (lp2 c d 2 2).2 m
    exact ⟨this.1, Int.le_trans this.2 (by decide)⟩
/-! the carry -/
def cy (P : Nat → Int) (k : Nat) : Nat → Int := fun m => if m = k then P k % 2097152 else if m = k + 1 then P (k + 1) + P k / 2097152 else P m
def uc (f : Nat → Int64) (k : Nat) : Nat → Int64 := vp_updL (vp_updL f (k + 1) (f (k + 1) + (f k >>> ((21 : Int32).toInt64 &&& 63)))) k (vp_updL f (k + 1) (f (k + 1) + (f k >>> ((21 : Int32).toInt64 &&& 63))) k &&& (2097151 : Int64))
theorem shrI {z : Int} (h0 : 0 ≤ z) (h1 : z < 9223372036854775808) : J z >>> ((21 : Int32).toInt64 &&& 63) = J (z / 2097152) ∧ J z &&& (2097151 : Int64) = J (z % 2097152) := by
  obtain ⟨n, rfl⟩ : ∃ n : Nat, z = (n : Int) := ⟨z.toNat, by omega⟩
  exact ⟨shr_J (by omega) _ 21 (by decide), and_J (by omega)⟩
theorem Inv_uc {f : Nat → Int64} {P : Nat → Int} (h : Inv f P) {k : Nat} (hk : k < 6) (h0 : 0 ≤ P k) (h1 : P k < 9223372036854775808) : Inv (uc f k) (cy P k) := by
  intro m hm
  unfold uc cy
  rw [h (k + 1) (by omega), h k (by omega), (shrI h0 h1).1, J_add]
  by_cases e : m = k
  · subst e
    rw [pk_uLs, if_pos rfl, pk_uLn (show m ≠ m + 1 by omega), h m hm, (shrI h0 h1).2]
  · rw [pk_uLn e, if_neg e]
    by_cases e2 : m = k + 1
    · subst e2
      rw [pk_uLs, if_pos rfl]
    · rw [pk_uLn e2, if_neg e2, h m hm]
theorem sB_cy_lo {P : Nat → Int} {k : Nat} : sB (cy P k) k = sB P k := sB_congr (fun m hm => by unfold cy; rw [if_neg (by omega), if_neg (by omega)])
theorem sB_cy2 {P : Nat → Int} {k : Nat} : sB (cy P k) (k + 2) = sB P (k + 2) := by
  show sB (cy P k) k + cy P k k * 2097152 ^ k + cy P k (k + 1) * 2097152 ^ (k + 1) = sB P k + P k * 2097152 ^ k + P (k + 1) * 2097152 ^ (k + 1)
  rw [sB_cy_lo, show cy P k k = P k % 2097152 from if_pos rfl, show cy P k (k + 1) = P (k + 1) + P k / 2097152 by unfold cy; rw [if_neg (by omega), if_pos rfl], Int.pow_succ, Int.add_mul]
  have e := Int.emod_add_mul_ediv (P k) 2097152
  have e2 : P k * 2097152 ^ k = (P k % 2097152) * 2097152 ^ k + P k / 2097152 * (2097152 ^ k * 2097152) := by
    conv => lhs; rw [← e]
    rw [Int.add_mul, Int.mul_comm 2097152 (P k / 2097152), Int.mul_assoc (P k / 2097152), Int.mul_comm 2097152 (2097152 ^ k)]
  omega
theorem sB_cy {P : Nat → Int} {k : Nat} : ∀ n, k + 2 ≤ n → sB (cy P k) n = sB P n := by
  intro n
  induction n with
  | zero => intro h; omega
  | succ n ih =>
    intro h
    by_cases e : n = k + 1
    · subst e; exact sB_cy2
    · show sB (cy P k) n + cy P k n * _ = sB P n + P n * _
      rw [ih (by omega), show cy P k n = P n by unfold cy; rw [if_neg (by omega), if_neg (by omega)]]
def okP (P : Nat → Int) (k : Nat) : Prop := ∀ m, m < 7 → 0 ≤ P m ∧ (m < k → P m < 2097152) ∧ (m = k → P m ≤ 140737488355328) ∧ (k < m → P m ≤ 70368744177664)
theorem okP_cy {P : Nat → Int} {k : Nat} (hk : k < 6) (h : okP P k) : okP (cy P k) (k + 1) := by
  intro m hm
  have h1 := h m hm
  have h2 := h k (by omega)
  have h3 := h (k + 1) (by omega)
  have h4 := h2.2.2.1 rfl
  have h5 := h3.2.2.2 (by omega)
  unfold cy
  by_cases e : m = k
  · rw [if_pos e]; omega
  · rw [if_neg e]
    by_cases e2 : m = k + 1
    · rw [if_pos e2]; omega
    · rw [if_neg e2]; omega
theorem c139_step (τ : MS) (k139 : Int32 × MS → Option (Int32 × MS)) {k : Nat} (hk : k < 6) (f g : Nat → Int64) : fX1_compared_B139 (o2 τ f g) k139 (nI k) = k139 (nI (k + 1), o2 τ (uc f k) (uc g k)) := by
  unfold fX1_compared_B139
  have h1 : ix (nI (k + 1)) 7 = true := nI_ix (by omega) (by omega)
  have h0 : ix (nI k) 7 = true := nI_ix (by omega) (by omega)
  rw [if_neg (show ¬ (6 : Int32) ≤ nI k from nI_ge (b := 6) hk (by omega)), nI_1, if_pos h1, if_pos h0, if_pos h1, nI_toNat (show k < 2147483648 by omega), nI_toNat (show k + 1 < 2147483648 by omega), o2_1, o2_b1, if_pos h0, if_pos h0, o2_1, o2_b1, if_pos h1, if_pos h0, if_pos h1, o2_2, o2_b2, if_pos h0, if_pos h0, o2_2, o2_b2]
  rfl
theorem c139_loop (τ : MS) : ∀ (d k fuel : Nat) (f g : Nat → Int64) (P R : Nat → Int), k + d = 6 → d < fuel → Inv f P → Inv g R → okP P k → okP R k → ∃ f' g' P' R', Inv f' P' ∧ Inv g' R' ∧ okP P' 6 ∧ okP R' 6 ∧ sB P' 7 = sB P 7 ∧ sB R' 7 = sB R 7 ∧ lp (fun k t => fX1_compared_B139 t.2 k t.1) fuel (nI k, o2 τ f g) = fX1_compared_L226 (o2 τ f' g') 6 := by
  intro d
  induction d with
  | zero =>
    intro k fuel f g P R hk hf h1 h2 h3 h4
    obtain ⟨fuel, rfl⟩ : ∃ g, fuel = g + 1 := ⟨fuel - 1, by omega⟩
    have : k = 6 := by omega
    subst this
    refine ⟨f, g, P, R, h1, h2, h3, h4, rfl, rfl, ?_⟩
    rw [lp_succ]
    show fX1_compared_B139 (o2 τ f g) _ (nI 6) = _
    unfold fX1_compared_B139
    rw [if_pos (show (6 : Int32) ≤ nI 6 by decide)]
  | succ d ih =>
    intro k fuel f g P R hk hf h1 h2 h3 h4
    obtain ⟨fuel, rfl⟩ : ∃ g, fuel = g + 1 := ⟨fuel - 1, by omega⟩
    have p0 := (h3 k (by omega))
    have p1 := (h4 k (by omega))
    have p2 := p0.2.2.1 rfl
    have p3 := p1.2.2.1 rfl
    obtain ⟨f', g', P', R', q1, q2, q3, q4, q5, q6, q7⟩ := ih (k + 1) fuel (uc f k) (uc g k) (cy P k) (cy R k) (by omega) (by omega) (Inv_uc h1 (by omega) p0.1 (by omega)) (Inv_uc h2 (by omega) p1.1 (by omega)) (okP_cy (by omega) h3) (okP_cy (by omega) h4)
    refine ⟨f', g', P', R', q1, q2, q3, q4, q5.trans (sB_cy 7 (by omega)), q6.trans (sB_cy 7 (by omega)), ?_⟩
    rw [lp_succ]
    show fX1_compared_B139 (o2 τ f g) _ (nI k) = _
    rw [c139_step τ _ (by omega)]
    exact q7
/-! the first limb that differs, from above -/
theorem sB_bd {P : Nat → Int} : ∀ k, (∀ m, m < k → 0 ≤ P m ∧ P m < 2097152) → 0 ≤ sB P k ∧ sB P k < 2097152 ^ k := by
  intro k
  induction k with
  | zero => intro h; exact ⟨Int.le_refl 0, (show (0 : Int) < 1 by decide)⟩
  | succ k ih =>
    intro h
    obtain ⟨i1, i2⟩ := ih (fun m hm => h m (by omega))
    obtain ⟨j1, j2⟩ := h k (by omega)
    show 0 ≤ sB P k + P k * 2097152 ^ k ∧ sB P k + P k * 2097152 ^ k < 2097152 ^ (k + 1)
    have e : (0 : Int) ≤ 2097152 ^ k := Int.pow_nonneg (by decide)
    have e1 : 0 ≤ P k * 2097152 ^ k := Int.mul_nonneg j1 e
    have e2 : P k * 2097152 ^ k ≤ 2097151 * 2097152 ^ k := Int.mul_le_mul_of_nonneg_right (by omega) e
    rw [Int.pow_succ]
    omega
theorem sB_cmp {P R : Nat → Int} {k : Nat} (hP : ∀ m, m < k → 0 ≤ P m ∧ P m < 2097152) (hR : ∀ m, m < k → 0 ≤ R m ∧ R m < 2097152) (h : P k < R k) : sB P (k + 1) - sB R (k + 1) < 0 := by
  have e1 := sB_bd k hP
  have e2 := sB_bd k hR
  show sB P k + P k * 2097152 ^ k - (sB R k + R k * 2097152 ^ k) < 0
  have e : (0 : Int) ≤ 2097152 ^ k := Int.pow_nonneg (by decide)
  have e3 : (P k + 1) * 2097152 ^ k ≤ R k * 2097152 ^ k := Int.mul_le_mul_of_nonneg_right (by omega) e
  rw [Int.add_mul] at e3
  omega
theorem c255 (τ : MS) {f g : Nat → Int64} {P R : Nat → Int} (h1 : Inv f P) (h2 : Inv g R) (h3 : okP P 6) (h4 : okP R 6) {k : Nat} (hk : k < 7) (hz : P k = R k → sB P k = sB R k) : fX1_compared_L255 (o2 τ f g) (nI k) = some (sgI (sB P (k + 1) - sB R (k + 1)), o2 τ f g) := by
  have n : ∀ m, m < 7 → nw (P m) ∧ nw (R m) := fun m hm => by
    have a := h3 m hm
    have b := h4 m hm
    unfold nw
    omega
  unfold fX1_compared_L255
  have h0 : ix (nI k) 7 = true := nI_ix hk (by omega)
  rw [if_pos h0, if_pos h0, if_pos h0, if_pos h0, o2_1, o2_2, nI_toNat (by omega), h1 k hk, h2 k hk]
  have lP : ∀ m, m < k → 0 ≤ P m ∧ P m < 2097152 := fun m hm => by have := h3 m (by omega); omega
  have lR : ∀ m, m < k → 0 ≤ R m ∧ R m < 2097152 := fun m hm => by have := h4 m (by omega); omega
  unfold sgI
  by_cases e1 : R k ≤ P k
  · rw [if_pos ((J_le (n k hk).2 (n k hk).1).mpr e1)]
    by_cases e2 : P k ≤ R k
    · rw [if_pos ((J_le (n k hk).1 (n k hk).2).mpr e2)]
      have e : P k = R k := by omega
      have z : sB P (k + 1) - sB R (k + 1) = 0 := by
        show sB P k + P k * _ - (sB R k + R k * _) = 0
        rw [e, hz e]; omega
      rw [z, if_neg (by omega), if_pos rfl]
    · rw [if_neg (fun q => e2 ((J_le (n k hk).1 (n k hk).2).mp q))]
      have := sB_cmp lR lP (k := k) (by omega)
      rw [if_neg (by omega), if_neg (by omega)]
  · rw [if_neg (fun q => e1 ((J_le (n k hk).2 (n k hk).1).mp q))]
    have := sB_cmp lP lR (k := k) (by omega)
    rw [if_pos this]
theorem c226_loop (τ : MS) {f g : Nat → Int64} {P R : Nat → Int} (h1 : Inv f P) (h2 : Inv g R) (h3 : okP P 6) (h4 : okP R 6) : ∀ (k fuel : Nat), k < 7 → k < fuel → lp (fun k t => fX1_compared_B226 t.2 k t.1) fuel (nI k, o2 τ f g) = some (sgI (sB P (k + 1) - sB R (k + 1)), o2 τ f g) := by
  intro k
  induction k with
  | zero =>
    intro fuel hk hf
    obtain ⟨fuel, rfl⟩ : ∃ g, fuel = g + 1 := ⟨fuel - 1, by omega⟩
    rw [lp_succ]
    show fX1_compared_B226 (o2 τ f g) _ (nI 0) = _
    unfold fX1_compared_B226
    rw [if_pos (show nI 0 ≤ (0 : Int32) by decide)]
    exact c255 τ h1 h2 h3 h4 (by omega) (fun _ => rfl)
  | succ k ih =>
    intro fuel hk hf
    obtain ⟨fuel, rfl⟩ : ∃ g, fuel = g + 1 := ⟨fuel - 1, by omega⟩
    rw [lp_succ]
    show fX1_compared_B226 (o2 τ f g) _ (nI (k + 1)) = _
    have nn : nw (P (k + 1)) ∧ nw (R (k + 1)) := by
      have a := h3 (k + 1) hk
      have b := h4 (k + 1) hk
      unfold nw
      omega
    unfold fX1_compared_B226
    have h0 : ix (nI (k + 1)) 7 = true := nI_ix hk (by omega)
    rw [if_neg (show ¬ nI (k + 1) ≤ (0 : Int32) from nI_ge (a := 0) (b := k + 1) (by omega) (by omega)), if_pos h0, if_pos h0, o2_1, o2_2, nI_toNat (by omega), h1 _ hk, h2 _ hk]
    by_cases e : P (k + 1) = R (k + 1)
    · rw [if_pos ((J_eq nn.1 nn.2).mpr e)]
      rw [← Int32.sub_eq_add_neg, nI_pred]
      refine Eq.trans (ih fuel (by omega) (by omega)) ?_
      congr 3
      show sB P (k + 1) - sB R (k + 1) = sB P (k + 1) + P (k + 1) * _ - (sB R (k + 1) + R (k + 1) * _)
      rw [e]
      omega
    · rw [if_neg (fun q => e ((J_eq nn.1 nn.2).mp q))]
      exact c255 τ h1 h2 h3 h4 hk (fun q => absurd q e)
theorem cmp1n (τ : MS) {a b c d : Nat} (ha : a < 9223372036854775808) (hb : b < 9223372036854775808) (hc : c < 9223372036854775808) (hd : d < 9223372036854775808) : ∃ f g, fX1_compared τ (J a) (J b) (J c) (J d) = some (sgI ((a : Int) * b - c * d), o2 τ f g) := by
  obtain ⟨f0, g0, z0, e0⟩ := c3_loop τ (J a) (J b) (J c) (J d) 7 0 FU (m_one τ) (m_two τ) (by omega) (by unfold FU; omega) (fun j hj => absurd hj (by omega))
  obtain ⟨f1, g1, P, R, i1, i2, b1, b2, s1, s2, e1⟩ := c35_all τ ha hb hc hd f0 g0 z0
  obtain ⟨f2, g2, P', R', j1, j2, o1, o2', t1, t2, e2⟩ := c139_loop τ 6 0 FU f1 g1 P R (by omega) (by unfold FU; omega) i1 i2 (fun m hm => by have := b1 m; omega) (fun m hm => by have := b2 m; omega)
  have e3 := c226_loop τ j1 j2 o1 o2' 6 FU (by omega) (by unfold FU; omega)
  refine ⟨f2, g2, ?_⟩
  rw [o2_i] at e0
  have e0' : fX1_compared τ (J a) (J b) (J c) (J d) = fX1_compared_L35 (o2 τ f0 g0) (J a) (J b) (J c) (J d) 0 := e0
  have e2' : fX1_compared_L139 (o2 τ f1 g1) 0 = fX1_compared_L226 (o2 τ f2 g2) 6 := e2
  have e3' : fX1_compared_L226 (o2 τ f2 g2) 6 = _ := e3
  rw [e0', e1, e2', e3', t1, t2, s1, s2]
theorem cmp1 (τ : MS) {a b c d : Int} (ha : nw a) (hb : nw b) (hc : nw c) (hd : nw d) (a0 : 0 ≤ a) (b0 : 0 ≤ b) (c0 : 0 ≤ c) (d0 : 0 ≤ d) : ∃ f g, fX1_compared τ (J a) (J b) (J c) (J d) = some (sgI (a * b - c * d), o2 τ f g) := by
  obtain ⟨x, rfl⟩ : ∃ n : Nat, a = (n : Int) := ⟨a.toNat, by omega⟩
  obtain ⟨y, rfl⟩ : ∃ n : Nat, b = (n : Int) := ⟨b.toNat, by omega⟩
  obtain ⟨z, rfl⟩ : ∃ n : Nat, c = (n : Int) := ⟨c.toNat, by omega⟩
  obtain ⟨w, rfl⟩ : ∃ n : Nat, d = (n : Int) := ⟨d.toNat, by omega⟩
  unfold nw at *
  exact cmp1n τ (by omega) (by omega) (by omega) (by omega)
