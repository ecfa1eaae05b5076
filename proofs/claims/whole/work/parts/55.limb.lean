/-! PURE: compared of the model, by limbs of 21 bits -/
theorem J_bv {n : Nat} (h : n < 9223372036854775808) : (J (n : Int)).toBitVec.toNat = n := by
  have h1 : (J (n : Int)).toBitVec = BitVec.ofInt 64 (n : Int) := rfl
  rw [h1, BitVec.toNat_ofInt]
  omega
theorem and_J {n : Nat} (h : n < 9223372036854775808) : J (n : Int) &&& (2097151 : Int64) = J ((n % 2097152 : Nat) : Int) := by
  apply Int64.toBitVec.inj
  apply BitVec.eq_of_toNat_eq
  rw [J_bv (by omega), show (J (n : Int) &&& (2097151 : Int64)).toBitVec = (J (n : Int)).toBitVec &&& (2097151 : Int64).toBitVec from rfl, BitVec.toNat_and, J_bv h, show (2097151 : Int64).toBitVec.toNat = 2 ^ 21 - 1 by decide, Nat.and_two_pow_sub_one_eq_mod]
theorem shr_J {n : Nat} (h : n < 9223372036854775808) (s : Int64) (k : Nat) (hs : (s.toBitVec.smod 64).toNat = k) : J (n : Int) >>> s = J ((n / 2 ^ k : Nat) : Int) := by
  rw [← Int64.toInt_inj]
  have e1 : (J (n : Int) >>> s).toInt = ((J (n : Int)).toBitVec.sshiftRight' (s.toBitVec.smod 64)).toInt := rfl
  have e3 : n / 2 ^ k ≤ n := Nat.div_le_self _ _
  rw [e1, BitVec.toInt_sshiftRight', hs, J_toInt (nw_nat (by omega)), show (J (n : Int)).toBitVec.toInt = (J (n : Int)).toInt from rfl, J_toInt (nw_nat h), Int.shiftRight_eq_div_pow]
  rfl
def limb (a i : Nat) : Nat := a / 2 ^ (21 * i) % 2097152
theorem limb_lt (a i : Nat) : limb a i < 2097152 := Nat.mod_lt _ (by omega)
theorem limb_J {a i : Nat} (h : a < 9223372036854775808) (hi : i < 3) : (J (a : Int) >>> (((21 : Int32) * nI i).toInt64 &&& 63)) &&& (2097151 : Int64) = J ((limb a i : Nat) : Int) := by
  have e3 : a / 2 ^ (21 * i) ≤ a := Nat.div_le_self _ _
  rw [shr_J h _ (21 * i) (by rcases (show i = 0 ∨ i = 1 ∨ i = 2 by omega) with rfl | rfl | rfl <;> decide), and_J (by omega)]
  rfl
theorem limb_val {a : Nat} (h : a < 9223372036854775808) : (limb a 0 : Int) + limb a 1 * 2097152 + limb a 2 * 4398046511104 = a := by
  unfold limb
  omega
def o2 (τ : MS) (f g : Nat → Int64) : MS := sm_two (sm_one τ f) g
def Inv (f : Nat → Int64) (P : Nat → Int) : Prop := ∀ m, m < 7 → f m = J (P m)
def sB (P : Nat → Int) : Nat → Int
  | 0 => 0
  | n + 1 => sB P n + P n * 2097152 ^ n
def ad (P : Nat → Int) (k : Nat) (x : Int) : Nat → Int := fun m => if m = k then P m + x else P m
theorem sB_congr {P R : Nat → Int} {n : Nat} (h : ∀ m, m < n → P m = R m) : sB P n = sB R n := by
  induction n with
  | zero => rfl
  | succ n ih =>
    show sB P n + P n * _ = sB R n + R n * _
    rw [ih (fun m hm => h m (by omega)), h n (by omega)]
theorem sB_ad {P : Nat → Int} {k n : Nat} (h : k < n) (x : Int) : sB (ad P k x) n = sB P n + x * 2097152 ^ k := by
  induction n with
  | zero => omega
  | succ n ih =>
    show sB (ad P k x) n + ad P k x n * _ = sB P n + P n * _ + _
    by_cases e : k = n
    · subst e
      rw [sB_congr (R := P) (fun m hm => if_neg (by omega)), show ad P k x k = P k + x from if_pos rfl, Int.add_mul]
      omega
    · rw [ih (by omega), show ad P k x n = P n from if_neg (by omega)]
      omega
def ua (f : Nat → Int64) (k : Nat) (x : Int) : Nat → Int64 := vp_updL f k (f k + J x)
theorem Inv_ua {f : Nat → Int64} {P : Nat → Int} (h : Inv f P) {k : Nat} (hk : k < 7) (x : Int) : Inv (ua f k x) (ad P k x) := by
  intro m hm
  unfold ua ad
  by_cases e : m = k
  · subst e
    rw [pk_uLs, if_pos rfl, h m hm, J_add]
  · rw [pk_uLn e, if_neg e, h m hm]
/-! the arrays are emptied -/
theorem c3_loop (τ : MS) (A B C D : Int64) : ∀ (d k fuel : Nat) (f g : Nat → Int64), k + d = 7 → d < fuel → (∀ j, j < k → f j = J 0 ∧ g j = J 0) → ∃ f' g', (∀ j, j < 7 → f' j = J 0 ∧ g' j = J 0) ∧ lp (fun k t => fX1_compared_B3 t.2.2.2.2.2 k t.1 t.2.1 t.2.2.1 t.2.2.2.1 t.2.2.2.2.1) fuel (A, B, C, D, nI k, o2 τ f g) = fX1_compared_L35 (o2 τ f' g') A B C D 0 := by
  intro d
  induction d with
  | zero =>
    intro k fuel f g hk hf h
    obtain ⟨fuel, rfl⟩ : ∃ g, fuel = g + 1 := ⟨fuel - 1, by omega⟩
    have : k = 7 := by omega
    subst this
    refine ⟨f, g, h, ?_⟩
    rw [lp_succ]
    show fX1_compared_B3 (o2 τ f g) _ A B C D (nI 7) = _
    unfold fX1_compared_B3
    rw [if_pos (show (7 : Int32) ≤ nI 7 by decide)]
  | succ d ih =>
    intro k fuel f g hk hf h
    obtain ⟨fuel, rfl⟩ : ∃ g, fuel = g + 1 := ⟨fuel - 1, by omega⟩
    obtain ⟨f', g', h1, h2⟩ := ih (k + 1) fuel (vp_updL f k (J 0)) (vp_updL g k (J 0)) (by omega) (by omega) (fun j hj => by
      by_cases e : j = k
      · subst e; exact ⟨pk_uLs, pk_uLs⟩
      · rw [pk_uLn e, pk_uLn e]; exact h j (by omega))
    refine ⟨f', g', h1, ?_⟩
    rw [lp_succ]
    show fX1_compared_B3 (o2 τ f g) _ A B C D (nI k) = _
    unfold fX1_compared_B3
    rw [if_neg (show ¬ (7 : Int32) ≤ nI k from nI_ge (b := 7) (by omega) (by omega))]
    simp only [bd, nI_ix (show k < 7 by omega) (by omega), nI_toNat (show k < 2147483648 by omega), if_true, nI_1]
    exact h2
/-! the products of limbs are added -/
theorem c44_step (τ : MS) (k35 : Int64 × Int64 × Int64 × Int64 × Int32 × MS → Option (Int32 × MS)) (k44 : Int64 × Int64 × Int64 × Int64 × Int32 × Int32 × MS → Option (Int32 × MS)) {a b c d : Nat} (ha : a < 9223372036854775808) (hb : b < 9223372036854775808) (hc : c < 9223372036854775808) (hd : d < 9223372036854775808) {i j : Nat} (hi : i < 3) (hj : j < 3) (f g : Nat → Int64) : fX1_compared_B44 (o2 τ f g) k35 k44 (J a) (J b) (J c) (J d) (nI i) (nI j) = k44 (J a, J b, J c, J d, nI i, nI (j + 1), o2 τ (ua f (i + j) ((limb a i : Int) * limb b j)) (ua g (i + j) ((limb c i : Int) * limb d j))) := by
  unfold fX1_compared_B44
  rw [if_neg (show ¬ (3 : Int32) ≤ nI j from nI_ge (b := 3) hj (by omega)), limb_J ha hi, limb_J hb hj, limb_J hc hi, limb_J hd hj, J_mul, J_mul, nI_add]
  simp only [bd, nI_ix (show i + j < 7 by omega) (by omega), nI_toNat (show i + j < 2147483648 by omega), if_true, nI_1]
  rfl
theorem c44_all (τ : MS) (k35 : Int64 × Int64 × Int64 × Int64 × Int32 × MS → Option (Int32 × MS)) {a b c d : Nat} (ha : a < 9223372036854775808) (hb : b < 9223372036854775808) (hc : c < 9223372036854775808) (hd : d < 9223372036854775808) {i : Nat} (hi : i < 3) (f g : Nat → Int64) : fX1_compared_L44 (o2 τ f g) k35 (J a) (J b) (J c) (J d) (nI i) 0 = k35 (J a, J b, J c, J d, nI (i + 1), o2 τ (ua (ua (ua f (i + 0) ((limb a i : Int) * limb b 0)) (i + 1) ((limb a i : Int) * limb b 1)) (i + 2) ((limb a i : Int) * limb b 2)) (ua (ua (ua g (i + 0) ((limb c i : Int) * limb d 0)) (i + 1) ((limb c i : Int) * limb d 1)) (i + 2) ((limb c i : Int) * limb d 2))) := by
  unfold fX1_compared_L44
  show lp _ (69999 + 1) (J a, J b, J c, J d, nI i, nI 0, o2 τ f g) = _
  rw [lp_succ]
  show fX1_compared_B44 (o2 τ f g) k35 _ (J a) (J b) (J c) (J d) (nI i) (nI 0) = _
  rw [c44_step τ k35 _ ha hb hc hd hi (by omega)]
  show lp _ (69998 + 1) _ = _
  rw [lp_succ]
  show fX1_compared_B44 (o2 τ _ _) k35 _ (J a) (J b) (J c) (J d) (nI i) (nI 1) = _
  rw [c44_step τ k35 _ ha hb hc hd hi (by omega)]
  show lp _ (69997 + 1) _ = _
  rw [lp_succ]
  show fX1_compared_B44 (o2 τ _ _) k35 _ (J a) (J b) (J c) (J d) (nI i) (nI 2) = _
  rw [c44_step τ k35 _ ha hb hc hd hi (by omega)]
  show lp _ (69996 + 1) _ = _
  rw [lp_succ]
  show fX1_compared_B44 (o2 τ _ _) k35 _ (J a) (J b) (J c) (J d) (nI i) (nI 3) = _
  unfold fX1_compared_B44
  rw [if_pos (show (3 : Int32) ≤ nI 3 by decide), nI_1]
theorem c35_all (τ : MS) {a b c d : Nat} (ha : a < 9223372036854775808) (hb : b < 9223372036854775808) (hc : c < 9223372036854775808) (hd : d < 9223372036854775808) (f g : Nat → Int64) (hf : ∀ j, j < 7 → f j = J 0 ∧ g j = J 0) : ∃ f' g' P R, Inv f' P ∧ Inv g' R ∧ (∀ m, 0 ≤ P m ∧ P m ≤ 70368744177664) ∧ (∀ m, 0 ≤ R m ∧ R m ≤ 70368744177664) ∧ sB P 7 = (a : Int) * b ∧ sB R 7 = (c : Int) * d ∧ fX1_compared_L35 (o2 τ f g) (J a) (J b) (J c) (J d) 0 = fX1_compared_L139 (o2 τ f' g') 0 := by
  have z : fX1_compared_L35 (o2 τ f g) (J a) (J b) (J c) (J d) 0 = fX1_compared_L139 (o2 τ
      (ua (ua (ua (ua (ua (ua (ua (ua (ua f (0 + 0) ((limb a 0 : Int) * limb b 0)) (0 + 1) ((limb a 0 : Int) * limb b 1)) (0 + 2) ((limb a 0 : Int) * limb b 2)) (1 + 0) ((limb a 1 : Int) * limb b 0)) (1 + 1) ((limb a 1 : Int) * limb b 1)) (1 + 2) ((limb a 1 : Int) * limb b 2)) (2 + 0) ((limb a 2 : Int) * limb b 0)) (2 + 1) ((limb a 2 : Int) * limb b 1)) (2 + 2) ((limb a 2 : Int) * limb b 2))
      (ua (ua (ua (ua (ua (ua (ua (ua (ua g (0 + 0) ((limb c 0 : Int) * limb d 0)) (0 + 1) ((limb c 0 : Int) * limb d 1)) (0 + 2) ((limb c 0 : Int) * limb d 2)) (1 + 0) ((limb c 1 : Int) * limb d 0)) (1 + 1) ((limb c 1 : Int) * limb d 1)) (1 + 2) ((limb c 1 : Int) * limb d 2)) (2 + 0) ((limb c 2 : Int) * limb d 0)) (2 + 1) ((limb c 2 : Int) * limb d 1)) (2 + 2) ((limb c 2 : Int) * limb d 2))) 0 := by
    unfold fX1_compared_L35
    show lp _ (69999 + 1) (J a, J b, J c, J d, nI 0, o2 τ f g) = _
    rw [lp_succ]
    show fX1_compared_B35 (o2 τ f g) _ (J a) (J b) (J c) (J d) (nI 0) = _
    unfold fX1_compared_B35
    rw [if_neg (show ¬ (3 : Int32) ≤ nI 0 by decide), c44_all τ _ ha hb hc hd (by omega)]
    show lp _ (69998 + 1) _ = _
    rw [lp_succ]
    show (if (3 : Int32) ≤ nI 1 then _ else _) = _
    rw [if_neg (show ¬ (3 : Int32) ≤ nI 1 by decide), c44_all τ _ ha hb hc hd (by omega)]
    show lp _ (69997 + 1) _ = _
    rw [lp_succ]
    show (if (3 : Int32) ≤ nI 2 then _ else _) = _
    rw [if_neg (show ¬ (3 : Int32) ≤ nI 2 by decide), c44_all τ _ ha hb hc hd (by omega)]
    show lp _ (69996 + 1) _ = _
    rw [lp_succ]
    show (if (3 : Int32) ≤ nI 3 then _ else _) = _
    rw [if_pos (show (3 : Int32) ≤ nI 3 by decide)]
  have i1 : Inv f (fun _ => 0) := fun m hm => (hf m hm).1
  have i2 : Inv g (fun _ => 0) := fun m hm => (hf m hm).2
  have lp2 : ∀ x y i j : Nat, 0 ≤ (limb x i : Int) * limb y j ∧ (limb x i : Int) * limb y j ≤ 4398046511104 := fun x y i j => by
    have l1 := limb_lt x i
    have l2 := limb_lt y j
    have l3 : limb x i * limb y j ≤ 2097152 * 2097152 := Nat.mul_le_mul (by omega) (by omega)
    have l4 : ((limb x i * limb y j : Nat) : Int) = (limb x i : Int) * limb y j := by simp
    omega
  have adb : ∀ (P : Nat → Int) (M : Int) (k : Nat) (x : Int), (∀ m, 0 ≤ P m ∧ P m ≤ M) → 0 ≤ x → x ≤ 4398046511104 → ∀ m, 0 ≤ ad P k x m ∧ ad P k x m ≤ M + 4398046511104 := fun P M k x h h0 h1 m => by
    unfold ad
    have := h m
    split <;> omega
  have zb : ∀ m : Nat, 0 ≤ (fun _ : Nat => (0 : Int)) m ∧ (fun _ : Nat => (0 : Int)) m ≤ 0 := fun m => ⟨Int.le_refl _, Int.le_refl _⟩
  have tot : ∀ x y : Nat, x < 9223372036854775808 → y < 9223372036854775808 → sB (ad (ad (ad (ad (ad (ad (ad (ad (ad (fun _ => 0) (0 + 0) ((limb x 0 : Int) * limb y 0)) (0 + 1) ((limb x 0 : Int) * limb y 1)) (0 + 2) ((limb x 0 : Int) * limb y 2)) (1 + 0) ((limb x 1 : Int) * limb y 0)) (1 + 1) ((limb x 1 : Int) * limb y 1)) (1 + 2) ((limb x 1 : Int) * limb y 2)) (2 + 0) ((limb x 2 : Int) * limb y 0)) (2 + 1) ((limb x 2 : Int) * limb y 1)) (2 + 2) ((limb x 2 : Int) * limb y 2)) 7 = (x : Int) * y := by
    intro x y hx hy
    rw [sB_ad (by omega), sB_ad (by omega), sB_ad (by omega), sB_ad (by omega), sB_ad (by omega), sB_ad (by omega), sB_ad (by omega), sB_ad (by omega), sB_ad (by omega)]
    rw [show sB (fun _ => 0) 7 = 0 by decide]
    conv => rhs; rw [← limb_val hx, ← limb_val hy]
    simp only [Int.add_mul, Int.mul_add]
    generalize (limb x 0 : Int) = x0
    generalize (limb x 1 : Int) = x1
    generalize (limb x 2 : Int) = x2
    generalize (limb y 0 : Int) = y0
    generalize (limb y 1 : Int) = y1
    generalize (limb y 2 : Int) = y2
    rw [show x0 * (y1 * 2097152) = x0 * y1 * 2097152 by rw [Int.mul_assoc], show x0 * (y2 * 4398046511104) = x0 * y2 * 4398046511104 by rw [Int.mul_assoc]]
    rw [show x1 * 2097152 * y0 = x1 * y0 * 2097152 by rw [Int.mul_assoc, Int.mul_assoc, Int.mul_comm 2097152], show x1 * 2097152 * (y1 * 2097152) = x1 * y1 * 4398046511104 by rw [Int.mul_assoc, Int.mul_assoc, Int.mul_left_comm 2097152]; rfl, show x1 * 2097152 * (y2 * 4398046511104) = x1 * y2 * 9223372036854775808 by rw [Int.mul_assoc, Int.mul_assoc, Int.mul_left_comm 2097152]; rfl]
    rw [show x2 * 4398046511104 * y0 = x2 * y0 * 4398046511104 by rw [Int.mul_assoc, Int.mul_assoc, Int.mul_comm 4398046511104], show x2 * 4398046511104 * (y1 * 2097152) = x2 * y1 * 9223372036854775808 by rw [Int.mul_assoc, Int.mul_assoc, Int.mul_left_comm 4398046511104]; rfl, show x2 * 4398046511104 * (y2 * 4398046511104) = x2 * y2 * 19342813113834066795298816 by rw [Int.mul_assoc, Int.mul_assoc, Int.mul_left_comm 4398046511104]; rfl]
    generalize x0 * y0 = p00
    generalize x0 * y1 = p01
    generalize x0 * y2 = p02
    generalize x1 * y0 = p10
    generalize x1 * y1 = p11
    generalize x1 * y2 = p12
    generalize x2 * y0 = p20
    generalize x2 * y1 = p21
    generalize x2 * y2 = p22
    show 0 + p00 * 1 + p01 * 2097152 + p02 * 4398046511104 + p10 * 2097152 + p11 * 4398046511104 + p12 * 9223372036854775808 + p20 * 4398046511104 + p21 * 9223372036854775808 + p22 * 19342813113834066795298816 = _
    omega
  refine ⟨_, _, _, _, Inv_ua (Inv_ua (Inv_ua (Inv_ua (Inv_ua (Inv_ua (Inv_ua (Inv_ua (Inv_ua i1 (by omega) _) (by omega) _) (by omega) _) (by omega) _) (by omega) _) (by omega) _) (by omega) _) (by omega) _) (by omega) _, Inv_ua (Inv_ua (Inv_ua (Inv_ua (Inv_ua (Inv_ua (Inv_ua (Inv_ua (Inv_ua i2 (by omega) _) (by omega) _) (by omega) _) (by omega) _) (by omega) _) (by omega) _) (by omega) _) (by omega) _) (by omega) _, ?_, ?_, tot a b ha hb, tot c d hc hd, z⟩
  · intro m
    have := adb _ _ (2 + 2) _ (adb _ _ (2 + 1) _ (adb _ _ (2 + 0) _ (adb _ _ (1 + 2) _ (adb _ _ (1 + 1) _ (adb _ _ (1 + 0) _ (adb _ _ (0 + 2) _ (adb _ _ (0 + 1) _ (adb _ _ (0 + 0) _ zb (lp2 a b 0 0).1 (lp2 a b 0 0).2) (lp2 a b 0 1).1 (lp2 a b 0 1).2) (lp2 a b 0 2).1 (lp2 a b 0 2).2) (lp2 a b 1 0).1 (lp2 a b 1 0).2) (lp2 a b 1 1).1 (lp2 a b 1 1).2) (lp2 a b 1 2).1 (lp2 a b 1 2).2) (lp2 a b 2 0).1 (lp2 a b 2 0).2) (lp2 a b 2 1).1 (lp2 a b 2 1).2) (lp2 a b 2 2).1 (lp2 a b 2 2).2 m
    exact ⟨this.1, Int.le_trans this.2 (by decide)⟩
  · intro m
    have := adb _ _ (2 + 2) _ (adb _ _ (2 + 1) _ (adb _ _ (2 + 0) _ (adb _ _ (1 + 2) _ (adb _ _ (1 + 1) _ (adb _ _ (1 + 0) _ (adb _ _ (0 + 2) _ (adb _ _ (0 + 1) _ (adb _ _ (0 + 0) _ zb (lp2 c d 0 0).1 (lp2 c d 0 0).2) (lp2 c d 0 1).1 (lp2 c d 0 1).2) (lp2 c d 0 2).1 (lp2 c d 0 2).2) (lp2 c d 1 0).1 (lp2 c d 1 0).2) (lp2 c d 1 1).1 (lp2 c d 1 1).2) (lp2 c d 1 2).1 (lp2 c d 1 2).2) (lp2 c d 2 0).1 (lp2 c d 2 0).2) (lp2 c d 2 1).1 (lp2 c d 2 1).2) (lp2 c d 2 2).1 (lp2 c d 2 2).2 m
    exact ⟨this.1, Int.le_trans this.2 (by decide)⟩
