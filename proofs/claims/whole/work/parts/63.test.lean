/-! PURE: test: ways to part -/
def Wr (T : Nat → Nat) : Nat → Int → Nat → Nat → Nat
  | _, least, 0, _ => if 0 < least then 0 else 1
  | 0, _, _ + 1, _ => 0
  | d + 1, least, m + 1, f => Wr T d (least - T f) m (f + 1) + Wr T d least (m + 1) (f + 1)
theorem Wr_0 (T : Nat → Nat) (d : Nat) (l : Int) (f : Nat) : Wr T d l 0 f = if 0 < l then 0 else 1 := by cases d <;> rfl
theorem Wr_s (T : Nat → Nat) (d : Nat) (l : Int) (m f : Nat) : Wr T (d + 1) l (m + 1) f = Wr T d (l - T f) m (f + 1) + Wr T d l (m + 1) (f + 1) := rfl
theorem Wr_gt (T : Nat → Nat) : ∀ (d : Nat) (l : Int) (m f : Nat), d < m → Wr T d l m f = 0 := by
  intro d
  induction d with
  | zero =>
    intro l m f h
    cases m with
    | zero => omega
    | succ m => rfl
  | succ d ih =>
    intro l m f h
    cases m with
    | zero => omega
    | succ m => rw [Wr_s, ih _ _ _ (by omega), ih _ _ _ (by omega)]
theorem Wr_le (T : Nat → Nat) : ∀ (d : Nat) (l : Int) (m f : Nat), Wr T d l m f ≤ ch d m := by
  intro d
  induction d with
  | zero =>
    intro l m f
    cases m with
    | zero => rw [Wr_0, ch_0]; split <;> omega
    | succ m => exact Nat.le_refl _
  | succ d ih =>
    intro l m f
    cases m with
    | zero => rw [Wr_0, ch_0]; split <;> omega
    | succ m =>
      have h1 := ih (l - T f) m (f + 1)
      have h2 := ih l (m + 1) (f + 1)
      rw [Wr_s, ch_s]
      omega
/-! the class's -/
theorem wtr (σ : CS) {T : Nat → Nat} {E : Nat} (hE : E ≤ 16) (hT : ∀ i, i < E → T i ≤ 1000000 ∧ c_things σ i = J (T i : Int)) : ∀ (d f m fuel : Nat) (l : Int), f + d = E → m ≤ 16 → d < fuel → -16000000 + 1000000 * (d : Int) ≤ l → l ≤ 8000001 → fX0_waysToReach σ fuel (J l) (nI m) (nI f) (nI E) = some (nI (Wr T d l m f)) := by
  intro d
  induction d with
  | zero =>
    intro f m fuel l hf hm hfu h1 h2
    obtain ⟨fuel, rfl⟩ : ∃ g, fuel = g + 1 := ⟨fuel - 1, by omega⟩
    show fX0_waysToReach_b σ (fX0_waysToReach σ fuel) (J l) (nI m) (nI f) (nI E) = _
    unfold fX0_waysToReach_b
    cases m with
    | zero =>
      rw [if_neg (show ¬ (1 : Int32) ≤ nI 0 by decide), Wr_0, J_0]
      by_cases z : 0 < l
      · rw [if_pos ((J_lt nw_0 (by unfold nw; omega)).mpr z), if_pos z]; rfl
      · rw [if_neg (fun q => z ((J_lt nw_0 (by unfold nw; omega)).mp q)), if_neg z]; rfl
    | succ m =>
      have : f = E := by omega
      subst this
      rw [if_pos (show (1 : Int32) ≤ nI (m + 1) from nI_le (a := 1) (by omega) (by omega)), nI_subN (Nat.le_refl f) (by omega), if_pos (nI_lt (by omega) (by omega))]
      rfl
  | succ d ih =>
    intro f m fuel l hf hm hfu h1 h2
    obtain ⟨fuel, rfl⟩ : ∃ g, fuel = g + 1 := ⟨fuel - 1, by omega⟩
    show fX0_waysToReach_b σ (fX0_waysToReach σ fuel) (J l) (nI m) (nI f) (nI E) = _
    unfold fX0_waysToReach_b
    cases m with
    | zero =>
      rw [if_neg (show ¬ (1 : Int32) ≤ nI 0 by decide), Wr_0, J_0]
      by_cases z : 0 < l
      · rw [if_pos ((J_lt nw_0 (by unfold nw; omega)).mpr z), if_pos z]; rfl
      · rw [if_neg (fun q => z ((J_lt nw_0 (by unfold nw; omega)).mp q)), if_neg z]; rfl
    | succ m =>
      obtain ⟨t1, t2⟩ := hT f (by omega)
      rw [if_pos (show (1 : Int32) ≤ nI (m + 1) from nI_le (a := 1) (by omega) (by omega)), nI_subN (show f ≤ E by omega) (by omega), show E - f = d + 1 by omega]
      by_cases z : d + 1 < m + 1
      · rw [if_pos (nI_lt z (by omega)), Wr_gt T (d + 1) l (m + 1) f z]
        rfl
      · rw [if_neg (show ¬ nI (d + 1) < nI (m + 1) from fun q => by
          have := i_lt.mp q
          rw [nI_toInt (by omega), nI_toInt (by omega)] at this
          omega), if_pos (show nI f < (16 : Int32) from nI_lt (b := 16) (by omega) (by omega)), if_pos (nI_ix (show f < 16 by omega) (by omega)), nI_toNat (by omega), t2, J_sub, nI_pred, nI_1, ih (f + 1) m fuel (l - T f) (by omega) (by omega) (by omega) (by omega) (by omega), ih (f + 1) (m + 1) fuel l (by omega) (by omega) (by omega) (by omega) (by omega), Option.bind_some, Option.bind_some, nI_add, Wr_s]
/-! sets as numbers -/
def SS (g : Nat → Nat) : Nat → Nat
  | 0 => 0
  | n + 1 => SS g n + g n
theorem SS_congr {g h : Nat → Nat} : ∀ n, (∀ s, s < n → g s = h s) → SS g n = SS h n := by
  intro n
  induction n with
  | zero => intro _; rfl
  | succ n ih =>
    intro q
    show SS g n + g n = SS h n + h n
    rw [ih (fun s hs => q s (by omega)), q n (by omega)]
theorem SS_add (g h : Nat → Nat) : ∀ n, SS (fun s => g s + h s) n = SS g n + SS h n := by
  intro n
  induction n with
  | zero => rfl
  | succ n ih =>
    show SS (fun s => g s + h s) n + (g n + h n) = SS g n + g n + (SS h n + h n)
    rw [ih]
    omega
theorem SS_two (g : Nat → Nat) : ∀ n, SS g (2 * n) = SS (fun s => g (2 * s) + g (2 * s + 1)) n := by
  intro n
  induction n with
  | zero => rfl
  | succ n ih =>
    show SS g (2 * n) + g (2 * n) + g (2 * n + 1) = SS (fun s => g (2 * s) + g (2 * s + 1)) n + (g (2 * n) + g (2 * n + 1))
    rw [ih]
    omega
theorem SS_zero (n : Nat) : SS (fun _ => 0) n = 0 := by
  induction n with
  | zero => rfl
  | succ n ih =>
    show SS (fun _ => 0) n + 0 = 0
    rw [ih]
theorem SS_le {g h : Nat → Nat} (q : ∀ s, g s ≤ h s) : ∀ n, SS g n ≤ SS h n := by
  intro n
  induction n with
  | zero => exact Nat.le_refl _
  | succ n ih =>
    have := q n
    show SS g n + g n ≤ SS h n + h n
    omega
theorem SS_mono (g : Nat → Nat) (m : Nat) : ∀ d, SS g m ≤ SS g (m + d) := by
  intro d
  induction d with
  | zero => exact Nat.le_refl _
  | succ d ih =>
    show _ ≤ SS g (m + d) + g (m + d)
    omega
def pc : Nat → Nat → Nat
  | 0, _ => 0
  | d + 1, s => s % 2 + pc d (s / 2)
def sm (T : Nat → Nat) : Nat → Nat → Nat → Nat
  | 0, _, _ => 0
  | d + 1, f, s => s % 2 * T f + sm T d (f + 1) (s / 2)
def iA (d m : Nat) (s : Nat) : Nat := if pc d s = m then 1 else 0
def iN (T : Nat → Nat) (d f m : Nat) (l : Int) (s : Nat) : Nat := if pc d s = m then (if (sm T d f s : Int) < l then 0 else 1) else 0
def iJ (T : Nat → Nat) (d f m : Nat) (l : Int) (s : Nat) : Nat := if pc d s = m then (if (sm T d f s : Int) = l then 1 else 0) else 0
theorem pc_e (d s : Nat) : pc (d + 1) (2 * s) = pc d s := by
  show 2 * s % 2 + pc d (2 * s / 2) = pc d s
  rw [show 2 * s / 2 = s by omega]
  omega
theorem pc_o (d s : Nat) : pc (d + 1) (2 * s + 1) = pc d s + 1 := by
  show (2 * s + 1) % 2 + pc d ((2 * s + 1) / 2) = pc d s + 1
  rw [show (2 * s + 1) / 2 = s by omega]
  omega
theorem sm_e (T : Nat → Nat) (d f s : Nat) : sm T (d + 1) f (2 * s) = sm T d (f + 1) s := by
  show 2 * s % 2 * T f + sm T d (f + 1) (2 * s / 2) = _
  rw [show 2 * s / 2 = s by omega, show 2 * s % 2 = 0 by omega, Nat.zero_mul]
  omega
theorem sm_o (T : Nat → Nat) (d f s : Nat) : sm T (d + 1) f (2 * s + 1) = T f + sm T d (f + 1) s := by
  show (2 * s + 1) % 2 * T f + sm T d (f + 1) ((2 * s + 1) / 2) = _
  rw [show (2 * s + 1) / 2 = s by omega, show (2 * s + 1) % 2 = 1 by omega, Nat.one_mul]
theorem cA : ∀ d m, SS (iA d m) (2 ^ d) = ch d m := by
  intro d
  induction d with
  | zero =>
    intro m
    show 0 + iA 0 m 0 = ch 0 m
    unfold iA pc
    cases m with
    | zero => rw [if_pos rfl, ch_0]
    | succ m => rw [if_neg (by omega), ch_gt 0 (m + 1) (by omega)]
  | succ d ih =>
    intro m
    rw [Nat.pow_succ, Nat.mul_comm, SS_two]
    cases m with
    | zero =>
      rw [SS_congr (h := iA d 0) _ (fun s _ => by
        unfold iA
        rw [pc_e, pc_o]
        split <;> simp), ih, ch_0, ch_0]
    | succ m =>
      rw [SS_congr (h := fun s => iA d (m + 1) s + iA d m s) _ (fun s _ => by
        unfold iA
        rw [pc_e, pc_o]
        congr 1
        by_cases z : pc d s = m
        · rw [if_pos z, if_pos (by omega)]
        · rw [if_neg z, if_neg (by omega)]), SS_add, ih, ih, ch_s]
      omega
theorem cN (T : Nat → Nat) : ∀ (d f m : Nat) (l : Int), SS (iN T d f m l) (2 ^ d) = Wr T d l m f := by
  intro d
  induction d with
  | zero =>
    intro f m l
    show 0 + iN T 0 f m l 0 = _
    unfold iN pc sm
    cases m with
    | zero =>
      rw [if_pos rfl, Wr_0]
      by_cases z : 0 < l
      · rw [if_pos z, if_pos (by omega)]
      · rw [if_neg z, if_neg (by omega)]
    | succ m =>
      rw [if_neg (by omega)]
      rfl
  | succ d ih =>
    intro f m l
    rw [Nat.pow_succ, Nat.mul_comm, SS_two]
    cases m with
    | zero =>
      rw [SS_congr (h := iN T d (f + 1) 0 l) _ (fun s _ => by
        unfold iN
        rw [pc_e, pc_o, sm_e, if_neg (show ¬ pc d s + 1 = 0 by omega)]
        rfl), ih, Wr_0, Wr_0]
    | succ m =>
      rw [SS_congr (h := fun s => iN T d (f + 1) (m + 1) l s + iN T d (f + 1) m (l - T f) s) _ (fun s _ => by
        unfold iN
        rw [pc_e, pc_o, sm_e, sm_o]
        congr 1
        by_cases z : pc d s = m
        · rw [if_pos z, if_pos (show pc d s + 1 = m + 1 by omega)]
          by_cases y : ((T f + sm T d (f + 1) s : Nat) : Int) < l
          · rw [if_pos y, if_pos (by omega)]
          · rw [if_neg y, if_neg (by omega)]
        · rw [if_neg z, if_neg (by omega)]), SS_add, ih, ih, Wr_s]
      omega
theorem cJ (T : Nat → Nat) (d f m : Nat) (l : Int) : SS (iJ T d f m l) (2 ^ d) + Wr T d (l + 1) m f = Wr T d l m f := by
  rw [← cN, ← cN, ← SS_add]
  apply SS_congr
  intro s _
  show iJ T d f m l s + iN T d f m (l + 1) s = iN T d f m l s
  unfold iJ iN
  by_cases z : pc d s = m
  · rw [if_pos z, if_pos z, if_pos z]
    by_cases y : (sm T d f s : Int) = l
    · rw [if_pos y, if_pos (by omega), if_neg (by omega)]
    · rw [if_neg y]
      by_cases x : (sm T d f s : Int) < l
      · rw [if_pos x, if_pos (by omega)]
      · rw [if_neg x, if_neg (by omega)]
  · rw [if_neg z, if_neg z, if_neg z]
/-! bits -/
theorem I_bv {n : Nat} (h : n < 2147483648) : (nI n).toBitVec.toNat = n := by
  have h1 : (nI n).toBitVec = BitVec.ofNat 32 n := rfl
  rw [h1, BitVec.toNat_ofNat]
  omega
theorem and_I {n : Nat} (h : n < 2147483648) : nI n &&& (1 : Int32) = nI (n % 2) := by
  apply Int32.toBitVec.inj
  apply BitVec.eq_of_toNat_eq
  rw [I_bv (by omega), show (nI n &&& (1 : Int32)).toBitVec = (nI n).toBitVec &&& (1 : Int32).toBitVec from rfl, BitVec.toNat_and, I_bv h, show (1 : Int32).toBitVec.toNat = 2 ^ 1 - 1 by decide, Nat.and_two_pow_sub_one_eq_mod]
theorem shr_I {n : Nat} (h : n < 2147483648) (s : Int32) (k : Nat) (hs : (s.toBitVec.smod 32).toNat = k) : nI n >>> s = nI (n / 2 ^ k) := by
  rw [← Int32.toInt_inj]
  have e1 : (nI n >>> s).toInt = ((nI n).toBitVec.sshiftRight' (s.toBitVec.smod 32)).toInt := rfl
  have e3 : n / 2 ^ k ≤ n := Nat.div_le_self _ _
  rw [e1, BitVec.toInt_sshiftRight', hs, nI_toInt (by omega), show (nI n).toBitVec.toInt = (nI n).toInt from rfl, nI_toInt (by omega), Int.shiftRight_eq_div_pow]
  rfl
theorem sh_k : ∀ k, k < 16 → ((nI k &&& 31).toBitVec.smod 32).toNat = k := by decide
theorem one_E : ∀ E, E < 17 → (1 : Int32) <<< (nI E &&& 31) = nI (2 ^ E) := by decide
theorem bit_I {s k : Nat} (hs : s < 65536) (hk : k < 16) : (nI s >>> (nI k &&& 31)) &&& (1 : Int32) = nI (s / 2 ^ k % 2) := by
  have e3 : s / 2 ^ k ≤ s := Nat.div_le_self _ _
  rw [shr_I (by omega) _ k (sh_k k hk), and_I (by omega)]
/-! PURE: test, the loops -/
def w4 (σ : CS) (th : Nat → Int64) (nb al ju : Int32) : CS := sc_waysWithJustThat (sc_waysInAll (sc_waysNotBelow (sc_things σ th) nb) al) ju
def t4 (τ : MS) (it nb al ju : Int32) : MS := sm_isTested (sm_just (sm_all (sm_notBelow τ nb) al) ju) it
theorem w_above (σ : CS) (th : Nat → Int64) (nb al ju : Int32) : c_above (w4 σ th nb al ju) = c_above σ := by
  obtain ⟨b1, b2, b3, b4, b5, b6, b7, b8, b9, b10, b11, b12, b13⟩ := σ
  exact Eq.trans (b := b1) rfl rfl
theorem w_below (σ : CS) (th : Nat → Int64) (nb al ju : Int32) : c_below (w4 σ th nb al ju) = c_below σ := by
  obtain ⟨b1, b2, b3, b4, b5, b6, b7, b8, b9, b10, b11, b12, b13⟩ := σ
  exact Eq.trans (b := b2) rfl rfl
theorem w_numbers (σ : CS) (th : Nat → Int64) (nb al ju : Int32) : c_numbers (w4 σ th nb al ju) = c_numbers σ := by
  obtain ⟨b1, b2, b3, b4, b5, b6, b7, b8, b9, b10, b11, b12, b13⟩ := σ
  exact Eq.trans (b := b3) rfl rfl
theorem w_grown (σ : CS) (th : Nat → Int64) (nb al ju : Int32) : c_grown (w4 σ th nb al ju) = c_grown σ := by
  obtain ⟨b1, b2, b3, b4, b5, b6, b7, b8, b9, b10, b11, b12, b13⟩ := σ
  exact Eq.trans (b := b4) rfl rfl
theorem w_values (σ : CS) (th : Nat → Int64) (nb al ju : Int32) : c_values (w4 σ th nb al ju) = c_values σ := by
  obtain ⟨b1, b2, b3, b4, b5, b6, b7, b8, b9, b10, b11, b12, b13⟩ := σ
  exact Eq.trans (b := b5) rfl rfl
theorem w_sizes (σ : CS) (th : Nat → Int64) (nb al ju : Int32) : c_sizes (w4 σ th nb al ju) = c_sizes σ := by
  obtain ⟨b1, b2, b3, b4, b5, b6, b7, b8, b9, b10, b11, b12, b13⟩ := σ
  exact Eq.trans (b := b6) rfl rfl
theorem w_seatsGiven (σ : CS) (th : Nat → Int64) (nb al ju : Int32) : c_seatsGiven (w4 σ th nb al ju) = c_seatsGiven σ := by
  obtain ⟨b1, b2, b3, b4, b5, b6, b7, b8, b9, b10, b11, b12, b13⟩ := σ
  exact Eq.trans (b := b7) rfl rfl
theorem w_remainders (σ : CS) (th : Nat → Int64) (nb al ju : Int32) : c_remainders (w4 σ th nb al ju) = c_remainders σ := by
  obtain ⟨b1, b2, b3, b4, b5, b6, b7, b8, b9, b10, b11, b12, b13⟩ := σ
  exact Eq.trans (b := b8) rfl rfl
theorem w_seatsGivenTo (σ : CS) (th : Nat → Int64) (nb al ju : Int32) : c_seatsGivenTo (w4 σ th nb al ju) = c_seatsGivenTo σ := by
  obtain ⟨b1, b2, b3, b4, b5, b6, b7, b8, b9, b10, b11, b12, b13⟩ := σ
  exact Eq.trans (b := b9) rfl rfl
theorem w_things (σ : CS) (th : Nat → Int64) (nb al ju : Int32) : c_things (w4 σ th nb al ju) = th := by
  obtain ⟨b1, b2, b3, b4, b5, b6, b7, b8, b9, b10, b11, b12, b13⟩ := σ
  exact Eq.trans (b := th) rfl rfl
theorem w_waysNotBelow (σ : CS) (th : Nat → Int64) (nb al ju : Int32) : c_waysNotBelow (w4 σ th nb al ju) = nb := by
  obtain ⟨b1, b2, b3, b4, b5, b6, b7, b8, b9, b10, b11, b12, b13⟩ := σ
  exact Eq.trans (b := nb) rfl rfl
theorem w_waysInAll (σ : CS) (th : Nat → Int64) (nb al ju : Int32) : c_waysInAll (w4 σ th nb al ju) = al := by
  obtain ⟨b1, b2, b3, b4, b5, b6, b7, b8, b9, b10, b11, b12, b13⟩ := σ
  exact Eq.trans (b := al) rfl rfl
theorem w_waysWithJustThat (σ : CS) (th : Nat → Int64) (nb al ju : Int32) : c_waysWithJustThat (w4 σ th nb al ju) = ju := by
  obtain ⟨b1, b2, b3, b4, b5, b6, b7, b8, b9, b10, b11, b12, b13⟩ := σ
  exact Eq.trans (b := ju) rfl rfl
theorem t_upper (τ : MS) (it nb al ju : Int32) : m_upper (t4 τ it nb al ju) = m_upper τ := by
  obtain ⟨b1, b2, b3, b4, b5, b6, b7, b8, b9, b10, b11, b12, b13, b14, b15, b16, b17⟩ := τ
  exact Eq.trans (b := b1) rfl rfl
theorem t_lower (τ : MS) (it nb al ju : Int32) : m_lower (t4 τ it nb al ju) = m_lower τ := by
  obtain ⟨b1, b2, b3, b4, b5, b6, b7, b8, b9, b10, b11, b12, b13, b14, b15, b16, b17⟩ := τ
  exact Eq.trans (b := b2) rfl rfl
theorem t_numbers (τ : MS) (it nb al ju : Int32) : m_numbers (t4 τ it nb al ju) = m_numbers τ := by
  obtain ⟨b1, b2, b3, b4, b5, b6, b7, b8, b9, b10, b11, b12, b13, b14, b15, b16, b17⟩ := τ
  exact Eq.trans (b := b3) rfl rfl
theorem t_grown (τ : MS) (it nb al ju : Int32) : m_grown (t4 τ it nb al ju) = m_grown τ := by
  obtain ⟨b1, b2, b3, b4, b5, b6, b7, b8, b9, b10, b11, b12, b13, b14, b15, b16, b17⟩ := τ
  exact Eq.trans (b := b4) rfl rfl
theorem t_thrown (τ : MS) (it nb al ju : Int32) : m_thrown (t4 τ it nb al ju) = m_thrown τ := by
  obtain ⟨b1, b2, b3, b4, b5, b6, b7, b8, b9, b10, b11, b12, b13, b14, b15, b16, b17⟩ := τ
  exact Eq.trans (b := b5) rfl rfl
theorem t_isWide (τ : MS) (it nb al ju : Int32) : m_isWide (t4 τ it nb al ju) = m_isWide τ := by
  obtain ⟨b1, b2, b3, b4, b5, b6, b7, b8, b9, b10, b11, b12, b13, b14, b15, b16, b17⟩ := τ
  exact Eq.trans (b := b6) rfl rfl
theorem t_value (τ : MS) (it nb al ju : Int32) : m_value (t4 τ it nb al ju) = m_value τ := by
  obtain ⟨b1, b2, b3, b4, b5, b6, b7, b8, b9, b10, b11, b12, b13, b14, b15, b16, b17⟩ := τ
  exact Eq.trans (b := b7) rfl rfl
theorem t_many (τ : MS) (it nb al ju : Int32) : m_many (t4 τ it nb al ju) = m_many τ := by
  obtain ⟨b1, b2, b3, b4, b5, b6, b7, b8, b9, b10, b11, b12, b13, b14, b15, b16, b17⟩ := τ
  exact Eq.trans (b := b8) rfl rfl
theorem t_seated (τ : MS) (it nb al ju : Int32) : m_seated (t4 τ it nb al ju) = m_seated τ := by
  obtain ⟨b1, b2, b3, b4, b5, b6, b7, b8, b9, b10, b11, b12, b13, b14, b15, b16, b17⟩ := τ
  exact Eq.trans (b := b9) rfl rfl
theorem t_seat (τ : MS) (it nb al ju : Int32) : m_seat (t4 τ it nb al ju) = m_seat τ := by
  obtain ⟨b1, b2, b3, b4, b5, b6, b7, b8, b9, b10, b11, b12, b13, b14, b15, b16, b17⟩ := τ
  exact Eq.trans (b := b10) rfl rfl
theorem t_left (τ : MS) (it nb al ju : Int32) : m_left (t4 τ it nb al ju) = m_left τ := by
  obtain ⟨b1, b2, b3, b4, b5, b6, b7, b8, b9, b10, b11, b12, b13, b14, b15, b16, b17⟩ := τ
  exact Eq.trans (b := b11) rfl rfl
theorem t_isTested (τ : MS) (it nb al ju : Int32) : m_isTested (t4 τ it nb al ju) = it := by
  obtain ⟨b1, b2, b3, b4, b5, b6, b7, b8, b9, b10, b11, b12, b13, b14, b15, b16, b17⟩ := τ
  exact Eq.trans (b := it) rfl rfl
theorem t_notBelow (τ : MS) (it nb al ju : Int32) : m_notBelow (t4 τ it nb al ju) = nb := by
  obtain ⟨b1, b2, b3, b4, b5, b6, b7, b8, b9, b10, b11, b12, b13, b14, b15, b16, b17⟩ := τ
  exact Eq.trans (b := nb) rfl rfl
theorem t_all (τ : MS) (it nb al ju : Int32) : m_all (t4 τ it nb al ju) = al := by
  obtain ⟨b1, b2, b3, b4, b5, b6, b7, b8, b9, b10, b11, b12, b13, b14, b15, b16, b17⟩ := τ
  exact Eq.trans (b := al) rfl rfl
theorem t_just (τ : MS) (it nb al ju : Int32) : m_just (t4 τ it nb al ju) = ju := by
  obtain ⟨b1, b2, b3, b4, b5, b6, b7, b8, b9, b10, b11, b12, b13, b14, b15, b16, b17⟩ := τ
  exact Eq.trans (b := ju) rfl rfl
theorem t_one (τ : MS) (it nb al ju : Int32) : m_one (t4 τ it nb al ju) = m_one τ := by
  obtain ⟨b1, b2, b3, b4, b5, b6, b7, b8, b9, b10, b11, b12, b13, b14, b15, b16, b17⟩ := τ
  exact Eq.trans (b := b16) rfl rfl
theorem t_two (τ : MS) (it nb al ju : Int32) : m_two (t4 τ it nb al ju) = m_two τ := by
  obtain ⟨b1, b2, b3, b4, b5, b6, b7, b8, b9, b10, b11, b12, b13, b14, b15, b16, b17⟩ := τ
  exact Eq.trans (b := b17) rfl rfl
theorem w_b1_s (σ : CS) (th : Nat → Int64) (nb al ju : Int32) (x : Nat → Int64) : sc_things (w4 σ th nb al ju) x = w4 σ x nb al ju := by
  obtain ⟨b1, b2, b3, b4, b5, b6, b7, b8, b9, b10, b11, b12, b13⟩ := σ
  exact Eq.trans (b := ((b1, b2, b3, b4, b5, b6, b7, b8, b9, x, nb, al, ju) : CS)) rfl rfl
theorem w_b1 {β : Type} (σ : CS) (th : Nat → Int64) (nb al ju : Int32) (x : Nat → Int64) (kk : CS → Option β) : bd (sc_things (w4 σ th nb al ju) x) kk = kk (w4 σ x nb al ju) := by unfold bd; rw [w_b1_s]
theorem w_b2_s (σ : CS) (th : Nat → Int64) (nb al ju : Int32) (x : Int32) : sc_waysNotBelow (w4 σ th nb al ju) x = w4 σ th x al ju := by
  obtain ⟨b1, b2, b3, b4, b5, b6, b7, b8, b9, b10, b11, b12, b13⟩ := σ
  exact Eq.trans (b := ((b1, b2, b3, b4, b5, b6, b7, b8, b9, th, x, al, ju) : CS)) rfl rfl
theorem w_b2 {β : Type} (σ : CS) (th : Nat → Int64) (nb al ju : Int32) (x : Int32) (kk : CS → Option β) : bd (sc_waysNotBelow (w4 σ th nb al ju) x) kk = kk (w4 σ th x al ju) := by unfold bd; rw [w_b2_s]
theorem w_b3_s (σ : CS) (th : Nat → Int64) (nb al ju : Int32) (x : Int32) : sc_waysInAll (w4 σ th nb al ju) x = w4 σ th nb x ju := by
  obtain ⟨b1, b2, b3, b4, b5, b6, b7, b8, b9, b10, b11, b12, b13⟩ := σ
  exact Eq.trans (b := ((b1, b2, b3, b4, b5, b6, b7, b8, b9, th, nb, x, ju) : CS)) rfl rfl
theorem w_b3 {β : Type} (σ : CS) (th : Nat → Int64) (nb al ju : Int32) (x : Int32) (kk : CS → Option β) : bd (sc_waysInAll (w4 σ th nb al ju) x) kk = kk (w4 σ th nb x ju) := by unfold bd; rw [w_b3_s]
theorem w_b4_s (σ : CS) (th : Nat → Int64) (nb al ju : Int32) (x : Int32) : sc_waysWithJustThat (w4 σ th nb al ju) x = w4 σ th nb al x := by
  obtain ⟨b1, b2, b3, b4, b5, b6, b7, b8, b9, b10, b11, b12, b13⟩ := σ
  exact Eq.trans (b := ((b1, b2, b3, b4, b5, b6, b7, b8, b9, th, nb, al, x) : CS)) rfl rfl
theorem w_b4 {β : Type} (σ : CS) (th : Nat → Int64) (nb al ju : Int32) (x : Int32) (kk : CS → Option β) : bd (sc_waysWithJustThat (w4 σ th nb al ju) x) kk = kk (w4 σ th nb al x) := by unfold bd; rw [w_b4_s]
theorem t_b1_s (τ : MS) (it nb al ju : Int32) (x : Int32) : sm_isTested (t4 τ it nb al ju) x = t4 τ x nb al ju := by
  obtain ⟨b1, b2, b3, b4, b5, b6, b7, b8, b9, b10, b11, b12, b13, b14, b15, b16, b17⟩ := τ
  exact Eq.trans (b := ((b1, b2, b3, b4, b5, b6, b7, b8, b9, b10, b11, x, nb, al, ju, b16, b17) : MS)) rfl rfl
theorem t_b1 {β : Type} (τ : MS) (it nb al ju : Int32) (x : Int32) (kk : MS → Option β) : bd (sm_isTested (t4 τ it nb al ju) x) kk = kk (t4 τ x nb al ju) := by unfold bd; rw [t_b1_s]
theorem t_b2_s (τ : MS) (it nb al ju : Int32) (x : Int32) : sm_notBelow (t4 τ it nb al ju) x = t4 τ it x al ju := by
  obtain ⟨b1, b2, b3, b4, b5, b6, b7, b8, b9, b10, b11, b12, b13, b14, b15, b16, b17⟩ := τ
  exact Eq.trans (b := ((b1, b2, b3, b4, b5, b6, b7, b8, b9, b10, b11, it, x, al, ju, b16, b17) : MS)) rfl rfl
theorem t_b2 {β : Type} (τ : MS) (it nb al ju : Int32) (x : Int32) (kk : MS → Option β) : bd (sm_notBelow (t4 τ it nb al ju) x) kk = kk (t4 τ it x al ju) := by unfold bd; rw [t_b2_s]
theorem t_b3_s (τ : MS) (it nb al ju : Int32) (x : Int32) : sm_all (t4 τ it nb al ju) x = t4 τ it nb x ju := by
  obtain ⟨b1, b2, b3, b4, b5, b6, b7, b8, b9, b10, b11, b12, b13, b14, b15, b16, b17⟩ := τ
  exact Eq.trans (b := ((b1, b2, b3, b4, b5, b6, b7, b8, b9, b10, b11, it, nb, x, ju, b16, b17) : MS)) rfl rfl
theorem t_b3 {β : Type} (τ : MS) (it nb al ju : Int32) (x : Int32) (kk : MS → Option β) : bd (sm_all (t4 τ it nb al ju) x) kk = kk (t4 τ it nb x ju) := by unfold bd; rw [t_b3_s]
theorem t_b4_s (τ : MS) (it nb al ju : Int32) (x : Int32) : sm_just (t4 τ it nb al ju) x = t4 τ it nb al x := by
  obtain ⟨b1, b2, b3, b4, b5, b6, b7, b8, b9, b10, b11, b12, b13, b14, b15, b16, b17⟩ := τ
  exact Eq.trans (b := ((b1, b2, b3, b4, b5, b6, b7, b8, b9, b10, b11, it, nb, al, x, b16, b17) : MS)) rfl rfl
theorem t_b4 {β : Type} (τ : MS) (it nb al ju : Int32) (x : Int32) (kk : MS → Option β) : bd (sm_just (t4 τ it nb al ju) x) kk = kk (t4 τ it nb al x) := by unfold bd; rw [t_b4_s]
theorem w_b0 {β : Type} (σ : CS) (x : Nat → Int64) (kk : CS → Option β) : bd (sc_things σ x) kk = kk (w4 σ x (c_waysNotBelow σ) (c_waysInAll σ) (c_waysWithJustThat σ)) := by
  have e : sc_things σ x = w4 σ x (c_waysNotBelow σ) (c_waysInAll σ) (c_waysWithJustThat σ) := by
    obtain ⟨b1, b2, b3, b4, b5, b6, b7, b8, b9, b10, b11, b12, b13⟩ := σ
    exact Eq.trans (b := ((b1, b2, b3, b4, b5, b6, b7, b8, b9, x, b11, b12, b13) : CS)) rfl rfl
  unfold bd
  rw [e]
theorem t_b0 {β : Type} (τ : MS) (x : Int32) (kk : MS → Option β) : bd (sm_notBelow τ x) kk = kk (t4 τ (m_isTested τ) x (m_all τ) (m_just τ)) := by
  have e : sm_notBelow τ x = t4 τ (m_isTested τ) x (m_all τ) (m_just τ) := by
    obtain ⟨b1, b2, b3, b4, b5, b6, b7, b8, b9, b10, b11, b12, b13, b14, b15, b16, b17⟩ := τ
    exact Eq.trans (b := ((b1, b2, b3, b4, b5, b6, b7, b8, b9, b10, b11, b12, x, b14, b15, b16, b17) : MS)) rfl rfl
  unfold bd
  rw [e]
theorem RM_wt {σ : CS} {τ : MS} {N : Nat} (h : RM σ τ N) (th : Nat → Int64) (a b c it d e f : Int32) : RM (w4 σ th a b c) (t4 τ it d e f) N := by
  unfold RM at *
  rw [w_above, w_below, w_numbers, t_upper, t_lower, t_numbers]
  exact h
theorem RE_wt {σ : CS} {τ : MS} (h : RE σ τ) (th : Nat → Int64) {a b c it : Int32} (hb : ¬ b = 0) (hi : ¬ it = 0) : RE (w4 σ th a b c) (t4 τ it a b c) := by
  unfold RE at *
  rw [w_grown, w_values, w_sizes, w_seatsGivenTo, w_seatsGiven, w_waysNotBelow, w_waysInAll, w_waysWithJustThat, t_grown, t_value, t_many, t_seated, t_seat, t_isTested, t_notBelow, t_all, t_just]
  exact ⟨h.1, h.2.1, h.2.2.1, Or.inr ⟨hb, hi, rfl, rfl, rfl⟩⟩
theorem tE (τ : MS) (k98 : Int32 × Int32 × Int32 × Int64 × Int32 × MS → Option (Int32 × MS)) (k115 : Int32 × Int32 × Int32 × Int64 × Int32 × Int32 × Int64 × Int32 × MS → Option (Int32 × MS)) {a b E s Ka n u NB AL JU : Nat} {l : Int} (it : Int32) (ha : a < 4) (hE : E ≤ 16) (hKa : Ka ≤ 8) (hm : m_many τ a = nI Ka) (hn : n ≤ 16) (hu : u ≤ 16000000) (hl : nw l) : fX1_test_B115 (t4 τ it (nI NB) (nI AL) (nI JU)) k98 k115 (nI a) (nI b) (nI E) (J l) (nI s) (nI n) (J (u : Int)) (nI E) = k98 (nI a, nI b, nI E, J l, nI (s + 1), t4 τ it (nI (NB + (if n = Ka then (if (u : Int) < l then 0 else 1) else 0))) (nI (AL + (if n = Ka then 1 else 0))) (nI (JU + (if n = Ka then (if (u : Int) = l then 1 else 0) else 0)))) := by
  unfold fX1_test_B115 fX1_test_L256 fX1_test_L230 fX1_test_L252 fX1_test_L256
  have wu : nw (u : Int) := nw_nat (by omega)
  rw [if_pos (Int32.le_refl _), if_pos (nI_ix ha (by omega)), nI_toNat (by omega), t_many, hm, nI_1]
  by_cases h : n = Ka
  · subst h
    rw [if_pos rfl, t_all, t_b3, t_notBelow]
    simp only [if_true]
    by_cases h1 : (u : Int) < l
    · rw [if_pos ((J_lt wu hl).mpr h1), t_b2, t_just, if_pos h1, if_neg (fun q => absurd ((J_eq wu hl).mp q) (by omega)), t_b4, nI_1, if_neg (show ¬ (u : Int) = l by omega), show (0 : Int32) = nI 0 from rfl, nI_add, nI_add]
    · rw [if_neg (fun q => h1 ((J_lt wu hl).mp q)), t_b2, t_just, if_neg h1, nI_1, nI_1]
      by_cases h2 : (u : Int) = l
      · rw [if_pos (by rw [h2]), t_b4, if_pos h2, nI_1]
      · rw [if_neg (fun q => h2 ((J_eq wu hl).mp q)), t_b4, if_neg h2, show (0 : Int32) = nI 0 from rfl, nI_add]
  · rw [if_neg (fun q => h ((nI_eq (by omega) (by omega)).mp q))]
    simp only [if_neg h]
    rfl
theorem sm_bd (T : Nat → Nat) {E : Nat} (hT : ∀ i, i < E → T i ≤ 1000000) : ∀ d f s, f + d = E → sm T d f s ≤ 1000000 * d := by
  intro d
  induction d with
  | zero => intro f s _; exact Nat.le_refl _
  | succ d ih =>
    intro f s h
    have h1 := ih (f + 1) (s / 2) (by omega)
    have h2 := hT f (by omega)
    have h3 : s % 2 * T f ≤ 1 * T f := Nat.mul_le_mul_right _ (by omega)
    show s % 2 * T f + sm T d (f + 1) (s / 2) ≤ _
    omega
theorem pc_bd : ∀ d s, pc d s ≤ d := by
  intro d
  induction d with
  | zero => intro s; exact Nat.le_refl _
  | succ d ih =>
    intro s
    have := ih (s / 2)
    show s % 2 + pc d (s / 2) ≤ d + 1
    omega
theorem tIn (τ : MS) (k98 : Int32 × Int32 × Int32 × Int64 × Int32 × MS → Option (Int32 × MS)) {a b E s Ka NB AL JU : Nat} {T : Nat → Nat} {l : Int} (it : Int32) (ha : a < 4) (hb : b < 4) (hE : E ≤ 16) (hKa : Ka ≤ 8) (hKb : E ≤ Ka + 8) (hm : m_many τ a = nI Ka) (hl : nw l) (hs : s < 65536) (hT : ∀ i, i < E → T i ≤ 1000000 ∧ (i < Ka → m_value τ (8 * a + i) = J (T i : Int)) ∧ (Ka ≤ i → m_value τ (8 * b + i - Ka) = J (T i : Int))) : ∀ (d k n u f : Nat), k + d = E → n ≤ k → u ≤ 1000000 * k → d < f → lp (fun k t => fX1_test_B115 t.2.2.2.2.2.2.2.2 k98 k t.1 t.2.1 t.2.2.1 t.2.2.2.1 t.2.2.2.2.1 t.2.2.2.2.2.1 t.2.2.2.2.2.2.1 t.2.2.2.2.2.2.2.1) f (nI a, nI b, nI E, J l, nI s, nI n, J (u : Int), nI k, t4 τ it (nI NB) (nI AL) (nI JU)) = k98 (nI a, nI b, nI E, J l, nI (s + 1), t4 τ it (nI (NB + (if n + pc d (s / 2 ^ k) = Ka then (if ((u + sm T d k (s / 2 ^ k) : Nat) : Int) < l then 0 else 1) else 0))) (nI (AL + (if n + pc d (s / 2 ^ k) = Ka then 1 else 0))) (nI (JU + (if n + pc d (s / 2 ^ k) = Ka then (if ((u + sm T d k (s / 2 ^ k) : Nat) : Int) = l then 1 else 0) else 0)))) := by
  intro d
  induction d with
  | zero =>
    intro k n u f hk hn hu hf
    obtain ⟨f, rfl⟩ : ∃ g, f = g + 1 := ⟨f - 1, by omega⟩
    have : k = E := by omega
    subst this
    rw [lp_succ]
    exact tE τ k98 _ it ha hE hKa hm (by omega) (by omega) hl
  | succ d ih =>
    intro k n u f hk hn hu hf
    obtain ⟨f, rfl⟩ : ∃ g, f = g + 1 := ⟨f - 1, by omega⟩
    rw [lp_succ]
    show fX1_test_B115 (t4 τ it (nI NB) (nI AL) (nI JU)) k98 _ (nI a) (nI b) (nI E) (J l) (nI s) (nI n) (J (u : Int)) (nI k) = _
    unfold fX1_test_B115 fX1_test_L182 fX1_test_L185
    have e2 : s / 2 ^ k / 2 = s / 2 ^ (k + 1) := by rw [Nat.pow_succ, Nat.div_div_eq_div_mul]
    obtain ⟨t1, t2, t3⟩ := hT k (by omega)
    have ia : ix (nI a) 4 = true := nI_ix ha (by omega)
    rw [if_neg (nI_ge (show k < E by omega) (by omega)), bit_I hs (by omega)]
    by_cases z : s / 2 ^ k % 2 = 1
    · have g1 : n + pc (d + 1) (s / 2 ^ k) = n + 1 + pc d (s / 2 ^ (k + 1)) := by
        show n + (s / 2 ^ k % 2 + pc d (s / 2 ^ k / 2)) = _
        rw [z, e2]
        omega
      have g2 : u + sm T (d + 1) k (s / 2 ^ k) = u + T k + sm T d (k + 1) (s / 2 ^ (k + 1)) := by
        show u + (s / 2 ^ k % 2 * T k + sm T d (k + 1) (s / 2 ^ k / 2)) = _
        rw [z, e2]
        omega
      rw [if_pos (by rw [z]; rfl), if_pos ia, if_pos ia, nI_toNat (show a < 2147483648 by omega), t_many, hm, g1, g2]
      have nx := ih (k + 1) (n + 1) (u + T k) f (by omega) (by omega) (by omega) (by omega)
      by_cases y : Ka ≤ k
      · have e3 : (8 : Int32) * nI b + nI k - nI Ka = nI (8 * b + k - Ka) := by rw [e8r, nI_subN (by omega) (by omega)]
        rw [if_pos (nI_le y (by omega)), e3, if_pos (nI_ix (show 8 * b + k - Ka < 32 by omega) (by omega)), nI_toNat (by omega), t_value, t3 y, J_addN, nI_1, nI_1]
        exact nx
      · rw [if_neg (nI_ge (show k < Ka by omega) (by omega)), e8r, if_pos (nI_ix (show 8 * a + k < 32 by omega) (by omega)), nI_toNat (by omega), t_value, t2 (by omega), J_addN, nI_1, nI_1]
        exact nx
    · have z0 : s / 2 ^ k % 2 = 0 := by omega
      have g1 : n + pc (d + 1) (s / 2 ^ k) = n + pc d (s / 2 ^ (k + 1)) := by
        show n + (s / 2 ^ k % 2 + pc d (s / 2 ^ k / 2)) = _
        rw [z0, e2]
        omega
      have g2 : u + sm T (d + 1) k (s / 2 ^ k) = u + sm T d (k + 1) (s / 2 ^ (k + 1)) := by
        show u + (s / 2 ^ k % 2 * T k + sm T d (k + 1) (s / 2 ^ k / 2)) = _
        rw [z0, e2]
        omega
      rw [if_neg (by rw [z0]; decide), g1, g2, nI_1]
      exact ih (k + 1) n u f (by omega) (by omega) (by omega) (by omega)
theorem tOut (τ : MS) {a b E Ka : Nat} {T : Nat → Nat} {l : Int} (it : Int32) (ha : a < 4) (hb : b < 4) (hE : E ≤ 16) (hKa : Ka ≤ 8) (hKb : E ≤ Ka + 8) (hm : m_many τ a = nI Ka) (hl : nw l) (hT : ∀ i, i < E → T i ≤ 1000000 ∧ (i < Ka → m_value τ (8 * a + i) = J (T i : Int)) ∧ (Ka ≤ i → m_value τ (8 * b + i - Ka) = J (T i : Int))) : ∀ (d s f : Nat), s + d = 2 ^ E → d < f → lp (fun k t => fX1_test_B98 t.2.2.2.2.2 k t.1 t.2.1 t.2.2.1 t.2.2.2.1 t.2.2.2.2.1) f (nI a, nI b, nI E, J l, nI s, t4 τ it (nI (SS (iN T E 0 Ka l) s)) (nI (SS (iA E Ka) s)) (nI (SS (iJ T E 0 Ka l) s))) = (fX1_kept (t4 τ 1 (nI (SS (iN T E 0 Ka l) (2 ^ E))) (nI (SS (iA E Ka) (2 ^ E))) (nI (SS (iJ T E 0 Ka l) (2 ^ E)))) (nI (SS (iN T E 0 Ka l) (2 ^ E))).toInt64 (nI (SS (iA E Ka) (2 ^ E))).toInt64).bind (fun o => some (o.1, o.2)) := by
  intro d
  have p16 : 2 ^ E ≤ 2 ^ 16 := Nat.pow_le_pow_right (by omega) hE
  have e16 : (2 : Nat) ^ 16 = 65536 := by decide
  induction d with
  | zero =>
    intro s f hs hf
    obtain ⟨f, rfl⟩ : ∃ g, f = g + 1 := ⟨f - 1, by omega⟩
    have : s = 2 ^ E := by omega
    subst this
    rw [lp_succ]
    show fX1_test_B98 (t4 τ it _ _ _) _ (nI a) (nI b) (nI E) (J l) (nI (2 ^ E)) = _
    unfold fX1_test_B98
    rw [one_E E (by omega), if_pos (Int32.le_refl _), t_b1, t_notBelow, t_all]
  | succ d ih =>
    intro s f hs hf
    obtain ⟨f, rfl⟩ : ∃ g, f = g + 1 := ⟨f - 1, by omega⟩
    rw [lp_succ]
    show fX1_test_B98 (t4 τ it _ _ _) _ (nI a) (nI b) (nI E) (J l) (nI s) = _
    unfold fX1_test_B98
    rw [one_E E (by omega), if_neg (nI_ge (show s < 2 ^ E by omega) (by omega))]
    refine (tIn τ _ it ha hb hE hKa hKb hm hl (by omega) hT E 0 0 0 FU (by omega) (by omega) (by omega) (by unfold FU; omega)).trans ?_
    have nx := ih (s + 1) f (by omega) (by omega)
    refine Eq.trans ?_ nx
    rw [Nat.pow_zero, Nat.div_one, Nat.zero_add, Nat.zero_add]
    rfl
theorem cp_at {f g : Nat → Int64} {dp n i : Nat} (h1 : dp ≤ i) (h2 : i < dp + n) : va_cpy f g 0 dp n i = f (i - dp) := by
  unfold va_cpy
  rw [if_pos ⟨h1, h2⟩, Nat.zero_add]
theorem cp_no {f g : Nat → Int64} {dp n i : Nat} (h : i < dp) : va_cpy f g 0 dp n i = g i := by
  unfold va_cpy
  rw [if_neg (by omega)]
theorem cpok_ok {d n : Nat} (hd : d ≤ 8) (hn : n ≤ 8) : cpok 0 (nI d) (nI n) = true := by
  unfold cpok
  rw [nI_toNat (by omega), nI_toNat (by omega)]
  have h1 : ¬ nI d < 0 := nI_pos (by omega)
  have h2 : ¬ nI n < 0 := nI_pos (by omega)
  have h3 : (0 : Int32).toNatClampNeg = 0 := rfl
  rw [h3]
  simp [h1, h2]
  omega
theorem pu_test {σ : CS} {τ : MS} (h : Rel σ τ) (x y : Int32) : ∃ r σ' τ', fX0_test σ x y = some (r, σ') ∧ fX1_test τ x y = some (r, τ') ∧ Rel σ' τ' := by
  have hR : Rel σ (sm_thrown τ 0) := h
  unfold fX0_test fX1_test
  rw [show ∀ kk : MS → Option (Int32 × MS), bd (sm_thrown τ (0 : Int32)) kk = kk (sm_thrown τ 0) from fun _ => rfl]
  generalize hτ : sm_thrown τ 0 = τ1 at hR ⊢
  obtain ⟨⟨N, hM1⟩, hE1⟩ := id hR
  obtain ⟨hN, h1, h2', h3⟩ := id hM1
  rcases pk_ix x (n := 4) (by omega) with q | q | ⟨a, ha, rfl⟩
  · rw [row0_out (Or.inl q), row1_out (Or.inl q)]; exact ⟨_, _, _, rfl, rfl, hR⟩
  · rw [row0_out (Or.inr q), row1_out (Or.inr q)]; exact ⟨_, _, _, rfl, rfl, hR⟩
  rw [row0_in ha, row1_in ha]
  simp only [Option.bind_some]
  rw [if_neg one_ne, if_neg one_ne]
  rcases pk_ix y (n := 4) (by omega) with q | q | ⟨b, hb, rfl⟩
  · rw [row0_out (Or.inl q), row1_out (Or.inl q)]; exact ⟨_, _, _, rfl, rfl, hR⟩
  · rw [row0_out (Or.inr q), row1_out (Or.inr q)]; exact ⟨_, _, _, rfl, rfl, hR⟩
  rw [row0_in hb, row1_in hb]
  simp only [Option.bind_some]
  rw [if_neg one_ne, if_neg one_ne]
  by_cases c1 : nI a = nI b
  · rw [if_pos c1, if_pos c1]; exact ⟨_, _, _, rfl, rfl, hR⟩
  rw [if_neg c1, if_neg c1]
  obtain ⟨Ka, z, hKa, s1, s2, -, s4, z0, z1, zs, hVa⟩ := sumB hE1 ha
  obtain ⟨Kb, z', hKb, r1, r2, -, -, -, -, -, hVb⟩ := sumB hE1 hb
  have xa : ix (nI a) 4 = true := nI_ix ha (by omega)
  have xb : ix (nI b) 4 = true := nI_ix hb (by omega)
  have na : (nI a).toNatClampNeg = a := nI_toNat (by omega)
  have nb : (nI b).toNatClampNeg = b := nI_toNat (by omega)
  simp only [if_pos xa, if_pos xb, na, nb]
  rw [s1, s2]
  by_cases c2 : Ka = 0
  · subst c2
    rw [if_pos (show nI 0 = (0 : Int32) from rfl), if_pos (show nI 0 = (0 : Int32) from rfl)]
    exact ⟨_, _, _, rfl, rfl, hR⟩
  have n2 : ¬ nI Ka = (0 : Int32) := nI_ne0 (by omega) (by omega)
  rw [if_neg n2, if_neg n2, r1, r2]
  by_cases c3 : Kb = 0
  · subst c3
    rw [if_pos (show nI 0 = (0 : Int32) from rfl), if_pos (show nI 0 = (0 : Int32) from rfl)]
    exact ⟨_, _, _, rfl, rfl, hR⟩
  have n3 : ¬ nI Kb = (0 : Int32) := nI_ne0 (by omega) (by omega)
  rw [if_neg n3, if_neg n3]
  by_cases hf : N = 40
  · subst hf
    rw [full0' h1, if_pos (show m_numbers τ1 = (40 : Int32) from h2')]
    exact ⟨_, _, _, rfl, rfl, hR⟩
  have hN' : N < 40 := by omega
  rw [full0 h1 hN', if_neg (full1 h2' hN')]
  simp only [Option.bind_some, if_true]
  rw [s4, if_pos (show cpok 0 0 (nI Ka) = true from cpok_ok (d := 0) (by omega) hKa), w_b0, w_sizes, s1, r1, if_pos (cpok_ok hKa hKb), w_values, w_things, w_b1]
  rw [show (0 : Int32).toNatClampNeg = 0 from rfl, nI_toNat (show Ka < 2147483648 by omega), nI_toNat (show Kb < 2147483648 by omega)]
  generalize hth : va_cpy (c_values σ b) (va_cpy (c_values σ a) (c_things σ) 0 0 Ka) 0 Ka Kb = th
  have hV : ∃ T : Nat → Nat, ∀ i, i < Ka + Kb → T i ≤ 1000000 ∧ th i = J (T i : Int) ∧ (i < Ka → m_value τ1 (8 * a + i) = J (T i : Int)) ∧ (Ka ≤ i → m_value τ1 (8 * b + i - Ka) = J (T i : Int)) := by
    refine ⟨fun i => (th i).toInt.toNat, fun i hi => ?_⟩
    have aux : ∀ v : Nat, v ≤ 1000000 → th i = J (v : Int) → (i < Ka → m_value τ1 (8 * a + i) = J (v : Int)) → (Ka ≤ i → m_value τ1 (8 * b + i - Ka) = J (v : Int)) → (fun i => (th i).toInt.toNat) i ≤ 1000000 ∧ th i = J (((fun i => (th i).toInt.toNat) i : Nat) : Int) ∧ (i < Ka → m_value τ1 (8 * a + i) = J (((fun i => (th i).toInt.toNat) i : Nat) : Int)) ∧ (Ka ≤ i → m_value τ1 (8 * b + i - Ka) = J (((fun i => (th i).toInt.toNat) i : Nat) : Int)) := by
      intro v v1 v2 v3 v4
      have e : (fun i => (th i).toInt.toNat) i = v := by
        show (th i).toInt.toNat = v
        rw [v2, J_toInt (nw_nat (by omega))]
        omega
      rw [e]
      exact ⟨v1, v2, v3, v4⟩
    by_cases z : i < Ka
    · obtain ⟨v, v1, v2, v3⟩ := hVa i z
      refine aux v v1 ?_ (fun _ => v3) (fun q => by omega)
      rw [← hth, cp_no z, cp_at (by omega) (by omega), Nat.sub_zero]
      exact v2
    · obtain ⟨v, v1, v2, v3⟩ := hVb (i - Ka) (by omega)
      refine aux v v1 ?_ (fun q => by omega) (fun _ => by rw [show 8 * b + i - Ka = 8 * b + (i - Ka) by omega]; exact v3)
      rw [← hth, cp_at (by omega) (by omega)]
      exact v2
  obtain ⟨T, hT⟩ := hV
  have sz : ∀ (nb al ju : Int32), c_sizes (w4 σ th nb al ju) a = nI Ka := fun nb al ju => by rw [w_sizes]; exact s1
  have sq : ∀ (nb al ju : Int32), c_sizes (w4 σ th nb al ju) b = nI Kb := fun nb al ju => by rw [w_sizes]; exact r1
  have wz : nw z := by unfold nw; omega
  have sm0 : ∀ (nb al ju : Int32), fX0_sumOf (w4 σ th nb al ju) (nI a) = some (J z) := fun nb al ju => by
    rw [sum0 ha hKa (sz nb al ju), w_values, ← zs]
  have hTc : ∀ (nb al ju : Int32), ∀ i, i < Ka + Kb → T i ≤ 1000000 ∧ c_things (w4 σ th nb al ju) i = J (T i : Int) := fun nb al ju i hi => ⟨(hT i hi).1, by rw [w_things]; exact (hT i hi).2.1⟩
  have wt : ∀ (nb al ju : Int32) (l : Int), 0 ≤ l → l ≤ 8000001 → fX0_waysToReach (w4 σ th nb al ju) 20 (J l) (nI Ka) 0 (nI (Ka + Kb)) = some (nI (Wr T (Ka + Kb) l Ka 0)) := fun nb al ju l l0 l1 => wtr (w4 σ th nb al ju) (E := Ka + Kb) (by omega) (hTc nb al ju) (Ka + Kb) 0 Ka 20 l (by omega) (by omega) (by omega) (by omega) l1
  have chb := ch_two (Ka + Kb) Ka
  have p16 : 2 ^ (Ka + Kb) ≤ 2 ^ 16 := Nat.pow_le_pow_right (by omega) (by omega)
  have e16 : (2 : Nat) ^ 16 = 65536 := by decide
  have chp := ch_pos (Ka + Kb) Ka (by omega)
  have wl := Wr_le T (Ka + Kb) z Ka 0
  have cj := cJ T (Ka + Kb) 0 Ka z
  have cn := cN T (Ka + Kb) 0 Ka z
  have ca := cA (Ka + Kb) Ka
  have tO := tOut τ1 (a := a) (b := b) (E := Ka + Kb) (Ka := Ka) (T := T) (l := z) (m_isTested τ1) ha hb (by omega) hKa (by omega) s2 wz (fun i hi => ⟨(hT i hi).1, (hT i hi).2.2⟩) (2 ^ (Ka + Kb)) 0 FU (by omega) (by unfold FU; omega)
  rw [cn, ca] at tO
  have tO' : fX1_test_L98 (t4 τ1 (m_isTested τ1) 0 0 0) (nI a) (nI b) (nI (Ka + Kb)) (J z) 0 = _ := tO
  have ju : nI (Wr T (Ka + Kb) z Ka 0) - nI (Wr T (Ka + Kb) (z + 1) Ka 0) = nI (SS (iJ T (Ka + Kb) 0 Ka z) (2 ^ (Ka + Kb))) := by
    rw [nI_subN (by omega) (by omega)]
    congr 1
    omega
  have chn : ¬ nI (ch (Ka + Kb) Ka) = (0 : Int32) := nI_ne0 (by omega) (by omega)
  have kB := keepB (RM_wt hM1 th (nI (Wr T (Ka + Kb) z Ka 0)) (nI (ch (Ka + Kb) Ka)) (nI (SS (iJ T (Ka + Kb) 0 Ka z) (2 ^ (Ka + Kb)))) 1 (nI (Wr T (Ka + Kb) z Ka 0)) (nI (ch (Ka + Kb) Ka)) (nI (SS (iJ T (Ka + Kb) 0 Ka z) (2 ^ (Ka + Kb))))) (RE_wt hE1 th chn one_ne) hN' (nw_nat (show Wr T (Ka + Kb) z Ka 0 < 9223372036854775808 by omega)) (nw_nat (show ch (Ka + Kb) Ka < 9223372036854775808 by omega)) (by omega)
  obtain ⟨σ', τ', k1, k2, k3⟩ := kB
  refine ⟨nI N, σ', τ', ?_, ?_, k3⟩
  · rw [sm0, Option.bind_some, sz, sq, nI_add, wt _ _ _ z z0 (by omega), Option.bind_some, w_b2, sz, J_1, J_add, wt _ _ _ (z + 1) (by omega) (by omega), Option.bind_some, w_waysNotBelow, w_b4, ju, sz, choose0' (by omega) (by omega), Option.bind_some, J_toI, I_nat, w_b3, w_waysNotBelow, w_waysInAll, nI_toL (by omega), nI_toL (by omega), k1]
    rfl
  · rw [Option.bind_some, t_b0, t_b3, t_b4, nI_add, tO', nI_toL (by omega), nI_toL (by omega), k2]
    rfl
