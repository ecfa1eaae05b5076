/-! the law's world: the class's, the model's, the array 'out'; calls out of it -/
abbrev wO (ko : ClassId) (qo : Nat) (o : Nat → Int64) : va_W := [(qo, .inl (ko, 1, .inr (.inl o)))]
def wL (kc0 : Nat → ClassId) (q0 : Nat → Nat) (σ : CS) (kc1 : Nat → ClassId) (q1 : Nat → Nat) (τ : MS) (ko : ClassId) (qo : Nat) (o : Nat → Int64) : va_W := wX0 kc0 q0 σ ++ (wX1 kc1 q1 τ ++ wO ko qo o)
def tysL (kc0 kc1 : Nat → ClassId) (ko : ClassId) : List (ClassId × FieldType) := tysX0 kc0 ++ (tysX1 kc1 ++ [(ko, .long)])
theorem tysL_0 {D : va_G} {kc0 kc1 : Nat → ClassId} {ko : ClassId} {s : State} (h : va_K D vwCl (tysL kc0 kc1 ko) s) : va_K D vwCl (tysX0 kc0) s := h.sub [0, 1, 2, 3, 4, 5, 6, 7, 8, 9, 10] rfl
theorem tysL_1 {D : va_G} {kc0 kc1 : Nat → ClassId} {ko : ClassId} {s : State} (h : va_K D vwCl (tysL kc0 kc1 ko) s) : va_K D vwCl (tysX1 kc1) s := h.sub [11, 12, 13, 14, 15, 16, 17, 18] rfl
section WL
variable {D : va_G} {A : Nat → Prop} {H H1 : Heap} {kc0 kc1 : Nat → ClassId} {q0 q1 : Nat → Nat} {σ σ1 : CS} {τ τ1 : MS} {ko : ClassId} {qo : Nat} {o : Nat → Int64}
theorem wL_P0 (h : va_P D vwCl (wL kc0 q0 σ kc1 q1 τ ko qo o) H) : va_P D vwCl (wX0 kc0 q0 σ) H := h.sub [0, 1, 2, 3, 4, 5, 6, 7, 8, 9, 10, 11] rfl
theorem wL_P1 (h : va_P D vwCl (wL kc0 q0 σ kc1 q1 τ ko qo o) H) : va_P D vwCl (wX1 kc1 q1 τ) H := h.sub [12, 13, 14, 15, 16, 17, 18, 19, 20] rfl
theorem wL_D0 (h : va_D A (wL kc0 q0 σ kc1 q1 τ ko qo o)) : va_D A (wX0 kc0 q0 σ) := h.sub [0, 1, 2, 3, 4, 5, 6, 7, 8, 9, 10, 11] (by decide) rfl
theorem wL_D1 (h : va_D A (wL kc0 q0 σ kc1 q1 τ ko qo o)) : va_D A (wX1 kc1 q1 τ) := h.sub [12, 13, 14, 15, 16, 17, 18, 19, 20] (by decide) rfl
theorem wL_j0 (hP : va_P D vwCl (wL kc0 q0 σ kc1 q1 τ ko qo o) H) (hD : va_D A (wL kc0 q0 σ kc1 q1 τ ko qo o)) (hk : ∀ q : Nat, q < H.size → ¬ va_A (wX0 kc0 q0 σ) H.size q → H1[q]? = H[q]?) (hF : ∀ q, va_A (wX0 kc0 q0 σ) H.size q → A q) (hP1 : va_P D vwCl (wX0 kc0 q0 σ1) H1) (hD1 : va_D (va_A (wX0 kc0 q0 σ) H.size) (wX0 kc0 q0 σ1)) : va_P D vwCl (wL kc0 q0 σ1 kc1 q1 τ ko qo o) H1 ∧ va_D A (wL kc0 q0 σ1 kc1 q1 τ ko qo o) := by
  obtain ⟨a, b⟩ := va_join (wr := wX1 kc1 q1 τ ++ wO ko qo o) (w1 := wX0 kc0 q0 σ1) hP hD [0, 1, 2, 3, 4, 5, 6, 7, 8, 9, 10, 11] [12, 13, 14, 15, 16, 17, 18, 19, 20, 21] rfl rfl (by decide) (by decide) hk hF hP1 hD1
  exact ⟨a.sub [10, 11, 12, 13, 14, 15, 16, 17, 18, 19, 20, 21, 0, 1, 2, 3, 4, 5, 6, 7, 8, 9] rfl, b.sub [10, 11, 12, 13, 14, 15, 16, 17, 18, 19, 20, 21, 0, 1, 2, 3, 4, 5, 6, 7, 8, 9] (by decide) rfl⟩
theorem wL_j1 (hP : va_P D vwCl (wL kc0 q0 σ kc1 q1 τ ko qo o) H) (hD : va_D A (wL kc0 q0 σ kc1 q1 τ ko qo o)) (hk : ∀ q : Nat, q < H.size → ¬ va_A (wX1 kc1 q1 τ) H.size q → H1[q]? = H[q]?) (hF : ∀ q, va_A (wX1 kc1 q1 τ) H.size q → A q) (hP1 : va_P D vwCl (wX1 kc1 q1 τ1) H1) (hD1 : va_D (va_A (wX1 kc1 q1 τ) H.size) (wX1 kc1 q1 τ1)) : va_P D vwCl (wL kc0 q0 σ kc1 q1 τ1 ko qo o) H1 ∧ va_D A (wL kc0 q0 σ kc1 q1 τ1 ko qo o) := by
  obtain ⟨a, b⟩ := va_join (wr := wX0 kc0 q0 σ ++ wO ko qo o) (w1 := wX1 kc1 q1 τ1) hP hD [12, 13, 14, 15, 16, 17, 18, 19, 20] [0, 1, 2, 3, 4, 5, 6, 7, 8, 9, 10, 11, 21] rfl rfl (by decide) (by decide) hk hF hP1 hD1
  exact ⟨a.sub [0, 1, 2, 3, 4, 5, 6, 7, 8, 9, 10, 11, 13, 14, 15, 16, 17, 18, 19, 20, 21, 12] rfl, b.sub [0, 1, 2, 3, 4, 5, 6, 7, 8, 9, 10, 11, 13, 14, 15, 16, 17, 18, 19, 20, 21, 12] (by decide) rfl⟩
end WL
section CL
variable {p : Program} {l : Launch} {e : Env} {R : Room} {s : State} {m : MethodId} {args : Array Value} {below : List Frame} {meth : Method} {c : Code} {H : Heap} {locs : List Loc} {cells slots : Nat} {Q : State → Prop}
variable {cc bytes : ByteArray} {pc index nL maxL n : Nat} {ls : Array Slot} {As rest : List Value} {D : va_G} {A : Nat → Prop} {y : MethodName} {ret : Option FieldType} {ws Ts : List Cond} {rm : Room} {own : String} {kc0 kc1 : Nat → ClassId} {q0 q1 : Nat → Nat} {σ : CS} {τ : MS} {ko : ClassId} {qo : Nat} {o : Nat → Int64}
theorem cl0Mi {out : Int32 × CS} (F : CallFix p m c cc nL s args Ts own) (hM : MMi l y ws rm D (tysX0 kc0) (wX0 kc0 q0) σ (.ref (q0 0) :: As) out) (cw : CallW R s args own RX0 index y bytes maxL ret ws rm 0 0 n) (hK : va_K D vwCl (tysL kc0 kc1 ko) s) (hP : va_P D vwCl (wL kc0 q0 σ kc1 q1 τ ko qo o) H) (hD : va_D A (wL kc0 q0 σ kc1 q1 τ ko qo o)) (hS : va_S A s.heap H locs) (hA : ∀ x, s.heap.size ≤ x → A x) (hn : As.length = n) (hsize : ls.size = nL) (hroom : (rest.map fun v => v.category).sum ≤ 8) (hdg : decode cc pc = .ok (.invokevirtual index, 3)) (hcs : cells ≤ R.cells ∧ slots ≤ R.slots)
    (kk : ∀ (H1 : Heap) (locs1 : List Loc), va_P D vwCl (wL kc0 q0 out.2 kc1 q1 τ ko qo o) H1 → va_D A (wL kc0 q0 out.2 kc1 q1 τ ko qo o) → va_S A s.heap H1 locs1 → W p l e R s m args below meth c H1 locs1 cells slots Q (F0 m (pc + 3) ls (.int out.1 :: rest))) : W p l e R s m args below meth c H locs cells slots Q (F0 m pc ls (As.reverse ++ .ref (q0 0) :: rest)) := by
  have hP0 := wL_P0 hP
  have hD0 := wL_D0 hD
  have hK0 := tysL_0 hK
  have hF : ∀ q, va_A (wX0 kc0 q0 σ) H.size q → A q := fun q h => by
    rcases h with ⟨k, e, h⟩ | h
    · exact hD0.2 k _ h
    · exact hA q (Nat.le_trans hS.1 h)
  refine va_calli (va_runV (As := As) (rest := rest) F (hM H.size) cw ⟨PcW_blind, va_recv hK0 hP0 (ci := 0) (q0 := 0) rfl rfl, fun U hU hW => ⟨rfl, by rw [hU], by rw [hU]; exact hP0, va_K.moved hW.alike hK0, hD0.weaken (fun _ _ _ _ => trivial)⟩⟩ rfl hn hsize rfl (lv_room hroom) hdg hcs) hS (fun q _ h => hF q h) hF (fun r u t H1 locs1 ht hvm hw hB hz hk hS1 => ?_)
  obtain ⟨hP1, hK1, hD1⟩ := hB
  rw [ht] at hP1
  subst hw
  obtain ⟨hP2, hD2⟩ := wL_j0 hP hD hk hF hP1 hD1
  exact kk H1 locs1 hP2 hD2 hS1
theorem cl0Ri {out : Int32} (F : CallFix p m c cc nL s args Ts own) (hM : MRi l y ws rm D (tysX0 kc0) (wX0 kc0 q0 σ) (.ref (q0 0) :: As) out) (cw : CallW R s args own RX0 index y bytes maxL ret ws rm 0 0 n) (hK : va_K D vwCl (tysL kc0 kc1 ko) s) (hP : va_P D vwCl (wL kc0 q0 σ kc1 q1 τ ko qo o) H) (hn : As.length = n) (hsize : ls.size = nL) (hroom : (rest.map fun v => v.category).sum ≤ 8) (hdg : decode cc pc = .ok (.invokevirtual index, 3)) (hcs : cells ≤ R.cells ∧ slots ≤ R.slots)
    (kk : W p l e R s m args below meth c H locs cells slots Q (F0 m (pc + 3) ls (.int out :: rest))) : W p l e R s m args below meth c H locs cells slots Q (F0 m pc ls (As.reverse ++ .ref (q0 0) :: rest)) :=
  caRi (ci := 0) (q0 := 0) F hM cw (tysL_0 hK) (wL_P0 hP) rfl rfl rfl hn hsize hroom hdg hcs kk
theorem cl0Ml {out : Int64 × CS} (F : CallFix p m c cc nL s args Ts own) (hM : MMl l y ws rm D (tysX0 kc0) (wX0 kc0 q0) σ (.ref (q0 0) :: As) out) (cw : CallW R s args own RX0 index y bytes maxL ret ws rm 0 0 n) (hK : va_K D vwCl (tysL kc0 kc1 ko) s) (hP : va_P D vwCl (wL kc0 q0 σ kc1 q1 τ ko qo o) H) (hD : va_D A (wL kc0 q0 σ kc1 q1 τ ko qo o)) (hS : va_S A s.heap H locs) (hA : ∀ x, s.heap.size ≤ x → A x) (hn : As.length = n) (hsize : ls.size = nL) (hroom : (rest.map fun v => v.category).sum ≤ 8) (hdg : decode cc pc = .ok (.invokevirtual index, 3)) (hcs : cells ≤ R.cells ∧ slots ≤ R.slots)
    (kk : ∀ (H1 : Heap) (locs1 : List Loc), va_P D vwCl (wL kc0 q0 out.2 kc1 q1 τ ko qo o) H1 → va_D A (wL kc0 q0 out.2 kc1 q1 τ ko qo o) → va_S A s.heap H1 locs1 → W p l e R s m args below meth c H1 locs1 cells slots Q (F0 m (pc + 3) ls (.long out.1 :: rest))) : W p l e R s m args below meth c H locs cells slots Q (F0 m pc ls (As.reverse ++ .ref (q0 0) :: rest)) := by
  have hP0 := wL_P0 hP
  have hD0 := wL_D0 hD
  have hK0 := tysL_0 hK
  have hF : ∀ q, va_A (wX0 kc0 q0 σ) H.size q → A q := fun q h => by
    rcases h with ⟨k, e, h⟩ | h
    · exact hD0.2 k _ h
    · exact hA q (Nat.le_trans hS.1 h)
  refine va_calll (va_runV (As := As) (rest := rest) F (hM H.size) cw ⟨PcW_blind, va_recv hK0 hP0 (ci := 0) (q0 := 0) rfl rfl, fun U hU hW => ⟨rfl, by rw [hU], by rw [hU]; exact hP0, va_K.moved hW.alike hK0, hD0.weaken (fun _ _ _ _ => trivial)⟩⟩ rfl hn hsize rfl (lv_room hroom) hdg hcs) hS (fun q _ h => hF q h) hF (fun r u t H1 locs1 ht hvm hw hB hz hk hS1 => ?_)
  obtain ⟨hP1, hK1, hD1⟩ := hB
  rw [ht] at hP1
  subst hw
  obtain ⟨hP2, hD2⟩ := wL_j0 hP hD hk hF hP1 hD1
  exact kk H1 locs1 hP2 hD2 hS1
theorem cl0Rl {out : Int64} (F : CallFix p m c cc nL s args Ts own) (hM : MRl l y ws rm D (tysX0 kc0) (wX0 kc0 q0 σ) (.ref (q0 0) :: As) out) (cw : CallW R s args own RX0 index y bytes maxL ret ws rm 0 0 n) (hK : va_K D vwCl (tysL kc0 kc1 ko) s) (hP : va_P D vwCl (wL kc0 q0 σ kc1 q1 τ ko qo o) H) (hn : As.length = n) (hsize : ls.size = nL) (hroom : (rest.map fun v => v.category).sum ≤ 8) (hdg : decode cc pc = .ok (.invokevirtual index, 3)) (hcs : cells ≤ R.cells ∧ slots ≤ R.slots)
    (kk : W p l e R s m args below meth c H locs cells slots Q (F0 m (pc + 3) ls (.long out :: rest))) : W p l e R s m args below meth c H locs cells slots Q (F0 m pc ls (As.reverse ++ .ref (q0 0) :: rest)) :=
  caRl (ci := 0) (q0 := 0) F hM cw (tysL_0 hK) (wL_P0 hP) rfl rfl rfl hn hsize hroom hdg hcs kk
theorem cl1Mi {out : Int32 × MS} (F : CallFix p m c cc nL s args Ts own) (hM : MMi l y ws rm D (tysX1 kc1) (wX1 kc1 q1) τ (.ref (q1 0) :: As) out) (cw : CallW R s args own RX1 index y bytes maxL ret ws rm 0 0 n) (hK : va_K D vwCl (tysL kc0 kc1 ko) s) (hP : va_P D vwCl (wL kc0 q0 σ kc1 q1 τ ko qo o) H) (hD : va_D A (wL kc0 q0 σ kc1 q1 τ ko qo o)) (hS : va_S A s.heap H locs) (hA : ∀ x, s.heap.size ≤ x → A x) (hn : As.length = n) (hsize : ls.size = nL) (hroom : (rest.map fun v => v.category).sum ≤ 8) (hdg : decode cc pc = .ok (.invokevirtual index, 3)) (hcs : cells ≤ R.cells ∧ slots ≤ R.slots)
    (kk : ∀ (H1 : Heap) (locs1 : List Loc), va_P D vwCl (wL kc0 q0 σ kc1 q1 out.2 ko qo o) H1 → va_D A (wL kc0 q0 σ kc1 q1 out.2 ko qo o) → va_S A s.heap H1 locs1 → W p l e R s m args below meth c H1 locs1 cells slots Q (F0 m (pc + 3) ls (.int out.1 :: rest))) : W p l e R s m args below meth c H locs cells slots Q (F0 m pc ls (As.reverse ++ .ref (q1 0) :: rest)) := by
  have hP0 := wL_P1 hP
  have hD0 := wL_D1 hD
  have hK0 := tysL_1 hK
  have hF : ∀ q, va_A (wX1 kc1 q1 τ) H.size q → A q := fun q h => by
    rcases h with ⟨k, e, h⟩ | h
    · exact hD0.2 k _ h
    · exact hA q (Nat.le_trans hS.1 h)
  refine va_calli (va_runV (As := As) (rest := rest) F (hM H.size) cw ⟨PcW_blind, va_recv hK0 hP0 (ci := 1) (q0 := 0) rfl rfl, fun U hU hW => ⟨rfl, by rw [hU], by rw [hU]; exact hP0, va_K.moved hW.alike hK0, hD0.weaken (fun _ _ _ _ => trivial)⟩⟩ rfl hn hsize rfl (lv_room hroom) hdg hcs) hS (fun q _ h => hF q h) hF (fun r u t H1 locs1 ht hvm hw hB hz hk hS1 => ?_)
  obtain ⟨hP1, hK1, hD1⟩ := hB
  rw [ht] at hP1
  subst hw
  obtain ⟨hP2, hD2⟩ := wL_j1 hP hD hk hF hP1 hD1
  exact kk H1 locs1 hP2 hD2 hS1
theorem cl1Ri {out : Int32} (F : CallFix p m c cc nL s args Ts own) (hM : MRi l y ws rm D (tysX1 kc1) (wX1 kc1 q1 τ) (.ref (q1 0) :: As) out) (cw : CallW R s args own RX1 index y bytes maxL ret ws rm 0 0 n) (hK : va_K D vwCl (tysL kc0 kc1 ko) s) (hP : va_P D vwCl (wL kc0 q0 σ kc1 q1 τ ko qo o) H) (hn : As.length = n) (hsize : ls.size = nL) (hroom : (rest.map fun v => v.category).sum ≤ 8) (hdg : decode cc pc = .ok (.invokevirtual index, 3)) (hcs : cells ≤ R.cells ∧ slots ≤ R.slots)
    (kk : W p l e R s m args below meth c H locs cells slots Q (F0 m (pc + 3) ls (.int out :: rest))) : W p l e R s m args below meth c H locs cells slots Q (F0 m pc ls (As.reverse ++ .ref (q1 0) :: rest)) :=
  caRi (ci := 1) (q0 := 0) F hM cw (tysL_1 hK) (wL_P1 hP) rfl rfl rfl hn hsize hroom hdg hcs kk
theorem cl1Ml {out : Int64 × MS} (F : CallFix p m c cc nL s args Ts own) (hM : MMl l y ws rm D (tysX1 kc1) (wX1 kc1 q1) τ (.ref (q1 0) :: As) out) (cw : CallW R s args own RX1 index y bytes maxL ret ws rm 0 0 n) (hK : va_K D vwCl (tysL kc0 kc1 ko) s) (hP : va_P D vwCl (wL kc0 q0 σ kc1 q1 τ ko qo o) H) (hD : va_D A (wL kc0 q0 σ kc1 q1 τ ko qo o)) (hS : va_S A s.heap H locs) (hA : ∀ x, s.heap.size ≤ x → A x) (hn : As.length = n) (hsize : ls.size = nL) (hroom : (rest.map fun v => v.category).sum ≤ 8) (hdg : decode cc pc = .ok (.invokevirtual index, 3)) (hcs : cells ≤ R.cells ∧ slots ≤ R.slots)
    (kk : ∀ (H1 : Heap) (locs1 : List Loc), va_P D vwCl (wL kc0 q0 σ kc1 q1 out.2 ko qo o) H1 → va_D A (wL kc0 q0 σ kc1 q1 out.2 ko qo o) → va_S A s.heap H1 locs1 → W p l e R s m args below meth c H1 locs1 cells slots Q (F0 m (pc + 3) ls (.long out.1 :: rest))) : W p l e R s m args below meth c H locs cells slots Q (F0 m pc ls (As.reverse ++ .ref (q1 0) :: rest)) := by
  have hP0 := wL_P1 hP
  have hD0 := wL_D1 hD
  have hK0 := tysL_1 hK
  have hF : ∀ q, va_A (wX1 kc1 q1 τ) H.size q → A q := fun q h => by
    rcases h with ⟨k, e, h⟩ | h
    · exact hD0.2 k _ h
    · exact hA q (Nat.le_trans hS.1 h)
  refine va_calll (va_runV (As := As) (rest := rest) F (hM H.size) cw ⟨PcW_blind, va_recv hK0 hP0 (ci := 1) (q0 := 0) rfl rfl, fun U hU hW => ⟨rfl, by rw [hU], by rw [hU]; exact hP0, va_K.moved hW.alike hK0, hD0.weaken (fun _ _ _ _ => trivial)⟩⟩ rfl hn hsize rfl (lv_room hroom) hdg hcs) hS (fun q _ h => hF q h) hF (fun r u t H1 locs1 ht hvm hw hB hz hk hS1 => ?_)
  obtain ⟨hP1, hK1, hD1⟩ := hB
  rw [ht] at hP1
  subst hw
  obtain ⟨hP2, hD2⟩ := wL_j1 hP hD hk hF hP1 hD1
  exact kk H1 locs1 hP2 hD2 hS1
theorem cl1Rl {out : Int64} (F : CallFix p m c cc nL s args Ts own) (hM : MRl l y ws rm D (tysX1 kc1) (wX1 kc1 q1 τ) (.ref (q1 0) :: As) out) (cw : CallW R s args own RX1 index y bytes maxL ret ws rm 0 0 n) (hK : va_K D vwCl (tysL kc0 kc1 ko) s) (hP : va_P D vwCl (wL kc0 q0 σ kc1 q1 τ ko qo o) H) (hn : As.length = n) (hsize : ls.size = nL) (hroom : (rest.map fun v => v.category).sum ≤ 8) (hdg : decode cc pc = .ok (.invokevirtual index, 3)) (hcs : cells ≤ R.cells ∧ slots ≤ R.slots)
    (kk : W p l e R s m args below meth c H locs cells slots Q (F0 m (pc + 3) ls (.long out :: rest))) : W p l e R s m args below meth c H locs cells slots Q (F0 m pc ls (As.reverse ++ .ref (q1 0) :: rest)) :=
  caRl (ci := 1) (q0 := 0) F hM cw (tysL_1 hK) (wL_P1 hP) rfl rfl rfl hn hsize hroom hdg hcs kk
end CL
/-! the law's helpers: over, share -/
def wH (kc0 : Nat → ClassId) (q0 : Nat → Nat) (ko : ClassId) (qo : Nat) (u : CS × (Nat → Int64)) : va_W := wX0 kc0 q0 u.1 ++ wO ko qo u.2
def tysH (kc0 : Nat → ClassId) (ko : ClassId) : List (ClassId × FieldType) := tysX0 kc0 ++ [(ko, .long)]
def PcH (l : Launch) (D : va_G) (tys : List (ClassId × FieldType)) (w : va_W) (sz : Nat) (av : List Value) : Array Value → State → Prop := PcX l D tys w sz av
theorem Met_ofWH {l : Launch} {y : MethodName} {ws ws' : List Cond} {rm : Room} {Pc : Array Value → State → Prop} {Qc : Array Value → State → Outcome → State → Prop} {mc ms : Nat} {free : Addr → Prop} {cc : ByteArray} {maxL : Nat} {ret : Option FieldType} {hh : List (Nat × Nat × Nat × Nat)}
    (hy : plainName y.cls = true) (hw : ws = Cond.codeWith y cc maxL ret hh :: ws')
    (body : ∀ p e s m args below meth c s₁, BodyLoose p l y (headSpec ws rm) cc maxL ret e s m args below meth c s₁ → c.maxLocals = maxL → c.exceptionTable.toList = tableOf hh → Pc args s →
      W p l e (headSpec ws rm).room s m args below meth c s.heap [] 0 0 (MQ below Qc args s mc ms free) (entryFrame m args maxL)) : Met l y ws rm Pc Qc mc ms free := by
  refine MetFree.of_bodyS (code := cc) (maxLocals := maxL) (ret := ret) hy ?_ ?_
  · intro args s m h hn
    obtain ⟨m9, meth, c, hn9, h1, h2, h3, h4, -, h5, h6, -⟩ := Cond.codeWith_spec (atoms_spec (ws := ws) h _ (by rw [hw]; exact List.mem_cons_self))
    cases hn.symm.trans hn9
    exact ⟨meth, c, h1, h2, h3, h4, h5, h6⟩
  · intro p e s m args below meth c s₁ B hml hP _
    have hh0 : s₁.heap = s.heap := by rw [B.state]; rfl
    obtain ⟨t, a1, o, b1, b2, b3⟩ := body p e s m args below meth c s₁ B hml (vx_table (x := y) B (atoms_spec (ws := ws) B.pre _ (by rw [hw]; exact List.mem_cons_self))) hP s₁ hh0 (Stand.of_body B)
    exact ⟨t, o, a1, b1, b2, ⟨b3.1, b3.2⟩⟩
def MHi (l : Launch) (y : MethodName) (ws : List Cond) (rm : Room) (D : va_G) (kc0 : Nat → ClassId) (q0 : Nat → Nat) (ko : ClassId) (qo : Nat) (u : CS × (Nat → Int64)) (av : List Value) (out : Int32 × (CS × (Nat → Int64))) : Prop := ∀ sz : Nat, Met l y ws rm (PcX l D (tysH kc0 ko) (wH kc0 q0 ko qo u) sz av) (QMi D (tysH kc0 ko) (wH kc0 q0 ko qo) (va_A (wH kc0 q0 ko qo u) sz) out) 1 6 (va_A (wH kc0 q0 ko qo u) sz)
/-- what the law's helper does with what the class's method did -/
def fH (r : Option Int32 × CS) (o : Nat → Int64) : Int32 × (CS × (Nat → Int64)) := match r.1 with
  | some v => (0, (r.2, vp_updL o 0 v.toInt64))
  | none => (1, (r.2, o))
abbrev rmL_over : Room := { frames := 9, cells := 1, slots := 6, locals := 260 }
set_option maxHeartbeats 4000000 in
set_option maxRecDepth 100000 in
theorem mL_over (l : Launch) (D : va_G) (kc0 : Nat → ClassId) (q0 : Nat → Nat) (ko : ClassId) (qo : Nat) (σ : CS) (o : Nat → Int64) (x1 x2 : Int32) (r : Option Int32 × CS) (hr : fX0_over σ x1 x2 = some r) : MHi l yL_over wsL_over rmL_over D kc0 q0 ko qo (σ, o) [.ref (q0 0), .int x1, .int x2, .ref qo] (fH r o) := by
  intro sz
  refine Met_ofWH (cc := cL_over) (maxL := 5) (ret := some .int) (by decide) rfl ?_
  intro p e s m args below meth c s₁ B hml htab hv
  obtain ⟨rfl, hsz, hP, hK, hD0, hz⟩ := hv
  subst hsz
  have hx := B.exec
  have hb := B.bytes
  have hret := B.returns
  have hts := atoms_spec (ws := wsL_over) B.pre
  have hown : s.vm.findClass RL = some m.cls := findClass_of_methodNamed B.named
  have hlocks := B.notSynchronized
  have hD := hD0.self (sz := s.heap.size)
  generalize hAe : va_A (wH kc0 q0 ko qo (σ, o)) s.heap.size = A at hD hz ⊢
  have hA : ∀ q : Nat, s.heap.size ≤ q → A q := fun q h => by rw [← hAe]; exact Or.inr h
  have hS : va_S A s.heap s.heap [] := va_S.rf
  have hl := lv_entry ([.ref (q0 0), .int x1, .int x2, .ref qo]) (n := 5) (Nat.le_of_ble_eq_true rfl)
  rw [lg_entry_eq]
  generalize (lg_sl ([.ref (q0 0), .int x1, .int x2, .ref qo]) ++ List.replicate (5 - (lg_sl ([.ref (q0 0), .int x1, .int x2, .ref qo])).length) Slot.unset).toArray = ls at hl ⊢
  have hl : lv_has ls 5 [(0, .ref (q0 0)), (1, .int x1), (2, .int x2), (3, .ref qo)] := hl
  refine lv_aload_n hx hb dL_over_0 rfl (lv_at hl 3 rfl) ?_
  refine lv_iconst (v := (0 : Int32)) hx hb dL_over_1 (by decide) ?_
  refine lv_aload_n hx hb dL_over_2 rfl (lv_at hl 0 rfl) ?_
  refine lv_iload_n hx hb dL_over_3 rfl (lv_at hl 1 rfl) ?_
  refine lv_iload_n hx hb dL_over_4 rfl (lv_at hl 2 rfl) ?_
  have hPc := hP.sub (ws' := wX0 kc0 q0 σ) [0, 1, 2, 3, 4, 5, 6, 7, 8, 9, 10, 11] rfl
  have hDc := hD.sub (ws' := wX0 kc0 q0 σ) [0, 1, 2, 3, 4, 5, 6, 7, 8, 9, 10, 11] (by decide) rfl
  have hKc := hK.sub (tys' := tysX0 kc0) [0, 1, 2, 3, 4, 5, 6, 7, 8, 9, 10] rfl
  have hFc := va_free (wc := wX0 kc0 q0 σ) hD hS hA [0, 1, 2, 3, 4, 5, 6, 7, 8, 9, 10, 11] rfl
  refine vx_calli (vx_runV (As := [.int x1, .int x2]) (rest := [.int (0 : Int32), .ref qo]) (C := RX0) ⟨hx, hb, hml, hown, hts⟩ (mX0_over l D kc0 q0 σ x1 x2 r hr s.heap.size) (cwV 2 hts gL_over_X0_over rfl rfl rfl (by decide +kernel) ⟨Nat.le_of_ble_eq_true rfl, Nat.le_of_ble_eq_true rfl⟩) ⟨PcX_blind, va_recv hKc hPc (ci := 0) (q0 := 0) rfl rfl, fun U hU hW => ⟨rfl, by rw [hU], by rw [hU]; exact hPc, va_K.moved hW.alike hKc, hDc.weaken (fun _ _ _ _ => trivial), by rw [hU]; exact (hz.narrow hFc).warm hW⟩⟩ rfl rfl hl.1 rfl (lv_room (Nat.le_of_ble_eq_true rfl)) dL_over_5 ⟨Nat.le_of_ble_eq_true rfl, Nat.le_of_ble_eq_true rfl⟩) hS (fun q _ h => hFc q h) hFc (fun q _ h => hFc q h) (fun E ce q9 u t H1 locs ht hvm hw hB hz1 hk1 hS hce hcv hcl => ?_) (fun r9 u t H1 locs ht hvm hw hB hz1 hk1 hS => ?_)
  · obtain ⟨rfl, hP1, hK1, hD1⟩ := hB
    rw [ht] at hP1
    obtain ⟨hP, hD⟩ := va_join (wr := wO ko qo o) (w1 := wX0 kc0 q0 u) hP hD [0, 1, 2, 3, 4, 5, 6, 7, 8, 9, 10, 11] [12] rfl rfl (by decide) (by decide) hk1 hFc hP1 hD1
    have hP : va_P D vwCl (wH kc0 q0 ko qo (u, o)) H1 := hP.sub [1, 2, 3, 4, 5, 6, 7, 8, 9, 10, 11, 12, 0] rfl
    have hD : va_D A (wH kc0 q0 ko qo (u, o)) := hD.sub [1, 2, 3, 4, 5, 6, 7, 8, 9, 10, 11, 12, 0] (by decide) rfl
    refine vx_catch (E := AEn) (name := AEn) hown [] ⟨0, 10, 13, 13⟩ [] (by rw [htab]; rfl) (fun z hz => nomatch hz) (by decide) (by decide) (hts (.classLink RL 13 AEn) (List.mem_of_getElem? (i := 1) rfl)) (bX.use hz.2.2.2.2.2 _ (by decide)) hce hcv hcl ?_
    refine lv_astore (lv' := [(4, .ref q9), (0, .ref (q0 0)), (1, .int x1), (2, .int x2), (3, .ref qo)]) hx hb dL_over_13 hl (by decide) rfl (fun ls hl => ?_)
    refine lv_iconst (v := (1 : Int32)) hx hb dL_over_15 (by decide) ?_
    exact W.iret (v := 1) hx hb hret (fun t ht hW => ⟨⟨1, (u, o), rfl, by rw [← hw]; rfl, by rw [ht]; exact hP, va_K.moved hW.alike hK, hD⟩, hS.F ht⟩) hS.2.2 dL_over_16 hlocks
  · obtain ⟨hP1, hK1, hD1⟩ := hB
    rw [ht] at hP1
    obtain ⟨hP, hD⟩ := va_join (wr := wO ko qo o) (w1 := wX0 kc0 q0 u) hP hD [0, 1, 2, 3, 4, 5, 6, 7, 8, 9, 10, 11] [12] rfl rfl (by decide) (by decide) hk1 hFc hP1 hD1
    have hP : va_P D vwCl (wH kc0 q0 ko qo (u, o)) H1 := hP.sub [1, 2, 3, 4, 5, 6, 7, 8, 9, 10, 11, 12, 0] rfl
    have hD : va_D A (wH kc0 q0 ko qo (u, o)) := hD.sub [1, 2, 3, 4, 5, 6, 7, 8, 9, 10, 11, 12, 0] (by decide) rfl
    refine lv_i2l (v := r9.toInt64) hx hb dL_over_8 rfl ?_
    refine va_last hx hb hK hP hD hS 12 11 rfl rfl (ix_in (i := 0) (n := 1) (by decide)) dL_over_9 (fun H locs hP hD hS => ?_)
    have hP : va_P D vwCl (wH kc0 q0 ko qo (u, vp_updL o 0 r9.toInt64)) H := hP
    have hD : va_D A (wH kc0 q0 ko qo (u, vp_updL o 0 r9.toInt64)) := hD
    refine lv_goto (tgt := 17) hx hb dL_over_10 (by decide) ?_
    refine lv_iconst (v := (0 : Int32)) hx hb dL_over_17 (by decide) ?_
    exact W.iret (v := 0) hx hb hret (fun t ht hW => ⟨⟨0, (u, vp_updL o 0 r9.toInt64), rfl, by rw [← hw]; rfl, by rw [ht]; exact hP, va_K.moved hW.alike hK, hD⟩, hS.F ht⟩) hS.2.2 dL_over_18 hlocks
abbrev rmL_share : Room := { frames := 9, cells := 1, slots := 6, locals := 260 }
set_option maxHeartbeats 4000000 in
set_option maxRecDepth 100000 in
theorem mL_share (l : Launch) (D : va_G) (kc0 : Nat → ClassId) (q0 : Nat → Nat) (ko : ClassId) (qo : Nat) (σ : CS) (o : Nat → Int64) (x1 x2 : Int32) (r : Option Int32 × CS) (hr : fX0_share σ x1 x2 = some r) : MHi l yL_share wsL_share rmL_share D kc0 q0 ko qo (σ, o) [.ref (q0 0), .int x1, .int x2, .ref qo] (fH r o) := by
  intro sz
  refine Met_ofWH (cc := cL_share) (maxL := 5) (ret := some .int) (by decide) rfl ?_
  intro p e s m args below meth c s₁ B hml htab hv
  obtain ⟨rfl, hsz, hP, hK, hD0, hz⟩ := hv
  subst hsz
  have hx := B.exec
  have hb := B.bytes
  have hret := B.returns
  have hts := atoms_spec (ws := wsL_share) B.pre
  have hown : s.vm.findClass RL = some m.cls := findClass_of_methodNamed B.named
  have hlocks := B.notSynchronized
  have hD := hD0.self (sz := s.heap.size)
  generalize hAe : va_A (wH kc0 q0 ko qo (σ, o)) s.heap.size = A at hD hz ⊢
  have hA : ∀ q : Nat, s.heap.size ≤ q → A q := fun q h => by rw [← hAe]; exact Or.inr h
  have hS : va_S A s.heap s.heap [] := va_S.rf
  have hl := lv_entry ([.ref (q0 0), .int x1, .int x2, .ref qo]) (n := 5) (Nat.le_of_ble_eq_true rfl)
  rw [lg_entry_eq]
  generalize (lg_sl ([.ref (q0 0), .int x1, .int x2, .ref qo]) ++ List.replicate (5 - (lg_sl ([.ref (q0 0), .int x1, .int x2, .ref qo])).length) Slot.unset).toArray = ls at hl ⊢
  have hl : lv_has ls 5 [(0, .ref (q0 0)), (1, .int x1), (2, .int x2), (3, .ref qo)] := hl
  refine lv_aload_n hx hb dL_share_0 rfl (lv_at hl 3 rfl) ?_
  refine lv_iconst (v := (0 : Int32)) hx hb dL_share_1 (by decide) ?_
  refine lv_aload_n hx hb dL_share_2 rfl (lv_at hl 0 rfl) ?_
  refine lv_iload_n hx hb dL_share_3 rfl (lv_at hl 1 rfl) ?_
  refine lv_iload_n hx hb dL_share_4 rfl (lv_at hl 2 rfl) ?_
  have hPc := hP.sub (ws' := wX0 kc0 q0 σ) [0, 1, 2, 3, 4, 5, 6, 7, 8, 9, 10, 11] rfl
  have hDc := hD.sub (ws' := wX0 kc0 q0 σ) [0, 1, 2, 3, 4, 5, 6, 7, 8, 9, 10, 11] (by decide) rfl
  have hKc := hK.sub (tys' := tysX0 kc0) [0, 1, 2, 3, 4, 5, 6, 7, 8, 9, 10] rfl
  have hFc := va_free (wc := wX0 kc0 q0 σ) hD hS hA [0, 1, 2, 3, 4, 5, 6, 7, 8, 9, 10, 11] rfl
  refine vx_calli (vx_runV (As := [.int x1, .int x2]) (rest := [.int (0 : Int32), .ref qo]) (C := RX0) ⟨hx, hb, hml, hown, hts⟩ (mX0_share l D kc0 q0 σ x1 x2 r hr s.heap.size) (cwV 2 hts gL_share_X0_share rfl rfl rfl (by decide +kernel) ⟨Nat.le_of_ble_eq_true rfl, Nat.le_of_ble_eq_true rfl⟩) ⟨PcX_blind, va_recv hKc hPc (ci := 0) (q0 := 0) rfl rfl, fun U hU hW => ⟨rfl, by rw [hU], by rw [hU]; exact hPc, va_K.moved hW.alike hKc, hDc.weaken (fun _ _ _ _ => trivial), by rw [hU]; exact (hz.narrow hFc).warm hW⟩⟩ rfl rfl hl.1 rfl (lv_room (Nat.le_of_ble_eq_true rfl)) dL_share_5 ⟨Nat.le_of_ble_eq_true rfl, Nat.le_of_ble_eq_true rfl⟩) hS (fun q _ h => hFc q h) hFc (fun q _ h => hFc q h) (fun E ce q9 u t H1 locs ht hvm hw hB hz1 hk1 hS hce hcv hcl => ?_) (fun r9 u t H1 locs ht hvm hw hB hz1 hk1 hS => ?_)
  · obtain ⟨rfl, hP1, hK1, hD1⟩ := hB
    rw [ht] at hP1
    obtain ⟨hP, hD⟩ := va_join (wr := wO ko qo o) (w1 := wX0 kc0 q0 u) hP hD [0, 1, 2, 3, 4, 5, 6, 7, 8, 9, 10, 11] [12] rfl rfl (by decide) (by decide) hk1 hFc hP1 hD1
    have hP : va_P D vwCl (wH kc0 q0 ko qo (u, o)) H1 := hP.sub [1, 2, 3, 4, 5, 6, 7, 8, 9, 10, 11, 12, 0] rfl
    have hD : va_D A (wH kc0 q0 ko qo (u, o)) := hD.sub [1, 2, 3, 4, 5, 6, 7, 8, 9, 10, 11, 12, 0] (by decide) rfl
    refine vx_catch (E := AEn) (name := AEn) hown [] ⟨0, 10, 13, 13⟩ [] (by rw [htab]; rfl) (fun z hz => nomatch hz) (by decide) (by decide) (hts (.classLink RL 13 AEn) (List.mem_of_getElem? (i := 1) rfl)) (bX.use hz.2.2.2.2.2 _ (by decide)) hce hcv hcl ?_
    refine lv_astore (lv' := [(4, .ref q9), (0, .ref (q0 0)), (1, .int x1), (2, .int x2), (3, .ref qo)]) hx hb dL_share_13 hl (by decide) rfl (fun ls hl => ?_)
    refine lv_iconst (v := (1 : Int32)) hx hb dL_share_15 (by decide) ?_
    exact W.iret (v := 1) hx hb hret (fun t ht hW => ⟨⟨1, (u, o), rfl, by rw [← hw]; rfl, by rw [ht]; exact hP, va_K.moved hW.alike hK, hD⟩, hS.F ht⟩) hS.2.2 dL_share_16 hlocks
  · obtain ⟨hP1, hK1, hD1⟩ := hB
    rw [ht] at hP1
    obtain ⟨hP, hD⟩ := va_join (wr := wO ko qo o) (w1 := wX0 kc0 q0 u) hP hD [0, 1, 2, 3, 4, 5, 6, 7, 8, 9, 10, 11] [12] rfl rfl (by decide) (by decide) hk1 hFc hP1 hD1
    have hP : va_P D vwCl (wH kc0 q0 ko qo (u, o)) H1 := hP.sub [1, 2, 3, 4, 5, 6, 7, 8, 9, 10, 11, 12, 0] rfl
    have hD : va_D A (wH kc0 q0 ko qo (u, o)) := hD.sub [1, 2, 3, 4, 5, 6, 7, 8, 9, 10, 11, 12, 0] (by decide) rfl
    refine lv_i2l (v := r9.toInt64) hx hb dL_share_8 rfl ?_
    refine va_last hx hb hK hP hD hS 12 11 rfl rfl (ix_in (i := 0) (n := 1) (by decide)) dL_share_9 (fun H locs hP hD hS => ?_)
    have hP : va_P D vwCl (wH kc0 q0 ko qo (u, vp_updL o 0 r9.toInt64)) H := hP
    have hD : va_D A (wH kc0 q0 ko qo (u, vp_updL o 0 r9.toInt64)) := hD
    refine lv_goto (tgt := 17) hx hb dL_share_10 (by decide) ?_
    refine lv_iconst (v := (0 : Int32)) hx hb dL_share_17 (by decide) ?_
    exact W.iret (v := 0) hx hb hret (fun t ht hW => ⟨⟨0, (u, vp_updL o 0 r9.toInt64), rfl, by rw [← hw]; rfl, by rw [ht]; exact hP, va_K.moved hW.alike hK, hD⟩, hS.F ht⟩) hS.2.2 dL_share_18 hlocks
