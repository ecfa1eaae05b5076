/-! the constructors -/
theorem va_AOA.moved {t : FieldType} {u U : State} (hvm : u.vm.Alike U.vm) (h : va_AOA t u) : va_AOA t U := by
  obtain ⟨comp, c, k, h1, h2, h3, h4, h5⟩ := arrayOverA_spec h
  obtain ⟨k', hk', he⟩ := hvm.2.2 _ _ h3
  have hi : (U.vm.classes.findIdx? fun (x : Class) => match x.kind with | .array component _ => component == comp | _ => false) = some c := by
    have e1 : ∀ vm : Vm, (vm.bare.classes.findIdx? fun (x : Class) => match x.kind with | .array component _ => component == comp | _ => false) = (vm.classes.findIdx? fun (x : Class) => match x.kind with | .array component _ => component == comp | _ => false) := by
      intro vm
      simp only [Vm.bare, Array.findIdx?_map]
      rfl
    rw [← e1]
    first | rw [hvm.bare_eq] | rw [← hvm.bare_eq]
    rw [e1]
    exact h2
  have hkind : k'.kind = .array comp (.array t) := by rw [he]; exact h4
  have f1 : U.vm.findClass (FieldType.array t).toString = some comp := by rw [hvm.findClass]; exact h1
  have f2 : U.vm.findClass ("[" ++ (FieldType.array t).toString) = some c := by rw [hvm.findClass]; exact h5
  unfold va_AOA Cond.before Cond.holds
  simp only [Cond.value]
  rw [f1, Option.bind_some]
  refine (congrArg (fun o : Option Nat => (o.bind (fun c => (U.vm.classes[c]?).map fun (k : Class) => match k.kind with | .array _ ty => decide (ty = FieldType.array t) && decide (U.vm.findClass ("[" ++ (FieldType.array t).toString) = some c) | _ => false) == some true)) hi).trans ?_
  simp [hk', hkind, f2]
abbrev zL : Nat → Int64 := fun _ => 0
abbrev zI : Nat → Int32 := fun _ => 0
def cs0 : CS := (zL, zL, 0, 0, fun _ => zL, zI, zI, zL, 0, zL, 0, 0, 0)
def ms0 : MS := (zL, zL, 0, 0, 0, 0, zL, zI, -5, zI, zL, 0, 0, 0, 0, zL, zL)
/-- a table of eight and on -/
def tb8 {α : Type} (a0 a1 a2 a3 a4 a5 a6 a7 : α) (r : Nat → α) (k : Nat) : α := if k = 0 then a0 else if k = 1 then a1 else if k = 2 then a2 else if k = 3 then a3 else if k = 4 then a4 else if k = 5 then a5 else if k = 6 then a6 else if k = 7 then a7 else r (k - 8)
theorem tb8_r {α : Type} (a0 a1 a2 a3 a4 a5 a6 a7 : α) (r : Nat → α) (i : Nat) : tb8 a0 a1 a2 a3 a4 a5 a6 a7 r (8 + i) = r i := by
  unfold tb8
  rw [if_neg (by omega), if_neg (by omega), if_neg (by omega), if_neg (by omega), if_neg (by omega), if_neg (by omega), if_neg (by omega), if_neg (by omega)]
  rw [Nat.add_sub_cancel_left]
theorem va_pl4 (r : Nat → Nat) (f : Nat → va_E) (e : va_E) : va_pl ([] ++ (List.range 4).map r) (vr_up f ((List.range 4).map r) e) = [(r 0, e), (r 1, e), (r 2, e), (r 3, e)] := by
  simp [va_pl, vr_up, List.range, List.range.loop]
abbrev rmX0_init : Room := { frames := 1, cells := 11, slots := 152, locals := 60 }
abbrev nX0 (h0 : Nat) : va_W := [(h0, .inr (0, [.null, .null, .int 0, .int 0, .null, .null, .null, .null, .int 0, .null, .int 0, .int 0, .int 0]))]
theorem hinX0_init : ∀ w ∈ u_ws RX0 TX0 13, w ∈ wsX0_init := by first | exact fun _ h => List.mem_cons_of_mem _ (List.mem_append_right _ h) | decide +kernel
set_option maxHeartbeats 4000000 in
set_option maxRecDepth 100000 in
theorem mX0_init (l : Launch) (D : va_G) (h0 sz : Nat) : Met l yX0_init wsX0_init rmX0_init (va_Pc [.ref h0] (fun U => U.heap.size = sz ∧ va_P D vwCl (nX0 h0) U.heap ∧ va_K D vwCl [] U ∧ va_D (fun _ => True) (nX0 h0) ∧ va_AOA .long U)) (va_Qv (fun u : (Nat → ClassId) × (Nat → Nat) => u.2 0 = h0) (fun u t => va_P D vwCl (wX0 u.1 u.2 cs0) t.heap ∧ va_K D vwCl (tysX0 u.1) t ∧ va_D (va_A (nX0 h0) sz) (wX0 u.1 u.2 cs0)) (va_A (nX0 h0) sz)) 11 152 (va_A (nX0 h0) sz) := by
  refine Met.ofW (cc := cX0_init) (maxL := 1) (ret := none) (by decide) rfl ?_
  intro p e s m args below meth c s₁ B hml hv
  obtain ⟨rfl, hsz, hP, hK, hD0, hAOA⟩ := hv
  have hx := B.exec
  have hb := B.bytes
  have hr := B.returns
  have hts := atoms_spec (ws := wsX0_init) B.pre
  have hown : s.vm.findClass RX0 = some m.cls := findClass_of_methodNamed B.named
  have hlocks := B.notSynchronized
  have hin : meth.name = "<init>" := (name_of_methodNamed B.named B.method).1
  subst hsz
  have hD := hD0.self (sz := s.heap.size)
  generalize hAe : va_A (nX0 h0) s.heap.size = A at hD ⊢
  have hA : ∀ q : Nat, s.heap.size ≤ q → A q := fun q h => by rw [← hAe]; exact Or.inr h
  have hS : va_S A s.heap s.heap [] := va_S.rf
  have hP : va_P D vwCl [(h0, .inr (0, [.null, .null, .int 0, .int 0, .null, .null, .null, .null, .int 0, .null, .int 0, .int 0, .int 0]))] s.heap := hP
  have hD : va_D A [(h0, .inr (0, [.null, .null, .int 0, .int 0, .null, .null, .null, .null, .int 0, .null, .int 0, .int 0, .int 0]))] := hD
  have hl := lv_entry ([.ref h0]) (n := 1) (Nat.le_of_ble_eq_true rfl)
  rw [lg_entry_eq]
  generalize (lg_sl ([.ref h0]) ++ List.replicate (1 - (lg_sl ([.ref h0])).length) Slot.unset).toArray = ls at hl ⊢
  have hl : lv_has ls 1 [(0, .ref h0)] := hl
  refine lv_aload_n hx hb dX0_init_0 rfl (lv_at hl 0 rfl) ?_
  refine W.objInit hx hb hown (hts (.methodLink RX0 3 objectInit) (List.mem_of_getElem? (i := 1) rfl)) (hts (.instanceMethod objectInit) (List.mem_of_getElem? (i := 2) rfl)) (hts _ (List.mem_cons_of_mem _ (List.mem_append_left _ (List.mem_of_getElem? (i := 2) rfl)))) rfl (by rw [hml]; exact hl.1) rfl dX0_init_1 (Nat.le_of_ble_eq_true rfl) (Nat.le_of_ble_eq_true rfl) ?_
  refine W.eq (g2 := F0 m 4 ls []) rfl ?_
  refine lv_aload_n hx hb dX0_init_4 rfl (lv_at hl 0 rfl) ?_
  refine lv_bipush (v := (40 : Int32)) hx hb dX0_init_5 (by decide) ?_
  refine va_newa (atype := .long) (ty := .long) (a0 := (40, .inr (.inl zL))) (N' := 40) hx hb (hts (.arrayClass .long) (List.mem_of_getElem? (i := 4) rfl)) rfl hK hP hD hS hA (fun _ => rfl) (by decide +kernel) (by decide +kernel) (by decide +kernel) (Nat.le_of_ble_eq_true rfl) (Nat.le_of_ble_eq_true rfl) dX0_init_7 (fun q1 k1 H hK hP hD hS => ?_)
  have hP : va_P D vwCl [(h0, .inr (0, [.null, .null, .int 0, .int 0, .null, .null, .null, .null, .int 0, .null, .int 0, .int 0, .int 0])), (q1, .inl (k1, 40, .inr (.inl zL)))] H := hP
  have hD : va_D A [(h0, .inr (0, [.null, .null, .int 0, .int 0, .null, .null, .null, .null, .int 0, .null, .int 0, .int 0, .int 0])), (q1, .inl (k1, 40, .inr (.inl zL)))] := hD
  have hK : va_K D vwCl [(k1, .long)] s := hK
  refine W.widen (k := 1) (n := 40) (by decide) (by decide) ?_
  refine va_putF (D := D) (ci := 0) (v := .ref q1) (ty := .array .long) (C := RX0) (T := TX0) (N := 13) hx hb hts hinX0_init tyX0 tyX0_ok nmX0 hown hK hP hD hS 0 rfl rfl 0 (by decide) (hts (.fieldLink RX0 11 "ExactShares" "above" "[J") (List.mem_of_getElem? (i := 5) rfl)) (fun _ h9 => h9) rfl hin rfl (by decide +kernel) rfl rfl (Nat.le_of_ble_eq_true rfl) dX0_init_9 (fun H locs hP hD hS => ?_)
  have hP : va_P D vwCl [(h0, .inr (0, [.ref q1, .null, .int 0, .int 0, .null, .null, .null, .null, .int 0, .null, .int 0, .int 0, .int 0])), (q1, .inl (k1, 40, .inr (.inl zL)))] H := hP
  have hD : va_D A [(h0, .inr (0, [.ref q1, .null, .int 0, .int 0, .null, .null, .null, .null, .int 0, .null, .int 0, .int 0, .int 0])), (q1, .inl (k1, 40, .inr (.inl zL)))] := hD
  refine lv_aload_n hx hb dX0_init_12 rfl (lv_at hl 0 rfl) ?_
  refine lv_bipush (v := (40 : Int32)) hx hb dX0_init_13 (by decide) ?_
  refine va_newa (atype := .long) (ty := .long) (a0 := (40, .inr (.inl zL))) (N' := 40) hx hb (hts (.arrayClass .long) (List.mem_of_getElem? (i := 4) rfl)) rfl hK hP hD hS hA (fun _ => rfl) (by decide +kernel) (by decide +kernel) (by decide +kernel) (Nat.le_of_ble_eq_true rfl) (Nat.le_of_ble_eq_true rfl) dX0_init_15 (fun q2 k2 H hK hP hD hS => ?_)
  have hP : va_P D vwCl [(h0, .inr (0, [.ref q1, .null, .int 0, .int 0, .null, .null, .null, .null, .int 0, .null, .int 0, .int 0, .int 0])), (q1, .inl (k1, 40, .inr (.inl zL))), (q2, .inl (k2, 40, .inr (.inl zL)))] H := hP
  have hD : va_D A [(h0, .inr (0, [.ref q1, .null, .int 0, .int 0, .null, .null, .null, .null, .int 0, .null, .int 0, .int 0, .int 0])), (q1, .inl (k1, 40, .inr (.inl zL))), (q2, .inl (k2, 40, .inr (.inl zL)))] := hD
  have hK : va_K D vwCl [(k1, .long), (k2, .long)] s := hK
  refine W.widen (k := 2) (n := 80) (by decide) (by decide) ?_
  refine va_putF (D := D) (ci := 0) (v := .ref q2) (ty := .array .long) (C := RX0) (T := TX0) (N := 13) hx hb hts hinX0_init tyX0 tyX0_ok nmX0 hown hK hP hD hS 0 rfl rfl 1 (by decide) (hts (.fieldLink RX0 15 "ExactShares" "below" "[J") (List.mem_of_getElem? (i := 6) rfl)) (fun _ h9 => h9) rfl hin rfl (by decide +kernel) rfl rfl (Nat.le_of_ble_eq_true rfl) dX0_init_17 (fun H locs hP hD hS => ?_)
  have hP : va_P D vwCl [(h0, .inr (0, [.ref q1, .ref q2, .int 0, .int 0, .null, .null, .null, .null, .int 0, .null, .int 0, .int 0, .int 0])), (q1, .inl (k1, 40, .inr (.inl zL))), (q2, .inl (k2, 40, .inr (.inl zL)))] H := hP
  have hD : va_D A [(h0, .inr (0, [.ref q1, .ref q2, .int 0, .int 0, .null, .null, .null, .null, .int 0, .null, .int 0, .int 0, .int 0])), (q1, .inl (k1, 40, .inr (.inl zL))), (q2, .inl (k2, 40, .inr (.inl zL)))] := hD
  refine lv_aload_n hx hb dX0_init_20 rfl (lv_at hl 0 rfl) ?_
  refine lv_iconst (v := (4 : Int32)) hx hb dX0_init_21 (by decide) ?_
  refine lv_bipush (v := (8 : Int32)) hx hb dX0_init_22 (by decide) ?_
  have hcy : s.vm.findClass (FieldType.array .long).toString = some k1 := (hK.2 0 _ rfl).2
  refine va_mna (X := [(h0, .inr (0, [.ref q1, .ref q2, .int 0, .int 0, .null, .null, .null, .null, .int 0, .null, .int 0, .int 0, .int 0])), (q1, .inl (k1, 40, .inr (.inl zL))), (q2, .inl (k2, 40, .inr (.inl zL)))]) (L := []) (f := fun _ => .inr (0, [])) (ty := .long) (cy := k1) (N' := 4) (K' := 8) (z := (8, .inr (.inl zL))) hx hb hown (hts (.classLink RX0 18 "[[J") (List.mem_of_getElem? (i := 7) rfl)) hAOA (hts (.arrayClass .long) (List.mem_of_getElem? (i := 4) rfl)) hcy hK (by exact hP) (by exact hD) hS hA (by decide +kernel) (by decide +kernel) (by decide +kernel) (by decide +kernel) (by decide +kernel) (by decide +kernel) (by decide +kernel) rfl rfl (Nat.le_of_ble_eq_true rfl) (Nat.le_of_ble_eq_true rfl) (fun _ => by first | rfl | simp [Jvm.Free.Multi.innerC, vp_cell, arrV, defaultValue]) dX0_init_24 (fun q3 r k3 H hinj hnot hK hP hD hS => ?_)
  rw [va_pl4] at hP hD
  have hP : va_P D vwCl [(h0, .inr (0, [.ref q1, .ref q2, .int 0, .int 0, .null, .null, .null, .null, .int 0, .null, .int 0, .int 0, .int 0])), (q1, .inl (k1, 40, .inr (.inl zL))), (q2, .inl (k2, 40, .inr (.inl zL))), (q3, .inl (k3, 4, .inr (.inr (.inr (.inr (fun i => if i < 4 then some (r i) else none)))))), (r 0, .inl (k1, 8, .inr (.inl zL))), (r 1, .inl (k1, 8, .inr (.inl zL))), (r 2, .inl (k1, 8, .inr (.inl zL))), (r 3, .inl (k1, 8, .inr (.inl zL)))] H := hP
  have hD : va_D A [(h0, .inr (0, [.ref q1, .ref q2, .int 0, .int 0, .null, .null, .null, .null, .int 0, .null, .int 0, .int 0, .int 0])), (q1, .inl (k1, 40, .inr (.inl zL))), (q2, .inl (k2, 40, .inr (.inl zL))), (q3, .inl (k3, 4, .inr (.inr (.inr (.inr (fun i => if i < 4 then some (r i) else none)))))), (r 0, .inl (k1, 8, .inr (.inl zL))), (r 1, .inl (k1, 8, .inr (.inl zL))), (r 2, .inl (k1, 8, .inr (.inl zL))), (r 3, .inl (k1, 8, .inr (.inl zL)))] := hD
  have hK : va_K D vwCl [(k1, .long), (k2, .long), (k3, .array .long)] s := hK
  refine W.widen (k := 7) (n := 116) (by decide) (by decide) ?_
  refine va_putF (D := D) (ci := 0) (v := .ref q3) (ty := .array (.array .long)) (C := RX0) (T := TX0) (N := 13) hx hb hts hinX0_init tyX0 tyX0_ok nmX0 hown hK hP hD hS 0 rfl rfl 4 (by decide) (hts (.fieldLink RX0 20 "ExactShares" "values" "[[J") (List.mem_of_getElem? (i := 8) rfl)) (fun _ h9 => h9) rfl hin rfl (by decide +kernel) rfl rfl (Nat.le_of_ble_eq_true rfl) dX0_init_28 (fun H locs hP hD hS => ?_)
  have hP : va_P D vwCl [(h0, .inr (0, [.ref q1, .ref q2, .int 0, .int 0, .ref q3, .null, .null, .null, .int 0, .null, .int 0, .int 0, .int 0])), (q1, .inl (k1, 40, .inr (.inl zL))), (q2, .inl (k2, 40, .inr (.inl zL))), (q3, .inl (k3, 4, .inr (.inr (.inr (.inr (fun i => if i < 4 then some (r i) else none)))))), (r 0, .inl (k1, 8, .inr (.inl zL))), (r 1, .inl (k1, 8, .inr (.inl zL))), (r 2, .inl (k1, 8, .inr (.inl zL))), (r 3, .inl (k1, 8, .inr (.inl zL)))] H := hP
  have hD : va_D A [(h0, .inr (0, [.ref q1, .ref q2, .int 0, .int 0, .ref q3, .null, .null, .null, .int 0, .null, .int 0, .int 0, .int 0])), (q1, .inl (k1, 40, .inr (.inl zL))), (q2, .inl (k2, 40, .inr (.inl zL))), (q3, .inl (k3, 4, .inr (.inr (.inr (.inr (fun i => if i < 4 then some (r i) else none)))))), (r 0, .inl (k1, 8, .inr (.inl zL))), (r 1, .inl (k1, 8, .inr (.inl zL))), (r 2, .inl (k1, 8, .inr (.inl zL))), (r 3, .inl (k1, 8, .inr (.inl zL)))] := hD
  refine lv_aload_n hx hb dX0_init_31 rfl (lv_at hl 0 rfl) ?_
  refine lv_iconst (v := (4 : Int32)) hx hb dX0_init_32 (by decide) ?_
  refine va_newa (atype := .int) (ty := .int) (a0 := (4, .inl zI)) (N' := 4) hx hb (hts (.arrayClass .int) (List.mem_of_getElem? (i := 9) rfl)) rfl hK hP hD hS hA (fun _ => rfl) (by decide +kernel) (by decide +kernel) (by decide +kernel) (Nat.le_of_ble_eq_true rfl) (Nat.le_of_ble_eq_true rfl) dX0_init_33 (fun q4 k4 H hK hP hD hS => ?_)
  have hP : va_P D vwCl [(h0, .inr (0, [.ref q1, .ref q2, .int 0, .int 0, .ref q3, .null, .null, .null, .int 0, .null, .int 0, .int 0, .int 0])), (q1, .inl (k1, 40, .inr (.inl zL))), (q2, .inl (k2, 40, .inr (.inl zL))), (q3, .inl (k3, 4, .inr (.inr (.inr (.inr (fun i => if i < 4 then some (r i) else none)))))), (r 0, .inl (k1, 8, .inr (.inl zL))), (r 1, .inl (k1, 8, .inr (.inl zL))), (r 2, .inl (k1, 8, .inr (.inl zL))), (r 3, .inl (k1, 8, .inr (.inl zL))), (q4, .inl (k4, 4, .inl zI))] H := hP
  have hD : va_D A [(h0, .inr (0, [.ref q1, .ref q2, .int 0, .int 0, .ref q3, .null, .null, .null, .int 0, .null, .int 0, .int 0, .int 0])), (q1, .inl (k1, 40, .inr (.inl zL))), (q2, .inl (k2, 40, .inr (.inl zL))), (q3, .inl (k3, 4, .inr (.inr (.inr (.inr (fun i => if i < 4 then some (r i) else none)))))), (r 0, .inl (k1, 8, .inr (.inl zL))), (r 1, .inl (k1, 8, .inr (.inl zL))), (r 2, .inl (k1, 8, .inr (.inl zL))), (r 3, .inl (k1, 8, .inr (.inl zL))), (q4, .inl (k4, 4, .inl zI))] := hD
  have hK : va_K D vwCl [(k1, .long), (k2, .long), (k3, .array .long), (k4, .int)] s := hK
  refine W.widen (k := 8) (n := 120) (by decide) (by decide) ?_
  refine va_putF (D := D) (ci := 0) (v := .ref q4) (ty := .array .int) (C := RX0) (T := TX0) (N := 13) hx hb hts hinX0_init tyX0 tyX0_ok nmX0 hown hK hP hD hS 0 rfl rfl 5 (by decide) (hts (.fieldLink RX0 23 "ExactShares" "sizes" "[I") (List.mem_of_getElem? (i := 10) rfl)) (fun _ h9 => h9) rfl hin rfl (by decide +kernel) rfl rfl (Nat.le_of_ble_eq_true rfl) dX0_init_35 (fun H locs hP hD hS => ?_)
  have hP : va_P D vwCl [(h0, .inr (0, [.ref q1, .ref q2, .int 0, .int 0, .ref q3, .ref q4, .null, .null, .int 0, .null, .int 0, .int 0, .int 0])), (q1, .inl (k1, 40, .inr (.inl zL))), (q2, .inl (k2, 40, .inr (.inl zL))), (q3, .inl (k3, 4, .inr (.inr (.inr (.inr (fun i => if i < 4 then some (r i) else none)))))), (r 0, .inl (k1, 8, .inr (.inl zL))), (r 1, .inl (k1, 8, .inr (.inl zL))), (r 2, .inl (k1, 8, .inr (.inl zL))), (r 3, .inl (k1, 8, .inr (.inl zL))), (q4, .inl (k4, 4, .inl zI))] H := hP
  have hD : va_D A [(h0, .inr (0, [.ref q1, .ref q2, .int 0, .int 0, .ref q3, .ref q4, .null, .null, .int 0, .null, .int 0, .int 0, .int 0])), (q1, .inl (k1, 40, .inr (.inl zL))), (q2, .inl (k2, 40, .inr (.inl zL))), (q3, .inl (k3, 4, .inr (.inr (.inr (.inr (fun i => if i < 4 then some (r i) else none)))))), (r 0, .inl (k1, 8, .inr (.inl zL))), (r 1, .inl (k1, 8, .inr (.inl zL))), (r 2, .inl (k1, 8, .inr (.inl zL))), (r 3, .inl (k1, 8, .inr (.inl zL))), (q4, .inl (k4, 4, .inl zI))] := hD
  refine lv_aload_n hx hb dX0_init_38 rfl (lv_at hl 0 rfl) ?_
  refine lv_bipush (v := (8 : Int32)) hx hb dX0_init_39 (by decide) ?_
  refine va_newa (atype := .int) (ty := .int) (a0 := (8, .inl zI)) (N' := 8) hx hb (hts (.arrayClass .int) (List.mem_of_getElem? (i := 9) rfl)) rfl hK hP hD hS hA (fun _ => rfl) (by decide +kernel) (by decide +kernel) (by decide +kernel) (Nat.le_of_ble_eq_true rfl) (Nat.le_of_ble_eq_true rfl) dX0_init_41 (fun q5 k5 H hK hP hD hS => ?_)
  have hP : va_P D vwCl [(h0, .inr (0, [.ref q1, .ref q2, .int 0, .int 0, .ref q3, .ref q4, .null, .null, .int 0, .null, .int 0, .int 0, .int 0])), (q1, .inl (k1, 40, .inr (.inl zL))), (q2, .inl (k2, 40, .inr (.inl zL))), (q3, .inl (k3, 4, .inr (.inr (.inr (.inr (fun i => if i < 4 then some (r i) else none)))))), (r 0, .inl (k1, 8, .inr (.inl zL))), (r 1, .inl (k1, 8, .inr (.inl zL))), (r 2, .inl (k1, 8, .inr (.inl zL))), (r 3, .inl (k1, 8, .inr (.inl zL))), (q4, .inl (k4, 4, .inl zI)), (q5, .inl (k5, 8, .inl zI))] H := hP
  have hD : va_D A [(h0, .inr (0, [.ref q1, .ref q2, .int 0, .int 0, .ref q3, .ref q4, .null, .null, .int 0, .null, .int 0, .int 0, .int 0])), (q1, .inl (k1, 40, .inr (.inl zL))), (q2, .inl (k2, 40, .inr (.inl zL))), (q3, .inl (k3, 4, .inr (.inr (.inr (.inr (fun i => if i < 4 then some (r i) else none)))))), (r 0, .inl (k1, 8, .inr (.inl zL))), (r 1, .inl (k1, 8, .inr (.inl zL))), (r 2, .inl (k1, 8, .inr (.inl zL))), (r 3, .inl (k1, 8, .inr (.inl zL))), (q4, .inl (k4, 4, .inl zI)), (q5, .inl (k5, 8, .inl zI))] := hD
  have hK : va_K D vwCl [(k1, .long), (k2, .long), (k3, .array .long), (k4, .int), (k5, .int)] s := hK
  refine W.widen (k := 9) (n := 128) (by decide) (by decide) ?_
  refine va_putF (D := D) (ci := 0) (v := .ref q5) (ty := .array .int) (C := RX0) (T := TX0) (N := 13) hx hb hts hinX0_init tyX0 tyX0_ok nmX0 hown hK hP hD hS 0 rfl rfl 6 (by decide) (hts (.fieldLink RX0 27 "ExactShares" "seatsGiven" "[I") (List.mem_of_getElem? (i := 11) rfl)) (fun _ h9 => h9) rfl hin rfl (by decide +kernel) rfl rfl (Nat.le_of_ble_eq_true rfl) dX0_init_43 (fun H locs hP hD hS => ?_)
  have hP : va_P D vwCl [(h0, .inr (0, [.ref q1, .ref q2, .int 0, .int 0, .ref q3, .ref q4, .ref q5, .null, .int 0, .null, .int 0, .int 0, .int 0])), (q1, .inl (k1, 40, .inr (.inl zL))), (q2, .inl (k2, 40, .inr (.inl zL))), (q3, .inl (k3, 4, .inr (.inr (.inr (.inr (fun i => if i < 4 then some (r i) else none)))))), (r 0, .inl (k1, 8, .inr (.inl zL))), (r 1, .inl (k1, 8, .inr (.inl zL))), (r 2, .inl (k1, 8, .inr (.inl zL))), (r 3, .inl (k1, 8, .inr (.inl zL))), (q4, .inl (k4, 4, .inl zI)), (q5, .inl (k5, 8, .inl zI))] H := hP
  have hD : va_D A [(h0, .inr (0, [.ref q1, .ref q2, .int 0, .int 0, .ref q3, .ref q4, .ref q5, .null, .int 0, .null, .int 0, .int 0, .int 0])), (q1, .inl (k1, 40, .inr (.inl zL))), (q2, .inl (k2, 40, .inr (.inl zL))), (q3, .inl (k3, 4, .inr (.inr (.inr (.inr (fun i => if i < 4 then some (r i) else none)))))), (r 0, .inl (k1, 8, .inr (.inl zL))), (r 1, .inl (k1, 8, .inr (.inl zL))), (r 2, .inl (k1, 8, .inr (.inl zL))), (r 3, .inl (k1, 8, .inr (.inl zL))), (q4, .inl (k4, 4, .inl zI)), (q5, .inl (k5, 8, .inl zI))] := hD
  refine lv_aload_n hx hb dX0_init_46 rfl (lv_at hl 0 rfl) ?_
  refine lv_bipush (v := (8 : Int32)) hx hb dX0_init_47 (by decide) ?_
  refine va_newa (atype := .long) (ty := .long) (a0 := (8, .inr (.inl zL))) (N' := 8) hx hb (hts (.arrayClass .long) (List.mem_of_getElem? (i := 4) rfl)) rfl hK hP hD hS hA (fun _ => rfl) (by decide +kernel) (by decide +kernel) (by decide +kernel) (Nat.le_of_ble_eq_true rfl) (Nat.le_of_ble_eq_true rfl) dX0_init_49 (fun q6 k6 H hK hP hD hS => ?_)
  have hP : va_P D vwCl [(h0, .inr (0, [.ref q1, .ref q2, .int 0, .int 0, .ref q3, .ref q4, .ref q5, .null, .int 0, .null, .int 0, .int 0, .int 0])), (q1, .inl (k1, 40, .inr (.inl zL))), (q2, .inl (k2, 40, .inr (.inl zL))), (q3, .inl (k3, 4, .inr (.inr (.inr (.inr (fun i => if i < 4 then some (r i) else none)))))), (r 0, .inl (k1, 8, .inr (.inl zL))), (r 1, .inl (k1, 8, .inr (.inl zL))), (r 2, .inl (k1, 8, .inr (.inl zL))), (r 3, .inl (k1, 8, .inr (.inl zL))), (q4, .inl (k4, 4, .inl zI)), (q5, .inl (k5, 8, .inl zI)), (q6, .inl (k6, 8, .inr (.inl zL)))] H := hP
  have hD : va_D A [(h0, .inr (0, [.ref q1, .ref q2, .int 0, .int 0, .ref q3, .ref q4, .ref q5, .null, .int 0, .null, .int 0, .int 0, .int 0])), (q1, .inl (k1, 40, .inr (.inl zL))), (q2, .inl (k2, 40, .inr (.inl zL))), (q3, .inl (k3, 4, .inr (.inr (.inr (.inr (fun i => if i < 4 then some (r i) else none)))))), (r 0, .inl (k1, 8, .inr (.inl zL))), (r 1, .inl (k1, 8, .inr (.inl zL))), (r 2, .inl (k1, 8, .inr (.inl zL))), (r 3, .inl (k1, 8, .inr (.inl zL))), (q4, .inl (k4, 4, .inl zI)), (q5, .inl (k5, 8, .inl zI)), (q6, .inl (k6, 8, .inr (.inl zL)))] := hD
  have hK : va_K D vwCl [(k1, .long), (k2, .long), (k3, .array .long), (k4, .int), (k5, .int), (k6, .long)] s := hK
  refine W.widen (k := 10) (n := 136) (by decide) (by decide) ?_
  refine va_putF (D := D) (ci := 0) (v := .ref q6) (ty := .array .long) (C := RX0) (T := TX0) (N := 13) hx hb hts hinX0_init tyX0 tyX0_ok nmX0 hown hK hP hD hS 0 rfl rfl 7 (by decide) (hts (.fieldLink RX0 30 "ExactShares" "remainders" "[J") (List.mem_of_getElem? (i := 12) rfl)) (fun _ h9 => h9) rfl hin rfl (by decide +kernel) rfl rfl (Nat.le_of_ble_eq_true rfl) dX0_init_51 (fun H locs hP hD hS => ?_)
  have hP : va_P D vwCl [(h0, .inr (0, [.ref q1, .ref q2, .int 0, .int 0, .ref q3, .ref q4, .ref q5, .ref q6, .int 0, .null, .int 0, .int 0, .int 0])), (q1, .inl (k1, 40, .inr (.inl zL))), (q2, .inl (k2, 40, .inr (.inl zL))), (q3, .inl (k3, 4, .inr (.inr (.inr (.inr (fun i => if i < 4 then some (r i) else none)))))), (r 0, .inl (k1, 8, .inr (.inl zL))), (r 1, .inl (k1, 8, .inr (.inl zL))), (r 2, .inl (k1, 8, .inr (.inl zL))), (r 3, .inl (k1, 8, .inr (.inl zL))), (q4, .inl (k4, 4, .inl zI)), (q5, .inl (k5, 8, .inl zI)), (q6, .inl (k6, 8, .inr (.inl zL)))] H := hP
  have hD : va_D A [(h0, .inr (0, [.ref q1, .ref q2, .int 0, .int 0, .ref q3, .ref q4, .ref q5, .ref q6, .int 0, .null, .int 0, .int 0, .int 0])), (q1, .inl (k1, 40, .inr (.inl zL))), (q2, .inl (k2, 40, .inr (.inl zL))), (q3, .inl (k3, 4, .inr (.inr (.inr (.inr (fun i => if i < 4 then some (r i) else none)))))), (r 0, .inl (k1, 8, .inr (.inl zL))), (r 1, .inl (k1, 8, .inr (.inl zL))), (r 2, .inl (k1, 8, .inr (.inl zL))), (r 3, .inl (k1, 8, .inr (.inl zL))), (q4, .inl (k4, 4, .inl zI)), (q5, .inl (k5, 8, .inl zI)), (q6, .inl (k6, 8, .inr (.inl zL)))] := hD
  refine lv_aload_n hx hb dX0_init_54 rfl (lv_at hl 0 rfl) ?_
  refine lv_bipush (v := (16 : Int32)) hx hb dX0_init_55 (by decide) ?_
  refine va_newa (atype := .long) (ty := .long) (a0 := (16, .inr (.inl zL))) (N' := 16) hx hb (hts (.arrayClass .long) (List.mem_of_getElem? (i := 4) rfl)) rfl hK hP hD hS hA (fun _ => rfl) (by decide +kernel) (by decide +kernel) (by decide +kernel) (Nat.le_of_ble_eq_true rfl) (Nat.le_of_ble_eq_true rfl) dX0_init_57 (fun q7 k7 H hK hP hD hS => ?_)
  have hP : va_P D vwCl [(h0, .inr (0, [.ref q1, .ref q2, .int 0, .int 0, .ref q3, .ref q4, .ref q5, .ref q6, .int 0, .null, .int 0, .int 0, .int 0])), (q1, .inl (k1, 40, .inr (.inl zL))), (q2, .inl (k2, 40, .inr (.inl zL))), (q3, .inl (k3, 4, .inr (.inr (.inr (.inr (fun i => if i < 4 then some (r i) else none)))))), (r 0, .inl (k1, 8, .inr (.inl zL))), (r 1, .inl (k1, 8, .inr (.inl zL))), (r 2, .inl (k1, 8, .inr (.inl zL))), (r 3, .inl (k1, 8, .inr (.inl zL))), (q4, .inl (k4, 4, .inl zI)), (q5, .inl (k5, 8, .inl zI)), (q6, .inl (k6, 8, .inr (.inl zL))), (q7, .inl (k7, 16, .inr (.inl zL)))] H := hP
  have hD : va_D A [(h0, .inr (0, [.ref q1, .ref q2, .int 0, .int 0, .ref q3, .ref q4, .ref q5, .ref q6, .int 0, .null, .int 0, .int 0, .int 0])), (q1, .inl (k1, 40, .inr (.inl zL))), (q2, .inl (k2, 40, .inr (.inl zL))), (q3, .inl (k3, 4, .inr (.inr (.inr (.inr (fun i => if i < 4 then some (r i) else none)))))), (r 0, .inl (k1, 8, .inr (.inl zL))), (r 1, .inl (k1, 8, .inr (.inl zL))), (r 2, .inl (k1, 8, .inr (.inl zL))), (r 3, .inl (k1, 8, .inr (.inl zL))), (q4, .inl (k4, 4, .inl zI)), (q5, .inl (k5, 8, .inl zI)), (q6, .inl (k6, 8, .inr (.inl zL))), (q7, .inl (k7, 16, .inr (.inl zL)))] := hD
  have hK : va_K D vwCl [(k1, .long), (k2, .long), (k3, .array .long), (k4, .int), (k5, .int), (k6, .long), (k7, .long)] s := hK
  refine W.widen (k := 11) (n := 152) (by decide) (by decide) ?_
  refine va_putF (D := D) (ci := 0) (v := .ref q7) (ty := .array .long) (C := RX0) (T := TX0) (N := 13) hx hb hts hinX0_init tyX0 tyX0_ok nmX0 hown hK hP hD hS 0 rfl rfl 9 (by decide) (hts (.fieldLink RX0 33 "ExactShares" "things" "[J") (List.mem_of_getElem? (i := 13) rfl)) (fun _ h9 => h9) rfl hin rfl (by decide +kernel) rfl rfl (Nat.le_of_ble_eq_true rfl) dX0_init_59 (fun H locs hP hD hS => ?_)
  have hP : va_P D vwCl [(h0, .inr (0, [.ref q1, .ref q2, .int 0, .int 0, .ref q3, .ref q4, .ref q5, .ref q6, .int 0, .ref q7, .int 0, .int 0, .int 0])), (q1, .inl (k1, 40, .inr (.inl zL))), (q2, .inl (k2, 40, .inr (.inl zL))), (q3, .inl (k3, 4, .inr (.inr (.inr (.inr (fun i => if i < 4 then some (r i) else none)))))), (r 0, .inl (k1, 8, .inr (.inl zL))), (r 1, .inl (k1, 8, .inr (.inl zL))), (r 2, .inl (k1, 8, .inr (.inl zL))), (r 3, .inl (k1, 8, .inr (.inl zL))), (q4, .inl (k4, 4, .inl zI)), (q5, .inl (k5, 8, .inl zI)), (q6, .inl (k6, 8, .inr (.inl zL))), (q7, .inl (k7, 16, .inr (.inl zL)))] H := hP
  have hD : va_D A [(h0, .inr (0, [.ref q1, .ref q2, .int 0, .int 0, .ref q3, .ref q4, .ref q5, .ref q6, .int 0, .ref q7, .int 0, .int 0, .int 0])), (q1, .inl (k1, 40, .inr (.inl zL))), (q2, .inl (k2, 40, .inr (.inl zL))), (q3, .inl (k3, 4, .inr (.inr (.inr (.inr (fun i => if i < 4 then some (r i) else none)))))), (r 0, .inl (k1, 8, .inr (.inl zL))), (r 1, .inl (k1, 8, .inr (.inl zL))), (r 2, .inl (k1, 8, .inr (.inl zL))), (r 3, .inl (k1, 8, .inr (.inl zL))), (q4, .inl (k4, 4, .inl zI)), (q5, .inl (k5, 8, .inl zI)), (q6, .inl (k6, 8, .inr (.inl zL))), (q7, .inl (k7, 16, .inr (.inl zL)))] := hD
  obtain ⟨kc, hkc⟩ : ∃ kc : Nat → ClassId, kc = tb8 k1 k1 k2 k3 k4 k5 k6 k7 (fun _ => k1) := ⟨_, rfl⟩
  obtain ⟨q, hq⟩ : ∃ q : Nat → Nat, q = tb8 h0 q1 q2 q3 q4 q5 q6 q7 r := ⟨_, rfl⟩
  have hq8 : ∀ i, q (8 + i) = r i := fun i => by rw [hq]; exact tb8_r _ _ _ _ _ _ _ _ _ i
  have hw : wX0 kc q cs0 = [(h0, .inr (0, [.ref q1, .ref q2, .int 0, .int 0, .ref q3, .ref q4, .ref q5, .ref q6, .int 0, .ref q7, .int 0, .int 0, .int 0])), (q1, .inl (k1, 40, .inr (.inl zL))), (q2, .inl (k2, 40, .inr (.inl zL))), (q3, .inl (k3, 4, .inr (.inr (.inr (.inr (fun i => if i < 4 then some (r i) else none)))))), (q4, .inl (k4, 4, .inl zI)), (q5, .inl (k5, 8, .inl zI)), (q6, .inl (k6, 8, .inr (.inl zL))), (q7, .inl (k7, 16, .inr (.inl zL))), (r 0, .inl (k1, 8, .inr (.inl zL))), (r 1, .inl (k1, 8, .inr (.inl zL))), (r 2, .inl (k1, 8, .inr (.inl zL))), (r 3, .inl (k1, 8, .inr (.inl zL)))] := by
    unfold wX0
    simp only [hq8]
    rw [show q 8 = r 0 from hq8 0, show q 9 = r 1 from hq8 1, show q 10 = r 2 from hq8 2, show q 11 = r 3 from hq8 3, hq, hkc]
    rfl
  have hP9 := hP.sub (ws' := wX0 kc q cs0) [0, 1, 2, 3, 8, 9, 10, 11, 4, 5, 6, 7] (by rw [hw]; rfl)
  have hD9 := hD.sub (ws' := wX0 kc q cs0) [0, 1, 2, 3, 8, 9, 10, 11, 4, 5, 6, 7] (by decide) (by rw [hw]; rfl)
  have hK9 := hK.sub (tys' := tysX0 kc) [0, 1, 2, 3, 4, 5, 6, 0, 0, 0, 0] (by rw [hkc]; rfl)
  exact W.vret hx hb hr (fun t ht hW => ⟨⟨(kc, q), rfl, by rw [hq]; rfl, by rw [ht]; exact hP9, va_K.moved hW.alike hK9, hD9⟩, hS.F ht⟩) hS.2.2 dX0_init_62
abbrev rmX1_init : Room := { frames := 1, cells := 8, slots := 148, locals := 60 }
abbrev nX1 (h0 : Nat) : va_W := [(h0, .inr (1, [.null, .null, .int 0, .int 0, .int 0, .int 0, .null, .null, .int 0, .null, .null, .int 0, .int 0, .int 0, .int 0, .null, .null]))]
theorem hinX1_init : ∀ w ∈ u_ws RX1 TX1 17, w ∈ wsX1_init := by first | exact fun _ h => List.mem_cons_of_mem _ (List.mem_append_right _ h) | decide +kernel
set_option maxHeartbeats 4000000 in
set_option maxRecDepth 100000 in
theorem mX1_init (l : Launch) (D : va_G) (h0 sz : Nat) : Met l yX1_init wsX1_init rmX1_init (va_Pc [.ref h0] (fun U => U.heap.size = sz ∧ va_P D vwCl (nX1 h0) U.heap ∧ va_K D vwCl [] U ∧ va_D (fun _ => True) (nX1 h0))) (va_Qv (fun u : (Nat → ClassId) × (Nat → Nat) => u.2 0 = h0) (fun u t => va_P D vwCl (wX1 u.1 u.2 ms0) t.heap ∧ va_K D vwCl (tysX1 u.1) t ∧ va_D (va_A (nX1 h0) sz) (wX1 u.1 u.2 ms0)) (va_A (nX1 h0) sz)) 8 148 (va_A (nX1 h0) sz) := by
  refine Met.ofW (cc := cX1_init) (maxL := 1) (ret := none) (by decide) rfl ?_
  intro p e s m args below meth c s₁ B hml hv
  obtain ⟨rfl, hsz, hP, hK, hD0⟩ := hv
  have hx := B.exec
  have hb := B.bytes
  have hr := B.returns
  have hts := atoms_spec (ws := wsX1_init) B.pre
  have hown : s.vm.findClass RX1 = some m.cls := findClass_of_methodNamed B.named
  have hlocks := B.notSynchronized
  have hin : meth.name = "<init>" := (name_of_methodNamed B.named B.method).1
  subst hsz
  have hD := hD0.self (sz := s.heap.size)
  generalize hAe : va_A (nX1 h0) s.heap.size = A at hD ⊢
  have hA : ∀ q : Nat, s.heap.size ≤ q → A q := fun q h => by rw [← hAe]; exact Or.inr h
  have hS : va_S A s.heap s.heap [] := va_S.rf
  have hP : va_P D vwCl [(h0, .inr (1, [.null, .null, .int 0, .int 0, .int 0, .int 0, .null, .null, .int 0, .null, .null, .int 0, .int 0, .int 0, .int 0, .null, .null]))] s.heap := hP
  have hD : va_D A [(h0, .inr (1, [.null, .null, .int 0, .int 0, .int 0, .int 0, .null, .null, .int 0, .null, .null, .int 0, .int 0, .int 0, .int 0, .null, .null]))] := hD
  have hl := lv_entry ([.ref h0]) (n := 1) (Nat.le_of_ble_eq_true rfl)
  rw [lg_entry_eq]
  generalize (lg_sl ([.ref h0]) ++ List.replicate (1 - (lg_sl ([.ref h0])).length) Slot.unset).toArray = ls at hl ⊢
  have hl : lv_has ls 1 [(0, .ref h0)] := hl
  refine lv_aload_n hx hb dX1_init_0 rfl (lv_at hl 0 rfl) ?_
  refine W.objInit hx hb hown (hts (.methodLink RX1 1 objectInit) (List.mem_of_getElem? (i := 1) rfl)) (hts (.instanceMethod objectInit) (List.mem_of_getElem? (i := 2) rfl)) (hts _ (List.mem_cons_of_mem _ (List.mem_append_left _ (List.mem_of_getElem? (i := 2) rfl)))) rfl (by rw [hml]; exact hl.1) rfl dX1_init_1 (Nat.le_of_ble_eq_true rfl) (Nat.le_of_ble_eq_true rfl) ?_
  refine W.eq (g2 := F0 m 4 ls []) rfl ?_
  refine lv_aload_n hx hb dX1_init_4 rfl (lv_at hl 0 rfl) ?_
  refine lv_bipush (v := (41 : Int32)) hx hb dX1_init_5 (by decide) ?_
  refine va_newa (atype := .long) (ty := .long) (a0 := (41, .inr (.inl zL))) (N' := 41) hx hb (hts (.arrayClass .long) (List.mem_of_getElem? (i := 4) rfl)) rfl hK hP hD hS hA (fun _ => rfl) (by decide +kernel) (by decide +kernel) (by decide +kernel) (Nat.le_of_ble_eq_true rfl) (Nat.le_of_ble_eq_true rfl) dX1_init_7 (fun q1 k1 H hK hP hD hS => ?_)
  have hP : va_P D vwCl [(h0, .inr (1, [.null, .null, .int 0, .int 0, .int 0, .int 0, .null, .null, .int 0, .null, .null, .int 0, .int 0, .int 0, .int 0, .null, .null])), (q1, .inl (k1, 41, .inr (.inl zL)))] H := hP
  have hD : va_D A [(h0, .inr (1, [.null, .null, .int 0, .int 0, .int 0, .int 0, .null, .null, .int 0, .null, .null, .int 0, .int 0, .int 0, .int 0, .null, .null])), (q1, .inl (k1, 41, .inr (.inl zL)))] := hD
  have hK : va_K D vwCl [(k1, .long)] s := hK
  refine W.widen (k := 1) (n := 41) (by decide) (by decide) ?_
  refine va_putF (D := D) (ci := 1) (v := .ref q1) (ty := .array .long) (C := RX1) (T := TX1) (N := 17) hx hb hts hinX1_init tyX1 tyX1_ok nmX1 hown hK hP hD hS 0 rfl rfl 0 (by decide) (hts (.fieldLink RX1 7 "ExactSharesModel" "upper" "[J") (List.mem_of_getElem? (i := 5) rfl)) (fun _ h9 => h9) rfl hin rfl (by decide +kernel) rfl rfl (Nat.le_of_ble_eq_true rfl) dX1_init_9 (fun H locs hP hD hS => ?_)
  have hP : va_P D vwCl [(h0, .inr (1, [.ref q1, .null, .int 0, .int 0, .int 0, .int 0, .null, .null, .int 0, .null, .null, .int 0, .int 0, .int 0, .int 0, .null, .null])), (q1, .inl (k1, 41, .inr (.inl zL)))] H := hP
  have hD : va_D A [(h0, .inr (1, [.ref q1, .null, .int 0, .int 0, .int 0, .int 0, .null, .null, .int 0, .null, .null, .int 0, .int 0, .int 0, .int 0, .null, .null])), (q1, .inl (k1, 41, .inr (.inl zL)))] := hD
  refine lv_aload_n hx hb dX1_init_12 rfl (lv_at hl 0 rfl) ?_
  refine lv_bipush (v := (41 : Int32)) hx hb dX1_init_13 (by decide) ?_
  refine va_newa (atype := .long) (ty := .long) (a0 := (41, .inr (.inl zL))) (N' := 41) hx hb (hts (.arrayClass .long) (List.mem_of_getElem? (i := 4) rfl)) rfl hK hP hD hS hA (fun _ => rfl) (by decide +kernel) (by decide +kernel) (by decide +kernel) (Nat.le_of_ble_eq_true rfl) (Nat.le_of_ble_eq_true rfl) dX1_init_15 (fun q2 k2 H hK hP hD hS => ?_)
  have hP : va_P D vwCl [(h0, .inr (1, [.ref q1, .null, .int 0, .int 0, .int 0, .int 0, .null, .null, .int 0, .null, .null, .int 0, .int 0, .int 0, .int 0, .null, .null])), (q1, .inl (k1, 41, .inr (.inl zL))), (q2, .inl (k2, 41, .inr (.inl zL)))] H := hP
  have hD : va_D A [(h0, .inr (1, [.ref q1, .null, .int 0, .int 0, .int 0, .int 0, .null, .null, .int 0, .null, .null, .int 0, .int 0, .int 0, .int 0, .null, .null])), (q1, .inl (k1, 41, .inr (.inl zL))), (q2, .inl (k2, 41, .inr (.inl zL)))] := hD
  have hK : va_K D vwCl [(k1, .long), (k2, .long)] s := hK
  refine W.widen (k := 2) (n := 82) (by decide) (by decide) ?_
  refine va_putF (D := D) (ci := 1) (v := .ref q2) (ty := .array .long) (C := RX1) (T := TX1) (N := 17) hx hb hts hinX1_init tyX1 tyX1_ok nmX1 hown hK hP hD hS 0 rfl rfl 1 (by decide) (hts (.fieldLink RX1 13 "ExactSharesModel" "lower" "[J") (List.mem_of_getElem? (i := 6) rfl)) (fun _ h9 => h9) rfl hin rfl (by decide +kernel) rfl rfl (Nat.le_of_ble_eq_true rfl) dX1_init_17 (fun H locs hP hD hS => ?_)
  have hP : va_P D vwCl [(h0, .inr (1, [.ref q1, .ref q2, .int 0, .int 0, .int 0, .int 0, .null, .null, .int 0, .null, .null, .int 0, .int 0, .int 0, .int 0, .null, .null])), (q1, .inl (k1, 41, .inr (.inl zL))), (q2, .inl (k2, 41, .inr (.inl zL)))] H := hP
  have hD : va_D A [(h0, .inr (1, [.ref q1, .ref q2, .int 0, .int 0, .int 0, .int 0, .null, .null, .int 0, .null, .null, .int 0, .int 0, .int 0, .int 0, .null, .null])), (q1, .inl (k1, 41, .inr (.inl zL))), (q2, .inl (k2, 41, .inr (.inl zL)))] := hD
  refine lv_aload_n hx hb dX1_init_20 rfl (lv_at hl 0 rfl) ?_
  refine lv_bipush (v := (32 : Int32)) hx hb dX1_init_21 (by decide) ?_
  refine va_newa (atype := .long) (ty := .long) (a0 := (32, .inr (.inl zL))) (N' := 32) hx hb (hts (.arrayClass .long) (List.mem_of_getElem? (i := 4) rfl)) rfl hK hP hD hS hA (fun _ => rfl) (by decide +kernel) (by decide +kernel) (by decide +kernel) (Nat.le_of_ble_eq_true rfl) (Nat.le_of_ble_eq_true rfl) dX1_init_23 (fun q3 k3 H hK hP hD hS => ?_)
  have hP : va_P D vwCl [(h0, .inr (1, [.ref q1, .ref q2, .int 0, .int 0, .int 0, .int 0, .null, .null, .int 0, .null, .null, .int 0, .int 0, .int 0, .int 0, .null, .null])), (q1, .inl (k1, 41, .inr (.inl zL))), (q2, .inl (k2, 41, .inr (.inl zL))), (q3, .inl (k3, 32, .inr (.inl zL)))] H := hP
  have hD : va_D A [(h0, .inr (1, [.ref q1, .ref q2, .int 0, .int 0, .int 0, .int 0, .null, .null, .int 0, .null, .null, .int 0, .int 0, .int 0, .int 0, .null, .null])), (q1, .inl (k1, 41, .inr (.inl zL))), (q2, .inl (k2, 41, .inr (.inl zL))), (q3, .inl (k3, 32, .inr (.inl zL)))] := hD
  have hK : va_K D vwCl [(k1, .long), (k2, .long), (k3, .long)] s := hK
  refine W.widen (k := 3) (n := 114) (by decide) (by decide) ?_
  refine va_putF (D := D) (ci := 1) (v := .ref q3) (ty := .array .long) (C := RX1) (T := TX1) (N := 17) hx hb hts hinX1_init tyX1 tyX1_ok nmX1 hown hK hP hD hS 0 rfl rfl 6 (by decide) (hts (.fieldLink RX1 16 "ExactSharesModel" "value" "[J") (List.mem_of_getElem? (i := 7) rfl)) (fun _ h9 => h9) rfl hin rfl (by decide +kernel) rfl rfl (Nat.le_of_ble_eq_true rfl) dX1_init_25 (fun H locs hP hD hS => ?_)
  have hP : va_P D vwCl [(h0, .inr (1, [.ref q1, .ref q2, .int 0, .int 0, .int 0, .int 0, .ref q3, .null, .int 0, .null, .null, .int 0, .int 0, .int 0, .int 0, .null, .null])), (q1, .inl (k1, 41, .inr (.inl zL))), (q2, .inl (k2, 41, .inr (.inl zL))), (q3, .inl (k3, 32, .inr (.inl zL)))] H := hP
  have hD : va_D A [(h0, .inr (1, [.ref q1, .ref q2, .int 0, .int 0, .int 0, .int 0, .ref q3, .null, .int 0, .null, .null, .int 0, .int 0, .int 0, .int 0, .null, .null])), (q1, .inl (k1, 41, .inr (.inl zL))), (q2, .inl (k2, 41, .inr (.inl zL))), (q3, .inl (k3, 32, .inr (.inl zL)))] := hD
  refine lv_aload_n hx hb dX1_init_28 rfl (lv_at hl 0 rfl) ?_
  refine lv_iconst (v := (4 : Int32)) hx hb dX1_init_29 (by decide) ?_
  refine va_newa (atype := .int) (ty := .int) (a0 := (4, .inl zI)) (N' := 4) hx hb (hts (.arrayClass .int) (List.mem_of_getElem? (i := 8) rfl)) rfl hK hP hD hS hA (fun _ => rfl) (by decide +kernel) (by decide +kernel) (by decide +kernel) (Nat.le_of_ble_eq_true rfl) (Nat.le_of_ble_eq_true rfl) dX1_init_30 (fun q4 k4 H hK hP hD hS => ?_)
  have hP : va_P D vwCl [(h0, .inr (1, [.ref q1, .ref q2, .int 0, .int 0, .int 0, .int 0, .ref q3, .null, .int 0, .null, .null, .int 0, .int 0, .int 0, .int 0, .null, .null])), (q1, .inl (k1, 41, .inr (.inl zL))), (q2, .inl (k2, 41, .inr (.inl zL))), (q3, .inl (k3, 32, .inr (.inl zL))), (q4, .inl (k4, 4, .inl zI))] H := hP
  have hD : va_D A [(h0, .inr (1, [.ref q1, .ref q2, .int 0, .int 0, .int 0, .int 0, .ref q3, .null, .int 0, .null, .null, .int 0, .int 0, .int 0, .int 0, .null, .null])), (q1, .inl (k1, 41, .inr (.inl zL))), (q2, .inl (k2, 41, .inr (.inl zL))), (q3, .inl (k3, 32, .inr (.inl zL))), (q4, .inl (k4, 4, .inl zI))] := hD
  have hK : va_K D vwCl [(k1, .long), (k2, .long), (k3, .long), (k4, .int)] s := hK
  refine W.widen (k := 4) (n := 118) (by decide) (by decide) ?_
  refine va_putF (D := D) (ci := 1) (v := .ref q4) (ty := .array .int) (C := RX1) (T := TX1) (N := 17) hx hb hts hinX1_init tyX1 tyX1_ok nmX1 hown hK hP hD hS 0 rfl rfl 7 (by decide) (hts (.fieldLink RX1 19 "ExactSharesModel" "many" "[I") (List.mem_of_getElem? (i := 9) rfl)) (fun _ h9 => h9) rfl hin rfl (by decide +kernel) rfl rfl (Nat.le_of_ble_eq_true rfl) dX1_init_32 (fun H locs hP hD hS => ?_)
  have hP : va_P D vwCl [(h0, .inr (1, [.ref q1, .ref q2, .int 0, .int 0, .int 0, .int 0, .ref q3, .ref q4, .int 0, .null, .null, .int 0, .int 0, .int 0, .int 0, .null, .null])), (q1, .inl (k1, 41, .inr (.inl zL))), (q2, .inl (k2, 41, .inr (.inl zL))), (q3, .inl (k3, 32, .inr (.inl zL))), (q4, .inl (k4, 4, .inl zI))] H := hP
  have hD : va_D A [(h0, .inr (1, [.ref q1, .ref q2, .int 0, .int 0, .int 0, .int 0, .ref q3, .ref q4, .int 0, .null, .null, .int 0, .int 0, .int 0, .int 0, .null, .null])), (q1, .inl (k1, 41, .inr (.inl zL))), (q2, .inl (k2, 41, .inr (.inl zL))), (q3, .inl (k3, 32, .inr (.inl zL))), (q4, .inl (k4, 4, .inl zI))] := hD
  refine lv_aload_n hx hb dX1_init_35 rfl (lv_at hl 0 rfl) ?_
  refine lv_bipush (v := (-5 : Int32)) hx hb dX1_init_36 (by decide) ?_
  refine va_put (D := D) (ci := 1) (v := .int (-5)) (ty := .int) (C := RX1) (T := TX1) (N := 17) hx hb hts hinX1_init tyX1 tyX1_ok nmX1 hown hK hP hD hS 0 rfl rfl 8 (by decide) (hts (.fieldLink RX1 23 "ExactSharesModel" "seated" "I") (List.mem_of_getElem? (i := 10) rfl)) (fun _ h9 => h9) rfl (by decide +kernel) rfl rfl (Nat.le_of_ble_eq_true rfl) dX1_init_38 (fun H locs hP hD hS => ?_)
  have hP : va_P D vwCl [(h0, .inr (1, [.ref q1, .ref q2, .int 0, .int 0, .int 0, .int 0, .ref q3, .ref q4, .int (-5), .null, .null, .int 0, .int 0, .int 0, .int 0, .null, .null])), (q1, .inl (k1, 41, .inr (.inl zL))), (q2, .inl (k2, 41, .inr (.inl zL))), (q3, .inl (k3, 32, .inr (.inl zL))), (q4, .inl (k4, 4, .inl zI))] H := hP
  have hD : va_D A [(h0, .inr (1, [.ref q1, .ref q2, .int 0, .int 0, .int 0, .int 0, .ref q3, .ref q4, .int (-5), .null, .null, .int 0, .int 0, .int 0, .int 0, .null, .null])), (q1, .inl (k1, 41, .inr (.inl zL))), (q2, .inl (k2, 41, .inr (.inl zL))), (q3, .inl (k3, 32, .inr (.inl zL))), (q4, .inl (k4, 4, .inl zI))] := hD
  refine lv_aload_n hx hb dX1_init_41 rfl (lv_at hl 0 rfl) ?_
  refine lv_bipush (v := (8 : Int32)) hx hb dX1_init_42 (by decide) ?_
  refine va_newa (atype := .int) (ty := .int) (a0 := (8, .inl zI)) (N' := 8) hx hb (hts (.arrayClass .int) (List.mem_of_getElem? (i := 8) rfl)) rfl hK hP hD hS hA (fun _ => rfl) (by decide +kernel) (by decide +kernel) (by decide +kernel) (Nat.le_of_ble_eq_true rfl) (Nat.le_of_ble_eq_true rfl) dX1_init_44 (fun q5 k5 H hK hP hD hS => ?_)
  have hP : va_P D vwCl [(h0, .inr (1, [.ref q1, .ref q2, .int 0, .int 0, .int 0, .int 0, .ref q3, .ref q4, .int (-5), .null, .null, .int 0, .int 0, .int 0, .int 0, .null, .null])), (q1, .inl (k1, 41, .inr (.inl zL))), (q2, .inl (k2, 41, .inr (.inl zL))), (q3, .inl (k3, 32, .inr (.inl zL))), (q4, .inl (k4, 4, .inl zI)), (q5, .inl (k5, 8, .inl zI))] H := hP
  have hD : va_D A [(h0, .inr (1, [.ref q1, .ref q2, .int 0, .int 0, .int 0, .int 0, .ref q3, .ref q4, .int (-5), .null, .null, .int 0, .int 0, .int 0, .int 0, .null, .null])), (q1, .inl (k1, 41, .inr (.inl zL))), (q2, .inl (k2, 41, .inr (.inl zL))), (q3, .inl (k3, 32, .inr (.inl zL))), (q4, .inl (k4, 4, .inl zI)), (q5, .inl (k5, 8, .inl zI))] := hD
  have hK : va_K D vwCl [(k1, .long), (k2, .long), (k3, .long), (k4, .int), (k5, .int)] s := hK
  refine W.widen (k := 5) (n := 126) (by decide) (by decide) ?_
  refine va_putF (D := D) (ci := 1) (v := .ref q5) (ty := .array .int) (C := RX1) (T := TX1) (N := 17) hx hb hts hinX1_init tyX1 tyX1_ok nmX1 hown hK hP hD hS 0 rfl rfl 9 (by decide) (hts (.fieldLink RX1 27 "ExactSharesModel" "seat" "[I") (List.mem_of_getElem? (i := 11) rfl)) (fun _ h9 => h9) rfl hin rfl (by decide +kernel) rfl rfl (Nat.le_of_ble_eq_true rfl) dX1_init_46 (fun H locs hP hD hS => ?_)
  have hP : va_P D vwCl [(h0, .inr (1, [.ref q1, .ref q2, .int 0, .int 0, .int 0, .int 0, .ref q3, .ref q4, .int (-5), .ref q5, .null, .int 0, .int 0, .int 0, .int 0, .null, .null])), (q1, .inl (k1, 41, .inr (.inl zL))), (q2, .inl (k2, 41, .inr (.inl zL))), (q3, .inl (k3, 32, .inr (.inl zL))), (q4, .inl (k4, 4, .inl zI)), (q5, .inl (k5, 8, .inl zI))] H := hP
  have hD : va_D A [(h0, .inr (1, [.ref q1, .ref q2, .int 0, .int 0, .int 0, .int 0, .ref q3, .ref q4, .int (-5), .ref q5, .null, .int 0, .int 0, .int 0, .int 0, .null, .null])), (q1, .inl (k1, 41, .inr (.inl zL))), (q2, .inl (k2, 41, .inr (.inl zL))), (q3, .inl (k3, 32, .inr (.inl zL))), (q4, .inl (k4, 4, .inl zI)), (q5, .inl (k5, 8, .inl zI))] := hD
  refine lv_aload_n hx hb dX1_init_49 rfl (lv_at hl 0 rfl) ?_
  refine lv_bipush (v := (8 : Int32)) hx hb dX1_init_50 (by decide) ?_
  refine va_newa (atype := .long) (ty := .long) (a0 := (8, .inr (.inl zL))) (N' := 8) hx hb (hts (.arrayClass .long) (List.mem_of_getElem? (i := 4) rfl)) rfl hK hP hD hS hA (fun _ => rfl) (by decide +kernel) (by decide +kernel) (by decide +kernel) (Nat.le_of_ble_eq_true rfl) (Nat.le_of_ble_eq_true rfl) dX1_init_52 (fun q6 k6 H hK hP hD hS => ?_)
  have hP : va_P D vwCl [(h0, .inr (1, [.ref q1, .ref q2, .int 0, .int 0, .int 0, .int 0, .ref q3, .ref q4, .int (-5), .ref q5, .null, .int 0, .int 0, .int 0, .int 0, .null, .null])), (q1, .inl (k1, 41, .inr (.inl zL))), (q2, .inl (k2, 41, .inr (.inl zL))), (q3, .inl (k3, 32, .inr (.inl zL))), (q4, .inl (k4, 4, .inl zI)), (q5, .inl (k5, 8, .inl zI)), (q6, .inl (k6, 8, .inr (.inl zL)))] H := hP
  have hD : va_D A [(h0, .inr (1, [.ref q1, .ref q2, .int 0, .int 0, .int 0, .int 0, .ref q3, .ref q4, .int (-5), .ref q5, .null, .int 0, .int 0, .int 0, .int 0, .null, .null])), (q1, .inl (k1, 41, .inr (.inl zL))), (q2, .inl (k2, 41, .inr (.inl zL))), (q3, .inl (k3, 32, .inr (.inl zL))), (q4, .inl (k4, 4, .inl zI)), (q5, .inl (k5, 8, .inl zI)), (q6, .inl (k6, 8, .inr (.inl zL)))] := hD
  have hK : va_K D vwCl [(k1, .long), (k2, .long), (k3, .long), (k4, .int), (k5, .int), (k6, .long)] s := hK
  refine W.widen (k := 6) (n := 134) (by decide) (by decide) ?_
  refine va_putF (D := D) (ci := 1) (v := .ref q6) (ty := .array .long) (C := RX1) (T := TX1) (N := 17) hx hb hts hinX1_init tyX1 tyX1_ok nmX1 hown hK hP hD hS 0 rfl rfl 10 (by decide) (hts (.fieldLink RX1 30 "ExactSharesModel" "left" "[J") (List.mem_of_getElem? (i := 12) rfl)) (fun _ h9 => h9) rfl hin rfl (by decide +kernel) rfl rfl (Nat.le_of_ble_eq_true rfl) dX1_init_54 (fun H locs hP hD hS => ?_)
  have hP : va_P D vwCl [(h0, .inr (1, [.ref q1, .ref q2, .int 0, .int 0, .int 0, .int 0, .ref q3, .ref q4, .int (-5), .ref q5, .ref q6, .int 0, .int 0, .int 0, .int 0, .null, .null])), (q1, .inl (k1, 41, .inr (.inl zL))), (q2, .inl (k2, 41, .inr (.inl zL))), (q3, .inl (k3, 32, .inr (.inl zL))), (q4, .inl (k4, 4, .inl zI)), (q5, .inl (k5, 8, .inl zI)), (q6, .inl (k6, 8, .inr (.inl zL)))] H := hP
  have hD : va_D A [(h0, .inr (1, [.ref q1, .ref q2, .int 0, .int 0, .int 0, .int 0, .ref q3, .ref q4, .int (-5), .ref q5, .ref q6, .int 0, .int 0, .int 0, .int 0, .null, .null])), (q1, .inl (k1, 41, .inr (.inl zL))), (q2, .inl (k2, 41, .inr (.inl zL))), (q3, .inl (k3, 32, .inr (.inl zL))), (q4, .inl (k4, 4, .inl zI)), (q5, .inl (k5, 8, .inl zI)), (q6, .inl (k6, 8, .inr (.inl zL)))] := hD
  refine lv_aload_n hx hb dX1_init_57 rfl (lv_at hl 0 rfl) ?_
  refine lv_bipush (v := (7 : Int32)) hx hb dX1_init_58 (by decide) ?_
  refine va_newa (atype := .long) (ty := .long) (a0 := (7, .inr (.inl zL))) (N' := 7) hx hb (hts (.arrayClass .long) (List.mem_of_getElem? (i := 4) rfl)) rfl hK hP hD hS hA (fun _ => rfl) (by decide +kernel) (by decide +kernel) (by decide +kernel) (Nat.le_of_ble_eq_true rfl) (Nat.le_of_ble_eq_true rfl) dX1_init_60 (fun q7 k7 H hK hP hD hS => ?_)
  have hP : va_P D vwCl [(h0, .inr (1, [.ref q1, .ref q2, .int 0, .int 0, .int 0, .int 0, .ref q3, .ref q4, .int (-5), .ref q5, .ref q6, .int 0, .int 0, .int 0, .int 0, .null, .null])), (q1, .inl (k1, 41, .inr (.inl zL))), (q2, .inl (k2, 41, .inr (.inl zL))), (q3, .inl (k3, 32, .inr (.inl zL))), (q4, .inl (k4, 4, .inl zI)), (q5, .inl (k5, 8, .inl zI)), (q6, .inl (k6, 8, .inr (.inl zL))), (q7, .inl (k7, 7, .inr (.inl zL)))] H := hP
  have hD : va_D A [(h0, .inr (1, [.ref q1, .ref q2, .int 0, .int 0, .int 0, .int 0, .ref q3, .ref q4, .int (-5), .ref q5, .ref q6, .int 0, .int 0, .int 0, .int 0, .null, .null])), (q1, .inl (k1, 41, .inr (.inl zL))), (q2, .inl (k2, 41, .inr (.inl zL))), (q3, .inl (k3, 32, .inr (.inl zL))), (q4, .inl (k4, 4, .inl zI)), (q5, .inl (k5, 8, .inl zI)), (q6, .inl (k6, 8, .inr (.inl zL))), (q7, .inl (k7, 7, .inr (.inl zL)))] := hD
  have hK : va_K D vwCl [(k1, .long), (k2, .long), (k3, .long), (k4, .int), (k5, .int), (k6, .long), (k7, .long)] s := hK
  refine W.widen (k := 7) (n := 141) (by decide) (by decide) ?_
  refine va_putF (D := D) (ci := 1) (v := .ref q7) (ty := .array .long) (C := RX1) (T := TX1) (N := 17) hx hb hts hinX1_init tyX1 tyX1_ok nmX1 hown hK hP hD hS 0 rfl rfl 15 (by decide) (hts (.fieldLink RX1 33 "ExactSharesModel" "one" "[J") (List.mem_of_getElem? (i := 13) rfl)) (fun _ h9 => h9) rfl hin rfl (by decide +kernel) rfl rfl (Nat.le_of_ble_eq_true rfl) dX1_init_62 (fun H locs hP hD hS => ?_)
  have hP : va_P D vwCl [(h0, .inr (1, [.ref q1, .ref q2, .int 0, .int 0, .int 0, .int 0, .ref q3, .ref q4, .int (-5), .ref q5, .ref q6, .int 0, .int 0, .int 0, .int 0, .ref q7, .null])), (q1, .inl (k1, 41, .inr (.inl zL))), (q2, .inl (k2, 41, .inr (.inl zL))), (q3, .inl (k3, 32, .inr (.inl zL))), (q4, .inl (k4, 4, .inl zI)), (q5, .inl (k5, 8, .inl zI)), (q6, .inl (k6, 8, .inr (.inl zL))), (q7, .inl (k7, 7, .inr (.inl zL)))] H := hP
  have hD : va_D A [(h0, .inr (1, [.ref q1, .ref q2, .int 0, .int 0, .int 0, .int 0, .ref q3, .ref q4, .int (-5), .ref q5, .ref q6, .int 0, .int 0, .int 0, .int 0, .ref q7, .null])), (q1, .inl (k1, 41, .inr (.inl zL))), (q2, .inl (k2, 41, .inr (.inl zL))), (q3, .inl (k3, 32, .inr (.inl zL))), (q4, .inl (k4, 4, .inl zI)), (q5, .inl (k5, 8, .inl zI)), (q6, .inl (k6, 8, .inr (.inl zL))), (q7, .inl (k7, 7, .inr (.inl zL)))] := hD
  refine lv_aload_n hx hb dX1_init_65 rfl (lv_at hl 0 rfl) ?_
  refine lv_bipush (v := (7 : Int32)) hx hb dX1_init_66 (by decide) ?_
  refine va_newa (atype := .long) (ty := .long) (a0 := (7, .inr (.inl zL))) (N' := 7) hx hb (hts (.arrayClass .long) (List.mem_of_getElem? (i := 4) rfl)) rfl hK hP hD hS hA (fun _ => rfl) (by decide +kernel) (by decide +kernel) (by decide +kernel) (Nat.le_of_ble_eq_true rfl) (Nat.le_of_ble_eq_true rfl) dX1_init_68 (fun q8 k8 H hK hP hD hS => ?_)
  have hP : va_P D vwCl [(h0, .inr (1, [.ref q1, .ref q2, .int 0, .int 0, .int 0, .int 0, .ref q3, .ref q4, .int (-5), .ref q5, .ref q6, .int 0, .int 0, .int 0, .int 0, .ref q7, .null])), (q1, .inl (k1, 41, .inr (.inl zL))), (q2, .inl (k2, 41, .inr (.inl zL))), (q3, .inl (k3, 32, .inr (.inl zL))), (q4, .inl (k4, 4, .inl zI)), (q5, .inl (k5, 8, .inl zI)), (q6, .inl (k6, 8, .inr (.inl zL))), (q7, .inl (k7, 7, .inr (.inl zL))), (q8, .inl (k8, 7, .inr (.inl zL)))] H := hP
  have hD : va_D A [(h0, .inr (1, [.ref q1, .ref q2, .int 0, .int 0, .int 0, .int 0, .ref q3, .ref q4, .int (-5), .ref q5, .ref q6, .int 0, .int 0, .int 0, .int 0, .ref q7, .null])), (q1, .inl (k1, 41, .inr (.inl zL))), (q2, .inl (k2, 41, .inr (.inl zL))), (q3, .inl (k3, 32, .inr (.inl zL))), (q4, .inl (k4, 4, .inl zI)), (q5, .inl (k5, 8, .inl zI)), (q6, .inl (k6, 8, .inr (.inl zL))), (q7, .inl (k7, 7, .inr (.inl zL))), (q8, .inl (k8, 7, .inr (.inl zL)))] := hD
  have hK : va_K D vwCl [(k1, .long), (k2, .long), (k3, .long), (k4, .int), (k5, .int), (k6, .long), (k7, .long), (k8, .long)] s := hK
  refine W.widen (k := 8) (n := 148) (by decide) (by decide) ?_
  refine va_putF (D := D) (ci := 1) (v := .ref q8) (ty := .array .long) (C := RX1) (T := TX1) (N := 17) hx hb hts hinX1_init tyX1 tyX1_ok nmX1 hown hK hP hD hS 0 rfl rfl 16 (by decide) (hts (.fieldLink RX1 36 "ExactSharesModel" "two" "[J") (List.mem_of_getElem? (i := 14) rfl)) (fun _ h9 => h9) rfl hin rfl (by decide +kernel) rfl rfl (Nat.le_of_ble_eq_true rfl) dX1_init_70 (fun H locs hP hD hS => ?_)
  have hP : va_P D vwCl [(h0, .inr (1, [.ref q1, .ref q2, .int 0, .int 0, .int 0, .int 0, .ref q3, .ref q4, .int (-5), .ref q5, .ref q6, .int 0, .int 0, .int 0, .int 0, .ref q7, .ref q8])), (q1, .inl (k1, 41, .inr (.inl zL))), (q2, .inl (k2, 41, .inr (.inl zL))), (q3, .inl (k3, 32, .inr (.inl zL))), (q4, .inl (k4, 4, .inl zI)), (q5, .inl (k5, 8, .inl zI)), (q6, .inl (k6, 8, .inr (.inl zL))), (q7, .inl (k7, 7, .inr (.inl zL))), (q8, .inl (k8, 7, .inr (.inl zL)))] H := hP
  have hD : va_D A [(h0, .inr (1, [.ref q1, .ref q2, .int 0, .int 0, .int 0, .int 0, .ref q3, .ref q4, .int (-5), .ref q5, .ref q6, .int 0, .int 0, .int 0, .int 0, .ref q7, .ref q8])), (q1, .inl (k1, 41, .inr (.inl zL))), (q2, .inl (k2, 41, .inr (.inl zL))), (q3, .inl (k3, 32, .inr (.inl zL))), (q4, .inl (k4, 4, .inl zI)), (q5, .inl (k5, 8, .inl zI)), (q6, .inl (k6, 8, .inr (.inl zL))), (q7, .inl (k7, 7, .inr (.inl zL))), (q8, .inl (k8, 7, .inr (.inl zL)))] := hD
  refine lv_aload_n hx hb dX1_init_73 rfl (lv_at hl 0 rfl) ?_
  refine lv_iconst (v := (0 : Int32)) hx hb dX1_init_74 (by decide) ?_
  refine va_put (D := D) (ci := 1) (v := .int (0)) (ty := .boolean) (C := RX1) (T := TX1) (N := 17) hx hb hts hinX1_init tyX1 tyX1_ok nmX1 hown hK hP hD hS 0 rfl rfl 5 (by decide) (hts (.fieldLink RX1 39 "ExactSharesModel" "isWide" "Z") (List.mem_of_getElem? (i := 15) rfl)) (fun _ h9 => h9) rfl (by decide +kernel) rfl rfl (Nat.le_of_ble_eq_true rfl) dX1_init_75 (fun H locs hP hD hS => ?_)
  have hP : va_P D vwCl [(h0, .inr (1, [.ref q1, .ref q2, .int 0, .int 0, .int 0, .int (0), .ref q3, .ref q4, .int (-5), .ref q5, .ref q6, .int 0, .int 0, .int 0, .int 0, .ref q7, .ref q8])), (q1, .inl (k1, 41, .inr (.inl zL))), (q2, .inl (k2, 41, .inr (.inl zL))), (q3, .inl (k3, 32, .inr (.inl zL))), (q4, .inl (k4, 4, .inl zI)), (q5, .inl (k5, 8, .inl zI)), (q6, .inl (k6, 8, .inr (.inl zL))), (q7, .inl (k7, 7, .inr (.inl zL))), (q8, .inl (k8, 7, .inr (.inl zL)))] H := hP
  have hD : va_D A [(h0, .inr (1, [.ref q1, .ref q2, .int 0, .int 0, .int 0, .int (0), .ref q3, .ref q4, .int (-5), .ref q5, .ref q6, .int 0, .int 0, .int 0, .int 0, .ref q7, .ref q8])), (q1, .inl (k1, 41, .inr (.inl zL))), (q2, .inl (k2, 41, .inr (.inl zL))), (q3, .inl (k3, 32, .inr (.inl zL))), (q4, .inl (k4, 4, .inl zI)), (q5, .inl (k5, 8, .inl zI)), (q6, .inl (k6, 8, .inr (.inl zL))), (q7, .inl (k7, 7, .inr (.inl zL))), (q8, .inl (k8, 7, .inr (.inl zL)))] := hD
  obtain ⟨kc, hkc⟩ : ∃ kc : Nat → ClassId, kc = tb8 k1 k1 k2 k3 k4 k5 k6 k7 (fun _ => k8) := ⟨_, rfl⟩
  obtain ⟨q, hq⟩ : ∃ q : Nat → Nat, q = tb8 h0 q1 q2 q3 q4 q5 q6 q7 (fun _ => q8) := ⟨_, rfl⟩
  have hP9 := hP.sub (ws' := wX1 kc q ms0) [0, 1, 2, 3, 4, 5, 6, 7, 8] (by rw [hq, hkc]; rfl)
  have hD9 := hD.sub (ws' := wX1 kc q ms0) [0, 1, 2, 3, 4, 5, 6, 7, 8] (by decide) (by rw [hq, hkc]; rfl)
  have hK9 := hK.sub (tys' := tysX1 kc) [0, 1, 2, 3, 4, 5, 6, 7] (by rw [hkc]; rfl)
  exact W.vret hx hb hr (fun t ht hW => ⟨⟨(kc, q), rfl, by rw [hq]; rfl, by rw [ht]; exact hP9, va_K.moved hW.alike hK9, hD9⟩, hS.F ht⟩) hS.2.2 dX1_init_78
