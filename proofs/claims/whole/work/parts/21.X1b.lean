abbrev rmX1_floor : Room := { frames := 0, cells := 0, slots := 0, locals := 0 }
def fX1_floor  (x0 : Int64) (x2 : Int64) : Option (Int64) := (if x2 = (0 : Int64) then none else (if x2 = (0 : Int64) then none else (if (0 : Int64) ≤ (lmd x0 x2) then (some (x0 / x2)) else (some ((x0 / x2) - (1 : Int64))))))
set_option maxHeartbeats 4000000 in
set_option maxRecDepth 100000 in
theorem mX1_floor (l : Launch) (x0 : Int64) (x2 : Int64) (out : Int64) (h : fX1_floor  x0 x2 = some out) : MPl l yX1_floor wsX1_floor rmX1_floor [.long x0, .long x2] out := by
  refine ofPl (cc := cX1_floor) (maxL := 6) (ret := (some .long)) (lv := [(0, .long x0), (2, .long x2)]) (plainFor_of_name (by decide)) rfl (Nat.le_of_ble_eq_true rfl) rfl ?_
  intro p e s m args below meth c C ls hl
  have C : cxt p s m args meth c RX1 cX1_floor 6 (some .long) wsX1_floor := C
  obtain ⟨hx, hb, hr, hml, hown, hts, hlocks⟩ := id C
  unfold fX1_floor at h
  refine lv_lload_n hx hb dX1_floor_0 rfl (lv_at hl 0 rfl) ?_
  refine lv_lload_n hx hb dX1_floor_1 rfl (lv_at hl 1 rfl) ?_
  obtain ⟨g1, h⟩ := gd_f h
  refine lv_ldiv hx hb dX1_floor_2 g1 ?_
  refine lv_lstore (lv' := [(4, .long (x0 / x2)), (0, .long x0), (2, .long x2)]) hx hb dX1_floor_3 hl (by decide) rfl (fun ls hl => ?_)
  refine lv_lload_n hx hb dX1_floor_5 rfl (lv_at hl 1 rfl) ?_
  refine lv_lload_n hx hb dX1_floor_6 rfl (lv_at hl 2 rfl) ?_
  obtain ⟨g2, h⟩ := gd_f h
  refine lv_lrem hx hb dX1_floor_7 g2 ?_
  refine lv_lconst (v := (0 : Int64)) hx hb dX1_floor_8 (by decide) ?_
  refine xl_ge (tgt := 20) hx hb dX1_floor_9 dX1_floor_10 (by decide) (fun c3 => ?_) (fun c3 => ?_)
  · replace h := br_p c3 h
    refine lv_lload hx hb dX1_floor_20 (lv_at hl 0 rfl) ?_
    exact reRl (v := (x0 / x2)) hx hb hr hlocks h dX1_floor_22
  · replace h := br_n c3 h
    refine lv_lload hx hb dX1_floor_13 (lv_at hl 0 rfl) ?_
    refine lv_lconst (v := (1 : Int64)) hx hb dX1_floor_15 (by decide) ?_
    refine lv_lsub hx hb dX1_floor_16 ?_
    refine lv_goto (tgt := 22) hx hb dX1_floor_17 (by decide) ?_
    exact reRl (v := ((x0 / x2) - (1 : Int64))) hx hb hr hlocks h dX1_floor_22
abbrev rmX1_isNumber : Room := { frames := 1, cells := 0, slots := 0, locals := 25 }
theorem hinX1_isNumber : ∀ w ∈ u_ws RX1 TX1 17, w ∈ wsX1_isNumber := by first | exact fun _ h => List.mem_cons_of_mem _ (List.mem_append_right _ h) | exact fun _ h => List.mem_cons_of_mem _ (List.mem_append_left _ (List.mem_append_right _ h)) | decide +kernel
def fX1_isNumber (σ : MS)  (x1 : Int32) : Option (Int32) := ((fX1_isIn (x1.toInt64) (0 : Int64) (((m_numbers σ) - (1 : Int32)).toInt64)).bind fun o1 => (if zb o1 = true then some o1 else none))
set_option maxHeartbeats 4000000 in
set_option maxRecDepth 100000 in
theorem mX1_isNumber (l : Launch) (D : va_G) (kc : Nat → ClassId) (q : Nat → Nat) (σ : MS) (x1 : Int32) (out : Int32) (h : fX1_isNumber σ  x1 = some out) : MRi l yX1_isNumber wsX1_isNumber rmX1_isNumber D (tysX1 kc) (wX1 kc q σ) [.ref (q 0), .int x1] out := by
  refine ofRi (cc := cX1_isNumber) (maxL := 2) (ret := (some .boolean)) (lv := [(0, .ref (q 0)), (1, .int x1)]) (by decide) rfl (Nat.le_of_ble_eq_true rfl) rfl ?_
  intro p e s m args below meth c C hK hP ls hl
  have C : cxt p s m args meth c RX1 cX1_isNumber 2 (some .boolean) wsX1_isNumber := C
  obtain ⟨hx, hb, hr, hml, hown, hts, hlocks⟩ := id C
  unfold fX1_isNumber at h
  refine lv_iload_n hx hb dX1_isNumber_0 rfl (lv_at hl 1 rfl) ?_
  refine lv_i2l (v := (x1.toInt64)) hx hb dX1_isNumber_1 rfl ?_
  refine lv_lconst (v := (0 : Int64)) hx hb dX1_isNumber_2 (by decide) ?_
  refine lv_aload_n hx hb dX1_isNumber_3 rfl (lv_at hl 0 rfl) ?_
  refine rdX1_numbers hx hb hts hinX1_isNumber hown hK hP (hts (.fieldLink RX1 56 "ExactSharesModel" "numbers" "I") (List.mem_of_getElem? (i := 1) rfl)) dX1_isNumber_4 ?_
  refine lv_iconst (v := (1 : Int32)) hx hb dX1_isNumber_7 (by decide) ?_
  refine lv_isub hx hb dX1_isNumber_8 ?_
  refine lv_i2l (v := (((m_numbers σ) - (1 : Int32)).toInt64)) hx hb dX1_isNumber_9 rfl ?_
  obtain ⟨o1, ho2, h⟩ := bi h
  refine caPi (As := [.long (x1.toInt64), .long (0 : Int64), .long (((m_numbers σ) - (1 : Int32)).toInt64)]) (rest := []) ⟨hx, hb, hml, hown, hts⟩ (mX1_isIn l (x1.toInt64) (0 : Int64) (((m_numbers σ) - (1 : Int32)).toInt64) o1 ho2) (va_cwS 3 hts gX1_isNumber_X1_isIn rfl rfl rfl (by decide +kernel) ⟨Nat.le_of_ble_eq_true rfl, Nat.le_of_ble_eq_true rfl⟩) rfl hl.1 (Nat.le_of_ble_eq_true rfl) dX1_isNumber_10 ⟨Nat.zero_le _, Nat.zero_le _⟩ ?_
  obtain ⟨g3, h⟩ := gd_t h
  exact reRz (v := o1) hx hb hr hlocks g3 h dX1_isNumber_13
abbrev rmX1_kept : Room := { frames := 2, cells := 0, slots := 0, locals := 50 }
theorem hinX1_kept : ∀ w ∈ u_ws RX1 TX1 17, w ∈ wsX1_kept := by first | exact fun _ h => List.mem_cons_of_mem _ (List.mem_append_right _ h) | exact fun _ h => List.mem_cons_of_mem _ (List.mem_append_left _ (List.mem_append_right _ h)) | decide +kernel
def fX1_kept_L20 (σ : MS)   (x1 : Int64) (x3 : Int64) (x5 : Int64) (y0 : Int64) : Option (Int32 × MS) := (if x5 = (0 : Int64) then none else (if ix (m_numbers σ) 41 = true then (bd (sm_upper σ (vp_updL (m_upper σ) (m_numbers σ).toNatClampNeg (y0 * (x1 / x5)))) fun s3 => (if x5 = (0 : Int64) then none else (if ix (m_numbers s3) 41 = true then (bd (sm_lower s3 (vp_updL (m_lower s3) (m_numbers s3).toNatClampNeg (y0 * (x3 / x5)))) fun s7 => (bd (sm_numbers s7 ((m_numbers s7) + (1 : Int32))) fun s9 => (some (((m_numbers s9) - (1 : Int32)), s9)))) else none))) else none))
set_option maxHeartbeats 4000000 in
set_option maxRecDepth 100000 in
theorem wX1_kept_L20 {p : Program} {l : Launch} {e : Env} {s : State} {m : MethodId} {args : Array Value} {below : List Frame} {meth : Method} {c : Code} {A : Nat → Prop} {D : va_G} {kc : Nat → ClassId} {q : Nat → Nat} {out : Int32 × MS} (C : cxt p s m args meth c RX1 cX1_kept 9 (some .int) wsX1_kept) (hA : ∀ x, s.heap.size ≤ x → A x) (hK : va_K D vwCl (tysX1 kc) s) (σ : MS) (x1 : Int64) (x3 : Int64) (x5 : Int64) (y0 : Int64) (H : Heap) (locs : List Loc) (ls : Array Slot) (h : fX1_kept_L20 σ   x1 x3 x5 y0 = some out) (hP : va_P D vwCl (wX1 kc q σ) H) (hD : va_D A (wX1 kc q σ)) (hS : va_S A s.heap H locs) (hl : lv_has ls 9 [(0, .ref (q 0)), (1, .long x1), (3, .long x3), (5, .long x5)]) : W p l e rmX1_kept s m args below meth c H locs 0 0 (MQ below (QMi D (tysX1 kc) (wX1 kc q) A out) args s 0 0 A) (F0 m 20 ls [.long y0]) := by
  obtain ⟨hx, hb, hr, hml, hown, hts, hlocks⟩ := id C
  unfold fX1_kept_L20 at h
  refine lv_lstore (lv' := [(7, .long y0), (0, .ref (q 0)), (1, .long x1), (3, .long x3), (5, .long x5)]) hx hb dX1_kept_20 hl (by decide) rfl (fun ls hl => ?_)
  refine lv_aload_n hx hb dX1_kept_22 rfl (lv_at hl 1 rfl) ?_
  refine rdX1_upper hx hb hts hinX1_kept hown hK hP (hts (.fieldLink RX1 7 "ExactSharesModel" "upper" "[J") (List.mem_of_getElem? (i := 2) rfl)) dX1_kept_23 ?_
  refine lv_aload_n hx hb dX1_kept_26 rfl (lv_at hl 1 rfl) ?_
  refine rdX1_numbers hx hb hts hinX1_kept hown hK hP (hts (.fieldLink RX1 56 "ExactSharesModel" "numbers" "I") (List.mem_of_getElem? (i := 3) rfl)) dX1_kept_27 ?_
  refine lv_lload hx hb dX1_kept_30 (lv_at hl 0 rfl) ?_
  refine lv_lload_n hx hb dX1_kept_32 rfl (lv_at hl 2 rfl) ?_
  refine lv_lload hx hb dX1_kept_33 (lv_at hl 4 rfl) ?_
  obtain ⟨g1, h⟩ := gd_f h
  refine lv_ldiv hx hb dX1_kept_35 g1 ?_
  refine lv_lmul hx hb dX1_kept_36 ?_
  obtain ⟨g2, h⟩ := gd_t h
  refine stX1_upper (x := (y0 * (x1 / x5))) hx hb hK hP hD hS g2 dX1_kept_37 (fun H locs hP hD hS => ?_)
  obtain ⟨s3, e4, h⟩ := bd_e h
  replace hP : va_P D vwCl (wX1 kc q s3) H := by rw [e4]; exact hP
  replace hD : va_D A (wX1 kc q s3) := by rw [e4]; exact hD
  clear e4
  refine lv_aload_n hx hb dX1_kept_38 rfl (lv_at hl 1 rfl) ?_
  refine rdX1_lower hx hb hts hinX1_kept hown hK hP (hts (.fieldLink RX1 13 "ExactSharesModel" "lower" "[J") (List.mem_of_getElem? (i := 4) rfl)) dX1_kept_39 ?_
  refine lv_aload_n hx hb dX1_kept_42 rfl (lv_at hl 1 rfl) ?_
  refine rdX1_numbers hx hb hts hinX1_kept hown hK hP (hts (.fieldLink RX1 56 "ExactSharesModel" "numbers" "I") (List.mem_of_getElem? (i := 3) rfl)) dX1_kept_43 ?_
  refine lv_lload hx hb dX1_kept_46 (lv_at hl 0 rfl) ?_
  refine lv_lload_n hx hb dX1_kept_48 rfl (lv_at hl 3 rfl) ?_
  refine lv_lload hx hb dX1_kept_49 (lv_at hl 4 rfl) ?_
  obtain ⟨g5, h⟩ := gd_f h
  refine lv_ldiv hx hb dX1_kept_51 g5 ?_
  refine lv_lmul hx hb dX1_kept_52 ?_
  obtain ⟨g6, h⟩ := gd_t h
  refine stX1_lower (x := (y0 * (x3 / x5))) hx hb hK hP hD hS g6 dX1_kept_53 (fun H locs hP hD hS => ?_)
  obtain ⟨s7, e8, h⟩ := bd_e h
  replace hP : va_P D vwCl (wX1 kc q s7) H := by rw [e8]; exact hP
  replace hD : va_D A (wX1 kc q s7) := by rw [e8]; exact hD
  clear e8
  refine lv_aload_n hx hb dX1_kept_54 rfl (lv_at hl 1 rfl) ?_
  refine lv_dup hx hb dX1_kept_55 rfl ?_
  refine rdX1_numbers hx hb hts hinX1_kept hown hK hP (hts (.fieldLink RX1 56 "ExactSharesModel" "numbers" "I") (List.mem_of_getElem? (i := 3) rfl)) dX1_kept_56 ?_
  refine lv_iconst (v := (1 : Int32)) hx hb dX1_kept_59 (by decide) ?_
  refine lv_iadd hx hb dX1_kept_60 ?_
  refine wrX1_numbers (v := ((m_numbers s7) + (1 : Int32))) hx hb hts hinX1_kept hown hK hP hD hS (hts (.fieldLink RX1 56 "ExactSharesModel" "numbers" "I") (List.mem_of_getElem? (i := 3) rfl)) dX1_kept_61 (fun H locs hP hD hS => ?_)
  obtain ⟨s9, e10, h⟩ := bd_e h
  replace hP : va_P D vwCl (wX1 kc q s9) H := by rw [e10]; exact hP
  replace hD : va_D A (wX1 kc q s9) := by rw [e10]; exact hD
  clear e10
  refine lv_aload_n hx hb dX1_kept_64 rfl (lv_at hl 1 rfl) ?_
  refine rdX1_numbers hx hb hts hinX1_kept hown hK hP (hts (.fieldLink RX1 56 "ExactSharesModel" "numbers" "I") (List.mem_of_getElem? (i := 3) rfl)) dX1_kept_65 ?_
  refine lv_iconst (v := (1 : Int32)) hx hb dX1_kept_68 (by decide) ?_
  refine lv_isub hx hb dX1_kept_69 ?_
  exact reMi (v := ((m_numbers s9) - (1 : Int32))) hx hb hr hlocks hK hP hD hS h dX1_kept_70
def fX1_kept (σ : MS)  (x1 : Int64) (x3 : Int64) : Option (Int32 × MS) := ((fX1_divisor x1 x3).bind fun o1 => (if (0 : Int64) ≤ x3 then (fX1_kept_L20 σ x1 x3 o1 (1 : Int64)) else (fX1_kept_L20 σ x1 x3 o1 (-1 : Int64))))
set_option maxHeartbeats 4000000 in
set_option maxRecDepth 100000 in
theorem mX1_kept (l : Launch) (D : va_G) (kc : Nat → ClassId) (q : Nat → Nat) (σ : MS) (x1 : Int64) (x3 : Int64) (out : Int32 × MS) (h : fX1_kept σ  x1 x3 = some out) : MMi l yX1_kept wsX1_kept rmX1_kept D (tysX1 kc) (wX1 kc q) σ [.ref (q 0), .long x1, .long x3] out := by
  refine ofMi (cc := cX1_kept) (maxL := 9) (ret := (some .int)) (lv := [(0, .ref (q 0)), (1, .long x1), (3, .long x3)]) (by decide) rfl (Nat.le_of_ble_eq_true rfl) rfl ?_
  intro p e s m args below meth c A C hA hK hP hD hS ls hl
  have C : cxt p s m args meth c RX1 cX1_kept 9 (some .int) wsX1_kept := C
  obtain ⟨hx, hb, hr, hml, hown, hts, hlocks⟩ := id C
  obtain ⟨H, hH⟩ : ∃ H, H = s.heap := ⟨_, rfl⟩
  obtain ⟨locs, hlocs⟩ : ∃ locs : List Loc, locs = [] := ⟨_, rfl⟩
  have hS : va_S A s.heap H locs := by rw [hH, hlocs]; exact va_S.rf
  rw [← hH] at hP
  suffices hW : W p l e rmX1_kept s m args below meth c H locs 0 0 _ (F0 m 0 ls []) by rw [hH, hlocs] at hW; exact hW
  unfold fX1_kept at h
  refine lv_lload_n hx hb dX1_kept_0 rfl (lv_at hl 1 rfl) ?_
  refine lv_lload_n hx hb dX1_kept_1 rfl (lv_at hl 2 rfl) ?_
  obtain ⟨o1, ho2, h⟩ := bi h
  refine caPl (As := [.long x1, .long x3]) (rest := []) ⟨hx, hb, hml, hown, hts⟩ (mX1_divisor l x1 x3 o1 ho2) (va_cwS 2 hts gX1_kept_X1_divisor rfl rfl rfl (by decide +kernel) ⟨Nat.le_of_ble_eq_true rfl, Nat.le_of_ble_eq_true rfl⟩) rfl hl.1 (Nat.le_of_ble_eq_true rfl) dX1_kept_2 ⟨Nat.zero_le _, Nat.zero_le _⟩ ?_
  refine lv_lstore (lv' := [(5, .long o1), (0, .ref (q 0)), (1, .long x1), (3, .long x3)]) hx hb dX1_kept_5 hl (by decide) rfl (fun ls hl => ?_)
  refine lv_lload_n hx hb dX1_kept_7 rfl (lv_at hl 3 rfl) ?_
  refine lv_lconst (v := (0 : Int64)) hx hb dX1_kept_8 (by decide) ?_
  refine xl_ge (tgt := 19) hx hb dX1_kept_9 dX1_kept_10 (by decide) (fun c3 => ?_) (fun c3 => ?_)
  · replace h := br_p c3 h
    refine lv_lconst (v := (1 : Int64)) hx hb dX1_kept_19 (by decide) ?_
    exact wX1_kept_L20 C hA hK  σ x1 x3 o1 (1 : Int64) H locs ls h hP hD hS (lv_sub hl [1, 2, 3, 0] rfl)
  · replace h := br_n c3 h
    refine lv_ldc2 (v := (-1 : Int64)) hx hb hown (hts (.constantLong RX1 67 (-1)) (List.mem_of_getElem? (i := 1) rfl)) dX1_kept_13 ?_
    refine lv_goto (tgt := 20) hx hb dX1_kept_16 (by decide) ?_
    exact wX1_kept_L20 C hA hK  σ x1 x3 o1 (-1 : Int64) H locs ls h hP hD hS (lv_sub hl [1, 2, 3, 0] rfl)
abbrev rmX1_value : Room := { frames := 3, cells := 0, slots := 0, locals := 78 }
theorem hinX1_value : ∀ w ∈ u_ws RX1 TX1 17, w ∈ wsX1_value := by first | exact fun _ h => List.mem_cons_of_mem _ (List.mem_append_right _ h) | exact fun _ h => List.mem_cons_of_mem _ (List.mem_append_left _ (List.mem_append_right _ h)) | decide +kernel
def fX1_value (σ : MS)  (x1 : Int64) (x3 : Int64) : Option (Int32 × MS) := (bd (sm_thrown σ (0 : Int32)) fun s1 => (if x3 = (0 : Int64) then (some ((-2 : Int32), s1)) else (if x1 = (-9223372036854775808 : Int64) then (some ((-3 : Int32), s1)) else (if x3 = (-9223372036854775808 : Int64) then (some ((-3 : Int32), s1)) else (if (m_numbers s1) = (40 : Int32) then (some ((-4 : Int32), s1)) else ((fX1_kept s1 x1 x3).bind fun o7 => (some (o7.1, o7.2))))))))
set_option maxHeartbeats 4000000 in
set_option maxRecDepth 100000 in
theorem mX1_value (l : Launch) (D : va_G) (kc : Nat → ClassId) (q : Nat → Nat) (σ : MS) (x1 : Int64) (x3 : Int64) (out : Int32 × MS) (h : fX1_value σ  x1 x3 = some out) : MMi l yX1_value wsX1_value rmX1_value D (tysX1 kc) (wX1 kc q) σ [.ref (q 0), .long x1, .long x3] out := by
  refine ofMi (cc := cX1_value) (maxL := 5) (ret := (some .int)) (lv := [(0, .ref (q 0)), (1, .long x1), (3, .long x3)]) (by decide) rfl (Nat.le_of_ble_eq_true rfl) rfl ?_
  intro p e s m args below meth c A C hA hK hP hD hS ls hl
  have C : cxt p s m args meth c RX1 cX1_value 5 (some .int) wsX1_value := C
  obtain ⟨hx, hb, hr, hml, hown, hts, hlocks⟩ := id C
  obtain ⟨H, hH⟩ : ∃ H, H = s.heap := ⟨_, rfl⟩
  obtain ⟨locs, hlocs⟩ : ∃ locs : List Loc, locs = [] := ⟨_, rfl⟩
  have hS : va_S A s.heap H locs := by rw [hH, hlocs]; exact va_S.rf
  rw [← hH] at hP
  suffices hW : W p l e rmX1_value s m args below meth c H locs 0 0 _ (F0 m 0 ls []) by rw [hH, hlocs] at hW; exact hW
  unfold fX1_value at h
  refine lv_aload_n hx hb dX1_value_0 rfl (lv_at hl 0 rfl) ?_
  refine lv_iconst (v := (0 : Int32)) hx hb dX1_value_1 (by decide) ?_
  refine wrX1_thrown (v := (0 : Int32)) hx hb hts hinX1_value hown hK hP hD hS (hts (.fieldLink RX1 43 "ExactSharesModel" "thrown" "I") (List.mem_of_getElem? (i := 1) rfl)) dX1_value_2 (fun H locs hP hD hS => ?_)
  obtain ⟨s1, e2, h⟩ := bd_e h
  replace hP : va_P D vwCl (wX1 kc q s1) H := by rw [e2]; exact hP
  replace hD : va_D A (wX1 kc q s1) := by rw [e2]; exact hD
  clear e2
  refine lv_lload_n hx hb dX1_value_5 rfl (lv_at hl 2 rfl) ?_
  refine lv_lconst (v := (0 : Int64)) hx hb dX1_value_6 (by decide) ?_
  refine xl_ne (tgt := 14) hx hb dX1_value_7 dX1_value_8 (by decide) (fun c3 => ?_) (fun c3 => ?_)
  · replace h := br_n c3 h
    refine lv_lload_n hx hb dX1_value_14 rfl (lv_at hl 1 rfl) ?_
    refine lv_ldc2 (v := (-9223372036854775808 : Int64)) hx hb hown (hts (.constantLong RX1 69 (-9223372036854775808)) (List.mem_of_getElem? (i := 2) rfl)) dX1_value_15 ?_
    refine xl_eq (tgt := 30) hx hb dX1_value_18 dX1_value_19 (by decide) (fun c4 => ?_) (fun c4 => ?_)
    · replace h := br_p c4 h
      refine lv_bipush (v := (-3 : Int32)) hx hb dX1_value_30 (by decide) ?_
      exact reMi (v := (-3 : Int32)) hx hb hr hlocks hK hP hD hS h dX1_value_32
    · replace h := br_n c4 h
      refine lv_lload_n hx hb dX1_value_22 rfl (lv_at hl 2 rfl) ?_
      refine lv_ldc2 (v := (-9223372036854775808 : Int64)) hx hb hown (hts (.constantLong RX1 69 (-9223372036854775808)) (List.mem_of_getElem? (i := 2) rfl)) dX1_value_23 ?_
      refine xl_ne (tgt := 33) hx hb dX1_value_26 dX1_value_27 (by decide) (fun c5 => ?_) (fun c5 => ?_)
      · replace h := br_n c5 h
        refine lv_aload_n hx hb dX1_value_33 rfl (lv_at hl 0 rfl) ?_
        refine rdX1_numbers hx hb hts hinX1_value hown hK hP (hts (.fieldLink RX1 56 "ExactSharesModel" "numbers" "I") (List.mem_of_getElem? (i := 3) rfl)) dX1_value_34 ?_
        refine lv_bipush (v := (40 : Int32)) hx hb dX1_value_37 (by decide) ?_
        refine lv_icmp_ne (tgt := 47) hx hb dX1_value_39 (by decide) (fun c6 => ?_) (fun c6 => ?_)
        · replace h := br_n c6 h
          refine lv_aload_n hx hb dX1_value_47 rfl (lv_at hl 0 rfl) ?_
          refine lv_lload_n hx hb dX1_value_48 rfl (lv_at hl 1 rfl) ?_
          refine lv_lload_n hx hb dX1_value_49 rfl (lv_at hl 2 rfl) ?_
          obtain ⟨o7, ho8, h⟩ := bi h
          refine caMi (q0 := 0) (As := [.long x1, .long x3]) (rest := []) ⟨hx, hb, hml, hown, hts⟩ (mX1_kept l D kc q s1 x1 x3 o7 ho8) (cwV 2 hts gX1_value_X1_kept rfl rfl rfl (by decide +kernel) ⟨Nat.le_of_ble_eq_true rfl, Nat.le_of_ble_eq_true rfl⟩) hK hP hD hS hA rfl rfl rfl rfl hl.1 (Nat.le_of_ble_eq_true rfl) dX1_value_50 ⟨Nat.zero_le _, Nat.zero_le _⟩ (fun H locs hP hD hS => ?_)
          exact reMi (v := o7.1) hx hb hr hlocks hK hP hD hS h dX1_value_53
        · replace h := br_p c6 h
          refine lv_bipush (v := (-4 : Int32)) hx hb dX1_value_42 (by decide) ?_
          refine lv_goto (tgt := 53) hx hb dX1_value_44 (by decide) ?_
          exact reMi (v := (-4 : Int32)) hx hb hr hlocks hK hP hD hS h dX1_value_53
      · replace h := br_p c5 h
        refine lv_bipush (v := (-3 : Int32)) hx hb dX1_value_30 (by decide) ?_
        exact reMi (v := (-3 : Int32)) hx hb hr hlocks hK hP hD hS h dX1_value_32
  · replace h := br_p c3 h
    refine lv_bipush (v := (-2 : Int32)) hx hb dX1_value_11 (by decide) ?_
    exact reMi (v := (-2 : Int32)) hx hb hr hlocks hK hP hD hS h dX1_value_13
abbrev rmX1_grew : Room := { frames := 0, cells := 0, slots := 0, locals := 0 }
theorem hinX1_grew : ∀ w ∈ u_ws RX1 TX1 17, w ∈ wsX1_grew := by first | exact fun _ h => List.mem_cons_of_mem _ (List.mem_append_right _ h) | exact fun _ h => List.mem_cons_of_mem _ (List.mem_append_left _ (List.mem_append_right _ h)) | decide +kernel
def fX1_grew (σ : MS)   : Option (Int32 × MS) := (bd (sm_grown σ ((m_grown σ) + (1 : Int32))) fun s1 => (some ((-3 : Int32), s1)))
set_option maxHeartbeats 4000000 in
set_option maxRecDepth 100000 in
theorem mX1_grew (l : Launch) (D : va_G) (kc : Nat → ClassId) (q : Nat → Nat) (σ : MS)  (out : Int32 × MS) (h : fX1_grew σ   = some out) : MMi l yX1_grew wsX1_grew rmX1_grew D (tysX1 kc) (wX1 kc q) σ [.ref (q 0)] out := by
  refine ofMi (cc := cX1_grew) (maxL := 1) (ret := (some .int)) (lv := [(0, .ref (q 0))]) (by decide) rfl (Nat.le_of_ble_eq_true rfl) rfl ?_
  intro p e s m args below meth c A C hA hK hP hD hS ls hl
  have C : cxt p s m args meth c RX1 cX1_grew 1 (some .int) wsX1_grew := C
  obtain ⟨hx, hb, hr, hml, hown, hts, hlocks⟩ := id C
  obtain ⟨H, hH⟩ : ∃ H, H = s.heap := ⟨_, rfl⟩
  obtain ⟨locs, hlocs⟩ : ∃ locs : List Loc, locs = [] := ⟨_, rfl⟩
  have hS : va_S A s.heap H locs := by rw [hH, hlocs]; exact va_S.rf
  rw [← hH] at hP
  suffices hW : W p l e rmX1_grew s m args below meth c H locs 0 0 _ (F0 m 0 ls []) by rw [hH, hlocs] at hW; exact hW
  unfold fX1_grew at h
  refine lv_aload_n hx hb dX1_grew_0 rfl (lv_at hl 0 rfl) ?_
  refine lv_dup hx hb dX1_grew_1 rfl ?_
  refine rdX1_grown hx hb hts hinX1_grew hown hK hP (hts (.fieldLink RX1 89 "ExactSharesModel" "grown" "I") (List.mem_of_getElem? (i := 1) rfl)) dX1_grew_2 ?_
  refine lv_iconst (v := (1 : Int32)) hx hb dX1_grew_5 (by decide) ?_
  refine lv_iadd hx hb dX1_grew_6 ?_
  refine wrX1_grown (v := ((m_grown σ) + (1 : Int32))) hx hb hts hinX1_grew hown hK hP hD hS (hts (.fieldLink RX1 89 "ExactSharesModel" "grown" "I") (List.mem_of_getElem? (i := 1) rfl)) dX1_grew_7 (fun H locs hP hD hS => ?_)
  obtain ⟨s1, e2, h⟩ := bd_e h
  replace hP : va_P D vwCl (wX1 kc q s1) H := by rw [e2]; exact hP
  replace hD : va_D A (wX1 kc q s1) := by rw [e2]; exact hD
  clear e2
  refine lv_bipush (v := (-3 : Int32)) hx hb dX1_grew_10 (by decide) ?_
  exact reMi (v := (-3 : Int32)) hx hb hr hlocks hK hP hD hS h dX1_grew_12
abbrev rmX1_summed : Room := { frames := 3, cells := 0, slots := 0, locals := 78 }
theorem hinX1_summed : ∀ w ∈ u_ws RX1 TX1 17, w ∈ wsX1_summed := by first | exact fun _ h => List.mem_cons_of_mem _ (List.mem_append_right _ h) | exact fun _ h => List.mem_cons_of_mem _ (List.mem_append_left _ (List.mem_append_right _ h)) | decide +kernel
def fX1_summed (σ : MS)  (x1 : Int64) (x3 : Int64) (x5 : Int64) (x7 : Int64) : Option (Int32 × MS) := ((fX1_divisor x3 x7).bind fun o1 => (if o1 = (0 : Int64) then none else ((fX1_times σ x1 (x7 / o1)).bind fun o4 => (if o1 = (0 : Int64) then none else ((fX1_times o4.2 x5 (x3 / o1)).bind fun o7 => ((fX1_plus o7.2 o4.1 o7.1).bind fun o9 => (if o1 = (0 : Int64) then none else ((fX1_times o9.2 x3 (x7 / o1)).bind fun o12 => (if (m_isWide o12.2) = (0 : Int32) then ((fX1_kept o12.2 o9.1 o12.1).bind fun o15 => (some (o15.1, o15.2))) else ((fX1_grew o12.2).bind fun o17 => (some (o17.1, o17.2))))))))))))
set_option maxHeartbeats 4000000 in
set_option maxRecDepth 100000 in
theorem mX1_summed (l : Launch) (D : va_G) (kc : Nat → ClassId) (q : Nat → Nat) (σ : MS) (x1 : Int64) (x3 : Int64) (x5 : Int64) (x7 : Int64) (out : Int32 × MS) (h : fX1_summed σ  x1 x3 x5 x7 = some out) : MMi l yX1_summed wsX1_summed rmX1_summed D (tysX1 kc) (wX1 kc q) σ [.ref (q 0), .long x1, .long x3, .long x5, .long x7] out := by
  refine ofMi (cc := cX1_summed) (maxL := 19) (ret := (some .int)) (lv := [(0, .ref (q 0)), (1, .long x1), (3, .long x3), (5, .long x5), (7, .long x7)]) (by decide) rfl (Nat.le_of_ble_eq_true rfl) rfl ?_
  intro p e s m args below meth c A C hA hK hP hD hS ls hl
  have C : cxt p s m args meth c RX1 cX1_summed 19 (some .int) wsX1_summed := C
  obtain ⟨hx, hb, hr, hml, hown, hts, hlocks⟩ := id C
  obtain ⟨H, hH⟩ : ∃ H, H = s.heap := ⟨_, rfl⟩
  obtain ⟨locs, hlocs⟩ : ∃ locs : List Loc, locs = [] := ⟨_, rfl⟩
  have hS : va_S A s.heap H locs := by rw [hH, hlocs]; exact va_S.rf
  rw [← hH] at hP
  suffices hW : W p l e rmX1_summed s m args below meth c H locs 0 0 _ (F0 m 0 ls []) by rw [hH, hlocs] at hW; exact hW
  unfold fX1_summed at h
  refine lv_lload_n hx hb dX1_summed_0 rfl (lv_at hl 2 rfl) ?_
  refine lv_lload hx hb dX1_summed_1 (lv_at hl 4 rfl) ?_
  obtain ⟨o1, ho2, h⟩ := bi h
  refine caPl (As := [.long x3, .long x7]) (rest := []) ⟨hx, hb, hml, hown, hts⟩ (mX1_divisor l x3 x7 o1 ho2) (va_cwS 2 hts gX1_summed_X1_divisor rfl rfl rfl (by decide +kernel) ⟨Nat.le_of_ble_eq_true rfl, Nat.le_of_ble_eq_true rfl⟩) rfl hl.1 (Nat.le_of_ble_eq_true rfl) dX1_summed_3 ⟨Nat.zero_le _, Nat.zero_le _⟩ ?_
  refine lv_lstore (lv' := [(9, .long o1), (0, .ref (q 0)), (1, .long x1), (3, .long x3), (5, .long x5), (7, .long x7)]) hx hb dX1_summed_6 hl (by decide) rfl (fun ls hl => ?_)
  refine lv_aload_n hx hb dX1_summed_8 rfl (lv_at hl 1 rfl) ?_
  refine lv_lload_n hx hb dX1_summed_9 rfl (lv_at hl 2 rfl) ?_
  refine lv_lload hx hb dX1_summed_10 (lv_at hl 5 rfl) ?_
  refine lv_lload hx hb dX1_summed_12 (lv_at hl 0 rfl) ?_
  obtain ⟨g3, h⟩ := gd_f h
  refine lv_ldiv hx hb dX1_summed_14 g3 ?_
  obtain ⟨o4, ho5, h⟩ := bi h
  refine caMl (q0 := 0) (As := [.long x1, .long (x7 / o1)]) (rest := []) ⟨hx, hb, hml, hown, hts⟩ (mX1_times l D kc q σ x1 (x7 / o1) o4 ho5) (cwV 2 hts gX1_summed_X1_times rfl rfl rfl (by decide +kernel) ⟨Nat.le_of_ble_eq_true rfl, Nat.le_of_ble_eq_true rfl⟩) hK hP hD hS hA rfl rfl rfl rfl hl.1 (Nat.le_of_ble_eq_true rfl) dX1_summed_15 ⟨Nat.zero_le _, Nat.zero_le _⟩ (fun H locs hP hD hS => ?_)
  refine lv_lstore (lv' := [(11, .long o4.1), (9, .long o1), (0, .ref (q 0)), (1, .long x1), (3, .long x3), (5, .long x5), (7, .long x7)]) hx hb dX1_summed_18 hl (by decide) rfl (fun ls hl => ?_)
  refine lv_aload_n hx hb dX1_summed_20 rfl (lv_at hl 2 rfl) ?_
  refine lv_lload hx hb dX1_summed_21 (lv_at hl 5 rfl) ?_
  refine lv_lload_n hx hb dX1_summed_23 rfl (lv_at hl 4 rfl) ?_
  refine lv_lload hx hb dX1_summed_24 (lv_at hl 1 rfl) ?_
  obtain ⟨g6, h⟩ := gd_f h
  refine lv_ldiv hx hb dX1_summed_26 g6 ?_
  obtain ⟨o7, ho8, h⟩ := bi h
  refine caMl (q0 := 0) (As := [.long x5, .long (x3 / o1)]) (rest := []) ⟨hx, hb, hml, hown, hts⟩ (mX1_times l D kc q o4.2 x5 (x3 / o1) o7 ho8) (cwV 2 hts gX1_summed_X1_times rfl rfl rfl (by decide +kernel) ⟨Nat.le_of_ble_eq_true rfl, Nat.le_of_ble_eq_true rfl⟩) hK hP hD hS hA rfl rfl rfl rfl hl.1 (Nat.le_of_ble_eq_true rfl) dX1_summed_27 ⟨Nat.zero_le _, Nat.zero_le _⟩ (fun H locs hP hD hS => ?_)
  refine lv_lstore (lv' := [(13, .long o7.1), (11, .long o4.1), (9, .long o1), (0, .ref (q 0)), (1, .long x1), (3, .long x3), (5, .long x5), (7, .long x7)]) hx hb dX1_summed_30 hl (by decide) rfl (fun ls hl => ?_)
  refine lv_aload_n hx hb dX1_summed_32 rfl (lv_at hl 3 rfl) ?_
  refine lv_lload hx hb dX1_summed_33 (lv_at hl 1 rfl) ?_
  refine lv_lload hx hb dX1_summed_35 (lv_at hl 0 rfl) ?_
  obtain ⟨o9, ho10, h⟩ := bi h
  refine caMl (q0 := 0) (As := [.long o4.1, .long o7.1]) (rest := []) ⟨hx, hb, hml, hown, hts⟩ (mX1_plus l D kc q o7.2 o4.1 o7.1 o9 ho10) (cwV 2 hts gX1_summed_X1_plus rfl rfl rfl (by decide +kernel) ⟨Nat.le_of_ble_eq_true rfl, Nat.le_of_ble_eq_true rfl⟩) hK hP hD hS hA rfl rfl rfl rfl hl.1 (Nat.le_of_ble_eq_true rfl) dX1_summed_37 ⟨Nat.zero_le _, Nat.zero_le _⟩ (fun H locs hP hD hS => ?_)
  refine lv_lstore (lv' := [(15, .long o9.1), (13, .long o7.1), (11, .long o4.1), (9, .long o1), (0, .ref (q 0)), (1, .long x1), (3, .long x3), (5, .long x5), (7, .long x7)]) hx hb dX1_summed_40 hl (by decide) rfl (fun ls hl => ?_)
  refine lv_aload_n hx hb dX1_summed_42 rfl (lv_at hl 4 rfl) ?_
  refine lv_lload_n hx hb dX1_summed_43 rfl (lv_at hl 6 rfl) ?_
  refine lv_lload hx hb dX1_summed_44 (lv_at hl 8 rfl) ?_
  refine lv_lload hx hb dX1_summed_46 (lv_at hl 3 rfl) ?_
  obtain ⟨g11, h⟩ := gd_f h
  refine lv_ldiv hx hb dX1_summed_48 g11 ?_
  obtain ⟨o12, ho13, h⟩ := bi h
  refine caMl (q0 := 0) (As := [.long x3, .long (x7 / o1)]) (rest := []) ⟨hx, hb, hml, hown, hts⟩ (mX1_times l D kc q o9.2 x3 (x7 / o1) o12 ho13) (cwV 2 hts gX1_summed_X1_times rfl rfl rfl (by decide +kernel) ⟨Nat.le_of_ble_eq_true rfl, Nat.le_of_ble_eq_true rfl⟩) hK hP hD hS hA rfl rfl rfl rfl hl.1 (Nat.le_of_ble_eq_true rfl) dX1_summed_49 ⟨Nat.zero_le _, Nat.zero_le _⟩ (fun H locs hP hD hS => ?_)
  refine lv_lstore (lv' := [(17, .long o12.1), (15, .long o9.1), (13, .long o7.1), (11, .long o4.1), (9, .long o1), (0, .ref (q 0)), (1, .long x1), (3, .long x3), (5, .long x5), (7, .long x7)]) hx hb dX1_summed_52 hl (by decide) rfl (fun ls hl => ?_)
  refine lv_aload_n hx hb dX1_summed_54 rfl (lv_at hl 5 rfl) ?_
  refine rdX1_isWide hx hb hts hinX1_summed hown hK hP (hts (.fieldLink RX1 39 "ExactSharesModel" "isWide" "Z") (List.mem_of_getElem? (i := 1) rfl)) dX1_summed_55 ?_
  refine lv_if_eq (tgt := 68) hx hb dX1_summed_58 (by decide) (fun c14 => ?_) (fun c14 => ?_)
  · replace h := br_p c14 h
    refine lv_aload_n hx hb dX1_summed_68 rfl (lv_at hl 5 rfl) ?_
    refine lv_lload hx hb dX1_summed_69 (lv_at hl 1 rfl) ?_
    refine lv_lload hx hb dX1_summed_71 (lv_at hl 0 rfl) ?_
    obtain ⟨o15, ho16, h⟩ := bi h
    refine caMi (q0 := 0) (As := [.long o9.1, .long o12.1]) (rest := []) ⟨hx, hb, hml, hown, hts⟩ (mX1_kept l D kc q o12.2 o9.1 o12.1 o15 ho16) (cwV 2 hts gX1_summed_X1_kept rfl rfl rfl (by decide +kernel) ⟨Nat.le_of_ble_eq_true rfl, Nat.le_of_ble_eq_true rfl⟩) hK hP hD hS hA rfl rfl rfl rfl hl.1 (Nat.le_of_ble_eq_true rfl) dX1_summed_73 ⟨Nat.zero_le _, Nat.zero_le _⟩ (fun H locs hP hD hS => ?_)
    exact reMi (v := o15.1) hx hb hr hlocks hK hP hD hS h dX1_summed_76
  · replace h := br_n c14 h
    refine lv_aload_n hx hb dX1_summed_61 rfl (lv_at hl 5 rfl) ?_
    obtain ⟨o17, ho18, h⟩ := bi h
    refine caMi (q0 := 0) (As := []) (rest := []) ⟨hx, hb, hml, hown, hts⟩ (mX1_grew l D kc q o12.2  o17 ho18) (cwV 0 hts gX1_summed_X1_grew rfl rfl rfl (by decide +kernel) ⟨Nat.le_of_ble_eq_true rfl, Nat.le_of_ble_eq_true rfl⟩) hK hP hD hS hA rfl rfl rfl rfl hl.1 (Nat.le_of_ble_eq_true rfl) dX1_summed_62 ⟨Nat.zero_le _, Nat.zero_le _⟩ (fun H locs hP hD hS => ?_)
    refine lv_goto (tgt := 76) hx hb dX1_summed_65 (by decide) ?_
    exact reMi (v := o17.1) hx hb hr hlocks hK hP hD hS h dX1_summed_76
abbrev rmX1_multiplied : Room := { frames := 3, cells := 0, slots := 0, locals := 78 }
theorem hinX1_multiplied : ∀ w ∈ u_ws RX1 TX1 17, w ∈ wsX1_multiplied := by first | exact fun _ h => List.mem_cons_of_mem _ (List.mem_append_right _ h) | exact fun _ h => List.mem_cons_of_mem _ (List.mem_append_left _ (List.mem_append_right _ h)) | decide +kernel
def fX1_multiplied (σ : MS)  (x1 : Int64) (x3 : Int64) (x5 : Int64) (x7 : Int64) : Option (Int32 × MS) := ((fX1_divisor x1 x7).bind fun o1 => ((fX1_divisor x5 x3).bind fun o3 => (if o1 = (0 : Int64) then none else (if o3 = (0 : Int64) then none else ((fX1_times σ (x1 / o1) (x5 / o3)).bind fun o7 => (if o3 = (0 : Int64) then none else (if o1 = (0 : Int64) then none else ((fX1_times o7.2 (x3 / o3) (x7 / o1)).bind fun o11 => (if (m_isWide o11.2) = (0 : Int32) then ((fX1_kept o11.2 o7.1 o11.1).bind fun o14 => (some (o14.1, o14.2))) else ((fX1_grew o11.2).bind fun o16 => (some (o16.1, o16.2))))))))))))
set_option maxHeartbeats 4000000 in
set_option maxRecDepth 100000 in
theorem mX1_multiplied (l : Launch) (D : va_G) (kc : Nat → ClassId) (q : Nat → Nat) (σ : MS) (x1 : Int64) (x3 : Int64) (x5 : Int64) (x7 : Int64) (out : Int32 × MS) (h : fX1_multiplied σ  x1 x3 x5 x7 = some out) : MMi l yX1_multiplied wsX1_multiplied rmX1_multiplied D (tysX1 kc) (wX1 kc q) σ [.ref (q 0), .long x1, .long x3, .long x5, .long x7] out := by
  refine ofMi (cc := cX1_multiplied) (maxL := 17) (ret := (some .int)) (lv := [(0, .ref (q 0)), (1, .long x1), (3, .long x3), (5, .long x5), (7, .long x7)]) (by decide) rfl (Nat.le_of_ble_eq_true rfl) rfl ?_
  intro p e s m args below meth c A C hA hK hP hD hS ls hl
  have C : cxt p s m args meth c RX1 cX1_multiplied 17 (some .int) wsX1_multiplied := C
  obtain ⟨hx, hb, hr, hml, hown, hts, hlocks⟩ := id C
  obtain ⟨H, hH⟩ : ∃ H, H = s.heap := ⟨_, rfl⟩
  obtain ⟨locs, hlocs⟩ : ∃ locs : List Loc, locs = [] := ⟨_, rfl⟩
  have hS : va_S A s.heap H locs := by rw [hH, hlocs]; exact va_S.rf
  rw [← hH] at hP
  suffices hW : W p l e rmX1_multiplied s m args below meth c H locs 0 0 _ (F0 m 0 ls []) by rw [hH, hlocs] at hW; exact hW
  unfold fX1_multiplied at h
  refine lv_lload_n hx hb dX1_multiplied_0 rfl (lv_at hl 1 rfl) ?_
  refine lv_lload hx hb dX1_multiplied_1 (lv_at hl 4 rfl) ?_
  obtain ⟨o1, ho2, h⟩ := bi h
  refine caPl (As := [.long x1, .long x7]) (rest := []) ⟨hx, hb, hml, hown, hts⟩ (mX1_divisor l x1 x7 o1 ho2) (va_cwS 2 hts gX1_multiplied_X1_divisor rfl rfl rfl (by decide +kernel) ⟨Nat.le_of_ble_eq_true rfl, Nat.le_of_ble_eq_true rfl⟩) rfl hl.1 (Nat.le_of_ble_eq_true rfl) dX1_multiplied_3 ⟨Nat.zero_le _, Nat.zero_le _⟩ ?_
  refine lv_lstore (lv' := [(9, .long o1), (0, .ref (q 0)), (1, .long x1), (3, .long x3), (5, .long x5), (7, .long x7)]) hx hb dX1_multiplied_6 hl (by decide) rfl (fun ls hl => ?_)
  refine lv_lload hx hb dX1_multiplied_8 (lv_at hl 4 rfl) ?_
  refine lv_lload_n hx hb dX1_multiplied_10 rfl (lv_at hl 3 rfl) ?_
  obtain ⟨o3, ho4, h⟩ := bi h
  refine caPl (As := [.long x5, .long x3]) (rest := []) ⟨hx, hb, hml, hown, hts⟩ (mX1_divisor l x5 x3 o3 ho4) (va_cwS 2 hts gX1_multiplied_X1_divisor rfl rfl rfl (by decide +kernel) ⟨Nat.le_of_ble_eq_true rfl, Nat.le_of_ble_eq_true rfl⟩) rfl hl.1 (Nat.le_of_ble_eq_true rfl) dX1_multiplied_11 ⟨Nat.zero_le _, Nat.zero_le _⟩ ?_
  refine lv_lstore (lv' := [(11, .long o3), (9, .long o1), (0, .ref (q 0)), (1, .long x1), (3, .long x3), (5, .long x5), (7, .long x7)]) hx hb dX1_multiplied_14 hl (by decide) rfl (fun ls hl => ?_)
  refine lv_aload_n hx hb dX1_multiplied_16 rfl (lv_at hl 2 rfl) ?_
  refine lv_lload_n hx hb dX1_multiplied_17 rfl (lv_at hl 3 rfl) ?_
  refine lv_lload hx hb dX1_multiplied_18 (lv_at hl 1 rfl) ?_
  obtain ⟨g5, h⟩ := gd_f h
  refine lv_ldiv hx hb dX1_multiplied_20 g5 ?_
  refine lv_lload hx hb dX1_multiplied_21 (lv_at hl 5 rfl) ?_
  refine lv_lload hx hb dX1_multiplied_23 (lv_at hl 0 rfl) ?_
  obtain ⟨g6, h⟩ := gd_f h
  refine lv_ldiv hx hb dX1_multiplied_25 g6 ?_
  obtain ⟨o7, ho8, h⟩ := bi h
  refine caMl (q0 := 0) (As := [.long (x1 / o1), .long (x5 / o3)]) (rest := []) ⟨hx, hb, hml, hown, hts⟩ (mX1_times l D kc q σ (x1 / o1) (x5 / o3) o7 ho8) (cwV 2 hts gX1_multiplied_X1_times rfl rfl rfl (by decide +kernel) ⟨Nat.le_of_ble_eq_true rfl, Nat.le_of_ble_eq_true rfl⟩) hK hP hD hS hA rfl rfl rfl rfl hl.1 (Nat.le_of_ble_eq_true rfl) dX1_multiplied_26 ⟨Nat.zero_le _, Nat.zero_le _⟩ (fun H locs hP hD hS => ?_)
  refine lv_lstore (lv' := [(13, .long o7.1), (11, .long o3), (9, .long o1), (0, .ref (q 0)), (1, .long x1), (3, .long x3), (5, .long x5), (7, .long x7)]) hx hb dX1_multiplied_29 hl (by decide) rfl (fun ls hl => ?_)
  refine lv_aload_n hx hb dX1_multiplied_31 rfl (lv_at hl 3 rfl) ?_
  refine lv_lload_n hx hb dX1_multiplied_32 rfl (lv_at hl 5 rfl) ?_
  refine lv_lload hx hb dX1_multiplied_33 (lv_at hl 1 rfl) ?_
  obtain ⟨g9, h⟩ := gd_f h
  refine lv_ldiv hx hb dX1_multiplied_35 g9 ?_
  refine lv_lload hx hb dX1_multiplied_36 (lv_at hl 7 rfl) ?_
  refine lv_lload hx hb dX1_multiplied_38 (lv_at hl 2 rfl) ?_
  obtain ⟨g10, h⟩ := gd_f h
  refine lv_ldiv hx hb dX1_multiplied_40 g10 ?_
  obtain ⟨o11, ho12, h⟩ := bi h
  refine caMl (q0 := 0) (As := [.long (x3 / o3), .long (x7 / o1)]) (rest := []) ⟨hx, hb, hml, hown, hts⟩ (mX1_times l D kc q o7.2 (x3 / o3) (x7 / o1) o11 ho12) (cwV 2 hts gX1_multiplied_X1_times rfl rfl rfl (by decide +kernel) ⟨Nat.le_of_ble_eq_true rfl, Nat.le_of_ble_eq_true rfl⟩) hK hP hD hS hA rfl rfl rfl rfl hl.1 (Nat.le_of_ble_eq_true rfl) dX1_multiplied_41 ⟨Nat.zero_le _, Nat.zero_le _⟩ (fun H locs hP hD hS => ?_)
  refine lv_lstore (lv' := [(15, .long o11.1), (13, .long o7.1), (11, .long o3), (9, .long o1), (0, .ref (q 0)), (1, .long x1), (3, .long x3), (5, .long x5), (7, .long x7)]) hx hb dX1_multiplied_44 hl (by decide) rfl (fun ls hl => ?_)
  refine lv_aload_n hx hb dX1_multiplied_46 rfl (lv_at hl 4 rfl) ?_
  refine rdX1_isWide hx hb hts hinX1_multiplied hown hK hP (hts (.fieldLink RX1 39 "ExactSharesModel" "isWide" "Z") (List.mem_of_getElem? (i := 1) rfl)) dX1_multiplied_47 ?_
  refine lv_if_eq (tgt := 60) hx hb dX1_multiplied_50 (by decide) (fun c13 => ?_) (fun c13 => ?_)
  · replace h := br_p c13 h
    refine lv_aload_n hx hb dX1_multiplied_60 rfl (lv_at hl 4 rfl) ?_
    refine lv_lload hx hb dX1_multiplied_61 (lv_at hl 1 rfl) ?_
    refine lv_lload hx hb dX1_multiplied_63 (lv_at hl 0 rfl) ?_
    obtain ⟨o14, ho15, h⟩ := bi h
    refine caMi (q0 := 0) (As := [.long o7.1, .long o11.1]) (rest := []) ⟨hx, hb, hml, hown, hts⟩ (mX1_kept l D kc q o11.2 o7.1 o11.1 o14 ho15) (cwV 2 hts gX1_multiplied_X1_kept rfl rfl rfl (by decide +kernel) ⟨Nat.le_of_ble_eq_true rfl, Nat.le_of_ble_eq_true rfl⟩) hK hP hD hS hA rfl rfl rfl rfl hl.1 (Nat.le_of_ble_eq_true rfl) dX1_multiplied_65 ⟨Nat.zero_le _, Nat.zero_le _⟩ (fun H locs hP hD hS => ?_)
    exact reMi (v := o14.1) hx hb hr hlocks hK hP hD hS h dX1_multiplied_68
  · replace h := br_n c13 h
    refine lv_aload_n hx hb dX1_multiplied_53 rfl (lv_at hl 4 rfl) ?_
    obtain ⟨o16, ho17, h⟩ := bi h
    refine caMi (q0 := 0) (As := []) (rest := []) ⟨hx, hb, hml, hown, hts⟩ (mX1_grew l D kc q o11.2  o16 ho17) (cwV 0 hts gX1_multiplied_X1_grew rfl rfl rfl (by decide +kernel) ⟨Nat.le_of_ble_eq_true rfl, Nat.le_of_ble_eq_true rfl⟩) hK hP hD hS hA rfl rfl rfl rfl hl.1 (Nat.le_of_ble_eq_true rfl) dX1_multiplied_54 ⟨Nat.zero_le _, Nat.zero_le _⟩ (fun H locs hP hD hS => ?_)
    refine lv_goto (tgt := 68) hx hb dX1_multiplied_57 (by decide) ?_
    exact reMi (v := o16.1) hx hb hr hlocks hK hP hD hS h dX1_multiplied_68
abbrev rmX1_divided : Room := { frames := 4, cells := 0, slots := 0, locals := 114 }
theorem hinX1_divided : ∀ w ∈ u_ws RX1 TX1 17, w ∈ wsX1_divided := by first | exact fun _ h => List.mem_cons_of_mem _ (List.mem_append_right _ h) | exact fun _ h => List.mem_cons_of_mem _ (List.mem_append_left _ (List.mem_append_right _ h)) | decide +kernel
def fX1_divided_L70 (σ : MS)    (y0 : Int64) (y1 : Int64) (y2 : Int64) (y3 : Int64) : Option (Int32 × MS) := ((fX1_multiplied σ y3 y2 y1 y0).bind fun o1 => (some (o1.1, o1.2)))
set_option maxHeartbeats 4000000 in
set_option maxRecDepth 100000 in
theorem wX1_divided_L70 {p : Program} {l : Launch} {e : Env} {s : State} {m : MethodId} {args : Array Value} {below : List Frame} {meth : Method} {c : Code} {A : Nat → Prop} {D : va_G} {kc : Nat → ClassId} {q : Nat → Nat} {out : Int32 × MS} (C : cxt p s m args meth c RX1 cX1_divided 4 (some .int) wsX1_divided) (hA : ∀ x, s.heap.size ≤ x → A x) (hK : va_K D vwCl (tysX1 kc) s) (σ : MS)  (y0 : Int64) (y1 : Int64) (y2 : Int64) (y3 : Int64) (H : Heap) (locs : List Loc) (ls : Array Slot) (h : fX1_divided_L70 σ   y0 y1 y2 y3 = some out) (hP : va_P D vwCl (wX1 kc q σ) H) (hD : va_D A (wX1 kc q σ)) (hS : va_S A s.heap H locs) (hl : lv_has ls 4 [(0, .ref (q 0))]) : W p l e rmX1_divided s m args below meth c H locs 0 0 (MQ below (QMi D (tysX1 kc) (wX1 kc q) A out) args s 0 0 A) (F0 m 70 ls [.long y0, .long y1, .long y2, .long y3, .ref (q 0)]) := by
  obtain ⟨hx, hb, hr, hml, hown, hts, hlocks⟩ := id C
  unfold fX1_divided_L70 at h
  obtain ⟨o1, ho2, h⟩ := bi h
  refine caMi (q0 := 0) (As := [.long y3, .long y2, .long y1, .long y0]) (rest := []) ⟨hx, hb, hml, hown, hts⟩ (mX1_multiplied l D kc q σ y3 y2 y1 y0 o1 ho2) (cwV 4 hts gX1_divided_X1_multiplied rfl rfl rfl (by decide +kernel) ⟨Nat.le_of_ble_eq_true rfl, Nat.le_of_ble_eq_true rfl⟩) hK hP hD hS hA rfl rfl rfl rfl hl.1 (Nat.le_of_ble_eq_true rfl) dX1_divided_70 ⟨Nat.zero_le _, Nat.zero_le _⟩ (fun H locs hP hD hS => ?_)
  exact reMi (v := o1.1) hx hb hr hlocks hK hP hD hS h dX1_divided_73
def fX1_divided_L50 (σ : MS)   (x2 : Int32) (x3 : Int32) (y0 : Int64) (y1 : Int64) (y2 : Int64) : Option (Int32 × MS) := (if x3 = (0 : Int32) then (if ix x2 41 = true then (fX1_divided_L70 σ ((m_upper σ) x2.toNatClampNeg) y0 y1 y2) else none) else (if ix x2 41 = true then (fX1_divided_L70 σ (-((m_upper σ) x2.toNatClampNeg)) y0 y1 y2) else none))
set_option maxHeartbeats 4000000 in
set_option maxRecDepth 100000 in
theorem wX1_divided_L50 {p : Program} {l : Launch} {e : Env} {s : State} {m : MethodId} {args : Array Value} {below : List Frame} {meth : Method} {c : Code} {A : Nat → Prop} {D : va_G} {kc : Nat → ClassId} {q : Nat → Nat} {out : Int32 × MS} (C : cxt p s m args meth c RX1 cX1_divided 4 (some .int) wsX1_divided) (hA : ∀ x, s.heap.size ≤ x → A x) (hK : va_K D vwCl (tysX1 kc) s) (σ : MS) (x2 : Int32) (x3 : Int32) (y0 : Int64) (y1 : Int64) (y2 : Int64) (H : Heap) (locs : List Loc) (ls : Array Slot) (h : fX1_divided_L50 σ   x2 x3 y0 y1 y2 = some out) (hP : va_P D vwCl (wX1 kc q σ) H) (hD : va_D A (wX1 kc q σ)) (hS : va_S A s.heap H locs) (hl : lv_has ls 4 [(0, .ref (q 0)), (2, .int x2), (3, .int x3)]) : W p l e rmX1_divided s m args below meth c H locs 0 0 (MQ below (QMi D (tysX1 kc) (wX1 kc q) A out) args s 0 0 A) (F0 m 50 ls [.long y0, .long y1, .long y2, .ref (q 0)]) := by
  obtain ⟨hx, hb, hr, hml, hown, hts, hlocks⟩ := id C
  unfold fX1_divided_L50 at h
  refine lv_iload_n hx hb dX1_divided_50 rfl (lv_at hl 2 rfl) ?_
  refine lv_if_eq (tgt := 64) hx hb dX1_divided_51 (by decide) (fun c1 => ?_) (fun c1 => ?_)
  · replace h := br_p c1 h
    refine lv_aload_n hx hb dX1_divided_64 rfl (lv_at hl 0 rfl) ?_
    refine rdX1_upper hx hb hts hinX1_divided hown hK hP (hts (.fieldLink RX1 7 "ExactSharesModel" "upper" "[J") (List.mem_of_getElem? (i := 1) rfl)) dX1_divided_65 ?_
    refine lv_iload_n hx hb dX1_divided_68 rfl (lv_at hl 1 rfl) ?_
    obtain ⟨g2, h⟩ := gd_t h
    refine ldX1_upper hx hb hK hP g2 dX1_divided_69 ?_
    exact wX1_divided_L70 C hA hK  σ ((m_upper σ) x2.toNatClampNeg) y0 y1 y2 H locs ls h hP hD hS (lv_sub hl [0] rfl)
  · replace h := br_n c1 h
    refine lv_aload_n hx hb dX1_divided_54 rfl (lv_at hl 0 rfl) ?_
    refine rdX1_upper hx hb hts hinX1_divided hown hK hP (hts (.fieldLink RX1 7 "ExactSharesModel" "upper" "[J") (List.mem_of_getElem? (i := 1) rfl)) dX1_divided_55 ?_
    refine lv_iload_n hx hb dX1_divided_58 rfl (lv_at hl 1 rfl) ?_
    obtain ⟨g3, h⟩ := gd_t h
    refine ldX1_upper hx hb hK hP g3 dX1_divided_59 ?_
    refine lv_lneg hx hb dX1_divided_60 ?_
    refine lv_goto (tgt := 70) hx hb dX1_divided_61 (by decide) ?_
    exact wX1_divided_L70 C hA hK  σ (-((m_upper σ) x2.toNatClampNeg)) y0 y1 y2 H locs ls h hP hD hS (lv_sub hl [0] rfl)
def fX1_divided_L16 (σ : MS)   (x1 : Int32) (x2 : Int32) (y0 : Int32) : Option (Int32 × MS) := (if ix x1 41 = true then (if ix x1 41 = true then (if y0 = (0 : Int32) then (if ix x2 41 = true then (fX1_divided_L50 σ x2 y0 ((m_lower σ) x2.toNatClampNeg) ((m_lower σ) x1.toNatClampNeg) ((m_upper σ) x1.toNatClampNeg)) else none) else (if ix x2 41 = true then (fX1_divided_L50 σ x2 y0 (-((m_lower σ) x2.toNatClampNeg)) ((m_lower σ) x1.toNatClampNeg) ((m_upper σ) x1.toNatClampNeg)) else none)) else none) else none)
set_option maxHeartbeats 4000000 in
set_option maxRecDepth 100000 in
theorem wX1_divided_L16 {p : Program} {l : Launch} {e : Env} {s : State} {m : MethodId} {args : Array Value} {below : List Frame} {meth : Method} {c : Code} {A : Nat → Prop} {D : va_G} {kc : Nat → ClassId} {q : Nat → Nat} {out : Int32 × MS} (C : cxt p s m args meth c RX1 cX1_divided 4 (some .int) wsX1_divided) (hA : ∀ x, s.heap.size ≤ x → A x) (hK : va_K D vwCl (tysX1 kc) s) (σ : MS) (x1 : Int32) (x2 : Int32) (y0 : Int32) (H : Heap) (locs : List Loc) (ls : Array Slot) (h : fX1_divided_L16 σ   x1 x2 y0 = some out) (hP : va_P D vwCl (wX1 kc q σ) H) (hD : va_D A (wX1 kc q σ)) (hS : va_S A s.heap H locs) (hl : lv_has ls 4 [(0, .ref (q 0)), (1, .int x1), (2, .int x2)]) : W p l e rmX1_divided s m args below meth c H locs 0 0 (MQ below (QMi D (tysX1 kc) (wX1 kc q) A out) args s 0 0 A) (F0 m 16 ls [.int y0]) := by
  obtain ⟨hx, hb, hr, hml, hown, hts, hlocks⟩ := id C
  unfold fX1_divided_L16 at h
  refine lv_istore_n (lv' := [(3, .int y0), (0, .ref (q 0)), (1, .int x1), (2, .int x2)]) hx hb dX1_divided_16 rfl hl (by decide) rfl (fun ls hl => ?_)
  refine lv_aload_n hx hb dX1_divided_17 rfl (lv_at hl 1 rfl) ?_
  refine lv_aload_n hx hb dX1_divided_18 rfl (lv_at hl 1 rfl) ?_
  refine rdX1_upper hx hb hts hinX1_divided hown hK hP (hts (.fieldLink RX1 7 "ExactSharesModel" "upper" "[J") (List.mem_of_getElem? (i := 1) rfl)) dX1_divided_19 ?_
  refine lv_iload_n hx hb dX1_divided_22 rfl (lv_at hl 2 rfl) ?_
  obtain ⟨g1, h⟩ := gd_t h
  refine ldX1_upper hx hb hK hP g1 dX1_divided_23 ?_
  refine lv_aload_n hx hb dX1_divided_24 rfl (lv_at hl 1 rfl) ?_
  refine rdX1_lower hx hb hts hinX1_divided hown hK hP (hts (.fieldLink RX1 13 "ExactSharesModel" "lower" "[J") (List.mem_of_getElem? (i := 2) rfl)) dX1_divided_25 ?_
  refine lv_iload_n hx hb dX1_divided_28 rfl (lv_at hl 2 rfl) ?_
  obtain ⟨g2, h⟩ := gd_t h
  refine ldX1_lower hx hb hK hP g2 dX1_divided_29 ?_
  refine lv_iload_n hx hb dX1_divided_30 rfl (lv_at hl 0 rfl) ?_
  refine lv_if_eq (tgt := 44) hx hb dX1_divided_31 (by decide) (fun c3 => ?_) (fun c3 => ?_)
  · replace h := br_p c3 h
    refine lv_aload_n hx hb dX1_divided_44 rfl (lv_at hl 1 rfl) ?_
    refine rdX1_lower hx hb hts hinX1_divided hown hK hP (hts (.fieldLink RX1 13 "ExactSharesModel" "lower" "[J") (List.mem_of_getElem? (i := 2) rfl)) dX1_divided_45 ?_
    refine lv_iload_n hx hb dX1_divided_48 rfl (lv_at hl 3 rfl) ?_
    obtain ⟨g4, h⟩ := gd_t h
    refine ldX1_lower hx hb hK hP g4 dX1_divided_49 ?_
    exact wX1_divided_L50 C hA hK  σ x2 y0 ((m_lower σ) x2.toNatClampNeg) ((m_lower σ) x1.toNatClampNeg) ((m_upper σ) x1.toNatClampNeg) H locs ls h hP hD hS (lv_sub hl [1, 3, 0] rfl)
  · replace h := br_n c3 h
    refine lv_aload_n hx hb dX1_divided_34 rfl (lv_at hl 1 rfl) ?_
    refine rdX1_lower hx hb hts hinX1_divided hown hK hP (hts (.fieldLink RX1 13 "ExactSharesModel" "lower" "[J") (List.mem_of_getElem? (i := 2) rfl)) dX1_divided_35 ?_
    refine lv_iload_n hx hb dX1_divided_38 rfl (lv_at hl 3 rfl) ?_
    obtain ⟨g5, h⟩ := gd_t h
    refine ldX1_lower hx hb hK hP g5 dX1_divided_39 ?_
    refine lv_lneg hx hb dX1_divided_40 ?_
    refine lv_goto (tgt := 50) hx hb dX1_divided_41 (by decide) ?_
    exact wX1_divided_L50 C hA hK  σ x2 y0 (-((m_lower σ) x2.toNatClampNeg)) ((m_lower σ) x1.toNatClampNeg) ((m_upper σ) x1.toNatClampNeg) H locs ls h hP hD hS (lv_sub hl [1, 3, 0] rfl)
def fX1_divided (σ : MS)  (x1 : Int32) (x2 : Int32) : Option (Int32 × MS) := (if ix x2 41 = true then (if (0 : Int64) ≤ ((m_upper σ) x2.toNatClampNeg) then (fX1_divided_L16 σ x1 x2 (0 : Int32)) else (fX1_divided_L16 σ x1 x2 (1 : Int32))) else none)
set_option maxHeartbeats 4000000 in
set_option maxRecDepth 100000 in
theorem mX1_divided (l : Launch) (D : va_G) (kc : Nat → ClassId) (q : Nat → Nat) (σ : MS) (x1 : Int32) (x2 : Int32) (out : Int32 × MS) (h : fX1_divided σ  x1 x2 = some out) : MMi l yX1_divided wsX1_divided rmX1_divided D (tysX1 kc) (wX1 kc q) σ [.ref (q 0), .int x1, .int x2] out := by
  refine ofMi (cc := cX1_divided) (maxL := 4) (ret := (some .int)) (lv := [(0, .ref (q 0)), (1, .int x1), (2, .int x2)]) (by decide) rfl (Nat.le_of_ble_eq_true rfl) rfl ?_
  intro p e s m args below meth c A C hA hK hP hD hS ls hl
  have C : cxt p s m args meth c RX1 cX1_divided 4 (some .int) wsX1_divided := C
  obtain ⟨hx, hb, hr, hml, hown, hts, hlocks⟩ := id C
  obtain ⟨H, hH⟩ : ∃ H, H = s.heap := ⟨_, rfl⟩
  obtain ⟨locs, hlocs⟩ : ∃ locs : List Loc, locs = [] := ⟨_, rfl⟩
  have hS : va_S A s.heap H locs := by rw [hH, hlocs]; exact va_S.rf
  rw [← hH] at hP
  suffices hW : W p l e rmX1_divided s m args below meth c H locs 0 0 _ (F0 m 0 ls []) by rw [hH, hlocs] at hW; exact hW
  unfold fX1_divided at h
  refine lv_aload_n hx hb dX1_divided_0 rfl (lv_at hl 0 rfl) ?_
  refine rdX1_upper hx hb hts hinX1_divided hown hK hP (hts (.fieldLink RX1 7 "ExactSharesModel" "upper" "[J") (List.mem_of_getElem? (i := 1) rfl)) dX1_divided_1 ?_
  refine lv_iload_n hx hb dX1_divided_4 rfl (lv_at hl 2 rfl) ?_
  obtain ⟨g1, h⟩ := gd_t h
  refine ldX1_upper hx hb hK hP g1 dX1_divided_5 ?_
  refine lv_lconst (v := (0 : Int64)) hx hb dX1_divided_6 (by decide) ?_
  refine xl_ge (tgt := 15) hx hb dX1_divided_7 dX1_divided_8 (by decide) (fun c2 => ?_) (fun c2 => ?_)
  · replace h := br_p c2 h
    refine lv_iconst (v := (0 : Int32)) hx hb dX1_divided_15 (by decide) ?_
    exact wX1_divided_L16 C hA hK  σ x1 x2 (0 : Int32) H locs ls h hP hD hS (lv_sub hl [0, 1, 2] rfl)
  · replace h := br_n c2 h
    refine lv_iconst (v := (1 : Int32)) hx hb dX1_divided_11 (by decide) ?_
    refine lv_goto (tgt := 16) hx hb dX1_divided_12 (by decide) ?_
    exact wX1_divided_L16 C hA hK  σ x1 x2 (1 : Int32) H locs ls h hP hD hS (lv_sub hl [0, 1, 2] rfl)
abbrev rmX1_act : Room := { frames := 5, cells := 0, slots := 0, locals := 137 }
theorem hinX1_act : ∀ w ∈ u_ws RX1 TX1 17, w ∈ wsX1_act := by first | exact fun _ h => List.mem_cons_of_mem _ (List.mem_append_right _ h) | exact fun _ h => List.mem_cons_of_mem _ (List.mem_append_left _ (List.mem_append_right _ h)) | decide +kernel
def fX1_act_L154 (σ : MS)   (x3 : Int32) (y0 : Int64) (y1 : Int64) (y2 : Int64) : Option (Int32 × MS) := (if ix x3 41 = true then ((fX1_summed σ y2 y1 y0 ((m_lower σ) x3.toNatClampNeg)).bind fun o2 => (some (o2.1, o2.2))) else none)
set_option maxHeartbeats 4000000 in
set_option maxRecDepth 100000 in
theorem wX1_act_L154 {p : Program} {l : Launch} {e : Env} {s : State} {m : MethodId} {args : Array Value} {below : List Frame} {meth : Method} {c : Code} {A : Nat → Prop} {D : va_G} {kc : Nat → ClassId} {q : Nat → Nat} {out : Int32 × MS} (C : cxt p s m args meth c RX1 cX1_act 4 (some .int) wsX1_act) (hA : ∀ x, s.heap.size ≤ x → A x) (hK : va_K D vwCl (tysX1 kc) s) (σ : MS) (x3 : Int32) (y0 : Int64) (y1 : Int64) (y2 : Int64) (H : Heap) (locs : List Loc) (ls : Array Slot) (h : fX1_act_L154 σ   x3 y0 y1 y2 = some out) (hP : va_P D vwCl (wX1 kc q σ) H) (hD : va_D A (wX1 kc q σ)) (hS : va_S A s.heap H locs) (hl : lv_has ls 4 [(0, .ref (q 0)), (3, .int x3)]) : W p l e rmX1_act s m args below meth c H locs 0 0 (MQ below (QMi D (tysX1 kc) (wX1 kc q) A out) args s 0 0 A) (F0 m 154 ls [.long y0, .long y1, .long y2, .ref (q 0)]) := by
  obtain ⟨hx, hb, hr, hml, hown, hts, hlocks⟩ := id C
  unfold fX1_act_L154 at h
  refine lv_aload_n hx hb dX1_act_154 rfl (lv_at hl 0 rfl) ?_
  refine rdX1_lower hx hb hts hinX1_act hown hK hP (hts (.fieldLink RX1 13 "ExactSharesModel" "lower" "[J") (List.mem_of_getElem? (i := 6) rfl)) dX1_act_155 ?_
  refine lv_iload_n hx hb dX1_act_158 rfl (lv_at hl 1 rfl) ?_
  obtain ⟨g1, h⟩ := gd_t h
  refine ldX1_lower hx hb hK hP g1 dX1_act_159 ?_
  obtain ⟨o2, ho3, h⟩ := bi h
  refine caMi (q0 := 0) (As := [.long y2, .long y1, .long y0, .long ((m_lower σ) x3.toNatClampNeg)]) (rest := []) ⟨hx, hb, hml, hown, hts⟩ (mX1_summed l D kc q σ y2 y1 y0 ((m_lower σ) x3.toNatClampNeg) o2 ho3) (cwV 4 hts gX1_act_X1_summed rfl rfl rfl (by decide +kernel) ⟨Nat.le_of_ble_eq_true rfl, Nat.le_of_ble_eq_true rfl⟩) hK hP hD hS hA rfl rfl rfl rfl hl.1 (Nat.le_of_ble_eq_true rfl) dX1_act_160 ⟨Nat.zero_le _, Nat.zero_le _⟩ (fun H locs hP hD hS => ?_)
  exact reMi (v := o2.1) hx hb hr hlocks hK hP hD hS h dX1_act_163
def fX1_act_L66 (σ : MS)   (x1 : Int32) (x2 : Int32) (x3 : Int32) : Option (Int32 × MS) := (bd (sm_isWide σ (0 : Int32)) fun s1 => (if x1 = (3 : Int32) then ((fX1_divided s1 x2 x3).bind fun o16 => (some (o16.1, o16.2))) else (if x1 = (2 : Int32) then (if ix x2 41 = true then (if ix x2 41 = true then (if ix x3 41 = true then (if ix x3 41 = true then ((fX1_multiplied s1 ((m_upper s1) x2.toNatClampNeg) ((m_lower s1) x2.toNatClampNeg) ((m_upper s1) x3.toNatClampNeg) ((m_lower s1) x3.toNatClampNeg)).bind fun o14 => (some (o14.1, o14.2))) else none) else none) else none) else none) else (if ix x2 41 = true then (if ix x2 41 = true then (if x1 = (0 : Int32) then (if ix x3 41 = true then (fX1_act_L154 s1 x3 ((m_upper s1) x3.toNatClampNeg) ((m_lower s1) x2.toNatClampNeg) ((m_upper s1) x2.toNatClampNeg)) else none) else (if ix x3 41 = true then (fX1_act_L154 s1 x3 (-((m_upper s1) x3.toNatClampNeg)) ((m_lower s1) x2.toNatClampNeg) ((m_upper s1) x2.toNatClampNeg)) else none)) else none) else none))))
set_option maxHeartbeats 4000000 in
set_option maxRecDepth 100000 in
theorem wX1_act_L66 {p : Program} {l : Launch} {e : Env} {s : State} {m : MethodId} {args : Array Value} {below : List Frame} {meth : Method} {c : Code} {A : Nat → Prop} {D : va_G} {kc : Nat → ClassId} {q : Nat → Nat} {out : Int32 × MS} (C : cxt p s m args meth c RX1 cX1_act 4 (some .int) wsX1_act) (hA : ∀ x, s.heap.size ≤ x → A x) (hK : va_K D vwCl (tysX1 kc) s) (σ : MS) (x1 : Int32) (x2 : Int32) (x3 : Int32) (H : Heap) (locs : List Loc) (ls : Array Slot) (h : fX1_act_L66 σ   x1 x2 x3 = some out) (hP : va_P D vwCl (wX1 kc q σ) H) (hD : va_D A (wX1 kc q σ)) (hS : va_S A s.heap H locs) (hl : lv_has ls 4 [(0, .ref (q 0)), (1, .int x1), (2, .int x2), (3, .int x3)]) : W p l e rmX1_act s m args below meth c H locs 0 0 (MQ below (QMi D (tysX1 kc) (wX1 kc q) A out) args s 0 0 A) (F0 m 66 ls []) := by
  obtain ⟨hx, hb, hr, hml, hown, hts, hlocks⟩ := id C
  unfold fX1_act_L66 at h
  refine lv_aload_n hx hb dX1_act_66 rfl (lv_at hl 0 rfl) ?_
  refine lv_iconst (v := (0 : Int32)) hx hb dX1_act_67 (by decide) ?_
  refine wrX1_isWide (v := (0 : Int32)) hx hb hts hinX1_act hown hK hP hD hS (hts (.fieldLink RX1 39 "ExactSharesModel" "isWide" "Z") (List.mem_of_getElem? (i := 5) rfl)) rfl rfl dX1_act_68 (fun H locs hP hD hS => ?_)
  obtain ⟨s1, e2, h⟩ := bd_e h
  replace hP : va_P D vwCl (wX1 kc q s1) H := by rw [e2]; exact hP
  replace hD : va_D A (wX1 kc q s1) := by rw [e2]; exact hD
  clear e2
  refine lv_iload_n hx hb dX1_act_71 rfl (lv_at hl 1 rfl) ?_
  refine lv_iconst (v := (3 : Int32)) hx hb dX1_act_72 (by decide) ?_
  refine lv_icmp_ne (tgt := 85) hx hb dX1_act_73 (by decide) (fun c3 => ?_) (fun c3 => ?_)
  · replace h := br_n c3 h
    refine lv_iload_n hx hb dX1_act_85 rfl (lv_at hl 1 rfl) ?_
    refine lv_iconst (v := (2 : Int32)) hx hb dX1_act_86 (by decide) ?_
    refine lv_icmp_ne (tgt := 121) hx hb dX1_act_87 (by decide) (fun c4 => ?_) (fun c4 => ?_)
    · replace h := br_n c4 h
      refine lv_aload_n hx hb dX1_act_121 rfl (lv_at hl 0 rfl) ?_
      refine lv_aload_n hx hb dX1_act_122 rfl (lv_at hl 0 rfl) ?_
      refine rdX1_upper hx hb hts hinX1_act hown hK hP (hts (.fieldLink RX1 7 "ExactSharesModel" "upper" "[J") (List.mem_of_getElem? (i := 4) rfl)) dX1_act_123 ?_
      refine lv_iload_n hx hb dX1_act_126 rfl (lv_at hl 2 rfl) ?_
      obtain ⟨g5, h⟩ := gd_t h
      refine ldX1_upper hx hb hK hP g5 dX1_act_127 ?_
      refine lv_aload_n hx hb dX1_act_128 rfl (lv_at hl 0 rfl) ?_
      refine rdX1_lower hx hb hts hinX1_act hown hK hP (hts (.fieldLink RX1 13 "ExactSharesModel" "lower" "[J") (List.mem_of_getElem? (i := 6) rfl)) dX1_act_129 ?_
      refine lv_iload_n hx hb dX1_act_132 rfl (lv_at hl 2 rfl) ?_
      obtain ⟨g6, h⟩ := gd_t h
      refine ldX1_lower hx hb hK hP g6 dX1_act_133 ?_
      refine lv_iload_n hx hb dX1_act_134 rfl (lv_at hl 1 rfl) ?_
      refine lv_if_ne (tgt := 147) hx hb dX1_act_135 (by decide) (fun c7 => ?_) (fun c7 => ?_)
      · replace h := br_n c7 h
        refine lv_aload_n hx hb dX1_act_147 rfl (lv_at hl 0 rfl) ?_
        refine rdX1_upper hx hb hts hinX1_act hown hK hP (hts (.fieldLink RX1 7 "ExactSharesModel" "upper" "[J") (List.mem_of_getElem? (i := 4) rfl)) dX1_act_148 ?_
        refine lv_iload_n hx hb dX1_act_151 rfl (lv_at hl 3 rfl) ?_
        obtain ⟨g8, h⟩ := gd_t h
        refine ldX1_upper hx hb hK hP g8 dX1_act_152 ?_
        refine lv_lneg hx hb dX1_act_153 ?_
        exact wX1_act_L154 C hA hK  s1 x3 (-((m_upper s1) x3.toNatClampNeg)) ((m_lower s1) x2.toNatClampNeg) ((m_upper s1) x2.toNatClampNeg) H locs ls h hP hD hS (lv_sub hl [0, 3] rfl)
      · replace h := br_p c7 h
        refine lv_aload_n hx hb dX1_act_138 rfl (lv_at hl 0 rfl) ?_
        refine rdX1_upper hx hb hts hinX1_act hown hK hP (hts (.fieldLink RX1 7 "ExactSharesModel" "upper" "[J") (List.mem_of_getElem? (i := 4) rfl)) dX1_act_139 ?_
        refine lv_iload_n hx hb dX1_act_142 rfl (lv_at hl 3 rfl) ?_
        obtain ⟨g9, h⟩ := gd_t h
        refine ldX1_upper hx hb hK hP g9 dX1_act_143 ?_
        refine lv_goto (tgt := 154) hx hb dX1_act_144 (by decide) ?_
        exact wX1_act_L154 C hA hK  s1 x3 ((m_upper s1) x3.toNatClampNeg) ((m_lower s1) x2.toNatClampNeg) ((m_upper s1) x2.toNatClampNeg) H locs ls h hP hD hS (lv_sub hl [0, 3] rfl)
    · replace h := br_p c4 h
      refine lv_aload_n hx hb dX1_act_90 rfl (lv_at hl 0 rfl) ?_
      refine lv_aload_n hx hb dX1_act_91 rfl (lv_at hl 0 rfl) ?_
      refine rdX1_upper hx hb hts hinX1_act hown hK hP (hts (.fieldLink RX1 7 "ExactSharesModel" "upper" "[J") (List.mem_of_getElem? (i := 4) rfl)) dX1_act_92 ?_
      refine lv_iload_n hx hb dX1_act_95 rfl (lv_at hl 2 rfl) ?_
      obtain ⟨g10, h⟩ := gd_t h
      refine ldX1_upper hx hb hK hP g10 dX1_act_96 ?_
      refine lv_aload_n hx hb dX1_act_97 rfl (lv_at hl 0 rfl) ?_
      refine rdX1_lower hx hb hts hinX1_act hown hK hP (hts (.fieldLink RX1 13 "ExactSharesModel" "lower" "[J") (List.mem_of_getElem? (i := 6) rfl)) dX1_act_98 ?_
      refine lv_iload_n hx hb dX1_act_101 rfl (lv_at hl 2 rfl) ?_
      obtain ⟨g11, h⟩ := gd_t h
      refine ldX1_lower hx hb hK hP g11 dX1_act_102 ?_
      refine lv_aload_n hx hb dX1_act_103 rfl (lv_at hl 0 rfl) ?_
      refine rdX1_upper hx hb hts hinX1_act hown hK hP (hts (.fieldLink RX1 7 "ExactSharesModel" "upper" "[J") (List.mem_of_getElem? (i := 4) rfl)) dX1_act_104 ?_
      refine lv_iload_n hx hb dX1_act_107 rfl (lv_at hl 3 rfl) ?_
      obtain ⟨g12, h⟩ := gd_t h
      refine ldX1_upper hx hb hK hP g12 dX1_act_108 ?_
      refine lv_aload_n hx hb dX1_act_109 rfl (lv_at hl 0 rfl) ?_
      refine rdX1_lower hx hb hts hinX1_act hown hK hP (hts (.fieldLink RX1 13 "ExactSharesModel" "lower" "[J") (List.mem_of_getElem? (i := 6) rfl)) dX1_act_110 ?_
      refine lv_iload_n hx hb dX1_act_113 rfl (lv_at hl 3 rfl) ?_
      obtain ⟨g13, h⟩ := gd_t h
      refine ldX1_lower hx hb hK hP g13 dX1_act_114 ?_
      obtain ⟨o14, ho15, h⟩ := bi h
      refine caMi (q0 := 0) (As := [.long ((m_upper s1) x2.toNatClampNeg), .long ((m_lower s1) x2.toNatClampNeg), .long ((m_upper s1) x3.toNatClampNeg), .long ((m_lower s1) x3.toNatClampNeg)]) (rest := []) ⟨hx, hb, hml, hown, hts⟩ (mX1_multiplied l D kc q s1 ((m_upper s1) x2.toNatClampNeg) ((m_lower s1) x2.toNatClampNeg) ((m_upper s1) x3.toNatClampNeg) ((m_lower s1) x3.toNatClampNeg) o14 ho15) (cwV 4 hts gX1_act_X1_multiplied rfl rfl rfl (by decide +kernel) ⟨Nat.le_of_ble_eq_true rfl, Nat.le_of_ble_eq_true rfl⟩) hK hP hD hS hA rfl rfl rfl rfl hl.1 (Nat.le_of_ble_eq_true rfl) dX1_act_115 ⟨Nat.zero_le _, Nat.zero_le _⟩ (fun H locs hP hD hS => ?_)
      refine lv_goto (tgt := 163) hx hb dX1_act_118 (by decide) ?_
      exact reMi (v := o14.1) hx hb hr hlocks hK hP hD hS h dX1_act_163
  · replace h := br_p c3 h
    refine lv_aload_n hx hb dX1_act_76 rfl (lv_at hl 0 rfl) ?_
    refine lv_iload_n hx hb dX1_act_77 rfl (lv_at hl 2 rfl) ?_
    refine lv_iload_n hx hb dX1_act_78 rfl (lv_at hl 3 rfl) ?_
    obtain ⟨o16, ho17, h⟩ := bi h
    refine caMi (q0 := 0) (As := [.int x2, .int x3]) (rest := []) ⟨hx, hb, hml, hown, hts⟩ (mX1_divided l D kc q s1 x2 x3 o16 ho17) (cwV 2 hts gX1_act_X1_divided rfl rfl rfl (by decide +kernel) ⟨Nat.le_of_ble_eq_true rfl, Nat.le_of_ble_eq_true rfl⟩) hK hP hD hS hA rfl rfl rfl rfl hl.1 (Nat.le_of_ble_eq_true rfl) dX1_act_79 ⟨Nat.zero_le _, Nat.zero_le _⟩ (fun H locs hP hD hS => ?_)
    refine lv_goto (tgt := 163) hx hb dX1_act_82 (by decide) ?_
    exact reMi (v := o16.1) hx hb hr hlocks hK hP hD hS h dX1_act_163
def fX1_act (σ : MS)  (x1 : Int32) (x2 : Int32) (x3 : Int32) : Option (Int32 × MS) := (bd (sm_thrown σ (0 : Int32)) fun s1 => ((fX1_isIn (x1.toInt64) (0 : Int64) (3 : Int64)).bind fun o3 => (if o3 = (0 : Int32) then (some ((-1 : Int32), s1)) else ((fX1_isNumber s1 x2).bind fun o6 => (if o6 = (0 : Int32) then (some ((-1 : Int32), s1)) else ((fX1_isNumber s1 x3).bind fun o9 => (if o9 = (0 : Int32) then (some ((-1 : Int32), s1)) else (if (m_numbers s1) = (40 : Int32) then (some ((-4 : Int32), s1)) else (if x1 = (3 : Int32) then (if ix x3 41 = true then (if ((m_upper s1) x3.toNatClampNeg) = (0 : Int64) then (some ((-2 : Int32), s1)) else (fX1_act_L66 s1 x1 x2 x3)) else none) else (fX1_act_L66 s1 x1 x2 x3))))))))))
set_option maxHeartbeats 4000000 in
set_option maxRecDepth 100000 in
theorem mX1_act (l : Launch) (D : va_G) (kc : Nat → ClassId) (q : Nat → Nat) (σ : MS) (x1 : Int32) (x2 : Int32) (x3 : Int32) (out : Int32 × MS) (h : fX1_act σ  x1 x2 x3 = some out) : MMi l yX1_act wsX1_act rmX1_act D (tysX1 kc) (wX1 kc q) σ [.ref (q 0), .int x1, .int x2, .int x3] out := by
  refine ofMi (cc := cX1_act) (maxL := 4) (ret := (some .int)) (lv := [(0, .ref (q 0)), (1, .int x1), (2, .int x2), (3, .int x3)]) (by decide) rfl (Nat.le_of_ble_eq_true rfl) rfl ?_
  intro p e s m args below meth c A C hA hK hP hD hS ls hl
  have C : cxt p s m args meth c RX1 cX1_act 4 (some .int) wsX1_act := C
  obtain ⟨hx, hb, hr, hml, hown, hts, hlocks⟩ := id C
  obtain ⟨H, hH⟩ : ∃ H, H = s.heap := ⟨_, rfl⟩
  obtain ⟨locs, hlocs⟩ : ∃ locs : List Loc, locs = [] := ⟨_, rfl⟩
  have hS : va_S A s.heap H locs := by rw [hH, hlocs]; exact va_S.rf
  rw [← hH] at hP
  suffices hW : W p l e rmX1_act s m args below meth c H locs 0 0 _ (F0 m 0 ls []) by rw [hH, hlocs] at hW; exact hW
  unfold fX1_act at h
  refine lv_aload_n hx hb dX1_act_0 rfl (lv_at hl 0 rfl) ?_
  refine lv_iconst (v := (0 : Int32)) hx hb dX1_act_1 (by decide) ?_
  refine wrX1_thrown (v := (0 : Int32)) hx hb hts hinX1_act hown hK hP hD hS (hts (.fieldLink RX1 43 "ExactSharesModel" "thrown" "I") (List.mem_of_getElem? (i := 1) rfl)) dX1_act_2 (fun H locs hP hD hS => ?_)
  obtain ⟨s1, e2, h⟩ := bd_e h
  replace hP : va_P D vwCl (wX1 kc q s1) H := by rw [e2]; exact hP
  replace hD : va_D A (wX1 kc q s1) := by rw [e2]; exact hD
  clear e2
  refine lv_iload_n hx hb dX1_act_5 rfl (lv_at hl 1 rfl) ?_
  refine lv_i2l (v := (x1.toInt64)) hx hb dX1_act_6 rfl ?_
  refine lv_lconst (v := (0 : Int64)) hx hb dX1_act_7 (by decide) ?_
  refine lv_ldc2 (v := (3 : Int64)) hx hb hown (hts (.constantLong RX1 92 (3)) (List.mem_of_getElem? (i := 2) rfl)) dX1_act_8 ?_
  obtain ⟨o3, ho4, h⟩ := bi h
  refine caPi (As := [.long (x1.toInt64), .long (0 : Int64), .long (3 : Int64)]) (rest := []) ⟨hx, hb, hml, hown, hts⟩ (mX1_isIn l (x1.toInt64) (0 : Int64) (3 : Int64) o3 ho4) (va_cwS 3 hts gX1_act_X1_isIn rfl rfl rfl (by decide +kernel) ⟨Nat.le_of_ble_eq_true rfl, Nat.le_of_ble_eq_true rfl⟩) rfl hl.1 (Nat.le_of_ble_eq_true rfl) dX1_act_11 ⟨Nat.zero_le _, Nat.zero_le _⟩ ?_
  refine lv_if_eq (tgt := 33) hx hb dX1_act_14 (by decide) (fun c5 => ?_) (fun c5 => ?_)
  · replace h := br_p c5 h
    refine lv_iconst (v := (-1 : Int32)) hx hb dX1_act_33 (by decide) ?_
    exact reMi (v := (-1 : Int32)) hx hb hr hlocks hK hP hD hS h dX1_act_34
  · replace h := br_n c5 h
    refine lv_aload_n hx hb dX1_act_17 rfl (lv_at hl 0 rfl) ?_
    refine lv_iload_n hx hb dX1_act_18 rfl (lv_at hl 2 rfl) ?_
    obtain ⟨o6, ho7, h⟩ := bi h
    refine caRi (q0 := 0) (As := [.int x2]) (rest := []) ⟨hx, hb, hml, hown, hts⟩ (mX1_isNumber l D kc q s1 x2 o6 ho7) (cwV 1 hts gX1_act_X1_isNumber rfl rfl rfl (by decide +kernel) ⟨Nat.le_of_ble_eq_true rfl, Nat.le_of_ble_eq_true rfl⟩) hK hP rfl rfl rfl rfl hl.1 (Nat.le_of_ble_eq_true rfl) dX1_act_19 ⟨Nat.zero_le _, Nat.zero_le _⟩ ?_
    refine lv_if_eq (tgt := 33) hx hb dX1_act_22 (by decide) (fun c8 => ?_) (fun c8 => ?_)
    · replace h := br_p c8 h
      refine lv_iconst (v := (-1 : Int32)) hx hb dX1_act_33 (by decide) ?_
      exact reMi (v := (-1 : Int32)) hx hb hr hlocks hK hP hD hS h dX1_act_34
    · replace h := br_n c8 h
      refine lv_aload_n hx hb dX1_act_25 rfl (lv_at hl 0 rfl) ?_
      refine lv_iload_n hx hb dX1_act_26 rfl (lv_at hl 3 rfl) ?_
      obtain ⟨o9, ho10, h⟩ := bi h
      refine caRi (q0 := 0) (As := [.int x3]) (rest := []) ⟨hx, hb, hml, hown, hts⟩ (mX1_isNumber l D kc q s1 x3 o9 ho10) (cwV 1 hts gX1_act_X1_isNumber rfl rfl rfl (by decide +kernel) ⟨Nat.le_of_ble_eq_true rfl, Nat.le_of_ble_eq_true rfl⟩) hK hP rfl rfl rfl rfl hl.1 (Nat.le_of_ble_eq_true rfl) dX1_act_27 ⟨Nat.zero_le _, Nat.zero_le _⟩ ?_
      refine lv_if_ne (tgt := 35) hx hb dX1_act_30 (by decide) (fun c11 => ?_) (fun c11 => ?_)
      · replace h := br_n c11 h
        refine lv_aload_n hx hb dX1_act_35 rfl (lv_at hl 0 rfl) ?_
        refine rdX1_numbers hx hb hts hinX1_act hown hK hP (hts (.fieldLink RX1 56 "ExactSharesModel" "numbers" "I") (List.mem_of_getElem? (i := 3) rfl)) dX1_act_36 ?_
        refine lv_bipush (v := (40 : Int32)) hx hb dX1_act_39 (by decide) ?_
        refine lv_icmp_ne (tgt := 47) hx hb dX1_act_41 (by decide) (fun c12 => ?_) (fun c12 => ?_)
        · replace h := br_n c12 h
          refine lv_iload_n hx hb dX1_act_47 rfl (lv_at hl 1 rfl) ?_
          refine lv_iconst (v := (3 : Int32)) hx hb dX1_act_48 (by decide) ?_
          refine lv_icmp_ne (tgt := 66) hx hb dX1_act_49 (by decide) (fun c13 => ?_) (fun c13 => ?_)
          · replace h := br_n c13 h
            exact wX1_act_L66 C hA hK  s1 x1 x2 x3 H locs ls h hP hD hS (lv_sub hl [0, 1, 2, 3] rfl)
          · replace h := br_p c13 h
            refine lv_aload_n hx hb dX1_act_52 rfl (lv_at hl 0 rfl) ?_
            refine rdX1_upper hx hb hts hinX1_act hown hK hP (hts (.fieldLink RX1 7 "ExactSharesModel" "upper" "[J") (List.mem_of_getElem? (i := 4) rfl)) dX1_act_53 ?_
            refine lv_iload_n hx hb dX1_act_56 rfl (lv_at hl 3 rfl) ?_
            obtain ⟨g14, h⟩ := gd_t h
            refine ldX1_upper hx hb hK hP g14 dX1_act_57 ?_
            refine lv_lconst (v := (0 : Int64)) hx hb dX1_act_58 (by decide) ?_
            refine xl_ne (tgt := 66) hx hb dX1_act_59 dX1_act_60 (by decide) (fun c15 => ?_) (fun c15 => ?_)
            · replace h := br_n c15 h
              exact wX1_act_L66 C hA hK  s1 x1 x2 x3 H locs ls h hP hD hS (lv_sub hl [0, 1, 2, 3] rfl)
            · replace h := br_p c15 h
              refine lv_bipush (v := (-2 : Int32)) hx hb dX1_act_63 (by decide) ?_
              exact reMi (v := (-2 : Int32)) hx hb hr hlocks hK hP hD hS h dX1_act_65
        · replace h := br_p c12 h
          refine lv_bipush (v := (-4 : Int32)) hx hb dX1_act_44 (by decide) ?_
          exact reMi (v := (-4 : Int32)) hx hb hr hlocks hK hP hD hS h dX1_act_46
      · replace h := br_p c11 h
        refine lv_iconst (v := (-1 : Int32)) hx hb dX1_act_33 (by decide) ?_
        exact reMi (v := (-1 : Int32)) hx hb hr hlocks hK hP hD hS h dX1_act_34
