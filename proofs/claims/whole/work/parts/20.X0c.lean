abbrev rmX0_order : Room := { frames := 2, cells := 0, slots := 0, locals := 62 }
theorem hinX0_order : ∀ w ∈ u_ws RX0 TX0 13, w ∈ wsX0_order := by first | exact fun _ h => List.mem_cons_of_mem _ (List.mem_append_right _ h) | exact fun _ h => List.mem_cons_of_mem _ (List.mem_append_left _ (List.mem_append_right _ h)) | decide +kernel
def fX0_order (σ : CS)  (x1 : Int32) (x2 : Int32) : Option (Int32) := ((fX0_isNumber σ x1).bind fun o1 => (if o1 = (0 : Int32) then (some (-2 : Int32)) else ((fX0_isNumber σ x2).bind fun o4 => (if o4 = (0 : Int32) then (some (-2 : Int32)) else (if ix x1 40 = true then (if ix x1 40 = true then (if ix x2 40 = true then (if ix x2 40 = true then ((fX0_compared ((c_above σ) x1.toNatClampNeg) ((c_below σ) x1.toNatClampNeg) ((c_above σ) x2.toNatClampNeg) ((c_below σ) x2.toNatClampNeg)).bind fun o11 => (some o11)) else none) else none) else none) else none)))))
set_option maxHeartbeats 4000000 in
set_option maxRecDepth 100000 in
theorem mX0_order (l : Launch) (D : va_G) (kc : Nat → ClassId) (q : Nat → Nat) (σ : CS) (x1 : Int32) (x2 : Int32) (out : Int32) (h : fX0_order σ  x1 x2 = some out) : MRi l yX0_order wsX0_order rmX0_order D (tysX0 kc) (wX0 kc q σ) [.ref (q 0), .int x1, .int x2] out := by
  refine ofRi (cc := cX0_order) (maxL := 3) (ret := (some .int)) (lv := [(0, .ref (q 0)), (1, .int x1), (2, .int x2)]) (by decide) rfl (Nat.le_of_ble_eq_true rfl) rfl ?_
  intro p e s m args below meth c C hK hP ls hl
  have C : cxt p s m args meth c RX0 cX0_order 3 (some .int) wsX0_order := C
  obtain ⟨hx, hb, hr, hml, hown, hts, hlocks⟩ := id C
  unfold fX0_order at h
  refine lv_aload_n hx hb dX0_order_0 rfl (lv_at hl 0 rfl) ?_
  refine lv_iload_n hx hb dX0_order_1 rfl (lv_at hl 1 rfl) ?_
  obtain ⟨o1, ho2, h⟩ := bi h
  refine caRi (q0 := 0) (As := [.int x1]) (rest := []) ⟨hx, hb, hml, hown, hts⟩ (mX0_isNumber l D kc q σ x1 o1 ho2) (cwV 1 hts gX0_order_X0_isNumber rfl rfl rfl (by decide +kernel) ⟨Nat.le_of_ble_eq_true rfl, Nat.le_of_ble_eq_true rfl⟩) hK hP rfl rfl rfl rfl hl.1 (Nat.le_of_ble_eq_true rfl) dX0_order_2 ⟨Nat.zero_le _, Nat.zero_le _⟩ ?_
  refine lv_if_eq (tgt := 16) hx hb dX0_order_5 (by decide) (fun c3 => ?_) (fun c3 => ?_)
  · replace h := br_p c3 h
    refine lv_bipush (v := (-2 : Int32)) hx hb dX0_order_16 (by decide) ?_
    exact reRi (v := (-2 : Int32)) hx hb hr hlocks h dX0_order_18
  · replace h := br_n c3 h
    refine lv_aload_n hx hb dX0_order_8 rfl (lv_at hl 0 rfl) ?_
    refine lv_iload_n hx hb dX0_order_9 rfl (lv_at hl 2 rfl) ?_
    obtain ⟨o4, ho5, h⟩ := bi h
    refine caRi (q0 := 0) (As := [.int x2]) (rest := []) ⟨hx, hb, hml, hown, hts⟩ (mX0_isNumber l D kc q σ x2 o4 ho5) (cwV 1 hts gX0_order_X0_isNumber rfl rfl rfl (by decide +kernel) ⟨Nat.le_of_ble_eq_true rfl, Nat.le_of_ble_eq_true rfl⟩) hK hP rfl rfl rfl rfl hl.1 (Nat.le_of_ble_eq_true rfl) dX0_order_10 ⟨Nat.zero_le _, Nat.zero_le _⟩ ?_
    refine lv_if_ne (tgt := 19) hx hb dX0_order_13 (by decide) (fun c6 => ?_) (fun c6 => ?_)
    · replace h := br_n c6 h
      refine lv_aload_n hx hb dX0_order_19 rfl (lv_at hl 0 rfl) ?_
      refine rdX0_above hx hb hts hinX0_order hown hK hP (hts (.fieldLink RX0 11 "ExactShares" "above" "[J") (List.mem_of_getElem? (i := 1) rfl)) dX0_order_20 ?_
      refine lv_iload_n hx hb dX0_order_23 rfl (lv_at hl 1 rfl) ?_
      obtain ⟨g7, h⟩ := gd_t h
      refine ldX0_above hx hb hK hP g7 dX0_order_24 ?_
      refine lv_aload_n hx hb dX0_order_25 rfl (lv_at hl 0 rfl) ?_
      refine rdX0_below hx hb hts hinX0_order hown hK hP (hts (.fieldLink RX0 15 "ExactShares" "below" "[J") (List.mem_of_getElem? (i := 2) rfl)) dX0_order_26 ?_
      refine lv_iload_n hx hb dX0_order_29 rfl (lv_at hl 1 rfl) ?_
      obtain ⟨g8, h⟩ := gd_t h
      refine ldX0_below hx hb hK hP g8 dX0_order_30 ?_
      refine lv_aload_n hx hb dX0_order_31 rfl (lv_at hl 0 rfl) ?_
      refine rdX0_above hx hb hts hinX0_order hown hK hP (hts (.fieldLink RX0 11 "ExactShares" "above" "[J") (List.mem_of_getElem? (i := 1) rfl)) dX0_order_32 ?_
      refine lv_iload_n hx hb dX0_order_35 rfl (lv_at hl 2 rfl) ?_
      obtain ⟨g9, h⟩ := gd_t h
      refine ldX0_above hx hb hK hP g9 dX0_order_36 ?_
      refine lv_aload_n hx hb dX0_order_37 rfl (lv_at hl 0 rfl) ?_
      refine rdX0_below hx hb hts hinX0_order hown hK hP (hts (.fieldLink RX0 15 "ExactShares" "below" "[J") (List.mem_of_getElem? (i := 2) rfl)) dX0_order_38 ?_
      refine lv_iload_n hx hb dX0_order_41 rfl (lv_at hl 2 rfl) ?_
      obtain ⟨g10, h⟩ := gd_t h
      refine ldX0_below hx hb hK hP g10 dX0_order_42 ?_
      obtain ⟨o11, ho12, h⟩ := bi h
      refine caPi (As := [.long ((c_above σ) x1.toNatClampNeg), .long ((c_below σ) x1.toNatClampNeg), .long ((c_above σ) x2.toNatClampNeg), .long ((c_below σ) x2.toNatClampNeg)]) (rest := []) ⟨hx, hb, hml, hown, hts⟩ (mX0_compared l ((c_above σ) x1.toNatClampNeg) ((c_below σ) x1.toNatClampNeg) ((c_above σ) x2.toNatClampNeg) ((c_below σ) x2.toNatClampNeg) o11 ho12) (va_cwS 4 hts gX0_order_X0_compared rfl rfl rfl (by decide +kernel) ⟨Nat.le_of_ble_eq_true rfl, Nat.le_of_ble_eq_true rfl⟩) rfl hl.1 (Nat.le_of_ble_eq_true rfl) dX0_order_43 ⟨Nat.zero_le _, Nat.zero_le _⟩ ?_
      exact reRi (v := o11) hx hb hr hlocks h dX0_order_46
    · replace h := br_p c6 h
      refine lv_bipush (v := (-2 : Int32)) hx hb dX0_order_16 (by decide) ?_
      exact reRi (v := (-2 : Int32)) hx hb hr hlocks h dX0_order_18
abbrev rmX0_part : Room := { frames := 1, cells := 0, slots := 0, locals := 21 }
theorem hinX0_part : ∀ w ∈ u_ws RX0 TX0 13, w ∈ wsX0_part := by first | exact fun _ h => List.mem_cons_of_mem _ (List.mem_append_right _ h) | exact fun _ h => List.mem_cons_of_mem _ (List.mem_append_left _ (List.mem_append_right _ h)) | decide +kernel
def fX0_part (σ : CS)  (x1 : Int32) (x2 : Int32) : Option (Int64) := ((fX0_isNumber σ x1).bind fun o1 => (if o1 = (0 : Int32) then (some (-9223372036854775808 : Int64)) else (if x2 < (0 : Int32) then (some (-9223372036854775808 : Int64)) else (if x2 ≤ (1 : Int32) then (if x2 = (0 : Int32) then (if ix x1 40 = true then (some ((c_above σ) x1.toNatClampNeg)) else none) else (if ix x1 40 = true then (some ((c_below σ) x1.toNatClampNeg)) else none)) else (some (-9223372036854775808 : Int64))))))
set_option maxHeartbeats 4000000 in
set_option maxRecDepth 100000 in
theorem mX0_part (l : Launch) (D : va_G) (kc : Nat → ClassId) (q : Nat → Nat) (σ : CS) (x1 : Int32) (x2 : Int32) (out : Int64) (h : fX0_part σ  x1 x2 = some out) : MRl l yX0_part wsX0_part rmX0_part D (tysX0 kc) (wX0 kc q σ) [.ref (q 0), .int x1, .int x2] out := by
  refine ofRl (cc := cX0_part) (maxL := 3) (ret := (some .long)) (lv := [(0, .ref (q 0)), (1, .int x1), (2, .int x2)]) (by decide) rfl (Nat.le_of_ble_eq_true rfl) rfl ?_
  intro p e s m args below meth c C hK hP ls hl
  have C : cxt p s m args meth c RX0 cX0_part 3 (some .long) wsX0_part := C
  obtain ⟨hx, hb, hr, hml, hown, hts, hlocks⟩ := id C
  unfold fX0_part at h
  refine lv_aload_n hx hb dX0_part_0 rfl (lv_at hl 0 rfl) ?_
  refine lv_iload_n hx hb dX0_part_1 rfl (lv_at hl 1 rfl) ?_
  obtain ⟨o1, ho2, h⟩ := bi h
  refine caRi (q0 := 0) (As := [.int x1]) (rest := []) ⟨hx, hb, hml, hown, hts⟩ (mX0_isNumber l D kc q σ x1 o1 ho2) (cwV 1 hts gX0_part_X0_isNumber rfl rfl rfl (by decide +kernel) ⟨Nat.le_of_ble_eq_true rfl, Nat.le_of_ble_eq_true rfl⟩) hK hP rfl rfl rfl rfl hl.1 (Nat.le_of_ble_eq_true rfl) dX0_part_2 ⟨Nat.zero_le _, Nat.zero_le _⟩ ?_
  refine lv_if_eq (tgt := 17) hx hb dX0_part_5 (by decide) (fun c3 => ?_) (fun c3 => ?_)
  · replace h := br_p c3 h
    refine lv_ldc2 (v := (-9223372036854775808 : Int64)) hx hb hown (hts (.constantLong RX0 36 (-9223372036854775808)) (List.mem_of_getElem? (i := 1) rfl)) dX0_part_17 ?_
    exact reRl (v := (-9223372036854775808 : Int64)) hx hb hr hlocks h dX0_part_20
  · replace h := br_n c3 h
    refine lv_iload_n hx hb dX0_part_8 rfl (lv_at hl 2 rfl) ?_
    refine lv_if_lt (tgt := 17) hx hb dX0_part_9 (by decide) (fun c4 => ?_) (fun c4 => ?_)
    · replace h := br_p c4 h
      refine lv_ldc2 (v := (-9223372036854775808 : Int64)) hx hb hown (hts (.constantLong RX0 36 (-9223372036854775808)) (List.mem_of_getElem? (i := 1) rfl)) dX0_part_17 ?_
      exact reRl (v := (-9223372036854775808 : Int64)) hx hb hr hlocks h dX0_part_20
    · replace h := br_n c4 h
      refine lv_iload_n hx hb dX0_part_12 rfl (lv_at hl 2 rfl) ?_
      refine lv_iconst (v := (1 : Int32)) hx hb dX0_part_13 (by decide) ?_
      refine lv_icmp_le (tgt := 21) hx hb dX0_part_14 (by decide) (fun c5 => ?_) (fun c5 => ?_)
      · replace h := br_p c5 h
        refine lv_iload_n hx hb dX0_part_21 rfl (lv_at hl 2 rfl) ?_
        refine lv_if_ne (tgt := 34) hx hb dX0_part_22 (by decide) (fun c6 => ?_) (fun c6 => ?_)
        · replace h := br_n c6 h
          refine lv_aload_n hx hb dX0_part_34 rfl (lv_at hl 0 rfl) ?_
          refine rdX0_below hx hb hts hinX0_part hown hK hP (hts (.fieldLink RX0 15 "ExactShares" "below" "[J") (List.mem_of_getElem? (i := 3) rfl)) dX0_part_35 ?_
          refine lv_iload_n hx hb dX0_part_38 rfl (lv_at hl 1 rfl) ?_
          obtain ⟨g7, h⟩ := gd_t h
          refine ldX0_below hx hb hK hP g7 dX0_part_39 ?_
          exact reRl (v := ((c_below σ) x1.toNatClampNeg)) hx hb hr hlocks h dX0_part_40
        · replace h := br_p c6 h
          refine lv_aload_n hx hb dX0_part_25 rfl (lv_at hl 0 rfl) ?_
          refine rdX0_above hx hb hts hinX0_part hown hK hP (hts (.fieldLink RX0 11 "ExactShares" "above" "[J") (List.mem_of_getElem? (i := 2) rfl)) dX0_part_26 ?_
          refine lv_iload_n hx hb dX0_part_29 rfl (lv_at hl 1 rfl) ?_
          obtain ⟨g8, h⟩ := gd_t h
          refine ldX0_above hx hb hK hP g8 dX0_part_30 ?_
          refine lv_goto (tgt := 40) hx hb dX0_part_31 (by decide) ?_
          exact reRl (v := ((c_above σ) x1.toNatClampNeg)) hx hb hr hlocks h dX0_part_40
      · replace h := br_n c5 h
        refine lv_ldc2 (v := (-9223372036854775808 : Int64)) hx hb hown (hts (.constantLong RX0 36 (-9223372036854775808)) (List.mem_of_getElem? (i := 1) rfl)) dX0_part_17 ?_
        exact reRl (v := (-9223372036854775808 : Int64)) hx hb hr hlocks h dX0_part_20
abbrev rmX0_keepSimplest : Room := { frames := 3, cells := 0, slots := 0, locals := 136 }
def fX0_keepSimplest_L164 (σ : CS)   (x9 : Int32) (x14 : Int64) (x16 : Int64) : Option (Int32 × CS) := ((fX0_keep σ ((x9.toInt64) * x14) x16).bind fun o1 => (some (o1.1, o1.2)))
set_option maxHeartbeats 4000000 in
set_option maxRecDepth 100000 in
theorem wX0_keepSimplest_L164 {p : Program} {l : Launch} {e : Env} {s : State} {m : MethodId} {args : Array Value} {below : List Frame} {meth : Method} {c : Code} {A : Nat → Prop} {D : va_G} {kc : Nat → ClassId} {q : Nat → Nat} {out : Int32 × CS} (C : cxt p s m args meth c RX0 cX0_keepSimplest 32 (some .int) wsX0_keepSimplest) (hA : ∀ x, s.heap.size ≤ x → A x) (hK : va_K D vwCl (tysX0 kc) s) (σ : CS) (x9 : Int32) (x14 : Int64) (x16 : Int64) (H : Heap) (locs : List Loc) (ls : Array Slot) (h : fX0_keepSimplest_L164 σ   x9 x14 x16 = some out) (hP : va_P D vwCl (wX0 kc q σ) H) (hD : va_D A (wX0 kc q σ)) (hS : va_S A s.heap H locs) (hl : lv_has ls 32 [(0, .ref (q 0)), (9, .int x9), (14, .long x14), (16, .long x16)]) : W p l e rmX0_keepSimplest s m args below meth c H locs 0 0 (MQ below (QMi D (tysX0 kc) (wX0 kc q) A out) args s 0 0 A) (F0 m 164 ls []) := by
  obtain ⟨hx, hb, hr, hml, hown, hts, hlocks⟩ := id C
  unfold fX0_keepSimplest_L164 at h
  refine lv_aload_n hx hb dX0_keepSimplest_164 rfl (lv_at hl 0 rfl) ?_
  refine lv_iload hx hb dX0_keepSimplest_165 (lv_at hl 1 rfl) ?_
  refine lv_i2l (v := (x9.toInt64)) hx hb dX0_keepSimplest_167 rfl ?_
  refine lv_lload hx hb dX0_keepSimplest_168 (lv_at hl 2 rfl) ?_
  refine lv_lmul hx hb dX0_keepSimplest_170 ?_
  refine lv_lload hx hb dX0_keepSimplest_171 (lv_at hl 3 rfl) ?_
  obtain ⟨o1, ho2, h⟩ := bi h
  refine caMi (q0 := 0) (As := [.long ((x9.toInt64) * x14), .long x16]) (rest := []) ⟨hx, hb, hml, hown, hts⟩ (mX0_keep l D kc q σ ((x9.toInt64) * x14) x16 o1 ho2) (cwV 2 hts gX0_keepSimplest_X0_keep rfl rfl rfl (by decide +kernel) ⟨Nat.le_of_ble_eq_true rfl, Nat.le_of_ble_eq_true rfl⟩) hK hP hD hS hA rfl rfl rfl rfl hl.1 (Nat.le_of_ble_eq_true rfl) dX0_keepSimplest_173 ⟨Nat.zero_le _, Nat.zero_le _⟩ (fun H locs hP hD hS => ?_)
  exact reMi (v := o1.1) hx hb hr hlocks hK hP hD hS h dX0_keepSimplest_176
def fX0_keepSimplest_L107 (σ : CS)  (k18 : Int64 × Int64 × Int64 × Int64 × Int32 × Int64 × Int64 × Int64 × Int64 × Int32 × Int32 × CS → Option (Int32 × CS)) (x3 : Int64) (x7 : Int64) (x9 : Int32) (x10 : Int64) (x12 : Int64) (x14 : Int64) (x16 : Int64) (x18 : Int32) (x19 : Int32) (x22 : Int64) (x24 : Int64) (y0 : Int64) : Option (Int32 × CS) := (k18 (x7, x24, x3, x22, x9, x14, x16, ((y0 * x14) + x10), ((y0 * x16) + x12), x18, (x19 + (1 : Int32)), σ))
set_option maxHeartbeats 4000000 in
set_option maxRecDepth 100000 in
theorem wX0_keepSimplest_L107 {p : Program} {l : Launch} {e : Env} {s : State} {m : MethodId} {args : Array Value} {below : List Frame} {meth : Method} {c : Code} {A : Nat → Prop} {D : va_G} {kc : Nat → ClassId} {q : Nat → Nat} {out : Int32 × CS} (C : cxt p s m args meth c RX0 cX0_keepSimplest 32 (some .int) wsX0_keepSimplest) (hA : ∀ x, s.heap.size ≤ x → A x) (hK : va_K D vwCl (tysX0 kc) s) (k18 : Int64 × Int64 × Int64 × Int64 × Int32 × Int64 × Int64 × Int64 × Int64 × Int32 × Int32 × CS → Option (Int32 × CS)) (hk18 : ∀ (x1 : Int64) (x3 : Int64) (x5 : Int64) (x7 : Int64) (x9 : Int32) (x10 : Int64) (x12 : Int64) (x14 : Int64) (x16 : Int64) (x18 : Int32) (x19 : Int32) (σ : CS) (H : Heap) (locs : List Loc) (ls : Array Slot), k18 (x1, x3, x5, x7, x9, x10, x12, x14, x16, x18, x19, σ) = some out → va_P D vwCl (wX0 kc q σ) H → va_D A (wX0 kc q σ) → va_S A s.heap H locs → lv_has ls 32 [(0, .ref (q 0)), (1, .long x1), (3, .long x3), (5, .long x5), (7, .long x7), (9, .int x9), (10, .long x10), (12, .long x12), (14, .long x14), (16, .long x16), (18, .int x18), (19, .int x19)] → W p l e rmX0_keepSimplest s m args below meth c H locs 0 0 (MQ below (QMi D (tysX0 kc) (wX0 kc q) A out) args s 0 0 A) (F0 m 18 ls [])) (σ : CS) (x3 : Int64) (x7 : Int64) (x9 : Int32) (x10 : Int64) (x12 : Int64) (x14 : Int64) (x16 : Int64) (x18 : Int32) (x19 : Int32) (x22 : Int64) (x24 : Int64) (y0 : Int64) (H : Heap) (locs : List Loc) (ls : Array Slot) (h : fX0_keepSimplest_L107 σ  k18 x3 x7 x9 x10 x12 x14 x16 x18 x19 x22 x24 y0 = some out) (hP : va_P D vwCl (wX0 kc q σ) H) (hD : va_D A (wX0 kc q σ)) (hS : va_S A s.heap H locs) (hl : lv_has ls 32 [(0, .ref (q 0)), (3, .long x3), (7, .long x7), (9, .int x9), (10, .long x10), (12, .long x12), (14, .long x14), (16, .long x16), (18, .int x18), (19, .int x19), (22, .long x22), (24, .long x24)]) : W p l e rmX0_keepSimplest s m args below meth c H locs 0 0 (MQ below (QMi D (tysX0 kc) (wX0 kc q) A out) args s 0 0 A) (F0 m 107 ls [.long y0]) := by
  obtain ⟨hx, hb, hr, hml, hown, hts, hlocks⟩ := id C
  unfold fX0_keepSimplest_L107 at h
  refine lv_lstore (lv' := [(26, .long y0), (0, .ref (q 0)), (3, .long x3), (7, .long x7), (9, .int x9), (10, .long x10), (12, .long x12), (14, .long x14), (16, .long x16), (18, .int x18), (19, .int x19), (22, .long x22), (24, .long x24)]) hx hb dX0_keepSimplest_107 hl (by decide) rfl (fun ls hl => ?_)
  refine lv_lload hx hb dX0_keepSimplest_109 (lv_at hl 0 rfl) ?_
  refine lv_lload hx hb dX0_keepSimplest_111 (lv_at hl 7 rfl) ?_
  refine lv_lmul hx hb dX0_keepSimplest_113 ?_
  refine lv_lload hx hb dX0_keepSimplest_114 (lv_at hl 5 rfl) ?_
  refine lv_ladd hx hb dX0_keepSimplest_116 ?_
  refine lv_lstore (lv' := [(28, .long ((y0 * x14) + x10)), (26, .long y0), (0, .ref (q 0)), (3, .long x3), (7, .long x7), (9, .int x9), (10, .long x10), (12, .long x12), (14, .long x14), (16, .long x16), (18, .int x18), (19, .int x19), (22, .long x22), (24, .long x24)]) hx hb dX0_keepSimplest_117 hl (by decide) rfl (fun ls hl => ?_)
  refine lv_lload hx hb dX0_keepSimplest_119 (lv_at hl 1 rfl) ?_
  refine lv_lload hx hb dX0_keepSimplest_121 (lv_at hl 9 rfl) ?_
  refine lv_lmul hx hb dX0_keepSimplest_123 ?_
  refine lv_lload hx hb dX0_keepSimplest_124 (lv_at hl 7 rfl) ?_
  refine lv_ladd hx hb dX0_keepSimplest_126 ?_
  refine lv_lstore (lv' := [(30, .long ((y0 * x16) + x12)), (28, .long ((y0 * x14) + x10)), (26, .long y0), (0, .ref (q 0)), (3, .long x3), (7, .long x7), (9, .int x9), (10, .long x10), (12, .long x12), (14, .long x14), (16, .long x16), (18, .int x18), (19, .int x19), (22, .long x22), (24, .long x24)]) hx hb dX0_keepSimplest_127 hl (by decide) rfl (fun ls hl => ?_)
  refine lv_lload hx hb dX0_keepSimplest_129 (lv_at hl 9 rfl) ?_
  refine lv_lstore (lv' := [(10, .long x14), (30, .long ((y0 * x16) + x12)), (28, .long ((y0 * x14) + x10)), (26, .long y0), (0, .ref (q 0)), (3, .long x3), (7, .long x7), (9, .int x9), (12, .long x12), (14, .long x14), (16, .long x16), (18, .int x18), (19, .int x19), (22, .long x22), (24, .long x24)]) hx hb dX0_keepSimplest_131 hl (by decide) rfl (fun ls hl => ?_)
  refine lv_lload hx hb dX0_keepSimplest_133 (lv_at hl 10 rfl) ?_
  refine lv_lstore (lv' := [(12, .long x16), (10, .long x14), (30, .long ((y0 * x16) + x12)), (28, .long ((y0 * x14) + x10)), (26, .long y0), (0, .ref (q 0)), (3, .long x3), (7, .long x7), (9, .int x9), (14, .long x14), (16, .long x16), (18, .int x18), (19, .int x19), (22, .long x22), (24, .long x24)]) hx hb dX0_keepSimplest_135 hl (by decide) rfl (fun ls hl => ?_)
  refine lv_lload hx hb dX0_keepSimplest_137 (lv_at hl 3 rfl) ?_
  refine lv_lstore (lv' := [(14, .long ((y0 * x14) + x10)), (12, .long x16), (10, .long x14), (30, .long ((y0 * x16) + x12)), (28, .long ((y0 * x14) + x10)), (26, .long y0), (0, .ref (q 0)), (3, .long x3), (7, .long x7), (9, .int x9), (16, .long x16), (18, .int x18), (19, .int x19), (22, .long x22), (24, .long x24)]) hx hb dX0_keepSimplest_139 hl (by decide) rfl (fun ls hl => ?_)
  refine lv_lload hx hb dX0_keepSimplest_141 (lv_at hl 3 rfl) ?_
  refine lv_lstore (lv' := [(16, .long ((y0 * x16) + x12)), (14, .long ((y0 * x14) + x10)), (12, .long x16), (10, .long x14), (30, .long ((y0 * x16) + x12)), (28, .long ((y0 * x14) + x10)), (26, .long y0), (0, .ref (q 0)), (3, .long x3), (7, .long x7), (9, .int x9), (18, .int x18), (19, .int x19), (22, .long x22), (24, .long x24)]) hx hb dX0_keepSimplest_143 hl (by decide) rfl (fun ls hl => ?_)
  refine lv_lload hx hb dX0_keepSimplest_145 (lv_at hl 9 rfl) ?_
  refine lv_lstore_n (lv' := [(1, .long x7), (16, .long ((y0 * x16) + x12)), (14, .long ((y0 * x14) + x10)), (12, .long x16), (10, .long x14), (30, .long ((y0 * x16) + x12)), (28, .long ((y0 * x14) + x10)), (26, .long y0), (0, .ref (q 0)), (3, .long x3), (7, .long x7), (9, .int x9), (18, .int x18), (19, .int x19), (22, .long x22), (24, .long x24)]) hx hb dX0_keepSimplest_147 rfl hl (by decide) rfl (fun ls hl => ?_)
  refine lv_lload_n hx hb dX0_keepSimplest_148 rfl (lv_at hl 9 rfl) ?_
  refine lv_lstore (lv' := [(5, .long x3), (1, .long x7), (16, .long ((y0 * x16) + x12)), (14, .long ((y0 * x14) + x10)), (12, .long x16), (10, .long x14), (30, .long ((y0 * x16) + x12)), (28, .long ((y0 * x14) + x10)), (26, .long y0), (0, .ref (q 0)), (3, .long x3), (7, .long x7), (9, .int x9), (18, .int x18), (19, .int x19), (22, .long x22), (24, .long x24)]) hx hb dX0_keepSimplest_149 hl (by decide) rfl (fun ls hl => ?_)
  refine lv_lload hx hb dX0_keepSimplest_151 (lv_at hl 16 rfl) ?_
  refine lv_lstore_n (lv' := [(3, .long x24), (5, .long x3), (1, .long x7), (16, .long ((y0 * x16) + x12)), (14, .long ((y0 * x14) + x10)), (12, .long x16), (10, .long x14), (30, .long ((y0 * x16) + x12)), (28, .long ((y0 * x14) + x10)), (26, .long y0), (0, .ref (q 0)), (7, .long x7), (9, .int x9), (18, .int x18), (19, .int x19), (22, .long x22), (24, .long x24)]) hx hb dX0_keepSimplest_153 rfl hl (by decide) rfl (fun ls hl => ?_)
  refine lv_lload hx hb dX0_keepSimplest_154 (lv_at hl 15 rfl) ?_
  refine lv_lstore (lv' := [(7, .long x22), (3, .long x24), (5, .long x3), (1, .long x7), (16, .long ((y0 * x16) + x12)), (14, .long ((y0 * x14) + x10)), (12, .long x16), (10, .long x14), (30, .long ((y0 * x16) + x12)), (28, .long ((y0 * x14) + x10)), (26, .long y0), (0, .ref (q 0)), (9, .int x9), (18, .int x18), (19, .int x19), (22, .long x22), (24, .long x24)]) hx hb dX0_keepSimplest_156 hl (by decide) rfl (fun ls hl => ?_)
  refine lv_iinc (v := (x19 + (1 : Int32))) (lv' := [(19, .int (x19 + (1 : Int32))), (7, .long x22), (3, .long x24), (5, .long x3), (1, .long x7), (16, .long ((y0 * x16) + x12)), (14, .long ((y0 * x14) + x10)), (12, .long x16), (10, .long x14), (30, .long ((y0 * x16) + x12)), (28, .long ((y0 * x14) + x10)), (26, .long y0), (0, .ref (q 0)), (9, .int x9), (18, .int x18), (22, .long x22), (24, .long x24)]) hx hb dX0_keepSimplest_158 hl (k := 14) rfl rfl (by decide) rfl (fun ls hl => ?_)
  refine lv_goto (tgt := 18) hx hb dX0_keepSimplest_161 (by decide) ?_
  exact hk18 x7 x24 x3 x22 x9 x14 x16 ((y0 * x14) + x10) ((y0 * x16) + x12) x18 (x19 + (1 : Int32)) σ H locs ls h hP hD hS (lv_sub hl [12, 4, 2, 3, 1, 13, 8, 7, 6, 5, 14, 0] rfl)
def fX0_keepSimplest_L98 (σ : CS)  (k18 : Int64 × Int64 × Int64 × Int64 × Int32 × Int64 × Int64 × Int64 × Int64 × Int32 × Int32 × CS → Option (Int32 × CS)) (x3 : Int64) (x7 : Int64) (x9 : Int32) (x10 : Int64) (x12 : Int64) (x14 : Int64) (x16 : Int64) (x18 : Int32) (x19 : Int32) (x20 : Int64) (x22 : Int64) (x24 : Int64) : Option (Int32 × CS) := (fX0_keepSimplest_L107 σ k18 x3 x7 x9 x10 x12 x14 x16 x18 x19 x22 x24 x20)
set_option maxHeartbeats 4000000 in
set_option maxRecDepth 100000 in
theorem wX0_keepSimplest_L98 {p : Program} {l : Launch} {e : Env} {s : State} {m : MethodId} {args : Array Value} {below : List Frame} {meth : Method} {c : Code} {A : Nat → Prop} {D : va_G} {kc : Nat → ClassId} {q : Nat → Nat} {out : Int32 × CS} (C : cxt p s m args meth c RX0 cX0_keepSimplest 32 (some .int) wsX0_keepSimplest) (hA : ∀ x, s.heap.size ≤ x → A x) (hK : va_K D vwCl (tysX0 kc) s) (k18 : Int64 × Int64 × Int64 × Int64 × Int32 × Int64 × Int64 × Int64 × Int64 × Int32 × Int32 × CS → Option (Int32 × CS)) (hk18 : ∀ (x1 : Int64) (x3 : Int64) (x5 : Int64) (x7 : Int64) (x9 : Int32) (x10 : Int64) (x12 : Int64) (x14 : Int64) (x16 : Int64) (x18 : Int32) (x19 : Int32) (σ : CS) (H : Heap) (locs : List Loc) (ls : Array Slot), k18 (x1, x3, x5, x7, x9, x10, x12, x14, x16, x18, x19, σ) = some out → va_P D vwCl (wX0 kc q σ) H → va_D A (wX0 kc q σ) → va_S A s.heap H locs → lv_has ls 32 [(0, .ref (q 0)), (1, .long x1), (3, .long x3), (5, .long x5), (7, .long x7), (9, .int x9), (10, .long x10), (12, .long x12), (14, .long x14), (16, .long x16), (18, .int x18), (19, .int x19)] → W p l e rmX0_keepSimplest s m args below meth c H locs 0 0 (MQ below (QMi D (tysX0 kc) (wX0 kc q) A out) args s 0 0 A) (F0 m 18 ls [])) (σ : CS) (x3 : Int64) (x7 : Int64) (x9 : Int32) (x10 : Int64) (x12 : Int64) (x14 : Int64) (x16 : Int64) (x18 : Int32) (x19 : Int32) (x20 : Int64) (x22 : Int64) (x24 : Int64) (H : Heap) (locs : List Loc) (ls : Array Slot) (h : fX0_keepSimplest_L98 σ  k18 x3 x7 x9 x10 x12 x14 x16 x18 x19 x20 x22 x24 = some out) (hP : va_P D vwCl (wX0 kc q σ) H) (hD : va_D A (wX0 kc q σ)) (hS : va_S A s.heap H locs) (hl : lv_has ls 32 [(0, .ref (q 0)), (3, .long x3), (7, .long x7), (9, .int x9), (10, .long x10), (12, .long x12), (14, .long x14), (16, .long x16), (18, .int x18), (19, .int x19), (20, .long x20), (22, .long x22), (24, .long x24)]) : W p l e rmX0_keepSimplest s m args below meth c H locs 0 0 (MQ below (QMi D (tysX0 kc) (wX0 kc q) A out) args s 0 0 A) (F0 m 98 ls []) := by
  obtain ⟨hx, hb, hr, hml, hown, hts, hlocks⟩ := id C
  unfold fX0_keepSimplest_L98 at h
  refine lv_lload hx hb dX0_keepSimplest_98 (lv_at hl 10 rfl) ?_
  refine lv_goto (tgt := 107) hx hb dX0_keepSimplest_100 (by decide) ?_
  exact wX0_keepSimplest_L107 C hA hK k18 hk18 σ x3 x7 x9 x10 x12 x14 x16 x18 x19 x22 x24 x20 H locs ls h hP hD hS (lv_sub hl [0, 1, 2, 3, 4, 5, 6, 7, 8, 9, 11, 12] rfl)
def fX0_keepSimplest_L84 (σ : CS)  (k18 : Int64 × Int64 × Int64 × Int64 × Int32 × Int64 × Int64 × Int64 × Int64 × Int32 × Int32 × CS → Option (Int32 × CS)) (x3 : Int64) (x7 : Int64) (x9 : Int32) (x10 : Int64) (x12 : Int64) (x14 : Int64) (x16 : Int64) (x19 : Int32) (x20 : Int64) (x22 : Int64) (x24 : Int64) (y0 : Int32) : Option (Int32 × CS) := (if x22 = (0 : Int64) then (fX0_keepSimplest_L98 σ k18 x3 x7 x9 x10 x12 x14 x16 y0 x19 x20 x22 x24) else (if y0 = (0 : Int32) then (fX0_keepSimplest_L98 σ k18 x3 x7 x9 x10 x12 x14 x16 y0 x19 x20 x22 x24) else (fX0_keepSimplest_L107 σ k18 x3 x7 x9 x10 x12 x14 x16 y0 x19 x22 x24 (x20 + (1 : Int64)))))
set_option maxHeartbeats 4000000 in
set_option maxRecDepth 100000 in
theorem wX0_keepSimplest_L84 {p : Program} {l : Launch} {e : Env} {s : State} {m : MethodId} {args : Array Value} {below : List Frame} {meth : Method} {c : Code} {A : Nat → Prop} {D : va_G} {kc : Nat → ClassId} {q : Nat → Nat} {out : Int32 × CS} (C : cxt p s m args meth c RX0 cX0_keepSimplest 32 (some .int) wsX0_keepSimplest) (hA : ∀ x, s.heap.size ≤ x → A x) (hK : va_K D vwCl (tysX0 kc) s) (k18 : Int64 × Int64 × Int64 × Int64 × Int32 × Int64 × Int64 × Int64 × Int64 × Int32 × Int32 × CS → Option (Int32 × CS)) (hk18 : ∀ (x1 : Int64) (x3 : Int64) (x5 : Int64) (x7 : Int64) (x9 : Int32) (x10 : Int64) (x12 : Int64) (x14 : Int64) (x16 : Int64) (x18 : Int32) (x19 : Int32) (σ : CS) (H : Heap) (locs : List Loc) (ls : Array Slot), k18 (x1, x3, x5, x7, x9, x10, x12, x14, x16, x18, x19, σ) = some out → va_P D vwCl (wX0 kc q σ) H → va_D A (wX0 kc q σ) → va_S A s.heap H locs → lv_has ls 32 [(0, .ref (q 0)), (1, .long x1), (3, .long x3), (5, .long x5), (7, .long x7), (9, .int x9), (10, .long x10), (12, .long x12), (14, .long x14), (16, .long x16), (18, .int x18), (19, .int x19)] → W p l e rmX0_keepSimplest s m args below meth c H locs 0 0 (MQ below (QMi D (tysX0 kc) (wX0 kc q) A out) args s 0 0 A) (F0 m 18 ls [])) (σ : CS) (x3 : Int64) (x7 : Int64) (x9 : Int32) (x10 : Int64) (x12 : Int64) (x14 : Int64) (x16 : Int64) (x19 : Int32) (x20 : Int64) (x22 : Int64) (x24 : Int64) (y0 : Int32) (H : Heap) (locs : List Loc) (ls : Array Slot) (h : fX0_keepSimplest_L84 σ  k18 x3 x7 x9 x10 x12 x14 x16 x19 x20 x22 x24 y0 = some out) (hP : va_P D vwCl (wX0 kc q σ) H) (hD : va_D A (wX0 kc q σ)) (hS : va_S A s.heap H locs) (hl : lv_has ls 32 [(0, .ref (q 0)), (3, .long x3), (7, .long x7), (9, .int x9), (10, .long x10), (12, .long x12), (14, .long x14), (16, .long x16), (19, .int x19), (20, .long x20), (22, .long x22), (24, .long x24)]) : W p l e rmX0_keepSimplest s m args below meth c H locs 0 0 (MQ below (QMi D (tysX0 kc) (wX0 kc q) A out) args s 0 0 A) (F0 m 84 ls [.int y0]) := by
  obtain ⟨hx, hb, hr, hml, hown, hts, hlocks⟩ := id C
  unfold fX0_keepSimplest_L84 at h
  refine lv_istore (lv' := [(18, .int y0), (0, .ref (q 0)), (3, .long x3), (7, .long x7), (9, .int x9), (10, .long x10), (12, .long x12), (14, .long x14), (16, .long x16), (19, .int x19), (20, .long x20), (22, .long x22), (24, .long x24)]) hx hb dX0_keepSimplest_84 hl (by decide) rfl (fun ls hl => ?_)
  refine lv_lload hx hb dX0_keepSimplest_86 (lv_at hl 11 rfl) ?_
  refine lv_lconst (v := (0 : Int64)) hx hb dX0_keepSimplest_88 (by decide) ?_
  refine xl_eq (tgt := 98) hx hb dX0_keepSimplest_89 dX0_keepSimplest_90 (by decide) (fun c1 => ?_) (fun c1 => ?_)
  · replace h := br_p c1 h
    exact wX0_keepSimplest_L98 C hA hK k18 hk18 σ x3 x7 x9 x10 x12 x14 x16 y0 x19 x20 x22 x24 H locs ls h hP hD hS (lv_sub hl [1, 2, 3, 4, 5, 6, 7, 8, 0, 9, 10, 11, 12] rfl)
  · replace h := br_n c1 h
    refine lv_iload hx hb dX0_keepSimplest_93 (lv_at hl 0 rfl) ?_
    refine lv_if_ne (tgt := 103) hx hb dX0_keepSimplest_95 (by decide) (fun c2 => ?_) (fun c2 => ?_)
    · replace h := br_n c2 h
      refine lv_lload hx hb dX0_keepSimplest_103 (lv_at hl 10 rfl) ?_
      refine lv_lconst (v := (1 : Int64)) hx hb dX0_keepSimplest_105 (by decide) ?_
      refine lv_ladd hx hb dX0_keepSimplest_106 ?_
      exact wX0_keepSimplest_L107 C hA hK k18 hk18 σ x3 x7 x9 x10 x12 x14 x16 y0 x19 x22 x24 (x20 + (1 : Int64)) H locs ls h hP hD hS (lv_sub hl [1, 2, 3, 4, 5, 6, 7, 8, 0, 9, 11, 12] rfl)
    · replace h := br_p c2 h
      exact wX0_keepSimplest_L98 C hA hK k18 hk18 σ x3 x7 x9 x10 x12 x14 x16 y0 x19 x20 x22 x24 H locs ls h hP hD hS (lv_sub hl [1, 2, 3, 4, 5, 6, 7, 8, 0, 9, 10, 11, 12] rfl)
def fX0_keepSimplest_L79 (σ : CS)  (k18 : Int64 × Int64 × Int64 × Int64 × Int32 × Int64 × Int64 × Int64 × Int64 × Int32 × Int32 × CS → Option (Int32 × CS)) (x3 : Int64) (x7 : Int64) (x9 : Int32) (x10 : Int64) (x12 : Int64) (x14 : Int64) (x16 : Int64) (x19 : Int32) (x20 : Int64) (x22 : Int64) (x24 : Int64) : Option (Int32 × CS) := (fX0_keepSimplest_L84 σ k18 x3 x7 x9 x10 x12 x14 x16 x19 x20 x22 x24 (1 : Int32))
set_option maxHeartbeats 4000000 in
set_option maxRecDepth 100000 in
theorem wX0_keepSimplest_L79 {p : Program} {l : Launch} {e : Env} {s : State} {m : MethodId} {args : Array Value} {below : List Frame} {meth : Method} {c : Code} {A : Nat → Prop} {D : va_G} {kc : Nat → ClassId} {q : Nat → Nat} {out : Int32 × CS} (C : cxt p s m args meth c RX0 cX0_keepSimplest 32 (some .int) wsX0_keepSimplest) (hA : ∀ x, s.heap.size ≤ x → A x) (hK : va_K D vwCl (tysX0 kc) s) (k18 : Int64 × Int64 × Int64 × Int64 × Int32 × Int64 × Int64 × Int64 × Int64 × Int32 × Int32 × CS → Option (Int32 × CS)) (hk18 : ∀ (x1 : Int64) (x3 : Int64) (x5 : Int64) (x7 : Int64) (x9 : Int32) (x10 : Int64) (x12 : Int64) (x14 : Int64) (x16 : Int64) (x18 : Int32) (x19 : Int32) (σ : CS) (H : Heap) (locs : List Loc) (ls : Array Slot), k18 (x1, x3, x5, x7, x9, x10, x12, x14, x16, x18, x19, σ) = some out → va_P D vwCl (wX0 kc q σ) H → va_D A (wX0 kc q σ) → va_S A s.heap H locs → lv_has ls 32 [(0, .ref (q 0)), (1, .long x1), (3, .long x3), (5, .long x5), (7, .long x7), (9, .int x9), (10, .long x10), (12, .long x12), (14, .long x14), (16, .long x16), (18, .int x18), (19, .int x19)] → W p l e rmX0_keepSimplest s m args below meth c H locs 0 0 (MQ below (QMi D (tysX0 kc) (wX0 kc q) A out) args s 0 0 A) (F0 m 18 ls [])) (σ : CS) (x3 : Int64) (x7 : Int64) (x9 : Int32) (x10 : Int64) (x12 : Int64) (x14 : Int64) (x16 : Int64) (x19 : Int32) (x20 : Int64) (x22 : Int64) (x24 : Int64) (H : Heap) (locs : List Loc) (ls : Array Slot) (h : fX0_keepSimplest_L79 σ  k18 x3 x7 x9 x10 x12 x14 x16 x19 x20 x22 x24 = some out) (hP : va_P D vwCl (wX0 kc q σ) H) (hD : va_D A (wX0 kc q σ)) (hS : va_S A s.heap H locs) (hl : lv_has ls 32 [(0, .ref (q 0)), (3, .long x3), (7, .long x7), (9, .int x9), (10, .long x10), (12, .long x12), (14, .long x14), (16, .long x16), (19, .int x19), (20, .long x20), (22, .long x22), (24, .long x24)]) : W p l e rmX0_keepSimplest s m args below meth c H locs 0 0 (MQ below (QMi D (tysX0 kc) (wX0 kc q) A out) args s 0 0 A) (F0 m 79 ls []) := by
  obtain ⟨hx, hb, hr, hml, hown, hts, hlocks⟩ := id C
  unfold fX0_keepSimplest_L79 at h
  refine lv_iconst (v := (1 : Int32)) hx hb dX0_keepSimplest_79 (by decide) ?_
  refine lv_goto (tgt := 84) hx hb dX0_keepSimplest_80 (by decide) ?_
  exact wX0_keepSimplest_L84 C hA hK k18 hk18 σ x3 x7 x9 x10 x12 x14 x16 x19 x20 x22 x24 (1 : Int32) H locs ls h hP hD hS (lv_sub hl [0, 1, 2, 3, 4, 5, 6, 7, 8, 9, 10, 11] rfl)
def fX0_keepSimplest_B18 (σ : CS)   (k18 : Int64 × Int64 × Int64 × Int64 × Int32 × Int64 × Int64 × Int64 × Int64 × Int32 × Int32 × CS → Option (Int32 × CS)) (x1 : Int64) (x3 : Int64) (x5 : Int64) (x7 : Int64) (x9 : Int32) (x10 : Int64) (x12 : Int64) (x14 : Int64) (x16 : Int64) (x18 : Int32) (x19 : Int32) : Option (Int32 × CS) := (if (200 : Int32) ≤ x19 then (fX0_keepSimplest_L164 σ x9 x14 x16) else (if x18 = (0 : Int32) then (if x3 ≤ (0 : Int64) then (fX0_keepSimplest_L164 σ x9 x14 x16) else (if x7 ≤ (0 : Int64) then (fX0_keepSimplest_L164 σ x9 x14 x16) else (if x3 = (0 : Int64) then none else (if x3 = (0 : Int64) then none else (if (lmd x1 x3) = (0 : Int64) then (fX0_keepSimplest_L79 σ k18 x3 x7 x9 x10 x12 x14 x16 x19 (x1 / x3) (lmd x1 x3) (x5 - ((x1 / x3) * x7))) else (if (x5 - ((x1 / x3) * x7)) < x7 then (fX0_keepSimplest_L84 σ k18 x3 x7 x9 x10 x12 x14 x16 x19 (x1 / x3) (lmd x1 x3) (x5 - ((x1 / x3) * x7)) (0 : Int32)) else (fX0_keepSimplest_L79 σ k18 x3 x7 x9 x10 x12 x14 x16 x19 (x1 / x3) (lmd x1 x3) (x5 - ((x1 / x3) * x7))))))))) else (fX0_keepSimplest_L164 σ x9 x14 x16)))
def fX0_keepSimplest_L18 (σ : CS)   (x1 : Int64) (x3 : Int64) (x5 : Int64) (x7 : Int64) (x9 : Int32) (x10 : Int64) (x12 : Int64) (x14 : Int64) (x16 : Int64) (x18 : Int32) (x19 : Int32) : Option (Int32 × CS) := lp (fun k t => fX0_keepSimplest_B18 t.2.2.2.2.2.2.2.2.2.2.2   k t.1 t.2.1 t.2.2.1 t.2.2.2.1 t.2.2.2.2.1 t.2.2.2.2.2.1 t.2.2.2.2.2.2.1 t.2.2.2.2.2.2.2.1 t.2.2.2.2.2.2.2.2.1 t.2.2.2.2.2.2.2.2.2.1 t.2.2.2.2.2.2.2.2.2.2.1) FU (x1, x3, x5, x7, x9, x10, x12, x14, x16, x18, x19, σ)
set_option maxHeartbeats 4000000 in
set_option maxRecDepth 100000 in
theorem wX0_keepSimplest_B18 {p : Program} {l : Launch} {e : Env} {s : State} {m : MethodId} {args : Array Value} {below : List Frame} {meth : Method} {c : Code} {A : Nat → Prop} {D : va_G} {kc : Nat → ClassId} {q : Nat → Nat} {out : Int32 × CS} (C : cxt p s m args meth c RX0 cX0_keepSimplest 32 (some .int) wsX0_keepSimplest) (hA : ∀ x, s.heap.size ≤ x → A x) (hK : va_K D vwCl (tysX0 kc) s) (k18 : Int64 × Int64 × Int64 × Int64 × Int32 × Int64 × Int64 × Int64 × Int64 × Int32 × Int32 × CS → Option (Int32 × CS)) (hk18 : ∀ (x1 : Int64) (x3 : Int64) (x5 : Int64) (x7 : Int64) (x9 : Int32) (x10 : Int64) (x12 : Int64) (x14 : Int64) (x16 : Int64) (x18 : Int32) (x19 : Int32) (σ : CS) (H : Heap) (locs : List Loc) (ls : Array Slot), k18 (x1, x3, x5, x7, x9, x10, x12, x14, x16, x18, x19, σ) = some out → va_P D vwCl (wX0 kc q σ) H → va_D A (wX0 kc q σ) → va_S A s.heap H locs → lv_has ls 32 [(0, .ref (q 0)), (1, .long x1), (3, .long x3), (5, .long x5), (7, .long x7), (9, .int x9), (10, .long x10), (12, .long x12), (14, .long x14), (16, .long x16), (18, .int x18), (19, .int x19)] → W p l e rmX0_keepSimplest s m args below meth c H locs 0 0 (MQ below (QMi D (tysX0 kc) (wX0 kc q) A out) args s 0 0 A) (F0 m 18 ls [])) (σ : CS) (x1 : Int64) (x3 : Int64) (x5 : Int64) (x7 : Int64) (x9 : Int32) (x10 : Int64) (x12 : Int64) (x14 : Int64) (x16 : Int64) (x18 : Int32) (x19 : Int32) (H : Heap) (locs : List Loc) (ls : Array Slot) (h : fX0_keepSimplest_B18 σ   k18 x1 x3 x5 x7 x9 x10 x12 x14 x16 x18 x19 = some out) (hP : va_P D vwCl (wX0 kc q σ) H) (hD : va_D A (wX0 kc q σ)) (hS : va_S A s.heap H locs) (hl : lv_has ls 32 [(0, .ref (q 0)), (1, .long x1), (3, .long x3), (5, .long x5), (7, .long x7), (9, .int x9), (10, .long x10), (12, .long x12), (14, .long x14), (16, .long x16), (18, .int x18), (19, .int x19)]) : W p l e rmX0_keepSimplest s m args below meth c H locs 0 0 (MQ below (QMi D (tysX0 kc) (wX0 kc q) A out) args s 0 0 A) (F0 m 18 ls []) := by
  obtain ⟨hx, hb, hr, hml, hown, hts, hlocks⟩ := id C
  unfold fX0_keepSimplest_B18 at h
  refine lv_iload hx hb dX0_keepSimplest_18 (lv_at hl 11 rfl) ?_
  refine lv_sipush (v := (200 : Int32)) hx hb dX0_keepSimplest_20 (by decide) ?_
  refine lv_icmp_ge (tgt := 164) hx hb dX0_keepSimplest_23 (by decide) (fun c1 => ?_) (fun c1 => ?_)
  · replace h := br_p c1 h
    exact wX0_keepSimplest_L164 C hA hK  σ x9 x14 x16 H locs ls h hP hD hS (lv_sub hl [0, 5, 8, 9] rfl)
  · replace h := br_n c1 h
    refine lv_iload hx hb dX0_keepSimplest_26 (lv_at hl 10 rfl) ?_
    refine lv_if_ne (tgt := 164) hx hb dX0_keepSimplest_28 (by decide) (fun c2 => ?_) (fun c2 => ?_)
    · replace h := br_n c2 h
      exact wX0_keepSimplest_L164 C hA hK  σ x9 x14 x16 H locs ls h hP hD hS (lv_sub hl [0, 5, 8, 9] rfl)
    · replace h := br_p c2 h
      refine lv_lload_n hx hb dX0_keepSimplest_31 rfl (lv_at hl 2 rfl) ?_
      refine lv_lconst (v := (0 : Int64)) hx hb dX0_keepSimplest_32 (by decide) ?_
      refine xl_le (tgt := 164) hx hb dX0_keepSimplest_33 dX0_keepSimplest_34 (by decide) (fun c3 => ?_) (fun c3 => ?_)
      · replace h := br_p c3 h
        exact wX0_keepSimplest_L164 C hA hK  σ x9 x14 x16 H locs ls h hP hD hS (lv_sub hl [0, 5, 8, 9] rfl)
      · replace h := br_n c3 h
        refine lv_lload hx hb dX0_keepSimplest_37 (lv_at hl 4 rfl) ?_
        refine lv_lconst (v := (0 : Int64)) hx hb dX0_keepSimplest_39 (by decide) ?_
        refine xl_le (tgt := 164) hx hb dX0_keepSimplest_40 dX0_keepSimplest_41 (by decide) (fun c4 => ?_) (fun c4 => ?_)
        · replace h := br_p c4 h
          exact wX0_keepSimplest_L164 C hA hK  σ x9 x14 x16 H locs ls h hP hD hS (lv_sub hl [0, 5, 8, 9] rfl)
        · replace h := br_n c4 h
          refine lv_lload_n hx hb dX0_keepSimplest_44 rfl (lv_at hl 1 rfl) ?_
          refine lv_lload_n hx hb dX0_keepSimplest_45 rfl (lv_at hl 2 rfl) ?_
          obtain ⟨g5, h⟩ := gd_f h
          refine lv_ldiv hx hb dX0_keepSimplest_46 g5 ?_
          refine lv_lstore (lv' := [(20, .long (x1 / x3)), (0, .ref (q 0)), (1, .long x1), (3, .long x3), (5, .long x5), (7, .long x7), (9, .int x9), (10, .long x10), (12, .long x12), (14, .long x14), (16, .long x16), (18, .int x18), (19, .int x19)]) hx hb dX0_keepSimplest_47 hl (by decide) rfl (fun ls hl => ?_)
          refine lv_lload_n hx hb dX0_keepSimplest_49 rfl (lv_at hl 2 rfl) ?_
          refine lv_lload_n hx hb dX0_keepSimplest_50 rfl (lv_at hl 3 rfl) ?_
          obtain ⟨g6, h⟩ := gd_f h
          refine lv_lrem hx hb dX0_keepSimplest_51 g6 ?_
          refine lv_lstore (lv' := [(22, .long (lmd x1 x3)), (20, .long (x1 / x3)), (0, .ref (q 0)), (1, .long x1), (3, .long x3), (5, .long x5), (7, .long x7), (9, .int x9), (10, .long x10), (12, .long x12), (14, .long x14), (16, .long x16), (18, .int x18), (19, .int x19)]) hx hb dX0_keepSimplest_52 hl (by decide) rfl (fun ls hl => ?_)
          refine lv_lload hx hb dX0_keepSimplest_54 (lv_at hl 5 rfl) ?_
          refine lv_lload hx hb dX0_keepSimplest_56 (lv_at hl 1 rfl) ?_
          refine lv_lload hx hb dX0_keepSimplest_58 (lv_at hl 6 rfl) ?_
          refine lv_lmul hx hb dX0_keepSimplest_60 ?_
          refine lv_lsub hx hb dX0_keepSimplest_61 ?_
          refine lv_lstore (lv' := [(24, .long (x5 - ((x1 / x3) * x7))), (22, .long (lmd x1 x3)), (20, .long (x1 / x3)), (0, .ref (q 0)), (1, .long x1), (3, .long x3), (5, .long x5), (7, .long x7), (9, .int x9), (10, .long x10), (12, .long x12), (14, .long x14), (16, .long x16), (18, .int x18), (19, .int x19)]) hx hb dX0_keepSimplest_62 hl (by decide) rfl (fun ls hl => ?_)
          refine lv_lload hx hb dX0_keepSimplest_64 (lv_at hl 1 rfl) ?_
          refine lv_lconst (v := (0 : Int64)) hx hb dX0_keepSimplest_66 (by decide) ?_
          refine xl_eq (tgt := 79) hx hb dX0_keepSimplest_67 dX0_keepSimplest_68 (by decide) (fun c7 => ?_) (fun c7 => ?_)
          · replace h := br_p c7 h
            exact wX0_keepSimplest_L79 C hA hK k18 hk18 σ x3 x7 x9 x10 x12 x14 x16 x19 (x1 / x3) (lmd x1 x3) (x5 - ((x1 / x3) * x7)) H locs ls h hP hD hS (lv_sub hl [3, 5, 7, 8, 9, 10, 11, 12, 14, 2, 1, 0] rfl)
          · replace h := br_n c7 h
            refine lv_lload hx hb dX0_keepSimplest_71 (lv_at hl 0 rfl) ?_
            refine lv_lload hx hb dX0_keepSimplest_73 (lv_at hl 7 rfl) ?_
            refine xl_lt (tgt := 83) hx hb dX0_keepSimplest_75 dX0_keepSimplest_76 (by decide) (fun c8 => ?_) (fun c8 => ?_)
            · replace h := br_p c8 h
              refine lv_iconst (v := (0 : Int32)) hx hb dX0_keepSimplest_83 (by decide) ?_
              exact wX0_keepSimplest_L84 C hA hK k18 hk18 σ x3 x7 x9 x10 x12 x14 x16 x19 (x1 / x3) (lmd x1 x3) (x5 - ((x1 / x3) * x7)) (0 : Int32) H locs ls h hP hD hS (lv_sub hl [3, 5, 7, 8, 9, 10, 11, 12, 14, 2, 1, 0] rfl)
            · replace h := br_n c8 h
              exact wX0_keepSimplest_L79 C hA hK k18 hk18 σ x3 x7 x9 x10 x12 x14 x16 x19 (x1 / x3) (lmd x1 x3) (x5 - ((x1 / x3) * x7)) H locs ls h hP hD hS (lv_sub hl [3, 5, 7, 8, 9, 10, 11, 12, 14, 2, 1, 0] rfl)
set_option maxHeartbeats 4000000 in
set_option maxRecDepth 100000 in
theorem wX0_keepSimplest_L18 {p : Program} {l : Launch} {e : Env} {s : State} {m : MethodId} {args : Array Value} {below : List Frame} {meth : Method} {c : Code} {A : Nat → Prop} {D : va_G} {kc : Nat → ClassId} {q : Nat → Nat} {out : Int32 × CS} (C : cxt p s m args meth c RX0 cX0_keepSimplest 32 (some .int) wsX0_keepSimplest) (hA : ∀ x, s.heap.size ≤ x → A x) (hK : va_K D vwCl (tysX0 kc) s) (σ : CS) (x1 : Int64) (x3 : Int64) (x5 : Int64) (x7 : Int64) (x9 : Int32) (x10 : Int64) (x12 : Int64) (x14 : Int64) (x16 : Int64) (x18 : Int32) (x19 : Int32) (H : Heap) (locs : List Loc) (ls : Array Slot) (h : fX0_keepSimplest_L18 σ   x1 x3 x5 x7 x9 x10 x12 x14 x16 x18 x19 = some out) (hP : va_P D vwCl (wX0 kc q σ) H) (hD : va_D A (wX0 kc q σ)) (hS : va_S A s.heap H locs) (hl : lv_has ls 32 [(0, .ref (q 0)), (1, .long x1), (3, .long x3), (5, .long x5), (7, .long x7), (9, .int x9), (10, .long x10), (12, .long x12), (14, .long x14), (16, .long x16), (18, .int x18), (19, .int x19)]) : W p l e rmX0_keepSimplest s m args below meth c H locs 0 0 (MQ below (QMi D (tysX0 kc) (wX0 kc q) A out) args s 0 0 A) (F0 m 18 ls []) := by
  unfold fX0_keepSimplest_L18 at h
  exact lp_ind (P := fun t : Int64 × Int64 × Int64 × Int64 × Int32 × Int64 × Int64 × Int64 × Int64 × Int32 × Int32 × CS => ∀ (H : Heap) (locs : List Loc) (ls : Array Slot), va_P D vwCl (wX0 kc q t.2.2.2.2.2.2.2.2.2.2.2) H → va_D A (wX0 kc q t.2.2.2.2.2.2.2.2.2.2.2) → va_S A s.heap H locs → lv_has ls 32 [(0, .ref (q 0)), (1, .long t.1), (3, .long t.2.1), (5, .long t.2.2.1), (7, .long t.2.2.2.1), (9, .int t.2.2.2.2.1), (10, .long t.2.2.2.2.2.1), (12, .long t.2.2.2.2.2.2.1), (14, .long t.2.2.2.2.2.2.2.1), (16, .long t.2.2.2.2.2.2.2.2.1), (18, .int t.2.2.2.2.2.2.2.2.2.1), (19, .int t.2.2.2.2.2.2.2.2.2.2.1)] → W p l e rmX0_keepSimplest s m args below meth c H locs 0 0 (MQ below (QMi D (tysX0 kc) (wX0 kc q) A out) args s 0 0 A) (F0 m 18 ls [])) (fun k hk t h H locs ls hP hD hS hl => wX0_keepSimplest_B18 C hA hK  k (fun x1 x3 x5 x7 x9 x10 x12 x14 x16 x18 x19 σ H locs ls h hP hD hS hl => hk (x1, x3, x5, x7, x9, x10, x12, x14, x16, x18, x19, σ) h H locs ls hP hD hS hl) t.2.2.2.2.2.2.2.2.2.2.2 t.1 t.2.1 t.2.2.1 t.2.2.2.1 t.2.2.2.2.1 t.2.2.2.2.2.1 t.2.2.2.2.2.2.1 t.2.2.2.2.2.2.2.1 t.2.2.2.2.2.2.2.2.1 t.2.2.2.2.2.2.2.2.2.1 t.2.2.2.2.2.2.2.2.2.2.1 H locs ls h hP hD hS hl) FU (x1, x3, x5, x7, x9, x10, x12, x14, x16, x18, x19, σ) h H locs ls hP hD hS hl
def fX0_keepSimplest (σ : CS)  (x1 : Int64) (x3 : Int64) (x5 : Int64) (x7 : Int64) (x9 : Int32) : Option (Int32 × CS) := (fX0_keepSimplest_L18 σ x1 x3 x5 x7 x9 (0 : Int64) (1 : Int64) (1 : Int64) (0 : Int64) (0 : Int32) (0 : Int32))
set_option maxHeartbeats 4000000 in
set_option maxRecDepth 100000 in
theorem mX0_keepSimplest (l : Launch) (D : va_G) (kc : Nat → ClassId) (q : Nat → Nat) (σ : CS) (x1 : Int64) (x3 : Int64) (x5 : Int64) (x7 : Int64) (x9 : Int32) (out : Int32 × CS) (h : fX0_keepSimplest σ  x1 x3 x5 x7 x9 = some out) : MMi l yX0_keepSimplest wsX0_keepSimplest rmX0_keepSimplest D (tysX0 kc) (wX0 kc q) σ [.ref (q 0), .long x1, .long x3, .long x5, .long x7, .int x9] out := by
  refine ofMi (cc := cX0_keepSimplest) (maxL := 32) (ret := (some .int)) (lv := [(0, .ref (q 0)), (1, .long x1), (3, .long x3), (5, .long x5), (7, .long x7), (9, .int x9)]) (by decide) rfl (Nat.le_of_ble_eq_true rfl) rfl ?_
  intro p e s m args below meth c A C hA hK hP hD hS ls hl
  have C : cxt p s m args meth c RX0 cX0_keepSimplest 32 (some .int) wsX0_keepSimplest := C
  obtain ⟨hx, hb, hr, hml, hown, hts, hlocks⟩ := id C
  obtain ⟨H, hH⟩ : ∃ H, H = s.heap := ⟨_, rfl⟩
  obtain ⟨locs, hlocs⟩ : ∃ locs : List Loc, locs = [] := ⟨_, rfl⟩
  have hS : va_S A s.heap H locs := by rw [hH, hlocs]; exact va_S.rf
  rw [← hH] at hP
  suffices hW : W p l e rmX0_keepSimplest s m args below meth c H locs 0 0 _ (F0 m 0 ls []) by rw [hH, hlocs] at hW; exact hW
  unfold fX0_keepSimplest at h
  refine lv_lconst (v := (0 : Int64)) hx hb dX0_keepSimplest_0 (by decide) ?_
  refine lv_lstore (lv' := [(10, .long (0 : Int64)), (0, .ref (q 0)), (1, .long x1), (3, .long x3), (5, .long x5), (7, .long x7), (9, .int x9)]) hx hb dX0_keepSimplest_1 hl (by decide) rfl (fun ls hl => ?_)
  refine lv_lconst (v := (1 : Int64)) hx hb dX0_keepSimplest_3 (by decide) ?_
  refine lv_lstore (lv' := [(12, .long (1 : Int64)), (10, .long (0 : Int64)), (0, .ref (q 0)), (1, .long x1), (3, .long x3), (5, .long x5), (7, .long x7), (9, .int x9)]) hx hb dX0_keepSimplest_4 hl (by decide) rfl (fun ls hl => ?_)
  refine lv_lconst (v := (1 : Int64)) hx hb dX0_keepSimplest_6 (by decide) ?_
  refine lv_lstore (lv' := [(14, .long (1 : Int64)), (12, .long (1 : Int64)), (10, .long (0 : Int64)), (0, .ref (q 0)), (1, .long x1), (3, .long x3), (5, .long x5), (7, .long x7), (9, .int x9)]) hx hb dX0_keepSimplest_7 hl (by decide) rfl (fun ls hl => ?_)
  refine lv_lconst (v := (0 : Int64)) hx hb dX0_keepSimplest_9 (by decide) ?_
  refine lv_lstore (lv' := [(16, .long (0 : Int64)), (14, .long (1 : Int64)), (12, .long (1 : Int64)), (10, .long (0 : Int64)), (0, .ref (q 0)), (1, .long x1), (3, .long x3), (5, .long x5), (7, .long x7), (9, .int x9)]) hx hb dX0_keepSimplest_10 hl (by decide) rfl (fun ls hl => ?_)
  refine lv_iconst (v := (0 : Int32)) hx hb dX0_keepSimplest_12 (by decide) ?_
  refine lv_istore (lv' := [(18, .int (0 : Int32)), (16, .long (0 : Int64)), (14, .long (1 : Int64)), (12, .long (1 : Int64)), (10, .long (0 : Int64)), (0, .ref (q 0)), (1, .long x1), (3, .long x3), (5, .long x5), (7, .long x7), (9, .int x9)]) hx hb dX0_keepSimplest_13 hl (by decide) rfl (fun ls hl => ?_)
  refine lv_iconst (v := (0 : Int32)) hx hb dX0_keepSimplest_15 (by decide) ?_
  refine lv_istore (lv' := [(19, .int (0 : Int32)), (18, .int (0 : Int32)), (16, .long (0 : Int64)), (14, .long (1 : Int64)), (12, .long (1 : Int64)), (10, .long (0 : Int64)), (0, .ref (q 0)), (1, .long x1), (3, .long x3), (5, .long x5), (7, .long x7), (9, .int x9)]) hx hb dX0_keepSimplest_16 hl (by decide) rfl (fun ls hl => ?_)
  exact wX0_keepSimplest_L18 C hA hK  σ x1 x3 x5 x7 x9 (0 : Int64) (1 : Int64) (1 : Int64) (0 : Int64) (0 : Int32) (0 : Int32) H locs ls h hP hD hS (lv_sub hl [6, 7, 8, 9, 10, 11, 5, 4, 3, 2, 1, 0] rfl)
abbrev rmX0_simplest : Room := { frames := 4, cells := 0, slots := 0, locals := 187 }
theorem hinX0_simplest : ∀ w ∈ u_ws RX0 TX0 13, w ∈ wsX0_simplest := by first | exact fun _ h => List.mem_cons_of_mem _ (List.mem_append_right _ h) | exact fun _ h => List.mem_cons_of_mem _ (List.mem_append_left _ (List.mem_append_right _ h)) | decide +kernel
def fX0_simplest_L74 (σ : CS)   (x4 : Int32) (y0 : Int32) : Option (Int32 × CS) := (if ix x4 40 = true then (if ((c_above σ) x4.toNatClampNeg) ≤ (0 : Int64) then (if ix y0 40 = true then (if (0 : Int64) ≤ ((c_above σ) y0.toNatClampNeg) then ((fX0_keep σ (0 : Int64) (1 : Int64)).bind fun o5 => (some (o5.1, o5.2))) else (if ix y0 40 = true then (if ix y0 40 = true then (if ix x4 40 = true then (if ix x4 40 = true then ((fX0_keepSimplest σ (-((c_above σ) y0.toNatClampNeg)) ((c_below σ) y0.toNatClampNeg) (-((c_above σ) x4.toNatClampNeg)) ((c_below σ) x4.toNatClampNeg) (-1 : Int32)).bind fun o11 => (some (o11.1, o11.2))) else none) else none) else none) else none)) else none) else (if ix x4 40 = true then (if ix x4 40 = true then (if ix y0 40 = true then (if ix y0 40 = true then ((fX0_keepSimplest σ ((c_above σ) x4.toNatClampNeg) ((c_below σ) x4.toNatClampNeg) ((c_above σ) y0.toNatClampNeg) ((c_below σ) y0.toNatClampNeg) (1 : Int32)).bind fun o17 => (some (o17.1, o17.2))) else none) else none) else none) else none)) else none)
set_option maxHeartbeats 4000000 in
set_option maxRecDepth 100000 in
theorem wX0_simplest_L74 {p : Program} {l : Launch} {e : Env} {s : State} {m : MethodId} {args : Array Value} {below : List Frame} {meth : Method} {c : Code} {A : Nat → Prop} {D : va_G} {kc : Nat → ClassId} {q : Nat → Nat} {out : Int32 × CS} (C : cxt p s m args meth c RX0 cX0_simplest 6 (some .int) wsX0_simplest) (hA : ∀ x, s.heap.size ≤ x → A x) (hK : va_K D vwCl (tysX0 kc) s) (σ : CS) (x4 : Int32) (y0 : Int32) (H : Heap) (locs : List Loc) (ls : Array Slot) (h : fX0_simplest_L74 σ   x4 y0 = some out) (hP : va_P D vwCl (wX0 kc q σ) H) (hD : va_D A (wX0 kc q σ)) (hS : va_S A s.heap H locs) (hl : lv_has ls 6 [(0, .ref (q 0)), (4, .int x4)]) : W p l e rmX0_simplest s m args below meth c H locs 0 0 (MQ below (QMi D (tysX0 kc) (wX0 kc q) A out) args s 0 0 A) (F0 m 74 ls [.int y0]) := by
  obtain ⟨hx, hb, hr, hml, hown, hts, hlocks⟩ := id C
  unfold fX0_simplest_L74 at h
  refine lv_istore (lv' := [(5, .int y0), (0, .ref (q 0)), (4, .int x4)]) hx hb dX0_simplest_74 hl (by decide) rfl (fun ls hl => ?_)
  refine lv_aload_n hx hb dX0_simplest_76 rfl (lv_at hl 1 rfl) ?_
  refine rdX0_above hx hb hts hinX0_simplest hown hK hP (hts (.fieldLink RX0 11 "ExactShares" "above" "[J") (List.mem_of_getElem? (i := 1) rfl)) dX0_simplest_77 ?_
  refine lv_iload hx hb dX0_simplest_80 (lv_at hl 2 rfl) ?_
  obtain ⟨g1, h⟩ := gd_t h
  refine ldX0_above hx hb hK hP g1 dX0_simplest_82 ?_
  refine lv_lconst (v := (0 : Int64)) hx hb dX0_simplest_83 (by decide) ?_
  refine xl_le (tgt := 122) hx hb dX0_simplest_84 dX0_simplest_85 (by decide) (fun c2 => ?_) (fun c2 => ?_)
  · replace h := br_p c2 h
    refine lv_aload_n hx hb dX0_simplest_122 rfl (lv_at hl 1 rfl) ?_
    refine rdX0_above hx hb hts hinX0_simplest hown hK hP (hts (.fieldLink RX0 11 "ExactShares" "above" "[J") (List.mem_of_getElem? (i := 1) rfl)) dX0_simplest_123 ?_
    refine lv_iload hx hb dX0_simplest_126 (lv_at hl 0 rfl) ?_
    obtain ⟨g3, h⟩ := gd_t h
    refine ldX0_above hx hb hK hP g3 dX0_simplest_128 ?_
    refine lv_lconst (v := (0 : Int64)) hx hb dX0_simplest_129 (by decide) ?_
    refine xl_ge (tgt := 170) hx hb dX0_simplest_130 dX0_simplest_131 (by decide) (fun c4 => ?_) (fun c4 => ?_)
    · replace h := br_p c4 h
      refine lv_aload_n hx hb dX0_simplest_170 rfl (lv_at hl 1 rfl) ?_
      refine lv_lconst (v := (0 : Int64)) hx hb dX0_simplest_171 (by decide) ?_
      refine lv_lconst (v := (1 : Int64)) hx hb dX0_simplest_172 (by decide) ?_
      obtain ⟨o5, ho6, h⟩ := bi h
      refine caMi (q0 := 0) (As := [.long (0 : Int64), .long (1 : Int64)]) (rest := []) ⟨hx, hb, hml, hown, hts⟩ (mX0_keep l D kc q σ (0 : Int64) (1 : Int64) o5 ho6) (cwV 2 hts gX0_simplest_X0_keep rfl rfl rfl (by decide +kernel) ⟨Nat.le_of_ble_eq_true rfl, Nat.le_of_ble_eq_true rfl⟩) hK hP hD hS hA rfl rfl rfl rfl hl.1 (Nat.le_of_ble_eq_true rfl) dX0_simplest_173 ⟨Nat.zero_le _, Nat.zero_le _⟩ (fun H locs hP hD hS => ?_)
      exact reMi (v := o5.1) hx hb hr hlocks hK hP hD hS h dX0_simplest_176
    · replace h := br_n c4 h
      refine lv_aload_n hx hb dX0_simplest_134 rfl (lv_at hl 1 rfl) ?_
      refine lv_aload_n hx hb dX0_simplest_135 rfl (lv_at hl 1 rfl) ?_
      refine rdX0_above hx hb hts hinX0_simplest hown hK hP (hts (.fieldLink RX0 11 "ExactShares" "above" "[J") (List.mem_of_getElem? (i := 1) rfl)) dX0_simplest_136 ?_
      refine lv_iload hx hb dX0_simplest_139 (lv_at hl 0 rfl) ?_
      obtain ⟨g7, h⟩ := gd_t h
      refine ldX0_above hx hb hK hP g7 dX0_simplest_141 ?_
      refine lv_lneg hx hb dX0_simplest_142 ?_
      refine lv_aload_n hx hb dX0_simplest_143 rfl (lv_at hl 1 rfl) ?_
      refine rdX0_below hx hb hts hinX0_simplest hown hK hP (hts (.fieldLink RX0 15 "ExactShares" "below" "[J") (List.mem_of_getElem? (i := 2) rfl)) dX0_simplest_144 ?_
      refine lv_iload hx hb dX0_simplest_147 (lv_at hl 0 rfl) ?_
      obtain ⟨g8, h⟩ := gd_t h
      refine ldX0_below hx hb hK hP g8 dX0_simplest_149 ?_
      refine lv_aload_n hx hb dX0_simplest_150 rfl (lv_at hl 1 rfl) ?_
      refine rdX0_above hx hb hts hinX0_simplest hown hK hP (hts (.fieldLink RX0 11 "ExactShares" "above" "[J") (List.mem_of_getElem? (i := 1) rfl)) dX0_simplest_151 ?_
      refine lv_iload hx hb dX0_simplest_154 (lv_at hl 2 rfl) ?_
      obtain ⟨g9, h⟩ := gd_t h
      refine ldX0_above hx hb hK hP g9 dX0_simplest_156 ?_
      refine lv_lneg hx hb dX0_simplest_157 ?_
      refine lv_aload_n hx hb dX0_simplest_158 rfl (lv_at hl 1 rfl) ?_
      refine rdX0_below hx hb hts hinX0_simplest hown hK hP (hts (.fieldLink RX0 15 "ExactShares" "below" "[J") (List.mem_of_getElem? (i := 2) rfl)) dX0_simplest_159 ?_
      refine lv_iload hx hb dX0_simplest_162 (lv_at hl 2 rfl) ?_
      obtain ⟨g10, h⟩ := gd_t h
      refine ldX0_below hx hb hK hP g10 dX0_simplest_164 ?_
      refine lv_iconst (v := (-1 : Int32)) hx hb dX0_simplest_165 (by decide) ?_
      obtain ⟨o11, ho12, h⟩ := bi h
      refine caMi (q0 := 0) (As := [.long (-((c_above σ) y0.toNatClampNeg)), .long ((c_below σ) y0.toNatClampNeg), .long (-((c_above σ) x4.toNatClampNeg)), .long ((c_below σ) x4.toNatClampNeg), .int (-1 : Int32)]) (rest := []) ⟨hx, hb, hml, hown, hts⟩ (mX0_keepSimplest l D kc q σ (-((c_above σ) y0.toNatClampNeg)) ((c_below σ) y0.toNatClampNeg) (-((c_above σ) x4.toNatClampNeg)) ((c_below σ) x4.toNatClampNeg) (-1 : Int32) o11 ho12) (cwV 5 hts gX0_simplest_X0_keepSimplest rfl rfl rfl (by decide +kernel) ⟨Nat.le_of_ble_eq_true rfl, Nat.le_of_ble_eq_true rfl⟩) hK hP hD hS hA rfl rfl rfl rfl hl.1 (Nat.le_of_ble_eq_true rfl) dX0_simplest_166 ⟨Nat.zero_le _, Nat.zero_le _⟩ (fun H locs hP hD hS => ?_)
      exact reMi (v := o11.1) hx hb hr hlocks hK hP hD hS h dX0_simplest_169
  · replace h := br_n c2 h
    refine lv_aload_n hx hb dX0_simplest_88 rfl (lv_at hl 1 rfl) ?_
    refine lv_aload_n hx hb dX0_simplest_89 rfl (lv_at hl 1 rfl) ?_
    refine rdX0_above hx hb hts hinX0_simplest hown hK hP (hts (.fieldLink RX0 11 "ExactShares" "above" "[J") (List.mem_of_getElem? (i := 1) rfl)) dX0_simplest_90 ?_
    refine lv_iload hx hb dX0_simplest_93 (lv_at hl 2 rfl) ?_
    obtain ⟨g13, h⟩ := gd_t h
    refine ldX0_above hx hb hK hP g13 dX0_simplest_95 ?_
    refine lv_aload_n hx hb dX0_simplest_96 rfl (lv_at hl 1 rfl) ?_
    refine rdX0_below hx hb hts hinX0_simplest hown hK hP (hts (.fieldLink RX0 15 "ExactShares" "below" "[J") (List.mem_of_getElem? (i := 2) rfl)) dX0_simplest_97 ?_
    refine lv_iload hx hb dX0_simplest_100 (lv_at hl 2 rfl) ?_
    obtain ⟨g14, h⟩ := gd_t h
    refine ldX0_below hx hb hK hP g14 dX0_simplest_102 ?_
    refine lv_aload_n hx hb dX0_simplest_103 rfl (lv_at hl 1 rfl) ?_
    refine rdX0_above hx hb hts hinX0_simplest hown hK hP (hts (.fieldLink RX0 11 "ExactShares" "above" "[J") (List.mem_of_getElem? (i := 1) rfl)) dX0_simplest_104 ?_
    refine lv_iload hx hb dX0_simplest_107 (lv_at hl 0 rfl) ?_
    obtain ⟨g15, h⟩ := gd_t h
    refine ldX0_above hx hb hK hP g15 dX0_simplest_109 ?_
    refine lv_aload_n hx hb dX0_simplest_110 rfl (lv_at hl 1 rfl) ?_
    refine rdX0_below hx hb hts hinX0_simplest hown hK hP (hts (.fieldLink RX0 15 "ExactShares" "below" "[J") (List.mem_of_getElem? (i := 2) rfl)) dX0_simplest_111 ?_
    refine lv_iload hx hb dX0_simplest_114 (lv_at hl 0 rfl) ?_
    obtain ⟨g16, h⟩ := gd_t h
    refine ldX0_below hx hb hK hP g16 dX0_simplest_116 ?_
    refine lv_iconst (v := (1 : Int32)) hx hb dX0_simplest_117 (by decide) ?_
    obtain ⟨o17, ho18, h⟩ := bi h
    refine caMi (q0 := 0) (As := [.long ((c_above σ) x4.toNatClampNeg), .long ((c_below σ) x4.toNatClampNeg), .long ((c_above σ) y0.toNatClampNeg), .long ((c_below σ) y0.toNatClampNeg), .int (1 : Int32)]) (rest := []) ⟨hx, hb, hml, hown, hts⟩ (mX0_keepSimplest l D kc q σ ((c_above σ) x4.toNatClampNeg) ((c_below σ) x4.toNatClampNeg) ((c_above σ) y0.toNatClampNeg) ((c_below σ) y0.toNatClampNeg) (1 : Int32) o17 ho18) (cwV 5 hts gX0_simplest_X0_keepSimplest rfl rfl rfl (by decide +kernel) ⟨Nat.le_of_ble_eq_true rfl, Nat.le_of_ble_eq_true rfl⟩) hK hP hD hS hA rfl rfl rfl rfl hl.1 (Nat.le_of_ble_eq_true rfl) dX0_simplest_118 ⟨Nat.zero_le _, Nat.zero_le _⟩ (fun H locs hP hD hS => ?_)
    exact reMi (v := o17.1) hx hb hr hlocks hK hP hD hS h dX0_simplest_121
def fX0_simplest_L63 (σ : CS)   (x1 : Int32) (x2 : Int32) (x3 : Int32) (y0 : Int32) : Option (Int32 × CS) := (if x3 = (0 : Int32) then (fX0_simplest_L74 σ y0 x1) else (fX0_simplest_L74 σ y0 x2))
set_option maxHeartbeats 4000000 in
set_option maxRecDepth 100000 in
theorem wX0_simplest_L63 {p : Program} {l : Launch} {e : Env} {s : State} {m : MethodId} {args : Array Value} {below : List Frame} {meth : Method} {c : Code} {A : Nat → Prop} {D : va_G} {kc : Nat → ClassId} {q : Nat → Nat} {out : Int32 × CS} (C : cxt p s m args meth c RX0 cX0_simplest 6 (some .int) wsX0_simplest) (hA : ∀ x, s.heap.size ≤ x → A x) (hK : va_K D vwCl (tysX0 kc) s) (σ : CS) (x1 : Int32) (x2 : Int32) (x3 : Int32) (y0 : Int32) (H : Heap) (locs : List Loc) (ls : Array Slot) (h : fX0_simplest_L63 σ   x1 x2 x3 y0 = some out) (hP : va_P D vwCl (wX0 kc q σ) H) (hD : va_D A (wX0 kc q σ)) (hS : va_S A s.heap H locs) (hl : lv_has ls 6 [(0, .ref (q 0)), (1, .int x1), (2, .int x2), (3, .int x3)]) : W p l e rmX0_simplest s m args below meth c H locs 0 0 (MQ below (QMi D (tysX0 kc) (wX0 kc q) A out) args s 0 0 A) (F0 m 63 ls [.int y0]) := by
  obtain ⟨hx, hb, hr, hml, hown, hts, hlocks⟩ := id C
  unfold fX0_simplest_L63 at h
  refine lv_istore (lv' := [(4, .int y0), (0, .ref (q 0)), (1, .int x1), (2, .int x2), (3, .int x3)]) hx hb dX0_simplest_63 hl (by decide) rfl (fun ls hl => ?_)
  refine lv_iload_n hx hb dX0_simplest_65 rfl (lv_at hl 4 rfl) ?_
  refine lv_if_eq (tgt := 73) hx hb dX0_simplest_66 (by decide) (fun c1 => ?_) (fun c1 => ?_)
  · replace h := br_p c1 h
    refine lv_iload_n hx hb dX0_simplest_73 rfl (lv_at hl 2 rfl) ?_
    exact wX0_simplest_L74 C hA hK  σ y0 x1 H locs ls h hP hD hS (lv_sub hl [1, 0] rfl)
  · replace h := br_n c1 h
    refine lv_iload_n hx hb dX0_simplest_69 rfl (lv_at hl 3 rfl) ?_
    refine lv_goto (tgt := 74) hx hb dX0_simplest_70 (by decide) ?_
    exact wX0_simplest_L74 C hA hK  σ y0 x2 H locs ls h hP hD hS (lv_sub hl [1, 0] rfl)
def fX0_simplest_L53 (σ : CS)   (x1 : Int32) (x2 : Int32) (y0 : Int32) : Option (Int32 × CS) := (if y0 = (0 : Int32) then (fX0_simplest_L63 σ x1 x2 y0 x2) else (fX0_simplest_L63 σ x1 x2 y0 x1))
set_option maxHeartbeats 4000000 in
set_option maxRecDepth 100000 in
theorem wX0_simplest_L53 {p : Program} {l : Launch} {e : Env} {s : State} {m : MethodId} {args : Array Value} {below : List Frame} {meth : Method} {c : Code} {A : Nat → Prop} {D : va_G} {kc : Nat → ClassId} {q : Nat → Nat} {out : Int32 × CS} (C : cxt p s m args meth c RX0 cX0_simplest 6 (some .int) wsX0_simplest) (hA : ∀ x, s.heap.size ≤ x → A x) (hK : va_K D vwCl (tysX0 kc) s) (σ : CS) (x1 : Int32) (x2 : Int32) (y0 : Int32) (H : Heap) (locs : List Loc) (ls : Array Slot) (h : fX0_simplest_L53 σ   x1 x2 y0 = some out) (hP : va_P D vwCl (wX0 kc q σ) H) (hD : va_D A (wX0 kc q σ)) (hS : va_S A s.heap H locs) (hl : lv_has ls 6 [(0, .ref (q 0)), (1, .int x1), (2, .int x2)]) : W p l e rmX0_simplest s m args below meth c H locs 0 0 (MQ below (QMi D (tysX0 kc) (wX0 kc q) A out) args s 0 0 A) (F0 m 53 ls [.int y0]) := by
  obtain ⟨hx, hb, hr, hml, hown, hts, hlocks⟩ := id C
  unfold fX0_simplest_L53 at h
  refine lv_istore_n (lv' := [(3, .int y0), (0, .ref (q 0)), (1, .int x1), (2, .int x2)]) hx hb dX0_simplest_53 rfl hl (by decide) rfl (fun ls hl => ?_)
  refine lv_iload_n hx hb dX0_simplest_54 rfl (lv_at hl 0 rfl) ?_
  refine lv_if_eq (tgt := 62) hx hb dX0_simplest_55 (by decide) (fun c1 => ?_) (fun c1 => ?_)
  · replace h := br_p c1 h
    refine lv_iload_n hx hb dX0_simplest_62 rfl (lv_at hl 3 rfl) ?_
    exact wX0_simplest_L63 C hA hK  σ x1 x2 y0 x2 H locs ls h hP hD hS (lv_sub hl [1, 2, 3, 0] rfl)
  · replace h := br_n c1 h
    refine lv_iload_n hx hb dX0_simplest_58 rfl (lv_at hl 2 rfl) ?_
    refine lv_goto (tgt := 63) hx hb dX0_simplest_59 (by decide) ?_
    exact wX0_simplest_L63 C hA hK  σ x1 x2 y0 x1 H locs ls h hP hD hS (lv_sub hl [1, 2, 3, 0] rfl)
def fX0_simplest (σ : CS)  (x1 : Int32) (x2 : Int32) : Option (Int32 × CS) := ((fX0_isNumber σ x1).bind fun o1 => (if o1 = (0 : Int32) then (some ((-1 : Int32), σ)) else ((fX0_isNumber σ x2).bind fun o4 => (if o4 = (0 : Int32) then (some ((-1 : Int32), σ)) else (if ix x1 40 = true then (if ix x1 40 = true then (if ix x2 40 = true then (if ix x2 40 = true then ((fX0_compared ((c_above σ) x1.toNatClampNeg) ((c_below σ) x1.toNatClampNeg) ((c_above σ) x2.toNatClampNeg) ((c_below σ) x2.toNatClampNeg)).bind fun o11 => (if (0 : Int32) < o11 then (fX0_simplest_L53 σ x1 x2 (0 : Int32)) else (fX0_simplest_L53 σ x1 x2 (1 : Int32)))) else none) else none) else none) else none)))))
set_option maxHeartbeats 4000000 in
set_option maxRecDepth 100000 in
theorem mX0_simplest (l : Launch) (D : va_G) (kc : Nat → ClassId) (q : Nat → Nat) (σ : CS) (x1 : Int32) (x2 : Int32) (out : Int32 × CS) (h : fX0_simplest σ  x1 x2 = some out) : MMi l yX0_simplest wsX0_simplest rmX0_simplest D (tysX0 kc) (wX0 kc q) σ [.ref (q 0), .int x1, .int x2] out := by
  refine ofMi (cc := cX0_simplest) (maxL := 6) (ret := (some .int)) (lv := [(0, .ref (q 0)), (1, .int x1), (2, .int x2)]) (by decide) rfl (Nat.le_of_ble_eq_true rfl) rfl ?_
  intro p e s m args below meth c A C hA hK hP hD hS ls hl
  have C : cxt p s m args meth c RX0 cX0_simplest 6 (some .int) wsX0_simplest := C
  obtain ⟨hx, hb, hr, hml, hown, hts, hlocks⟩ := id C
  obtain ⟨H, hH⟩ : ∃ H, H = s.heap := ⟨_, rfl⟩
  obtain ⟨locs, hlocs⟩ : ∃ locs : List Loc, locs = [] := ⟨_, rfl⟩
  have hS : va_S A s.heap H locs := by rw [hH, hlocs]; exact va_S.rf
  rw [← hH] at hP
  suffices hW : W p l e rmX0_simplest s m args below meth c H locs 0 0 _ (F0 m 0 ls []) by rw [hH, hlocs] at hW; exact hW
  unfold fX0_simplest at h
  refine lv_aload_n hx hb dX0_simplest_0 rfl (lv_at hl 0 rfl) ?_
  refine lv_iload_n hx hb dX0_simplest_1 rfl (lv_at hl 1 rfl) ?_
  obtain ⟨o1, ho2, h⟩ := bi h
  refine caRi (q0 := 0) (As := [.int x1]) (rest := []) ⟨hx, hb, hml, hown, hts⟩ (mX0_isNumber l D kc q σ x1 o1 ho2) (cwV 1 hts gX0_simplest_X0_isNumber rfl rfl rfl (by decide +kernel) ⟨Nat.le_of_ble_eq_true rfl, Nat.le_of_ble_eq_true rfl⟩) hK hP rfl rfl rfl rfl hl.1 (Nat.le_of_ble_eq_true rfl) dX0_simplest_2 ⟨Nat.zero_le _, Nat.zero_le _⟩ ?_
  refine lv_if_eq (tgt := 16) hx hb dX0_simplest_5 (by decide) (fun c3 => ?_) (fun c3 => ?_)
  · replace h := br_p c3 h
    refine lv_iconst (v := (-1 : Int32)) hx hb dX0_simplest_16 (by decide) ?_
    exact reMi (v := (-1 : Int32)) hx hb hr hlocks hK hP hD hS h dX0_simplest_17
  · replace h := br_n c3 h
    refine lv_aload_n hx hb dX0_simplest_8 rfl (lv_at hl 0 rfl) ?_
    refine lv_iload_n hx hb dX0_simplest_9 rfl (lv_at hl 2 rfl) ?_
    obtain ⟨o4, ho5, h⟩ := bi h
    refine caRi (q0 := 0) (As := [.int x2]) (rest := []) ⟨hx, hb, hml, hown, hts⟩ (mX0_isNumber l D kc q σ x2 o4 ho5) (cwV 1 hts gX0_simplest_X0_isNumber rfl rfl rfl (by decide +kernel) ⟨Nat.le_of_ble_eq_true rfl, Nat.le_of_ble_eq_true rfl⟩) hK hP rfl rfl rfl rfl hl.1 (Nat.le_of_ble_eq_true rfl) dX0_simplest_10 ⟨Nat.zero_le _, Nat.zero_le _⟩ ?_
    refine lv_if_ne (tgt := 18) hx hb dX0_simplest_13 (by decide) (fun c6 => ?_) (fun c6 => ?_)
    · replace h := br_n c6 h
      refine lv_aload_n hx hb dX0_simplest_18 rfl (lv_at hl 0 rfl) ?_
      refine rdX0_above hx hb hts hinX0_simplest hown hK hP (hts (.fieldLink RX0 11 "ExactShares" "above" "[J") (List.mem_of_getElem? (i := 1) rfl)) dX0_simplest_19 ?_
      refine lv_iload_n hx hb dX0_simplest_22 rfl (lv_at hl 1 rfl) ?_
      obtain ⟨g7, h⟩ := gd_t h
      refine ldX0_above hx hb hK hP g7 dX0_simplest_23 ?_
      refine lv_aload_n hx hb dX0_simplest_24 rfl (lv_at hl 0 rfl) ?_
      refine rdX0_below hx hb hts hinX0_simplest hown hK hP (hts (.fieldLink RX0 15 "ExactShares" "below" "[J") (List.mem_of_getElem? (i := 2) rfl)) dX0_simplest_25 ?_
      refine lv_iload_n hx hb dX0_simplest_28 rfl (lv_at hl 1 rfl) ?_
      obtain ⟨g8, h⟩ := gd_t h
      refine ldX0_below hx hb hK hP g8 dX0_simplest_29 ?_
      refine lv_aload_n hx hb dX0_simplest_30 rfl (lv_at hl 0 rfl) ?_
      refine rdX0_above hx hb hts hinX0_simplest hown hK hP (hts (.fieldLink RX0 11 "ExactShares" "above" "[J") (List.mem_of_getElem? (i := 1) rfl)) dX0_simplest_31 ?_
      refine lv_iload_n hx hb dX0_simplest_34 rfl (lv_at hl 2 rfl) ?_
      obtain ⟨g9, h⟩ := gd_t h
      refine ldX0_above hx hb hK hP g9 dX0_simplest_35 ?_
      refine lv_aload_n hx hb dX0_simplest_36 rfl (lv_at hl 0 rfl) ?_
      refine rdX0_below hx hb hts hinX0_simplest hown hK hP (hts (.fieldLink RX0 15 "ExactShares" "below" "[J") (List.mem_of_getElem? (i := 2) rfl)) dX0_simplest_37 ?_
      refine lv_iload_n hx hb dX0_simplest_40 rfl (lv_at hl 2 rfl) ?_
      obtain ⟨g10, h⟩ := gd_t h
      refine ldX0_below hx hb hK hP g10 dX0_simplest_41 ?_
      obtain ⟨o11, ho12, h⟩ := bi h
      refine caPi (As := [.long ((c_above σ) x1.toNatClampNeg), .long ((c_below σ) x1.toNatClampNeg), .long ((c_above σ) x2.toNatClampNeg), .long ((c_below σ) x2.toNatClampNeg)]) (rest := []) ⟨hx, hb, hml, hown, hts⟩ (mX0_compared l ((c_above σ) x1.toNatClampNeg) ((c_below σ) x1.toNatClampNeg) ((c_above σ) x2.toNatClampNeg) ((c_below σ) x2.toNatClampNeg) o11 ho12) (va_cwS 4 hts gX0_simplest_X0_compared rfl rfl rfl (by decide +kernel) ⟨Nat.le_of_ble_eq_true rfl, Nat.le_of_ble_eq_true rfl⟩) rfl hl.1 (Nat.le_of_ble_eq_true rfl) dX0_simplest_42 ⟨Nat.zero_le _, Nat.zero_le _⟩ ?_
      refine lv_if_gt (tgt := 52) hx hb dX0_simplest_45 (by decide) (fun c13 => ?_) (fun c13 => ?_)
      · replace h := br_p c13 h
        refine lv_iconst (v := (0 : Int32)) hx hb dX0_simplest_52 (by decide) ?_
        exact wX0_simplest_L53 C hA hK  σ x1 x2 (0 : Int32) H locs ls h hP hD hS (lv_sub hl [0, 1, 2] rfl)
      · replace h := br_n c13 h
        refine lv_iconst (v := (1 : Int32)) hx hb dX0_simplest_48 (by decide) ?_
        refine lv_goto (tgt := 53) hx hb dX0_simplest_49 (by decide) ?_
        exact wX0_simplest_L53 C hA hK  σ x1 x2 (1 : Int32) H locs ls h hP hD hS (lv_sub hl [0, 1, 2] rfl)
    · replace h := br_p c6 h
      refine lv_iconst (v := (-1 : Int32)) hx hb dX0_simplest_16 (by decide) ?_
      exact reMi (v := (-1 : Int32)) hx hb hr hlocks hK hP hD hS h dX0_simplest_17
abbrev rmX0_stepsOf : Room := { frames := 1, cells := 0, slots := 0, locals := 80 }
def fX0_stepsOf_L13     : Option (Int64) := (some (0 : Int64))
set_option maxHeartbeats 4000000 in
set_option maxRecDepth 100000 in
theorem wX0_stepsOf_L13 {p : Program} {l : Launch} {e : Env} {s : State} {m : MethodId} {args : Array Value} {below : List Frame} {meth : Method} {c : Code} {out : Int64} (C : cxt p s m args meth c RX0 cX0_stepsOf 8 (some .long) wsX0_stepsOf)  (ls : Array Slot) (h : fX0_stepsOf_L13    = some out) (hl : lv_has ls 8 []) : W p l e rmX0_stepsOf s m args below meth c s.heap [] 0 0 (MQ below (QRl out) args s 0 0 (fun _ => False)) (F0 m 13 ls []) := by
  obtain ⟨hx, hb, hr, hml, hown, hts, hlocks⟩ := id C
  unfold fX0_stepsOf_L13 at h
  refine lv_lconst (v := (0 : Int64)) hx hb dX0_stepsOf_13 (by decide) ?_
  refine lv_goto (tgt := 28) hx hb dX0_stepsOf_14 (by decide) ?_
  exact reRl (v := (0 : Int64)) hx hb hr hlocks h dX0_stepsOf_28
def fX0_stepsOf  (x0 : Int64) (x2 : Int64) (x4 : Int64) (x6 : Int64) : Option (Int64) := (if x2 < (1 : Int64) then (fX0_stepsOf_L13 ) else (if (1 : Int64) ≤ x6 then (if x2 = (0 : Int64) then none else (if x6 = (0 : Int64) then none else (some (jmin (x0 / x2) (x4 / x6))))) else (fX0_stepsOf_L13 )))
set_option maxHeartbeats 4000000 in
set_option maxRecDepth 100000 in
theorem mX0_stepsOf (l : Launch) (x0 : Int64) (x2 : Int64) (x4 : Int64) (x6 : Int64) (out : Int64) (h : fX0_stepsOf  x0 x2 x4 x6 = some out) : MPl l yX0_stepsOf wsX0_stepsOf rmX0_stepsOf [.long x0, .long x2, .long x4, .long x6] out := by
  refine ofPl (cc := cX0_stepsOf) (maxL := 8) (ret := (some .long)) (lv := [(0, .long x0), (2, .long x2), (4, .long x4), (6, .long x6)]) (plainFor_of_name (by decide)) rfl (Nat.le_of_ble_eq_true rfl) rfl ?_
  intro p e s m args below meth c C ls hl
  have C : cxt p s m args meth c RX0 cX0_stepsOf 8 (some .long) wsX0_stepsOf := C
  obtain ⟨hx, hb, hr, hml, hown, hts, hlocks⟩ := id C
  unfold fX0_stepsOf at h
  refine lv_lload_n hx hb dX0_stepsOf_0 rfl (lv_at hl 1 rfl) ?_
  refine lv_lconst (v := (1 : Int64)) hx hb dX0_stepsOf_1 (by decide) ?_
  refine xl_lt (tgt := 13) hx hb dX0_stepsOf_2 dX0_stepsOf_3 (by decide) (fun c1 => ?_) (fun c1 => ?_)
  · replace h := br_p c1 h
    exact wX0_stepsOf_L13 C   ls h (lv_sub hl [] rfl)
  · replace h := br_n c1 h
    refine lv_lload hx hb dX0_stepsOf_6 (lv_at hl 3 rfl) ?_
    refine lv_lconst (v := (1 : Int64)) hx hb dX0_stepsOf_8 (by decide) ?_
    refine xl_ge (tgt := 17) hx hb dX0_stepsOf_9 dX0_stepsOf_10 (by decide) (fun c2 => ?_) (fun c2 => ?_)
    · replace h := br_p c2 h
      refine lv_lload_n hx hb dX0_stepsOf_17 rfl (lv_at hl 0 rfl) ?_
      refine lv_lload_n hx hb dX0_stepsOf_18 rfl (lv_at hl 1 rfl) ?_
      obtain ⟨g3, h⟩ := gd_f h
      refine lv_ldiv hx hb dX0_stepsOf_19 g3 ?_
      refine lv_lload hx hb dX0_stepsOf_20 (lv_at hl 2 rfl) ?_
      refine lv_lload hx hb dX0_stepsOf_22 (lv_at hl 3 rfl) ?_
      obtain ⟨g4, h⟩ := gd_f h
      refine lv_ldiv hx hb dX0_stepsOf_24 g4 ?_
      refine va_mmin_long hx hb (hml.trans hl.1.symm) hown (hts (.methodLink RX0 173 Lib.MathLoose.min_long.x) (List.mem_of_getElem? (i := 1) rfl)) (hts (.static Lib.MathLoose.min_long.x) (List.mem_of_getElem? (i := 2) rfl)) (hts (.initialized "java/lang/Math") (List.mem_of_getElem? (i := 3) rfl)) (hts (.code Lib.MathLoose.min_long.x Lib.MathLoose.min_long.code 4 (some .long)) (List.mem_of_getElem? (i := 4) rfl)) (Nat.le_of_ble_eq_true rfl) (Nat.le_of_ble_eq_true rfl) (Nat.zero_le _) (Nat.zero_le _) dX0_stepsOf_25 ?_
      exact reRl (v := (jmin (x0 / x2) (x4 / x6))) hx hb hr hlocks h dX0_stepsOf_28
    · replace h := br_n c2 h
      exact wX0_stepsOf_L13 C   ls h (lv_sub hl [] rfl)
