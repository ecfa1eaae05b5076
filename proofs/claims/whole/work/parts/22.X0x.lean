abbrev rmX0_over : Room := { frames := 8, cells := 1, slots := 6, locals := 214 }
theorem hinX0_over : ∀ w ∈ u_ws RX0 TX0 13, w ∈ wsX0_over := by first | exact fun _ h => List.mem_cons_of_mem _ (List.mem_append_right _ h) | exact fun _ h => List.mem_cons_of_mem _ (List.mem_append_left _ (List.mem_append_right _ h)) | decide +kernel
def fX0_over (σ : CS)  (x1 : Int32) (x2 : Int32) : Option (Option Int32 × CS) := ((fX0_isNumber σ x1).bind fun o1 => (if o1 = (0 : Int32) then (some (some (-1 : Int32), σ)) else ((fX0_isNumber σ x2).bind fun o4 => (if o4 = (0 : Int32) then (some (some (-1 : Int32), σ)) else ((fX0_isFull σ).bind fun o7 => (if o7 = (0 : Int32) then (if ix x2 40 = true then (if ((c_above σ) x2.toNatClampNeg) = (0 : Int64) then (some (none, σ)) else ((fX0_keepQuotient σ x1 x2).bind fun o12 => (some (some o12.1, o12.2)))) else none) else (some (some (-4 : Int32), σ))))))))
set_option maxHeartbeats 4000000 in
set_option maxRecDepth 100000 in
theorem mX0_over (l : Launch) (D : va_G) (kc : Nat → ClassId) (q : Nat → Nat) (σ : CS) (x1 : Int32) (x2 : Int32) (out : Option Int32 × CS) (h : fX0_over σ  x1 x2 = some out) : MXi l yX0_over wsX0_over rmX0_over D (tysX0 kc) (wX0 kc q) σ [.ref (q 0), .int x1, .int x2] out := by
  refine ofXi (cc := cX0_over) (maxL := 3) (ret := (some .int)) (lv := [(0, .ref (q 0)), (1, .int x1), (2, .int x2)]) (by decide) rfl (Nat.le_of_ble_eq_true rfl) rfl ?_
  intro p e s m args below meth c A C hA hZ hK hP hD hS ls hl
  have C : cxt p s m args meth c RX0 cX0_over 3 (some .int) wsX0_over := C
  obtain ⟨hx, hb, hr, hml, hown, hts, hlocks⟩ := id C
  obtain ⟨H, hH⟩ : ∃ H, H = s.heap := ⟨_, rfl⟩
  obtain ⟨locs, hlocs⟩ : ∃ locs : List Loc, locs = [] := ⟨_, rfl⟩
  have hS : va_S A s.heap H locs := by rw [hH, hlocs]; exact va_S.rf
  rw [← hH] at hP
  suffices hW : W p l e rmX0_over s m args below meth c H locs 0 0 _ (F0 m 0 ls []) by rw [hH, hlocs] at hW; exact hW
  unfold fX0_over at h
  refine lv_aload_n hx hb dX0_over_0 rfl (lv_at hl 0 rfl) ?_
  refine lv_iload_n hx hb dX0_over_1 rfl (lv_at hl 1 rfl) ?_
  obtain ⟨o1, ho2, h⟩ := bi h
  refine caRi (q0 := 0) (As := [.int x1]) (rest := []) ⟨hx, hb, hml, hown, hts⟩ (mX0_isNumber l D kc q σ x1 o1 ho2) (cwV 1 hts gX0_over_X0_isNumber rfl rfl rfl (by decide +kernel) ⟨Nat.le_of_ble_eq_true rfl, Nat.le_of_ble_eq_true rfl⟩) hK hP rfl rfl rfl rfl hl.1 (Nat.le_of_ble_eq_true rfl) dX0_over_2 ⟨Nat.zero_le _, Nat.zero_le _⟩ ?_
  refine lv_if_eq (tgt := 16) hx hb dX0_over_5 (by decide) (fun c3 => ?_) (fun c3 => ?_)
  · replace h := br_p c3 h
    refine lv_iconst (v := (-1 : Int32)) hx hb dX0_over_16 (by decide) ?_
    exact vx_ret (reMXi (v := (-1 : Int32)) hx hb hr hlocks hK hP hD hS h dX0_over_17)
  · replace h := br_n c3 h
    refine lv_aload_n hx hb dX0_over_8 rfl (lv_at hl 0 rfl) ?_
    refine lv_iload_n hx hb dX0_over_9 rfl (lv_at hl 2 rfl) ?_
    obtain ⟨o4, ho5, h⟩ := bi h
    refine caRi (q0 := 0) (As := [.int x2]) (rest := []) ⟨hx, hb, hml, hown, hts⟩ (mX0_isNumber l D kc q σ x2 o4 ho5) (cwV 1 hts gX0_over_X0_isNumber rfl rfl rfl (by decide +kernel) ⟨Nat.le_of_ble_eq_true rfl, Nat.le_of_ble_eq_true rfl⟩) hK hP rfl rfl rfl rfl hl.1 (Nat.le_of_ble_eq_true rfl) dX0_over_10 ⟨Nat.zero_le _, Nat.zero_le _⟩ ?_
    refine lv_if_ne (tgt := 18) hx hb dX0_over_13 (by decide) (fun c6 => ?_) (fun c6 => ?_)
    · replace h := br_n c6 h
      refine lv_aload_n hx hb dX0_over_18 rfl (lv_at hl 0 rfl) ?_
      obtain ⟨o7, ho8, h⟩ := bi h
      refine caRi (q0 := 0) (As := []) (rest := []) ⟨hx, hb, hml, hown, hts⟩ (mX0_isFull l D kc q σ  o7 ho8) (cwV 0 hts gX0_over_X0_isFull rfl rfl rfl (by decide +kernel) ⟨Nat.le_of_ble_eq_true rfl, Nat.le_of_ble_eq_true rfl⟩) hK hP rfl rfl rfl rfl hl.1 (Nat.le_of_ble_eq_true rfl) dX0_over_19 ⟨Nat.zero_le _, Nat.zero_le _⟩ ?_
      refine lv_if_eq (tgt := 28) hx hb dX0_over_22 (by decide) (fun c9 => ?_) (fun c9 => ?_)
      · replace h := br_p c9 h
        refine lv_aload_n hx hb dX0_over_28 rfl (lv_at hl 0 rfl) ?_
        refine rdX0_above hx hb hts hinX0_over hown hK hP (hts (.fieldLink RX0 11 "ExactShares" "above" "[J") (List.mem_of_getElem? (i := 3) rfl)) dX0_over_29 ?_
        refine lv_iload_n hx hb dX0_over_32 rfl (lv_at hl 2 rfl) ?_
        obtain ⟨g10, h⟩ := gd_t h
        refine ldX0_above hx hb hK hP g10 dX0_over_33 ?_
        refine lv_lconst (v := (0 : Int64)) hx hb dX0_over_34 (by decide) ?_
        refine xl_ne (tgt := 49) hx hb dX0_over_35 dX0_over_36 (by decide) (fun c11 => ?_) (fun c11 => ?_)
        · replace h := br_n c11 h
          refine lv_aload_n hx hb dX0_over_49 rfl (lv_at hl 0 rfl) ?_
          refine lv_iload_n hx hb dX0_over_50 rfl (lv_at hl 1 rfl) ?_
          refine lv_iload_n hx hb dX0_over_51 rfl (lv_at hl 2 rfl) ?_
          obtain ⟨o12, ho13, h⟩ := bi h
          refine caMi (q0 := 0) (As := [.int x1, .int x2]) (rest := []) ⟨hx, hb, hml, hown, hts⟩ (mX0_keepQuotient l D kc q σ x1 x2 o12 ho13) (cwV 2 hts gX0_over_X0_keepQuotient rfl rfl rfl (by decide +kernel) ⟨Nat.le_of_ble_eq_true rfl, Nat.le_of_ble_eq_true rfl⟩) hK hP hD hS hA rfl rfl rfl rfl hl.1 (Nat.le_of_ble_eq_true rfl) dX0_over_52 ⟨Nat.zero_le _, Nat.zero_le _⟩ (fun H locs hP hD hS => ?_)
          exact vx_ret (reMXi (v := o12.1) hx hb hr hlocks hK hP hD hS h dX0_over_55)
        · replace h := br_p c11 h
          obtain ⟨sa, hstr⟩ := hZ.1.2.2.2.1
          exact thX0 C hZ hstr (hts (.classLink RX0 61 "java/lang/ArithmeticException") (List.mem_of_getElem? (i := 1) rfl)) (hts (.initialized "java/lang/ArithmeticException") (List.mem_of_getElem? (i := 2) rfl)) (fun w hw => hts w (List.mem_cons_of_mem _ (List.mem_append_right _ hw))) hl.1 hK hP hD hS h dX0_over_39 dX0_over_42 dX0_over_43 dX0_over_45 dX0_over_48 (Nat.le_of_ble_eq_true rfl) (Nat.le_of_ble_eq_true rfl) (Nat.le_of_ble_eq_true rfl) (Nat.le_of_ble_eq_true rfl)
      · replace h := br_n c9 h
        refine lv_bipush (v := (-4 : Int32)) hx hb dX0_over_25 (by decide) ?_
        exact vx_ret (reMXi (v := (-4 : Int32)) hx hb hr hlocks hK hP hD hS h dX0_over_27)
    · replace h := br_p c6 h
      refine lv_iconst (v := (-1 : Int32)) hx hb dX0_over_16 (by decide) ?_
      exact vx_ret (reMXi (v := (-1 : Int32)) hx hb hr hlocks hK hP hD hS h dX0_over_17)
abbrev rmX0_share : Room := { frames := 8, cells := 1, slots := 6, locals := 140 }
theorem hinX0_share : ∀ w ∈ u_ws RX0 TX0 13, w ∈ wsX0_share := by first | exact fun _ h => List.mem_cons_of_mem _ (List.mem_append_right _ h) | exact fun _ h => List.mem_cons_of_mem _ (List.mem_append_left _ (List.mem_append_right _ h)) | decide +kernel
def fX0_share (σ : CS)  (x1 : Int32) (x2 : Int32) : Option (Option Int32 × CS) := ((fX0_isValue σ x1 x2).bind fun o1 => (if o1 = (0 : Int32) then (some (some (-1 : Int32), σ)) else ((fX0_isFull σ).bind fun o4 => (if o4 = (0 : Int32) then ((fX0_sumOf σ x1).bind fun o7 => (if o7 = (0 : Int64) then (some (none, σ)) else (if ix x1 4 = true then (if ix x2 8 = true then ((fX0_keep σ ((c_values σ) x1.toNatClampNeg x2.toNatClampNeg) o7).bind fun o12 => (some (some o12.1, o12.2))) else none) else none))) else (some (some (-4 : Int32), σ))))))
set_option maxHeartbeats 4000000 in
set_option maxRecDepth 100000 in
theorem mX0_share (l : Launch) (D : va_G) (kc : Nat → ClassId) (q : Nat → Nat) (σ : CS) (x1 : Int32) (x2 : Int32) (out : Option Int32 × CS) (h : fX0_share σ  x1 x2 = some out) : MXi l yX0_share wsX0_share rmX0_share D (tysX0 kc) (wX0 kc q) σ [.ref (q 0), .int x1, .int x2] out := by
  refine ofXi (cc := cX0_share) (maxL := 5) (ret := (some .int)) (lv := [(0, .ref (q 0)), (1, .int x1), (2, .int x2)]) (by decide) rfl (Nat.le_of_ble_eq_true rfl) rfl ?_
  intro p e s m args below meth c A C hA hZ hK hP hD hS ls hl
  have C : cxt p s m args meth c RX0 cX0_share 5 (some .int) wsX0_share := C
  obtain ⟨hx, hb, hr, hml, hown, hts, hlocks⟩ := id C
  obtain ⟨H, hH⟩ : ∃ H, H = s.heap := ⟨_, rfl⟩
  obtain ⟨locs, hlocs⟩ : ∃ locs : List Loc, locs = [] := ⟨_, rfl⟩
  have hS : va_S A s.heap H locs := by rw [hH, hlocs]; exact va_S.rf
  rw [← hH] at hP
  suffices hW : W p l e rmX0_share s m args below meth c H locs 0 0 _ (F0 m 0 ls []) by rw [hH, hlocs] at hW; exact hW
  unfold fX0_share at h
  refine lv_aload_n hx hb dX0_share_0 rfl (lv_at hl 0 rfl) ?_
  refine lv_iload_n hx hb dX0_share_1 rfl (lv_at hl 1 rfl) ?_
  refine lv_iload_n hx hb dX0_share_2 rfl (lv_at hl 2 rfl) ?_
  obtain ⟨o1, ho2, h⟩ := bi h
  refine caRi (q0 := 0) (As := [.int x1, .int x2]) (rest := []) ⟨hx, hb, hml, hown, hts⟩ (mX0_isValue l D kc q σ x1 x2 o1 ho2) (cwV 2 hts gX0_share_X0_isValue rfl rfl rfl (by decide +kernel) ⟨Nat.le_of_ble_eq_true rfl, Nat.le_of_ble_eq_true rfl⟩) hK hP rfl rfl rfl rfl hl.1 (Nat.le_of_ble_eq_true rfl) dX0_share_3 ⟨Nat.zero_le _, Nat.zero_le _⟩ ?_
  refine lv_if_ne (tgt := 11) hx hb dX0_share_6 (by decide) (fun c3 => ?_) (fun c3 => ?_)
  · replace h := br_n c3 h
    refine lv_aload_n hx hb dX0_share_11 rfl (lv_at hl 0 rfl) ?_
    obtain ⟨o4, ho5, h⟩ := bi h
    refine caRi (q0 := 0) (As := []) (rest := []) ⟨hx, hb, hml, hown, hts⟩ (mX0_isFull l D kc q σ  o4 ho5) (cwV 0 hts gX0_share_X0_isFull rfl rfl rfl (by decide +kernel) ⟨Nat.le_of_ble_eq_true rfl, Nat.le_of_ble_eq_true rfl⟩) hK hP rfl rfl rfl rfl hl.1 (Nat.le_of_ble_eq_true rfl) dX0_share_12 ⟨Nat.zero_le _, Nat.zero_le _⟩ ?_
    refine lv_if_eq (tgt := 21) hx hb dX0_share_15 (by decide) (fun c6 => ?_) (fun c6 => ?_)
    · replace h := br_p c6 h
      refine lv_aload_n hx hb dX0_share_21 rfl (lv_at hl 0 rfl) ?_
      refine lv_iload_n hx hb dX0_share_22 rfl (lv_at hl 1 rfl) ?_
      obtain ⟨o7, ho8, h⟩ := bi h
      refine caRl (q0 := 0) (As := [.int x1]) (rest := []) ⟨hx, hb, hml, hown, hts⟩ (mX0_sumOf l D kc q σ x1 o7 ho8) (cwV 1 hts gX0_share_X0_sumOf rfl rfl rfl (by decide +kernel) ⟨Nat.le_of_ble_eq_true rfl, Nat.le_of_ble_eq_true rfl⟩) hK hP rfl rfl rfl rfl hl.1 (Nat.le_of_ble_eq_true rfl) dX0_share_23 ⟨Nat.zero_le _, Nat.zero_le _⟩ ?_
      refine lv_lstore_n (lv' := [(3, .long o7), (0, .ref (q 0)), (1, .int x1), (2, .int x2)]) hx hb dX0_share_26 rfl hl (by decide) rfl (fun ls hl => ?_)
      refine lv_lload_n hx hb dX0_share_27 rfl (lv_at hl 0 rfl) ?_
      refine lv_lconst (v := (0 : Int64)) hx hb dX0_share_28 (by decide) ?_
      refine xl_ne (tgt := 43) hx hb dX0_share_29 dX0_share_30 (by decide) (fun c9 => ?_) (fun c9 => ?_)
      · replace h := br_n c9 h
        refine lv_aload_n hx hb dX0_share_43 rfl (lv_at hl 1 rfl) ?_
        refine lv_aload_n hx hb dX0_share_44 rfl (lv_at hl 1 rfl) ?_
        refine rdX0_values hx hb hts hinX0_share hown hK hP (hts (.fieldLink RX0 20 "ExactShares" "values" "[[J") (List.mem_of_getElem? (i := 3) rfl)) dX0_share_45 ?_
        refine lv_iload_n hx hb dX0_share_48 rfl (lv_at hl 2 rfl) ?_
        obtain ⟨g10, h⟩ := gd_t h
        refine ldX0_values hx hb hK hP g10 dX0_share_49 ?_
        refine lv_iload_n hx hb dX0_share_50 rfl (lv_at hl 3 rfl) ?_
        obtain ⟨g11, h⟩ := gd_t h
        refine ldX0_row hx hb hK hP (ix_lt g10) g11 dX0_share_51 ?_
        refine lv_lload_n hx hb dX0_share_52 rfl (lv_at hl 0 rfl) ?_
        obtain ⟨o12, ho13, h⟩ := bi h
        refine caMi (q0 := 0) (As := [.long ((c_values σ) x1.toNatClampNeg x2.toNatClampNeg), .long o7]) (rest := []) ⟨hx, hb, hml, hown, hts⟩ (mX0_keep l D kc q σ ((c_values σ) x1.toNatClampNeg x2.toNatClampNeg) o7 o12 ho13) (cwV 2 hts gX0_share_X0_keep rfl rfl rfl (by decide +kernel) ⟨Nat.le_of_ble_eq_true rfl, Nat.le_of_ble_eq_true rfl⟩) hK hP hD hS hA rfl rfl rfl rfl hl.1 (Nat.le_of_ble_eq_true rfl) dX0_share_53 ⟨Nat.zero_le _, Nat.zero_le _⟩ (fun H locs hP hD hS => ?_)
        exact vx_ret (reMXi (v := o12.1) hx hb hr hlocks hK hP hD hS h dX0_share_56)
      · replace h := br_p c9 h
        obtain ⟨sa, hstr⟩ := hZ.1.2.2.2.2.1
        exact thX0 C hZ hstr (hts (.classLink RX0 61 "java/lang/ArithmeticException") (List.mem_of_getElem? (i := 1) rfl)) (hts (.initialized "java/lang/ArithmeticException") (List.mem_of_getElem? (i := 2) rfl)) (fun w hw => hts w (List.mem_cons_of_mem _ (List.mem_append_right _ hw))) hl.1 hK hP hD hS h dX0_share_33 dX0_share_36 dX0_share_37 dX0_share_39 dX0_share_42 (Nat.le_of_ble_eq_true rfl) (Nat.le_of_ble_eq_true rfl) (Nat.le_of_ble_eq_true rfl) (Nat.le_of_ble_eq_true rfl)
    · replace h := br_n c6 h
      refine lv_bipush (v := (-4 : Int32)) hx hb dX0_share_18 (by decide) ?_
      exact vx_ret (reMXi (v := (-4 : Int32)) hx hb hr hlocks hK hP hD hS h dX0_share_20)
  · replace h := br_p c3 h
    refine lv_iconst (v := (-1 : Int32)) hx hb dX0_share_9 (by decide) ?_
    exact vx_ret (reMXi (v := (-1 : Int32)) hx hb hr hlocks hK hP hD hS h dX0_share_10)
