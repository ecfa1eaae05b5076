abbrev rmX1_over : Room := { frames := 5, cells := 0, slots := 0, locals := 137 }
theorem hinX1_over : ∀ w ∈ u_ws RX1 TX1 17, w ∈ wsX1_over := by first | exact fun _ h => List.mem_cons_of_mem _ (List.mem_append_right _ h) | exact fun _ h => List.mem_cons_of_mem _ (List.mem_append_left _ (List.mem_append_right _ h)) | decide +kernel
def fX1_over (σ : MS)  (x1 : Int32) (x2 : Int32) : Option (Int32 × MS) := (bd (sm_thrown σ (0 : Int32)) fun s1 => ((fX1_isNumber s1 x1).bind fun o3 => (if o3 = (0 : Int32) then (some ((-1 : Int32), s1)) else ((fX1_isNumber s1 x2).bind fun o6 => (if o6 = (0 : Int32) then (some ((-1 : Int32), s1)) else (if (m_numbers s1) = (40 : Int32) then (some ((-4 : Int32), s1)) else (if ix x2 41 = true then (if ((m_upper s1) x2.toNatClampNeg) = (0 : Int64) then (bd (sm_thrown s1 (1 : Int32)) fun s16 => (some ((0 : Int32), s16))) else (bd (sm_isWide s1 (0 : Int32)) fun s12 => ((fX1_divided s12 x1 x2).bind fun o14 => (some (o14.1, o14.2))))) else none)))))))
set_option maxHeartbeats 4000000 in
set_option maxRecDepth 100000 in
theorem mX1_over (l : Launch) (D : va_G) (kc : Nat → ClassId) (q : Nat → Nat) (σ : MS) (x1 : Int32) (x2 : Int32) (out : Int32 × MS) (h : fX1_over σ  x1 x2 = some out) : MMi l yX1_over wsX1_over rmX1_over D (tysX1 kc) (wX1 kc q) σ [.ref (q 0), .int x1, .int x2] out := by
  refine ofMi (cc := cX1_over) (maxL := 3) (ret := (some .int)) (lv := [(0, .ref (q 0)), (1, .int x1), (2, .int x2)]) (by decide) rfl (Nat.le_of_ble_eq_true rfl) rfl ?_
  intro p e s m args below meth c A C hA hK hP hD hS ls hl
  have C : cxt p s m args meth c RX1 cX1_over 3 (some .int) wsX1_over := C
  obtain ⟨hx, hb, hr, hml, hown, hts, hlocks⟩ := id C
  obtain ⟨H, hH⟩ : ∃ H, H = s.heap := ⟨_, rfl⟩
  obtain ⟨locs, hlocs⟩ : ∃ locs : List Loc, locs = [] := ⟨_, rfl⟩
  have hS : va_S A s.heap H locs := by rw [hH, hlocs]; exact va_S.rf
  rw [← hH] at hP
  suffices hW : W p l e rmX1_over s m args below meth c H locs 0 0 _ (F0 m 0 ls []) by rw [hH, hlocs] at hW; exact hW
  unfold fX1_over at h
  refine lv_aload_n hx hb dX1_over_0 rfl (lv_at hl 0 rfl) ?_
  refine lv_iconst (v := (0 : Int32)) hx hb dX1_over_1 (by decide) ?_
  refine wrX1_thrown (v := (0 : Int32)) hx hb hts hinX1_over hown hK hP hD hS (hts (.fieldLink RX1 43 "ExactSharesModel" "thrown" "I") (List.mem_of_getElem? (i := 1) rfl)) dX1_over_2 (fun H locs hP hD hS => ?_)
  obtain ⟨s1, e2, h⟩ := bd_e h
  replace hP : va_P D vwCl (wX1 kc q s1) H := by rw [e2]; exact hP
  replace hD : va_D A (wX1 kc q s1) := by rw [e2]; exact hD
  clear e2
  refine lv_aload_n hx hb dX1_over_5 rfl (lv_at hl 0 rfl) ?_
  refine lv_iload_n hx hb dX1_over_6 rfl (lv_at hl 1 rfl) ?_
  obtain ⟨o3, ho4, h⟩ := bi h
  refine caRi (q0 := 0) (As := [.int x1]) (rest := []) ⟨hx, hb, hml, hown, hts⟩ (mX1_isNumber l D kc q s1 x1 o3 ho4) (cwV 1 hts gX1_over_X1_isNumber rfl rfl rfl (by decide +kernel) ⟨Nat.le_of_ble_eq_true rfl, Nat.le_of_ble_eq_true rfl⟩) hK hP rfl rfl rfl rfl hl.1 (Nat.le_of_ble_eq_true rfl) dX1_over_7 ⟨Nat.zero_le _, Nat.zero_le _⟩ ?_
  refine lv_if_eq (tgt := 21) hx hb dX1_over_10 (by decide) (fun c5 => ?_) (fun c5 => ?_)
  · replace h := br_p c5 h
    refine lv_iconst (v := (-1 : Int32)) hx hb dX1_over_21 (by decide) ?_
    exact reMi (v := (-1 : Int32)) hx hb hr hlocks hK hP hD hS h dX1_over_22
  · replace h := br_n c5 h
    refine lv_aload_n hx hb dX1_over_13 rfl (lv_at hl 0 rfl) ?_
    refine lv_iload_n hx hb dX1_over_14 rfl (lv_at hl 2 rfl) ?_
    obtain ⟨o6, ho7, h⟩ := bi h
    refine caRi (q0 := 0) (As := [.int x2]) (rest := []) ⟨hx, hb, hml, hown, hts⟩ (mX1_isNumber l D kc q s1 x2 o6 ho7) (cwV 1 hts gX1_over_X1_isNumber rfl rfl rfl (by decide +kernel) ⟨Nat.le_of_ble_eq_true rfl, Nat.le_of_ble_eq_true rfl⟩) hK hP rfl rfl rfl rfl hl.1 (Nat.le_of_ble_eq_true rfl) dX1_over_15 ⟨Nat.zero_le _, Nat.zero_le _⟩ ?_
    refine lv_if_ne (tgt := 23) hx hb dX1_over_18 (by decide) (fun c8 => ?_) (fun c8 => ?_)
    · replace h := br_n c8 h
      refine lv_aload_n hx hb dX1_over_23 rfl (lv_at hl 0 rfl) ?_
      refine rdX1_numbers hx hb hts hinX1_over hown hK hP (hts (.fieldLink RX1 56 "ExactSharesModel" "numbers" "I") (List.mem_of_getElem? (i := 2) rfl)) dX1_over_24 ?_
      refine lv_bipush (v := (40 : Int32)) hx hb dX1_over_27 (by decide) ?_
      refine lv_icmp_ne (tgt := 35) hx hb dX1_over_29 (by decide) (fun c9 => ?_) (fun c9 => ?_)
      · replace h := br_n c9 h
        refine lv_aload_n hx hb dX1_over_35 rfl (lv_at hl 0 rfl) ?_
        refine rdX1_upper hx hb hts hinX1_over hown hK hP (hts (.fieldLink RX1 7 "ExactSharesModel" "upper" "[J") (List.mem_of_getElem? (i := 3) rfl)) dX1_over_36 ?_
        refine lv_iload_n hx hb dX1_over_39 rfl (lv_at hl 2 rfl) ?_
        obtain ⟨g10, h⟩ := gd_t h
        refine ldX1_upper hx hb hK hP g10 dX1_over_40 ?_
        refine lv_lconst (v := (0 : Int64)) hx hb dX1_over_41 (by decide) ?_
        refine xl_ne (tgt := 53) hx hb dX1_over_42 dX1_over_43 (by decide) (fun c11 => ?_) (fun c11 => ?_)
        · replace h := br_n c11 h
          refine lv_aload_n hx hb dX1_over_53 rfl (lv_at hl 0 rfl) ?_
          refine lv_iconst (v := (0 : Int32)) hx hb dX1_over_54 (by decide) ?_
          refine wrX1_isWide (v := (0 : Int32)) hx hb hts hinX1_over hown hK hP hD hS (hts (.fieldLink RX1 39 "ExactSharesModel" "isWide" "Z") (List.mem_of_getElem? (i := 4) rfl)) rfl rfl dX1_over_55 (fun H locs hP hD hS => ?_)
          obtain ⟨s12, e13, h⟩ := bd_e h
          replace hP : va_P D vwCl (wX1 kc q s12) H := by rw [e13]; exact hP
          replace hD : va_D A (wX1 kc q s12) := by rw [e13]; exact hD
          clear e13
          refine lv_aload_n hx hb dX1_over_58 rfl (lv_at hl 0 rfl) ?_
          refine lv_iload_n hx hb dX1_over_59 rfl (lv_at hl 1 rfl) ?_
          refine lv_iload_n hx hb dX1_over_60 rfl (lv_at hl 2 rfl) ?_
          obtain ⟨o14, ho15, h⟩ := bi h
          refine caMi (q0 := 0) (As := [.int x1, .int x2]) (rest := []) ⟨hx, hb, hml, hown, hts⟩ (mX1_divided l D kc q s12 x1 x2 o14 ho15) (cwV 2 hts gX1_over_X1_divided rfl rfl rfl (by decide +kernel) ⟨Nat.le_of_ble_eq_true rfl, Nat.le_of_ble_eq_true rfl⟩) hK hP hD hS hA rfl rfl rfl rfl hl.1 (Nat.le_of_ble_eq_true rfl) dX1_over_61 ⟨Nat.zero_le _, Nat.zero_le _⟩ (fun H locs hP hD hS => ?_)
          exact reMi (v := o14.1) hx hb hr hlocks hK hP hD hS h dX1_over_64
        · replace h := br_p c11 h
          refine lv_aload_n hx hb dX1_over_46 rfl (lv_at hl 0 rfl) ?_
          refine lv_iconst (v := (1 : Int32)) hx hb dX1_over_47 (by decide) ?_
          refine wrX1_thrown (v := (1 : Int32)) hx hb hts hinX1_over hown hK hP hD hS (hts (.fieldLink RX1 43 "ExactSharesModel" "thrown" "I") (List.mem_of_getElem? (i := 1) rfl)) dX1_over_48 (fun H locs hP hD hS => ?_)
          obtain ⟨s16, e17, h⟩ := bd_e h
          replace hP : va_P D vwCl (wX1 kc q s16) H := by rw [e17]; exact hP
          replace hD : va_D A (wX1 kc q s16) := by rw [e17]; exact hD
          clear e17
          refine lv_iconst (v := (0 : Int32)) hx hb dX1_over_51 (by decide) ?_
          exact reMi (v := (0 : Int32)) hx hb hr hlocks hK hP hD hS h dX1_over_52
      · replace h := br_p c9 h
        refine lv_bipush (v := (-4 : Int32)) hx hb dX1_over_32 (by decide) ?_
        exact reMi (v := (-4 : Int32)) hx hb hr hlocks hK hP hD hS h dX1_over_34
    · replace h := br_p c8 h
      refine lv_iconst (v := (-1 : Int32)) hx hb dX1_over_21 (by decide) ?_
      exact reMi (v := (-1 : Int32)) hx hb hr hlocks hK hP hD hS h dX1_over_22
abbrev rmX1_drop : Room := { frames := 0, cells := 0, slots := 0, locals := 0 }
theorem hinX1_drop : ∀ w ∈ u_ws RX1 TX1 17, w ∈ wsX1_drop := by first | exact fun _ h => List.mem_cons_of_mem _ (List.mem_append_right _ h) | exact fun _ h => List.mem_cons_of_mem _ (List.mem_append_left _ (List.mem_append_right _ h)) | decide +kernel
def fX1_drop (σ : MS)   : Option (Int32 × MS) := (bd (sm_thrown σ (0 : Int32)) fun s1 => (if (m_numbers s1) = (0 : Int32) then (some ((-5 : Int32), s1)) else (bd (sm_numbers s1 ((m_numbers s1) - (1 : Int32))) fun s4 => (some ((m_numbers s4), s4)))))
set_option maxHeartbeats 4000000 in
set_option maxRecDepth 100000 in
theorem mX1_drop (l : Launch) (D : va_G) (kc : Nat → ClassId) (q : Nat → Nat) (σ : MS)  (out : Int32 × MS) (h : fX1_drop σ   = some out) : MMi l yX1_drop wsX1_drop rmX1_drop D (tysX1 kc) (wX1 kc q) σ [.ref (q 0)] out := by
  refine ofMi (cc := cX1_drop) (maxL := 1) (ret := (some .int)) (lv := [(0, .ref (q 0))]) (by decide) rfl (Nat.le_of_ble_eq_true rfl) rfl ?_
  intro p e s m args below meth c A C hA hK hP hD hS ls hl
  have C : cxt p s m args meth c RX1 cX1_drop 1 (some .int) wsX1_drop := C
  obtain ⟨hx, hb, hr, hml, hown, hts, hlocks⟩ := id C
  obtain ⟨H, hH⟩ : ∃ H, H = s.heap := ⟨_, rfl⟩
  obtain ⟨locs, hlocs⟩ : ∃ locs : List Loc, locs = [] := ⟨_, rfl⟩
  have hS : va_S A s.heap H locs := by rw [hH, hlocs]; exact va_S.rf
  rw [← hH] at hP
  suffices hW : W p l e rmX1_drop s m args below meth c H locs 0 0 _ (F0 m 0 ls []) by rw [hH, hlocs] at hW; exact hW
  unfold fX1_drop at h
  refine lv_aload_n hx hb dX1_drop_0 rfl (lv_at hl 0 rfl) ?_
  refine lv_iconst (v := (0 : Int32)) hx hb dX1_drop_1 (by decide) ?_
  refine wrX1_thrown (v := (0 : Int32)) hx hb hts hinX1_drop hown hK hP hD hS (hts (.fieldLink RX1 43 "ExactSharesModel" "thrown" "I") (List.mem_of_getElem? (i := 1) rfl)) dX1_drop_2 (fun H locs hP hD hS => ?_)
  obtain ⟨s1, e2, h⟩ := bd_e h
  replace hP : va_P D vwCl (wX1 kc q s1) H := by rw [e2]; exact hP
  replace hD : va_D A (wX1 kc q s1) := by rw [e2]; exact hD
  clear e2
  refine lv_aload_n hx hb dX1_drop_5 rfl (lv_at hl 0 rfl) ?_
  refine rdX1_numbers hx hb hts hinX1_drop hown hK hP (hts (.fieldLink RX1 56 "ExactSharesModel" "numbers" "I") (List.mem_of_getElem? (i := 2) rfl)) dX1_drop_6 ?_
  refine lv_if_ne (tgt := 15) hx hb dX1_drop_9 (by decide) (fun c3 => ?_) (fun c3 => ?_)
  · replace h := br_n c3 h
    refine lv_aload_n hx hb dX1_drop_15 rfl (lv_at hl 0 rfl) ?_
    refine lv_dup hx hb dX1_drop_16 rfl ?_
    refine rdX1_numbers hx hb hts hinX1_drop hown hK hP (hts (.fieldLink RX1 56 "ExactSharesModel" "numbers" "I") (List.mem_of_getElem? (i := 2) rfl)) dX1_drop_17 ?_
    refine lv_iconst (v := (1 : Int32)) hx hb dX1_drop_20 (by decide) ?_
    refine lv_isub hx hb dX1_drop_21 ?_
    refine wrX1_numbers (v := ((m_numbers s1) - (1 : Int32))) hx hb hts hinX1_drop hown hK hP hD hS (hts (.fieldLink RX1 56 "ExactSharesModel" "numbers" "I") (List.mem_of_getElem? (i := 2) rfl)) dX1_drop_22 (fun H locs hP hD hS => ?_)
    obtain ⟨s4, e5, h⟩ := bd_e h
    replace hP : va_P D vwCl (wX1 kc q s4) H := by rw [e5]; exact hP
    replace hD : va_D A (wX1 kc q s4) := by rw [e5]; exact hD
    clear e5
    refine lv_aload_n hx hb dX1_drop_25 rfl (lv_at hl 0 rfl) ?_
    refine rdX1_numbers hx hb hts hinX1_drop hown hK hP (hts (.fieldLink RX1 56 "ExactSharesModel" "numbers" "I") (List.mem_of_getElem? (i := 2) rfl)) dX1_drop_26 ?_
    exact reMi (v := (m_numbers s4)) hx hb hr hlocks hK hP hD hS h dX1_drop_29
  · replace h := br_p c3 h
    refine lv_bipush (v := (-5 : Int32)) hx hb dX1_drop_12 (by decide) ?_
    exact reMi (v := (-5 : Int32)) hx hb hr hlocks hK hP hD hS h dX1_drop_14
abbrev rmX1_ordered : Room := { frames := 1, cells := 0, slots := 0, locals := 30 }
theorem hinX1_ordered : ∀ w ∈ u_ws RX1 TX1 17, w ∈ wsX1_ordered := by first | exact fun _ h => List.mem_cons_of_mem _ (List.mem_append_right _ h) | exact fun _ h => List.mem_cons_of_mem _ (List.mem_append_left _ (List.mem_append_right _ h)) | decide +kernel
def fX1_ordered_L33 (σ : MS)   (x1 : Int32) (x2 : Int32) (x3 : Int32) (y0 : Int32) : Option (Int32 × MS) := (if x3 = y0 then (if ix x1 41 = true then ((fX1_sizeOf ((m_upper σ) x1.toNatClampNeg)).bind fun o3 => (if ix x2 41 = true then (if ix x2 41 = true then ((fX1_sizeOf ((m_upper σ) x2.toNatClampNeg)).bind fun o7 => (if ix x1 41 = true then ((fX1_compared σ o3 ((m_lower σ) x2.toNatClampNeg) o7 ((m_lower σ) x1.toNatClampNeg)).bind fun o10 => (if x3 = (0 : Int32) then (some (o10.1, o10.2)) else (some ((-o10.1), o10.2)))) else none)) else none) else none)) else none) else (if x3 = (0 : Int32) then (some ((1 : Int32), σ)) else (some ((-1 : Int32), σ))))
set_option maxHeartbeats 4000000 in
set_option maxRecDepth 100000 in
theorem wX1_ordered_L33 {p : Program} {l : Launch} {e : Env} {s : State} {m : MethodId} {args : Array Value} {below : List Frame} {meth : Method} {c : Code} {A : Nat → Prop} {D : va_G} {kc : Nat → ClassId} {q : Nat → Nat} {out : Int32 × MS} (C : cxt p s m args meth c RX1 cX1_ordered 6 (some .int) wsX1_ordered) (hA : ∀ x, s.heap.size ≤ x → A x) (hK : va_K D vwCl (tysX1 kc) s) (σ : MS) (x1 : Int32) (x2 : Int32) (x3 : Int32) (y0 : Int32) (H : Heap) (locs : List Loc) (ls : Array Slot) (h : fX1_ordered_L33 σ   x1 x2 x3 y0 = some out) (hP : va_P D vwCl (wX1 kc q σ) H) (hD : va_D A (wX1 kc q σ)) (hS : va_S A s.heap H locs) (hl : lv_has ls 6 [(0, .ref (q 0)), (1, .int x1), (2, .int x2), (3, .int x3)]) : W p l e rmX1_ordered s m args below meth c H locs 0 0 (MQ below (QMi D (tysX1 kc) (wX1 kc q) A out) args s 0 0 A) (F0 m 33 ls [.int y0]) := by
  obtain ⟨hx, hb, hr, hml, hown, hts, hlocks⟩ := id C
  unfold fX1_ordered_L33 at h
  refine lv_istore (lv' := [(4, .int y0), (0, .ref (q 0)), (1, .int x1), (2, .int x2), (3, .int x3)]) hx hb dX1_ordered_33 hl (by decide) rfl (fun ls hl => ?_)
  refine lv_iload_n hx hb dX1_ordered_35 rfl (lv_at hl 4 rfl) ?_
  refine lv_iload hx hb dX1_ordered_36 (lv_at hl 0 rfl) ?_
  refine lv_icmp_eq (tgt := 51) hx hb dX1_ordered_38 (by decide) (fun c1 => ?_) (fun c1 => ?_)
  · replace h := br_p c1 h
    refine lv_aload_n hx hb dX1_ordered_51 rfl (lv_at hl 1 rfl) ?_
    refine lv_aload_n hx hb dX1_ordered_52 rfl (lv_at hl 1 rfl) ?_
    refine rdX1_upper hx hb hts hinX1_ordered hown hK hP (hts (.fieldLink RX1 7 "ExactSharesModel" "upper" "[J") (List.mem_of_getElem? (i := 1) rfl)) dX1_ordered_53 ?_
    refine lv_iload_n hx hb dX1_ordered_56 rfl (lv_at hl 2 rfl) ?_
    obtain ⟨g2, h⟩ := gd_t h
    refine ldX1_upper hx hb hK hP g2 dX1_ordered_57 ?_
    obtain ⟨o3, ho4, h⟩ := bi h
    refine caPl (As := [.long ((m_upper σ) x1.toNatClampNeg)]) (rest := [.ref (q 0)]) ⟨hx, hb, hml, hown, hts⟩ (mX1_sizeOf l ((m_upper σ) x1.toNatClampNeg) o3 ho4) (va_cwS 1 hts gX1_ordered_X1_sizeOf rfl rfl rfl (by decide +kernel) ⟨Nat.le_of_ble_eq_true rfl, Nat.le_of_ble_eq_true rfl⟩) rfl hl.1 (Nat.le_of_ble_eq_true rfl) dX1_ordered_58 ⟨Nat.zero_le _, Nat.zero_le _⟩ ?_
    refine lv_aload_n hx hb dX1_ordered_61 rfl (lv_at hl 1 rfl) ?_
    refine rdX1_lower hx hb hts hinX1_ordered hown hK hP (hts (.fieldLink RX1 13 "ExactSharesModel" "lower" "[J") (List.mem_of_getElem? (i := 2) rfl)) dX1_ordered_62 ?_
    refine lv_iload_n hx hb dX1_ordered_65 rfl (lv_at hl 3 rfl) ?_
    obtain ⟨g5, h⟩ := gd_t h
    refine ldX1_lower hx hb hK hP g5 dX1_ordered_66 ?_
    refine lv_aload_n hx hb dX1_ordered_67 rfl (lv_at hl 1 rfl) ?_
    refine rdX1_upper hx hb hts hinX1_ordered hown hK hP (hts (.fieldLink RX1 7 "ExactSharesModel" "upper" "[J") (List.mem_of_getElem? (i := 1) rfl)) dX1_ordered_68 ?_
    refine lv_iload_n hx hb dX1_ordered_71 rfl (lv_at hl 3 rfl) ?_
    obtain ⟨g6, h⟩ := gd_t h
    refine ldX1_upper hx hb hK hP g6 dX1_ordered_72 ?_
    obtain ⟨o7, ho8, h⟩ := bi h
    refine caPl (As := [.long ((m_upper σ) x2.toNatClampNeg)]) (rest := [.long ((m_lower σ) x2.toNatClampNeg), .long o3, .ref (q 0)]) ⟨hx, hb, hml, hown, hts⟩ (mX1_sizeOf l ((m_upper σ) x2.toNatClampNeg) o7 ho8) (va_cwS 1 hts gX1_ordered_X1_sizeOf rfl rfl rfl (by decide +kernel) ⟨Nat.le_of_ble_eq_true rfl, Nat.le_of_ble_eq_true rfl⟩) rfl hl.1 (Nat.le_of_ble_eq_true rfl) dX1_ordered_73 ⟨Nat.zero_le _, Nat.zero_le _⟩ ?_
    refine lv_aload_n hx hb dX1_ordered_76 rfl (lv_at hl 1 rfl) ?_
    refine rdX1_lower hx hb hts hinX1_ordered hown hK hP (hts (.fieldLink RX1 13 "ExactSharesModel" "lower" "[J") (List.mem_of_getElem? (i := 2) rfl)) dX1_ordered_77 ?_
    refine lv_iload_n hx hb dX1_ordered_80 rfl (lv_at hl 2 rfl) ?_
    obtain ⟨g9, h⟩ := gd_t h
    refine ldX1_lower hx hb hK hP g9 dX1_ordered_81 ?_
    obtain ⟨o10, ho11, h⟩ := bi h
    refine caMi (q0 := 0) (As := [.long o3, .long ((m_lower σ) x2.toNatClampNeg), .long o7, .long ((m_lower σ) x1.toNatClampNeg)]) (rest := []) ⟨hx, hb, hml, hown, hts⟩ (mX1_compared l D kc q σ o3 ((m_lower σ) x2.toNatClampNeg) o7 ((m_lower σ) x1.toNatClampNeg) o10 ho11) (cwV 4 hts gX1_ordered_X1_compared rfl rfl rfl (by decide +kernel) ⟨Nat.le_of_ble_eq_true rfl, Nat.le_of_ble_eq_true rfl⟩) hK hP hD hS hA rfl rfl rfl rfl hl.1 (Nat.le_of_ble_eq_true rfl) dX1_ordered_82 ⟨Nat.zero_le _, Nat.zero_le _⟩ (fun H locs hP hD hS => ?_)
    refine lv_istore (lv' := [(5, .int o10.1), (4, .int y0), (0, .ref (q 0)), (1, .int x1), (2, .int x2), (3, .int x3)]) hx hb dX1_ordered_85 hl (by decide) rfl (fun ls hl => ?_)
    refine lv_iload_n hx hb dX1_ordered_87 rfl (lv_at hl 5 rfl) ?_
    refine lv_if_eq (tgt := 97) hx hb dX1_ordered_88 (by decide) (fun c12 => ?_) (fun c12 => ?_)
    · replace h := br_p c12 h
      refine lv_iload hx hb dX1_ordered_97 (lv_at hl 0 rfl) ?_
      exact reMi (v := o10.1) hx hb hr hlocks hK hP hD hS h dX1_ordered_99
    · replace h := br_n c12 h
      refine lv_iload hx hb dX1_ordered_91 (lv_at hl 0 rfl) ?_
      refine lv_ineg hx hb dX1_ordered_93 ?_
      refine lv_goto (tgt := 99) hx hb dX1_ordered_94 (by decide) ?_
      exact reMi (v := (-o10.1)) hx hb hr hlocks hK hP hD hS h dX1_ordered_99
  · replace h := br_n c1 h
    refine lv_iload_n hx hb dX1_ordered_41 rfl (lv_at hl 4 rfl) ?_
    refine lv_if_eq (tgt := 49) hx hb dX1_ordered_42 (by decide) (fun c13 => ?_) (fun c13 => ?_)
    · replace h := br_p c13 h
      refine lv_iconst (v := (1 : Int32)) hx hb dX1_ordered_49 (by decide) ?_
      exact reMi (v := (1 : Int32)) hx hb hr hlocks hK hP hD hS h dX1_ordered_50
    · replace h := br_n c13 h
      refine lv_iconst (v := (-1 : Int32)) hx hb dX1_ordered_45 (by decide) ?_
      refine lv_goto (tgt := 50) hx hb dX1_ordered_46 (by decide) ?_
      exact reMi (v := (-1 : Int32)) hx hb hr hlocks hK hP hD hS h dX1_ordered_50
def fX1_ordered_L16 (σ : MS)   (x1 : Int32) (x2 : Int32) (y0 : Int32) : Option (Int32 × MS) := (if ix x2 41 = true then (if (0 : Int64) ≤ ((m_upper σ) x2.toNatClampNeg) then (fX1_ordered_L33 σ x1 x2 y0 (0 : Int32)) else (fX1_ordered_L33 σ x1 x2 y0 (1 : Int32))) else none)
set_option maxHeartbeats 4000000 in
set_option maxRecDepth 100000 in
theorem wX1_ordered_L16 {p : Program} {l : Launch} {e : Env} {s : State} {m : MethodId} {args : Array Value} {below : List Frame} {meth : Method} {c : Code} {A : Nat → Prop} {D : va_G} {kc : Nat → ClassId} {q : Nat → Nat} {out : Int32 × MS} (C : cxt p s m args meth c RX1 cX1_ordered 6 (some .int) wsX1_ordered) (hA : ∀ x, s.heap.size ≤ x → A x) (hK : va_K D vwCl (tysX1 kc) s) (σ : MS) (x1 : Int32) (x2 : Int32) (y0 : Int32) (H : Heap) (locs : List Loc) (ls : Array Slot) (h : fX1_ordered_L16 σ   x1 x2 y0 = some out) (hP : va_P D vwCl (wX1 kc q σ) H) (hD : va_D A (wX1 kc q σ)) (hS : va_S A s.heap H locs) (hl : lv_has ls 6 [(0, .ref (q 0)), (1, .int x1), (2, .int x2)]) : W p l e rmX1_ordered s m args below meth c H locs 0 0 (MQ below (QMi D (tysX1 kc) (wX1 kc q) A out) args s 0 0 A) (F0 m 16 ls [.int y0]) := by
  obtain ⟨hx, hb, hr, hml, hown, hts, hlocks⟩ := id C
  unfold fX1_ordered_L16 at h
  refine lv_istore_n (lv' := [(3, .int y0), (0, .ref (q 0)), (1, .int x1), (2, .int x2)]) hx hb dX1_ordered_16 rfl hl (by decide) rfl (fun ls hl => ?_)
  refine lv_aload_n hx hb dX1_ordered_17 rfl (lv_at hl 1 rfl) ?_
  refine rdX1_upper hx hb hts hinX1_ordered hown hK hP (hts (.fieldLink RX1 7 "ExactSharesModel" "upper" "[J") (List.mem_of_getElem? (i := 1) rfl)) dX1_ordered_18 ?_
  refine lv_iload_n hx hb dX1_ordered_21 rfl (lv_at hl 3 rfl) ?_
  obtain ⟨g1, h⟩ := gd_t h
  refine ldX1_upper hx hb hK hP g1 dX1_ordered_22 ?_
  refine lv_lconst (v := (0 : Int64)) hx hb dX1_ordered_23 (by decide) ?_
  refine xl_ge (tgt := 32) hx hb dX1_ordered_24 dX1_ordered_25 (by decide) (fun c2 => ?_) (fun c2 => ?_)
  · replace h := br_p c2 h
    refine lv_iconst (v := (0 : Int32)) hx hb dX1_ordered_32 (by decide) ?_
    exact wX1_ordered_L33 C hA hK  σ x1 x2 y0 (0 : Int32) H locs ls h hP hD hS (lv_sub hl [1, 2, 3, 0] rfl)
  · replace h := br_n c2 h
    refine lv_iconst (v := (1 : Int32)) hx hb dX1_ordered_28 (by decide) ?_
    refine lv_goto (tgt := 33) hx hb dX1_ordered_29 (by decide) ?_
    exact wX1_ordered_L33 C hA hK  σ x1 x2 y0 (1 : Int32) H locs ls h hP hD hS (lv_sub hl [1, 2, 3, 0] rfl)
def fX1_ordered (σ : MS)  (x1 : Int32) (x2 : Int32) : Option (Int32 × MS) := (if ix x1 41 = true then (if (0 : Int64) ≤ ((m_upper σ) x1.toNatClampNeg) then (fX1_ordered_L16 σ x1 x2 (0 : Int32)) else (fX1_ordered_L16 σ x1 x2 (1 : Int32))) else none)
set_option maxHeartbeats 4000000 in
set_option maxRecDepth 100000 in
theorem mX1_ordered (l : Launch) (D : va_G) (kc : Nat → ClassId) (q : Nat → Nat) (σ : MS) (x1 : Int32) (x2 : Int32) (out : Int32 × MS) (h : fX1_ordered σ  x1 x2 = some out) : MMi l yX1_ordered wsX1_ordered rmX1_ordered D (tysX1 kc) (wX1 kc q) σ [.ref (q 0), .int x1, .int x2] out := by
  refine ofMi (cc := cX1_ordered) (maxL := 6) (ret := (some .int)) (lv := [(0, .ref (q 0)), (1, .int x1), (2, .int x2)]) (by decide) rfl (Nat.le_of_ble_eq_true rfl) rfl ?_
  intro p e s m args below meth c A C hA hK hP hD hS ls hl
  have C : cxt p s m args meth c RX1 cX1_ordered 6 (some .int) wsX1_ordered := C
  obtain ⟨hx, hb, hr, hml, hown, hts, hlocks⟩ := id C
  obtain ⟨H, hH⟩ : ∃ H, H = s.heap := ⟨_, rfl⟩
  obtain ⟨locs, hlocs⟩ : ∃ locs : List Loc, locs = [] := ⟨_, rfl⟩
  have hS : va_S A s.heap H locs := by rw [hH, hlocs]; exact va_S.rf
  rw [← hH] at hP
  suffices hW : W p l e rmX1_ordered s m args below meth c H locs 0 0 _ (F0 m 0 ls []) by rw [hH, hlocs] at hW; exact hW
  unfold fX1_ordered at h
  refine lv_aload_n hx hb dX1_ordered_0 rfl (lv_at hl 0 rfl) ?_
  refine rdX1_upper hx hb hts hinX1_ordered hown hK hP (hts (.fieldLink RX1 7 "ExactSharesModel" "upper" "[J") (List.mem_of_getElem? (i := 1) rfl)) dX1_ordered_1 ?_
  refine lv_iload_n hx hb dX1_ordered_4 rfl (lv_at hl 1 rfl) ?_
  obtain ⟨g1, h⟩ := gd_t h
  refine ldX1_upper hx hb hK hP g1 dX1_ordered_5 ?_
  refine lv_lconst (v := (0 : Int64)) hx hb dX1_ordered_6 (by decide) ?_
  refine xl_ge (tgt := 15) hx hb dX1_ordered_7 dX1_ordered_8 (by decide) (fun c2 => ?_) (fun c2 => ?_)
  · replace h := br_p c2 h
    refine lv_iconst (v := (0 : Int32)) hx hb dX1_ordered_15 (by decide) ?_
    exact wX1_ordered_L16 C hA hK  σ x1 x2 (0 : Int32) H locs ls h hP hD hS (lv_sub hl [0, 1, 2] rfl)
  · replace h := br_n c2 h
    refine lv_iconst (v := (1 : Int32)) hx hb dX1_ordered_11 (by decide) ?_
    refine lv_goto (tgt := 16) hx hb dX1_ordered_12 (by decide) ?_
    exact wX1_ordered_L16 C hA hK  σ x1 x2 (1 : Int32) H locs ls h hP hD hS (lv_sub hl [0, 1, 2] rfl)
abbrev rmX1_order : Room := { frames := 2, cells := 0, slots := 0, locals := 55 }
theorem hinX1_order : ∀ w ∈ u_ws RX1 TX1 17, w ∈ wsX1_order := by first | exact fun _ h => List.mem_cons_of_mem _ (List.mem_append_right _ h) | exact fun _ h => List.mem_cons_of_mem _ (List.mem_append_left _ (List.mem_append_right _ h)) | decide +kernel
def fX1_order (σ : MS)  (x1 : Int32) (x2 : Int32) : Option (Int32 × MS) := (bd (sm_thrown σ (0 : Int32)) fun s1 => ((fX1_isNumber s1 x1).bind fun o3 => (if o3 = (0 : Int32) then (some ((-2 : Int32), s1)) else ((fX1_isNumber s1 x2).bind fun o6 => (if o6 = (0 : Int32) then (some ((-2 : Int32), s1)) else ((fX1_ordered s1 x1 x2).bind fun o9 => (some (o9.1, o9.2))))))))
set_option maxHeartbeats 4000000 in
set_option maxRecDepth 100000 in
theorem mX1_order (l : Launch) (D : va_G) (kc : Nat → ClassId) (q : Nat → Nat) (σ : MS) (x1 : Int32) (x2 : Int32) (out : Int32 × MS) (h : fX1_order σ  x1 x2 = some out) : MMi l yX1_order wsX1_order rmX1_order D (tysX1 kc) (wX1 kc q) σ [.ref (q 0), .int x1, .int x2] out := by
  refine ofMi (cc := cX1_order) (maxL := 3) (ret := (some .int)) (lv := [(0, .ref (q 0)), (1, .int x1), (2, .int x2)]) (by decide) rfl (Nat.le_of_ble_eq_true rfl) rfl ?_
  intro p e s m args below meth c A C hA hK hP hD hS ls hl
  have C : cxt p s m args meth c RX1 cX1_order 3 (some .int) wsX1_order := C
  obtain ⟨hx, hb, hr, hml, hown, hts, hlocks⟩ := id C
  obtain ⟨H, hH⟩ : ∃ H, H = s.heap := ⟨_, rfl⟩
  obtain ⟨locs, hlocs⟩ : ∃ locs : List Loc, locs = [] := ⟨_, rfl⟩
  have hS : va_S A s.heap H locs := by rw [hH, hlocs]; exact va_S.rf
  rw [← hH] at hP
  suffices hW : W p l e rmX1_order s m args below meth c H locs 0 0 _ (F0 m 0 ls []) by rw [hH, hlocs] at hW; exact hW
  unfold fX1_order at h
  refine lv_aload_n hx hb dX1_order_0 rfl (lv_at hl 0 rfl) ?_
  refine lv_iconst (v := (0 : Int32)) hx hb dX1_order_1 (by decide) ?_
  refine wrX1_thrown (v := (0 : Int32)) hx hb hts hinX1_order hown hK hP hD hS (hts (.fieldLink RX1 43 "ExactSharesModel" "thrown" "I") (List.mem_of_getElem? (i := 1) rfl)) dX1_order_2 (fun H locs hP hD hS => ?_)
  obtain ⟨s1, e2, h⟩ := bd_e h
  replace hP : va_P D vwCl (wX1 kc q s1) H := by rw [e2]; exact hP
  replace hD : va_D A (wX1 kc q s1) := by rw [e2]; exact hD
  clear e2
  refine lv_aload_n hx hb dX1_order_5 rfl (lv_at hl 0 rfl) ?_
  refine lv_iload_n hx hb dX1_order_6 rfl (lv_at hl 1 rfl) ?_
  obtain ⟨o3, ho4, h⟩ := bi h
  refine caRi (q0 := 0) (As := [.int x1]) (rest := []) ⟨hx, hb, hml, hown, hts⟩ (mX1_isNumber l D kc q s1 x1 o3 ho4) (cwV 1 hts gX1_order_X1_isNumber rfl rfl rfl (by decide +kernel) ⟨Nat.le_of_ble_eq_true rfl, Nat.le_of_ble_eq_true rfl⟩) hK hP rfl rfl rfl rfl hl.1 (Nat.le_of_ble_eq_true rfl) dX1_order_7 ⟨Nat.zero_le _, Nat.zero_le _⟩ ?_
  refine lv_if_eq (tgt := 30) hx hb dX1_order_10 (by decide) (fun c5 => ?_) (fun c5 => ?_)
  · replace h := br_p c5 h
    refine lv_bipush (v := (-2 : Int32)) hx hb dX1_order_30 (by decide) ?_
    exact reMi (v := (-2 : Int32)) hx hb hr hlocks hK hP hD hS h dX1_order_32
  · replace h := br_n c5 h
    refine lv_aload_n hx hb dX1_order_13 rfl (lv_at hl 0 rfl) ?_
    refine lv_iload_n hx hb dX1_order_14 rfl (lv_at hl 2 rfl) ?_
    obtain ⟨o6, ho7, h⟩ := bi h
    refine caRi (q0 := 0) (As := [.int x2]) (rest := []) ⟨hx, hb, hml, hown, hts⟩ (mX1_isNumber l D kc q s1 x2 o6 ho7) (cwV 1 hts gX1_order_X1_isNumber rfl rfl rfl (by decide +kernel) ⟨Nat.le_of_ble_eq_true rfl, Nat.le_of_ble_eq_true rfl⟩) hK hP rfl rfl rfl rfl hl.1 (Nat.le_of_ble_eq_true rfl) dX1_order_15 ⟨Nat.zero_le _, Nat.zero_le _⟩ ?_
    refine lv_if_eq (tgt := 30) hx hb dX1_order_18 (by decide) (fun c8 => ?_) (fun c8 => ?_)
    · replace h := br_p c8 h
      refine lv_bipush (v := (-2 : Int32)) hx hb dX1_order_30 (by decide) ?_
      exact reMi (v := (-2 : Int32)) hx hb hr hlocks hK hP hD hS h dX1_order_32
    · replace h := br_n c8 h
      refine lv_aload_n hx hb dX1_order_21 rfl (lv_at hl 0 rfl) ?_
      refine lv_iload_n hx hb dX1_order_22 rfl (lv_at hl 1 rfl) ?_
      refine lv_iload_n hx hb dX1_order_23 rfl (lv_at hl 2 rfl) ?_
      obtain ⟨o9, ho10, h⟩ := bi h
      refine caMi (q0 := 0) (As := [.int x1, .int x2]) (rest := []) ⟨hx, hb, hml, hown, hts⟩ (mX1_ordered l D kc q s1 x1 x2 o9 ho10) (cwV 2 hts gX1_order_X1_ordered rfl rfl rfl (by decide +kernel) ⟨Nat.le_of_ble_eq_true rfl, Nat.le_of_ble_eq_true rfl⟩) hK hP hD hS hA rfl rfl rfl rfl hl.1 (Nat.le_of_ble_eq_true rfl) dX1_order_24 ⟨Nat.zero_le _, Nat.zero_le _⟩ (fun H locs hP hD hS => ?_)
      refine lv_goto (tgt := 32) hx hb dX1_order_27 (by decide) ?_
      exact reMi (v := o9.1) hx hb hr hlocks hK hP hD hS h dX1_order_32
abbrev rmX1_part : Room := { frames := 2, cells := 0, slots := 0, locals := 46 }
theorem hinX1_part : ∀ w ∈ u_ws RX1 TX1 17, w ∈ wsX1_part := by first | exact fun _ h => List.mem_cons_of_mem _ (List.mem_append_right _ h) | exact fun _ h => List.mem_cons_of_mem _ (List.mem_append_left _ (List.mem_append_right _ h)) | decide +kernel
def fX1_part_L23 (σ : MS)    : Option (Int64 × MS) := (some ((-9223372036854775808 : Int64), σ))
set_option maxHeartbeats 4000000 in
set_option maxRecDepth 100000 in
theorem wX1_part_L23 {p : Program} {l : Launch} {e : Env} {s : State} {m : MethodId} {args : Array Value} {below : List Frame} {meth : Method} {c : Code} {A : Nat → Prop} {D : va_G} {kc : Nat → ClassId} {q : Nat → Nat} {out : Int64 × MS} (C : cxt p s m args meth c RX1 cX1_part 3 (some .long) wsX1_part) (hA : ∀ x, s.heap.size ≤ x → A x) (hK : va_K D vwCl (tysX1 kc) s) (σ : MS)  (H : Heap) (locs : List Loc) (ls : Array Slot) (h : fX1_part_L23 σ    = some out) (hP : va_P D vwCl (wX1 kc q σ) H) (hD : va_D A (wX1 kc q σ)) (hS : va_S A s.heap H locs) (hl : lv_has ls 3 [(0, .ref (q 0))]) : W p l e rmX1_part s m args below meth c H locs 0 0 (MQ below (QMl D (tysX1 kc) (wX1 kc q) A out) args s 0 0 A) (F0 m 23 ls []) := by
  obtain ⟨hx, hb, hr, hml, hown, hts, hlocks⟩ := id C
  unfold fX1_part_L23 at h
  refine lv_ldc2 (v := (-9223372036854775808 : Int64)) hx hb hown (hts (.constantLong RX1 69 (-9223372036854775808)) (List.mem_of_getElem? (i := 2) rfl)) dX1_part_23 ?_
  refine lv_goto (tgt := 48) hx hb dX1_part_26 (by decide) ?_
  exact reMl (v := (-9223372036854775808 : Int64)) hx hb hr hlocks hK hP hD hS h dX1_part_48
def fX1_part (σ : MS)  (x1 : Int32) (x2 : Int32) : Option (Int64 × MS) := (bd (sm_thrown σ (0 : Int32)) fun s1 => ((fX1_isNumber s1 x1).bind fun o3 => (if o3 = (0 : Int32) then (fX1_part_L23 s1) else ((fX1_isIn (x2.toInt64) (0 : Int64) (1 : Int64)).bind fun o6 => (if o6 = (0 : Int32) then (fX1_part_L23 s1) else (if x2 = (0 : Int32) then (if ix x1 41 = true then (some (((m_upper s1) x1.toNatClampNeg), s1)) else none) else (if ix x1 41 = true then (some (((m_lower s1) x1.toNatClampNeg), s1)) else none)))))))
set_option maxHeartbeats 4000000 in
set_option maxRecDepth 100000 in
theorem mX1_part (l : Launch) (D : va_G) (kc : Nat → ClassId) (q : Nat → Nat) (σ : MS) (x1 : Int32) (x2 : Int32) (out : Int64 × MS) (h : fX1_part σ  x1 x2 = some out) : MMl l yX1_part wsX1_part rmX1_part D (tysX1 kc) (wX1 kc q) σ [.ref (q 0), .int x1, .int x2] out := by
  refine ofMl (cc := cX1_part) (maxL := 3) (ret := (some .long)) (lv := [(0, .ref (q 0)), (1, .int x1), (2, .int x2)]) (by decide) rfl (Nat.le_of_ble_eq_true rfl) rfl ?_
  intro p e s m args below meth c A C hA hK hP hD hS ls hl
  have C : cxt p s m args meth c RX1 cX1_part 3 (some .long) wsX1_part := C
  obtain ⟨hx, hb, hr, hml, hown, hts, hlocks⟩ := id C
  obtain ⟨H, hH⟩ : ∃ H, H = s.heap := ⟨_, rfl⟩
  obtain ⟨locs, hlocs⟩ : ∃ locs : List Loc, locs = [] := ⟨_, rfl⟩
  have hS : va_S A s.heap H locs := by rw [hH, hlocs]; exact va_S.rf
  rw [← hH] at hP
  suffices hW : W p l e rmX1_part s m args below meth c H locs 0 0 _ (F0 m 0 ls []) by rw [hH, hlocs] at hW; exact hW
  unfold fX1_part at h
  refine lv_aload_n hx hb dX1_part_0 rfl (lv_at hl 0 rfl) ?_
  refine lv_iconst (v := (0 : Int32)) hx hb dX1_part_1 (by decide) ?_
  refine wrX1_thrown (v := (0 : Int32)) hx hb hts hinX1_part hown hK hP hD hS (hts (.fieldLink RX1 43 "ExactSharesModel" "thrown" "I") (List.mem_of_getElem? (i := 1) rfl)) dX1_part_2 (fun H locs hP hD hS => ?_)
  obtain ⟨s1, e2, h⟩ := bd_e h
  replace hP : va_P D vwCl (wX1 kc q s1) H := by rw [e2]; exact hP
  replace hD : va_D A (wX1 kc q s1) := by rw [e2]; exact hD
  clear e2
  refine lv_aload_n hx hb dX1_part_5 rfl (lv_at hl 0 rfl) ?_
  refine lv_iload_n hx hb dX1_part_6 rfl (lv_at hl 1 rfl) ?_
  obtain ⟨o3, ho4, h⟩ := bi h
  refine caRi (q0 := 0) (As := [.int x1]) (rest := []) ⟨hx, hb, hml, hown, hts⟩ (mX1_isNumber l D kc q s1 x1 o3 ho4) (cwV 1 hts gX1_part_X1_isNumber rfl rfl rfl (by decide +kernel) ⟨Nat.le_of_ble_eq_true rfl, Nat.le_of_ble_eq_true rfl⟩) hK hP rfl rfl rfl rfl hl.1 (Nat.le_of_ble_eq_true rfl) dX1_part_7 ⟨Nat.zero_le _, Nat.zero_le _⟩ ?_
  refine lv_if_eq (tgt := 23) hx hb dX1_part_10 (by decide) (fun c5 => ?_) (fun c5 => ?_)
  · replace h := br_p c5 h
    exact wX1_part_L23 C hA hK  s1 H locs ls h hP hD hS (lv_sub hl [0] rfl)
  · replace h := br_n c5 h
    refine lv_iload_n hx hb dX1_part_13 rfl (lv_at hl 2 rfl) ?_
    refine lv_i2l (v := (x2.toInt64)) hx hb dX1_part_14 rfl ?_
    refine lv_lconst (v := (0 : Int64)) hx hb dX1_part_15 (by decide) ?_
    refine lv_lconst (v := (1 : Int64)) hx hb dX1_part_16 (by decide) ?_
    obtain ⟨o6, ho7, h⟩ := bi h
    refine caPi (As := [.long (x2.toInt64), .long (0 : Int64), .long (1 : Int64)]) (rest := []) ⟨hx, hb, hml, hown, hts⟩ (mX1_isIn l (x2.toInt64) (0 : Int64) (1 : Int64) o6 ho7) (va_cwS 3 hts gX1_part_X1_isIn rfl rfl rfl (by decide +kernel) ⟨Nat.le_of_ble_eq_true rfl, Nat.le_of_ble_eq_true rfl⟩) rfl hl.1 (Nat.le_of_ble_eq_true rfl) dX1_part_17 ⟨Nat.zero_le _, Nat.zero_le _⟩ ?_
    refine lv_if_ne (tgt := 29) hx hb dX1_part_20 (by decide) (fun c8 => ?_) (fun c8 => ?_)
    · replace h := br_n c8 h
      refine lv_iload_n hx hb dX1_part_29 rfl (lv_at hl 2 rfl) ?_
      refine lv_if_ne (tgt := 42) hx hb dX1_part_30 (by decide) (fun c9 => ?_) (fun c9 => ?_)
      · replace h := br_n c9 h
        refine lv_aload_n hx hb dX1_part_42 rfl (lv_at hl 0 rfl) ?_
        refine rdX1_lower hx hb hts hinX1_part hown hK hP (hts (.fieldLink RX1 13 "ExactSharesModel" "lower" "[J") (List.mem_of_getElem? (i := 4) rfl)) dX1_part_43 ?_
        refine lv_iload_n hx hb dX1_part_46 rfl (lv_at hl 1 rfl) ?_
        obtain ⟨g10, h⟩ := gd_t h
        refine ldX1_lower hx hb hK hP g10 dX1_part_47 ?_
        exact reMl (v := ((m_lower s1) x1.toNatClampNeg)) hx hb hr hlocks hK hP hD hS h dX1_part_48
      · replace h := br_p c9 h
        refine lv_aload_n hx hb dX1_part_33 rfl (lv_at hl 0 rfl) ?_
        refine rdX1_upper hx hb hts hinX1_part hown hK hP (hts (.fieldLink RX1 7 "ExactSharesModel" "upper" "[J") (List.mem_of_getElem? (i := 3) rfl)) dX1_part_34 ?_
        refine lv_iload_n hx hb dX1_part_37 rfl (lv_at hl 1 rfl) ?_
        obtain ⟨g11, h⟩ := gd_t h
        refine ldX1_upper hx hb hK hP g11 dX1_part_38 ?_
        refine lv_goto (tgt := 48) hx hb dX1_part_39 (by decide) ?_
        exact reMl (v := ((m_upper s1) x1.toNatClampNeg)) hx hb hr hlocks hK hP hD hS h dX1_part_48
    · replace h := br_p c8 h
      exact wX1_part_L23 C hA hK  s1 H locs ls h hP hD hS (lv_sub hl [0] rfl)
abbrev rmX1_between : Room := { frames := 3, cells := 0, slots := 0, locals := 78 }
theorem hinX1_between : ∀ w ∈ u_ws RX1 TX1 17, w ∈ wsX1_between := by first | exact fun _ h => List.mem_cons_of_mem _ (List.mem_append_right _ h) | exact fun _ h => List.mem_cons_of_mem _ (List.mem_append_left _ (List.mem_append_right _ h)) | decide +kernel
def fX1_between_L201 (σ : MS)   (x18 : Int64) (y0 : Int64) : Option (Int32 × MS) := ((fX1_kept σ y0 x18).bind fun o1 => (some (o1.1, o1.2)))
set_option maxHeartbeats 4000000 in
set_option maxRecDepth 100000 in
theorem wX1_between_L201 {p : Program} {l : Launch} {e : Env} {s : State} {m : MethodId} {args : Array Value} {below : List Frame} {meth : Method} {c : Code} {A : Nat → Prop} {D : va_G} {kc : Nat → ClassId} {q : Nat → Nat} {out : Int32 × MS} (C : cxt p s m args meth c RX1 cX1_between 31 (some .int) wsX1_between) (hA : ∀ x, s.heap.size ≤ x → A x) (hK : va_K D vwCl (tysX1 kc) s) (σ : MS) (x18 : Int64) (y0 : Int64) (H : Heap) (locs : List Loc) (ls : Array Slot) (h : fX1_between_L201 σ   x18 y0 = some out) (hP : va_P D vwCl (wX1 kc q σ) H) (hD : va_D A (wX1 kc q σ)) (hS : va_S A s.heap H locs) (hl : lv_has ls 31 [(0, .ref (q 0)), (18, .long x18)]) : W p l e rmX1_between s m args below meth c H locs 0 0 (MQ below (QMi D (tysX1 kc) (wX1 kc q) A out) args s 0 0 A) (F0 m 201 ls [.long y0, .ref (q 0)]) := by
  obtain ⟨hx, hb, hr, hml, hown, hts, hlocks⟩ := id C
  unfold fX1_between_L201 at h
  refine lv_lload hx hb dX1_between_201 (lv_at hl 1 rfl) ?_
  obtain ⟨o1, ho2, h⟩ := bi h
  refine caMi (q0 := 0) (As := [.long y0, .long x18]) (rest := []) ⟨hx, hb, hml, hown, hts⟩ (mX1_kept l D kc q σ y0 x18 o1 ho2) (cwV 2 hts gX1_between_X1_kept rfl rfl rfl (by decide +kernel) ⟨Nat.le_of_ble_eq_true rfl, Nat.le_of_ble_eq_true rfl⟩) hK hP hD hS hA rfl rfl rfl rfl hl.1 (Nat.le_of_ble_eq_true rfl) dX1_between_203 ⟨Nat.zero_le _, Nat.zero_le _⟩ (fun H locs hP hD hS => ?_)
  exact reMi (v := o1.1) hx hb hr hlocks hK hP hD hS h dX1_between_206
def fX1_between_L185 (σ : MS)  (k53 : Int32 × Int64 × Int64 × Int64 × Int64 × Int64 × Int64 × Int64 × Int64 × Int32 × MS → Option (Int32 × MS)) (x3 : Int32) (x4 : Int64) (x6 : Int64) (x8 : Int64) (x10 : Int64) (x12 : Int64) (x14 : Int64) (x16 : Int64) (x18 : Int64) (x20 : Int32) : Option (Int32 × MS) := (k53 (x3, x4, x6, x8, x10, x12, x14, x16, x18, x20, σ))
set_option maxHeartbeats 4000000 in
set_option maxRecDepth 100000 in
theorem wX1_between_L185 {p : Program} {l : Launch} {e : Env} {s : State} {m : MethodId} {args : Array Value} {below : List Frame} {meth : Method} {c : Code} {A : Nat → Prop} {D : va_G} {kc : Nat → ClassId} {q : Nat → Nat} {out : Int32 × MS} (C : cxt p s m args meth c RX1 cX1_between 31 (some .int) wsX1_between) (hA : ∀ x, s.heap.size ≤ x → A x) (hK : va_K D vwCl (tysX1 kc) s) (k53 : Int32 × Int64 × Int64 × Int64 × Int64 × Int64 × Int64 × Int64 × Int64 × Int32 × MS → Option (Int32 × MS)) (hk53 : ∀ (x3 : Int32) (x4 : Int64) (x6 : Int64) (x8 : Int64) (x10 : Int64) (x12 : Int64) (x14 : Int64) (x16 : Int64) (x18 : Int64) (x20 : Int32) (σ : MS) (H : Heap) (locs : List Loc) (ls : Array Slot), k53 (x3, x4, x6, x8, x10, x12, x14, x16, x18, x20, σ) = some out → va_P D vwCl (wX1 kc q σ) H → va_D A (wX1 kc q σ) → va_S A s.heap H locs → lv_has ls 31 [(0, .ref (q 0)), (3, .int x3), (4, .long x4), (6, .long x6), (8, .long x8), (10, .long x10), (12, .long x12), (14, .long x14), (16, .long x16), (18, .long x18), (20, .int x20)] → W p l e rmX1_between s m args below meth c H locs 0 0 (MQ below (QMi D (tysX1 kc) (wX1 kc q) A out) args s 0 0 A) (F0 m 53 ls [])) (σ : MS) (x3 : Int32) (x4 : Int64) (x6 : Int64) (x8 : Int64) (x10 : Int64) (x12 : Int64) (x14 : Int64) (x16 : Int64) (x18 : Int64) (x20 : Int32) (H : Heap) (locs : List Loc) (ls : Array Slot) (h : fX1_between_L185 σ  k53 x3 x4 x6 x8 x10 x12 x14 x16 x18 x20 = some out) (hP : va_P D vwCl (wX1 kc q σ) H) (hD : va_D A (wX1 kc q σ)) (hS : va_S A s.heap H locs) (hl : lv_has ls 31 [(0, .ref (q 0)), (3, .int x3), (4, .long x4), (6, .long x6), (8, .long x8), (10, .long x10), (12, .long x12), (14, .long x14), (16, .long x16), (18, .long x18), (20, .int x20)]) : W p l e rmX1_between s m args below meth c H locs 0 0 (MQ below (QMi D (tysX1 kc) (wX1 kc q) A out) args s 0 0 A) (F0 m 185 ls []) := by
  obtain ⟨hx, hb, hr, hml, hown, hts, hlocks⟩ := id C
  unfold fX1_between_L185 at h
  refine lv_goto (tgt := 53) hx hb dX1_between_185 (by decide) ?_
  exact hk53 x3 x4 x6 x8 x10 x12 x14 x16 x18 x20 σ H locs ls h hP hD hS (lv_sub hl [0, 1, 2, 3, 4, 5, 6, 7, 8, 9, 10] rfl)
def fX1_between_L114 (σ : MS)  (k53 : Int32 × Int64 × Int64 × Int64 × Int64 × Int64 × Int64 × Int64 × Int64 × Int32 × MS → Option (Int32 × MS)) (x3 : Int32) (x4 : Int64) (x6 : Int64) (x8 : Int64) (x10 : Int64) (x12 : Int64) (x14 : Int64) (x16 : Int64) (x18 : Int64) (x20 : Int32) (x21 : Int64) : Option (Int32 × MS) := (if x20 = (0 : Int32) then (fX1_between_L185 σ k53 x3 x4 x6 x8 x10 x16 x18 ((x21 * x16) + x12) ((x21 * x18) + x14) x20) else (if x6 = (0 : Int64) then none else (if x10 = (0 : Int64) then none else (fX1_between_L185 σ k53 x3 x10 (lmd x8 x10) x6 (lmd x4 x6) x16 x18 ((x21 * x16) + x12) ((x21 * x18) + x14) x20))))
set_option maxHeartbeats 4000000 in
set_option maxRecDepth 100000 in
theorem wX1_between_L114 {p : Program} {l : Launch} {e : Env} {s : State} {m : MethodId} {args : Array Value} {below : List Frame} {meth : Method} {c : Code} {A : Nat → Prop} {D : va_G} {kc : Nat → ClassId} {q : Nat → Nat} {out : Int32 × MS} (C : cxt p s m args meth c RX1 cX1_between 31 (some .int) wsX1_between) (hA : ∀ x, s.heap.size ≤ x → A x) (hK : va_K D vwCl (tysX1 kc) s) (k53 : Int32 × Int64 × Int64 × Int64 × Int64 × Int64 × Int64 × Int64 × Int64 × Int32 × MS → Option (Int32 × MS)) (hk53 : ∀ (x3 : Int32) (x4 : Int64) (x6 : Int64) (x8 : Int64) (x10 : Int64) (x12 : Int64) (x14 : Int64) (x16 : Int64) (x18 : Int64) (x20 : Int32) (σ : MS) (H : Heap) (locs : List Loc) (ls : Array Slot), k53 (x3, x4, x6, x8, x10, x12, x14, x16, x18, x20, σ) = some out → va_P D vwCl (wX1 kc q σ) H → va_D A (wX1 kc q σ) → va_S A s.heap H locs → lv_has ls 31 [(0, .ref (q 0)), (3, .int x3), (4, .long x4), (6, .long x6), (8, .long x8), (10, .long x10), (12, .long x12), (14, .long x14), (16, .long x16), (18, .long x18), (20, .int x20)] → W p l e rmX1_between s m args below meth c H locs 0 0 (MQ below (QMi D (tysX1 kc) (wX1 kc q) A out) args s 0 0 A) (F0 m 53 ls [])) (σ : MS) (x3 : Int32) (x4 : Int64) (x6 : Int64) (x8 : Int64) (x10 : Int64) (x12 : Int64) (x14 : Int64) (x16 : Int64) (x18 : Int64) (x20 : Int32) (x21 : Int64) (H : Heap) (locs : List Loc) (ls : Array Slot) (h : fX1_between_L114 σ  k53 x3 x4 x6 x8 x10 x12 x14 x16 x18 x20 x21 = some out) (hP : va_P D vwCl (wX1 kc q σ) H) (hD : va_D A (wX1 kc q σ)) (hS : va_S A s.heap H locs) (hl : lv_has ls 31 [(0, .ref (q 0)), (3, .int x3), (4, .long x4), (6, .long x6), (8, .long x8), (10, .long x10), (12, .long x12), (14, .long x14), (16, .long x16), (18, .long x18), (20, .int x20), (21, .long x21)]) : W p l e rmX1_between s m args below meth c H locs 0 0 (MQ below (QMi D (tysX1 kc) (wX1 kc q) A out) args s 0 0 A) (F0 m 114 ls []) := by
  obtain ⟨hx, hb, hr, hml, hown, hts, hlocks⟩ := id C
  unfold fX1_between_L114 at h
  refine lv_lload hx hb dX1_between_114 (lv_at hl 11 rfl) ?_
  refine lv_lload hx hb dX1_between_116 (lv_at hl 8 rfl) ?_
  refine lv_lmul hx hb dX1_between_118 ?_
  refine lv_lload hx hb dX1_between_119 (lv_at hl 6 rfl) ?_
  refine lv_ladd hx hb dX1_between_121 ?_
  refine lv_lstore (lv' := [(23, .long ((x21 * x16) + x12)), (0, .ref (q 0)), (3, .int x3), (4, .long x4), (6, .long x6), (8, .long x8), (10, .long x10), (12, .long x12), (14, .long x14), (16, .long x16), (18, .long x18), (20, .int x20), (21, .long x21)]) hx hb dX1_between_122 hl (by decide) rfl (fun ls hl => ?_)
  refine lv_lload hx hb dX1_between_124 (lv_at hl 12 rfl) ?_
  refine lv_lload hx hb dX1_between_126 (lv_at hl 10 rfl) ?_
  refine lv_lmul hx hb dX1_between_128 ?_
  refine lv_lload hx hb dX1_between_129 (lv_at hl 8 rfl) ?_
  refine lv_ladd hx hb dX1_between_131 ?_
  refine lv_lstore (lv' := [(25, .long ((x21 * x18) + x14)), (23, .long ((x21 * x16) + x12)), (0, .ref (q 0)), (3, .int x3), (4, .long x4), (6, .long x6), (8, .long x8), (10, .long x10), (12, .long x12), (14, .long x14), (16, .long x16), (18, .long x18), (20, .int x20), (21, .long x21)]) hx hb dX1_between_132 hl (by decide) rfl (fun ls hl => ?_)
  refine lv_lload hx hb dX1_between_134 (lv_at hl 10 rfl) ?_
  refine lv_lstore (lv' := [(12, .long x16), (25, .long ((x21 * x18) + x14)), (23, .long ((x21 * x16) + x12)), (0, .ref (q 0)), (3, .int x3), (4, .long x4), (6, .long x6), (8, .long x8), (10, .long x10), (14, .long x14), (16, .long x16), (18, .long x18), (20, .int x20), (21, .long x21)]) hx hb dX1_between_136 hl (by decide) rfl (fun ls hl => ?_)
  refine lv_lload hx hb dX1_between_138 (lv_at hl 11 rfl) ?_
  refine lv_lstore (lv' := [(14, .long x18), (12, .long x16), (25, .long ((x21 * x18) + x14)), (23, .long ((x21 * x16) + x12)), (0, .ref (q 0)), (3, .int x3), (4, .long x4), (6, .long x6), (8, .long x8), (10, .long x10), (16, .long x16), (18, .long x18), (20, .int x20), (21, .long x21)]) hx hb dX1_between_140 hl (by decide) rfl (fun ls hl => ?_)
  refine lv_lload hx hb dX1_between_142 (lv_at hl 3 rfl) ?_
  refine lv_lstore (lv' := [(16, .long ((x21 * x16) + x12)), (14, .long x18), (12, .long x16), (25, .long ((x21 * x18) + x14)), (23, .long ((x21 * x16) + x12)), (0, .ref (q 0)), (3, .int x3), (4, .long x4), (6, .long x6), (8, .long x8), (10, .long x10), (18, .long x18), (20, .int x20), (21, .long x21)]) hx hb dX1_between_144 hl (by decide) rfl (fun ls hl => ?_)
  refine lv_lload hx hb dX1_between_146 (lv_at hl 3 rfl) ?_
  refine lv_lstore (lv' := [(18, .long ((x21 * x18) + x14)), (16, .long ((x21 * x16) + x12)), (14, .long x18), (12, .long x16), (25, .long ((x21 * x18) + x14)), (23, .long ((x21 * x16) + x12)), (0, .ref (q 0)), (3, .int x3), (4, .long x4), (6, .long x6), (8, .long x8), (10, .long x10), (20, .int x20), (21, .long x21)]) hx hb dX1_between_148 hl (by decide) rfl (fun ls hl => ?_)
  refine lv_iload hx hb dX1_between_150 (lv_at hl 12 rfl) ?_
  refine lv_if_eq (tgt := 185) hx hb dX1_between_152 (by decide) (fun c1 => ?_) (fun c1 => ?_)
  · replace h := br_p c1 h
    exact wX1_between_L185 C hA hK k53 hk53 σ x3 x4 x6 x8 x10 x16 x18 ((x21 * x16) + x12) ((x21 * x18) + x14) x20 H locs ls h hP hD hS (lv_sub hl [6, 7, 8, 9, 10, 11, 3, 2, 1, 0, 12] rfl)
  · replace h := br_n c1 h
    refine lv_lload hx hb dX1_between_155 (lv_at hl 8 rfl) ?_
    refine lv_lload hx hb dX1_between_157 (lv_at hl 9 rfl) ?_
    obtain ⟨g2, h⟩ := gd_f h
    refine lv_lrem hx hb dX1_between_159 g2 ?_
    refine lv_lstore (lv' := [(27, .long (lmd x4 x6)), (18, .long ((x21 * x18) + x14)), (16, .long ((x21 * x16) + x12)), (14, .long x18), (12, .long x16), (25, .long ((x21 * x18) + x14)), (23, .long ((x21 * x16) + x12)), (0, .ref (q 0)), (3, .int x3), (4, .long x4), (6, .long x6), (8, .long x8), (10, .long x10), (20, .int x20), (21, .long x21)]) hx hb dX1_between_160 hl (by decide) rfl (fun ls hl => ?_)
    refine lv_lload hx hb dX1_between_162 (lv_at hl 11 rfl) ?_
    refine lv_lload hx hb dX1_between_164 (lv_at hl 12 rfl) ?_
    obtain ⟨g3, h⟩ := gd_f h
    refine lv_lrem hx hb dX1_between_166 g3 ?_
    refine lv_lstore (lv' := [(29, .long (lmd x8 x10)), (27, .long (lmd x4 x6)), (18, .long ((x21 * x18) + x14)), (16, .long ((x21 * x16) + x12)), (14, .long x18), (12, .long x16), (25, .long ((x21 * x18) + x14)), (23, .long ((x21 * x16) + x12)), (0, .ref (q 0)), (3, .int x3), (4, .long x4), (6, .long x6), (8, .long x8), (10, .long x10), (20, .int x20), (21, .long x21)]) hx hb dX1_between_167 hl (by decide) rfl (fun ls hl => ?_)
    refine lv_lload hx hb dX1_between_169 (lv_at hl 13 rfl) ?_
    refine lv_lstore (lv' := [(4, .long x10), (29, .long (lmd x8 x10)), (27, .long (lmd x4 x6)), (18, .long ((x21 * x18) + x14)), (16, .long ((x21 * x16) + x12)), (14, .long x18), (12, .long x16), (25, .long ((x21 * x18) + x14)), (23, .long ((x21 * x16) + x12)), (0, .ref (q 0)), (3, .int x3), (6, .long x6), (8, .long x8), (10, .long x10), (20, .int x20), (21, .long x21)]) hx hb dX1_between_171 hl (by decide) rfl (fun ls hl => ?_)
    refine lv_lload hx hb dX1_between_173 (lv_at hl 11 rfl) ?_
    refine lv_lstore (lv' := [(8, .long x6), (4, .long x10), (29, .long (lmd x8 x10)), (27, .long (lmd x4 x6)), (18, .long ((x21 * x18) + x14)), (16, .long ((x21 * x16) + x12)), (14, .long x18), (12, .long x16), (25, .long ((x21 * x18) + x14)), (23, .long ((x21 * x16) + x12)), (0, .ref (q 0)), (3, .int x3), (6, .long x6), (10, .long x10), (20, .int x20), (21, .long x21)]) hx hb dX1_between_175 hl (by decide) rfl (fun ls hl => ?_)
    refine lv_lload hx hb dX1_between_177 (lv_at hl 2 rfl) ?_
    refine lv_lstore (lv' := [(6, .long (lmd x8 x10)), (8, .long x6), (4, .long x10), (29, .long (lmd x8 x10)), (27, .long (lmd x4 x6)), (18, .long ((x21 * x18) + x14)), (16, .long ((x21 * x16) + x12)), (14, .long x18), (12, .long x16), (25, .long ((x21 * x18) + x14)), (23, .long ((x21 * x16) + x12)), (0, .ref (q 0)), (3, .int x3), (10, .long x10), (20, .int x20), (21, .long x21)]) hx hb dX1_between_179 hl (by decide) rfl (fun ls hl => ?_)
    refine lv_lload hx hb dX1_between_181 (lv_at hl 4 rfl) ?_
    refine lv_lstore (lv' := [(10, .long (lmd x4 x6)), (6, .long (lmd x8 x10)), (8, .long x6), (4, .long x10), (29, .long (lmd x8 x10)), (27, .long (lmd x4 x6)), (18, .long ((x21 * x18) + x14)), (16, .long ((x21 * x16) + x12)), (14, .long x18), (12, .long x16), (25, .long ((x21 * x18) + x14)), (23, .long ((x21 * x16) + x12)), (0, .ref (q 0)), (3, .int x3), (20, .int x20), (21, .long x21)]) hx hb dX1_between_183 hl (by decide) rfl (fun ls hl => ?_)
    exact wX1_between_L185 C hA hK k53 hk53 σ x3 x10 (lmd x8 x10) x6 (lmd x4 x6) x16 x18 ((x21 * x16) + x12) ((x21 * x18) + x14) x20 H locs ls h hP hD hS (lv_sub hl [12, 13, 3, 1, 2, 0, 9, 8, 7, 6, 14] rfl)
def fX1_between_L91 (σ : MS)  (k53 : Int32 × Int64 × Int64 × Int64 × Int64 × Int64 × Int64 × Int64 × Int64 × Int32 × MS → Option (Int32 × MS)) (x3 : Int32) (x4 : Int64) (x6 : Int64) (x8 : Int64) (x10 : Int64) (x12 : Int64) (x14 : Int64) (x16 : Int64) (x18 : Int64) (x21 : Int64) (y0 : Int32) : Option (Int32 × MS) := (if y0 = (0 : Int32) then (if x6 = (0 : Int64) then none else (if (lmd x4 x6) = (0 : Int64) then (fX1_between_L114 σ k53 x3 x4 x6 x8 x10 x12 x14 x16 x18 y0 x21) else (fX1_between_L114 σ k53 x3 x4 x6 x8 x10 x12 x14 x16 x18 y0 (x21 + (1 : Int64))))) else (fX1_between_L114 σ k53 x3 x4 x6 x8 x10 x12 x14 x16 x18 y0 x21))
set_option maxHeartbeats 4000000 in
set_option maxRecDepth 100000 in
theorem wX1_between_L91 {p : Program} {l : Launch} {e : Env} {s : State} {m : MethodId} {args : Array Value} {below : List Frame} {meth : Method} {c : Code} {A : Nat → Prop} {D : va_G} {kc : Nat → ClassId} {q : Nat → Nat} {out : Int32 × MS} (C : cxt p s m args meth c RX1 cX1_between 31 (some .int) wsX1_between) (hA : ∀ x, s.heap.size ≤ x → A x) (hK : va_K D vwCl (tysX1 kc) s) (k53 : Int32 × Int64 × Int64 × Int64 × Int64 × Int64 × Int64 × Int64 × Int64 × Int32 × MS → Option (Int32 × MS)) (hk53 : ∀ (x3 : Int32) (x4 : Int64) (x6 : Int64) (x8 : Int64) (x10 : Int64) (x12 : Int64) (x14 : Int64) (x16 : Int64) (x18 : Int64) (x20 : Int32) (σ : MS) (H : Heap) (locs : List Loc) (ls : Array Slot), k53 (x3, x4, x6, x8, x10, x12, x14, x16, x18, x20, σ) = some out → va_P D vwCl (wX1 kc q σ) H → va_D A (wX1 kc q σ) → va_S A s.heap H locs → lv_has ls 31 [(0, .ref (q 0)), (3, .int x3), (4, .long x4), (6, .long x6), (8, .long x8), (10, .long x10), (12, .long x12), (14, .long x14), (16, .long x16), (18, .long x18), (20, .int x20)] → W p l e rmX1_between s m args below meth c H locs 0 0 (MQ below (QMi D (tysX1 kc) (wX1 kc q) A out) args s 0 0 A) (F0 m 53 ls [])) (σ : MS) (x3 : Int32) (x4 : Int64) (x6 : Int64) (x8 : Int64) (x10 : Int64) (x12 : Int64) (x14 : Int64) (x16 : Int64) (x18 : Int64) (x21 : Int64) (y0 : Int32) (H : Heap) (locs : List Loc) (ls : Array Slot) (h : fX1_between_L91 σ  k53 x3 x4 x6 x8 x10 x12 x14 x16 x18 x21 y0 = some out) (hP : va_P D vwCl (wX1 kc q σ) H) (hD : va_D A (wX1 kc q σ)) (hS : va_S A s.heap H locs) (hl : lv_has ls 31 [(0, .ref (q 0)), (3, .int x3), (4, .long x4), (6, .long x6), (8, .long x8), (10, .long x10), (12, .long x12), (14, .long x14), (16, .long x16), (18, .long x18), (21, .long x21)]) : W p l e rmX1_between s m args below meth c H locs 0 0 (MQ below (QMi D (tysX1 kc) (wX1 kc q) A out) args s 0 0 A) (F0 m 91 ls [.int y0]) := by
  obtain ⟨hx, hb, hr, hml, hown, hts, hlocks⟩ := id C
  unfold fX1_between_L91 at h
  refine lv_istore (lv' := [(20, .int y0), (0, .ref (q 0)), (3, .int x3), (4, .long x4), (6, .long x6), (8, .long x8), (10, .long x10), (12, .long x12), (14, .long x14), (16, .long x16), (18, .long x18), (21, .long x21)]) hx hb dX1_between_91 hl (by decide) rfl (fun ls hl => ?_)
  refine lv_iload hx hb dX1_between_93 (lv_at hl 0 rfl) ?_
  refine lv_if_ne (tgt := 114) hx hb dX1_between_95 (by decide) (fun c1 => ?_) (fun c1 => ?_)
  · replace h := br_n c1 h
    exact wX1_between_L114 C hA hK k53 hk53 σ x3 x4 x6 x8 x10 x12 x14 x16 x18 y0 x21 H locs ls h hP hD hS (lv_sub hl [1, 2, 3, 4, 5, 6, 7, 8, 9, 10, 0, 11] rfl)
  · replace h := br_p c1 h
    refine lv_lload hx hb dX1_between_98 (lv_at hl 3 rfl) ?_
    refine lv_lload hx hb dX1_between_100 (lv_at hl 4 rfl) ?_
    obtain ⟨g2, h⟩ := gd_f h
    refine lv_lrem hx hb dX1_between_102 g2 ?_
    refine lv_lconst (v := (0 : Int64)) hx hb dX1_between_103 (by decide) ?_
    refine xl_eq (tgt := 114) hx hb dX1_between_104 dX1_between_105 (by decide) (fun c3 => ?_) (fun c3 => ?_)
    · replace h := br_p c3 h
      exact wX1_between_L114 C hA hK k53 hk53 σ x3 x4 x6 x8 x10 x12 x14 x16 x18 y0 x21 H locs ls h hP hD hS (lv_sub hl [1, 2, 3, 4, 5, 6, 7, 8, 9, 10, 0, 11] rfl)
    · replace h := br_n c3 h
      refine lv_lload hx hb dX1_between_108 (lv_at hl 11 rfl) ?_
      refine lv_lconst (v := (1 : Int64)) hx hb dX1_between_110 (by decide) ?_
      refine lv_ladd hx hb dX1_between_111 ?_
      refine lv_lstore (lv' := [(21, .long (x21 + (1 : Int64))), (20, .int y0), (0, .ref (q 0)), (3, .int x3), (4, .long x4), (6, .long x6), (8, .long x8), (10, .long x10), (12, .long x12), (14, .long x14), (16, .long x16), (18, .long x18)]) hx hb dX1_between_112 hl (by decide) rfl (fun ls hl => ?_)
      exact wX1_between_L114 C hA hK k53 hk53 σ x3 x4 x6 x8 x10 x12 x14 x16 x18 y0 (x21 + (1 : Int64)) H locs ls h hP hD hS (lv_sub hl [2, 3, 4, 5, 6, 7, 8, 9, 10, 11, 1, 0] rfl)
def fX1_between_L90 (σ : MS)  (k53 : Int32 × Int64 × Int64 × Int64 × Int64 × Int64 × Int64 × Int64 × Int64 × Int32 × MS → Option (Int32 × MS)) (x3 : Int32) (x4 : Int64) (x6 : Int64) (x8 : Int64) (x10 : Int64) (x12 : Int64) (x14 : Int64) (x16 : Int64) (x18 : Int64) (x21 : Int64) : Option (Int32 × MS) := (fX1_between_L91 σ k53 x3 x4 x6 x8 x10 x12 x14 x16 x18 x21 (0 : Int32))
set_option maxHeartbeats 4000000 in
set_option maxRecDepth 100000 in
theorem wX1_between_L90 {p : Program} {l : Launch} {e : Env} {s : State} {m : MethodId} {args : Array Value} {below : List Frame} {meth : Method} {c : Code} {A : Nat → Prop} {D : va_G} {kc : Nat → ClassId} {q : Nat → Nat} {out : Int32 × MS} (C : cxt p s m args meth c RX1 cX1_between 31 (some .int) wsX1_between) (hA : ∀ x, s.heap.size ≤ x → A x) (hK : va_K D vwCl (tysX1 kc) s) (k53 : Int32 × Int64 × Int64 × Int64 × Int64 × Int64 × Int64 × Int64 × Int64 × Int32 × MS → Option (Int32 × MS)) (hk53 : ∀ (x3 : Int32) (x4 : Int64) (x6 : Int64) (x8 : Int64) (x10 : Int64) (x12 : Int64) (x14 : Int64) (x16 : Int64) (x18 : Int64) (x20 : Int32) (σ : MS) (H : Heap) (locs : List Loc) (ls : Array Slot), k53 (x3, x4, x6, x8, x10, x12, x14, x16, x18, x20, σ) = some out → va_P D vwCl (wX1 kc q σ) H → va_D A (wX1 kc q σ) → va_S A s.heap H locs → lv_has ls 31 [(0, .ref (q 0)), (3, .int x3), (4, .long x4), (6, .long x6), (8, .long x8), (10, .long x10), (12, .long x12), (14, .long x14), (16, .long x16), (18, .long x18), (20, .int x20)] → W p l e rmX1_between s m args below meth c H locs 0 0 (MQ below (QMi D (tysX1 kc) (wX1 kc q) A out) args s 0 0 A) (F0 m 53 ls [])) (σ : MS) (x3 : Int32) (x4 : Int64) (x6 : Int64) (x8 : Int64) (x10 : Int64) (x12 : Int64) (x14 : Int64) (x16 : Int64) (x18 : Int64) (x21 : Int64) (H : Heap) (locs : List Loc) (ls : Array Slot) (h : fX1_between_L90 σ  k53 x3 x4 x6 x8 x10 x12 x14 x16 x18 x21 = some out) (hP : va_P D vwCl (wX1 kc q σ) H) (hD : va_D A (wX1 kc q σ)) (hS : va_S A s.heap H locs) (hl : lv_has ls 31 [(0, .ref (q 0)), (3, .int x3), (4, .long x4), (6, .long x6), (8, .long x8), (10, .long x10), (12, .long x12), (14, .long x14), (16, .long x16), (18, .long x18), (21, .long x21)]) : W p l e rmX1_between s m args below meth c H locs 0 0 (MQ below (QMi D (tysX1 kc) (wX1 kc q) A out) args s 0 0 A) (F0 m 90 ls []) := by
  obtain ⟨hx, hb, hr, hml, hown, hts, hlocks⟩ := id C
  unfold fX1_between_L90 at h
  refine lv_iconst (v := (0 : Int32)) hx hb dX1_between_90 (by decide) ?_
  exact wX1_between_L91 C hA hK k53 hk53 σ x3 x4 x6 x8 x10 x12 x14 x16 x18 x21 (0 : Int32) H locs ls h hP hD hS (lv_sub hl [0, 1, 2, 3, 4, 5, 6, 7, 8, 9, 10] rfl)
def fX1_between_B53 (σ : MS)   (k53 : Int32 × Int64 × Int64 × Int64 × Int64 × Int64 × Int64 × Int64 × Int64 × Int32 × MS → Option (Int32 × MS)) (x3 : Int32) (x4 : Int64) (x6 : Int64) (x8 : Int64) (x10 : Int64) (x12 : Int64) (x14 : Int64) (x16 : Int64) (x18 : Int64) (x20 : Int32) : Option (Int32 × MS) := (if x20 = (0 : Int32) then (if x3 = (0 : Int32) then (fX1_between_L201 σ x18 x16) else (fX1_between_L201 σ x18 (-x16))) else (if x6 = (0 : Int64) then none else (if x6 = (0 : Int64) then none else (if (lmd x4 x6) = (0 : Int64) then (fX1_between_L90 σ k53 x3 x4 x6 x8 x10 x12 x14 x16 x18 (x4 / x6)) else (if x10 = (0 : Int64) then none else (if (x8 / x10) = (x4 / x6) then (fX1_between_L91 σ k53 x3 x4 x6 x8 x10 x12 x14 x16 x18 (x4 / x6) (1 : Int32)) else (fX1_between_L90 σ k53 x3 x4 x6 x8 x10 x12 x14 x16 x18 (x4 / x6))))))))
def fX1_between_L53 (σ : MS)   (x3 : Int32) (x4 : Int64) (x6 : Int64) (x8 : Int64) (x10 : Int64) (x12 : Int64) (x14 : Int64) (x16 : Int64) (x18 : Int64) (x20 : Int32) : Option (Int32 × MS) := lp (fun k t => fX1_between_B53 t.2.2.2.2.2.2.2.2.2.2   k t.1 t.2.1 t.2.2.1 t.2.2.2.1 t.2.2.2.2.1 t.2.2.2.2.2.1 t.2.2.2.2.2.2.1 t.2.2.2.2.2.2.2.1 t.2.2.2.2.2.2.2.2.1 t.2.2.2.2.2.2.2.2.2.1) FU (x3, x4, x6, x8, x10, x12, x14, x16, x18, x20, σ)
set_option maxHeartbeats 4000000 in
set_option maxRecDepth 100000 in
theorem wX1_between_B53 {p : Program} {l : Launch} {e : Env} {s : State} {m : MethodId} {args : Array Value} {below : List Frame} {meth : Method} {c : Code} {A : Nat → Prop} {D : va_G} {kc : Nat → ClassId} {q : Nat → Nat} {out : Int32 × MS} (C : cxt p s m args meth c RX1 cX1_between 31 (some .int) wsX1_between) (hA : ∀ x, s.heap.size ≤ x → A x) (hK : va_K D vwCl (tysX1 kc) s) (k53 : Int32 × Int64 × Int64 × Int64 × Int64 × Int64 × Int64 × Int64 × Int64 × Int32 × MS → Option (Int32 × MS)) (hk53 : ∀ (x3 : Int32) (x4 : Int64) (x6 : Int64) (x8 : Int64) (x10 : Int64) (x12 : Int64) (x14 : Int64) (x16 : Int64) (x18 : Int64) (x20 : Int32) (σ : MS) (H : Heap) (locs : List Loc) (ls : Array Slot), k53 (x3, x4, x6, x8, x10, x12, x14, x16, x18, x20, σ) = some out → va_P D vwCl (wX1 kc q σ) H → va_D A (wX1 kc q σ) → va_S A s.heap H locs → lv_has ls 31 [(0, .ref (q 0)), (3, .int x3), (4, .long x4), (6, .long x6), (8, .long x8), (10, .long x10), (12, .long x12), (14, .long x14), (16, .long x16), (18, .long x18), (20, .int x20)] → W p l e rmX1_between s m args below meth c H locs 0 0 (MQ below (QMi D (tysX1 kc) (wX1 kc q) A out) args s 0 0 A) (F0 m 53 ls [])) (σ : MS) (x3 : Int32) (x4 : Int64) (x6 : Int64) (x8 : Int64) (x10 : Int64) (x12 : Int64) (x14 : Int64) (x16 : Int64) (x18 : Int64) (x20 : Int32) (H : Heap) (locs : List Loc) (ls : Array Slot) (h : fX1_between_B53 σ   k53 x3 x4 x6 x8 x10 x12 x14 x16 x18 x20 = some out) (hP : va_P D vwCl (wX1 kc q σ) H) (hD : va_D A (wX1 kc q σ)) (hS : va_S A s.heap H locs) (hl : lv_has ls 31 [(0, .ref (q 0)), (3, .int x3), (4, .long x4), (6, .long x6), (8, .long x8), (10, .long x10), (12, .long x12), (14, .long x14), (16, .long x16), (18, .long x18), (20, .int x20)]) : W p l e rmX1_between s m args below meth c H locs 0 0 (MQ below (QMi D (tysX1 kc) (wX1 kc q) A out) args s 0 0 A) (F0 m 53 ls []) := by
  obtain ⟨hx, hb, hr, hml, hown, hts, hlocks⟩ := id C
  unfold fX1_between_B53 at h
  refine lv_iload hx hb dX1_between_53 (lv_at hl 10 rfl) ?_
  refine lv_if_eq (tgt := 188) hx hb dX1_between_55 (by decide) (fun c1 => ?_) (fun c1 => ?_)
  · replace h := br_p c1 h
    refine lv_aload_n hx hb dX1_between_188 rfl (lv_at hl 0 rfl) ?_
    refine lv_iload_n hx hb dX1_between_189 rfl (lv_at hl 1 rfl) ?_
    refine lv_if_eq (tgt := 199) hx hb dX1_between_190 (by decide) (fun c2 => ?_) (fun c2 => ?_)
    · replace h := br_p c2 h
      refine lv_lload hx hb dX1_between_199 (lv_at hl 8 rfl) ?_
      exact wX1_between_L201 C hA hK  σ x18 x16 H locs ls h hP hD hS (lv_sub hl [0, 9] rfl)
    · replace h := br_n c2 h
      refine lv_lload hx hb dX1_between_193 (lv_at hl 8 rfl) ?_
      refine lv_lneg hx hb dX1_between_195 ?_
      refine lv_goto (tgt := 201) hx hb dX1_between_196 (by decide) ?_
      exact wX1_between_L201 C hA hK  σ x18 (-x16) H locs ls h hP hD hS (lv_sub hl [0, 9] rfl)
  · replace h := br_n c1 h
    refine lv_lload hx hb dX1_between_58 (lv_at hl 2 rfl) ?_
    refine lv_lload hx hb dX1_between_60 (lv_at hl 3 rfl) ?_
    obtain ⟨g3, h⟩ := gd_f h
    refine lv_ldiv hx hb dX1_between_62 g3 ?_
    refine lv_lstore (lv' := [(21, .long (x4 / x6)), (0, .ref (q 0)), (3, .int x3), (4, .long x4), (6, .long x6), (8, .long x8), (10, .long x10), (12, .long x12), (14, .long x14), (16, .long x16), (18, .long x18), (20, .int x20)]) hx hb dX1_between_63 hl (by decide) rfl (fun ls hl => ?_)
    refine lv_lload hx hb dX1_between_65 (lv_at hl 3 rfl) ?_
    refine lv_lload hx hb dX1_between_67 (lv_at hl 4 rfl) ?_
    obtain ⟨g4, h⟩ := gd_f h
    refine lv_lrem hx hb dX1_between_69 g4 ?_
    refine lv_lconst (v := (0 : Int64)) hx hb dX1_between_70 (by decide) ?_
    refine xl_eq (tgt := 90) hx hb dX1_between_71 dX1_between_72 (by decide) (fun c5 => ?_) (fun c5 => ?_)
    · replace h := br_p c5 h
      exact wX1_between_L90 C hA hK k53 hk53 σ x3 x4 x6 x8 x10 x12 x14 x16 x18 (x4 / x6) H locs ls h hP hD hS (lv_sub hl [1, 2, 3, 4, 5, 6, 7, 8, 9, 10, 0] rfl)
    · replace h := br_n c5 h
      refine lv_lload hx hb dX1_between_75 (lv_at hl 5 rfl) ?_
      refine lv_lload hx hb dX1_between_77 (lv_at hl 6 rfl) ?_
      obtain ⟨g6, h⟩ := gd_f h
      refine lv_ldiv hx hb dX1_between_79 g6 ?_
      refine lv_lload hx hb dX1_between_80 (lv_at hl 0 rfl) ?_
      refine xl_ne (tgt := 90) hx hb dX1_between_82 dX1_between_83 (by decide) (fun c7 => ?_) (fun c7 => ?_)
      · replace h := br_n c7 h
        exact wX1_between_L90 C hA hK k53 hk53 σ x3 x4 x6 x8 x10 x12 x14 x16 x18 (x4 / x6) H locs ls h hP hD hS (lv_sub hl [1, 2, 3, 4, 5, 6, 7, 8, 9, 10, 0] rfl)
      · replace h := br_p c7 h
        refine lv_iconst (v := (1 : Int32)) hx hb dX1_between_86 (by decide) ?_
        refine lv_goto (tgt := 91) hx hb dX1_between_87 (by decide) ?_
        exact wX1_between_L91 C hA hK k53 hk53 σ x3 x4 x6 x8 x10 x12 x14 x16 x18 (x4 / x6) (1 : Int32) H locs ls h hP hD hS (lv_sub hl [1, 2, 3, 4, 5, 6, 7, 8, 9, 10, 0] rfl)
set_option maxHeartbeats 4000000 in
set_option maxRecDepth 100000 in
theorem wX1_between_L53 {p : Program} {l : Launch} {e : Env} {s : State} {m : MethodId} {args : Array Value} {below : List Frame} {meth : Method} {c : Code} {A : Nat → Prop} {D : va_G} {kc : Nat → ClassId} {q : Nat → Nat} {out : Int32 × MS} (C : cxt p s m args meth c RX1 cX1_between 31 (some .int) wsX1_between) (hA : ∀ x, s.heap.size ≤ x → A x) (hK : va_K D vwCl (tysX1 kc) s) (σ : MS) (x3 : Int32) (x4 : Int64) (x6 : Int64) (x8 : Int64) (x10 : Int64) (x12 : Int64) (x14 : Int64) (x16 : Int64) (x18 : Int64) (x20 : Int32) (H : Heap) (locs : List Loc) (ls : Array Slot) (h : fX1_between_L53 σ   x3 x4 x6 x8 x10 x12 x14 x16 x18 x20 = some out) (hP : va_P D vwCl (wX1 kc q σ) H) (hD : va_D A (wX1 kc q σ)) (hS : va_S A s.heap H locs) (hl : lv_has ls 31 [(0, .ref (q 0)), (3, .int x3), (4, .long x4), (6, .long x6), (8, .long x8), (10, .long x10), (12, .long x12), (14, .long x14), (16, .long x16), (18, .long x18), (20, .int x20)]) : W p l e rmX1_between s m args below meth c H locs 0 0 (MQ below (QMi D (tysX1 kc) (wX1 kc q) A out) args s 0 0 A) (F0 m 53 ls []) := by
  unfold fX1_between_L53 at h
  exact lp_ind (P := fun t : Int32 × Int64 × Int64 × Int64 × Int64 × Int64 × Int64 × Int64 × Int64 × Int32 × MS => ∀ (H : Heap) (locs : List Loc) (ls : Array Slot), va_P D vwCl (wX1 kc q t.2.2.2.2.2.2.2.2.2.2) H → va_D A (wX1 kc q t.2.2.2.2.2.2.2.2.2.2) → va_S A s.heap H locs → lv_has ls 31 [(0, .ref (q 0)), (3, .int t.1), (4, .long t.2.1), (6, .long t.2.2.1), (8, .long t.2.2.2.1), (10, .long t.2.2.2.2.1), (12, .long t.2.2.2.2.2.1), (14, .long t.2.2.2.2.2.2.1), (16, .long t.2.2.2.2.2.2.2.1), (18, .long t.2.2.2.2.2.2.2.2.1), (20, .int t.2.2.2.2.2.2.2.2.2.1)] → W p l e rmX1_between s m args below meth c H locs 0 0 (MQ below (QMi D (tysX1 kc) (wX1 kc q) A out) args s 0 0 A) (F0 m 53 ls [])) (fun k hk t h H locs ls hP hD hS hl => wX1_between_B53 C hA hK  k (fun x3 x4 x6 x8 x10 x12 x14 x16 x18 x20 σ H locs ls h hP hD hS hl => hk (x3, x4, x6, x8, x10, x12, x14, x16, x18, x20, σ) h H locs ls hP hD hS hl) t.2.2.2.2.2.2.2.2.2.2 t.1 t.2.1 t.2.2.1 t.2.2.2.1 t.2.2.2.2.1 t.2.2.2.2.2.1 t.2.2.2.2.2.2.1 t.2.2.2.2.2.2.2.1 t.2.2.2.2.2.2.2.2.1 t.2.2.2.2.2.2.2.2.2.1 H locs ls h hP hD hS hl) FU (x3, x4, x6, x8, x10, x12, x14, x16, x18, x20, σ) h H locs ls hP hD hS hl
def fX1_between (σ : MS)  (x1 : Int32) (x2 : Int32) (x3 : Int32) : Option (Int32 × MS) := (if ix x1 41 = true then ((fX1_sizeOf ((m_upper σ) x1.toNatClampNeg)).bind fun o2 => (if ix x1 41 = true then (if ix x2 41 = true then ((fX1_sizeOf ((m_upper σ) x2.toNatClampNeg)).bind fun o6 => (if ix x2 41 = true then (fX1_between_L53 σ x3 o2 ((m_lower σ) x1.toNatClampNeg) o6 ((m_lower σ) x2.toNatClampNeg) (0 : Int64) (1 : Int64) (1 : Int64) (0 : Int64) (1 : Int32)) else none)) else none) else none)) else none)
set_option maxHeartbeats 4000000 in
set_option maxRecDepth 100000 in
theorem mX1_between (l : Launch) (D : va_G) (kc : Nat → ClassId) (q : Nat → Nat) (σ : MS) (x1 : Int32) (x2 : Int32) (x3 : Int32) (out : Int32 × MS) (h : fX1_between σ  x1 x2 x3 = some out) : MMi l yX1_between wsX1_between rmX1_between D (tysX1 kc) (wX1 kc q) σ [.ref (q 0), .int x1, .int x2, .int x3] out := by
  refine ofMi (cc := cX1_between) (maxL := 31) (ret := (some .int)) (lv := [(0, .ref (q 0)), (1, .int x1), (2, .int x2), (3, .int x3)]) (by decide) rfl (Nat.le_of_ble_eq_true rfl) rfl ?_
  intro p e s m args below meth c A C hA hK hP hD hS ls hl
  have C : cxt p s m args meth c RX1 cX1_between 31 (some .int) wsX1_between := C
  obtain ⟨hx, hb, hr, hml, hown, hts, hlocks⟩ := id C
  obtain ⟨H, hH⟩ : ∃ H, H = s.heap := ⟨_, rfl⟩
  obtain ⟨locs, hlocs⟩ : ∃ locs : List Loc, locs = [] := ⟨_, rfl⟩
  have hS : va_S A s.heap H locs := by rw [hH, hlocs]; exact va_S.rf
  rw [← hH] at hP
  suffices hW : W p l e rmX1_between s m args below meth c H locs 0 0 _ (F0 m 0 ls []) by rw [hH, hlocs] at hW; exact hW
  unfold fX1_between at h
  refine lv_aload_n hx hb dX1_between_0 rfl (lv_at hl 0 rfl) ?_
  refine rdX1_upper hx hb hts hinX1_between hown hK hP (hts (.fieldLink RX1 7 "ExactSharesModel" "upper" "[J") (List.mem_of_getElem? (i := 1) rfl)) dX1_between_1 ?_
  refine lv_iload_n hx hb dX1_between_4 rfl (lv_at hl 1 rfl) ?_
  obtain ⟨g1, h⟩ := gd_t h
  refine ldX1_upper hx hb hK hP g1 dX1_between_5 ?_
  obtain ⟨o2, ho3, h⟩ := bi h
  refine caPl (As := [.long ((m_upper σ) x1.toNatClampNeg)]) (rest := []) ⟨hx, hb, hml, hown, hts⟩ (mX1_sizeOf l ((m_upper σ) x1.toNatClampNeg) o2 ho3) (va_cwS 1 hts gX1_between_X1_sizeOf rfl rfl rfl (by decide +kernel) ⟨Nat.le_of_ble_eq_true rfl, Nat.le_of_ble_eq_true rfl⟩) rfl hl.1 (Nat.le_of_ble_eq_true rfl) dX1_between_6 ⟨Nat.zero_le _, Nat.zero_le _⟩ ?_
  refine lv_lstore (lv' := [(4, .long o2), (0, .ref (q 0)), (1, .int x1), (2, .int x2), (3, .int x3)]) hx hb dX1_between_9 hl (by decide) rfl (fun ls hl => ?_)
  refine lv_aload_n hx hb dX1_between_11 rfl (lv_at hl 1 rfl) ?_
  refine rdX1_lower hx hb hts hinX1_between hown hK hP (hts (.fieldLink RX1 13 "ExactSharesModel" "lower" "[J") (List.mem_of_getElem? (i := 2) rfl)) dX1_between_12 ?_
  refine lv_iload_n hx hb dX1_between_15 rfl (lv_at hl 2 rfl) ?_
  obtain ⟨g4, h⟩ := gd_t h
  refine ldX1_lower hx hb hK hP g4 dX1_between_16 ?_
  refine lv_lstore (lv' := [(6, .long ((m_lower σ) x1.toNatClampNeg)), (4, .long o2), (0, .ref (q 0)), (1, .int x1), (2, .int x2), (3, .int x3)]) hx hb dX1_between_17 hl (by decide) rfl (fun ls hl => ?_)
  refine lv_aload_n hx hb dX1_between_19 rfl (lv_at hl 2 rfl) ?_
  refine rdX1_upper hx hb hts hinX1_between hown hK hP (hts (.fieldLink RX1 7 "ExactSharesModel" "upper" "[J") (List.mem_of_getElem? (i := 1) rfl)) dX1_between_20 ?_
  refine lv_iload_n hx hb dX1_between_23 rfl (lv_at hl 4 rfl) ?_
  obtain ⟨g5, h⟩ := gd_t h
  refine ldX1_upper hx hb hK hP g5 dX1_between_24 ?_
  obtain ⟨o6, ho7, h⟩ := bi h
  refine caPl (As := [.long ((m_upper σ) x2.toNatClampNeg)]) (rest := []) ⟨hx, hb, hml, hown, hts⟩ (mX1_sizeOf l ((m_upper σ) x2.toNatClampNeg) o6 ho7) (va_cwS 1 hts gX1_between_X1_sizeOf rfl rfl rfl (by decide +kernel) ⟨Nat.le_of_ble_eq_true rfl, Nat.le_of_ble_eq_true rfl⟩) rfl hl.1 (Nat.le_of_ble_eq_true rfl) dX1_between_25 ⟨Nat.zero_le _, Nat.zero_le _⟩ ?_
  refine lv_lstore (lv' := [(8, .long o6), (6, .long ((m_lower σ) x1.toNatClampNeg)), (4, .long o2), (0, .ref (q 0)), (1, .int x1), (2, .int x2), (3, .int x3)]) hx hb dX1_between_28 hl (by decide) rfl (fun ls hl => ?_)
  refine lv_aload_n hx hb dX1_between_30 rfl (lv_at hl 3 rfl) ?_
  refine rdX1_lower hx hb hts hinX1_between hown hK hP (hts (.fieldLink RX1 13 "ExactSharesModel" "lower" "[J") (List.mem_of_getElem? (i := 2) rfl)) dX1_between_31 ?_
  refine lv_iload_n hx hb dX1_between_34 rfl (lv_at hl 5 rfl) ?_
  obtain ⟨g8, h⟩ := gd_t h
  refine ldX1_lower hx hb hK hP g8 dX1_between_35 ?_
  refine lv_lstore (lv' := [(10, .long ((m_lower σ) x2.toNatClampNeg)), (8, .long o6), (6, .long ((m_lower σ) x1.toNatClampNeg)), (4, .long o2), (0, .ref (q 0)), (1, .int x1), (2, .int x2), (3, .int x3)]) hx hb dX1_between_36 hl (by decide) rfl (fun ls hl => ?_)
  refine lv_lconst (v := (0 : Int64)) hx hb dX1_between_38 (by decide) ?_
  refine lv_lstore (lv' := [(12, .long (0 : Int64)), (10, .long ((m_lower σ) x2.toNatClampNeg)), (8, .long o6), (6, .long ((m_lower σ) x1.toNatClampNeg)), (4, .long o2), (0, .ref (q 0)), (1, .int x1), (2, .int x2), (3, .int x3)]) hx hb dX1_between_39 hl (by decide) rfl (fun ls hl => ?_)
  refine lv_lconst (v := (1 : Int64)) hx hb dX1_between_41 (by decide) ?_
  refine lv_lstore (lv' := [(14, .long (1 : Int64)), (12, .long (0 : Int64)), (10, .long ((m_lower σ) x2.toNatClampNeg)), (8, .long o6), (6, .long ((m_lower σ) x1.toNatClampNeg)), (4, .long o2), (0, .ref (q 0)), (1, .int x1), (2, .int x2), (3, .int x3)]) hx hb dX1_between_42 hl (by decide) rfl (fun ls hl => ?_)
  refine lv_lconst (v := (1 : Int64)) hx hb dX1_between_44 (by decide) ?_
  refine lv_lstore (lv' := [(16, .long (1 : Int64)), (14, .long (1 : Int64)), (12, .long (0 : Int64)), (10, .long ((m_lower σ) x2.toNatClampNeg)), (8, .long o6), (6, .long ((m_lower σ) x1.toNatClampNeg)), (4, .long o2), (0, .ref (q 0)), (1, .int x1), (2, .int x2), (3, .int x3)]) hx hb dX1_between_45 hl (by decide) rfl (fun ls hl => ?_)
  refine lv_lconst (v := (0 : Int64)) hx hb dX1_between_47 (by decide) ?_
  refine lv_lstore (lv' := [(18, .long (0 : Int64)), (16, .long (1 : Int64)), (14, .long (1 : Int64)), (12, .long (0 : Int64)), (10, .long ((m_lower σ) x2.toNatClampNeg)), (8, .long o6), (6, .long ((m_lower σ) x1.toNatClampNeg)), (4, .long o2), (0, .ref (q 0)), (1, .int x1), (2, .int x2), (3, .int x3)]) hx hb dX1_between_48 hl (by decide) rfl (fun ls hl => ?_)
  refine lv_iconst (v := (1 : Int32)) hx hb dX1_between_50 (by decide) ?_
  refine lv_istore (lv' := [(20, .int (1 : Int32)), (18, .long (0 : Int64)), (16, .long (1 : Int64)), (14, .long (1 : Int64)), (12, .long (0 : Int64)), (10, .long ((m_lower σ) x2.toNatClampNeg)), (8, .long o6), (6, .long ((m_lower σ) x1.toNatClampNeg)), (4, .long o2), (0, .ref (q 0)), (1, .int x1), (2, .int x2), (3, .int x3)]) hx hb dX1_between_51 hl (by decide) rfl (fun ls hl => ?_)
  exact wX1_between_L53 C hA hK  σ x3 o2 ((m_lower σ) x1.toNatClampNeg) o6 ((m_lower σ) x2.toNatClampNeg) (0 : Int64) (1 : Int64) (1 : Int64) (0 : Int64) (1 : Int32) H locs ls h hP hD hS (lv_sub hl [9, 12, 8, 7, 6, 5, 4, 3, 2, 1, 0] rfl)
