abbrev rmX1_ways : Room := { frames := 0, cells := 0, slots := 0, locals := 0 }
theorem hinX1_ways : ∀ w ∈ u_ws RX1 TX1 17, w ∈ wsX1_ways := by first | exact fun _ h => List.mem_cons_of_mem _ (List.mem_append_right _ h) | exact fun _ h => List.mem_cons_of_mem _ (List.mem_append_left _ (List.mem_append_right _ h)) | decide +kernel
def fX1_ways (σ : MS)  (x1 : Int32) : Option (Int32 × MS) := (bd (sm_thrown σ (0 : Int32)) fun s1 => (if (m_isTested s1) = (0 : Int32) then (some ((-5 : Int32), s1)) else (if x1 = (0 : Int32) then (some ((m_notBelow s1), s1)) else (if x1 = (1 : Int32) then (some ((m_all s1), s1)) else (if x1 = (2 : Int32) then (some ((m_just s1), s1)) else (some ((-1 : Int32), s1)))))))
set_option maxHeartbeats 4000000 in
set_option maxRecDepth 100000 in
theorem mX1_ways (l : Launch) (D : va_G) (kc : Nat → ClassId) (q : Nat → Nat) (σ : MS) (x1 : Int32) (out : Int32 × MS) (h : fX1_ways σ  x1 = some out) : MMi l yX1_ways wsX1_ways rmX1_ways D (tysX1 kc) (wX1 kc q) σ [.ref (q 0), .int x1] out := by
  refine ofMi (cc := cX1_ways) (maxL := 2) (ret := (some .int)) (lv := [(0, .ref (q 0)), (1, .int x1)]) (by decide) rfl (Nat.le_of_ble_eq_true rfl) rfl ?_
  intro p e s m args below meth c A C hA hK hP hD hS ls hl
  have C : cxt p s m args meth c RX1 cX1_ways 2 (some .int) wsX1_ways := C
  obtain ⟨hx, hb, hr, hml, hown, hts, hlocks⟩ := id C
  obtain ⟨H, hH⟩ : ∃ H, H = s.heap := ⟨_, rfl⟩
  obtain ⟨locs, hlocs⟩ : ∃ locs : List Loc, locs = [] := ⟨_, rfl⟩
  have hS : va_S A s.heap H locs := by rw [hH, hlocs]; exact va_S.rf
  rw [← hH] at hP
  suffices hW : W p l e rmX1_ways s m args below meth c H locs 0 0 _ (F0 m 0 ls []) by rw [hH, hlocs] at hW; exact hW
  unfold fX1_ways at h
  refine lv_aload_n hx hb dX1_ways_0 rfl (lv_at hl 0 rfl) ?_
  refine lv_iconst (v := (0 : Int32)) hx hb dX1_ways_1 (by decide) ?_
  refine wrX1_thrown (v := (0 : Int32)) hx hb hts hinX1_ways hown hK hP hD hS (hts (.fieldLink RX1 43 "ExactSharesModel" "thrown" "I") (List.mem_of_getElem? (i := 1) rfl)) dX1_ways_2 (fun H locs hP hD hS => ?_)
  obtain ⟨s1, e2, h⟩ := bd_e h
  replace hP : va_P D vwCl (wX1 kc q s1) H := by rw [e2]; exact hP
  replace hD : va_D A (wX1 kc q s1) := by rw [e2]; exact hD
  clear e2
  refine lv_aload_n hx hb dX1_ways_5 rfl (lv_at hl 0 rfl) ?_
  refine rdX1_isTested hx hb hts hinX1_ways hown hK hP (hts (.fieldLink RX1 154 "ExactSharesModel" "isTested" "Z") (List.mem_of_getElem? (i := 2) rfl)) dX1_ways_6 ?_
  refine lv_if_ne (tgt := 15) hx hb dX1_ways_9 (by decide) (fun c3 => ?_) (fun c3 => ?_)
  · replace h := br_n c3 h
    refine lv_iload_n hx hb dX1_ways_15 rfl (lv_at hl 1 rfl) ?_
    refine lv_if_ne (tgt := 26) hx hb dX1_ways_16 (by decide) (fun c4 => ?_) (fun c4 => ?_)
    · replace h := br_n c4 h
      refine lv_iload_n hx hb dX1_ways_26 rfl (lv_at hl 1 rfl) ?_
      refine lv_iconst (v := (1 : Int32)) hx hb dX1_ways_27 (by decide) ?_
      refine lv_icmp_ne (tgt := 38) hx hb dX1_ways_28 (by decide) (fun c5 => ?_) (fun c5 => ?_)
      · replace h := br_n c5 h
        refine lv_iload_n hx hb dX1_ways_38 rfl (lv_at hl 1 rfl) ?_
        refine lv_iconst (v := (2 : Int32)) hx hb dX1_ways_39 (by decide) ?_
        refine lv_icmp_ne (tgt := 50) hx hb dX1_ways_40 (by decide) (fun c6 => ?_) (fun c6 => ?_)
        · replace h := br_n c6 h
          refine lv_iconst (v := (-1 : Int32)) hx hb dX1_ways_50 (by decide) ?_
          exact reMi (v := (-1 : Int32)) hx hb hr hlocks hK hP hD hS h dX1_ways_51
        · replace h := br_p c6 h
          refine lv_aload_n hx hb dX1_ways_43 rfl (lv_at hl 0 rfl) ?_
          refine rdX1_just hx hb hts hinX1_ways hown hK hP (hts (.fieldLink RX1 151 "ExactSharesModel" "just" "I") (List.mem_of_getElem? (i := 5) rfl)) dX1_ways_44 ?_
          refine lv_goto (tgt := 51) hx hb dX1_ways_47 (by decide) ?_
          exact reMi (v := (m_just s1)) hx hb hr hlocks hK hP hD hS h dX1_ways_51
      · replace h := br_p c5 h
        refine lv_aload_n hx hb dX1_ways_31 rfl (lv_at hl 0 rfl) ?_
        refine rdX1_all hx hb hts hinX1_ways hown hK hP (hts (.fieldLink RX1 148 "ExactSharesModel" "all" "I") (List.mem_of_getElem? (i := 4) rfl)) dX1_ways_32 ?_
        refine lv_goto (tgt := 51) hx hb dX1_ways_35 (by decide) ?_
        exact reMi (v := (m_all s1)) hx hb hr hlocks hK hP hD hS h dX1_ways_51
    · replace h := br_p c4 h
      refine lv_aload_n hx hb dX1_ways_19 rfl (lv_at hl 0 rfl) ?_
      refine rdX1_notBelow hx hb hts hinX1_ways hown hK hP (hts (.fieldLink RX1 145 "ExactSharesModel" "notBelow" "I") (List.mem_of_getElem? (i := 3) rfl)) dX1_ways_20 ?_
      refine lv_goto (tgt := 51) hx hb dX1_ways_23 (by decide) ?_
      exact reMi (v := (m_notBelow s1)) hx hb hr hlocks hK hP hD hS h dX1_ways_51
  · replace h := br_p c3 h
    refine lv_bipush (v := (-5 : Int32)) hx hb dX1_ways_12 (by decide) ?_
    exact reMi (v := (-5 : Int32)) hx hb hr hlocks hK hP hD hS h dX1_ways_14
abbrev rmX1_count : Room := { frames := 1, cells := 0, slots := 0, locals := 25 }
theorem hinX1_count : ∀ w ∈ u_ws RX1 TX1 17, w ∈ wsX1_count := by first | exact fun _ h => List.mem_cons_of_mem _ (List.mem_append_right _ h) | exact fun _ h => List.mem_cons_of_mem _ (List.mem_append_left _ (List.mem_append_right _ h)) | decide +kernel
def fX1_count (σ : MS)  (x1 : Int32) : Option (Int32 × MS) := (bd (sm_thrown σ (0 : Int32)) fun s1 => (if x1 = (0 : Int32) then (some ((m_numbers s1), s1)) else ((fX1_isIn (x1.toInt64) (1 : Int64) (4 : Int64)).bind fun o4 => (if o4 = (0 : Int32) then (if x1 = (5 : Int32) then (some ((m_grown s1), s1)) else (some ((-1 : Int32), s1))) else (if ix (x1 - (1 : Int32)) 4 = true then (some (((m_many s1) (x1 - (1 : Int32)).toNatClampNeg), s1)) else none)))))
set_option maxHeartbeats 4000000 in
set_option maxRecDepth 100000 in
theorem mX1_count (l : Launch) (D : va_G) (kc : Nat → ClassId) (q : Nat → Nat) (σ : MS) (x1 : Int32) (out : Int32 × MS) (h : fX1_count σ  x1 = some out) : MMi l yX1_count wsX1_count rmX1_count D (tysX1 kc) (wX1 kc q) σ [.ref (q 0), .int x1] out := by
  refine ofMi (cc := cX1_count) (maxL := 2) (ret := (some .int)) (lv := [(0, .ref (q 0)), (1, .int x1)]) (by decide) rfl (Nat.le_of_ble_eq_true rfl) rfl ?_
  intro p e s m args below meth c A C hA hK hP hD hS ls hl
  have C : cxt p s m args meth c RX1 cX1_count 2 (some .int) wsX1_count := C
  obtain ⟨hx, hb, hr, hml, hown, hts, hlocks⟩ := id C
  obtain ⟨H, hH⟩ : ∃ H, H = s.heap := ⟨_, rfl⟩
  obtain ⟨locs, hlocs⟩ : ∃ locs : List Loc, locs = [] := ⟨_, rfl⟩
  have hS : va_S A s.heap H locs := by rw [hH, hlocs]; exact va_S.rf
  rw [← hH] at hP
  suffices hW : W p l e rmX1_count s m args below meth c H locs 0 0 _ (F0 m 0 ls []) by rw [hH, hlocs] at hW; exact hW
  unfold fX1_count at h
  refine lv_aload_n hx hb dX1_count_0 rfl (lv_at hl 0 rfl) ?_
  refine lv_iconst (v := (0 : Int32)) hx hb dX1_count_1 (by decide) ?_
  refine wrX1_thrown (v := (0 : Int32)) hx hb hts hinX1_count hown hK hP hD hS (hts (.fieldLink RX1 43 "ExactSharesModel" "thrown" "I") (List.mem_of_getElem? (i := 1) rfl)) dX1_count_2 (fun H locs hP hD hS => ?_)
  obtain ⟨s1, e2, h⟩ := bd_e h
  replace hP : va_P D vwCl (wX1 kc q s1) H := by rw [e2]; exact hP
  replace hD : va_D A (wX1 kc q s1) := by rw [e2]; exact hD
  clear e2
  refine lv_iload_n hx hb dX1_count_5 rfl (lv_at hl 1 rfl) ?_
  refine lv_if_ne (tgt := 16) hx hb dX1_count_6 (by decide) (fun c3 => ?_) (fun c3 => ?_)
  · replace h := br_n c3 h
    refine lv_iload_n hx hb dX1_count_16 rfl (lv_at hl 1 rfl) ?_
    refine lv_i2l (v := (x1.toInt64)) hx hb dX1_count_17 rfl ?_
    refine lv_lconst (v := (1 : Int64)) hx hb dX1_count_18 (by decide) ?_
    refine lv_ldc2 (v := (4 : Int64)) hx hb hown (hts (.constantLong RX1 157 (4)) (List.mem_of_getElem? (i := 3) rfl)) dX1_count_19 ?_
    obtain ⟨o4, ho5, h⟩ := bi h
    refine caPi (As := [.long (x1.toInt64), .long (1 : Int64), .long (4 : Int64)]) (rest := []) ⟨hx, hb, hml, hown, hts⟩ (mX1_isIn l (x1.toInt64) (1 : Int64) (4 : Int64) o4 ho5) (va_cwS 3 hts gX1_count_X1_isIn rfl rfl rfl (by decide +kernel) ⟨Nat.le_of_ble_eq_true rfl, Nat.le_of_ble_eq_true rfl⟩) rfl hl.1 (Nat.le_of_ble_eq_true rfl) dX1_count_22 ⟨Nat.zero_le _, Nat.zero_le _⟩ ?_
    refine lv_if_eq (tgt := 39) hx hb dX1_count_25 (by decide) (fun c6 => ?_) (fun c6 => ?_)
    · replace h := br_p c6 h
      refine lv_iload_n hx hb dX1_count_39 rfl (lv_at hl 1 rfl) ?_
      refine lv_iconst (v := (5 : Int32)) hx hb dX1_count_40 (by decide) ?_
      refine lv_icmp_ne (tgt := 51) hx hb dX1_count_41 (by decide) (fun c7 => ?_) (fun c7 => ?_)
      · replace h := br_n c7 h
        refine lv_iconst (v := (-1 : Int32)) hx hb dX1_count_51 (by decide) ?_
        exact reMi (v := (-1 : Int32)) hx hb hr hlocks hK hP hD hS h dX1_count_52
      · replace h := br_p c7 h
        refine lv_aload_n hx hb dX1_count_44 rfl (lv_at hl 0 rfl) ?_
        refine rdX1_grown hx hb hts hinX1_count hown hK hP (hts (.fieldLink RX1 89 "ExactSharesModel" "grown" "I") (List.mem_of_getElem? (i := 5) rfl)) dX1_count_45 ?_
        refine lv_goto (tgt := 52) hx hb dX1_count_48 (by decide) ?_
        exact reMi (v := (m_grown s1)) hx hb hr hlocks hK hP hD hS h dX1_count_52
    · replace h := br_n c6 h
      refine lv_aload_n hx hb dX1_count_28 rfl (lv_at hl 0 rfl) ?_
      refine rdX1_many hx hb hts hinX1_count hown hK hP (hts (.fieldLink RX1 19 "ExactSharesModel" "many" "[I") (List.mem_of_getElem? (i := 4) rfl)) dX1_count_29 ?_
      refine lv_iload_n hx hb dX1_count_32 rfl (lv_at hl 1 rfl) ?_
      refine lv_iconst (v := (1 : Int32)) hx hb dX1_count_33 (by decide) ?_
      refine lv_isub hx hb dX1_count_34 ?_
      obtain ⟨g8, h⟩ := gd_t h
      refine ldX1_many hx hb hK hP g8 dX1_count_35 ?_
      refine lv_goto (tgt := 52) hx hb dX1_count_36 (by decide) ?_
      exact reMi (v := ((m_many s1) (x1 - (1 : Int32)).toNatClampNeg)) hx hb hr hlocks hK hP hD hS h dX1_count_52
  · replace h := br_p c3 h
    refine lv_aload_n hx hb dX1_count_9 rfl (lv_at hl 0 rfl) ?_
    refine rdX1_numbers hx hb hts hinX1_count hown hK hP (hts (.fieldLink RX1 56 "ExactSharesModel" "numbers" "I") (List.mem_of_getElem? (i := 2) rfl)) dX1_count_10 ?_
    refine lv_goto (tgt := 52) hx hb dX1_count_13 (by decide) ?_
    exact reMi (v := (m_numbers s1)) hx hb hr hlocks hK hP hD hS h dX1_count_52
