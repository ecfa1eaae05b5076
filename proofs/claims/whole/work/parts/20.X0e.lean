abbrev rmX0_into : Room := { frames := 1, cells := 0, slots := 0, locals := 20 }
theorem hinX0_into : ∀ w ∈ u_ws RX0 TX0 13, w ∈ wsX0_into := by first | exact fun _ h => List.mem_cons_of_mem _ (List.mem_append_right _ h) | exact fun _ h => List.mem_cons_of_mem _ (List.mem_append_left _ (List.mem_append_right _ h)) | decide +kernel
def fX0_into (σ : CS)  (x1 : Int32) (x2 : Int64) : Option (Int32 × CS) := ((fX0_isRow x1).bind fun o1 => (if o1 = (0 : Int32) then (some ((-1 : Int32), σ)) else (if x2 < (0 : Int64) then (some ((-1 : Int32), σ)) else (if x2 ≤ (1000000 : Int64) then (if ix x1 4 = true then (if ((c_sizes σ) x1.toNatClampNeg) < (8 : Int32) then (if ix x1 4 = true then (if ix x1 4 = true then (if ix ((c_sizes σ) x1.toNatClampNeg) 8 = true then (bd (sc_values σ (va_up (c_values σ) x1.toNatClampNeg (vp_updL ((c_values σ) x1.toNatClampNeg) ((c_sizes σ) x1.toNatClampNeg).toNatClampNeg x2))) fun s11 => (if ix x1 4 = true then (if ix x1 4 = true then (bd (sc_sizes s11 (upd (c_sizes s11) x1.toNatClampNeg (((c_sizes s11) x1.toNatClampNeg) + (1 : Int32)))) fun s15 => (if ix x1 4 = true then (some (((c_sizes s15) x1.toNatClampNeg), s15)) else none)) else none) else none)) else none) else none) else none) else (some ((-4 : Int32), σ))) else none) else (some ((-1 : Int32), σ))))))
set_option maxHeartbeats 4000000 in
set_option maxRecDepth 100000 in
theorem mX0_into (l : Launch) (D : va_G) (kc : Nat → ClassId) (q : Nat → Nat) (σ : CS) (x1 : Int32) (x2 : Int64) (out : Int32 × CS) (h : fX0_into σ  x1 x2 = some out) : MMi l yX0_into wsX0_into rmX0_into D (tysX0 kc) (wX0 kc q) σ [.ref (q 0), .int x1, .long x2] out := by
  refine ofMi (cc := cX0_into) (maxL := 4) (ret := (some .int)) (lv := [(0, .ref (q 0)), (1, .int x1), (2, .long x2)]) (by decide) rfl (Nat.le_of_ble_eq_true rfl) rfl ?_
  intro p e s m args below meth c A C hA hK hP hD hS ls hl
  have C : cxt p s m args meth c RX0 cX0_into 4 (some .int) wsX0_into := C
  obtain ⟨hx, hb, hr, hml, hown, hts, hlocks⟩ := id C
  obtain ⟨H, hH⟩ : ∃ H, H = s.heap := ⟨_, rfl⟩
  obtain ⟨locs, hlocs⟩ : ∃ locs : List Loc, locs = [] := ⟨_, rfl⟩
  have hS : va_S A s.heap H locs := by rw [hH, hlocs]; exact va_S.rf
  rw [← hH] at hP
  suffices hW : W p l e rmX0_into s m args below meth c H locs 0 0 _ (F0 m 0 ls []) by rw [hH, hlocs] at hW; exact hW
  unfold fX0_into at h
  refine lv_iload_n hx hb dX0_into_0 rfl (lv_at hl 1 rfl) ?_
  obtain ⟨o1, ho2, h⟩ := bi h
  refine caPi (As := [.int x1]) (rest := []) ⟨hx, hb, hml, hown, hts⟩ (mX0_isRow l x1 o1 ho2) (va_cwS 1 hts gX0_into_X0_isRow rfl rfl rfl (by decide +kernel) ⟨Nat.le_of_ble_eq_true rfl, Nat.le_of_ble_eq_true rfl⟩) rfl hl.1 (Nat.le_of_ble_eq_true rfl) dX0_into_1 ⟨Nat.zero_le _, Nat.zero_le _⟩ ?_
  refine lv_if_eq (tgt := 21) hx hb dX0_into_4 (by decide) (fun c3 => ?_) (fun c3 => ?_)
  · replace h := br_p c3 h
    refine lv_iconst (v := (-1 : Int32)) hx hb dX0_into_21 (by decide) ?_
    exact reMi (v := (-1 : Int32)) hx hb hr hlocks hK hP hD hS h dX0_into_22
  · replace h := br_n c3 h
    refine lv_lload_n hx hb dX0_into_7 rfl (lv_at hl 2 rfl) ?_
    refine lv_lconst (v := (0 : Int64)) hx hb dX0_into_8 (by decide) ?_
    refine xl_lt (tgt := 21) hx hb dX0_into_9 dX0_into_10 (by decide) (fun c4 => ?_) (fun c4 => ?_)
    · replace h := br_p c4 h
      refine lv_iconst (v := (-1 : Int32)) hx hb dX0_into_21 (by decide) ?_
      exact reMi (v := (-1 : Int32)) hx hb hr hlocks hK hP hD hS h dX0_into_22
    · replace h := br_n c4 h
      refine lv_lload_n hx hb dX0_into_13 rfl (lv_at hl 2 rfl) ?_
      refine lv_ldc2 (v := (1000000 : Int64)) hx hb hown (hts (.constantLong RX0 102 (1000000)) (List.mem_of_getElem? (i := 1) rfl)) dX0_into_14 ?_
      refine xl_le (tgt := 23) hx hb dX0_into_17 dX0_into_18 (by decide) (fun c5 => ?_) (fun c5 => ?_)
      · replace h := br_p c5 h
        refine lv_aload_n hx hb dX0_into_23 rfl (lv_at hl 0 rfl) ?_
        refine rdX0_sizes hx hb hts hinX0_into hown hK hP (hts (.fieldLink RX0 23 "ExactShares" "sizes" "[I") (List.mem_of_getElem? (i := 2) rfl)) dX0_into_24 ?_
        refine lv_iload_n hx hb dX0_into_27 rfl (lv_at hl 1 rfl) ?_
        obtain ⟨g6, h⟩ := gd_t h
        refine ldX0_sizes hx hb hK hP g6 dX0_into_28 ?_
        refine lv_bipush (v := (8 : Int32)) hx hb dX0_into_29 (by decide) ?_
        refine lv_icmp_lt (tgt := 37) hx hb dX0_into_31 (by decide) (fun c7 => ?_) (fun c7 => ?_)
        · replace h := br_p c7 h
          refine lv_aload_n hx hb dX0_into_37 rfl (lv_at hl 0 rfl) ?_
          refine rdX0_values hx hb hts hinX0_into hown hK hP (hts (.fieldLink RX0 20 "ExactShares" "values" "[[J") (List.mem_of_getElem? (i := 3) rfl)) dX0_into_38 ?_
          refine lv_iload_n hx hb dX0_into_41 rfl (lv_at hl 1 rfl) ?_
          obtain ⟨g8, h⟩ := gd_t h
          refine ldX0_values hx hb hK hP g8 dX0_into_42 ?_
          refine lv_aload_n hx hb dX0_into_43 rfl (lv_at hl 0 rfl) ?_
          refine rdX0_sizes hx hb hts hinX0_into hown hK hP (hts (.fieldLink RX0 23 "ExactShares" "sizes" "[I") (List.mem_of_getElem? (i := 2) rfl)) dX0_into_44 ?_
          refine lv_iload_n hx hb dX0_into_47 rfl (lv_at hl 1 rfl) ?_
          obtain ⟨g9, h⟩ := gd_t h
          refine ldX0_sizes hx hb hK hP g9 dX0_into_48 ?_
          refine lv_lload_n hx hb dX0_into_49 rfl (lv_at hl 2 rfl) ?_
          obtain ⟨g10, h⟩ := gd_t h
          refine stX0_row (x := x2) hx hb hK hP hD hS (ix_lt g8) g10 dX0_into_50 (fun H locs hP hD hS => ?_)
          obtain ⟨s11, e12, h⟩ := bd_e h
          replace hP : va_P D vwCl (wX0 kc q s11) H := by rw [e12]; exact hP
          replace hD : va_D A (wX0 kc q s11) := by rw [e12]; exact hD
          clear e12
          refine lv_aload_n hx hb dX0_into_51 rfl (lv_at hl 0 rfl) ?_
          refine rdX0_sizes hx hb hts hinX0_into hown hK hP (hts (.fieldLink RX0 23 "ExactShares" "sizes" "[I") (List.mem_of_getElem? (i := 2) rfl)) dX0_into_52 ?_
          refine lv_iload_n hx hb dX0_into_55 rfl (lv_at hl 1 rfl) ?_
          refine lv_dup2_11 hx hb dX0_into_56 rfl rfl ?_
          obtain ⟨g13, h⟩ := gd_t h
          refine ldX0_sizes hx hb hK hP g13 dX0_into_57 ?_
          refine lv_iconst (v := (1 : Int32)) hx hb dX0_into_58 (by decide) ?_
          refine lv_iadd hx hb dX0_into_59 ?_
          obtain ⟨g14, h⟩ := gd_t h
          refine stX0_sizes (x := (((c_sizes s11) x1.toNatClampNeg) + (1 : Int32))) hx hb hK hP hD hS g14 dX0_into_60 (fun H locs hP hD hS => ?_)
          obtain ⟨s15, e16, h⟩ := bd_e h
          replace hP : va_P D vwCl (wX0 kc q s15) H := by rw [e16]; exact hP
          replace hD : va_D A (wX0 kc q s15) := by rw [e16]; exact hD
          clear e16
          refine lv_aload_n hx hb dX0_into_61 rfl (lv_at hl 0 rfl) ?_
          refine rdX0_sizes hx hb hts hinX0_into hown hK hP (hts (.fieldLink RX0 23 "ExactShares" "sizes" "[I") (List.mem_of_getElem? (i := 2) rfl)) dX0_into_62 ?_
          refine lv_iload_n hx hb dX0_into_65 rfl (lv_at hl 1 rfl) ?_
          obtain ⟨g17, h⟩ := gd_t h
          refine ldX0_sizes hx hb hK hP g17 dX0_into_66 ?_
          exact reMi (v := ((c_sizes s15) x1.toNatClampNeg)) hx hb hr hlocks hK hP hD hS h dX0_into_67
        · replace h := br_n c7 h
          refine lv_bipush (v := (-4 : Int32)) hx hb dX0_into_34 (by decide) ?_
          exact reMi (v := (-4 : Int32)) hx hb hr hlocks hK hP hD hS h dX0_into_36
      · replace h := br_n c5 h
        refine lv_iconst (v := (-1 : Int32)) hx hb dX0_into_21 (by decide) ?_
        exact reMi (v := (-1 : Int32)) hx hb hr hlocks hK hP hD hS h dX0_into_22
abbrev rmX0_empty : Room := { frames := 1, cells := 0, slots := 0, locals := 20 }
theorem hinX0_empty : ∀ w ∈ u_ws RX0 TX0 13, w ∈ wsX0_empty := by first | exact fun _ h => List.mem_cons_of_mem _ (List.mem_append_right _ h) | exact fun _ h => List.mem_cons_of_mem _ (List.mem_append_left _ (List.mem_append_right _ h)) | decide +kernel
def fX0_empty (σ : CS)  (x1 : Int32) : Option (Int32 × CS) := ((fX0_isRow x1).bind fun o1 => (if o1 = (0 : Int32) then (some ((-1 : Int32), σ)) else (if ix x1 4 = true then (if ix x1 4 = true then (bd (sc_sizes σ (upd (c_sizes σ) x1.toNatClampNeg (0 : Int32))) fun s6 => (some (((c_sizes σ) x1.toNatClampNeg), s6))) else none) else none)))
set_option maxHeartbeats 4000000 in
set_option maxRecDepth 100000 in
theorem mX0_empty (l : Launch) (D : va_G) (kc : Nat → ClassId) (q : Nat → Nat) (σ : CS) (x1 : Int32) (out : Int32 × CS) (h : fX0_empty σ  x1 = some out) : MMi l yX0_empty wsX0_empty rmX0_empty D (tysX0 kc) (wX0 kc q) σ [.ref (q 0), .int x1] out := by
  refine ofMi (cc := cX0_empty) (maxL := 3) (ret := (some .int)) (lv := [(0, .ref (q 0)), (1, .int x1)]) (by decide) rfl (Nat.le_of_ble_eq_true rfl) rfl ?_
  intro p e s m args below meth c A C hA hK hP hD hS ls hl
  have C : cxt p s m args meth c RX0 cX0_empty 3 (some .int) wsX0_empty := C
  obtain ⟨hx, hb, hr, hml, hown, hts, hlocks⟩ := id C
  obtain ⟨H, hH⟩ : ∃ H, H = s.heap := ⟨_, rfl⟩
  obtain ⟨locs, hlocs⟩ : ∃ locs : List Loc, locs = [] := ⟨_, rfl⟩
  have hS : va_S A s.heap H locs := by rw [hH, hlocs]; exact va_S.rf
  rw [← hH] at hP
  suffices hW : W p l e rmX0_empty s m args below meth c H locs 0 0 _ (F0 m 0 ls []) by rw [hH, hlocs] at hW; exact hW
  unfold fX0_empty at h
  refine lv_iload_n hx hb dX0_empty_0 rfl (lv_at hl 1 rfl) ?_
  obtain ⟨o1, ho2, h⟩ := bi h
  refine caPi (As := [.int x1]) (rest := []) ⟨hx, hb, hml, hown, hts⟩ (mX0_isRow l x1 o1 ho2) (va_cwS 1 hts gX0_empty_X0_isRow rfl rfl rfl (by decide +kernel) ⟨Nat.le_of_ble_eq_true rfl, Nat.le_of_ble_eq_true rfl⟩) rfl hl.1 (Nat.le_of_ble_eq_true rfl) dX0_empty_1 ⟨Nat.zero_le _, Nat.zero_le _⟩ ?_
  refine lv_if_ne (tgt := 9) hx hb dX0_empty_4 (by decide) (fun c3 => ?_) (fun c3 => ?_)
  · replace h := br_n c3 h
    refine lv_aload_n hx hb dX0_empty_9 rfl (lv_at hl 0 rfl) ?_
    refine rdX0_sizes hx hb hts hinX0_empty hown hK hP (hts (.fieldLink RX0 23 "ExactShares" "sizes" "[I") (List.mem_of_getElem? (i := 1) rfl)) dX0_empty_10 ?_
    refine lv_iload_n hx hb dX0_empty_13 rfl (lv_at hl 1 rfl) ?_
    obtain ⟨g4, h⟩ := gd_t h
    refine ldX0_sizes hx hb hK hP g4 dX0_empty_14 ?_
    refine lv_istore_n (lv' := [(2, .int ((c_sizes σ) x1.toNatClampNeg)), (0, .ref (q 0)), (1, .int x1)]) hx hb dX0_empty_15 rfl hl (by decide) rfl (fun ls hl => ?_)
    refine lv_aload_n hx hb dX0_empty_16 rfl (lv_at hl 1 rfl) ?_
    refine rdX0_sizes hx hb hts hinX0_empty hown hK hP (hts (.fieldLink RX0 23 "ExactShares" "sizes" "[I") (List.mem_of_getElem? (i := 1) rfl)) dX0_empty_17 ?_
    refine lv_iload_n hx hb dX0_empty_20 rfl (lv_at hl 2 rfl) ?_
    refine lv_iconst (v := (0 : Int32)) hx hb dX0_empty_21 (by decide) ?_
    obtain ⟨g5, h⟩ := gd_t h
    refine stX0_sizes (x := (0 : Int32)) hx hb hK hP hD hS g5 dX0_empty_22 (fun H locs hP hD hS => ?_)
    obtain ⟨s6, e7, h⟩ := bd_e h
    replace hP : va_P D vwCl (wX0 kc q s6) H := by rw [e7]; exact hP
    replace hD : va_D A (wX0 kc q s6) := by rw [e7]; exact hD
    clear e7
    refine lv_iload_n hx hb dX0_empty_23 rfl (lv_at hl 0 rfl) ?_
    exact reMi (v := ((c_sizes σ) x1.toNatClampNeg)) hx hb hr hlocks hK hP hD hS h dX0_empty_24
  · replace h := br_p c3 h
    refine lv_iconst (v := (-1 : Int32)) hx hb dX0_empty_7 (by decide) ?_
    exact reMi (v := (-1 : Int32)) hx hb hr hlocks hK hP hD hS h dX0_empty_8
abbrev rmX0_isValue : Room := { frames := 1, cells := 0, slots := 0, locals := 20 }
theorem hinX0_isValue : ∀ w ∈ u_ws RX0 TX0 13, w ∈ wsX0_isValue := by first | exact fun _ h => List.mem_cons_of_mem _ (List.mem_append_right _ h) | exact fun _ h => List.mem_cons_of_mem _ (List.mem_append_left _ (List.mem_append_right _ h)) | decide +kernel
def fX0_isValue (σ : CS)  (x1 : Int32) (x2 : Int32) : Option (Int32) := ((fX0_isRow x1).bind fun o1 => (if o1 = (0 : Int32) then (some (0 : Int32)) else (if x2 < (0 : Int32) then (some (0 : Int32)) else (if ix x1 4 = true then (if ((c_sizes σ) x1.toNatClampNeg) ≤ x2 then (some (0 : Int32)) else (some (1 : Int32))) else none))))
set_option maxHeartbeats 4000000 in
set_option maxRecDepth 100000 in
theorem mX0_isValue (l : Launch) (D : va_G) (kc : Nat → ClassId) (q : Nat → Nat) (σ : CS) (x1 : Int32) (x2 : Int32) (out : Int32) (h : fX0_isValue σ  x1 x2 = some out) : MRi l yX0_isValue wsX0_isValue rmX0_isValue D (tysX0 kc) (wX0 kc q σ) [.ref (q 0), .int x1, .int x2] out := by
  refine ofRi (cc := cX0_isValue) (maxL := 3) (ret := (some .boolean)) (lv := [(0, .ref (q 0)), (1, .int x1), (2, .int x2)]) (by decide) rfl (Nat.le_of_ble_eq_true rfl) rfl ?_
  intro p e s m args below meth c C hK hP ls hl
  have C : cxt p s m args meth c RX0 cX0_isValue 3 (some .boolean) wsX0_isValue := C
  obtain ⟨hx, hb, hr, hml, hown, hts, hlocks⟩ := id C
  unfold fX0_isValue at h
  refine lv_iload_n hx hb dX0_isValue_0 rfl (lv_at hl 1 rfl) ?_
  obtain ⟨o1, ho2, h⟩ := bi h
  refine caPi (As := [.int x1]) (rest := []) ⟨hx, hb, hml, hown, hts⟩ (mX0_isRow l x1 o1 ho2) (va_cwS 1 hts gX0_isValue_X0_isRow rfl rfl rfl (by decide +kernel) ⟨Nat.le_of_ble_eq_true rfl, Nat.le_of_ble_eq_true rfl⟩) rfl hl.1 (Nat.le_of_ble_eq_true rfl) dX0_isValue_1 ⟨Nat.zero_le _, Nat.zero_le _⟩ ?_
  refine lv_if_eq (tgt := 25) hx hb dX0_isValue_4 (by decide) (fun c3 => ?_) (fun c3 => ?_)
  · replace h := br_p c3 h
    refine lv_iconst (v := (0 : Int32)) hx hb dX0_isValue_25 (by decide) ?_
    exact reRz (v := (0 : Int32)) hx hb hr hlocks (by decide) h dX0_isValue_26
  · replace h := br_n c3 h
    refine lv_iload_n hx hb dX0_isValue_7 rfl (lv_at hl 2 rfl) ?_
    refine lv_if_lt (tgt := 25) hx hb dX0_isValue_8 (by decide) (fun c4 => ?_) (fun c4 => ?_)
    · replace h := br_p c4 h
      refine lv_iconst (v := (0 : Int32)) hx hb dX0_isValue_25 (by decide) ?_
      exact reRz (v := (0 : Int32)) hx hb hr hlocks (by decide) h dX0_isValue_26
    · replace h := br_n c4 h
      refine lv_iload_n hx hb dX0_isValue_11 rfl (lv_at hl 2 rfl) ?_
      refine lv_aload_n hx hb dX0_isValue_12 rfl (lv_at hl 0 rfl) ?_
      refine rdX0_sizes hx hb hts hinX0_isValue hown hK hP (hts (.fieldLink RX0 23 "ExactShares" "sizes" "[I") (List.mem_of_getElem? (i := 1) rfl)) dX0_isValue_13 ?_
      refine lv_iload_n hx hb dX0_isValue_16 rfl (lv_at hl 1 rfl) ?_
      obtain ⟨g5, h⟩ := gd_t h
      refine ldX0_sizes hx hb hK hP g5 dX0_isValue_17 ?_
      refine lv_icmp_ge (tgt := 25) hx hb dX0_isValue_18 (by decide) (fun c6 => ?_) (fun c6 => ?_)
      · replace h := br_p c6 h
        refine lv_iconst (v := (0 : Int32)) hx hb dX0_isValue_25 (by decide) ?_
        exact reRz (v := (0 : Int32)) hx hb hr hlocks (by decide) h dX0_isValue_26
      · replace h := br_n c6 h
        refine lv_iconst (v := (1 : Int32)) hx hb dX0_isValue_21 (by decide) ?_
        refine lv_goto (tgt := 26) hx hb dX0_isValue_22 (by decide) ?_
        exact reRz (v := (1 : Int32)) hx hb hr hlocks (by decide) h dX0_isValue_26
abbrev rmX0_at : Room := { frames := 2, cells := 0, slots := 0, locals := 42 }
theorem hinX0_at : ∀ w ∈ u_ws RX0 TX0 13, w ∈ wsX0_at := by first | exact fun _ h => List.mem_cons_of_mem _ (List.mem_append_right _ h) | exact fun _ h => List.mem_cons_of_mem _ (List.mem_append_left _ (List.mem_append_right _ h)) | decide +kernel
def fX0_at (σ : CS)  (x1 : Int32) (x2 : Int32) : Option (Int64) := ((fX0_isValue σ x1 x2).bind fun o1 => (if o1 = (0 : Int32) then (some (-1 : Int64)) else (if ix x1 4 = true then (if ix x2 8 = true then (some ((c_values σ) x1.toNatClampNeg x2.toNatClampNeg)) else none) else none)))
set_option maxHeartbeats 4000000 in
set_option maxRecDepth 100000 in
theorem mX0_at (l : Launch) (D : va_G) (kc : Nat → ClassId) (q : Nat → Nat) (σ : CS) (x1 : Int32) (x2 : Int32) (out : Int64) (h : fX0_at σ  x1 x2 = some out) : MRl l yX0_at wsX0_at rmX0_at D (tysX0 kc) (wX0 kc q σ) [.ref (q 0), .int x1, .int x2] out := by
  refine ofRl (cc := cX0_at) (maxL := 3) (ret := (some .long)) (lv := [(0, .ref (q 0)), (1, .int x1), (2, .int x2)]) (by decide) rfl (Nat.le_of_ble_eq_true rfl) rfl ?_
  intro p e s m args below meth c C hK hP ls hl
  have C : cxt p s m args meth c RX0 cX0_at 3 (some .long) wsX0_at := C
  obtain ⟨hx, hb, hr, hml, hown, hts, hlocks⟩ := id C
  unfold fX0_at at h
  refine lv_aload_n hx hb dX0_at_0 rfl (lv_at hl 0 rfl) ?_
  refine lv_iload_n hx hb dX0_at_1 rfl (lv_at hl 1 rfl) ?_
  refine lv_iload_n hx hb dX0_at_2 rfl (lv_at hl 2 rfl) ?_
  obtain ⟨o1, ho2, h⟩ := bi h
  refine caRi (q0 := 0) (As := [.int x1, .int x2]) (rest := []) ⟨hx, hb, hml, hown, hts⟩ (mX0_isValue l D kc q σ x1 x2 o1 ho2) (cwV 2 hts gX0_at_X0_isValue rfl rfl rfl (by decide +kernel) ⟨Nat.le_of_ble_eq_true rfl, Nat.le_of_ble_eq_true rfl⟩) hK hP rfl rfl rfl rfl hl.1 (Nat.le_of_ble_eq_true rfl) dX0_at_3 ⟨Nat.zero_le _, Nat.zero_le _⟩ ?_
  refine lv_if_eq (tgt := 20) hx hb dX0_at_6 (by decide) (fun c3 => ?_) (fun c3 => ?_)
  · replace h := br_p c3 h
    refine lv_ldc2 (v := (-1 : Int64)) hx hb hown (hts (.constantLong RX0 108 (-1)) (List.mem_of_getElem? (i := 2) rfl)) dX0_at_20 ?_
    exact reRl (v := (-1 : Int64)) hx hb hr hlocks h dX0_at_23
  · replace h := br_n c3 h
    refine lv_aload_n hx hb dX0_at_9 rfl (lv_at hl 0 rfl) ?_
    refine rdX0_values hx hb hts hinX0_at hown hK hP (hts (.fieldLink RX0 20 "ExactShares" "values" "[[J") (List.mem_of_getElem? (i := 1) rfl)) dX0_at_10 ?_
    refine lv_iload_n hx hb dX0_at_13 rfl (lv_at hl 1 rfl) ?_
    obtain ⟨g4, h⟩ := gd_t h
    refine ldX0_values hx hb hK hP g4 dX0_at_14 ?_
    refine lv_iload_n hx hb dX0_at_15 rfl (lv_at hl 2 rfl) ?_
    obtain ⟨g5, h⟩ := gd_t h
    refine ldX0_row hx hb hK hP (ix_lt g4) g5 dX0_at_16 ?_
    refine lv_goto (tgt := 23) hx hb dX0_at_17 (by decide) ?_
    exact reRl (v := ((c_values σ) x1.toNatClampNeg x2.toNatClampNeg)) hx hb hr hlocks h dX0_at_23
abbrev rmX0_sumOf : Room := { frames := 0, cells := 0, slots := 0, locals := 0 }
theorem hinX0_sumOf : ∀ w ∈ u_ws RX0 TX0 13, w ∈ wsX0_sumOf := by first | exact fun _ h => List.mem_cons_of_mem _ (List.mem_append_right _ h) | exact fun _ h => List.mem_cons_of_mem _ (List.mem_append_left _ (List.mem_append_right _ h)) | decide +kernel
def fX0_sumOf_B5 (σ : CS)   (k5 : Int32 × Int64 × Int32 → Option (Int64)) (x1 : Int32) (x2 : Int64) (x4 : Int32) : Option (Int64) := (if ix x1 4 = true then (if ((c_sizes σ) x1.toNatClampNeg) ≤ x4 then (some x2) else (if ix x1 4 = true then (if ix x4 8 = true then (k5 (x1, (x2 + ((c_values σ) x1.toNatClampNeg x4.toNatClampNeg)), (x4 + (1 : Int32)))) else none) else none)) else none)
def fX0_sumOf_L5 (σ : CS)   (x1 : Int32) (x2 : Int64) (x4 : Int32) : Option (Int64) := lp (fun k t => fX0_sumOf_B5 σ   k t.1 t.2.1 t.2.2) FU (x1, x2, x4)
set_option maxHeartbeats 4000000 in
set_option maxRecDepth 100000 in
theorem wX0_sumOf_B5 {p : Program} {l : Launch} {e : Env} {s : State} {m : MethodId} {args : Array Value} {below : List Frame} {meth : Method} {c : Code} {D : va_G} {kc : Nat → ClassId} {q : Nat → Nat} {out : Int64} (C : cxt p s m args meth c RX0 cX0_sumOf 5 (some .long) wsX0_sumOf) (hK : va_K D vwCl (tysX0 kc) s) {σ : CS} (k5 : Int32 × Int64 × Int32 → Option (Int64)) (hk5 : ∀ (x1 : Int32) (x2 : Int64) (x4 : Int32) (ls : Array Slot), k5 (x1, x2, x4) = some out → lv_has ls 5 [(0, .ref (q 0)), (1, .int x1), (2, .long x2), (4, .int x4)] → W p l e rmX0_sumOf s m args below meth c s.heap [] 0 0 (MQ below (QRl out) args s 0 0 (fun _ => False)) (F0 m 5 ls [])) (x1 : Int32) (x2 : Int64) (x4 : Int32) (ls : Array Slot) (h : fX0_sumOf_B5 σ   k5 x1 x2 x4 = some out) (hP : va_P D vwCl (wX0 kc q σ) s.heap) (hl : lv_has ls 5 [(0, .ref (q 0)), (1, .int x1), (2, .long x2), (4, .int x4)]) : W p l e rmX0_sumOf s m args below meth c s.heap [] 0 0 (MQ below (QRl out) args s 0 0 (fun _ => False)) (F0 m 5 ls []) := by
  obtain ⟨hx, hb, hr, hml, hown, hts, hlocks⟩ := id C
  unfold fX0_sumOf_B5 at h
  refine lv_iload hx hb dX0_sumOf_5 (lv_at hl 3 rfl) ?_
  refine lv_aload_n hx hb dX0_sumOf_7 rfl (lv_at hl 0 rfl) ?_
  refine rdX0_sizes hx hb hts hinX0_sumOf hown hK hP (hts (.fieldLink RX0 23 "ExactShares" "sizes" "[I") (List.mem_of_getElem? (i := 1) rfl)) dX0_sumOf_8 ?_
  refine lv_iload_n hx hb dX0_sumOf_11 rfl (lv_at hl 1 rfl) ?_
  obtain ⟨g1, h⟩ := gd_t h
  refine ldX0_sizes hx hb hK hP g1 dX0_sumOf_12 ?_
  refine lv_icmp_ge (tgt := 34) hx hb dX0_sumOf_13 (by decide) (fun c2 => ?_) (fun c2 => ?_)
  · replace h := br_p c2 h
    refine lv_lload_n hx hb dX0_sumOf_34 rfl (lv_at hl 2 rfl) ?_
    exact reRl (v := x2) hx hb hr hlocks h dX0_sumOf_35
  · replace h := br_n c2 h
    refine lv_lload_n hx hb dX0_sumOf_16 rfl (lv_at hl 2 rfl) ?_
    refine lv_aload_n hx hb dX0_sumOf_17 rfl (lv_at hl 0 rfl) ?_
    refine rdX0_values hx hb hts hinX0_sumOf hown hK hP (hts (.fieldLink RX0 20 "ExactShares" "values" "[[J") (List.mem_of_getElem? (i := 2) rfl)) dX0_sumOf_18 ?_
    refine lv_iload_n hx hb dX0_sumOf_21 rfl (lv_at hl 1 rfl) ?_
    obtain ⟨g3, h⟩ := gd_t h
    refine ldX0_values hx hb hK hP g3 dX0_sumOf_22 ?_
    refine lv_iload hx hb dX0_sumOf_23 (lv_at hl 3 rfl) ?_
    obtain ⟨g4, h⟩ := gd_t h
    refine ldX0_row hx hb hK hP (ix_lt g3) g4 dX0_sumOf_25 ?_
    refine lv_ladd hx hb dX0_sumOf_26 ?_
    refine lv_lstore_n (lv' := [(2, .long (x2 + ((c_values σ) x1.toNatClampNeg x4.toNatClampNeg))), (0, .ref (q 0)), (1, .int x1), (4, .int x4)]) hx hb dX0_sumOf_27 rfl hl (by decide) rfl (fun ls hl => ?_)
    refine lv_iinc (v := (x4 + (1 : Int32))) (lv' := [(4, .int (x4 + (1 : Int32))), (2, .long (x2 + ((c_values σ) x1.toNatClampNeg x4.toNatClampNeg))), (0, .ref (q 0)), (1, .int x1)]) hx hb dX0_sumOf_28 hl (k := 3) rfl rfl (by decide) rfl (fun ls hl => ?_)
    refine lv_goto (tgt := 5) hx hb dX0_sumOf_31 (by decide) ?_
    exact hk5 x1 (x2 + ((c_values σ) x1.toNatClampNeg x4.toNatClampNeg)) (x4 + (1 : Int32)) ls h (lv_sub hl [2, 3, 1, 0] rfl)
set_option maxHeartbeats 4000000 in
set_option maxRecDepth 100000 in
theorem wX0_sumOf_L5 {p : Program} {l : Launch} {e : Env} {s : State} {m : MethodId} {args : Array Value} {below : List Frame} {meth : Method} {c : Code} {D : va_G} {kc : Nat → ClassId} {q : Nat → Nat} {out : Int64} (C : cxt p s m args meth c RX0 cX0_sumOf 5 (some .long) wsX0_sumOf) (hK : va_K D vwCl (tysX0 kc) s) {σ : CS} (x1 : Int32) (x2 : Int64) (x4 : Int32) (ls : Array Slot) (h : fX0_sumOf_L5 σ   x1 x2 x4 = some out) (hP : va_P D vwCl (wX0 kc q σ) s.heap) (hl : lv_has ls 5 [(0, .ref (q 0)), (1, .int x1), (2, .long x2), (4, .int x4)]) : W p l e rmX0_sumOf s m args below meth c s.heap [] 0 0 (MQ below (QRl out) args s 0 0 (fun _ => False)) (F0 m 5 ls []) := by
  unfold fX0_sumOf_L5 at h
  exact lp_ind (P := fun t : Int32 × Int64 × Int32 => ∀ ls : Array Slot, lv_has ls 5 [(0, .ref (q 0)), (1, .int t.1), (2, .long t.2.1), (4, .int t.2.2)] → W p l e rmX0_sumOf s m args below meth c s.heap [] 0 0 (MQ below (QRl out) args s 0 0 (fun _ => False)) (F0 m 5 ls [])) (fun k hk t h ls hl => wX0_sumOf_B5 C hK  k (fun x1 x2 x4 ls h hl => hk (x1, x2, x4) h ls hl) t.1 t.2.1 t.2.2 ls h hP hl) FU (x1, x2, x4) h ls hl
def fX0_sumOf (σ : CS)  (x1 : Int32) : Option (Int64) := (fX0_sumOf_L5 σ x1 (0 : Int64) (0 : Int32))
set_option maxHeartbeats 4000000 in
set_option maxRecDepth 100000 in
theorem mX0_sumOf (l : Launch) (D : va_G) (kc : Nat → ClassId) (q : Nat → Nat) (σ : CS) (x1 : Int32) (out : Int64) (h : fX0_sumOf σ  x1 = some out) : MRl l yX0_sumOf wsX0_sumOf rmX0_sumOf D (tysX0 kc) (wX0 kc q σ) [.ref (q 0), .int x1] out := by
  refine ofRl (cc := cX0_sumOf) (maxL := 5) (ret := (some .long)) (lv := [(0, .ref (q 0)), (1, .int x1)]) (by decide) rfl (Nat.le_of_ble_eq_true rfl) rfl ?_
  intro p e s m args below meth c C hK hP ls hl
  have C : cxt p s m args meth c RX0 cX0_sumOf 5 (some .long) wsX0_sumOf := C
  obtain ⟨hx, hb, hr, hml, hown, hts, hlocks⟩ := id C
  unfold fX0_sumOf at h
  refine lv_lconst (v := (0 : Int64)) hx hb dX0_sumOf_0 (by decide) ?_
  refine lv_lstore_n (lv' := [(2, .long (0 : Int64)), (0, .ref (q 0)), (1, .int x1)]) hx hb dX0_sumOf_1 rfl hl (by decide) rfl (fun ls hl => ?_)
  refine lv_iconst (v := (0 : Int32)) hx hb dX0_sumOf_2 (by decide) ?_
  refine lv_istore (lv' := [(4, .int (0 : Int32)), (2, .long (0 : Int64)), (0, .ref (q 0)), (1, .int x1)]) hx hb dX0_sumOf_3 hl (by decide) rfl (fun ls hl => ?_)
  exact wX0_sumOf_L5 C hK  x1 (0 : Int64) (0 : Int32) ls h hP (lv_sub hl [2, 3, 1, 0] rfl)
abbrev rmX0_firstGreatestRemainder : Room := { frames := 0, cells := 0, slots := 0, locals := 0 }
theorem hinX0_firstGreatestRemainder : ∀ w ∈ u_ws RX0 TX0 13, w ∈ wsX0_firstGreatestRemainder := by first | exact fun _ h => List.mem_cons_of_mem _ (List.mem_append_right _ h) | exact fun _ h => List.mem_cons_of_mem _ (List.mem_append_left _ (List.mem_append_right _ h)) | decide +kernel
def fX0_firstGreatestRemainder_L30 (σ : CS)  (k4 : Int32 × Int32 → Option (Int32)) (x1 : Int32) (x2 : Int32) : Option (Int32) := (k4 (x1, (x2 + (1 : Int32))))
set_option maxHeartbeats 4000000 in
set_option maxRecDepth 100000 in
theorem wX0_firstGreatestRemainder_L30 {p : Program} {l : Launch} {e : Env} {s : State} {m : MethodId} {args : Array Value} {below : List Frame} {meth : Method} {c : Code} {D : va_G} {kc : Nat → ClassId} {q : Nat → Nat} {out : Int32} (C : cxt p s m args meth c RX0 cX0_firstGreatestRemainder 3 (some .int) wsX0_firstGreatestRemainder) (hK : va_K D vwCl (tysX0 kc) s) {σ : CS} (k4 : Int32 × Int32 → Option (Int32)) (hk4 : ∀ (x1 : Int32) (x2 : Int32) (ls : Array Slot), k4 (x1, x2) = some out → lv_has ls 3 [(0, .ref (q 0)), (1, .int x1), (2, .int x2)] → W p l e rmX0_firstGreatestRemainder s m args below meth c s.heap [] 0 0 (MQ below (QRi out) args s 0 0 (fun _ => False)) (F0 m 4 ls [])) (x1 : Int32) (x2 : Int32) (ls : Array Slot) (h : fX0_firstGreatestRemainder_L30 σ  k4 x1 x2 = some out) (hP : va_P D vwCl (wX0 kc q σ) s.heap) (hl : lv_has ls 3 [(0, .ref (q 0)), (1, .int x1), (2, .int x2)]) : W p l e rmX0_firstGreatestRemainder s m args below meth c s.heap [] 0 0 (MQ below (QRi out) args s 0 0 (fun _ => False)) (F0 m 30 ls []) := by
  obtain ⟨hx, hb, hr, hml, hown, hts, hlocks⟩ := id C
  unfold fX0_firstGreatestRemainder_L30 at h
  refine lv_iinc (v := (x2 + (1 : Int32))) (lv' := [(2, .int (x2 + (1 : Int32))), (0, .ref (q 0)), (1, .int x1)]) hx hb dX0_firstGreatestRemainder_30 hl (k := 2) rfl rfl (by decide) rfl (fun ls hl => ?_)
  refine lv_goto (tgt := 4) hx hb dX0_firstGreatestRemainder_33 (by decide) ?_
  exact hk4 x1 (x2 + (1 : Int32)) ls h (lv_sub hl [1, 2, 0] rfl)
def fX0_firstGreatestRemainder_B4 (σ : CS)   (k4 : Int32 × Int32 → Option (Int32)) (x1 : Int32) (x2 : Int32) : Option (Int32) := (if (c_seatsGivenTo σ) ≤ x2 then (some x1) else (if ix x2 8 = true then (if ix x1 8 = true then (if ((c_remainders σ) x2.toNatClampNeg) ≤ ((c_remainders σ) x1.toNatClampNeg) then (fX0_firstGreatestRemainder_L30 σ k4 x1 x2) else (fX0_firstGreatestRemainder_L30 σ k4 x2 x2)) else none) else none))
def fX0_firstGreatestRemainder_L4 (σ : CS)   (x1 : Int32) (x2 : Int32) : Option (Int32) := lp (fun k t => fX0_firstGreatestRemainder_B4 σ   k t.1 t.2) FU (x1, x2)
set_option maxHeartbeats 4000000 in
set_option maxRecDepth 100000 in
theorem wX0_firstGreatestRemainder_B4 {p : Program} {l : Launch} {e : Env} {s : State} {m : MethodId} {args : Array Value} {below : List Frame} {meth : Method} {c : Code} {D : va_G} {kc : Nat → ClassId} {q : Nat → Nat} {out : Int32} (C : cxt p s m args meth c RX0 cX0_firstGreatestRemainder 3 (some .int) wsX0_firstGreatestRemainder) (hK : va_K D vwCl (tysX0 kc) s) {σ : CS} (k4 : Int32 × Int32 → Option (Int32)) (hk4 : ∀ (x1 : Int32) (x2 : Int32) (ls : Array Slot), k4 (x1, x2) = some out → lv_has ls 3 [(0, .ref (q 0)), (1, .int x1), (2, .int x2)] → W p l e rmX0_firstGreatestRemainder s m args below meth c s.heap [] 0 0 (MQ below (QRi out) args s 0 0 (fun _ => False)) (F0 m 4 ls [])) (x1 : Int32) (x2 : Int32) (ls : Array Slot) (h : fX0_firstGreatestRemainder_B4 σ   k4 x1 x2 = some out) (hP : va_P D vwCl (wX0 kc q σ) s.heap) (hl : lv_has ls 3 [(0, .ref (q 0)), (1, .int x1), (2, .int x2)]) : W p l e rmX0_firstGreatestRemainder s m args below meth c s.heap [] 0 0 (MQ below (QRi out) args s 0 0 (fun _ => False)) (F0 m 4 ls []) := by
  obtain ⟨hx, hb, hr, hml, hown, hts, hlocks⟩ := id C
  unfold fX0_firstGreatestRemainder_B4 at h
  refine lv_iload_n hx hb dX0_firstGreatestRemainder_4 rfl (lv_at hl 2 rfl) ?_
  refine lv_aload_n hx hb dX0_firstGreatestRemainder_5 rfl (lv_at hl 0 rfl) ?_
  refine rdX0_seatsGivenTo hx hb hts hinX0_firstGreatestRemainder hown hK hP (hts (.fieldLink RX0 116 "ExactShares" "seatsGivenTo" "I") (List.mem_of_getElem? (i := 1) rfl)) dX0_firstGreatestRemainder_6 ?_
  refine lv_icmp_ge (tgt := 36) hx hb dX0_firstGreatestRemainder_9 (by decide) (fun c1 => ?_) (fun c1 => ?_)
  · replace h := br_p c1 h
    refine lv_iload_n hx hb dX0_firstGreatestRemainder_36 rfl (lv_at hl 1 rfl) ?_
    exact reRi (v := x1) hx hb hr hlocks h dX0_firstGreatestRemainder_37
  · replace h := br_n c1 h
    refine lv_aload_n hx hb dX0_firstGreatestRemainder_12 rfl (lv_at hl 0 rfl) ?_
    refine rdX0_remainders hx hb hts hinX0_firstGreatestRemainder hown hK hP (hts (.fieldLink RX0 30 "ExactShares" "remainders" "[J") (List.mem_of_getElem? (i := 2) rfl)) dX0_firstGreatestRemainder_13 ?_
    refine lv_iload_n hx hb dX0_firstGreatestRemainder_16 rfl (lv_at hl 2 rfl) ?_
    obtain ⟨g2, h⟩ := gd_t h
    refine ldX0_remainders hx hb hK hP g2 dX0_firstGreatestRemainder_17 ?_
    refine lv_aload_n hx hb dX0_firstGreatestRemainder_18 rfl (lv_at hl 0 rfl) ?_
    refine rdX0_remainders hx hb hts hinX0_firstGreatestRemainder hown hK hP (hts (.fieldLink RX0 30 "ExactShares" "remainders" "[J") (List.mem_of_getElem? (i := 2) rfl)) dX0_firstGreatestRemainder_19 ?_
    refine lv_iload_n hx hb dX0_firstGreatestRemainder_22 rfl (lv_at hl 1 rfl) ?_
    obtain ⟨g3, h⟩ := gd_t h
    refine ldX0_remainders hx hb hK hP g3 dX0_firstGreatestRemainder_23 ?_
    refine xl_le (tgt := 30) hx hb dX0_firstGreatestRemainder_24 dX0_firstGreatestRemainder_25 (by decide) (fun c4 => ?_) (fun c4 => ?_)
    · replace h := br_p c4 h
      exact wX0_firstGreatestRemainder_L30 C hK k4 hk4 x1 x2 ls h hP (lv_sub hl [0, 1, 2] rfl)
    · replace h := br_n c4 h
      refine lv_iload_n hx hb dX0_firstGreatestRemainder_28 rfl (lv_at hl 2 rfl) ?_
      refine lv_istore_n (lv' := [(1, .int x2), (0, .ref (q 0)), (2, .int x2)]) hx hb dX0_firstGreatestRemainder_29 rfl hl (by decide) rfl (fun ls hl => ?_)
      exact wX0_firstGreatestRemainder_L30 C hK k4 hk4 x2 x2 ls h hP (lv_sub hl [1, 0, 2] rfl)
set_option maxHeartbeats 4000000 in
set_option maxRecDepth 100000 in
theorem wX0_firstGreatestRemainder_L4 {p : Program} {l : Launch} {e : Env} {s : State} {m : MethodId} {args : Array Value} {below : List Frame} {meth : Method} {c : Code} {D : va_G} {kc : Nat → ClassId} {q : Nat → Nat} {out : Int32} (C : cxt p s m args meth c RX0 cX0_firstGreatestRemainder 3 (some .int) wsX0_firstGreatestRemainder) (hK : va_K D vwCl (tysX0 kc) s) {σ : CS} (x1 : Int32) (x2 : Int32) (ls : Array Slot) (h : fX0_firstGreatestRemainder_L4 σ   x1 x2 = some out) (hP : va_P D vwCl (wX0 kc q σ) s.heap) (hl : lv_has ls 3 [(0, .ref (q 0)), (1, .int x1), (2, .int x2)]) : W p l e rmX0_firstGreatestRemainder s m args below meth c s.heap [] 0 0 (MQ below (QRi out) args s 0 0 (fun _ => False)) (F0 m 4 ls []) := by
  unfold fX0_firstGreatestRemainder_L4 at h
  exact lp_ind (P := fun t : Int32 × Int32 => ∀ ls : Array Slot, lv_has ls 3 [(0, .ref (q 0)), (1, .int t.1), (2, .int t.2)] → W p l e rmX0_firstGreatestRemainder s m args below meth c s.heap [] 0 0 (MQ below (QRi out) args s 0 0 (fun _ => False)) (F0 m 4 ls [])) (fun k hk t h ls hl => wX0_firstGreatestRemainder_B4 C hK  k (fun x1 x2 ls h hl => hk (x1, x2) h ls hl) t.1 t.2 ls h hP hl) FU (x1, x2) h ls hl
def fX0_firstGreatestRemainder (σ : CS)   : Option (Int32) := (fX0_firstGreatestRemainder_L4 σ (0 : Int32) (1 : Int32))
set_option maxHeartbeats 4000000 in
set_option maxRecDepth 100000 in
theorem mX0_firstGreatestRemainder (l : Launch) (D : va_G) (kc : Nat → ClassId) (q : Nat → Nat) (σ : CS)  (out : Int32) (h : fX0_firstGreatestRemainder σ   = some out) : MRi l yX0_firstGreatestRemainder wsX0_firstGreatestRemainder rmX0_firstGreatestRemainder D (tysX0 kc) (wX0 kc q σ) [.ref (q 0)] out := by
  refine ofRi (cc := cX0_firstGreatestRemainder) (maxL := 3) (ret := (some .int)) (lv := [(0, .ref (q 0))]) (by decide) rfl (Nat.le_of_ble_eq_true rfl) rfl ?_
  intro p e s m args below meth c C hK hP ls hl
  have C : cxt p s m args meth c RX0 cX0_firstGreatestRemainder 3 (some .int) wsX0_firstGreatestRemainder := C
  obtain ⟨hx, hb, hr, hml, hown, hts, hlocks⟩ := id C
  unfold fX0_firstGreatestRemainder at h
  refine lv_iconst (v := (0 : Int32)) hx hb dX0_firstGreatestRemainder_0 (by decide) ?_
  refine lv_istore_n (lv' := [(1, .int (0 : Int32)), (0, .ref (q 0))]) hx hb dX0_firstGreatestRemainder_1 rfl hl (by decide) rfl (fun ls hl => ?_)
  refine lv_iconst (v := (1 : Int32)) hx hb dX0_firstGreatestRemainder_2 (by decide) ?_
  refine lv_istore_n (lv' := [(2, .int (1 : Int32)), (1, .int (0 : Int32)), (0, .ref (q 0))]) hx hb dX0_firstGreatestRemainder_3 rfl hl (by decide) rfl (fun ls hl => ?_)
  exact wX0_firstGreatestRemainder_L4 C hK  (0 : Int32) (1 : Int32) ls h hP (lv_sub hl [2, 1, 0] rfl)
abbrev rmX0_giveByRemainders : Room := { frames := 1, cells := 0, slots := 0, locals := 22 }
theorem hinX0_giveByRemainders : ∀ w ∈ u_ws RX0 TX0 13, w ∈ wsX0_giveByRemainders := by first | exact fun _ h => List.mem_cons_of_mem _ (List.mem_append_right _ h) | exact fun _ h => List.mem_cons_of_mem _ (List.mem_append_left _ (List.mem_append_right _ h)) | decide +kernel
def fX0_giveByRemainders_B76 (σ : CS) (r : Nat)  (k76 : Int32 × Int32 × CS → Option (CS)) (x5 : Int32) (x6 : Int32) : Option (CS) := (if x5 ≤ x6 then (some σ) else ((fX0_firstGreatestRemainder σ).bind fun o2 => (if ix o2 8 = true then (if ix o2 8 = true then (bd (sc_seatsGiven σ (upd (c_seatsGiven σ) o2.toNatClampNeg (((c_seatsGiven σ) o2.toNatClampNeg) + (1 : Int32)))) fun s6 => (if ix o2 8 = true then (bd (sc_remainders s6 (vp_updL (c_remainders s6) o2.toNatClampNeg (-1 : Int64))) fun s9 => (k76 (x5, (x6 + (1 : Int32)), s9))) else none)) else none) else none)))
def fX0_giveByRemainders_L76 (σ : CS) (r : Nat)  (x5 : Int32) (x6 : Int32) : Option (CS) := lp (fun k t => fX0_giveByRemainders_B76 t.2.2 r  k t.1 t.2.1) FU (x5, x6, σ)
set_option maxHeartbeats 4000000 in
set_option maxRecDepth 100000 in
theorem wX0_giveByRemainders_B76 {p : Program} {l : Launch} {e : Env} {s : State} {m : MethodId} {args : Array Value} {below : List Frame} {meth : Method} {c : Code} {A : Nat → Prop} {D : va_G} {kc : Nat → ClassId} {q : Nat → Nat} {r : Nat} {out : CS} (C : cxt p s m args meth c RX0 cX0_giveByRemainders 8 none wsX0_giveByRemainders) (hA : ∀ x, s.heap.size ≤ x → A x) (hK : va_K D vwCl (tysX0 kc) s) (hr : r < 4) (k76 : Int32 × Int32 × CS → Option (CS)) (hk76 : ∀ (x5 : Int32) (x6 : Int32) (σ : CS) (H : Heap) (locs : List Loc) (ls : Array Slot), k76 (x5, x6, σ) = some out → va_P D vwCl (wX0 kc q σ) H → va_D A (wX0 kc q σ) → va_S A s.heap H locs → lv_has ls 8 [(0, .ref (q 0)), (1, .ref (q (8 + r))), (5, .int x5), (6, .int x6)] → W p l e rmX0_giveByRemainders s m args below meth c H locs 0 0 (MQ below (QMv D (tysX0 kc) (wX0 kc q) A out) args s 0 0 A) (F0 m 76 ls [])) (σ : CS) (x5 : Int32) (x6 : Int32) (H : Heap) (locs : List Loc) (ls : Array Slot) (h : fX0_giveByRemainders_B76 σ r  k76 x5 x6 = some out) (hP : va_P D vwCl (wX0 kc q σ) H) (hD : va_D A (wX0 kc q σ)) (hS : va_S A s.heap H locs) (hl : lv_has ls 8 [(0, .ref (q 0)), (1, .ref (q (8 + r))), (5, .int x5), (6, .int x6)]) : W p l e rmX0_giveByRemainders s m args below meth c H locs 0 0 (MQ below (QMv D (tysX0 kc) (wX0 kc q) A out) args s 0 0 A) (F0 m 76 ls []) := by
  obtain ⟨hx, hb, hret, hml, hown, hts, hlocks⟩ := id C
  unfold fX0_giveByRemainders_B76 at h
  refine lv_iload hx hb dX0_giveByRemainders_76 (lv_at hl 3 rfl) ?_
  refine lv_iload hx hb dX0_giveByRemainders_78 (lv_at hl 2 rfl) ?_
  refine lv_icmp_ge (tgt := 116) hx hb dX0_giveByRemainders_80 (by decide) (fun c1 => ?_) (fun c1 => ?_)
  · replace h := br_p c1 h
    exact reMv hx hb hret hlocks hK hP hD hS h dX0_giveByRemainders_116
  · replace h := br_n c1 h
    refine lv_aload_n hx hb dX0_giveByRemainders_83 rfl (lv_at hl 0 rfl) ?_
    obtain ⟨o2, ho3, h⟩ := bi h
    refine caRi (q0 := 0) (As := []) (rest := []) ⟨hx, hb, hml, hown, hts⟩ (mX0_firstGreatestRemainder l D kc q σ  o2 ho3) (cwV 0 hts gX0_giveByRemainders_X0_firstGreatestRemainder rfl rfl rfl (by decide +kernel) ⟨Nat.le_of_ble_eq_true rfl, Nat.le_of_ble_eq_true rfl⟩) hK hP rfl rfl rfl rfl hl.1 (Nat.le_of_ble_eq_true rfl) dX0_giveByRemainders_84 ⟨Nat.zero_le _, Nat.zero_le _⟩ ?_
    refine lv_istore (lv' := [(7, .int o2), (0, .ref (q 0)), (1, .ref (q (8 + r))), (5, .int x5), (6, .int x6)]) hx hb dX0_giveByRemainders_87 hl (by decide) rfl (fun ls hl => ?_)
    refine lv_aload_n hx hb dX0_giveByRemainders_89 rfl (lv_at hl 1 rfl) ?_
    refine rdX0_seatsGiven hx hb hts hinX0_giveByRemainders hown hK hP (hts (.fieldLink RX0 27 "ExactShares" "seatsGiven" "[I") (List.mem_of_getElem? (i := 2) rfl)) dX0_giveByRemainders_90 ?_
    refine lv_iload hx hb dX0_giveByRemainders_93 (lv_at hl 0 rfl) ?_
    refine lv_dup2_11 hx hb dX0_giveByRemainders_95 rfl rfl ?_
    obtain ⟨g4, h⟩ := gd_t h
    refine ldX0_seatsGiven hx hb hK hP g4 dX0_giveByRemainders_96 ?_
    refine lv_iconst (v := (1 : Int32)) hx hb dX0_giveByRemainders_97 (by decide) ?_
    refine lv_iadd hx hb dX0_giveByRemainders_98 ?_
    obtain ⟨g5, h⟩ := gd_t h
    refine stX0_seatsGiven (x := (((c_seatsGiven σ) o2.toNatClampNeg) + (1 : Int32))) hx hb hK hP hD hS g5 dX0_giveByRemainders_99 (fun H locs hP hD hS => ?_)
    obtain ⟨s6, e7, h⟩ := bd_e h
    replace hP : va_P D vwCl (wX0 kc q s6) H := by rw [e7]; exact hP
    replace hD : va_D A (wX0 kc q s6) := by rw [e7]; exact hD
    clear e7
    refine lv_aload_n hx hb dX0_giveByRemainders_100 rfl (lv_at hl 1 rfl) ?_
    refine rdX0_remainders hx hb hts hinX0_giveByRemainders hown hK hP (hts (.fieldLink RX0 30 "ExactShares" "remainders" "[J") (List.mem_of_getElem? (i := 3) rfl)) dX0_giveByRemainders_101 ?_
    refine lv_iload hx hb dX0_giveByRemainders_104 (lv_at hl 0 rfl) ?_
    refine lv_ldc2 (v := (-1 : Int64)) hx hb hown (hts (.constantLong RX0 108 (-1)) (List.mem_of_getElem? (i := 4) rfl)) dX0_giveByRemainders_106 ?_
    obtain ⟨g8, h⟩ := gd_t h
    refine stX0_remainders (x := (-1 : Int64)) hx hb hK hP hD hS g8 dX0_giveByRemainders_109 (fun H locs hP hD hS => ?_)
    obtain ⟨s9, e10, h⟩ := bd_e h
    replace hP : va_P D vwCl (wX0 kc q s9) H := by rw [e10]; exact hP
    replace hD : va_D A (wX0 kc q s9) := by rw [e10]; exact hD
    clear e10
    refine lv_iinc (v := (x6 + (1 : Int32))) (lv' := [(6, .int (x6 + (1 : Int32))), (7, .int o2), (0, .ref (q 0)), (1, .ref (q (8 + r))), (5, .int x5)]) hx hb dX0_giveByRemainders_110 hl (k := 4) rfl rfl (by decide) rfl (fun ls hl => ?_)
    refine lv_goto (tgt := 76) hx hb dX0_giveByRemainders_113 (by decide) ?_
    exact hk76 x5 (x6 + (1 : Int32)) s9 H locs ls h hP hD hS (lv_sub hl [2, 3, 4, 0] rfl)
set_option maxHeartbeats 4000000 in
set_option maxRecDepth 100000 in
theorem wX0_giveByRemainders_L76 {p : Program} {l : Launch} {e : Env} {s : State} {m : MethodId} {args : Array Value} {below : List Frame} {meth : Method} {c : Code} {A : Nat → Prop} {D : va_G} {kc : Nat → ClassId} {q : Nat → Nat} {r : Nat} {out : CS} (C : cxt p s m args meth c RX0 cX0_giveByRemainders 8 none wsX0_giveByRemainders) (hA : ∀ x, s.heap.size ≤ x → A x) (hK : va_K D vwCl (tysX0 kc) s) (hr : r < 4) (σ : CS) (x5 : Int32) (x6 : Int32) (H : Heap) (locs : List Loc) (ls : Array Slot) (h : fX0_giveByRemainders_L76 σ r  x5 x6 = some out) (hP : va_P D vwCl (wX0 kc q σ) H) (hD : va_D A (wX0 kc q σ)) (hS : va_S A s.heap H locs) (hl : lv_has ls 8 [(0, .ref (q 0)), (1, .ref (q (8 + r))), (5, .int x5), (6, .int x6)]) : W p l e rmX0_giveByRemainders s m args below meth c H locs 0 0 (MQ below (QMv D (tysX0 kc) (wX0 kc q) A out) args s 0 0 A) (F0 m 76 ls []) := by
  unfold fX0_giveByRemainders_L76 at h
  exact lp_ind (P := fun t : Int32 × Int32 × CS => ∀ (H : Heap) (locs : List Loc) (ls : Array Slot), va_P D vwCl (wX0 kc q t.2.2) H → va_D A (wX0 kc q t.2.2) → va_S A s.heap H locs → lv_has ls 8 [(0, .ref (q 0)), (1, .ref (q (8 + r))), (5, .int t.1), (6, .int t.2.1)] → W p l e rmX0_giveByRemainders s m args below meth c H locs 0 0 (MQ below (QMv D (tysX0 kc) (wX0 kc q) A out) args s 0 0 A) (F0 m 76 ls [])) (fun k hk t h H locs ls hP hD hS hl => wX0_giveByRemainders_B76 C hA hK hr  k (fun x5 x6 σ H locs ls h hP hD hS hl => hk (x5, x6, σ) h H locs ls hP hD hS hl) t.2.2 t.1 t.2.1 H locs ls h hP hD hS hl) FU (x5, x6, σ) h H locs ls hP hD hS hl
def fX0_giveByRemainders_B13 (σ : CS) (r : Nat)  (k13 : Int32 × Int64 × Int32 × Int32 × CS → Option (CS)) (x2 : Int32) (x3 : Int64) (x5 : Int32) (x6 : Int32) : Option (CS) := (if (c_seatsGivenTo σ) ≤ x6 then (fX0_giveByRemainders_L76 σ r x5 (0 : Int32)) else (if ix x6 8 = true then (if x3 = (0 : Int64) then none else (if ix x6 8 = true then (bd (sc_seatsGiven σ (upd (c_seatsGiven σ) x6.toNatClampNeg ((((x2.toInt64) * ((c_values σ) r x6.toNatClampNeg)) / x3).toInt32))) fun s5 => (if ix x6 8 = true then (if x3 = (0 : Int64) then none else (if ix x6 8 = true then (bd (sc_remainders s5 (vp_updL (c_remainders s5) x6.toNatClampNeg (lmd ((x2.toInt64) * ((c_values s5) r x6.toNatClampNeg)) x3))) fun s10 => (if ix x6 8 = true then (k13 (x2, x3, (x5 - ((c_seatsGiven s10) x6.toNatClampNeg)), (x6 + (1 : Int32)), s10)) else none)) else none)) else none)) else none)) else none))
def fX0_giveByRemainders_L13 (σ : CS) (r : Nat)  (x2 : Int32) (x3 : Int64) (x5 : Int32) (x6 : Int32) : Option (CS) := lp (fun k t => fX0_giveByRemainders_B13 t.2.2.2.2 r  k t.1 t.2.1 t.2.2.1 t.2.2.2.1) FU (x2, x3, x5, x6, σ)
set_option maxHeartbeats 4000000 in
set_option maxRecDepth 100000 in
theorem wX0_giveByRemainders_B13 {p : Program} {l : Launch} {e : Env} {s : State} {m : MethodId} {args : Array Value} {below : List Frame} {meth : Method} {c : Code} {A : Nat → Prop} {D : va_G} {kc : Nat → ClassId} {q : Nat → Nat} {r : Nat} {out : CS} (C : cxt p s m args meth c RX0 cX0_giveByRemainders 8 none wsX0_giveByRemainders) (hA : ∀ x, s.heap.size ≤ x → A x) (hK : va_K D vwCl (tysX0 kc) s) (hr : r < 4) (k13 : Int32 × Int64 × Int32 × Int32 × CS → Option (CS)) (hk13 : ∀ (x2 : Int32) (x3 : Int64) (x5 : Int32) (x6 : Int32) (σ : CS) (H : Heap) (locs : List Loc) (ls : Array Slot), k13 (x2, x3, x5, x6, σ) = some out → va_P D vwCl (wX0 kc q σ) H → va_D A (wX0 kc q σ) → va_S A s.heap H locs → lv_has ls 8 [(0, .ref (q 0)), (1, .ref (q (8 + r))), (2, .int x2), (3, .long x3), (5, .int x5), (6, .int x6)] → W p l e rmX0_giveByRemainders s m args below meth c H locs 0 0 (MQ below (QMv D (tysX0 kc) (wX0 kc q) A out) args s 0 0 A) (F0 m 13 ls [])) (σ : CS) (x2 : Int32) (x3 : Int64) (x5 : Int32) (x6 : Int32) (H : Heap) (locs : List Loc) (ls : Array Slot) (h : fX0_giveByRemainders_B13 σ r  k13 x2 x3 x5 x6 = some out) (hP : va_P D vwCl (wX0 kc q σ) H) (hD : va_D A (wX0 kc q σ)) (hS : va_S A s.heap H locs) (hl : lv_has ls 8 [(0, .ref (q 0)), (1, .ref (q (8 + r))), (2, .int x2), (3, .long x3), (5, .int x5), (6, .int x6)]) : W p l e rmX0_giveByRemainders s m args below meth c H locs 0 0 (MQ below (QMv D (tysX0 kc) (wX0 kc q) A out) args s 0 0 A) (F0 m 13 ls []) := by
  obtain ⟨hx, hb, hret, hml, hown, hts, hlocks⟩ := id C
  unfold fX0_giveByRemainders_B13 at h
  refine lv_iload hx hb dX0_giveByRemainders_13 (lv_at hl 5 rfl) ?_
  refine lv_aload_n hx hb dX0_giveByRemainders_15 rfl (lv_at hl 0 rfl) ?_
  refine rdX0_seatsGivenTo hx hb hts hinX0_giveByRemainders hown hK hP (hts (.fieldLink RX0 116 "ExactShares" "seatsGivenTo" "I") (List.mem_of_getElem? (i := 1) rfl)) dX0_giveByRemainders_16 ?_
  refine lv_icmp_ge (tgt := 73) hx hb dX0_giveByRemainders_19 (by decide) (fun c1 => ?_) (fun c1 => ?_)
  · replace h := br_p c1 h
    refine lv_iconst (v := (0 : Int32)) hx hb dX0_giveByRemainders_73 (by decide) ?_
    refine lv_istore (lv' := [(6, .int (0 : Int32)), (0, .ref (q 0)), (1, .ref (q (8 + r))), (2, .int x2), (3, .long x3), (5, .int x5)]) hx hb dX0_giveByRemainders_74 hl (by decide) rfl (fun ls hl => ?_)
    exact wX0_giveByRemainders_L76 C hA hK hr  σ x5 (0 : Int32) H locs ls h hP hD hS (lv_sub hl [1, 2, 5, 0] rfl)
  · replace h := br_n c1 h
    refine lv_aload_n hx hb dX0_giveByRemainders_22 rfl (lv_at hl 0 rfl) ?_
    refine rdX0_seatsGiven hx hb hts hinX0_giveByRemainders hown hK hP (hts (.fieldLink RX0 27 "ExactShares" "seatsGiven" "[I") (List.mem_of_getElem? (i := 2) rfl)) dX0_giveByRemainders_23 ?_
    refine lv_iload hx hb dX0_giveByRemainders_26 (lv_at hl 5 rfl) ?_
    refine lv_iload_n hx hb dX0_giveByRemainders_28 rfl (lv_at hl 2 rfl) ?_
    refine lv_i2l (v := (x2.toInt64)) hx hb dX0_giveByRemainders_29 rfl ?_
    refine lv_aload_n hx hb dX0_giveByRemainders_30 rfl (lv_at hl 1 rfl) ?_
    refine lv_iload hx hb dX0_giveByRemainders_31 (lv_at hl 5 rfl) ?_
    obtain ⟨g2, h⟩ := gd_t h
    refine ldX0_row hx hb hK hP hr g2 dX0_giveByRemainders_33 ?_
    refine lv_lmul hx hb dX0_giveByRemainders_34 ?_
    refine lv_lload_n hx hb dX0_giveByRemainders_35 rfl (lv_at hl 3 rfl) ?_
    obtain ⟨g3, h⟩ := gd_f h
    refine lv_ldiv hx hb dX0_giveByRemainders_36 g3 ?_
    refine lv_l2i (v := ((((x2.toInt64) * ((c_values σ) r x6.toNatClampNeg)) / x3).toInt32)) hx hb dX0_giveByRemainders_37 rfl ?_
    obtain ⟨g4, h⟩ := gd_t h
    refine stX0_seatsGiven (x := ((((x2.toInt64) * ((c_values σ) r x6.toNatClampNeg)) / x3).toInt32)) hx hb hK hP hD hS g4 dX0_giveByRemainders_38 (fun H locs hP hD hS => ?_)
    obtain ⟨s5, e6, h⟩ := bd_e h
    replace hP : va_P D vwCl (wX0 kc q s5) H := by rw [e6]; exact hP
    replace hD : va_D A (wX0 kc q s5) := by rw [e6]; exact hD
    clear e6
    refine lv_aload_n hx hb dX0_giveByRemainders_39 rfl (lv_at hl 0 rfl) ?_
    refine rdX0_remainders hx hb hts hinX0_giveByRemainders hown hK hP (hts (.fieldLink RX0 30 "ExactShares" "remainders" "[J") (List.mem_of_getElem? (i := 3) rfl)) dX0_giveByRemainders_40 ?_
    refine lv_iload hx hb dX0_giveByRemainders_43 (lv_at hl 5 rfl) ?_
    refine lv_iload_n hx hb dX0_giveByRemainders_45 rfl (lv_at hl 2 rfl) ?_
    refine lv_i2l (v := (x2.toInt64)) hx hb dX0_giveByRemainders_46 rfl ?_
    refine lv_aload_n hx hb dX0_giveByRemainders_47 rfl (lv_at hl 1 rfl) ?_
    refine lv_iload hx hb dX0_giveByRemainders_48 (lv_at hl 5 rfl) ?_
    obtain ⟨g7, h⟩ := gd_t h
    refine ldX0_row hx hb hK hP hr g7 dX0_giveByRemainders_50 ?_
    refine lv_lmul hx hb dX0_giveByRemainders_51 ?_
    refine lv_lload_n hx hb dX0_giveByRemainders_52 rfl (lv_at hl 3 rfl) ?_
    obtain ⟨g8, h⟩ := gd_f h
    refine lv_lrem hx hb dX0_giveByRemainders_53 g8 ?_
    obtain ⟨g9, h⟩ := gd_t h
    refine stX0_remainders (x := (lmd ((x2.toInt64) * ((c_values s5) r x6.toNatClampNeg)) x3)) hx hb hK hP hD hS g9 dX0_giveByRemainders_54 (fun H locs hP hD hS => ?_)
    obtain ⟨s10, e11, h⟩ := bd_e h
    replace hP : va_P D vwCl (wX0 kc q s10) H := by rw [e11]; exact hP
    replace hD : va_D A (wX0 kc q s10) := by rw [e11]; exact hD
    clear e11
    refine lv_iload hx hb dX0_giveByRemainders_55 (lv_at hl 4 rfl) ?_
    refine lv_aload_n hx hb dX0_giveByRemainders_57 rfl (lv_at hl 0 rfl) ?_
    refine rdX0_seatsGiven hx hb hts hinX0_giveByRemainders hown hK hP (hts (.fieldLink RX0 27 "ExactShares" "seatsGiven" "[I") (List.mem_of_getElem? (i := 2) rfl)) dX0_giveByRemainders_58 ?_
    refine lv_iload hx hb dX0_giveByRemainders_61 (lv_at hl 5 rfl) ?_
    obtain ⟨g12, h⟩ := gd_t h
    refine ldX0_seatsGiven hx hb hK hP g12 dX0_giveByRemainders_63 ?_
    refine lv_isub hx hb dX0_giveByRemainders_64 ?_
    refine lv_istore (lv' := [(5, .int (x5 - ((c_seatsGiven s10) x6.toNatClampNeg))), (0, .ref (q 0)), (1, .ref (q (8 + r))), (2, .int x2), (3, .long x3), (6, .int x6)]) hx hb dX0_giveByRemainders_65 hl (by decide) rfl (fun ls hl => ?_)
    refine lv_iinc (v := (x6 + (1 : Int32))) (lv' := [(6, .int (x6 + (1 : Int32))), (5, .int (x5 - ((c_seatsGiven s10) x6.toNatClampNeg))), (0, .ref (q 0)), (1, .ref (q (8 + r))), (2, .int x2), (3, .long x3)]) hx hb dX0_giveByRemainders_67 hl (k := 5) rfl rfl (by decide) rfl (fun ls hl => ?_)
    refine lv_goto (tgt := 13) hx hb dX0_giveByRemainders_70 (by decide) ?_
    exact hk13 x2 x3 (x5 - ((c_seatsGiven s10) x6.toNatClampNeg)) (x6 + (1 : Int32)) s10 H locs ls h hP hD hS (lv_sub hl [2, 3, 4, 5, 1, 0] rfl)
set_option maxHeartbeats 4000000 in
set_option maxRecDepth 100000 in
theorem wX0_giveByRemainders_L13 {p : Program} {l : Launch} {e : Env} {s : State} {m : MethodId} {args : Array Value} {below : List Frame} {meth : Method} {c : Code} {A : Nat → Prop} {D : va_G} {kc : Nat → ClassId} {q : Nat → Nat} {r : Nat} {out : CS} (C : cxt p s m args meth c RX0 cX0_giveByRemainders 8 none wsX0_giveByRemainders) (hA : ∀ x, s.heap.size ≤ x → A x) (hK : va_K D vwCl (tysX0 kc) s) (hr : r < 4) (σ : CS) (x2 : Int32) (x3 : Int64) (x5 : Int32) (x6 : Int32) (H : Heap) (locs : List Loc) (ls : Array Slot) (h : fX0_giveByRemainders_L13 σ r  x2 x3 x5 x6 = some out) (hP : va_P D vwCl (wX0 kc q σ) H) (hD : va_D A (wX0 kc q σ)) (hS : va_S A s.heap H locs) (hl : lv_has ls 8 [(0, .ref (q 0)), (1, .ref (q (8 + r))), (2, .int x2), (3, .long x3), (5, .int x5), (6, .int x6)]) : W p l e rmX0_giveByRemainders s m args below meth c H locs 0 0 (MQ below (QMv D (tysX0 kc) (wX0 kc q) A out) args s 0 0 A) (F0 m 13 ls []) := by
  unfold fX0_giveByRemainders_L13 at h
  exact lp_ind (P := fun t : Int32 × Int64 × Int32 × Int32 × CS => ∀ (H : Heap) (locs : List Loc) (ls : Array Slot), va_P D vwCl (wX0 kc q t.2.2.2.2) H → va_D A (wX0 kc q t.2.2.2.2) → va_S A s.heap H locs → lv_has ls 8 [(0, .ref (q 0)), (1, .ref (q (8 + r))), (2, .int t.1), (3, .long t.2.1), (5, .int t.2.2.1), (6, .int t.2.2.2.1)] → W p l e rmX0_giveByRemainders s m args below meth c H locs 0 0 (MQ below (QMv D (tysX0 kc) (wX0 kc q) A out) args s 0 0 A) (F0 m 13 ls [])) (fun k hk t h H locs ls hP hD hS hl => wX0_giveByRemainders_B13 C hA hK hr  k (fun x2 x3 x5 x6 σ H locs ls h hP hD hS hl => hk (x2, x3, x5, x6, σ) h H locs ls hP hD hS hl) t.2.2.2.2 t.1 t.2.1 t.2.2.1 t.2.2.2.1 H locs ls h hP hD hS hl) FU (x2, x3, x5, x6, σ) h H locs ls hP hD hS hl
def fX0_giveByRemainders (σ : CS) (r : Nat) (x2 : Int32) (x3 : Int64) : Option (CS) := (if (1 : Int64) ≤ x3 then (fX0_giveByRemainders_L13 σ r x2 x3 x2 (0 : Int32)) else (some σ))
set_option maxHeartbeats 4000000 in
set_option maxRecDepth 100000 in
theorem mX0_giveByRemainders (l : Launch) (D : va_G) (kc : Nat → ClassId) (q : Nat → Nat) (σ : CS) (r : Nat) (hr : r < 4) (x2 : Int32) (x3 : Int64) (out : CS) (h : fX0_giveByRemainders σ r x2 x3 = some out) : MMv l yX0_giveByRemainders wsX0_giveByRemainders rmX0_giveByRemainders D (tysX0 kc) (wX0 kc q) σ [.ref (q 0), .ref (q (8 + r)), .int x2, .long x3] out := by
  refine ofMv (cc := cX0_giveByRemainders) (maxL := 8) (ret := none) (lv := [(0, .ref (q 0)), (1, .ref (q (8 + r))), (2, .int x2), (3, .long x3)]) (by decide) rfl (Nat.le_of_ble_eq_true rfl) rfl ?_
  intro p e s m args below meth c A C hA hK hP hD hS ls hl
  have C : cxt p s m args meth c RX0 cX0_giveByRemainders 8 none wsX0_giveByRemainders := C
  obtain ⟨hx, hb, hret, hml, hown, hts, hlocks⟩ := id C
  obtain ⟨H, hH⟩ : ∃ H, H = s.heap := ⟨_, rfl⟩
  obtain ⟨locs, hlocs⟩ : ∃ locs : List Loc, locs = [] := ⟨_, rfl⟩
  have hS : va_S A s.heap H locs := by rw [hH, hlocs]; exact va_S.rf
  rw [← hH] at hP
  suffices hW : W p l e rmX0_giveByRemainders s m args below meth c H locs 0 0 _ (F0 m 0 ls []) by rw [hH, hlocs] at hW; exact hW
  unfold fX0_giveByRemainders at h
  refine lv_lload_n hx hb dX0_giveByRemainders_0 rfl (lv_at hl 3 rfl) ?_
  refine lv_lconst (v := (1 : Int64)) hx hb dX0_giveByRemainders_1 (by decide) ?_
  refine xl_ge (tgt := 7) hx hb dX0_giveByRemainders_2 dX0_giveByRemainders_3 (by decide) (fun c1 => ?_) (fun c1 => ?_)
  · replace h := br_p c1 h
    refine lv_iload_n hx hb dX0_giveByRemainders_7 rfl (lv_at hl 2 rfl) ?_
    refine lv_istore (lv' := [(5, .int x2), (0, .ref (q 0)), (1, .ref (q (8 + r))), (2, .int x2), (3, .long x3)]) hx hb dX0_giveByRemainders_8 hl (by decide) rfl (fun ls hl => ?_)
    refine lv_iconst (v := (0 : Int32)) hx hb dX0_giveByRemainders_10 (by decide) ?_
    refine lv_istore (lv' := [(6, .int (0 : Int32)), (5, .int x2), (0, .ref (q 0)), (1, .ref (q (8 + r))), (2, .int x2), (3, .long x3)]) hx hb dX0_giveByRemainders_11 hl (by decide) rfl (fun ls hl => ?_)
    exact wX0_giveByRemainders_L13 C hA hK hr  σ x2 x3 x2 (0 : Int32) H locs ls h hP hD hS (lv_sub hl [2, 3, 4, 5, 1, 0] rfl)
  · replace h := br_n c1 h
    exact reMv hx hb hret hlocks hK hP hD hS h dX0_giveByRemainders_6
abbrev rmX0_giveOneByOne : Room := { frames := 0, cells := 0, slots := 0, locals := 0 }
theorem hinX0_giveOneByOne : ∀ w ∈ u_ws RX0 TX0 13, w ∈ wsX0_giveOneByOne := by first | exact fun _ h => List.mem_cons_of_mem _ (List.mem_append_right _ h) | exact fun _ h => List.mem_cons_of_mem _ (List.mem_append_left _ (List.mem_append_right _ h)) | decide +kernel
def fX0_giveOneByOne_L100 (σ : CS) (r : Nat) (k29 : Int32 × Int32 × Int32 × CS → Option (CS)) (k41 : Int32 × Int32 × Int32 × Int32 × Int32 × CS → Option (CS)) (x2 : Int32) (x3 : Int32) (x4 : Int32) (x5 : Int32) (x6 : Int32) : Option (CS) := (k41 (x2, x3, x4, x5, (x6 + (1 : Int32)), σ))
set_option maxHeartbeats 4000000 in
set_option maxRecDepth 100000 in
theorem wX0_giveOneByOne_L100 {p : Program} {l : Launch} {e : Env} {s : State} {m : MethodId} {args : Array Value} {below : List Frame} {meth : Method} {c : Code} {A : Nat → Prop} {D : va_G} {kc : Nat → ClassId} {q : Nat → Nat} {r : Nat} {out : CS} (C : cxt p s m args meth c RX0 cX0_giveOneByOne 11 none wsX0_giveOneByOne) (hA : ∀ x, s.heap.size ≤ x → A x) (hK : va_K D vwCl (tysX0 kc) s) (hr : r < 4) (k29 : Int32 × Int32 × Int32 × CS → Option (CS)) (hk29 : ∀ (x2 : Int32) (x3 : Int32) (x4 : Int32) (σ : CS) (H : Heap) (locs : List Loc) (ls : Array Slot), k29 (x2, x3, x4, σ) = some out → va_P D vwCl (wX0 kc q σ) H → va_D A (wX0 kc q σ) → va_S A s.heap H locs → lv_has ls 11 [(0, .ref (q 0)), (1, .ref (q (8 + r))), (2, .int x2), (3, .int x3), (4, .int x4)] → W p l e rmX0_giveOneByOne s m args below meth c H locs 0 0 (MQ below (QMv D (tysX0 kc) (wX0 kc q) A out) args s 0 0 A) (F0 m 29 ls [])) (k41 : Int32 × Int32 × Int32 × Int32 × Int32 × CS → Option (CS)) (hk41 : ∀ (x2 : Int32) (x3 : Int32) (x4 : Int32) (x5 : Int32) (x6 : Int32) (σ : CS) (H : Heap) (locs : List Loc) (ls : Array Slot), k41 (x2, x3, x4, x5, x6, σ) = some out → va_P D vwCl (wX0 kc q σ) H → va_D A (wX0 kc q σ) → va_S A s.heap H locs → lv_has ls 11 [(0, .ref (q 0)), (1, .ref (q (8 + r))), (2, .int x2), (3, .int x3), (4, .int x4), (5, .int x5), (6, .int x6)] → W p l e rmX0_giveOneByOne s m args below meth c H locs 0 0 (MQ below (QMv D (tysX0 kc) (wX0 kc q) A out) args s 0 0 A) (F0 m 41 ls [])) (σ : CS) (x2 : Int32) (x3 : Int32) (x4 : Int32) (x5 : Int32) (x6 : Int32) (H : Heap) (locs : List Loc) (ls : Array Slot) (h : fX0_giveOneByOne_L100 σ r k29 k41 x2 x3 x4 x5 x6 = some out) (hP : va_P D vwCl (wX0 kc q σ) H) (hD : va_D A (wX0 kc q σ)) (hS : va_S A s.heap H locs) (hl : lv_has ls 11 [(0, .ref (q 0)), (1, .ref (q (8 + r))), (2, .int x2), (3, .int x3), (4, .int x4), (5, .int x5), (6, .int x6)]) : W p l e rmX0_giveOneByOne s m args below meth c H locs 0 0 (MQ below (QMv D (tysX0 kc) (wX0 kc q) A out) args s 0 0 A) (F0 m 100 ls []) := by
  obtain ⟨hx, hb, hret, hml, hown, hts, hlocks⟩ := id C
  unfold fX0_giveOneByOne_L100 at h
  refine lv_iinc (v := (x6 + (1 : Int32))) (lv' := [(6, .int (x6 + (1 : Int32))), (0, .ref (q 0)), (1, .ref (q (8 + r))), (2, .int x2), (3, .int x3), (4, .int x4), (5, .int x5)]) hx hb dX0_giveOneByOne_100 hl (k := 6) rfl rfl (by decide) rfl (fun ls hl => ?_)
  refine lv_goto (tgt := 41) hx hb dX0_giveOneByOne_103 (by decide) ?_
  exact hk41 x2 x3 x4 x5 (x6 + (1 : Int32)) σ H locs ls h hP hD hS (lv_sub hl [1, 2, 3, 4, 5, 6, 0] rfl)
def fX0_giveOneByOne_B41 (σ : CS) (r : Nat) (k29 : Int32 × Int32 × Int32 × CS → Option (CS)) (k41 : Int32 × Int32 × Int32 × Int32 × Int32 × CS → Option (CS)) (x2 : Int32) (x3 : Int32) (x4 : Int32) (x5 : Int32) (x6 : Int32) : Option (CS) := (if (c_seatsGivenTo σ) ≤ x6 then (if ix x5 8 = true then (if ix x5 8 = true then (bd (sc_seatsGiven σ (upd (c_seatsGiven σ) x5.toNatClampNeg (((c_seatsGiven σ) x5.toNatClampNeg) + (1 : Int32)))) fun s4 => (k29 (x2, x3, (x4 + (1 : Int32)), s4))) else none) else none) else (if ix x6 8 = true then (if ix x5 8 = true then (if ix x6 8 = true then (if ix x5 8 = true then (if (((c_values σ) r x6.toNatClampNeg) * (((x3 * ((c_seatsGiven σ) x5.toNatClampNeg)) + (1 : Int32)).toInt64)) ≤ (((c_values σ) r x5.toNatClampNeg) * (((x3 * ((c_seatsGiven σ) x6.toNatClampNeg)) + (1 : Int32)).toInt64)) then (fX0_giveOneByOne_L100 σ r k29 k41 x2 x3 x4 x5 x6) else (fX0_giveOneByOne_L100 σ r k29 k41 x2 x3 x4 x6 x6)) else none) else none) else none) else none))
def fX0_giveOneByOne_L41 (σ : CS) (r : Nat) (k29 : Int32 × Int32 × Int32 × CS → Option (CS)) (x2 : Int32) (x3 : Int32) (x4 : Int32) (x5 : Int32) (x6 : Int32) : Option (CS) := lp (fun k t => fX0_giveOneByOne_B41 t.2.2.2.2.2 r k29 k t.1 t.2.1 t.2.2.1 t.2.2.2.1 t.2.2.2.2.1) FU (x2, x3, x4, x5, x6, σ)
set_option maxHeartbeats 4000000 in
set_option maxRecDepth 100000 in
theorem wX0_giveOneByOne_B41 {p : Program} {l : Launch} {e : Env} {s : State} {m : MethodId} {args : Array Value} {below : List Frame} {meth : Method} {c : Code} {A : Nat → Prop} {D : va_G} {kc : Nat → ClassId} {q : Nat → Nat} {r : Nat} {out : CS} (C : cxt p s m args meth c RX0 cX0_giveOneByOne 11 none wsX0_giveOneByOne) (hA : ∀ x, s.heap.size ≤ x → A x) (hK : va_K D vwCl (tysX0 kc) s) (hr : r < 4) (k29 : Int32 × Int32 × Int32 × CS → Option (CS)) (hk29 : ∀ (x2 : Int32) (x3 : Int32) (x4 : Int32) (σ : CS) (H : Heap) (locs : List Loc) (ls : Array Slot), k29 (x2, x3, x4, σ) = some out → va_P D vwCl (wX0 kc q σ) H → va_D A (wX0 kc q σ) → va_S A s.heap H locs → lv_has ls 11 [(0, .ref (q 0)), (1, .ref (q (8 + r))), (2, .int x2), (3, .int x3), (4, .int x4)] → W p l e rmX0_giveOneByOne s m args below meth c H locs 0 0 (MQ below (QMv D (tysX0 kc) (wX0 kc q) A out) args s 0 0 A) (F0 m 29 ls [])) (k41 : Int32 × Int32 × Int32 × Int32 × Int32 × CS → Option (CS)) (hk41 : ∀ (x2 : Int32) (x3 : Int32) (x4 : Int32) (x5 : Int32) (x6 : Int32) (σ : CS) (H : Heap) (locs : List Loc) (ls : Array Slot), k41 (x2, x3, x4, x5, x6, σ) = some out → va_P D vwCl (wX0 kc q σ) H → va_D A (wX0 kc q σ) → va_S A s.heap H locs → lv_has ls 11 [(0, .ref (q 0)), (1, .ref (q (8 + r))), (2, .int x2), (3, .int x3), (4, .int x4), (5, .int x5), (6, .int x6)] → W p l e rmX0_giveOneByOne s m args below meth c H locs 0 0 (MQ below (QMv D (tysX0 kc) (wX0 kc q) A out) args s 0 0 A) (F0 m 41 ls [])) (σ : CS) (x2 : Int32) (x3 : Int32) (x4 : Int32) (x5 : Int32) (x6 : Int32) (H : Heap) (locs : List Loc) (ls : Array Slot) (h : fX0_giveOneByOne_B41 σ r k29 k41 x2 x3 x4 x5 x6 = some out) (hP : va_P D vwCl (wX0 kc q σ) H) (hD : va_D A (wX0 kc q σ)) (hS : va_S A s.heap H locs) (hl : lv_has ls 11 [(0, .ref (q 0)), (1, .ref (q (8 + r))), (2, .int x2), (3, .int x3), (4, .int x4), (5, .int x5), (6, .int x6)]) : W p l e rmX0_giveOneByOne s m args below meth c H locs 0 0 (MQ below (QMv D (tysX0 kc) (wX0 kc q) A out) args s 0 0 A) (F0 m 41 ls []) := by
  obtain ⟨hx, hb, hret, hml, hown, hts, hlocks⟩ := id C
  unfold fX0_giveOneByOne_B41 at h
  refine lv_iload hx hb dX0_giveOneByOne_41 (lv_at hl 6 rfl) ?_
  refine lv_aload_n hx hb dX0_giveOneByOne_43 rfl (lv_at hl 0 rfl) ?_
  refine rdX0_seatsGivenTo hx hb hts hinX0_giveOneByOne hown hK hP (hts (.fieldLink RX0 116 "ExactShares" "seatsGivenTo" "I") (List.mem_of_getElem? (i := 1) rfl)) dX0_giveOneByOne_44 ?_
  refine lv_icmp_ge (tgt := 106) hx hb dX0_giveOneByOne_47 (by decide) (fun c1 => ?_) (fun c1 => ?_)
  · replace h := br_p c1 h
    refine lv_aload_n hx hb dX0_giveOneByOne_106 rfl (lv_at hl 0 rfl) ?_
    refine rdX0_seatsGiven hx hb hts hinX0_giveOneByOne hown hK hP (hts (.fieldLink RX0 27 "ExactShares" "seatsGiven" "[I") (List.mem_of_getElem? (i := 2) rfl)) dX0_giveOneByOne_107 ?_
    refine lv_iload hx hb dX0_giveOneByOne_110 (lv_at hl 5 rfl) ?_
    refine lv_dup2_11 hx hb dX0_giveOneByOne_112 rfl rfl ?_
    obtain ⟨g2, h⟩ := gd_t h
    refine ldX0_seatsGiven hx hb hK hP g2 dX0_giveOneByOne_113 ?_
    refine lv_iconst (v := (1 : Int32)) hx hb dX0_giveOneByOne_114 (by decide) ?_
    refine lv_iadd hx hb dX0_giveOneByOne_115 ?_
    obtain ⟨g3, h⟩ := gd_t h
    refine stX0_seatsGiven (x := (((c_seatsGiven σ) x5.toNatClampNeg) + (1 : Int32))) hx hb hK hP hD hS g3 dX0_giveOneByOne_116 (fun H locs hP hD hS => ?_)
    obtain ⟨s4, e5, h⟩ := bd_e h
    replace hP : va_P D vwCl (wX0 kc q s4) H := by rw [e5]; exact hP
    replace hD : va_D A (wX0 kc q s4) := by rw [e5]; exact hD
    clear e5
    refine lv_iinc (v := (x4 + (1 : Int32))) (lv' := [(4, .int (x4 + (1 : Int32))), (0, .ref (q 0)), (1, .ref (q (8 + r))), (2, .int x2), (3, .int x3), (5, .int x5), (6, .int x6)]) hx hb dX0_giveOneByOne_117 hl (k := 4) rfl rfl (by decide) rfl (fun ls hl => ?_)
    refine lv_goto (tgt := 29) hx hb dX0_giveOneByOne_120 (by decide) ?_
    exact hk29 x2 x3 (x4 + (1 : Int32)) s4 H locs ls h hP hD hS (lv_sub hl [1, 2, 3, 4, 0] rfl)
  · replace h := br_n c1 h
    refine lv_iload_n hx hb dX0_giveOneByOne_50 rfl (lv_at hl 3 rfl) ?_
    refine lv_aload_n hx hb dX0_giveOneByOne_51 rfl (lv_at hl 0 rfl) ?_
    refine rdX0_seatsGiven hx hb hts hinX0_giveOneByOne hown hK hP (hts (.fieldLink RX0 27 "ExactShares" "seatsGiven" "[I") (List.mem_of_getElem? (i := 2) rfl)) dX0_giveOneByOne_52 ?_
    refine lv_iload hx hb dX0_giveOneByOne_55 (lv_at hl 6 rfl) ?_
    obtain ⟨g6, h⟩ := gd_t h
    refine ldX0_seatsGiven hx hb hK hP g6 dX0_giveOneByOne_57 ?_
    refine lv_imul hx hb dX0_giveOneByOne_58 ?_
    refine lv_iconst (v := (1 : Int32)) hx hb dX0_giveOneByOne_59 (by decide) ?_
    refine lv_iadd hx hb dX0_giveOneByOne_60 ?_
    refine lv_i2l (v := (((x3 * ((c_seatsGiven σ) x6.toNatClampNeg)) + (1 : Int32)).toInt64)) hx hb dX0_giveOneByOne_61 rfl ?_
    refine lv_lstore (lv' := [(7, .long (((x3 * ((c_seatsGiven σ) x6.toNatClampNeg)) + (1 : Int32)).toInt64)), (0, .ref (q 0)), (1, .ref (q (8 + r))), (2, .int x2), (3, .int x3), (4, .int x4), (5, .int x5), (6, .int x6)]) hx hb dX0_giveOneByOne_62 hl (by decide) rfl (fun ls hl => ?_)
    refine lv_iload_n hx hb dX0_giveOneByOne_64 rfl (lv_at hl 4 rfl) ?_
    refine lv_aload_n hx hb dX0_giveOneByOne_65 rfl (lv_at hl 1 rfl) ?_
    refine rdX0_seatsGiven hx hb hts hinX0_giveOneByOne hown hK hP (hts (.fieldLink RX0 27 "ExactShares" "seatsGiven" "[I") (List.mem_of_getElem? (i := 2) rfl)) dX0_giveOneByOne_66 ?_
    refine lv_iload hx hb dX0_giveOneByOne_69 (lv_at hl 6 rfl) ?_
    obtain ⟨g7, h⟩ := gd_t h
    refine ldX0_seatsGiven hx hb hK hP g7 dX0_giveOneByOne_71 ?_
    refine lv_imul hx hb dX0_giveOneByOne_72 ?_
    refine lv_iconst (v := (1 : Int32)) hx hb dX0_giveOneByOne_73 (by decide) ?_
    refine lv_iadd hx hb dX0_giveOneByOne_74 ?_
    refine lv_i2l (v := (((x3 * ((c_seatsGiven σ) x5.toNatClampNeg)) + (1 : Int32)).toInt64)) hx hb dX0_giveOneByOne_75 rfl ?_
    refine lv_lstore (lv' := [(9, .long (((x3 * ((c_seatsGiven σ) x5.toNatClampNeg)) + (1 : Int32)).toInt64)), (7, .long (((x3 * ((c_seatsGiven σ) x6.toNatClampNeg)) + (1 : Int32)).toInt64)), (0, .ref (q 0)), (1, .ref (q (8 + r))), (2, .int x2), (3, .int x3), (4, .int x4), (5, .int x5), (6, .int x6)]) hx hb dX0_giveOneByOne_76 hl (by decide) rfl (fun ls hl => ?_)
    refine lv_aload_n hx hb dX0_giveOneByOne_78 rfl (lv_at hl 3 rfl) ?_
    refine lv_iload hx hb dX0_giveOneByOne_79 (lv_at hl 8 rfl) ?_
    obtain ⟨g8, h⟩ := gd_t h
    refine ldX0_row hx hb hK hP hr g8 dX0_giveOneByOne_81 ?_
    refine lv_lload hx hb dX0_giveOneByOne_82 (lv_at hl 0 rfl) ?_
    refine lv_lmul hx hb dX0_giveOneByOne_84 ?_
    refine lv_aload_n hx hb dX0_giveOneByOne_85 rfl (lv_at hl 3 rfl) ?_
    refine lv_iload hx hb dX0_giveOneByOne_86 (lv_at hl 7 rfl) ?_
    obtain ⟨g9, h⟩ := gd_t h
    refine ldX0_row hx hb hK hP hr g9 dX0_giveOneByOne_88 ?_
    refine lv_lload hx hb dX0_giveOneByOne_89 (lv_at hl 1 rfl) ?_
    refine lv_lmul hx hb dX0_giveOneByOne_91 ?_
    refine xl_le (tgt := 100) hx hb dX0_giveOneByOne_92 dX0_giveOneByOne_93 (by decide) (fun c10 => ?_) (fun c10 => ?_)
    · replace h := br_p c10 h
      exact wX0_giveOneByOne_L100 C hA hK hr k29 hk29 k41 hk41 σ x2 x3 x4 x5 x6 H locs ls h hP hD hS (lv_sub hl [2, 3, 4, 5, 6, 7, 8] rfl)
    · replace h := br_n c10 h
      refine lv_iload hx hb dX0_giveOneByOne_96 (lv_at hl 8 rfl) ?_
      refine lv_istore (lv' := [(5, .int x6), (9, .long (((x3 * ((c_seatsGiven σ) x5.toNatClampNeg)) + (1 : Int32)).toInt64)), (7, .long (((x3 * ((c_seatsGiven σ) x6.toNatClampNeg)) + (1 : Int32)).toInt64)), (0, .ref (q 0)), (1, .ref (q (8 + r))), (2, .int x2), (3, .int x3), (4, .int x4), (6, .int x6)]) hx hb dX0_giveOneByOne_98 hl (by decide) rfl (fun ls hl => ?_)
      exact wX0_giveOneByOne_L100 C hA hK hr k29 hk29 k41 hk41 σ x2 x3 x4 x6 x6 H locs ls h hP hD hS (lv_sub hl [3, 4, 5, 6, 7, 0, 8] rfl)
set_option maxHeartbeats 4000000 in
set_option maxRecDepth 100000 in
theorem wX0_giveOneByOne_L41 {p : Program} {l : Launch} {e : Env} {s : State} {m : MethodId} {args : Array Value} {below : List Frame} {meth : Method} {c : Code} {A : Nat → Prop} {D : va_G} {kc : Nat → ClassId} {q : Nat → Nat} {r : Nat} {out : CS} (C : cxt p s m args meth c RX0 cX0_giveOneByOne 11 none wsX0_giveOneByOne) (hA : ∀ x, s.heap.size ≤ x → A x) (hK : va_K D vwCl (tysX0 kc) s) (hr : r < 4) (k29 : Int32 × Int32 × Int32 × CS → Option (CS)) (hk29 : ∀ (x2 : Int32) (x3 : Int32) (x4 : Int32) (σ : CS) (H : Heap) (locs : List Loc) (ls : Array Slot), k29 (x2, x3, x4, σ) = some out → va_P D vwCl (wX0 kc q σ) H → va_D A (wX0 kc q σ) → va_S A s.heap H locs → lv_has ls 11 [(0, .ref (q 0)), (1, .ref (q (8 + r))), (2, .int x2), (3, .int x3), (4, .int x4)] → W p l e rmX0_giveOneByOne s m args below meth c H locs 0 0 (MQ below (QMv D (tysX0 kc) (wX0 kc q) A out) args s 0 0 A) (F0 m 29 ls [])) (σ : CS) (x2 : Int32) (x3 : Int32) (x4 : Int32) (x5 : Int32) (x6 : Int32) (H : Heap) (locs : List Loc) (ls : Array Slot) (h : fX0_giveOneByOne_L41 σ r k29 x2 x3 x4 x5 x6 = some out) (hP : va_P D vwCl (wX0 kc q σ) H) (hD : va_D A (wX0 kc q σ)) (hS : va_S A s.heap H locs) (hl : lv_has ls 11 [(0, .ref (q 0)), (1, .ref (q (8 + r))), (2, .int x2), (3, .int x3), (4, .int x4), (5, .int x5), (6, .int x6)]) : W p l e rmX0_giveOneByOne s m args below meth c H locs 0 0 (MQ below (QMv D (tysX0 kc) (wX0 kc q) A out) args s 0 0 A) (F0 m 41 ls []) := by
  unfold fX0_giveOneByOne_L41 at h
  exact lp_ind (P := fun t : Int32 × Int32 × Int32 × Int32 × Int32 × CS => ∀ (H : Heap) (locs : List Loc) (ls : Array Slot), va_P D vwCl (wX0 kc q t.2.2.2.2.2) H → va_D A (wX0 kc q t.2.2.2.2.2) → va_S A s.heap H locs → lv_has ls 11 [(0, .ref (q 0)), (1, .ref (q (8 + r))), (2, .int t.1), (3, .int t.2.1), (4, .int t.2.2.1), (5, .int t.2.2.2.1), (6, .int t.2.2.2.2.1)] → W p l e rmX0_giveOneByOne s m args below meth c H locs 0 0 (MQ below (QMv D (tysX0 kc) (wX0 kc q) A out) args s 0 0 A) (F0 m 41 ls [])) (fun k hk t h H locs ls hP hD hS hl => wX0_giveOneByOne_B41 C hA hK hr k29 hk29 k (fun x2 x3 x4 x5 x6 σ H locs ls h hP hD hS hl => hk (x2, x3, x4, x5, x6, σ) h H locs ls hP hD hS hl) t.2.2.2.2.2 t.1 t.2.1 t.2.2.1 t.2.2.2.1 t.2.2.2.2.1 H locs ls h hP hD hS hl) FU (x2, x3, x4, x5, x6, σ) h H locs ls hP hD hS hl
def fX0_giveOneByOne_B29 (σ : CS) (r : Nat)  (k29 : Int32 × Int32 × Int32 × CS → Option (CS)) (x2 : Int32) (x3 : Int32) (x4 : Int32) : Option (CS) := (if x2 ≤ x4 then (some σ) else (fX0_giveOneByOne_L41 σ r k29 x2 x3 x4 (0 : Int32) (1 : Int32)))
def fX0_giveOneByOne_L29 (σ : CS) (r : Nat)  (x2 : Int32) (x3 : Int32) (x4 : Int32) : Option (CS) := lp (fun k t => fX0_giveOneByOne_B29 t.2.2.2 r  k t.1 t.2.1 t.2.2.1) FU (x2, x3, x4, σ)
set_option maxHeartbeats 4000000 in
set_option maxRecDepth 100000 in
theorem wX0_giveOneByOne_B29 {p : Program} {l : Launch} {e : Env} {s : State} {m : MethodId} {args : Array Value} {below : List Frame} {meth : Method} {c : Code} {A : Nat → Prop} {D : va_G} {kc : Nat → ClassId} {q : Nat → Nat} {r : Nat} {out : CS} (C : cxt p s m args meth c RX0 cX0_giveOneByOne 11 none wsX0_giveOneByOne) (hA : ∀ x, s.heap.size ≤ x → A x) (hK : va_K D vwCl (tysX0 kc) s) (hr : r < 4) (k29 : Int32 × Int32 × Int32 × CS → Option (CS)) (hk29 : ∀ (x2 : Int32) (x3 : Int32) (x4 : Int32) (σ : CS) (H : Heap) (locs : List Loc) (ls : Array Slot), k29 (x2, x3, x4, σ) = some out → va_P D vwCl (wX0 kc q σ) H → va_D A (wX0 kc q σ) → va_S A s.heap H locs → lv_has ls 11 [(0, .ref (q 0)), (1, .ref (q (8 + r))), (2, .int x2), (3, .int x3), (4, .int x4)] → W p l e rmX0_giveOneByOne s m args below meth c H locs 0 0 (MQ below (QMv D (tysX0 kc) (wX0 kc q) A out) args s 0 0 A) (F0 m 29 ls [])) (σ : CS) (x2 : Int32) (x3 : Int32) (x4 : Int32) (H : Heap) (locs : List Loc) (ls : Array Slot) (h : fX0_giveOneByOne_B29 σ r  k29 x2 x3 x4 = some out) (hP : va_P D vwCl (wX0 kc q σ) H) (hD : va_D A (wX0 kc q σ)) (hS : va_S A s.heap H locs) (hl : lv_has ls 11 [(0, .ref (q 0)), (1, .ref (q (8 + r))), (2, .int x2), (3, .int x3), (4, .int x4)]) : W p l e rmX0_giveOneByOne s m args below meth c H locs 0 0 (MQ below (QMv D (tysX0 kc) (wX0 kc q) A out) args s 0 0 A) (F0 m 29 ls []) := by
  obtain ⟨hx, hb, hret, hml, hown, hts, hlocks⟩ := id C
  unfold fX0_giveOneByOne_B29 at h
  refine lv_iload hx hb dX0_giveOneByOne_29 (lv_at hl 4 rfl) ?_
  refine lv_iload_n hx hb dX0_giveOneByOne_31 rfl (lv_at hl 2 rfl) ?_
  refine lv_icmp_ge (tgt := 123) hx hb dX0_giveOneByOne_32 (by decide) (fun c1 => ?_) (fun c1 => ?_)
  · replace h := br_p c1 h
    exact reMv hx hb hret hlocks hK hP hD hS h dX0_giveOneByOne_123
  · replace h := br_n c1 h
    refine lv_iconst (v := (0 : Int32)) hx hb dX0_giveOneByOne_35 (by decide) ?_
    refine lv_istore (lv' := [(5, .int (0 : Int32)), (0, .ref (q 0)), (1, .ref (q (8 + r))), (2, .int x2), (3, .int x3), (4, .int x4)]) hx hb dX0_giveOneByOne_36 hl (by decide) rfl (fun ls hl => ?_)
    refine lv_iconst (v := (1 : Int32)) hx hb dX0_giveOneByOne_38 (by decide) ?_
    refine lv_istore (lv' := [(6, .int (1 : Int32)), (5, .int (0 : Int32)), (0, .ref (q 0)), (1, .ref (q (8 + r))), (2, .int x2), (3, .int x3), (4, .int x4)]) hx hb dX0_giveOneByOne_39 hl (by decide) rfl (fun ls hl => ?_)
    exact wX0_giveOneByOne_L41 C hA hK hr k29 hk29 σ x2 x3 x4 (0 : Int32) (1 : Int32) H locs ls h hP hD hS (lv_sub hl [2, 3, 4, 5, 6, 1, 0] rfl)
set_option maxHeartbeats 4000000 in
set_option maxRecDepth 100000 in
theorem wX0_giveOneByOne_L29 {p : Program} {l : Launch} {e : Env} {s : State} {m : MethodId} {args : Array Value} {below : List Frame} {meth : Method} {c : Code} {A : Nat → Prop} {D : va_G} {kc : Nat → ClassId} {q : Nat → Nat} {r : Nat} {out : CS} (C : cxt p s m args meth c RX0 cX0_giveOneByOne 11 none wsX0_giveOneByOne) (hA : ∀ x, s.heap.size ≤ x → A x) (hK : va_K D vwCl (tysX0 kc) s) (hr : r < 4) (σ : CS) (x2 : Int32) (x3 : Int32) (x4 : Int32) (H : Heap) (locs : List Loc) (ls : Array Slot) (h : fX0_giveOneByOne_L29 σ r  x2 x3 x4 = some out) (hP : va_P D vwCl (wX0 kc q σ) H) (hD : va_D A (wX0 kc q σ)) (hS : va_S A s.heap H locs) (hl : lv_has ls 11 [(0, .ref (q 0)), (1, .ref (q (8 + r))), (2, .int x2), (3, .int x3), (4, .int x4)]) : W p l e rmX0_giveOneByOne s m args below meth c H locs 0 0 (MQ below (QMv D (tysX0 kc) (wX0 kc q) A out) args s 0 0 A) (F0 m 29 ls []) := by
  unfold fX0_giveOneByOne_L29 at h
  exact lp_ind (P := fun t : Int32 × Int32 × Int32 × CS => ∀ (H : Heap) (locs : List Loc) (ls : Array Slot), va_P D vwCl (wX0 kc q t.2.2.2) H → va_D A (wX0 kc q t.2.2.2) → va_S A s.heap H locs → lv_has ls 11 [(0, .ref (q 0)), (1, .ref (q (8 + r))), (2, .int t.1), (3, .int t.2.1), (4, .int t.2.2.1)] → W p l e rmX0_giveOneByOne s m args below meth c H locs 0 0 (MQ below (QMv D (tysX0 kc) (wX0 kc q) A out) args s 0 0 A) (F0 m 29 ls [])) (fun k hk t h H locs ls hP hD hS hl => wX0_giveOneByOne_B29 C hA hK hr  k (fun x2 x3 x4 σ H locs ls h hP hD hS hl => hk (x2, x3, x4, σ) h H locs ls hP hD hS hl) t.2.2.2 t.1 t.2.1 t.2.2.1 H locs ls h hP hD hS hl) FU (x2, x3, x4, σ) h H locs ls hP hD hS hl
def fX0_giveOneByOne_B3 (σ : CS) (r : Nat)  (k3 : Int32 × Int32 × Int32 × CS → Option (CS)) (x2 : Int32) (x3 : Int32) (x4 : Int32) : Option (CS) := (if (c_seatsGivenTo σ) ≤ x4 then (fX0_giveOneByOne_L29 σ r x2 x3 (0 : Int32)) else (if ix x4 8 = true then (bd (sc_seatsGiven σ (upd (c_seatsGiven σ) x4.toNatClampNeg (0 : Int32))) fun s3 => (k3 (x2, x3, (x4 + (1 : Int32)), s3))) else none))
def fX0_giveOneByOne_L3 (σ : CS) (r : Nat)  (x2 : Int32) (x3 : Int32) (x4 : Int32) : Option (CS) := lp (fun k t => fX0_giveOneByOne_B3 t.2.2.2 r  k t.1 t.2.1 t.2.2.1) FU (x2, x3, x4, σ)
set_option maxHeartbeats 4000000 in
set_option maxRecDepth 100000 in
theorem wX0_giveOneByOne_B3 {p : Program} {l : Launch} {e : Env} {s : State} {m : MethodId} {args : Array Value} {below : List Frame} {meth : Method} {c : Code} {A : Nat → Prop} {D : va_G} {kc : Nat → ClassId} {q : Nat → Nat} {r : Nat} {out : CS} (C : cxt p s m args meth c RX0 cX0_giveOneByOne 11 none wsX0_giveOneByOne) (hA : ∀ x, s.heap.size ≤ x → A x) (hK : va_K D vwCl (tysX0 kc) s) (hr : r < 4) (k3 : Int32 × Int32 × Int32 × CS → Option (CS)) (hk3 : ∀ (x2 : Int32) (x3 : Int32) (x4 : Int32) (σ : CS) (H : Heap) (locs : List Loc) (ls : Array Slot), k3 (x2, x3, x4, σ) = some out → va_P D vwCl (wX0 kc q σ) H → va_D A (wX0 kc q σ) → va_S A s.heap H locs → lv_has ls 11 [(0, .ref (q 0)), (1, .ref (q (8 + r))), (2, .int x2), (3, .int x3), (4, .int x4)] → W p l e rmX0_giveOneByOne s m args below meth c H locs 0 0 (MQ below (QMv D (tysX0 kc) (wX0 kc q) A out) args s 0 0 A) (F0 m 3 ls [])) (σ : CS) (x2 : Int32) (x3 : Int32) (x4 : Int32) (H : Heap) (locs : List Loc) (ls : Array Slot) (h : fX0_giveOneByOne_B3 σ r  k3 x2 x3 x4 = some out) (hP : va_P D vwCl (wX0 kc q σ) H) (hD : va_D A (wX0 kc q σ)) (hS : va_S A s.heap H locs) (hl : lv_has ls 11 [(0, .ref (q 0)), (1, .ref (q (8 + r))), (2, .int x2), (3, .int x3), (4, .int x4)]) : W p l e rmX0_giveOneByOne s m args below meth c H locs 0 0 (MQ below (QMv D (tysX0 kc) (wX0 kc q) A out) args s 0 0 A) (F0 m 3 ls []) := by
  obtain ⟨hx, hb, hret, hml, hown, hts, hlocks⟩ := id C
  unfold fX0_giveOneByOne_B3 at h
  refine lv_iload hx hb dX0_giveOneByOne_3 (lv_at hl 4 rfl) ?_
  refine lv_aload_n hx hb dX0_giveOneByOne_5 rfl (lv_at hl 0 rfl) ?_
  refine rdX0_seatsGivenTo hx hb hts hinX0_giveOneByOne hown hK hP (hts (.fieldLink RX0 116 "ExactShares" "seatsGivenTo" "I") (List.mem_of_getElem? (i := 1) rfl)) dX0_giveOneByOne_6 ?_
  refine lv_icmp_ge (tgt := 26) hx hb dX0_giveOneByOne_9 (by decide) (fun c1 => ?_) (fun c1 => ?_)
  · replace h := br_p c1 h
    refine lv_iconst (v := (0 : Int32)) hx hb dX0_giveOneByOne_26 (by decide) ?_
    refine lv_istore (lv' := [(4, .int (0 : Int32)), (0, .ref (q 0)), (1, .ref (q (8 + r))), (2, .int x2), (3, .int x3)]) hx hb dX0_giveOneByOne_27 hl (by decide) rfl (fun ls hl => ?_)
    exact wX0_giveOneByOne_L29 C hA hK hr  σ x2 x3 (0 : Int32) H locs ls h hP hD hS (lv_sub hl [1, 2, 3, 4, 0] rfl)
  · replace h := br_n c1 h
    refine lv_aload_n hx hb dX0_giveOneByOne_12 rfl (lv_at hl 0 rfl) ?_
    refine rdX0_seatsGiven hx hb hts hinX0_giveOneByOne hown hK hP (hts (.fieldLink RX0 27 "ExactShares" "seatsGiven" "[I") (List.mem_of_getElem? (i := 2) rfl)) dX0_giveOneByOne_13 ?_
    refine lv_iload hx hb dX0_giveOneByOne_16 (lv_at hl 4 rfl) ?_
    refine lv_iconst (v := (0 : Int32)) hx hb dX0_giveOneByOne_18 (by decide) ?_
    obtain ⟨g2, h⟩ := gd_t h
    refine stX0_seatsGiven (x := (0 : Int32)) hx hb hK hP hD hS g2 dX0_giveOneByOne_19 (fun H locs hP hD hS => ?_)
    obtain ⟨s3, e4, h⟩ := bd_e h
    replace hP : va_P D vwCl (wX0 kc q s3) H := by rw [e4]; exact hP
    replace hD : va_D A (wX0 kc q s3) := by rw [e4]; exact hD
    clear e4
    refine lv_iinc (v := (x4 + (1 : Int32))) (lv' := [(4, .int (x4 + (1 : Int32))), (0, .ref (q 0)), (1, .ref (q (8 + r))), (2, .int x2), (3, .int x3)]) hx hb dX0_giveOneByOne_20 hl (k := 4) rfl rfl (by decide) rfl (fun ls hl => ?_)
    refine lv_goto (tgt := 3) hx hb dX0_giveOneByOne_23 (by decide) ?_
    exact hk3 x2 x3 (x4 + (1 : Int32)) s3 H locs ls h hP hD hS (lv_sub hl [1, 2, 3, 4, 0] rfl)
set_option maxHeartbeats 4000000 in
set_option maxRecDepth 100000 in
theorem wX0_giveOneByOne_L3 {p : Program} {l : Launch} {e : Env} {s : State} {m : MethodId} {args : Array Value} {below : List Frame} {meth : Method} {c : Code} {A : Nat → Prop} {D : va_G} {kc : Nat → ClassId} {q : Nat → Nat} {r : Nat} {out : CS} (C : cxt p s m args meth c RX0 cX0_giveOneByOne 11 none wsX0_giveOneByOne) (hA : ∀ x, s.heap.size ≤ x → A x) (hK : va_K D vwCl (tysX0 kc) s) (hr : r < 4) (σ : CS) (x2 : Int32) (x3 : Int32) (x4 : Int32) (H : Heap) (locs : List Loc) (ls : Array Slot) (h : fX0_giveOneByOne_L3 σ r  x2 x3 x4 = some out) (hP : va_P D vwCl (wX0 kc q σ) H) (hD : va_D A (wX0 kc q σ)) (hS : va_S A s.heap H locs) (hl : lv_has ls 11 [(0, .ref (q 0)), (1, .ref (q (8 + r))), (2, .int x2), (3, .int x3), (4, .int x4)]) : W p l e rmX0_giveOneByOne s m args below meth c H locs 0 0 (MQ below (QMv D (tysX0 kc) (wX0 kc q) A out) args s 0 0 A) (F0 m 3 ls []) := by
  unfold fX0_giveOneByOne_L3 at h
  exact lp_ind (P := fun t : Int32 × Int32 × Int32 × CS => ∀ (H : Heap) (locs : List Loc) (ls : Array Slot), va_P D vwCl (wX0 kc q t.2.2.2) H → va_D A (wX0 kc q t.2.2.2) → va_S A s.heap H locs → lv_has ls 11 [(0, .ref (q 0)), (1, .ref (q (8 + r))), (2, .int t.1), (3, .int t.2.1), (4, .int t.2.2.1)] → W p l e rmX0_giveOneByOne s m args below meth c H locs 0 0 (MQ below (QMv D (tysX0 kc) (wX0 kc q) A out) args s 0 0 A) (F0 m 3 ls [])) (fun k hk t h H locs ls hP hD hS hl => wX0_giveOneByOne_B3 C hA hK hr  k (fun x2 x3 x4 σ H locs ls h hP hD hS hl => hk (x2, x3, x4, σ) h H locs ls hP hD hS hl) t.2.2.2 t.1 t.2.1 t.2.2.1 H locs ls h hP hD hS hl) FU (x2, x3, x4, σ) h H locs ls hP hD hS hl
def fX0_giveOneByOne (σ : CS) (r : Nat) (x2 : Int32) (x3 : Int32) : Option (CS) := (fX0_giveOneByOne_L3 σ r x2 x3 (0 : Int32))
set_option maxHeartbeats 4000000 in
set_option maxRecDepth 100000 in
theorem mX0_giveOneByOne (l : Launch) (D : va_G) (kc : Nat → ClassId) (q : Nat → Nat) (σ : CS) (r : Nat) (hr : r < 4) (x2 : Int32) (x3 : Int32) (out : CS) (h : fX0_giveOneByOne σ r x2 x3 = some out) : MMv l yX0_giveOneByOne wsX0_giveOneByOne rmX0_giveOneByOne D (tysX0 kc) (wX0 kc q) σ [.ref (q 0), .ref (q (8 + r)), .int x2, .int x3] out := by
  refine ofMv (cc := cX0_giveOneByOne) (maxL := 11) (ret := none) (lv := [(0, .ref (q 0)), (1, .ref (q (8 + r))), (2, .int x2), (3, .int x3)]) (by decide) rfl (Nat.le_of_ble_eq_true rfl) rfl ?_
  intro p e s m args below meth c A C hA hK hP hD hS ls hl
  have C : cxt p s m args meth c RX0 cX0_giveOneByOne 11 none wsX0_giveOneByOne := C
  obtain ⟨hx, hb, hret, hml, hown, hts, hlocks⟩ := id C
  obtain ⟨H, hH⟩ : ∃ H, H = s.heap := ⟨_, rfl⟩
  obtain ⟨locs, hlocs⟩ : ∃ locs : List Loc, locs = [] := ⟨_, rfl⟩
  have hS : va_S A s.heap H locs := by rw [hH, hlocs]; exact va_S.rf
  rw [← hH] at hP
  suffices hW : W p l e rmX0_giveOneByOne s m args below meth c H locs 0 0 _ (F0 m 0 ls []) by rw [hH, hlocs] at hW; exact hW
  unfold fX0_giveOneByOne at h
  refine lv_iconst (v := (0 : Int32)) hx hb dX0_giveOneByOne_0 (by decide) ?_
  refine lv_istore (lv' := [(4, .int (0 : Int32)), (0, .ref (q 0)), (1, .ref (q (8 + r))), (2, .int x2), (3, .int x3)]) hx hb dX0_giveOneByOne_1 hl (by decide) rfl (fun ls hl => ?_)
  exact wX0_giveOneByOne_L3 C hA hK hr  σ x2 x3 (0 : Int32) H locs ls h hP hD hS (lv_sub hl [1, 2, 3, 4, 0] rfl)
