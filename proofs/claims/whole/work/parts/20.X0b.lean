abbrev rmX0_keepQuotient : Room := { frames := 5, cells := 0, slots := 0, locals := 192 }
theorem hinX0_keepQuotient : ∀ w ∈ u_ws RX0 TX0 13, w ∈ wsX0_keepQuotient := by first | exact fun _ h => List.mem_cons_of_mem _ (List.mem_append_right _ h) | exact fun _ h => List.mem_cons_of_mem _ (List.mem_append_left _ (List.mem_append_right _ h)) | decide +kernel
def fX0_keepQuotient (σ : CS)  (x1 : Int32) (x2 : Int32) : Option (Int32 × CS) := (if ix x2 40 = true then (if (0 : Int64) ≤ ((c_above σ) x2.toNatClampNeg) then (if ix x1 40 = true then (if ix x1 40 = true then (if ix x2 40 = true then (if ix x2 40 = true then ((fX0_keepProduct σ ((c_above σ) x1.toNatClampNeg) ((c_below σ) x1.toNatClampNeg) ((c_below σ) x2.toNatClampNeg) ((c_above σ) x2.toNatClampNeg)).bind fun o7 => (some (o7.1, o7.2))) else none) else none) else none) else none) else (if ix x1 40 = true then (if ix x1 40 = true then (if ix x2 40 = true then (if ix x2 40 = true then ((fX0_keepProduct σ ((c_above σ) x1.toNatClampNeg) ((c_below σ) x1.toNatClampNeg) (-((c_below σ) x2.toNatClampNeg)) (-((c_above σ) x2.toNatClampNeg))).bind fun o13 => (some (o13.1, o13.2))) else none) else none) else none) else none)) else none)
set_option maxHeartbeats 4000000 in
set_option maxRecDepth 100000 in
theorem mX0_keepQuotient (l : Launch) (D : va_G) (kc : Nat → ClassId) (q : Nat → Nat) (σ : CS) (x1 : Int32) (x2 : Int32) (out : Int32 × CS) (h : fX0_keepQuotient σ  x1 x2 = some out) : MMi l yX0_keepQuotient wsX0_keepQuotient rmX0_keepQuotient D (tysX0 kc) (wX0 kc q) σ [.ref (q 0), .int x1, .int x2] out := by
  refine ofMi (cc := cX0_keepQuotient) (maxL := 3) (ret := (some .int)) (lv := [(0, .ref (q 0)), (1, .int x1), (2, .int x2)]) (by decide) rfl (Nat.le_of_ble_eq_true rfl) rfl ?_
  intro p e s m args below meth c A C hA hK hP hD hS ls hl
  have C : cxt p s m args meth c RX0 cX0_keepQuotient 3 (some .int) wsX0_keepQuotient := C
  obtain ⟨hx, hb, hr, hml, hown, hts, hlocks⟩ := id C
  obtain ⟨H, hH⟩ : ∃ H, H = s.heap := ⟨_, rfl⟩
  obtain ⟨locs, hlocs⟩ : ∃ locs : List Loc, locs = [] := ⟨_, rfl⟩
  have hS : va_S A s.heap H locs := by rw [hH, hlocs]; exact va_S.rf
  rw [← hH] at hP
  suffices hW : W p l e rmX0_keepQuotient s m args below meth c H locs 0 0 _ (F0 m 0 ls []) by rw [hH, hlocs] at hW; exact hW
  unfold fX0_keepQuotient at h
  refine lv_aload_n hx hb dX0_keepQuotient_0 rfl (lv_at hl 0 rfl) ?_
  refine rdX0_above hx hb hts hinX0_keepQuotient hown hK hP (hts (.fieldLink RX0 11 "ExactShares" "above" "[J") (List.mem_of_getElem? (i := 1) rfl)) dX0_keepQuotient_1 ?_
  refine lv_iload_n hx hb dX0_keepQuotient_4 rfl (lv_at hl 2 rfl) ?_
  obtain ⟨g1, h⟩ := gd_t h
  refine ldX0_above hx hb hK hP g1 dX0_keepQuotient_5 ?_
  refine lv_lconst (v := (0 : Int64)) hx hb dX0_keepQuotient_6 (by decide) ?_
  refine xl_ge (tgt := 42) hx hb dX0_keepQuotient_7 dX0_keepQuotient_8 (by decide) (fun c2 => ?_) (fun c2 => ?_)
  · replace h := br_p c2 h
    refine lv_aload_n hx hb dX0_keepQuotient_42 rfl (lv_at hl 0 rfl) ?_
    refine lv_aload_n hx hb dX0_keepQuotient_43 rfl (lv_at hl 0 rfl) ?_
    refine rdX0_above hx hb hts hinX0_keepQuotient hown hK hP (hts (.fieldLink RX0 11 "ExactShares" "above" "[J") (List.mem_of_getElem? (i := 1) rfl)) dX0_keepQuotient_44 ?_
    refine lv_iload_n hx hb dX0_keepQuotient_47 rfl (lv_at hl 1 rfl) ?_
    obtain ⟨g3, h⟩ := gd_t h
    refine ldX0_above hx hb hK hP g3 dX0_keepQuotient_48 ?_
    refine lv_aload_n hx hb dX0_keepQuotient_49 rfl (lv_at hl 0 rfl) ?_
    refine rdX0_below hx hb hts hinX0_keepQuotient hown hK hP (hts (.fieldLink RX0 15 "ExactShares" "below" "[J") (List.mem_of_getElem? (i := 2) rfl)) dX0_keepQuotient_50 ?_
    refine lv_iload_n hx hb dX0_keepQuotient_53 rfl (lv_at hl 1 rfl) ?_
    obtain ⟨g4, h⟩ := gd_t h
    refine ldX0_below hx hb hK hP g4 dX0_keepQuotient_54 ?_
    refine lv_aload_n hx hb dX0_keepQuotient_55 rfl (lv_at hl 0 rfl) ?_
    refine rdX0_below hx hb hts hinX0_keepQuotient hown hK hP (hts (.fieldLink RX0 15 "ExactShares" "below" "[J") (List.mem_of_getElem? (i := 2) rfl)) dX0_keepQuotient_56 ?_
    refine lv_iload_n hx hb dX0_keepQuotient_59 rfl (lv_at hl 2 rfl) ?_
    obtain ⟨g5, h⟩ := gd_t h
    refine ldX0_below hx hb hK hP g5 dX0_keepQuotient_60 ?_
    refine lv_aload_n hx hb dX0_keepQuotient_61 rfl (lv_at hl 0 rfl) ?_
    refine rdX0_above hx hb hts hinX0_keepQuotient hown hK hP (hts (.fieldLink RX0 11 "ExactShares" "above" "[J") (List.mem_of_getElem? (i := 1) rfl)) dX0_keepQuotient_62 ?_
    refine lv_iload_n hx hb dX0_keepQuotient_65 rfl (lv_at hl 2 rfl) ?_
    obtain ⟨g6, h⟩ := gd_t h
    refine ldX0_above hx hb hK hP g6 dX0_keepQuotient_66 ?_
    obtain ⟨o7, ho8, h⟩ := bi h
    refine caMi (q0 := 0) (As := [.long ((c_above σ) x1.toNatClampNeg), .long ((c_below σ) x1.toNatClampNeg), .long ((c_below σ) x2.toNatClampNeg), .long ((c_above σ) x2.toNatClampNeg)]) (rest := []) ⟨hx, hb, hml, hown, hts⟩ (mX0_keepProduct l D kc q σ ((c_above σ) x1.toNatClampNeg) ((c_below σ) x1.toNatClampNeg) ((c_below σ) x2.toNatClampNeg) ((c_above σ) x2.toNatClampNeg) o7 ho8) (cwV 4 hts gX0_keepQuotient_X0_keepProduct rfl rfl rfl (by decide +kernel) ⟨Nat.le_of_ble_eq_true rfl, Nat.le_of_ble_eq_true rfl⟩) hK hP hD hS hA rfl rfl rfl rfl hl.1 (Nat.le_of_ble_eq_true rfl) dX0_keepQuotient_67 ⟨Nat.zero_le _, Nat.zero_le _⟩ (fun H locs hP hD hS => ?_)
    exact reMi (v := o7.1) hx hb hr hlocks hK hP hD hS h dX0_keepQuotient_70
  · replace h := br_n c2 h
    refine lv_aload_n hx hb dX0_keepQuotient_11 rfl (lv_at hl 0 rfl) ?_
    refine lv_aload_n hx hb dX0_keepQuotient_12 rfl (lv_at hl 0 rfl) ?_
    refine rdX0_above hx hb hts hinX0_keepQuotient hown hK hP (hts (.fieldLink RX0 11 "ExactShares" "above" "[J") (List.mem_of_getElem? (i := 1) rfl)) dX0_keepQuotient_13 ?_
    refine lv_iload_n hx hb dX0_keepQuotient_16 rfl (lv_at hl 1 rfl) ?_
    obtain ⟨g9, h⟩ := gd_t h
    refine ldX0_above hx hb hK hP g9 dX0_keepQuotient_17 ?_
    refine lv_aload_n hx hb dX0_keepQuotient_18 rfl (lv_at hl 0 rfl) ?_
    refine rdX0_below hx hb hts hinX0_keepQuotient hown hK hP (hts (.fieldLink RX0 15 "ExactShares" "below" "[J") (List.mem_of_getElem? (i := 2) rfl)) dX0_keepQuotient_19 ?_
    refine lv_iload_n hx hb dX0_keepQuotient_22 rfl (lv_at hl 1 rfl) ?_
    obtain ⟨g10, h⟩ := gd_t h
    refine ldX0_below hx hb hK hP g10 dX0_keepQuotient_23 ?_
    refine lv_aload_n hx hb dX0_keepQuotient_24 rfl (lv_at hl 0 rfl) ?_
    refine rdX0_below hx hb hts hinX0_keepQuotient hown hK hP (hts (.fieldLink RX0 15 "ExactShares" "below" "[J") (List.mem_of_getElem? (i := 2) rfl)) dX0_keepQuotient_25 ?_
    refine lv_iload_n hx hb dX0_keepQuotient_28 rfl (lv_at hl 2 rfl) ?_
    obtain ⟨g11, h⟩ := gd_t h
    refine ldX0_below hx hb hK hP g11 dX0_keepQuotient_29 ?_
    refine lv_lneg hx hb dX0_keepQuotient_30 ?_
    refine lv_aload_n hx hb dX0_keepQuotient_31 rfl (lv_at hl 0 rfl) ?_
    refine rdX0_above hx hb hts hinX0_keepQuotient hown hK hP (hts (.fieldLink RX0 11 "ExactShares" "above" "[J") (List.mem_of_getElem? (i := 1) rfl)) dX0_keepQuotient_32 ?_
    refine lv_iload_n hx hb dX0_keepQuotient_35 rfl (lv_at hl 2 rfl) ?_
    obtain ⟨g12, h⟩ := gd_t h
    refine ldX0_above hx hb hK hP g12 dX0_keepQuotient_36 ?_
    refine lv_lneg hx hb dX0_keepQuotient_37 ?_
    obtain ⟨o13, ho14, h⟩ := bi h
    refine caMi (q0 := 0) (As := [.long ((c_above σ) x1.toNatClampNeg), .long ((c_below σ) x1.toNatClampNeg), .long (-((c_below σ) x2.toNatClampNeg)), .long (-((c_above σ) x2.toNatClampNeg))]) (rest := []) ⟨hx, hb, hml, hown, hts⟩ (mX0_keepProduct l D kc q σ ((c_above σ) x1.toNatClampNeg) ((c_below σ) x1.toNatClampNeg) (-((c_below σ) x2.toNatClampNeg)) (-((c_above σ) x2.toNatClampNeg)) o13 ho14) (cwV 4 hts gX0_keepQuotient_X0_keepProduct rfl rfl rfl (by decide +kernel) ⟨Nat.le_of_ble_eq_true rfl, Nat.le_of_ble_eq_true rfl⟩) hK hP hD hS hA rfl rfl rfl rfl hl.1 (Nat.le_of_ble_eq_true rfl) dX0_keepQuotient_38 ⟨Nat.zero_le _, Nat.zero_le _⟩ (fun H locs hP hD hS => ?_)
    exact reMi (v := o13.1) hx hb hr hlocks hK hP hD hS h dX0_keepQuotient_41
abbrev rmX0_act : Room := { frames := 6, cells := 0, slots := 0, locals := 214 }
theorem hinX0_act : ∀ w ∈ u_ws RX0 TX0 13, w ∈ wsX0_act := by first | exact fun _ h => List.mem_cons_of_mem _ (List.mem_append_right _ h) | exact fun _ h => List.mem_cons_of_mem _ (List.mem_append_left _ (List.mem_append_right _ h)) | decide +kernel
def fX0_act (σ : CS)  (x1 : Int32) (x2 : Int32) (x3 : Int32) : Option (Int32 × CS) := (if x1 < (0 : Int32) then (some ((-1 : Int32), σ)) else (if (3 : Int32) < x1 then (some ((-1 : Int32), σ)) else ((fX0_isNumber σ x2).bind fun o3 => (if o3 = (0 : Int32) then (some ((-1 : Int32), σ)) else ((fX0_isNumber σ x3).bind fun o6 => (if o6 = (0 : Int32) then (some ((-1 : Int32), σ)) else ((fX0_isFull σ).bind fun o9 => (if o9 = (0 : Int32) then (if x1 = (0 : Int32) then (if ix x2 40 = true then (if ix x2 40 = true then (if ix x3 40 = true then (if ix x3 40 = true then ((fX0_keepSum σ ((c_above σ) x2.toNatClampNeg) ((c_below σ) x2.toNatClampNeg) ((c_above σ) x3.toNatClampNeg) ((c_below σ) x3.toNatClampNeg)).bind fun o17 => (some (o17.1, o17.2))) else none) else none) else none) else none) else (if x1 = (1 : Int32) then (if ix x2 40 = true then (if ix x2 40 = true then (if ix x3 40 = true then (if ix x3 40 = true then ((fX0_keepSum σ ((c_above σ) x2.toNatClampNeg) ((c_below σ) x2.toNatClampNeg) (-((c_above σ) x3.toNatClampNeg)) ((c_below σ) x3.toNatClampNeg)).bind fun o24 => (some (o24.1, o24.2))) else none) else none) else none) else none) else (if x1 = (2 : Int32) then (if ix x2 40 = true then (if ix x2 40 = true then (if ix x3 40 = true then (if ix x3 40 = true then ((fX0_keepProduct σ ((c_above σ) x2.toNatClampNeg) ((c_below σ) x2.toNatClampNeg) ((c_above σ) x3.toNatClampNeg) ((c_below σ) x3.toNatClampNeg)).bind fun o31 => (some (o31.1, o31.2))) else none) else none) else none) else none) else (if ix x3 40 = true then (if ((c_above σ) x3.toNatClampNeg) = (0 : Int64) then (some ((-2 : Int32), σ)) else ((fX0_keepQuotient σ x2 x3).bind fun o35 => (some (o35.1, o35.2)))) else none)))) else (some ((-4 : Int32), σ))))))))))
set_option maxHeartbeats 4000000 in
set_option maxRecDepth 100000 in
theorem mX0_act (l : Launch) (D : va_G) (kc : Nat → ClassId) (q : Nat → Nat) (σ : CS) (x1 : Int32) (x2 : Int32) (x3 : Int32) (out : Int32 × CS) (h : fX0_act σ  x1 x2 x3 = some out) : MMi l yX0_act wsX0_act rmX0_act D (tysX0 kc) (wX0 kc q) σ [.ref (q 0), .int x1, .int x2, .int x3] out := by
  refine ofMi (cc := cX0_act) (maxL := 4) (ret := (some .int)) (lv := [(0, .ref (q 0)), (1, .int x1), (2, .int x2), (3, .int x3)]) (by decide) rfl (Nat.le_of_ble_eq_true rfl) rfl ?_
  intro p e s m args below meth c A C hA hK hP hD hS ls hl
  have C : cxt p s m args meth c RX0 cX0_act 4 (some .int) wsX0_act := C
  obtain ⟨hx, hb, hr, hml, hown, hts, hlocks⟩ := id C
  obtain ⟨H, hH⟩ : ∃ H, H = s.heap := ⟨_, rfl⟩
  obtain ⟨locs, hlocs⟩ : ∃ locs : List Loc, locs = [] := ⟨_, rfl⟩
  have hS : va_S A s.heap H locs := by rw [hH, hlocs]; exact va_S.rf
  rw [← hH] at hP
  suffices hW : W p l e rmX0_act s m args below meth c H locs 0 0 _ (F0 m 0 ls []) by rw [hH, hlocs] at hW; exact hW
  unfold fX0_act at h
  refine lv_iload_n hx hb dX0_act_0 rfl (lv_at hl 1 rfl) ?_
  refine lv_if_lt (tgt := 25) hx hb dX0_act_1 (by decide) (fun c1 => ?_) (fun c1 => ?_)
  · replace h := br_p c1 h
    refine lv_iconst (v := (-1 : Int32)) hx hb dX0_act_25 (by decide) ?_
    exact reMi (v := (-1 : Int32)) hx hb hr hlocks hK hP hD hS h dX0_act_26
  · replace h := br_n c1 h
    refine lv_iload_n hx hb dX0_act_4 rfl (lv_at hl 1 rfl) ?_
    refine lv_iconst (v := (3 : Int32)) hx hb dX0_act_5 (by decide) ?_
    refine lv_icmp_gt (tgt := 25) hx hb dX0_act_6 (by decide) (fun c2 => ?_) (fun c2 => ?_)
    · replace h := br_p c2 h
      refine lv_iconst (v := (-1 : Int32)) hx hb dX0_act_25 (by decide) ?_
      exact reMi (v := (-1 : Int32)) hx hb hr hlocks hK hP hD hS h dX0_act_26
    · replace h := br_n c2 h
      refine lv_aload_n hx hb dX0_act_9 rfl (lv_at hl 0 rfl) ?_
      refine lv_iload_n hx hb dX0_act_10 rfl (lv_at hl 2 rfl) ?_
      obtain ⟨o3, ho4, h⟩ := bi h
      refine caRi (q0 := 0) (As := [.int x2]) (rest := []) ⟨hx, hb, hml, hown, hts⟩ (mX0_isNumber l D kc q σ x2 o3 ho4) (cwV 1 hts gX0_act_X0_isNumber rfl rfl rfl (by decide +kernel) ⟨Nat.le_of_ble_eq_true rfl, Nat.le_of_ble_eq_true rfl⟩) hK hP rfl rfl rfl rfl hl.1 (Nat.le_of_ble_eq_true rfl) dX0_act_11 ⟨Nat.zero_le _, Nat.zero_le _⟩ ?_
      refine lv_if_eq (tgt := 25) hx hb dX0_act_14 (by decide) (fun c5 => ?_) (fun c5 => ?_)
      · replace h := br_p c5 h
        refine lv_iconst (v := (-1 : Int32)) hx hb dX0_act_25 (by decide) ?_
        exact reMi (v := (-1 : Int32)) hx hb hr hlocks hK hP hD hS h dX0_act_26
      · replace h := br_n c5 h
        refine lv_aload_n hx hb dX0_act_17 rfl (lv_at hl 0 rfl) ?_
        refine lv_iload_n hx hb dX0_act_18 rfl (lv_at hl 3 rfl) ?_
        obtain ⟨o6, ho7, h⟩ := bi h
        refine caRi (q0 := 0) (As := [.int x3]) (rest := []) ⟨hx, hb, hml, hown, hts⟩ (mX0_isNumber l D kc q σ x3 o6 ho7) (cwV 1 hts gX0_act_X0_isNumber rfl rfl rfl (by decide +kernel) ⟨Nat.le_of_ble_eq_true rfl, Nat.le_of_ble_eq_true rfl⟩) hK hP rfl rfl rfl rfl hl.1 (Nat.le_of_ble_eq_true rfl) dX0_act_19 ⟨Nat.zero_le _, Nat.zero_le _⟩ ?_
        refine lv_if_ne (tgt := 27) hx hb dX0_act_22 (by decide) (fun c8 => ?_) (fun c8 => ?_)
        · replace h := br_n c8 h
          refine lv_aload_n hx hb dX0_act_27 rfl (lv_at hl 0 rfl) ?_
          obtain ⟨o9, ho10, h⟩ := bi h
          refine caRi (q0 := 0) (As := []) (rest := []) ⟨hx, hb, hml, hown, hts⟩ (mX0_isFull l D kc q σ  o9 ho10) (cwV 0 hts gX0_act_X0_isFull rfl rfl rfl (by decide +kernel) ⟨Nat.le_of_ble_eq_true rfl, Nat.le_of_ble_eq_true rfl⟩) hK hP rfl rfl rfl rfl hl.1 (Nat.le_of_ble_eq_true rfl) dX0_act_28 ⟨Nat.zero_le _, Nat.zero_le _⟩ ?_
          refine lv_if_eq (tgt := 37) hx hb dX0_act_31 (by decide) (fun c11 => ?_) (fun c11 => ?_)
          · replace h := br_p c11 h
            refine lv_iload_n hx hb dX0_act_37 rfl (lv_at hl 1 rfl) ?_
            by_cases c12 : x1 = (0 : Int32)
            · replace h := br_p c12 h
              refine lv_tableIn (off := 26) (tgt := 64) hx hb dX0_act_38 (by rw [c12]; decide) (by rw [c12]; decide) (by rw [c12]; rfl) (by decide) ?_
              refine lv_aload_n hx hb dX0_act_64 rfl (lv_at hl 0 rfl) ?_
              refine lv_aload_n hx hb dX0_act_65 rfl (lv_at hl 0 rfl) ?_
              refine rdX0_above hx hb hts hinX0_act hown hK hP (hts (.fieldLink RX0 11 "ExactShares" "above" "[J") (List.mem_of_getElem? (i := 1) rfl)) dX0_act_66 ?_
              refine lv_iload_n hx hb dX0_act_69 rfl (lv_at hl 2 rfl) ?_
              obtain ⟨g13, h⟩ := gd_t h
              refine ldX0_above hx hb hK hP g13 dX0_act_70 ?_
              refine lv_aload_n hx hb dX0_act_71 rfl (lv_at hl 0 rfl) ?_
              refine rdX0_below hx hb hts hinX0_act hown hK hP (hts (.fieldLink RX0 15 "ExactShares" "below" "[J") (List.mem_of_getElem? (i := 2) rfl)) dX0_act_72 ?_
              refine lv_iload_n hx hb dX0_act_75 rfl (lv_at hl 2 rfl) ?_
              obtain ⟨g14, h⟩ := gd_t h
              refine ldX0_below hx hb hK hP g14 dX0_act_76 ?_
              refine lv_aload_n hx hb dX0_act_77 rfl (lv_at hl 0 rfl) ?_
              refine rdX0_above hx hb hts hinX0_act hown hK hP (hts (.fieldLink RX0 11 "ExactShares" "above" "[J") (List.mem_of_getElem? (i := 1) rfl)) dX0_act_78 ?_
              refine lv_iload_n hx hb dX0_act_81 rfl (lv_at hl 3 rfl) ?_
              obtain ⟨g15, h⟩ := gd_t h
              refine ldX0_above hx hb hK hP g15 dX0_act_82 ?_
              refine lv_aload_n hx hb dX0_act_83 rfl (lv_at hl 0 rfl) ?_
              refine rdX0_below hx hb hts hinX0_act hown hK hP (hts (.fieldLink RX0 15 "ExactShares" "below" "[J") (List.mem_of_getElem? (i := 2) rfl)) dX0_act_84 ?_
              refine lv_iload_n hx hb dX0_act_87 rfl (lv_at hl 3 rfl) ?_
              obtain ⟨g16, h⟩ := gd_t h
              refine ldX0_below hx hb hK hP g16 dX0_act_88 ?_
              obtain ⟨o17, ho18, h⟩ := bi h
              refine caMi (q0 := 0) (As := [.long ((c_above σ) x2.toNatClampNeg), .long ((c_below σ) x2.toNatClampNeg), .long ((c_above σ) x3.toNatClampNeg), .long ((c_below σ) x3.toNatClampNeg)]) (rest := []) ⟨hx, hb, hml, hown, hts⟩ (mX0_keepSum l D kc q σ ((c_above σ) x2.toNatClampNeg) ((c_below σ) x2.toNatClampNeg) ((c_above σ) x3.toNatClampNeg) ((c_below σ) x3.toNatClampNeg) o17 ho18) (cwV 4 hts gX0_act_X0_keepSum rfl rfl rfl (by decide +kernel) ⟨Nat.le_of_ble_eq_true rfl, Nat.le_of_ble_eq_true rfl⟩) hK hP hD hS hA rfl rfl rfl rfl hl.1 (Nat.le_of_ble_eq_true rfl) dX0_act_89 ⟨Nat.zero_le _, Nat.zero_le _⟩ (fun H locs hP hD hS => ?_)
              exact reMi (v := o17.1) hx hb hr hlocks hK hP hD hS h dX0_act_92
            · replace h := br_n c12 h
              by_cases c19 : x1 = (1 : Int32)
              · replace h := br_p c19 h
                refine lv_tableIn (off := 55) (tgt := 93) hx hb dX0_act_38 (by rw [c19]; decide) (by rw [c19]; decide) (by rw [c19]; rfl) (by decide) ?_
                refine lv_aload_n hx hb dX0_act_93 rfl (lv_at hl 0 rfl) ?_
                refine lv_aload_n hx hb dX0_act_94 rfl (lv_at hl 0 rfl) ?_
                refine rdX0_above hx hb hts hinX0_act hown hK hP (hts (.fieldLink RX0 11 "ExactShares" "above" "[J") (List.mem_of_getElem? (i := 1) rfl)) dX0_act_95 ?_
                refine lv_iload_n hx hb dX0_act_98 rfl (lv_at hl 2 rfl) ?_
                obtain ⟨g20, h⟩ := gd_t h
                refine ldX0_above hx hb hK hP g20 dX0_act_99 ?_
                refine lv_aload_n hx hb dX0_act_100 rfl (lv_at hl 0 rfl) ?_
                refine rdX0_below hx hb hts hinX0_act hown hK hP (hts (.fieldLink RX0 15 "ExactShares" "below" "[J") (List.mem_of_getElem? (i := 2) rfl)) dX0_act_101 ?_
                refine lv_iload_n hx hb dX0_act_104 rfl (lv_at hl 2 rfl) ?_
                obtain ⟨g21, h⟩ := gd_t h
                refine ldX0_below hx hb hK hP g21 dX0_act_105 ?_
                refine lv_aload_n hx hb dX0_act_106 rfl (lv_at hl 0 rfl) ?_
                refine rdX0_above hx hb hts hinX0_act hown hK hP (hts (.fieldLink RX0 11 "ExactShares" "above" "[J") (List.mem_of_getElem? (i := 1) rfl)) dX0_act_107 ?_
                refine lv_iload_n hx hb dX0_act_110 rfl (lv_at hl 3 rfl) ?_
                obtain ⟨g22, h⟩ := gd_t h
                refine ldX0_above hx hb hK hP g22 dX0_act_111 ?_
                refine lv_lneg hx hb dX0_act_112 ?_
                refine lv_aload_n hx hb dX0_act_113 rfl (lv_at hl 0 rfl) ?_
                refine rdX0_below hx hb hts hinX0_act hown hK hP (hts (.fieldLink RX0 15 "ExactShares" "below" "[J") (List.mem_of_getElem? (i := 2) rfl)) dX0_act_114 ?_
                refine lv_iload_n hx hb dX0_act_117 rfl (lv_at hl 3 rfl) ?_
                obtain ⟨g23, h⟩ := gd_t h
                refine ldX0_below hx hb hK hP g23 dX0_act_118 ?_
                obtain ⟨o24, ho25, h⟩ := bi h
                refine caMi (q0 := 0) (As := [.long ((c_above σ) x2.toNatClampNeg), .long ((c_below σ) x2.toNatClampNeg), .long (-((c_above σ) x3.toNatClampNeg)), .long ((c_below σ) x3.toNatClampNeg)]) (rest := []) ⟨hx, hb, hml, hown, hts⟩ (mX0_keepSum l D kc q σ ((c_above σ) x2.toNatClampNeg) ((c_below σ) x2.toNatClampNeg) (-((c_above σ) x3.toNatClampNeg)) ((c_below σ) x3.toNatClampNeg) o24 ho25) (cwV 4 hts gX0_act_X0_keepSum rfl rfl rfl (by decide +kernel) ⟨Nat.le_of_ble_eq_true rfl, Nat.le_of_ble_eq_true rfl⟩) hK hP hD hS hA rfl rfl rfl rfl hl.1 (Nat.le_of_ble_eq_true rfl) dX0_act_119 ⟨Nat.zero_le _, Nat.zero_le _⟩ (fun H locs hP hD hS => ?_)
                exact reMi (v := o24.1) hx hb hr hlocks hK hP hD hS h dX0_act_122
              · replace h := br_n c19 h
                by_cases c26 : x1 = (2 : Int32)
                · replace h := br_p c26 h
                  refine lv_tableIn (off := 85) (tgt := 123) hx hb dX0_act_38 (by rw [c26]; decide) (by rw [c26]; decide) (by rw [c26]; rfl) (by decide) ?_
                  refine lv_aload_n hx hb dX0_act_123 rfl (lv_at hl 0 rfl) ?_
                  refine lv_aload_n hx hb dX0_act_124 rfl (lv_at hl 0 rfl) ?_
                  refine rdX0_above hx hb hts hinX0_act hown hK hP (hts (.fieldLink RX0 11 "ExactShares" "above" "[J") (List.mem_of_getElem? (i := 1) rfl)) dX0_act_125 ?_
                  refine lv_iload_n hx hb dX0_act_128 rfl (lv_at hl 2 rfl) ?_
                  obtain ⟨g27, h⟩ := gd_t h
                  refine ldX0_above hx hb hK hP g27 dX0_act_129 ?_
                  refine lv_aload_n hx hb dX0_act_130 rfl (lv_at hl 0 rfl) ?_
                  refine rdX0_below hx hb hts hinX0_act hown hK hP (hts (.fieldLink RX0 15 "ExactShares" "below" "[J") (List.mem_of_getElem? (i := 2) rfl)) dX0_act_131 ?_
                  refine lv_iload_n hx hb dX0_act_134 rfl (lv_at hl 2 rfl) ?_
                  obtain ⟨g28, h⟩ := gd_t h
                  refine ldX0_below hx hb hK hP g28 dX0_act_135 ?_
                  refine lv_aload_n hx hb dX0_act_136 rfl (lv_at hl 0 rfl) ?_
                  refine rdX0_above hx hb hts hinX0_act hown hK hP (hts (.fieldLink RX0 11 "ExactShares" "above" "[J") (List.mem_of_getElem? (i := 1) rfl)) dX0_act_137 ?_
                  refine lv_iload_n hx hb dX0_act_140 rfl (lv_at hl 3 rfl) ?_
                  obtain ⟨g29, h⟩ := gd_t h
                  refine ldX0_above hx hb hK hP g29 dX0_act_141 ?_
                  refine lv_aload_n hx hb dX0_act_142 rfl (lv_at hl 0 rfl) ?_
                  refine rdX0_below hx hb hts hinX0_act hown hK hP (hts (.fieldLink RX0 15 "ExactShares" "below" "[J") (List.mem_of_getElem? (i := 2) rfl)) dX0_act_143 ?_
                  refine lv_iload_n hx hb dX0_act_146 rfl (lv_at hl 3 rfl) ?_
                  obtain ⟨g30, h⟩ := gd_t h
                  refine ldX0_below hx hb hK hP g30 dX0_act_147 ?_
                  obtain ⟨o31, ho32, h⟩ := bi h
                  refine caMi (q0 := 0) (As := [.long ((c_above σ) x2.toNatClampNeg), .long ((c_below σ) x2.toNatClampNeg), .long ((c_above σ) x3.toNatClampNeg), .long ((c_below σ) x3.toNatClampNeg)]) (rest := []) ⟨hx, hb, hml, hown, hts⟩ (mX0_keepProduct l D kc q σ ((c_above σ) x2.toNatClampNeg) ((c_below σ) x2.toNatClampNeg) ((c_above σ) x3.toNatClampNeg) ((c_below σ) x3.toNatClampNeg) o31 ho32) (cwV 4 hts gX0_act_X0_keepProduct rfl rfl rfl (by decide +kernel) ⟨Nat.le_of_ble_eq_true rfl, Nat.le_of_ble_eq_true rfl⟩) hK hP hD hS hA rfl rfl rfl rfl hl.1 (Nat.le_of_ble_eq_true rfl) dX0_act_148 ⟨Nat.zero_le _, Nat.zero_le _⟩ (fun H locs hP hD hS => ?_)
                  exact reMi (v := o31.1) hx hb hr hlocks hK hP hD hS h dX0_act_151
                · replace h := br_n c26 h
                  refine lv_tableOut (tgt := 152) hx hb dX0_act_38 (by have := lv_neT (a := 0) c12 rfl; have := lv_neT (a := 1) c19 rfl; have := lv_neT (a := 2) c26 rfl; omega) (by decide) ?_
                  refine lv_aload_n hx hb dX0_act_152 rfl (lv_at hl 0 rfl) ?_
                  refine rdX0_above hx hb hts hinX0_act hown hK hP (hts (.fieldLink RX0 11 "ExactShares" "above" "[J") (List.mem_of_getElem? (i := 1) rfl)) dX0_act_153 ?_
                  refine lv_iload_n hx hb dX0_act_156 rfl (lv_at hl 3 rfl) ?_
                  obtain ⟨g33, h⟩ := gd_t h
                  refine ldX0_above hx hb hK hP g33 dX0_act_157 ?_
                  refine lv_lconst (v := (0 : Int64)) hx hb dX0_act_158 (by decide) ?_
                  refine xl_ne (tgt := 168) hx hb dX0_act_159 dX0_act_160 (by decide) (fun c34 => ?_) (fun c34 => ?_)
                  · replace h := br_n c34 h
                    refine lv_aload_n hx hb dX0_act_168 rfl (lv_at hl 0 rfl) ?_
                    refine lv_iload_n hx hb dX0_act_169 rfl (lv_at hl 2 rfl) ?_
                    refine lv_iload_n hx hb dX0_act_170 rfl (lv_at hl 3 rfl) ?_
                    obtain ⟨o35, ho36, h⟩ := bi h
                    refine caMi (q0 := 0) (As := [.int x2, .int x3]) (rest := []) ⟨hx, hb, hml, hown, hts⟩ (mX0_keepQuotient l D kc q σ x2 x3 o35 ho36) (cwV 2 hts gX0_act_X0_keepQuotient rfl rfl rfl (by decide +kernel) ⟨Nat.le_of_ble_eq_true rfl, Nat.le_of_ble_eq_true rfl⟩) hK hP hD hS hA rfl rfl rfl rfl hl.1 (Nat.le_of_ble_eq_true rfl) dX0_act_171 ⟨Nat.zero_le _, Nat.zero_le _⟩ (fun H locs hP hD hS => ?_)
                    exact reMi (v := o35.1) hx hb hr hlocks hK hP hD hS h dX0_act_174
                  · replace h := br_p c34 h
                    refine lv_bipush (v := (-2 : Int32)) hx hb dX0_act_163 (by decide) ?_
                    refine lv_goto (tgt := 174) hx hb dX0_act_165 (by decide) ?_
                    exact reMi (v := (-2 : Int32)) hx hb hr hlocks hK hP hD hS h dX0_act_174
          · replace h := br_n c11 h
            refine lv_bipush (v := (-4 : Int32)) hx hb dX0_act_34 (by decide) ?_
            exact reMi (v := (-4 : Int32)) hx hb hr hlocks hK hP hD hS h dX0_act_36
        · replace h := br_p c8 h
          refine lv_iconst (v := (-1 : Int32)) hx hb dX0_act_25 (by decide) ?_
          exact reMi (v := (-1 : Int32)) hx hb hr hlocks hK hP hD hS h dX0_act_26
abbrev rmX0_drop : Room := { frames := 0, cells := 0, slots := 0, locals := 0 }
theorem hinX0_drop : ∀ w ∈ u_ws RX0 TX0 13, w ∈ wsX0_drop := by first | exact fun _ h => List.mem_cons_of_mem _ (List.mem_append_right _ h) | exact fun _ h => List.mem_cons_of_mem _ (List.mem_append_left _ (List.mem_append_right _ h)) | decide +kernel
def fX0_drop (σ : CS)   : Option (Int32 × CS) := (if (c_numbers σ) = (0 : Int32) then (some ((-5 : Int32), σ)) else (bd (sc_numbers σ ((c_numbers σ) - (1 : Int32))) fun s2 => (some ((c_numbers s2), s2))))
set_option maxHeartbeats 4000000 in
set_option maxRecDepth 100000 in
theorem mX0_drop (l : Launch) (D : va_G) (kc : Nat → ClassId) (q : Nat → Nat) (σ : CS)  (out : Int32 × CS) (h : fX0_drop σ   = some out) : MMi l yX0_drop wsX0_drop rmX0_drop D (tysX0 kc) (wX0 kc q) σ [.ref (q 0)] out := by
  refine ofMi (cc := cX0_drop) (maxL := 1) (ret := (some .int)) (lv := [(0, .ref (q 0))]) (by decide) rfl (Nat.le_of_ble_eq_true rfl) rfl ?_
  intro p e s m args below meth c A C hA hK hP hD hS ls hl
  have C : cxt p s m args meth c RX0 cX0_drop 1 (some .int) wsX0_drop := C
  obtain ⟨hx, hb, hr, hml, hown, hts, hlocks⟩ := id C
  obtain ⟨H, hH⟩ : ∃ H, H = s.heap := ⟨_, rfl⟩
  obtain ⟨locs, hlocs⟩ : ∃ locs : List Loc, locs = [] := ⟨_, rfl⟩
  have hS : va_S A s.heap H locs := by rw [hH, hlocs]; exact va_S.rf
  rw [← hH] at hP
  suffices hW : W p l e rmX0_drop s m args below meth c H locs 0 0 _ (F0 m 0 ls []) by rw [hH, hlocs] at hW; exact hW
  unfold fX0_drop at h
  refine lv_aload_n hx hb dX0_drop_0 rfl (lv_at hl 0 rfl) ?_
  refine rdX0_numbers hx hb hts hinX0_drop hown hK hP (hts (.fieldLink RX0 68 "ExactShares" "numbers" "I") (List.mem_of_getElem? (i := 1) rfl)) dX0_drop_1 ?_
  refine lv_if_ne (tgt := 10) hx hb dX0_drop_4 (by decide) (fun c1 => ?_) (fun c1 => ?_)
  · replace h := br_n c1 h
    refine lv_aload_n hx hb dX0_drop_10 rfl (lv_at hl 0 rfl) ?_
    refine lv_dup hx hb dX0_drop_11 rfl ?_
    refine rdX0_numbers hx hb hts hinX0_drop hown hK hP (hts (.fieldLink RX0 68 "ExactShares" "numbers" "I") (List.mem_of_getElem? (i := 1) rfl)) dX0_drop_12 ?_
    refine lv_iconst (v := (1 : Int32)) hx hb dX0_drop_15 (by decide) ?_
    refine lv_isub hx hb dX0_drop_16 ?_
    refine wrX0_numbers (v := ((c_numbers σ) - (1 : Int32))) hx hb hts hinX0_drop hown hK hP hD hS (hts (.fieldLink RX0 68 "ExactShares" "numbers" "I") (List.mem_of_getElem? (i := 1) rfl)) dX0_drop_17 (fun H locs hP hD hS => ?_)
    obtain ⟨s2, e3, h⟩ := bd_e h
    replace hP : va_P D vwCl (wX0 kc q s2) H := by rw [e3]; exact hP
    replace hD : va_D A (wX0 kc q s2) := by rw [e3]; exact hD
    clear e3
    refine lv_aload_n hx hb dX0_drop_20 rfl (lv_at hl 0 rfl) ?_
    refine rdX0_numbers hx hb hts hinX0_drop hown hK hP (hts (.fieldLink RX0 68 "ExactShares" "numbers" "I") (List.mem_of_getElem? (i := 1) rfl)) dX0_drop_21 ?_
    exact reMi (v := (c_numbers s2)) hx hb hr hlocks hK hP hD hS h dX0_drop_24
  · replace h := br_p c1 h
    refine lv_bipush (v := (-5 : Int32)) hx hb dX0_drop_7 (by decide) ?_
    exact reMi (v := (-5 : Int32)) hx hb hr hlocks hK hP hD hS h dX0_drop_9
abbrev rmJ9_floorDiv_f86c9 : Room := { frames := 0, cells := 0, slots := 0, locals := 0 }
def fJ9_floorDiv_f86c9  (x0 : Int64) (x2 : Int64) : Option (Int64) := (if x2 = (0 : Int64) then none else (if (0 : Int64) ≤ (x0 ^^^ x2) then (some (x0 / x2)) else (if ((x0 / x2) * x2) = x0 then (some (x0 / x2)) else (some ((x0 / x2) - (1 : Int64))))))
set_option maxHeartbeats 4000000 in
set_option maxRecDepth 100000 in
theorem mJ9_floorDiv_f86c9 (l : Launch) (x0 : Int64) (x2 : Int64) (out : Int64) (h : fJ9_floorDiv_f86c9  x0 x2 = some out) : MPl l yJ9_floorDiv_f86c9 wsJ9_floorDiv_f86c9 rmJ9_floorDiv_f86c9 [.long x0, .long x2] out := by
  refine ofPl (cc := cJ9_floorDiv_f86c9) (maxL := 6) (ret := (some .long)) (lv := [(0, .long x0), (2, .long x2)]) (by decide +kernel) rfl (Nat.le_of_ble_eq_true rfl) rfl ?_
  intro p e s m args below meth c C ls hl
  have C : cxt p s m args meth c RJ9 cJ9_floorDiv_f86c9 6 (some .long) wsJ9_floorDiv_f86c9 := C
  obtain ⟨hx, hb, hr, hml, hown, hts, hlocks⟩ := id C
  unfold fJ9_floorDiv_f86c9 at h
  refine lv_lload_n hx hb dJ9_floorDiv_f86c9_0 rfl (lv_at hl 0 rfl) ?_
  refine lv_lload_n hx hb dJ9_floorDiv_f86c9_1 rfl (lv_at hl 1 rfl) ?_
  obtain ⟨g1, h⟩ := gd_f h
  refine lv_ldiv hx hb dJ9_floorDiv_f86c9_2 g1 ?_
  refine lv_lstore (lv' := [(4, .long (x0 / x2)), (0, .long x0), (2, .long x2)]) hx hb dJ9_floorDiv_f86c9_3 hl (by decide) rfl (fun ls hl => ?_)
  refine lv_lload_n hx hb dJ9_floorDiv_f86c9_5 rfl (lv_at hl 1 rfl) ?_
  refine lv_lload_n hx hb dJ9_floorDiv_f86c9_6 rfl (lv_at hl 2 rfl) ?_
  refine lv_lxor hx hb dJ9_floorDiv_f86c9_7 ?_
  refine lv_lconst (v := (0 : Int64)) hx hb dJ9_floorDiv_f86c9_8 (by decide) ?_
  refine xl_ge (tgt := 27) hx hb dJ9_floorDiv_f86c9_9 dJ9_floorDiv_f86c9_10 (by decide) (fun c2 => ?_) (fun c2 => ?_)
  · replace h := br_p c2 h
    refine lv_lload hx hb dJ9_floorDiv_f86c9_27 (lv_at hl 0 rfl) ?_
    exact reRl (v := (x0 / x2)) hx hb hr hlocks h dJ9_floorDiv_f86c9_29
  · replace h := br_n c2 h
    refine lv_lload hx hb dJ9_floorDiv_f86c9_13 (lv_at hl 0 rfl) ?_
    refine lv_lload_n hx hb dJ9_floorDiv_f86c9_15 rfl (lv_at hl 2 rfl) ?_
    refine lv_lmul hx hb dJ9_floorDiv_f86c9_16 ?_
    refine lv_lload_n hx hb dJ9_floorDiv_f86c9_17 rfl (lv_at hl 1 rfl) ?_
    refine xl_eq (tgt := 27) hx hb dJ9_floorDiv_f86c9_18 dJ9_floorDiv_f86c9_19 (by decide) (fun c3 => ?_) (fun c3 => ?_)
    · replace h := br_p c3 h
      refine lv_lload hx hb dJ9_floorDiv_f86c9_27 (lv_at hl 0 rfl) ?_
      exact reRl (v := (x0 / x2)) hx hb hr hlocks h dJ9_floorDiv_f86c9_29
    · replace h := br_n c3 h
      refine lv_lload hx hb dJ9_floorDiv_f86c9_22 (lv_at hl 0 rfl) ?_
      refine lv_lconst (v := (1 : Int64)) hx hb dJ9_floorDiv_f86c9_24 (by decide) ?_
      refine lv_lsub hx hb dJ9_floorDiv_f86c9_25 ?_
      exact reRl (v := ((x0 / x2) - (1 : Int64))) hx hb hr hlocks h dJ9_floorDiv_f86c9_26
abbrev rmX0_compared : Room := { frames := 1, cells := 0, slots := 0, locals := 25 }
def fX0_compared_L100    (x8 : Int32) (x14 : Int64) (x16 : Int64) : Option (Int32) := (if x16 ≤ x14 then (if x14 ≤ x16 then (some (0 : Int32)) else (some x8)) else (some (-x8)))
set_option maxHeartbeats 4000000 in
set_option maxRecDepth 100000 in
theorem wX0_compared_L100 {p : Program} {l : Launch} {e : Env} {s : State} {m : MethodId} {args : Array Value} {below : List Frame} {meth : Method} {c : Code} {out : Int32} (C : cxt p s m args meth c RX0 cX0_compared 18 (some .int) wsX0_compared) (x8 : Int32) (x14 : Int64) (x16 : Int64) (ls : Array Slot) (h : fX0_compared_L100   x8 x14 x16 = some out) (hl : lv_has ls 18 [(8, .int x8), (14, .long x14), (16, .long x16)]) : W p l e rmX0_compared s m args below meth c s.heap [] 0 0 (MQ below (QRi out) args s 0 0 (fun _ => False)) (F0 m 100 ls []) := by
  obtain ⟨hx, hb, hr, hml, hown, hts, hlocks⟩ := id C
  unfold fX0_compared_L100 at h
  refine lv_lload hx hb dX0_compared_100 (lv_at hl 1 rfl) ?_
  refine lv_lload hx hb dX0_compared_102 (lv_at hl 2 rfl) ?_
  refine xl_ge (tgt := 114) hx hb dX0_compared_104 dX0_compared_105 (by decide) (fun c1 => ?_) (fun c1 => ?_)
  · replace h := br_p c1 h
    refine lv_lload hx hb dX0_compared_114 (lv_at hl 1 rfl) ?_
    refine lv_lload hx hb dX0_compared_116 (lv_at hl 2 rfl) ?_
    refine xl_le (tgt := 127) hx hb dX0_compared_118 dX0_compared_119 (by decide) (fun c2 => ?_) (fun c2 => ?_)
    · replace h := br_p c2 h
      refine lv_iconst (v := (0 : Int32)) hx hb dX0_compared_127 (by decide) ?_
      exact reRi (v := (0 : Int32)) hx hb hr hlocks h dX0_compared_128
    · replace h := br_n c2 h
      refine lv_iload hx hb dX0_compared_122 (lv_at hl 0 rfl) ?_
      refine lv_goto (tgt := 128) hx hb dX0_compared_124 (by decide) ?_
      exact reRi (v := x8) hx hb hr hlocks h dX0_compared_128
  · replace h := br_n c1 h
    refine lv_iload hx hb dX0_compared_108 (lv_at hl 0 rfl) ?_
    refine lv_ineg hx hb dX0_compared_110 ?_
    refine lv_goto (tgt := 128) hx hb dX0_compared_111 (by decide) ?_
    exact reRi (v := (-x8)) hx hb hr hlocks h dX0_compared_128
def fX0_compared_B6    (k6 : Int64 × Int64 × Int64 × Int64 × Int32 × Int32 → Option (Int32)) (x0 : Int64) (x2 : Int64) (x4 : Int64) (x6 : Int64) (x8 : Int32) (x9 : Int32) : Option (Int32) := (if (200 : Int32) ≤ x9 then (some (0 : Int32)) else (if x2 ≤ (0 : Int64) then (some (0 : Int32)) else (if x6 ≤ (0 : Int64) then (some (0 : Int32)) else ((fJ9_floorDiv_f86c9 x0 x2).bind fun o4 => ((fJ9_floorDiv_f86c9 x4 x6).bind fun o6 => (if o4 = o6 then (if (x0 - (o4 * x2)) = (0 : Int64) then (fX0_compared_L100 x8 (x0 - (o4 * x2)) (x4 - (o6 * x6))) else (if (x4 - (o6 * x6)) = (0 : Int64) then (fX0_compared_L100 x8 (x0 - (o4 * x2)) (x4 - (o6 * x6))) else (k6 (x2, (x0 - (o4 * x2)), x6, (x4 - (o6 * x6)), (-x8), (x9 + (1 : Int32)))))) else (if o6 ≤ o4 then (some x8) else (some (-x8)))))))))
def fX0_compared_L6    (x0 : Int64) (x2 : Int64) (x4 : Int64) (x6 : Int64) (x8 : Int32) (x9 : Int32) : Option (Int32) := lp (fun k t => fX0_compared_B6    k t.1 t.2.1 t.2.2.1 t.2.2.2.1 t.2.2.2.2.1 t.2.2.2.2.2) FU (x0, x2, x4, x6, x8, x9)
set_option maxHeartbeats 4000000 in
set_option maxRecDepth 100000 in
theorem wX0_compared_B6 {p : Program} {l : Launch} {e : Env} {s : State} {m : MethodId} {args : Array Value} {below : List Frame} {meth : Method} {c : Code} {out : Int32} (C : cxt p s m args meth c RX0 cX0_compared 18 (some .int) wsX0_compared) (k6 : Int64 × Int64 × Int64 × Int64 × Int32 × Int32 → Option (Int32)) (hk6 : ∀ (x0 : Int64) (x2 : Int64) (x4 : Int64) (x6 : Int64) (x8 : Int32) (x9 : Int32) (ls : Array Slot), k6 (x0, x2, x4, x6, x8, x9) = some out → lv_has ls 18 [(0, .long x0), (2, .long x2), (4, .long x4), (6, .long x6), (8, .int x8), (9, .int x9)] → W p l e rmX0_compared s m args below meth c s.heap [] 0 0 (MQ below (QRi out) args s 0 0 (fun _ => False)) (F0 m 6 ls [])) (x0 : Int64) (x2 : Int64) (x4 : Int64) (x6 : Int64) (x8 : Int32) (x9 : Int32) (ls : Array Slot) (h : fX0_compared_B6   k6 x0 x2 x4 x6 x8 x9 = some out) (hl : lv_has ls 18 [(0, .long x0), (2, .long x2), (4, .long x4), (6, .long x6), (8, .int x8), (9, .int x9)]) : W p l e rmX0_compared s m args below meth c s.heap [] 0 0 (MQ below (QRi out) args s 0 0 (fun _ => False)) (F0 m 6 ls []) := by
  obtain ⟨hx, hb, hr, hml, hown, hts, hlocks⟩ := id C
  unfold fX0_compared_B6 at h
  refine lv_iload hx hb dX0_compared_6 (lv_at hl 5 rfl) ?_
  refine lv_sipush (v := (200 : Int32)) hx hb dX0_compared_8 (by decide) ?_
  refine lv_icmp_ge (tgt := 153) hx hb dX0_compared_11 (by decide) (fun c1 => ?_) (fun c1 => ?_)
  · replace h := br_p c1 h
    refine lv_iconst (v := (0 : Int32)) hx hb dX0_compared_153 (by decide) ?_
    exact reRi (v := (0 : Int32)) hx hb hr hlocks h dX0_compared_154
  · replace h := br_n c1 h
    refine lv_lload_n hx hb dX0_compared_14 rfl (lv_at hl 1 rfl) ?_
    refine lv_lconst (v := (0 : Int64)) hx hb dX0_compared_15 (by decide) ?_
    refine xl_le (tgt := 153) hx hb dX0_compared_16 dX0_compared_17 (by decide) (fun c2 => ?_) (fun c2 => ?_)
    · replace h := br_p c2 h
      refine lv_iconst (v := (0 : Int32)) hx hb dX0_compared_153 (by decide) ?_
      exact reRi (v := (0 : Int32)) hx hb hr hlocks h dX0_compared_154
    · replace h := br_n c2 h
      refine lv_lload hx hb dX0_compared_20 (lv_at hl 3 rfl) ?_
      refine lv_lconst (v := (0 : Int64)) hx hb dX0_compared_22 (by decide) ?_
      refine xl_le (tgt := 153) hx hb dX0_compared_23 dX0_compared_24 (by decide) (fun c3 => ?_) (fun c3 => ?_)
      · replace h := br_p c3 h
        refine lv_iconst (v := (0 : Int32)) hx hb dX0_compared_153 (by decide) ?_
        exact reRi (v := (0 : Int32)) hx hb hr hlocks h dX0_compared_154
      · replace h := br_n c3 h
        refine lv_lload_n hx hb dX0_compared_27 rfl (lv_at hl 0 rfl) ?_
        refine lv_lload_n hx hb dX0_compared_28 rfl (lv_at hl 1 rfl) ?_
        obtain ⟨o4, ho5, h⟩ := bi h
        refine caPl (As := [.long x0, .long x2]) (rest := []) ⟨hx, hb, hml, hown, hts⟩ (mJ9_floorDiv_f86c9 l x0 x2 o4 ho5) (va_cwS 2 hts gX0_compared_J9_floorDiv_f86c9 rfl rfl rfl (by decide +kernel) ⟨Nat.le_of_ble_eq_true rfl, Nat.le_of_ble_eq_true rfl⟩) rfl hl.1 (Nat.le_of_ble_eq_true rfl) dX0_compared_29 ⟨Nat.zero_le _, Nat.zero_le _⟩ ?_
        refine lv_lstore (lv' := [(10, .long o4), (0, .long x0), (2, .long x2), (4, .long x4), (6, .long x6), (8, .int x8), (9, .int x9)]) hx hb dX0_compared_32 hl (by decide) rfl (fun ls hl => ?_)
        refine lv_lload hx hb dX0_compared_34 (lv_at hl 3 rfl) ?_
        refine lv_lload hx hb dX0_compared_36 (lv_at hl 4 rfl) ?_
        obtain ⟨o6, ho7, h⟩ := bi h
        refine caPl (As := [.long x4, .long x6]) (rest := []) ⟨hx, hb, hml, hown, hts⟩ (mJ9_floorDiv_f86c9 l x4 x6 o6 ho7) (va_cwS 2 hts gX0_compared_J9_floorDiv_f86c9 rfl rfl rfl (by decide +kernel) ⟨Nat.le_of_ble_eq_true rfl, Nat.le_of_ble_eq_true rfl⟩) rfl hl.1 (Nat.le_of_ble_eq_true rfl) dX0_compared_38 ⟨Nat.zero_le _, Nat.zero_le _⟩ ?_
        refine lv_lstore (lv' := [(12, .long o6), (10, .long o4), (0, .long x0), (2, .long x2), (4, .long x4), (6, .long x6), (8, .int x8), (9, .int x9)]) hx hb dX0_compared_41 hl (by decide) rfl (fun ls hl => ?_)
        refine lv_lload hx hb dX0_compared_43 (lv_at hl 1 rfl) ?_
        refine lv_lload hx hb dX0_compared_45 (lv_at hl 0 rfl) ?_
        refine xl_eq (tgt := 68) hx hb dX0_compared_47 dX0_compared_48 (by decide) (fun c8 => ?_) (fun c8 => ?_)
        · replace h := br_p c8 h
          refine lv_lload_n hx hb dX0_compared_68 rfl (lv_at hl 2 rfl) ?_
          refine lv_lload hx hb dX0_compared_69 (lv_at hl 1 rfl) ?_
          refine lv_lload_n hx hb dX0_compared_71 rfl (lv_at hl 3 rfl) ?_
          refine lv_lmul hx hb dX0_compared_72 ?_
          refine lv_lsub hx hb dX0_compared_73 ?_
          refine lv_lstore (lv' := [(14, .long (x0 - (o4 * x2))), (12, .long o6), (10, .long o4), (0, .long x0), (2, .long x2), (4, .long x4), (6, .long x6), (8, .int x8), (9, .int x9)]) hx hb dX0_compared_74 hl (by decide) rfl (fun ls hl => ?_)
          refine lv_lload hx hb dX0_compared_76 (lv_at hl 5 rfl) ?_
          refine lv_lload hx hb dX0_compared_78 (lv_at hl 1 rfl) ?_
          refine lv_lload hx hb dX0_compared_80 (lv_at hl 6 rfl) ?_
          refine lv_lmul hx hb dX0_compared_82 ?_
          refine lv_lsub hx hb dX0_compared_83 ?_
          refine lv_lstore (lv' := [(16, .long (x4 - (o6 * x6))), (14, .long (x0 - (o4 * x2))), (12, .long o6), (10, .long o4), (0, .long x0), (2, .long x2), (4, .long x4), (6, .long x6), (8, .int x8), (9, .int x9)]) hx hb dX0_compared_84 hl (by decide) rfl (fun ls hl => ?_)
          refine lv_lload hx hb dX0_compared_86 (lv_at hl 1 rfl) ?_
          refine lv_lconst (v := (0 : Int64)) hx hb dX0_compared_88 (by decide) ?_
          refine xl_eq (tgt := 100) hx hb dX0_compared_89 dX0_compared_90 (by decide) (fun c9 => ?_) (fun c9 => ?_)
          · replace h := br_p c9 h
            exact wX0_compared_L100 C  x8 (x0 - (o4 * x2)) (x4 - (o6 * x6)) ls h (lv_sub hl [8, 1, 0] rfl)
          · replace h := br_n c9 h
            refine lv_lload hx hb dX0_compared_93 (lv_at hl 0 rfl) ?_
            refine lv_lconst (v := (0 : Int64)) hx hb dX0_compared_95 (by decide) ?_
            refine xl_ne (tgt := 129) hx hb dX0_compared_96 dX0_compared_97 (by decide) (fun c10 => ?_) (fun c10 => ?_)
            · replace h := br_n c10 h
              refine lv_lload_n hx hb dX0_compared_129 rfl (lv_at hl 5 rfl) ?_
              refine lv_lstore_n (lv' := [(0, .long x2), (16, .long (x4 - (o6 * x6))), (14, .long (x0 - (o4 * x2))), (12, .long o6), (10, .long o4), (2, .long x2), (4, .long x4), (6, .long x6), (8, .int x8), (9, .int x9)]) hx hb dX0_compared_130 rfl hl (by decide) rfl (fun ls hl => ?_)
              refine lv_lload hx hb dX0_compared_131 (lv_at hl 2 rfl) ?_
              refine lv_lstore_n (lv' := [(2, .long (x0 - (o4 * x2))), (0, .long x2), (16, .long (x4 - (o6 * x6))), (14, .long (x0 - (o4 * x2))), (12, .long o6), (10, .long o4), (4, .long x4), (6, .long x6), (8, .int x8), (9, .int x9)]) hx hb dX0_compared_133 rfl hl (by decide) rfl (fun ls hl => ?_)
              refine lv_lload hx hb dX0_compared_134 (lv_at hl 7 rfl) ?_
              refine lv_lstore (lv' := [(4, .long x6), (2, .long (x0 - (o4 * x2))), (0, .long x2), (16, .long (x4 - (o6 * x6))), (14, .long (x0 - (o4 * x2))), (12, .long o6), (10, .long o4), (6, .long x6), (8, .int x8), (9, .int x9)]) hx hb dX0_compared_136 hl (by decide) rfl (fun ls hl => ?_)
              refine lv_lload hx hb dX0_compared_138 (lv_at hl 3 rfl) ?_
              refine lv_lstore (lv' := [(6, .long (x4 - (o6 * x6))), (4, .long x6), (2, .long (x0 - (o4 * x2))), (0, .long x2), (16, .long (x4 - (o6 * x6))), (14, .long (x0 - (o4 * x2))), (12, .long o6), (10, .long o4), (8, .int x8), (9, .int x9)]) hx hb dX0_compared_140 hl (by decide) rfl (fun ls hl => ?_)
              refine lv_iload hx hb dX0_compared_142 (lv_at hl 8 rfl) ?_
              refine lv_ineg hx hb dX0_compared_144 ?_
              refine lv_istore (lv' := [(8, .int (-x8)), (6, .long (x4 - (o6 * x6))), (4, .long x6), (2, .long (x0 - (o4 * x2))), (0, .long x2), (16, .long (x4 - (o6 * x6))), (14, .long (x0 - (o4 * x2))), (12, .long o6), (10, .long o4), (9, .int x9)]) hx hb dX0_compared_145 hl (by decide) rfl (fun ls hl => ?_)
              refine lv_iinc (v := (x9 + (1 : Int32))) (lv' := [(9, .int (x9 + (1 : Int32))), (8, .int (-x8)), (6, .long (x4 - (o6 * x6))), (4, .long x6), (2, .long (x0 - (o4 * x2))), (0, .long x2), (16, .long (x4 - (o6 * x6))), (14, .long (x0 - (o4 * x2))), (12, .long o6), (10, .long o4)]) hx hb dX0_compared_147 hl (k := 9) rfl rfl (by decide) rfl (fun ls hl => ?_)
              refine lv_goto (tgt := 6) hx hb dX0_compared_150 (by decide) ?_
              exact hk6 x2 (x0 - (o4 * x2)) x6 (x4 - (o6 * x6)) (-x8) (x9 + (1 : Int32)) ls h (lv_sub hl [5, 4, 3, 2, 1, 0] rfl)
            · replace h := br_p c10 h
              exact wX0_compared_L100 C  x8 (x0 - (o4 * x2)) (x4 - (o6 * x6)) ls h (lv_sub hl [8, 1, 0] rfl)
        · replace h := br_n c8 h
          refine lv_lload hx hb dX0_compared_51 (lv_at hl 1 rfl) ?_
          refine lv_lload hx hb dX0_compared_53 (lv_at hl 0 rfl) ?_
          refine xl_ge (tgt := 65) hx hb dX0_compared_55 dX0_compared_56 (by decide) (fun c11 => ?_) (fun c11 => ?_)
          · replace h := br_p c11 h
            refine lv_iload hx hb dX0_compared_65 (lv_at hl 6 rfl) ?_
            exact reRi (v := x8) hx hb hr hlocks h dX0_compared_67
          · replace h := br_n c11 h
            refine lv_iload hx hb dX0_compared_59 (lv_at hl 6 rfl) ?_
            refine lv_ineg hx hb dX0_compared_61 ?_
            refine lv_goto (tgt := 67) hx hb dX0_compared_62 (by decide) ?_
            exact reRi (v := (-x8)) hx hb hr hlocks h dX0_compared_67
set_option maxHeartbeats 4000000 in
set_option maxRecDepth 100000 in
theorem wX0_compared_L6 {p : Program} {l : Launch} {e : Env} {s : State} {m : MethodId} {args : Array Value} {below : List Frame} {meth : Method} {c : Code} {out : Int32} (C : cxt p s m args meth c RX0 cX0_compared 18 (some .int) wsX0_compared) (x0 : Int64) (x2 : Int64) (x4 : Int64) (x6 : Int64) (x8 : Int32) (x9 : Int32) (ls : Array Slot) (h : fX0_compared_L6   x0 x2 x4 x6 x8 x9 = some out) (hl : lv_has ls 18 [(0, .long x0), (2, .long x2), (4, .long x4), (6, .long x6), (8, .int x8), (9, .int x9)]) : W p l e rmX0_compared s m args below meth c s.heap [] 0 0 (MQ below (QRi out) args s 0 0 (fun _ => False)) (F0 m 6 ls []) := by
  unfold fX0_compared_L6 at h
  exact lp_ind (P := fun t : Int64 × Int64 × Int64 × Int64 × Int32 × Int32 => ∀ ls : Array Slot, lv_has ls 18 [(0, .long t.1), (2, .long t.2.1), (4, .long t.2.2.1), (6, .long t.2.2.2.1), (8, .int t.2.2.2.2.1), (9, .int t.2.2.2.2.2)] → W p l e rmX0_compared s m args below meth c s.heap [] 0 0 (MQ below (QRi out) args s 0 0 (fun _ => False)) (F0 m 6 ls [])) (fun k hk t h ls hl => wX0_compared_B6 C  k (fun x0 x2 x4 x6 x8 x9 ls h hl => hk (x0, x2, x4, x6, x8, x9) h ls hl) t.1 t.2.1 t.2.2.1 t.2.2.2.1 t.2.2.2.2.1 t.2.2.2.2.2 ls h hl) FU (x0, x2, x4, x6, x8, x9) h ls hl
def fX0_compared  (x0 : Int64) (x2 : Int64) (x4 : Int64) (x6 : Int64) : Option (Int32) := (fX0_compared_L6 x0 x2 x4 x6 (1 : Int32) (0 : Int32))
set_option maxHeartbeats 4000000 in
set_option maxRecDepth 100000 in
theorem mX0_compared (l : Launch) (x0 : Int64) (x2 : Int64) (x4 : Int64) (x6 : Int64) (out : Int32) (h : fX0_compared  x0 x2 x4 x6 = some out) : MPi l yX0_compared wsX0_compared rmX0_compared [.long x0, .long x2, .long x4, .long x6] out := by
  refine ofPi (cc := cX0_compared) (maxL := 18) (ret := (some .int)) (lv := [(0, .long x0), (2, .long x2), (4, .long x4), (6, .long x6)]) (plainFor_of_name (by decide)) rfl (Nat.le_of_ble_eq_true rfl) rfl ?_
  intro p e s m args below meth c C ls hl
  have C : cxt p s m args meth c RX0 cX0_compared 18 (some .int) wsX0_compared := C
  obtain ⟨hx, hb, hr, hml, hown, hts, hlocks⟩ := id C
  unfold fX0_compared at h
  refine lv_iconst (v := (1 : Int32)) hx hb dX0_compared_0 (by decide) ?_
  refine lv_istore (lv' := [(8, .int (1 : Int32)), (0, .long x0), (2, .long x2), (4, .long x4), (6, .long x6)]) hx hb dX0_compared_1 hl (by decide) rfl (fun ls hl => ?_)
  refine lv_iconst (v := (0 : Int32)) hx hb dX0_compared_3 (by decide) ?_
  refine lv_istore (lv' := [(9, .int (0 : Int32)), (8, .int (1 : Int32)), (0, .long x0), (2, .long x2), (4, .long x4), (6, .long x6)]) hx hb dX0_compared_4 hl (by decide) rfl (fun ls hl => ?_)
  exact wX0_compared_L6 C  x0 x2 x4 x6 (1 : Int32) (0 : Int32) ls h (lv_sub hl [2, 3, 4, 5, 1, 0] rfl)
