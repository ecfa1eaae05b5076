abbrev rmX0_test : Room := { frames := 21, cells := 0, slots := 0, locals := 825 }
theorem hinX0_test : ∀ w ∈ u_ws RX0 TX0 13, w ∈ wsX0_test := by first | exact fun _ h => List.mem_cons_of_mem _ (List.mem_append_right _ h) | exact fun _ h => List.mem_cons_of_mem _ (List.mem_append_left _ (List.mem_append_right _ h)) | decide +kernel
def fX0_test (σ : CS)  (x1 : Int32) (x2 : Int32) : Option (Int32 × CS) := ((fX0_isRow x1).bind fun o1 => (if o1 = (0 : Int32) then (some ((-1 : Int32), σ)) else ((fX0_isRow x2).bind fun o4 => (if o4 = (0 : Int32) then (some ((-1 : Int32), σ)) else (if x1 = x2 then (some ((-1 : Int32), σ)) else (if ix x1 4 = true then (if ((c_sizes σ) x1.toNatClampNeg) = (0 : Int32) then (some ((-5 : Int32), σ)) else (if ix x2 4 = true then (if ((c_sizes σ) x2.toNatClampNeg) = (0 : Int32) then (some ((-5 : Int32), σ)) else ((fX0_isFull σ).bind fun o12 => (if o12 = (0 : Int32) then (if ix x1 4 = true then (if ix x1 4 = true then (if cpok (0 : Int32) (0 : Int32) ((c_sizes σ) x1.toNatClampNeg) = true then (bd (sc_things σ (va_cpy ((c_values σ) x1.toNatClampNeg) (c_things σ) (0 : Int32).toNatClampNeg (0 : Int32).toNatClampNeg ((c_sizes σ) x1.toNatClampNeg).toNatClampNeg)) fun s22 => (if ix x2 4 = true then (if ix x1 4 = true then (if ix x2 4 = true then (if cpok (0 : Int32) ((c_sizes s22) x1.toNatClampNeg) ((c_sizes s22) x2.toNatClampNeg) = true then (bd (sc_things s22 (va_cpy ((c_values s22) x2.toNatClampNeg) (c_things s22) (0 : Int32).toNatClampNeg ((c_sizes s22) x1.toNatClampNeg).toNatClampNeg ((c_sizes s22) x2.toNatClampNeg).toNatClampNeg)) fun s32 => (if ix x1 4 = true then (if ix x2 4 = true then ((fX0_sumOf s32 x1).bind fun o36 => (if ix x1 4 = true then ((fX0_waysToReach s32 20 o36 ((c_sizes s32) x1.toNatClampNeg) (0 : Int32) (((c_sizes s32) x1.toNatClampNeg) + ((c_sizes s32) x2.toNatClampNeg))).bind fun o39 => (bd (sc_waysNotBelow s32 o39) fun s41 => (if ix x1 4 = true then ((fX0_waysToReach s41 20 (o36 + (1 : Int64)) ((c_sizes s41) x1.toNatClampNeg) (0 : Int32) (((c_sizes s32) x1.toNatClampNeg) + ((c_sizes s32) x2.toNatClampNeg))).bind fun o44 => (bd (sc_waysWithJustThat s41 ((c_waysNotBelow s41) - o44)) fun s46 => (if ix x1 4 = true then ((fX0_choose (((c_sizes s32) x1.toNatClampNeg) + ((c_sizes s32) x2.toNatClampNeg)) ((c_sizes s46) x1.toNatClampNeg)).bind fun o49 => (bd (sc_waysInAll s46 (o49.toInt32)) fun s51 => ((fX0_keep s51 ((c_waysNotBelow s51).toInt64) ((c_waysInAll s51).toInt64)).bind fun o53 => (some (o53.1, o53.2))))) else none))) else none))) else none)) else none) else none)) else none) else none) else none) else none)) else none) else none) else none) else (some ((-4 : Int32), σ))))) else none)) else none))))))
set_option maxHeartbeats 4000000 in
set_option maxRecDepth 100000 in
theorem mX0_test (l : Launch) (D : va_G) (kc : Nat → ClassId) (q : Nat → Nat) (σ : CS) (x1 : Int32) (x2 : Int32) (out : Int32 × CS) (h : fX0_test σ  x1 x2 = some out) : MMi l yX0_test wsX0_test rmX0_test D (tysX0 kc) (wX0 kc q) σ [.ref (q 0), .int x1, .int x2] out := by
  refine ofMi (cc := cX0_test) (maxL := 6) (ret := (some .int)) (lv := [(0, .ref (q 0)), (1, .int x1), (2, .int x2)]) (by decide) rfl (Nat.le_of_ble_eq_true rfl) rfl ?_
  intro p e s m args below meth c A C hA hK hP hD hS ls hl
  have C : cxt p s m args meth c RX0 cX0_test 6 (some .int) wsX0_test := C
  obtain ⟨hx, hb, hr, hml, hown, hts, hlocks⟩ := id C
  obtain ⟨H, hH⟩ : ∃ H, H = s.heap := ⟨_, rfl⟩
  obtain ⟨locs, hlocs⟩ : ∃ locs : List Loc, locs = [] := ⟨_, rfl⟩
  have hS : va_S A s.heap H locs := by rw [hH, hlocs]; exact va_S.rf
  rw [← hH] at hP
  suffices hW : W p l e rmX0_test s m args below meth c H locs 0 0 _ (F0 m 0 ls []) by rw [hH, hlocs] at hW; exact hW
  unfold fX0_test at h
  refine lv_iload_n hx hb dX0_test_0 rfl (lv_at hl 1 rfl) ?_
  obtain ⟨o1, ho2, h⟩ := bi h
  refine caPi (As := [.int x1]) (rest := []) ⟨hx, hb, hml, hown, hts⟩ (mX0_isRow l x1 o1 ho2) (va_cwS 1 hts gX0_test_X0_isRow rfl rfl rfl (by decide +kernel) ⟨Nat.le_of_ble_eq_true rfl, Nat.le_of_ble_eq_true rfl⟩) rfl hl.1 (Nat.le_of_ble_eq_true rfl) dX0_test_1 ⟨Nat.zero_le _, Nat.zero_le _⟩ ?_
  refine lv_if_eq (tgt := 19) hx hb dX0_test_4 (by decide) (fun c3 => ?_) (fun c3 => ?_)
  · replace h := br_p c3 h
    refine lv_iconst (v := (-1 : Int32)) hx hb dX0_test_19 (by decide) ?_
    exact reMi (v := (-1 : Int32)) hx hb hr hlocks hK hP hD hS h dX0_test_20
  · replace h := br_n c3 h
    refine lv_iload_n hx hb dX0_test_7 rfl (lv_at hl 2 rfl) ?_
    obtain ⟨o4, ho5, h⟩ := bi h
    refine caPi (As := [.int x2]) (rest := []) ⟨hx, hb, hml, hown, hts⟩ (mX0_isRow l x2 o4 ho5) (va_cwS 1 hts gX0_test_X0_isRow rfl rfl rfl (by decide +kernel) ⟨Nat.le_of_ble_eq_true rfl, Nat.le_of_ble_eq_true rfl⟩) rfl hl.1 (Nat.le_of_ble_eq_true rfl) dX0_test_8 ⟨Nat.zero_le _, Nat.zero_le _⟩ ?_
    refine lv_if_eq (tgt := 19) hx hb dX0_test_11 (by decide) (fun c6 => ?_) (fun c6 => ?_)
    · replace h := br_p c6 h
      refine lv_iconst (v := (-1 : Int32)) hx hb dX0_test_19 (by decide) ?_
      exact reMi (v := (-1 : Int32)) hx hb hr hlocks hK hP hD hS h dX0_test_20
    · replace h := br_n c6 h
      refine lv_iload_n hx hb dX0_test_14 rfl (lv_at hl 1 rfl) ?_
      refine lv_iload_n hx hb dX0_test_15 rfl (lv_at hl 2 rfl) ?_
      refine lv_icmp_ne (tgt := 21) hx hb dX0_test_16 (by decide) (fun c7 => ?_) (fun c7 => ?_)
      · replace h := br_n c7 h
        refine lv_aload_n hx hb dX0_test_21 rfl (lv_at hl 0 rfl) ?_
        refine rdX0_sizes hx hb hts hinX0_test hown hK hP (hts (.fieldLink RX0 23 "ExactShares" "sizes" "[I") (List.mem_of_getElem? (i := 1) rfl)) dX0_test_22 ?_
        refine lv_iload_n hx hb dX0_test_25 rfl (lv_at hl 1 rfl) ?_
        obtain ⟨g8, h⟩ := gd_t h
        refine ldX0_sizes hx hb hK hP g8 dX0_test_26 ?_
        refine lv_if_eq (tgt := 39) hx hb dX0_test_27 (by decide) (fun c9 => ?_) (fun c9 => ?_)
        · replace h := br_p c9 h
          refine lv_bipush (v := (-5 : Int32)) hx hb dX0_test_39 (by decide) ?_
          exact reMi (v := (-5 : Int32)) hx hb hr hlocks hK hP hD hS h dX0_test_41
        · replace h := br_n c9 h
          refine lv_aload_n hx hb dX0_test_30 rfl (lv_at hl 0 rfl) ?_
          refine rdX0_sizes hx hb hts hinX0_test hown hK hP (hts (.fieldLink RX0 23 "ExactShares" "sizes" "[I") (List.mem_of_getElem? (i := 1) rfl)) dX0_test_31 ?_
          refine lv_iload_n hx hb dX0_test_34 rfl (lv_at hl 2 rfl) ?_
          obtain ⟨g10, h⟩ := gd_t h
          refine ldX0_sizes hx hb hK hP g10 dX0_test_35 ?_
          refine lv_if_ne (tgt := 42) hx hb dX0_test_36 (by decide) (fun c11 => ?_) (fun c11 => ?_)
          · replace h := br_n c11 h
            refine lv_aload_n hx hb dX0_test_42 rfl (lv_at hl 0 rfl) ?_
            obtain ⟨o12, ho13, h⟩ := bi h
            refine caRi (q0 := 0) (As := []) (rest := []) ⟨hx, hb, hml, hown, hts⟩ (mX0_isFull l D kc q σ  o12 ho13) (cwV 0 hts gX0_test_X0_isFull rfl rfl rfl (by decide +kernel) ⟨Nat.le_of_ble_eq_true rfl, Nat.le_of_ble_eq_true rfl⟩) hK hP rfl rfl rfl rfl hl.1 (Nat.le_of_ble_eq_true rfl) dX0_test_43 ⟨Nat.zero_le _, Nat.zero_le _⟩ ?_
            refine lv_if_eq (tgt := 52) hx hb dX0_test_46 (by decide) (fun c14 => ?_) (fun c14 => ?_)
            · replace h := br_p c14 h
              refine lv_aload_n hx hb dX0_test_52 rfl (lv_at hl 0 rfl) ?_
              refine rdX0_values hx hb hts hinX0_test hown hK hP (hts (.fieldLink RX0 20 "ExactShares" "values" "[[J") (List.mem_of_getElem? (i := 2) rfl)) dX0_test_53 ?_
              refine lv_iload_n hx hb dX0_test_56 rfl (lv_at hl 1 rfl) ?_
              obtain ⟨g15, h⟩ := gd_t h
              refine ldX0_values hx hb hK hP g15 dX0_test_57 ?_
              refine lv_iconst (v := (0 : Int32)) hx hb dX0_test_58 (by decide) ?_
              refine lv_aload_n hx hb dX0_test_59 rfl (lv_at hl 0 rfl) ?_
              refine rdX0_things hx hb hts hinX0_test hown hK hP (hts (.fieldLink RX0 33 "ExactShares" "things" "[J") (List.mem_of_getElem? (i := 3) rfl)) dX0_test_60 ?_
              refine lv_iconst (v := (0 : Int32)) hx hb dX0_test_63 (by decide) ?_
              refine lv_aload_n hx hb dX0_test_64 rfl (lv_at hl 0 rfl) ?_
              refine rdX0_sizes hx hb hts hinX0_test hown hK hP (hts (.fieldLink RX0 23 "ExactShares" "sizes" "[I") (List.mem_of_getElem? (i := 1) rfl)) dX0_test_65 ?_
              refine lv_iload_n hx hb dX0_test_68 rfl (lv_at hl 1 rfl) ?_
              obtain ⟨g16, h⟩ := gd_t h
              refine ldX0_sizes hx hb hK hP g16 dX0_test_69 ?_
              obtain ⟨g17, h⟩ := gd_t h
              refine cpX0 (ix_lt g15) g17 hx hb (hml.trans hl.1.symm) hown (hts (.methodLink RX0 138 arraycopyName) (List.mem_of_getElem? (i := 4) rfl)) (hts (.native arraycopyName) (List.mem_of_getElem? (i := 5) rfl)) (hts (.static arraycopyName) (List.mem_of_getElem? (i := 6) rfl)) (hts (.initialized "java/lang/System") (List.mem_of_getElem? (i := 7) rfl)) hK hP hD hS  (Nat.le_of_ble_eq_true rfl) (Nat.le_of_ble_eq_true rfl) dX0_test_70 (fun H locs hP hD hS => ?_)
              obtain ⟨s22, e23, h⟩ := bd_e h
              replace hP : va_P D vwCl (wX0 kc q s22) H := by rw [e23]; exact hP
              replace hD : va_D A (wX0 kc q s22) := by rw [e23]; exact hD
              clear e23
              refine lv_aload_n hx hb dX0_test_73 rfl (lv_at hl 0 rfl) ?_
              refine rdX0_values hx hb hts hinX0_test hown hK hP (hts (.fieldLink RX0 20 "ExactShares" "values" "[[J") (List.mem_of_getElem? (i := 2) rfl)) dX0_test_74 ?_
              refine lv_iload_n hx hb dX0_test_77 rfl (lv_at hl 2 rfl) ?_
              obtain ⟨g24, h⟩ := gd_t h
              refine ldX0_values hx hb hK hP g24 dX0_test_78 ?_
              refine lv_iconst (v := (0 : Int32)) hx hb dX0_test_79 (by decide) ?_
              refine lv_aload_n hx hb dX0_test_80 rfl (lv_at hl 0 rfl) ?_
              refine rdX0_things hx hb hts hinX0_test hown hK hP (hts (.fieldLink RX0 33 "ExactShares" "things" "[J") (List.mem_of_getElem? (i := 3) rfl)) dX0_test_81 ?_
              refine lv_aload_n hx hb dX0_test_84 rfl (lv_at hl 0 rfl) ?_
              refine rdX0_sizes hx hb hts hinX0_test hown hK hP (hts (.fieldLink RX0 23 "ExactShares" "sizes" "[I") (List.mem_of_getElem? (i := 1) rfl)) dX0_test_85 ?_
              refine lv_iload_n hx hb dX0_test_88 rfl (lv_at hl 1 rfl) ?_
              obtain ⟨g25, h⟩ := gd_t h
              refine ldX0_sizes hx hb hK hP g25 dX0_test_89 ?_
              refine lv_aload_n hx hb dX0_test_90 rfl (lv_at hl 0 rfl) ?_
              refine rdX0_sizes hx hb hts hinX0_test hown hK hP (hts (.fieldLink RX0 23 "ExactShares" "sizes" "[I") (List.mem_of_getElem? (i := 1) rfl)) dX0_test_91 ?_
              refine lv_iload_n hx hb dX0_test_94 rfl (lv_at hl 2 rfl) ?_
              obtain ⟨g26, h⟩ := gd_t h
              refine ldX0_sizes hx hb hK hP g26 dX0_test_95 ?_
              obtain ⟨g27, h⟩ := gd_t h
              refine cpX0 (ix_lt g24) g27 hx hb (hml.trans hl.1.symm) hown (hts (.methodLink RX0 138 arraycopyName) (List.mem_of_getElem? (i := 4) rfl)) (hts (.native arraycopyName) (List.mem_of_getElem? (i := 5) rfl)) (hts (.static arraycopyName) (List.mem_of_getElem? (i := 6) rfl)) (hts (.initialized "java/lang/System") (List.mem_of_getElem? (i := 7) rfl)) hK hP hD hS  (Nat.le_of_ble_eq_true rfl) (Nat.le_of_ble_eq_true rfl) dX0_test_96 (fun H locs hP hD hS => ?_)
              obtain ⟨s32, e33, h⟩ := bd_e h
              replace hP : va_P D vwCl (wX0 kc q s32) H := by rw [e33]; exact hP
              replace hD : va_D A (wX0 kc q s32) := by rw [e33]; exact hD
              clear e33
              refine lv_aload_n hx hb dX0_test_99 rfl (lv_at hl 0 rfl) ?_
              refine rdX0_sizes hx hb hts hinX0_test hown hK hP (hts (.fieldLink RX0 23 "ExactShares" "sizes" "[I") (List.mem_of_getElem? (i := 1) rfl)) dX0_test_100 ?_
              refine lv_iload_n hx hb dX0_test_103 rfl (lv_at hl 1 rfl) ?_
              obtain ⟨g34, h⟩ := gd_t h
              refine ldX0_sizes hx hb hK hP g34 dX0_test_104 ?_
              refine lv_aload_n hx hb dX0_test_105 rfl (lv_at hl 0 rfl) ?_
              refine rdX0_sizes hx hb hts hinX0_test hown hK hP (hts (.fieldLink RX0 23 "ExactShares" "sizes" "[I") (List.mem_of_getElem? (i := 1) rfl)) dX0_test_106 ?_
              refine lv_iload_n hx hb dX0_test_109 rfl (lv_at hl 2 rfl) ?_
              obtain ⟨g35, h⟩ := gd_t h
              refine ldX0_sizes hx hb hK hP g35 dX0_test_110 ?_
              refine lv_iadd hx hb dX0_test_111 ?_
              refine lv_istore_n (lv' := [(3, .int (((c_sizes s32) x1.toNatClampNeg) + ((c_sizes s32) x2.toNatClampNeg))), (0, .ref (q 0)), (1, .int x1), (2, .int x2)]) hx hb dX0_test_112 rfl hl (by decide) rfl (fun ls hl => ?_)
              refine lv_aload_n hx hb dX0_test_113 rfl (lv_at hl 1 rfl) ?_
              refine lv_iload_n hx hb dX0_test_114 rfl (lv_at hl 2 rfl) ?_
              obtain ⟨o36, ho37, h⟩ := bi h
              refine caRl (q0 := 0) (As := [.int x1]) (rest := []) ⟨hx, hb, hml, hown, hts⟩ (mX0_sumOf l D kc q s32 x1 o36 ho37) (cwV 1 hts gX0_test_X0_sumOf rfl rfl rfl (by decide +kernel) ⟨Nat.le_of_ble_eq_true rfl, Nat.le_of_ble_eq_true rfl⟩) hK hP rfl rfl rfl rfl hl.1 (Nat.le_of_ble_eq_true rfl) dX0_test_115 ⟨Nat.zero_le _, Nat.zero_le _⟩ ?_
              refine lv_lstore (lv' := [(4, .long o36), (3, .int (((c_sizes s32) x1.toNatClampNeg) + ((c_sizes s32) x2.toNatClampNeg))), (0, .ref (q 0)), (1, .int x1), (2, .int x2)]) hx hb dX0_test_118 hl (by decide) rfl (fun ls hl => ?_)
              refine lv_aload_n hx hb dX0_test_120 rfl (lv_at hl 2 rfl) ?_
              refine lv_lload hx hb dX0_test_121 (lv_at hl 0 rfl) ?_
              refine lv_aload_n hx hb dX0_test_123 rfl (lv_at hl 2 rfl) ?_
              refine rdX0_sizes hx hb hts hinX0_test hown hK hP (hts (.fieldLink RX0 23 "ExactShares" "sizes" "[I") (List.mem_of_getElem? (i := 1) rfl)) dX0_test_124 ?_
              refine lv_iload_n hx hb dX0_test_127 rfl (lv_at hl 3 rfl) ?_
              obtain ⟨g38, h⟩ := gd_t h
              refine ldX0_sizes hx hb hK hP g38 dX0_test_128 ?_
              refine lv_aload_n hx hb dX0_test_129 rfl (lv_at hl 2 rfl) ?_
              refine rdX0_things hx hb hts hinX0_test hown hK hP (hts (.fieldLink RX0 33 "ExactShares" "things" "[J") (List.mem_of_getElem? (i := 3) rfl)) dX0_test_130 ?_
              refine lv_iconst (v := (0 : Int32)) hx hb dX0_test_133 (by decide) ?_
              refine lv_iload_n hx hb dX0_test_134 rfl (lv_at hl 1 rfl) ?_
              obtain ⟨o39, ho40, h⟩ := bi h
              refine caSi (As := [.long o36, .int ((c_sizes s32) x1.toNatClampNeg), .ref (q 7), .int (0 : Int32), .int (((c_sizes s32) x1.toNatClampNeg) + ((c_sizes s32) x2.toNatClampNeg))]) (rest := [.ref (q 0)]) ⟨hx, hb, hml, hown, hts⟩ (mX0_waysToReach l D kc q s32 o36 ((c_sizes s32) x1.toNatClampNeg) (0 : Int32) (((c_sizes s32) x1.toNatClampNeg) + ((c_sizes s32) x2.toNatClampNeg)) o39 ho40) (va_cwS 5 hts gX0_test_X0_waysToReach rfl rfl rfl (by decide +kernel) ⟨Nat.le_of_ble_eq_true rfl, Nat.le_of_ble_eq_true rfl⟩) hK hP rfl hl.1 (Nat.le_of_ble_eq_true rfl) dX0_test_135 ⟨Nat.zero_le _, Nat.zero_le _⟩ ?_
              refine wrX0_waysNotBelow (v := o39) hx hb hts hinX0_test hown hK hP hD hS (hts (.fieldLink RX0 148 "ExactShares" "waysNotBelow" "I") (List.mem_of_getElem? (i := 8) rfl)) dX0_test_138 (fun H locs hP hD hS => ?_)
              obtain ⟨s41, e42, h⟩ := bd_e h
              replace hP : va_P D vwCl (wX0 kc q s41) H := by rw [e42]; exact hP
              replace hD : va_D A (wX0 kc q s41) := by rw [e42]; exact hD
              clear e42
              refine lv_aload_n hx hb dX0_test_141 rfl (lv_at hl 2 rfl) ?_
              refine lv_aload_n hx hb dX0_test_142 rfl (lv_at hl 2 rfl) ?_
              refine rdX0_waysNotBelow hx hb hts hinX0_test hown hK hP (hts (.fieldLink RX0 148 "ExactShares" "waysNotBelow" "I") (List.mem_of_getElem? (i := 8) rfl)) dX0_test_143 ?_
              refine lv_lload hx hb dX0_test_146 (lv_at hl 0 rfl) ?_
              refine lv_lconst (v := (1 : Int64)) hx hb dX0_test_148 (by decide) ?_
              refine lv_ladd hx hb dX0_test_149 ?_
              refine lv_aload_n hx hb dX0_test_150 rfl (lv_at hl 2 rfl) ?_
              refine rdX0_sizes hx hb hts hinX0_test hown hK hP (hts (.fieldLink RX0 23 "ExactShares" "sizes" "[I") (List.mem_of_getElem? (i := 1) rfl)) dX0_test_151 ?_
              refine lv_iload_n hx hb dX0_test_154 rfl (lv_at hl 3 rfl) ?_
              obtain ⟨g43, h⟩ := gd_t h
              refine ldX0_sizes hx hb hK hP g43 dX0_test_155 ?_
              refine lv_aload_n hx hb dX0_test_156 rfl (lv_at hl 2 rfl) ?_
              refine rdX0_things hx hb hts hinX0_test hown hK hP (hts (.fieldLink RX0 33 "ExactShares" "things" "[J") (List.mem_of_getElem? (i := 3) rfl)) dX0_test_157 ?_
              refine lv_iconst (v := (0 : Int32)) hx hb dX0_test_160 (by decide) ?_
              refine lv_iload_n hx hb dX0_test_161 rfl (lv_at hl 1 rfl) ?_
              obtain ⟨o44, ho45, h⟩ := bi h
              refine caSi (As := [.long (o36 + (1 : Int64)), .int ((c_sizes s41) x1.toNatClampNeg), .ref (q 7), .int (0 : Int32), .int (((c_sizes s32) x1.toNatClampNeg) + ((c_sizes s32) x2.toNatClampNeg))]) (rest := [.int (c_waysNotBelow s41), .ref (q 0)]) ⟨hx, hb, hml, hown, hts⟩ (mX0_waysToReach l D kc q s41 (o36 + (1 : Int64)) ((c_sizes s41) x1.toNatClampNeg) (0 : Int32) (((c_sizes s32) x1.toNatClampNeg) + ((c_sizes s32) x2.toNatClampNeg)) o44 ho45) (va_cwS 5 hts gX0_test_X0_waysToReach rfl rfl rfl (by decide +kernel) ⟨Nat.le_of_ble_eq_true rfl, Nat.le_of_ble_eq_true rfl⟩) hK hP rfl hl.1 (Nat.le_of_ble_eq_true rfl) dX0_test_162 ⟨Nat.zero_le _, Nat.zero_le _⟩ ?_
              refine lv_isub hx hb dX0_test_165 ?_
              refine wrX0_waysWithJustThat (v := ((c_waysNotBelow s41) - o44)) hx hb hts hinX0_test hown hK hP hD hS (hts (.fieldLink RX0 151 "ExactShares" "waysWithJustThat" "I") (List.mem_of_getElem? (i := 9) rfl)) dX0_test_166 (fun H locs hP hD hS => ?_)
              obtain ⟨s46, e47, h⟩ := bd_e h
              replace hP : va_P D vwCl (wX0 kc q s46) H := by rw [e47]; exact hP
              replace hD : va_D A (wX0 kc q s46) := by rw [e47]; exact hD
              clear e47
              refine lv_aload_n hx hb dX0_test_169 rfl (lv_at hl 2 rfl) ?_
              refine lv_iload_n hx hb dX0_test_170 rfl (lv_at hl 1 rfl) ?_
              refine lv_aload_n hx hb dX0_test_171 rfl (lv_at hl 2 rfl) ?_
              refine rdX0_sizes hx hb hts hinX0_test hown hK hP (hts (.fieldLink RX0 23 "ExactShares" "sizes" "[I") (List.mem_of_getElem? (i := 1) rfl)) dX0_test_172 ?_
              refine lv_iload_n hx hb dX0_test_175 rfl (lv_at hl 3 rfl) ?_
              obtain ⟨g48, h⟩ := gd_t h
              refine ldX0_sizes hx hb hK hP g48 dX0_test_176 ?_
              obtain ⟨o49, ho50, h⟩ := bi h
              refine caPl (As := [.int (((c_sizes s32) x1.toNatClampNeg) + ((c_sizes s32) x2.toNatClampNeg)), .int ((c_sizes s46) x1.toNatClampNeg)]) (rest := [.ref (q 0)]) ⟨hx, hb, hml, hown, hts⟩ (mX0_choose l (((c_sizes s32) x1.toNatClampNeg) + ((c_sizes s32) x2.toNatClampNeg)) ((c_sizes s46) x1.toNatClampNeg) o49 ho50) (va_cwS 2 hts gX0_test_X0_choose rfl rfl rfl (by decide +kernel) ⟨Nat.le_of_ble_eq_true rfl, Nat.le_of_ble_eq_true rfl⟩) rfl hl.1 (Nat.le_of_ble_eq_true rfl) dX0_test_177 ⟨Nat.zero_le _, Nat.zero_le _⟩ ?_
              refine lv_l2i (v := (o49.toInt32)) hx hb dX0_test_180 rfl ?_
              refine wrX0_waysInAll (v := (o49.toInt32)) hx hb hts hinX0_test hown hK hP hD hS (hts (.fieldLink RX0 154 "ExactShares" "waysInAll" "I") (List.mem_of_getElem? (i := 10) rfl)) dX0_test_181 (fun H locs hP hD hS => ?_)
              obtain ⟨s51, e52, h⟩ := bd_e h
              replace hP : va_P D vwCl (wX0 kc q s51) H := by rw [e52]; exact hP
              replace hD : va_D A (wX0 kc q s51) := by rw [e52]; exact hD
              clear e52
              refine lv_aload_n hx hb dX0_test_184 rfl (lv_at hl 2 rfl) ?_
              refine lv_aload_n hx hb dX0_test_185 rfl (lv_at hl 2 rfl) ?_
              refine rdX0_waysNotBelow hx hb hts hinX0_test hown hK hP (hts (.fieldLink RX0 148 "ExactShares" "waysNotBelow" "I") (List.mem_of_getElem? (i := 8) rfl)) dX0_test_186 ?_
              refine lv_i2l (v := ((c_waysNotBelow s51).toInt64)) hx hb dX0_test_189 rfl ?_
              refine lv_aload_n hx hb dX0_test_190 rfl (lv_at hl 2 rfl) ?_
              refine rdX0_waysInAll hx hb hts hinX0_test hown hK hP (hts (.fieldLink RX0 154 "ExactShares" "waysInAll" "I") (List.mem_of_getElem? (i := 10) rfl)) dX0_test_191 ?_
              refine lv_i2l (v := ((c_waysInAll s51).toInt64)) hx hb dX0_test_194 rfl ?_
              obtain ⟨o53, ho54, h⟩ := bi h
              refine caMi (q0 := 0) (As := [.long ((c_waysNotBelow s51).toInt64), .long ((c_waysInAll s51).toInt64)]) (rest := []) ⟨hx, hb, hml, hown, hts⟩ (mX0_keep l D kc q s51 ((c_waysNotBelow s51).toInt64) ((c_waysInAll s51).toInt64) o53 ho54) (cwV 2 hts gX0_test_X0_keep rfl rfl rfl (by decide +kernel) ⟨Nat.le_of_ble_eq_true rfl, Nat.le_of_ble_eq_true rfl⟩) hK hP hD hS hA rfl rfl rfl rfl hl.1 (Nat.le_of_ble_eq_true rfl) dX0_test_195 ⟨Nat.zero_le _, Nat.zero_le _⟩ (fun H locs hP hD hS => ?_)
              exact reMi (v := o53.1) hx hb hr hlocks hK hP hD hS h dX0_test_198
            · replace h := br_n c14 h
              refine lv_bipush (v := (-4 : Int32)) hx hb dX0_test_49 (by decide) ?_
              exact reMi (v := (-4 : Int32)) hx hb hr hlocks hK hP hD hS h dX0_test_51
          · replace h := br_p c11 h
            refine lv_bipush (v := (-5 : Int32)) hx hb dX0_test_39 (by decide) ?_
            exact reMi (v := (-5 : Int32)) hx hb hr hlocks hK hP hD hS h dX0_test_41
      · replace h := br_p c7 h
        refine lv_iconst (v := (-1 : Int32)) hx hb dX0_test_19 (by decide) ?_
        exact reMi (v := (-1 : Int32)) hx hb hr hlocks hK hP hD hS h dX0_test_20
abbrev rmX0_ways : Room := { frames := 0, cells := 0, slots := 0, locals := 0 }
theorem hinX0_ways : ∀ w ∈ u_ws RX0 TX0 13, w ∈ wsX0_ways := by first | exact fun _ h => List.mem_cons_of_mem _ (List.mem_append_right _ h) | exact fun _ h => List.mem_cons_of_mem _ (List.mem_append_left _ (List.mem_append_right _ h)) | decide +kernel
def fX0_ways (σ : CS)  (x1 : Int32) : Option (Int32) := (if (c_waysInAll σ) = (0 : Int32) then (some (-5 : Int32)) else (if x1 = (0 : Int32) then (some (c_waysNotBelow σ)) else (if x1 = (1 : Int32) then (some (c_waysInAll σ)) else (if x1 = (2 : Int32) then (some (c_waysWithJustThat σ)) else (some (-1 : Int32))))))
set_option maxHeartbeats 4000000 in
set_option maxRecDepth 100000 in
theorem mX0_ways (l : Launch) (D : va_G) (kc : Nat → ClassId) (q : Nat → Nat) (σ : CS) (x1 : Int32) (out : Int32) (h : fX0_ways σ  x1 = some out) : MRi l yX0_ways wsX0_ways rmX0_ways D (tysX0 kc) (wX0 kc q σ) [.ref (q 0), .int x1] out := by
  refine ofRi (cc := cX0_ways) (maxL := 2) (ret := (some .int)) (lv := [(0, .ref (q 0)), (1, .int x1)]) (by decide) rfl (Nat.le_of_ble_eq_true rfl) rfl ?_
  intro p e s m args below meth c C hK hP ls hl
  have C : cxt p s m args meth c RX0 cX0_ways 2 (some .int) wsX0_ways := C
  obtain ⟨hx, hb, hr, hml, hown, hts, hlocks⟩ := id C
  unfold fX0_ways at h
  refine lv_aload_n hx hb dX0_ways_0 rfl (lv_at hl 0 rfl) ?_
  refine rdX0_waysInAll hx hb hts hinX0_ways hown hK hP (hts (.fieldLink RX0 154 "ExactShares" "waysInAll" "I") (List.mem_of_getElem? (i := 1) rfl)) dX0_ways_1 ?_
  refine lv_if_ne (tgt := 10) hx hb dX0_ways_4 (by decide) (fun c1 => ?_) (fun c1 => ?_)
  · replace h := br_n c1 h
    refine lv_iload_n hx hb dX0_ways_10 rfl (lv_at hl 1 rfl) ?_
    by_cases c2 : x1 = (0 : Int32)
    · replace h := br_p c2 h
      refine lv_tableIn (off := 25) (tgt := 36) hx hb dX0_ways_11 (by rw [c2]; decide) (by rw [c2]; decide) (by rw [c2]; rfl) (by decide) ?_
      refine lv_aload_n hx hb dX0_ways_36 rfl (lv_at hl 0 rfl) ?_
      refine rdX0_waysNotBelow hx hb hts hinX0_ways hown hK hP (hts (.fieldLink RX0 148 "ExactShares" "waysNotBelow" "I") (List.mem_of_getElem? (i := 2) rfl)) dX0_ways_37 ?_
      exact reRi (v := (c_waysNotBelow σ)) hx hb hr hlocks h dX0_ways_40
    · replace h := br_n c2 h
      by_cases c3 : x1 = (1 : Int32)
      · replace h := br_p c3 h
        refine lv_tableIn (off := 30) (tgt := 41) hx hb dX0_ways_11 (by rw [c3]; decide) (by rw [c3]; decide) (by rw [c3]; rfl) (by decide) ?_
        refine lv_aload_n hx hb dX0_ways_41 rfl (lv_at hl 0 rfl) ?_
        refine rdX0_waysInAll hx hb hts hinX0_ways hown hK hP (hts (.fieldLink RX0 154 "ExactShares" "waysInAll" "I") (List.mem_of_getElem? (i := 1) rfl)) dX0_ways_42 ?_
        exact reRi (v := (c_waysInAll σ)) hx hb hr hlocks h dX0_ways_45
      · replace h := br_n c3 h
        by_cases c4 : x1 = (2 : Int32)
        · replace h := br_p c4 h
          refine lv_tableIn (off := 35) (tgt := 46) hx hb dX0_ways_11 (by rw [c4]; decide) (by rw [c4]; decide) (by rw [c4]; rfl) (by decide) ?_
          refine lv_aload_n hx hb dX0_ways_46 rfl (lv_at hl 0 rfl) ?_
          refine rdX0_waysWithJustThat hx hb hts hinX0_ways hown hK hP (hts (.fieldLink RX0 151 "ExactShares" "waysWithJustThat" "I") (List.mem_of_getElem? (i := 3) rfl)) dX0_ways_47 ?_
          exact reRi (v := (c_waysWithJustThat σ)) hx hb hr hlocks h dX0_ways_50
        · replace h := br_n c4 h
          refine lv_tableOut (tgt := 51) hx hb dX0_ways_11 (by have := lv_neT (a := 0) c2 rfl; have := lv_neT (a := 1) c3 rfl; have := lv_neT (a := 2) c4 rfl; omega) (by decide) ?_
          refine lv_iconst (v := (-1 : Int32)) hx hb dX0_ways_51 (by decide) ?_
          exact reRi (v := (-1 : Int32)) hx hb hr hlocks h dX0_ways_52
  · replace h := br_p c1 h
    refine lv_bipush (v := (-5 : Int32)) hx hb dX0_ways_7 (by decide) ?_
    exact reRi (v := (-5 : Int32)) hx hb hr hlocks h dX0_ways_9
abbrev rmX0_count : Room := { frames := 0, cells := 0, slots := 0, locals := 0 }
theorem hinX0_count : ∀ w ∈ u_ws RX0 TX0 13, w ∈ wsX0_count := by first | exact fun _ h => List.mem_cons_of_mem _ (List.mem_append_right _ h) | exact fun _ h => List.mem_cons_of_mem _ (List.mem_append_left _ (List.mem_append_right _ h)) | decide +kernel
def fX0_count_L29 (σ : CS)    : Option (Int32) := (some (-1 : Int32))
set_option maxHeartbeats 4000000 in
set_option maxRecDepth 100000 in
theorem wX0_count_L29 {p : Program} {l : Launch} {e : Env} {s : State} {m : MethodId} {args : Array Value} {below : List Frame} {meth : Method} {c : Code} {D : va_G} {kc : Nat → ClassId} {q : Nat → Nat} {out : Int32} (C : cxt p s m args meth c RX0 cX0_count 2 (some .int) wsX0_count) (hK : va_K D vwCl (tysX0 kc) s) {σ : CS}  (ls : Array Slot) (h : fX0_count_L29 σ    = some out) (hP : va_P D vwCl (wX0 kc q σ) s.heap) (hl : lv_has ls 2 [(0, .ref (q 0))]) : W p l e rmX0_count s m args below meth c s.heap [] 0 0 (MQ below (QRi out) args s 0 0 (fun _ => False)) (F0 m 29 ls []) := by
  obtain ⟨hx, hb, hr, hml, hown, hts, hlocks⟩ := id C
  unfold fX0_count_L29 at h
  refine lv_iconst (v := (-1 : Int32)) hx hb dX0_count_29 (by decide) ?_
  refine lv_goto (tgt := 41) hx hb dX0_count_30 (by decide) ?_
  exact reRi (v := (-1 : Int32)) hx hb hr hlocks h dX0_count_41
def fX0_count (σ : CS)  (x1 : Int32) : Option (Int32) := (if x1 = (0 : Int32) then (some (c_numbers σ)) else (if x1 = (5 : Int32) then (some (c_grown σ)) else (if x1 < (1 : Int32) then (fX0_count_L29 σ) else (if x1 ≤ (4 : Int32) then (if ix (x1 - (1 : Int32)) 4 = true then (some ((c_sizes σ) (x1 - (1 : Int32)).toNatClampNeg)) else none) else (fX0_count_L29 σ)))))
set_option maxHeartbeats 4000000 in
set_option maxRecDepth 100000 in
theorem mX0_count (l : Launch) (D : va_G) (kc : Nat → ClassId) (q : Nat → Nat) (σ : CS) (x1 : Int32) (out : Int32) (h : fX0_count σ  x1 = some out) : MRi l yX0_count wsX0_count rmX0_count D (tysX0 kc) (wX0 kc q σ) [.ref (q 0), .int x1] out := by
  refine ofRi (cc := cX0_count) (maxL := 2) (ret := (some .int)) (lv := [(0, .ref (q 0)), (1, .int x1)]) (by decide) rfl (Nat.le_of_ble_eq_true rfl) rfl ?_
  intro p e s m args below meth c C hK hP ls hl
  have C : cxt p s m args meth c RX0 cX0_count 2 (some .int) wsX0_count := C
  obtain ⟨hx, hb, hr, hml, hown, hts, hlocks⟩ := id C
  unfold fX0_count at h
  refine lv_iload_n hx hb dX0_count_0 rfl (lv_at hl 1 rfl) ?_
  refine lv_if_ne (tgt := 9) hx hb dX0_count_1 (by decide) (fun c1 => ?_) (fun c1 => ?_)
  · replace h := br_n c1 h
    refine lv_iload_n hx hb dX0_count_9 rfl (lv_at hl 1 rfl) ?_
    refine lv_iconst (v := (5 : Int32)) hx hb dX0_count_10 (by decide) ?_
    refine lv_icmp_ne (tgt := 19) hx hb dX0_count_11 (by decide) (fun c2 => ?_) (fun c2 => ?_)
    · replace h := br_n c2 h
      refine lv_iload_n hx hb dX0_count_19 rfl (lv_at hl 1 rfl) ?_
      refine lv_iconst (v := (1 : Int32)) hx hb dX0_count_20 (by decide) ?_
      refine lv_icmp_lt (tgt := 29) hx hb dX0_count_21 (by decide) (fun c3 => ?_) (fun c3 => ?_)
      · replace h := br_p c3 h
        exact wX0_count_L29 C hK   ls h hP (lv_sub hl [0] rfl)
      · replace h := br_n c3 h
        refine lv_iload_n hx hb dX0_count_24 rfl (lv_at hl 1 rfl) ?_
        refine lv_iconst (v := (4 : Int32)) hx hb dX0_count_25 (by decide) ?_
        refine lv_icmp_le (tgt := 33) hx hb dX0_count_26 (by decide) (fun c4 => ?_) (fun c4 => ?_)
        · replace h := br_p c4 h
          refine lv_aload_n hx hb dX0_count_33 rfl (lv_at hl 0 rfl) ?_
          refine rdX0_sizes hx hb hts hinX0_count hown hK hP (hts (.fieldLink RX0 23 "ExactShares" "sizes" "[I") (List.mem_of_getElem? (i := 3) rfl)) dX0_count_34 ?_
          refine lv_iload_n hx hb dX0_count_37 rfl (lv_at hl 1 rfl) ?_
          refine lv_iconst (v := (1 : Int32)) hx hb dX0_count_38 (by decide) ?_
          refine lv_isub hx hb dX0_count_39 ?_
          obtain ⟨g5, h⟩ := gd_t h
          refine ldX0_sizes hx hb hK hP g5 dX0_count_40 ?_
          exact reRi (v := ((c_sizes σ) (x1 - (1 : Int32)).toNatClampNeg)) hx hb hr hlocks h dX0_count_41
        · replace h := br_n c4 h
          exact wX0_count_L29 C hK   ls h hP (lv_sub hl [0] rfl)
    · replace h := br_p c2 h
      refine lv_aload_n hx hb dX0_count_14 rfl (lv_at hl 0 rfl) ?_
      refine rdX0_grown hx hb hts hinX0_count hown hK hP (hts (.fieldLink RX0 157 "ExactShares" "grown" "I") (List.mem_of_getElem? (i := 2) rfl)) dX0_count_15 ?_
      exact reRi (v := (c_grown σ)) hx hb hr hlocks h dX0_count_18
  · replace h := br_p c1 h
    refine lv_aload_n hx hb dX0_count_4 rfl (lv_at hl 0 rfl) ?_
    refine rdX0_numbers hx hb hts hinX0_count hown hK hP (hts (.fieldLink RX0 68 "ExactShares" "numbers" "I") (List.mem_of_getElem? (i := 1) rfl)) dX0_count_5 ?_
    exact reRi (v := (c_numbers σ)) hx hb hr hlocks h dX0_count_8
