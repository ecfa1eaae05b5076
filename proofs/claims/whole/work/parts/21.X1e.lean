abbrev rmX1_cut : Room := { frames := 2, cells := 0, slots := 0, locals := 46 }
theorem hinX1_cut : ∀ w ∈ u_ws RX1 TX1 17, w ∈ wsX1_cut := by first | exact fun _ h => List.mem_cons_of_mem _ (List.mem_append_right _ h) | exact fun _ h => List.mem_cons_of_mem _ (List.mem_append_left _ (List.mem_append_right _ h)) | decide +kernel
def fX1_cut_B45 (σ : MS)   (k45 : Int32 × Int32 × Int32 × Int64 × Int32 × MS → Option (Int64 × MS)) (x1 : Int32) (x2 : Int32) (x3 : Int32) (x4 : Int64) (x6 : Int32) : Option (Int64 × MS) := (if x2 ≤ x6 then (if (m_isWide σ) = (0 : Int32) then (if ix x1 41 = true then ((fX1_floor x4 ((m_lower σ) x1.toNatClampNeg)).bind fun o4 => (if x3 = (0 : Int32) then (some (o4, σ)) else (if ix x1 41 = true then (if ((m_lower σ) x1.toNatClampNeg) = (0 : Int64) then none else (if (lmd x4 ((m_lower σ) x1.toNatClampNeg)) = (0 : Int64) then (some (o4, σ)) else (some ((o4 + (1 : Int64)), σ)))) else none))) else none) else (some ((-9223372036854775808 : Int64), σ))) else ((fX1_times σ x4 (10 : Int64)).bind fun o10 => (k45 (x1, x2, x3, o10.1, (x6 + (1 : Int32)), o10.2))))
def fX1_cut_L45 (σ : MS)   (x1 : Int32) (x2 : Int32) (x3 : Int32) (x4 : Int64) (x6 : Int32) : Option (Int64 × MS) := lp (fun k t => fX1_cut_B45 t.2.2.2.2.2   k t.1 t.2.1 t.2.2.1 t.2.2.2.1 t.2.2.2.2.1) FU (x1, x2, x3, x4, x6, σ)
set_option maxHeartbeats 4000000 in
set_option maxRecDepth 100000 in
theorem wX1_cut_B45 {p : Program} {l : Launch} {e : Env} {s : State} {m : MethodId} {args : Array Value} {below : List Frame} {meth : Method} {c : Code} {A : Nat → Prop} {D : va_G} {kc : Nat → ClassId} {q : Nat → Nat} {out : Int64 × MS} (C : cxt p s m args meth c RX1 cX1_cut 8 (some .long) wsX1_cut) (hA : ∀ x, s.heap.size ≤ x → A x) (hK : va_K D vwCl (tysX1 kc) s) (k45 : Int32 × Int32 × Int32 × Int64 × Int32 × MS → Option (Int64 × MS)) (hk45 : ∀ (x1 : Int32) (x2 : Int32) (x3 : Int32) (x4 : Int64) (x6 : Int32) (σ : MS) (H : Heap) (locs : List Loc) (ls : Array Slot), k45 (x1, x2, x3, x4, x6, σ) = some out → va_P D vwCl (wX1 kc q σ) H → va_D A (wX1 kc q σ) → va_S A s.heap H locs → lv_has ls 8 [(0, .ref (q 0)), (1, .int x1), (2, .int x2), (3, .int x3), (4, .long x4), (6, .int x6)] → W p l e rmX1_cut s m args below meth c H locs 0 0 (MQ below (QMl D (tysX1 kc) (wX1 kc q) A out) args s 0 0 A) (F0 m 45 ls [])) (σ : MS) (x1 : Int32) (x2 : Int32) (x3 : Int32) (x4 : Int64) (x6 : Int32) (H : Heap) (locs : List Loc) (ls : Array Slot) (h : fX1_cut_B45 σ   k45 x1 x2 x3 x4 x6 = some out) (hP : va_P D vwCl (wX1 kc q σ) H) (hD : va_D A (wX1 kc q σ)) (hS : va_S A s.heap H locs) (hl : lv_has ls 8 [(0, .ref (q 0)), (1, .int x1), (2, .int x2), (3, .int x3), (4, .long x4), (6, .int x6)]) : W p l e rmX1_cut s m args below meth c H locs 0 0 (MQ below (QMl D (tysX1 kc) (wX1 kc q) A out) args s 0 0 A) (F0 m 45 ls []) := by
  obtain ⟨hx, hb, hr, hml, hown, hts, hlocks⟩ := id C
  unfold fX1_cut_B45 at h
  refine lv_iload hx hb dX1_cut_45 (lv_at hl 5 rfl) ?_
  refine lv_iload_n hx hb dX1_cut_47 rfl (lv_at hl 2 rfl) ?_
  refine lv_icmp_ge (tgt := 68) hx hb dX1_cut_48 (by decide) (fun c1 => ?_) (fun c1 => ?_)
  · replace h := br_p c1 h
    refine lv_aload_n hx hb dX1_cut_68 rfl (lv_at hl 0 rfl) ?_
    refine rdX1_isWide hx hb hts hinX1_cut hown hK hP (hts (.fieldLink RX1 39 "ExactSharesModel" "isWide" "Z") (List.mem_of_getElem? (i := 4) rfl)) dX1_cut_69 ?_
    refine lv_if_eq (tgt := 79) hx hb dX1_cut_72 (by decide) (fun c2 => ?_) (fun c2 => ?_)
    · replace h := br_p c2 h
      refine lv_lload hx hb dX1_cut_79 (lv_at hl 4 rfl) ?_
      refine lv_aload_n hx hb dX1_cut_81 rfl (lv_at hl 0 rfl) ?_
      refine rdX1_lower hx hb hts hinX1_cut hown hK hP (hts (.fieldLink RX1 13 "ExactSharesModel" "lower" "[J") (List.mem_of_getElem? (i := 7) rfl)) dX1_cut_82 ?_
      refine lv_iload_n hx hb dX1_cut_85 rfl (lv_at hl 1 rfl) ?_
      obtain ⟨g3, h⟩ := gd_t h
      refine ldX1_lower hx hb hK hP g3 dX1_cut_86 ?_
      obtain ⟨o4, ho5, h⟩ := bi h
      refine caPl (As := [.long x4, .long ((m_lower σ) x1.toNatClampNeg)]) (rest := []) ⟨hx, hb, hml, hown, hts⟩ (mX1_floor l x4 ((m_lower σ) x1.toNatClampNeg) o4 ho5) (va_cwS 2 hts gX1_cut_X1_floor rfl rfl rfl (by decide +kernel) ⟨Nat.le_of_ble_eq_true rfl, Nat.le_of_ble_eq_true rfl⟩) rfl hl.1 (Nat.le_of_ble_eq_true rfl) dX1_cut_87 ⟨Nat.zero_le _, Nat.zero_le _⟩ ?_
      refine lv_lstore (lv' := [(6, .long o4), (0, .ref (q 0)), (1, .int x1), (2, .int x2), (3, .int x3), (4, .long x4)]) hx hb dX1_cut_90 hl (by decide) rfl (fun ls hl => ?_)
      refine lv_iload_n hx hb dX1_cut_92 rfl (lv_at hl 4 rfl) ?_
      refine lv_if_eq (tgt := 117) hx hb dX1_cut_93 (by decide) (fun c6 => ?_) (fun c6 => ?_)
      · replace h := br_p c6 h
        refine lv_lload hx hb dX1_cut_117 (lv_at hl 0 rfl) ?_
        exact reMl (v := o4) hx hb hr hlocks hK hP hD hS h dX1_cut_119
      · replace h := br_n c6 h
        refine lv_lload hx hb dX1_cut_96 (lv_at hl 5 rfl) ?_
        refine lv_aload_n hx hb dX1_cut_98 rfl (lv_at hl 1 rfl) ?_
        refine rdX1_lower hx hb hts hinX1_cut hown hK hP (hts (.fieldLink RX1 13 "ExactSharesModel" "lower" "[J") (List.mem_of_getElem? (i := 7) rfl)) dX1_cut_99 ?_
        refine lv_iload_n hx hb dX1_cut_102 rfl (lv_at hl 2 rfl) ?_
        obtain ⟨g7, h⟩ := gd_t h
        refine ldX1_lower hx hb hK hP g7 dX1_cut_103 ?_
        obtain ⟨g8, h⟩ := gd_f h
        refine lv_lrem hx hb dX1_cut_104 g8 ?_
        refine lv_lconst (v := (0 : Int64)) hx hb dX1_cut_105 (by decide) ?_
        refine xl_eq (tgt := 117) hx hb dX1_cut_106 dX1_cut_107 (by decide) (fun c9 => ?_) (fun c9 => ?_)
        · replace h := br_p c9 h
          refine lv_lload hx hb dX1_cut_117 (lv_at hl 0 rfl) ?_
          exact reMl (v := o4) hx hb hr hlocks hK hP hD hS h dX1_cut_119
        · replace h := br_n c9 h
          refine lv_lload hx hb dX1_cut_110 (lv_at hl 0 rfl) ?_
          refine lv_lconst (v := (1 : Int64)) hx hb dX1_cut_112 (by decide) ?_
          refine lv_ladd hx hb dX1_cut_113 ?_
          refine lv_goto (tgt := 119) hx hb dX1_cut_114 (by decide) ?_
          exact reMl (v := (o4 + (1 : Int64))) hx hb hr hlocks hK hP hD hS h dX1_cut_119
    · replace h := br_n c2 h
      refine lv_ldc2 (v := (-9223372036854775808 : Int64)) hx hb hown (hts (.constantLong RX1 69 (-9223372036854775808)) (List.mem_of_getElem? (i := 3) rfl)) dX1_cut_75 ?_
      exact reMl (v := (-9223372036854775808 : Int64)) hx hb hr hlocks hK hP hD hS h dX1_cut_78
  · replace h := br_n c1 h
    refine lv_aload_n hx hb dX1_cut_51 rfl (lv_at hl 0 rfl) ?_
    refine lv_lload hx hb dX1_cut_52 (lv_at hl 4 rfl) ?_
    refine lv_ldc2 (v := (10 : Int64)) hx hb hown (hts (.constantLong RX1 122 (10)) (List.mem_of_getElem? (i := 6) rfl)) dX1_cut_54 ?_
    obtain ⟨o10, ho11, h⟩ := bi h
    refine caMl (q0 := 0) (As := [.long x4, .long (10 : Int64)]) (rest := []) ⟨hx, hb, hml, hown, hts⟩ (mX1_times l D kc q σ x4 (10 : Int64) o10 ho11) (cwV 2 hts gX1_cut_X1_times rfl rfl rfl (by decide +kernel) ⟨Nat.le_of_ble_eq_true rfl, Nat.le_of_ble_eq_true rfl⟩) hK hP hD hS hA rfl rfl rfl rfl hl.1 (Nat.le_of_ble_eq_true rfl) dX1_cut_57 ⟨Nat.zero_le _, Nat.zero_le _⟩ (fun H locs hP hD hS => ?_)
    refine lv_lstore (lv' := [(4, .long o10.1), (0, .ref (q 0)), (1, .int x1), (2, .int x2), (3, .int x3), (6, .int x6)]) hx hb dX1_cut_60 hl (by decide) rfl (fun ls hl => ?_)
    refine lv_iinc (v := (x6 + (1 : Int32))) (lv' := [(6, .int (x6 + (1 : Int32))), (4, .long o10.1), (0, .ref (q 0)), (1, .int x1), (2, .int x2), (3, .int x3)]) hx hb dX1_cut_62 hl (k := 5) rfl rfl (by decide) rfl (fun ls hl => ?_)
    refine lv_goto (tgt := 45) hx hb dX1_cut_65 (by decide) ?_
    exact hk45 x1 x2 x3 o10.1 (x6 + (1 : Int32)) o10.2 H locs ls h hP hD hS (lv_sub hl [2, 3, 4, 5, 1, 0] rfl)
set_option maxHeartbeats 4000000 in
set_option maxRecDepth 100000 in
theorem wX1_cut_L45 {p : Program} {l : Launch} {e : Env} {s : State} {m : MethodId} {args : Array Value} {below : List Frame} {meth : Method} {c : Code} {A : Nat → Prop} {D : va_G} {kc : Nat → ClassId} {q : Nat → Nat} {out : Int64 × MS} (C : cxt p s m args meth c RX1 cX1_cut 8 (some .long) wsX1_cut) (hA : ∀ x, s.heap.size ≤ x → A x) (hK : va_K D vwCl (tysX1 kc) s) (σ : MS) (x1 : Int32) (x2 : Int32) (x3 : Int32) (x4 : Int64) (x6 : Int32) (H : Heap) (locs : List Loc) (ls : Array Slot) (h : fX1_cut_L45 σ   x1 x2 x3 x4 x6 = some out) (hP : va_P D vwCl (wX1 kc q σ) H) (hD : va_D A (wX1 kc q σ)) (hS : va_S A s.heap H locs) (hl : lv_has ls 8 [(0, .ref (q 0)), (1, .int x1), (2, .int x2), (3, .int x3), (4, .long x4), (6, .int x6)]) : W p l e rmX1_cut s m args below meth c H locs 0 0 (MQ below (QMl D (tysX1 kc) (wX1 kc q) A out) args s 0 0 A) (F0 m 45 ls []) := by
  unfold fX1_cut_L45 at h
  exact lp_ind (P := fun t : Int32 × Int32 × Int32 × Int64 × Int32 × MS => ∀ (H : Heap) (locs : List Loc) (ls : Array Slot), va_P D vwCl (wX1 kc q t.2.2.2.2.2) H → va_D A (wX1 kc q t.2.2.2.2.2) → va_S A s.heap H locs → lv_has ls 8 [(0, .ref (q 0)), (1, .int t.1), (2, .int t.2.1), (3, .int t.2.2.1), (4, .long t.2.2.2.1), (6, .int t.2.2.2.2.1)] → W p l e rmX1_cut s m args below meth c H locs 0 0 (MQ below (QMl D (tysX1 kc) (wX1 kc q) A out) args s 0 0 A) (F0 m 45 ls [])) (fun k hk t h H locs ls hP hD hS hl => wX1_cut_B45 C hA hK  k (fun x1 x2 x3 x4 x6 σ H locs ls h hP hD hS hl => hk (x1, x2, x3, x4, x6, σ) h H locs ls hP hD hS hl) t.2.2.2.2.2 t.1 t.2.1 t.2.2.1 t.2.2.2.1 t.2.2.2.2.1 H locs ls h hP hD hS hl) FU (x1, x2, x3, x4, x6, σ) h H locs ls hP hD hS hl
def fX1_cut (σ : MS)  (x1 : Int32) (x2 : Int32) (x3 : Int32) : Option (Int64 × MS) := (bd (sm_thrown σ (0 : Int32)) fun s1 => ((fX1_isNumber s1 x1).bind fun o3 => (if o3 = (0 : Int32) then (some ((-9223372036854775808 : Int64), s1)) else ((fX1_isIn (x2.toInt64) (0 : Int64) (15 : Int64)).bind fun o6 => (if o6 = (0 : Int32) then (some ((-9223372036854775808 : Int64), s1)) else (bd (sm_isWide s1 (0 : Int32)) fun s9 => (if ix x1 41 = true then (fX1_cut_L45 s9 x1 x2 x3 ((m_upper s9) x1.toNatClampNeg) (0 : Int32)) else none)))))))
set_option maxHeartbeats 4000000 in
set_option maxRecDepth 100000 in
theorem mX1_cut (l : Launch) (D : va_G) (kc : Nat → ClassId) (q : Nat → Nat) (σ : MS) (x1 : Int32) (x2 : Int32) (x3 : Int32) (out : Int64 × MS) (h : fX1_cut σ  x1 x2 x3 = some out) : MMl l yX1_cut wsX1_cut rmX1_cut D (tysX1 kc) (wX1 kc q) σ [.ref (q 0), .int x1, .int x2, .int x3] out := by
  refine ofMl (cc := cX1_cut) (maxL := 8) (ret := (some .long)) (lv := [(0, .ref (q 0)), (1, .int x1), (2, .int x2), (3, .int x3)]) (by decide) rfl (Nat.le_of_ble_eq_true rfl) rfl ?_
  intro p e s m args below meth c A C hA hK hP hD hS ls hl
  have C : cxt p s m args meth c RX1 cX1_cut 8 (some .long) wsX1_cut := C
  obtain ⟨hx, hb, hr, hml, hown, hts, hlocks⟩ := id C
  obtain ⟨H, hH⟩ : ∃ H, H = s.heap := ⟨_, rfl⟩
  obtain ⟨locs, hlocs⟩ : ∃ locs : List Loc, locs = [] := ⟨_, rfl⟩
  have hS : va_S A s.heap H locs := by rw [hH, hlocs]; exact va_S.rf
  rw [← hH] at hP
  suffices hW : W p l e rmX1_cut s m args below meth c H locs 0 0 _ (F0 m 0 ls []) by rw [hH, hlocs] at hW; exact hW
  unfold fX1_cut at h
  refine lv_aload_n hx hb dX1_cut_0 rfl (lv_at hl 0 rfl) ?_
  refine lv_iconst (v := (0 : Int32)) hx hb dX1_cut_1 (by decide) ?_
  refine wrX1_thrown (v := (0 : Int32)) hx hb hts hinX1_cut hown hK hP hD hS (hts (.fieldLink RX1 43 "ExactSharesModel" "thrown" "I") (List.mem_of_getElem? (i := 1) rfl)) dX1_cut_2 (fun H locs hP hD hS => ?_)
  obtain ⟨s1, e2, h⟩ := bd_e h
  replace hP : va_P D vwCl (wX1 kc q s1) H := by rw [e2]; exact hP
  replace hD : va_D A (wX1 kc q s1) := by rw [e2]; exact hD
  clear e2
  refine lv_aload_n hx hb dX1_cut_5 rfl (lv_at hl 0 rfl) ?_
  refine lv_iload_n hx hb dX1_cut_6 rfl (lv_at hl 1 rfl) ?_
  obtain ⟨o3, ho4, h⟩ := bi h
  refine caRi (q0 := 0) (As := [.int x1]) (rest := []) ⟨hx, hb, hml, hown, hts⟩ (mX1_isNumber l D kc q s1 x1 o3 ho4) (cwV 1 hts gX1_cut_X1_isNumber rfl rfl rfl (by decide +kernel) ⟨Nat.le_of_ble_eq_true rfl, Nat.le_of_ble_eq_true rfl⟩) hK hP rfl rfl rfl rfl hl.1 (Nat.le_of_ble_eq_true rfl) dX1_cut_7 ⟨Nat.zero_le _, Nat.zero_le _⟩ ?_
  refine lv_if_eq (tgt := 25) hx hb dX1_cut_10 (by decide) (fun c5 => ?_) (fun c5 => ?_)
  · replace h := br_p c5 h
    refine lv_ldc2 (v := (-9223372036854775808 : Int64)) hx hb hown (hts (.constantLong RX1 69 (-9223372036854775808)) (List.mem_of_getElem? (i := 3) rfl)) dX1_cut_25 ?_
    exact reMl (v := (-9223372036854775808 : Int64)) hx hb hr hlocks hK hP hD hS h dX1_cut_28
  · replace h := br_n c5 h
    refine lv_iload_n hx hb dX1_cut_13 rfl (lv_at hl 2 rfl) ?_
    refine lv_i2l (v := (x2.toInt64)) hx hb dX1_cut_14 rfl ?_
    refine lv_lconst (v := (0 : Int64)) hx hb dX1_cut_15 (by decide) ?_
    refine lv_ldc2 (v := (15 : Int64)) hx hb hown (hts (.constantLong RX1 120 (15)) (List.mem_of_getElem? (i := 2) rfl)) dX1_cut_16 ?_
    obtain ⟨o6, ho7, h⟩ := bi h
    refine caPi (As := [.long (x2.toInt64), .long (0 : Int64), .long (15 : Int64)]) (rest := []) ⟨hx, hb, hml, hown, hts⟩ (mX1_isIn l (x2.toInt64) (0 : Int64) (15 : Int64) o6 ho7) (va_cwS 3 hts gX1_cut_X1_isIn rfl rfl rfl (by decide +kernel) ⟨Nat.le_of_ble_eq_true rfl, Nat.le_of_ble_eq_true rfl⟩) rfl hl.1 (Nat.le_of_ble_eq_true rfl) dX1_cut_19 ⟨Nat.zero_le _, Nat.zero_le _⟩ ?_
    refine lv_if_ne (tgt := 29) hx hb dX1_cut_22 (by decide) (fun c8 => ?_) (fun c8 => ?_)
    · replace h := br_n c8 h
      refine lv_aload_n hx hb dX1_cut_29 rfl (lv_at hl 0 rfl) ?_
      refine lv_iconst (v := (0 : Int32)) hx hb dX1_cut_30 (by decide) ?_
      refine wrX1_isWide (v := (0 : Int32)) hx hb hts hinX1_cut hown hK hP hD hS (hts (.fieldLink RX1 39 "ExactSharesModel" "isWide" "Z") (List.mem_of_getElem? (i := 4) rfl)) rfl rfl dX1_cut_31 (fun H locs hP hD hS => ?_)
      obtain ⟨s9, e10, h⟩ := bd_e h
      replace hP : va_P D vwCl (wX1 kc q s9) H := by rw [e10]; exact hP
      replace hD : va_D A (wX1 kc q s9) := by rw [e10]; exact hD
      clear e10
      refine lv_aload_n hx hb dX1_cut_34 rfl (lv_at hl 0 rfl) ?_
      refine rdX1_upper hx hb hts hinX1_cut hown hK hP (hts (.fieldLink RX1 7 "ExactSharesModel" "upper" "[J") (List.mem_of_getElem? (i := 5) rfl)) dX1_cut_35 ?_
      refine lv_iload_n hx hb dX1_cut_38 rfl (lv_at hl 1 rfl) ?_
      obtain ⟨g11, h⟩ := gd_t h
      refine ldX1_upper hx hb hK hP g11 dX1_cut_39 ?_
      refine lv_lstore (lv' := [(4, .long ((m_upper s9) x1.toNatClampNeg)), (0, .ref (q 0)), (1, .int x1), (2, .int x2), (3, .int x3)]) hx hb dX1_cut_40 hl (by decide) rfl (fun ls hl => ?_)
      refine lv_iconst (v := (0 : Int32)) hx hb dX1_cut_42 (by decide) ?_
      refine lv_istore (lv' := [(6, .int (0 : Int32)), (4, .long ((m_upper s9) x1.toNatClampNeg)), (0, .ref (q 0)), (1, .int x1), (2, .int x2), (3, .int x3)]) hx hb dX1_cut_43 hl (by decide) rfl (fun ls hl => ?_)
      exact wX1_cut_L45 C hA hK  s9 x1 x2 x3 ((m_upper s9) x1.toNatClampNeg) (0 : Int32) H locs ls h hP hD hS (lv_sub hl [2, 3, 4, 5, 1, 0] rfl)
    · replace h := br_p c8 h
      refine lv_ldc2 (v := (-9223372036854775808 : Int64)) hx hb hown (hts (.constantLong RX1 69 (-9223372036854775808)) (List.mem_of_getElem? (i := 3) rfl)) dX1_cut_25 ?_
      exact reMl (v := (-9223372036854775808 : Int64)) hx hb hr hlocks hK hP hD hS h dX1_cut_28
abbrev rmX1_isRow : Room := { frames := 1, cells := 0, slots := 0, locals := 25 }
def fX1_isRow  (x0 : Int32) : Option (Int32) := ((fX1_isIn (x0.toInt64) (0 : Int64) (3 : Int64)).bind fun o1 => (if zb o1 = true then some o1 else none))
set_option maxHeartbeats 4000000 in
set_option maxRecDepth 100000 in
theorem mX1_isRow (l : Launch) (x0 : Int32) (out : Int32) (h : fX1_isRow  x0 = some out) : MPi l yX1_isRow wsX1_isRow rmX1_isRow [.int x0] out := by
  refine ofPi (cc := cX1_isRow) (maxL := 1) (ret := (some .boolean)) (lv := [(0, .int x0)]) (plainFor_of_name (by decide)) rfl (Nat.le_of_ble_eq_true rfl) rfl ?_
  intro p e s m args below meth c C ls hl
  have C : cxt p s m args meth c RX1 cX1_isRow 1 (some .boolean) wsX1_isRow := C
  obtain ⟨hx, hb, hr, hml, hown, hts, hlocks⟩ := id C
  unfold fX1_isRow at h
  refine lv_iload_n hx hb dX1_isRow_0 rfl (lv_at hl 0 rfl) ?_
  refine lv_i2l (v := (x0.toInt64)) hx hb dX1_isRow_1 rfl ?_
  refine lv_lconst (v := (0 : Int64)) hx hb dX1_isRow_2 (by decide) ?_
  refine lv_ldc2 (v := (3 : Int64)) hx hb hown (hts (.constantLong RX1 92 (3)) (List.mem_of_getElem? (i := 1) rfl)) dX1_isRow_3 ?_
  obtain ⟨o1, ho2, h⟩ := bi h
  refine caPi (As := [.long (x0.toInt64), .long (0 : Int64), .long (3 : Int64)]) (rest := []) ⟨hx, hb, hml, hown, hts⟩ (mX1_isIn l (x0.toInt64) (0 : Int64) (3 : Int64) o1 ho2) (va_cwS 3 hts gX1_isRow_X1_isIn rfl rfl rfl (by decide +kernel) ⟨Nat.le_of_ble_eq_true rfl, Nat.le_of_ble_eq_true rfl⟩) rfl hl.1 (Nat.le_of_ble_eq_true rfl) dX1_isRow_6 ⟨Nat.zero_le _, Nat.zero_le _⟩ ?_
  obtain ⟨g3, h⟩ := gd_t h
  exact reRz (v := o1) hx hb hr hlocks g3 h dX1_isRow_9
abbrev rmX1_into : Room := { frames := 2, cells := 0, slots := 0, locals := 45 }
theorem hinX1_into : ∀ w ∈ u_ws RX1 TX1 17, w ∈ wsX1_into := by first | exact fun _ h => List.mem_cons_of_mem _ (List.mem_append_right _ h) | exact fun _ h => List.mem_cons_of_mem _ (List.mem_append_left _ (List.mem_append_right _ h)) | decide +kernel
def fX1_into (σ : MS)  (x1 : Int32) (x2 : Int64) : Option (Int32 × MS) := (bd (sm_thrown σ (0 : Int32)) fun s1 => ((fX1_isRow x1).bind fun o3 => (if o3 = (0 : Int32) then (some ((-1 : Int32), s1)) else ((fX1_isIn x2 (0 : Int64) (1000000 : Int64)).bind fun o6 => (if o6 = (0 : Int32) then (some ((-1 : Int32), s1)) else (if ix x1 4 = true then (if ((m_many s1) x1.toNatClampNeg) = (8 : Int32) then (some ((-4 : Int32), s1)) else (if ix x1 4 = true then (if ix (((8 : Int32) * x1) + ((m_many s1) x1.toNatClampNeg)) 32 = true then (bd (sm_value s1 (vp_updL (m_value s1) (((8 : Int32) * x1) + ((m_many s1) x1.toNatClampNeg)).toNatClampNeg x2)) fun s13 => (if ix x1 4 = true then (if ix x1 4 = true then (bd (sm_many s13 (upd (m_many s13) x1.toNatClampNeg (((m_many s13) x1.toNatClampNeg) + (1 : Int32)))) fun s17 => (if ix x1 4 = true then (some (((m_many s17) x1.toNatClampNeg), s17)) else none)) else none) else none)) else none) else none)) else none))))))
set_option maxHeartbeats 4000000 in
set_option maxRecDepth 100000 in
theorem mX1_into (l : Launch) (D : va_G) (kc : Nat → ClassId) (q : Nat → Nat) (σ : MS) (x1 : Int32) (x2 : Int64) (out : Int32 × MS) (h : fX1_into σ  x1 x2 = some out) : MMi l yX1_into wsX1_into rmX1_into D (tysX1 kc) (wX1 kc q) σ [.ref (q 0), .int x1, .long x2] out := by
  refine ofMi (cc := cX1_into) (maxL := 4) (ret := (some .int)) (lv := [(0, .ref (q 0)), (1, .int x1), (2, .long x2)]) (by decide) rfl (Nat.le_of_ble_eq_true rfl) rfl ?_
  intro p e s m args below meth c A C hA hK hP hD hS ls hl
  have C : cxt p s m args meth c RX1 cX1_into 4 (some .int) wsX1_into := C
  obtain ⟨hx, hb, hr, hml, hown, hts, hlocks⟩ := id C
  obtain ⟨H, hH⟩ : ∃ H, H = s.heap := ⟨_, rfl⟩
  obtain ⟨locs, hlocs⟩ : ∃ locs : List Loc, locs = [] := ⟨_, rfl⟩
  have hS : va_S A s.heap H locs := by rw [hH, hlocs]; exact va_S.rf
  rw [← hH] at hP
  suffices hW : W p l e rmX1_into s m args below meth c H locs 0 0 _ (F0 m 0 ls []) by rw [hH, hlocs] at hW; exact hW
  unfold fX1_into at h
  refine lv_aload_n hx hb dX1_into_0 rfl (lv_at hl 0 rfl) ?_
  refine lv_iconst (v := (0 : Int32)) hx hb dX1_into_1 (by decide) ?_
  refine wrX1_thrown (v := (0 : Int32)) hx hb hts hinX1_into hown hK hP hD hS (hts (.fieldLink RX1 43 "ExactSharesModel" "thrown" "I") (List.mem_of_getElem? (i := 1) rfl)) dX1_into_2 (fun H locs hP hD hS => ?_)
  obtain ⟨s1, e2, h⟩ := bd_e h
  replace hP : va_P D vwCl (wX1 kc q s1) H := by rw [e2]; exact hP
  replace hD : va_D A (wX1 kc q s1) := by rw [e2]; exact hD
  clear e2
  refine lv_iload_n hx hb dX1_into_5 rfl (lv_at hl 1 rfl) ?_
  obtain ⟨o3, ho4, h⟩ := bi h
  refine caPi (As := [.int x1]) (rest := []) ⟨hx, hb, hml, hown, hts⟩ (mX1_isRow l x1 o3 ho4) (va_cwS 1 hts gX1_into_X1_isRow rfl rfl rfl (by decide +kernel) ⟨Nat.le_of_ble_eq_true rfl, Nat.le_of_ble_eq_true rfl⟩) rfl hl.1 (Nat.le_of_ble_eq_true rfl) dX1_into_6 ⟨Nat.zero_le _, Nat.zero_le _⟩ ?_
  refine lv_if_eq (tgt := 23) hx hb dX1_into_9 (by decide) (fun c5 => ?_) (fun c5 => ?_)
  · replace h := br_p c5 h
    refine lv_iconst (v := (-1 : Int32)) hx hb dX1_into_23 (by decide) ?_
    exact reMi (v := (-1 : Int32)) hx hb hr hlocks hK hP hD hS h dX1_into_24
  · replace h := br_n c5 h
    refine lv_lload_n hx hb dX1_into_12 rfl (lv_at hl 2 rfl) ?_
    refine lv_lconst (v := (0 : Int64)) hx hb dX1_into_13 (by decide) ?_
    refine lv_ldc2 (v := (1000000 : Int64)) hx hb hown (hts (.constantLong RX1 115 (1000000)) (List.mem_of_getElem? (i := 2) rfl)) dX1_into_14 ?_
    obtain ⟨o6, ho7, h⟩ := bi h
    refine caPi (As := [.long x2, .long (0 : Int64), .long (1000000 : Int64)]) (rest := []) ⟨hx, hb, hml, hown, hts⟩ (mX1_isIn l x2 (0 : Int64) (1000000 : Int64) o6 ho7) (va_cwS 3 hts gX1_into_X1_isIn rfl rfl rfl (by decide +kernel) ⟨Nat.le_of_ble_eq_true rfl, Nat.le_of_ble_eq_true rfl⟩) rfl hl.1 (Nat.le_of_ble_eq_true rfl) dX1_into_17 ⟨Nat.zero_le _, Nat.zero_le _⟩ ?_
    refine lv_if_ne (tgt := 25) hx hb dX1_into_20 (by decide) (fun c8 => ?_) (fun c8 => ?_)
    · replace h := br_n c8 h
      refine lv_aload_n hx hb dX1_into_25 rfl (lv_at hl 0 rfl) ?_
      refine rdX1_many hx hb hts hinX1_into hown hK hP (hts (.fieldLink RX1 19 "ExactSharesModel" "many" "[I") (List.mem_of_getElem? (i := 3) rfl)) dX1_into_26 ?_
      refine lv_iload_n hx hb dX1_into_29 rfl (lv_at hl 1 rfl) ?_
      obtain ⟨g9, h⟩ := gd_t h
      refine ldX1_many hx hb hK hP g9 dX1_into_30 ?_
      refine lv_bipush (v := (8 : Int32)) hx hb dX1_into_31 (by decide) ?_
      refine lv_icmp_ne (tgt := 39) hx hb dX1_into_33 (by decide) (fun c10 => ?_) (fun c10 => ?_)
      · replace h := br_n c10 h
        refine lv_aload_n hx hb dX1_into_39 rfl (lv_at hl 0 rfl) ?_
        refine rdX1_value hx hb hts hinX1_into hown hK hP (hts (.fieldLink RX1 16 "ExactSharesModel" "value" "[J") (List.mem_of_getElem? (i := 4) rfl)) dX1_into_40 ?_
        refine lv_bipush (v := (8 : Int32)) hx hb dX1_into_43 (by decide) ?_
        refine lv_iload_n hx hb dX1_into_45 rfl (lv_at hl 1 rfl) ?_
        refine lv_imul hx hb dX1_into_46 ?_
        refine lv_aload_n hx hb dX1_into_47 rfl (lv_at hl 0 rfl) ?_
        refine rdX1_many hx hb hts hinX1_into hown hK hP (hts (.fieldLink RX1 19 "ExactSharesModel" "many" "[I") (List.mem_of_getElem? (i := 3) rfl)) dX1_into_48 ?_
        refine lv_iload_n hx hb dX1_into_51 rfl (lv_at hl 1 rfl) ?_
        obtain ⟨g11, h⟩ := gd_t h
        refine ldX1_many hx hb hK hP g11 dX1_into_52 ?_
        refine lv_iadd hx hb dX1_into_53 ?_
        refine lv_lload_n hx hb dX1_into_54 rfl (lv_at hl 2 rfl) ?_
        obtain ⟨g12, h⟩ := gd_t h
        refine stX1_value (x := x2) hx hb hK hP hD hS g12 dX1_into_55 (fun H locs hP hD hS => ?_)
        obtain ⟨s13, e14, h⟩ := bd_e h
        replace hP : va_P D vwCl (wX1 kc q s13) H := by rw [e14]; exact hP
        replace hD : va_D A (wX1 kc q s13) := by rw [e14]; exact hD
        clear e14
        refine lv_aload_n hx hb dX1_into_56 rfl (lv_at hl 0 rfl) ?_
        refine rdX1_many hx hb hts hinX1_into hown hK hP (hts (.fieldLink RX1 19 "ExactSharesModel" "many" "[I") (List.mem_of_getElem? (i := 3) rfl)) dX1_into_57 ?_
        refine lv_iload_n hx hb dX1_into_60 rfl (lv_at hl 1 rfl) ?_
        refine lv_dup2_11 hx hb dX1_into_61 rfl rfl ?_
        obtain ⟨g15, h⟩ := gd_t h
        refine ldX1_many hx hb hK hP g15 dX1_into_62 ?_
        refine lv_iconst (v := (1 : Int32)) hx hb dX1_into_63 (by decide) ?_
        refine lv_iadd hx hb dX1_into_64 ?_
        obtain ⟨g16, h⟩ := gd_t h
        refine stX1_many (x := (((m_many s13) x1.toNatClampNeg) + (1 : Int32))) hx hb hK hP hD hS g16 dX1_into_65 (fun H locs hP hD hS => ?_)
        obtain ⟨s17, e18, h⟩ := bd_e h
        replace hP : va_P D vwCl (wX1 kc q s17) H := by rw [e18]; exact hP
        replace hD : va_D A (wX1 kc q s17) := by rw [e18]; exact hD
        clear e18
        refine lv_aload_n hx hb dX1_into_66 rfl (lv_at hl 0 rfl) ?_
        refine rdX1_many hx hb hts hinX1_into hown hK hP (hts (.fieldLink RX1 19 "ExactSharesModel" "many" "[I") (List.mem_of_getElem? (i := 3) rfl)) dX1_into_67 ?_
        refine lv_iload_n hx hb dX1_into_70 rfl (lv_at hl 1 rfl) ?_
        obtain ⟨g19, h⟩ := gd_t h
        refine ldX1_many hx hb hK hP g19 dX1_into_71 ?_
        exact reMi (v := ((m_many s17) x1.toNatClampNeg)) hx hb hr hlocks hK hP hD hS h dX1_into_72
      · replace h := br_p c10 h
        refine lv_bipush (v := (-4 : Int32)) hx hb dX1_into_36 (by decide) ?_
        exact reMi (v := (-4 : Int32)) hx hb hr hlocks hK hP hD hS h dX1_into_38
    · replace h := br_p c8 h
      refine lv_iconst (v := (-1 : Int32)) hx hb dX1_into_23 (by decide) ?_
      exact reMi (v := (-1 : Int32)) hx hb hr hlocks hK hP hD hS h dX1_into_24
abbrev rmX1_empty : Room := { frames := 2, cells := 0, slots := 0, locals := 45 }
theorem hinX1_empty : ∀ w ∈ u_ws RX1 TX1 17, w ∈ wsX1_empty := by first | exact fun _ h => List.mem_cons_of_mem _ (List.mem_append_right _ h) | exact fun _ h => List.mem_cons_of_mem _ (List.mem_append_left _ (List.mem_append_right _ h)) | decide +kernel
def fX1_empty (σ : MS)  (x1 : Int32) : Option (Int32 × MS) := (bd (sm_thrown σ (0 : Int32)) fun s1 => ((fX1_isRow x1).bind fun o3 => (if o3 = (0 : Int32) then (some ((-1 : Int32), s1)) else (if ix x1 4 = true then (if ix x1 4 = true then (bd (sm_many s1 (upd (m_many s1) x1.toNatClampNeg (0 : Int32))) fun s8 => (some (((m_many s1) x1.toNatClampNeg), s8))) else none) else none))))
set_option maxHeartbeats 4000000 in
set_option maxRecDepth 100000 in
theorem mX1_empty (l : Launch) (D : va_G) (kc : Nat → ClassId) (q : Nat → Nat) (σ : MS) (x1 : Int32) (out : Int32 × MS) (h : fX1_empty σ  x1 = some out) : MMi l yX1_empty wsX1_empty rmX1_empty D (tysX1 kc) (wX1 kc q) σ [.ref (q 0), .int x1] out := by
  refine ofMi (cc := cX1_empty) (maxL := 3) (ret := (some .int)) (lv := [(0, .ref (q 0)), (1, .int x1)]) (by decide) rfl (Nat.le_of_ble_eq_true rfl) rfl ?_
  intro p e s m args below meth c A C hA hK hP hD hS ls hl
  have C : cxt p s m args meth c RX1 cX1_empty 3 (some .int) wsX1_empty := C
  obtain ⟨hx, hb, hr, hml, hown, hts, hlocks⟩ := id C
  obtain ⟨H, hH⟩ : ∃ H, H = s.heap := ⟨_, rfl⟩
  obtain ⟨locs, hlocs⟩ : ∃ locs : List Loc, locs = [] := ⟨_, rfl⟩
  have hS : va_S A s.heap H locs := by rw [hH, hlocs]; exact va_S.rf
  rw [← hH] at hP
  suffices hW : W p l e rmX1_empty s m args below meth c H locs 0 0 _ (F0 m 0 ls []) by rw [hH, hlocs] at hW; exact hW
  unfold fX1_empty at h
  refine lv_aload_n hx hb dX1_empty_0 rfl (lv_at hl 0 rfl) ?_
  refine lv_iconst (v := (0 : Int32)) hx hb dX1_empty_1 (by decide) ?_
  refine wrX1_thrown (v := (0 : Int32)) hx hb hts hinX1_empty hown hK hP hD hS (hts (.fieldLink RX1 43 "ExactSharesModel" "thrown" "I") (List.mem_of_getElem? (i := 1) rfl)) dX1_empty_2 (fun H locs hP hD hS => ?_)
  obtain ⟨s1, e2, h⟩ := bd_e h
  replace hP : va_P D vwCl (wX1 kc q s1) H := by rw [e2]; exact hP
  replace hD : va_D A (wX1 kc q s1) := by rw [e2]; exact hD
  clear e2
  refine lv_iload_n hx hb dX1_empty_5 rfl (lv_at hl 1 rfl) ?_
  obtain ⟨o3, ho4, h⟩ := bi h
  refine caPi (As := [.int x1]) (rest := []) ⟨hx, hb, hml, hown, hts⟩ (mX1_isRow l x1 o3 ho4) (va_cwS 1 hts gX1_empty_X1_isRow rfl rfl rfl (by decide +kernel) ⟨Nat.le_of_ble_eq_true rfl, Nat.le_of_ble_eq_true rfl⟩) rfl hl.1 (Nat.le_of_ble_eq_true rfl) dX1_empty_6 ⟨Nat.zero_le _, Nat.zero_le _⟩ ?_
  refine lv_if_ne (tgt := 14) hx hb dX1_empty_9 (by decide) (fun c5 => ?_) (fun c5 => ?_)
  · replace h := br_n c5 h
    refine lv_aload_n hx hb dX1_empty_14 rfl (lv_at hl 0 rfl) ?_
    refine rdX1_many hx hb hts hinX1_empty hown hK hP (hts (.fieldLink RX1 19 "ExactSharesModel" "many" "[I") (List.mem_of_getElem? (i := 2) rfl)) dX1_empty_15 ?_
    refine lv_iload_n hx hb dX1_empty_18 rfl (lv_at hl 1 rfl) ?_
    obtain ⟨g6, h⟩ := gd_t h
    refine ldX1_many hx hb hK hP g6 dX1_empty_19 ?_
    refine lv_istore_n (lv' := [(2, .int ((m_many s1) x1.toNatClampNeg)), (0, .ref (q 0)), (1, .int x1)]) hx hb dX1_empty_20 rfl hl (by decide) rfl (fun ls hl => ?_)
    refine lv_aload_n hx hb dX1_empty_21 rfl (lv_at hl 1 rfl) ?_
    refine rdX1_many hx hb hts hinX1_empty hown hK hP (hts (.fieldLink RX1 19 "ExactSharesModel" "many" "[I") (List.mem_of_getElem? (i := 2) rfl)) dX1_empty_22 ?_
    refine lv_iload_n hx hb dX1_empty_25 rfl (lv_at hl 2 rfl) ?_
    refine lv_iconst (v := (0 : Int32)) hx hb dX1_empty_26 (by decide) ?_
    obtain ⟨g7, h⟩ := gd_t h
    refine stX1_many (x := (0 : Int32)) hx hb hK hP hD hS g7 dX1_empty_27 (fun H locs hP hD hS => ?_)
    obtain ⟨s8, e9, h⟩ := bd_e h
    replace hP : va_P D vwCl (wX1 kc q s8) H := by rw [e9]; exact hP
    replace hD : va_D A (wX1 kc q s8) := by rw [e9]; exact hD
    clear e9
    refine lv_iload_n hx hb dX1_empty_28 rfl (lv_at hl 0 rfl) ?_
    exact reMi (v := ((m_many s1) x1.toNatClampNeg)) hx hb hr hlocks hK hP hD hS h dX1_empty_29
  · replace h := br_p c5 h
    refine lv_iconst (v := (-1 : Int32)) hx hb dX1_empty_12 (by decide) ?_
    exact reMi (v := (-1 : Int32)) hx hb hr hlocks hK hP hD hS h dX1_empty_13
abbrev rmX1_at : Room := { frames := 2, cells := 0, slots := 0, locals := 45 }
theorem hinX1_at : ∀ w ∈ u_ws RX1 TX1 17, w ∈ wsX1_at := by first | exact fun _ h => List.mem_cons_of_mem _ (List.mem_append_right _ h) | exact fun _ h => List.mem_cons_of_mem _ (List.mem_append_left _ (List.mem_append_right _ h)) | decide +kernel
def fX1_at (σ : MS)  (x1 : Int32) (x2 : Int32) : Option (Int64 × MS) := (bd (sm_thrown σ (0 : Int32)) fun s1 => ((fX1_isRow x1).bind fun o3 => (if o3 = (0 : Int32) then (some ((-1 : Int64), s1)) else (if ix x1 4 = true then ((fX1_isIn (x2.toInt64) (0 : Int64) ((((m_many s1) x1.toNatClampNeg) - (1 : Int32)).toInt64)).bind fun o7 => (if o7 = (0 : Int32) then (some ((-1 : Int64), s1)) else (if ix (((8 : Int32) * x1) + x2) 32 = true then (some (((m_value s1) (((8 : Int32) * x1) + x2).toNatClampNeg), s1)) else none))) else none))))
set_option maxHeartbeats 4000000 in
set_option maxRecDepth 100000 in
theorem mX1_at (l : Launch) (D : va_G) (kc : Nat → ClassId) (q : Nat → Nat) (σ : MS) (x1 : Int32) (x2 : Int32) (out : Int64 × MS) (h : fX1_at σ  x1 x2 = some out) : MMl l yX1_at wsX1_at rmX1_at D (tysX1 kc) (wX1 kc q) σ [.ref (q 0), .int x1, .int x2] out := by
  refine ofMl (cc := cX1_at) (maxL := 3) (ret := (some .long)) (lv := [(0, .ref (q 0)), (1, .int x1), (2, .int x2)]) (by decide) rfl (Nat.le_of_ble_eq_true rfl) rfl ?_
  intro p e s m args below meth c A C hA hK hP hD hS ls hl
  have C : cxt p s m args meth c RX1 cX1_at 3 (some .long) wsX1_at := C
  obtain ⟨hx, hb, hr, hml, hown, hts, hlocks⟩ := id C
  obtain ⟨H, hH⟩ : ∃ H, H = s.heap := ⟨_, rfl⟩
  obtain ⟨locs, hlocs⟩ : ∃ locs : List Loc, locs = [] := ⟨_, rfl⟩
  have hS : va_S A s.heap H locs := by rw [hH, hlocs]; exact va_S.rf
  rw [← hH] at hP
  suffices hW : W p l e rmX1_at s m args below meth c H locs 0 0 _ (F0 m 0 ls []) by rw [hH, hlocs] at hW; exact hW
  unfold fX1_at at h
  refine lv_aload_n hx hb dX1_at_0 rfl (lv_at hl 0 rfl) ?_
  refine lv_iconst (v := (0 : Int32)) hx hb dX1_at_1 (by decide) ?_
  refine wrX1_thrown (v := (0 : Int32)) hx hb hts hinX1_at hown hK hP hD hS (hts (.fieldLink RX1 43 "ExactSharesModel" "thrown" "I") (List.mem_of_getElem? (i := 1) rfl)) dX1_at_2 (fun H locs hP hD hS => ?_)
  obtain ⟨s1, e2, h⟩ := bd_e h
  replace hP : va_P D vwCl (wX1 kc q s1) H := by rw [e2]; exact hP
  replace hD : va_D A (wX1 kc q s1) := by rw [e2]; exact hD
  clear e2
  refine lv_iload_n hx hb dX1_at_5 rfl (lv_at hl 1 rfl) ?_
  obtain ⟨o3, ho4, h⟩ := bi h
  refine caPi (As := [.int x1]) (rest := []) ⟨hx, hb, hml, hown, hts⟩ (mX1_isRow l x1 o3 ho4) (va_cwS 1 hts gX1_at_X1_isRow rfl rfl rfl (by decide +kernel) ⟨Nat.le_of_ble_eq_true rfl, Nat.le_of_ble_eq_true rfl⟩) rfl hl.1 (Nat.le_of_ble_eq_true rfl) dX1_at_6 ⟨Nat.zero_le _, Nat.zero_le _⟩ ?_
  refine lv_if_eq (tgt := 44) hx hb dX1_at_9 (by decide) (fun c5 => ?_) (fun c5 => ?_)
  · replace h := br_p c5 h
    refine lv_ldc2 (v := (-1 : Int64)) hx hb hown (hts (.constantLong RX1 67 (-1)) (List.mem_of_getElem? (i := 4) rfl)) dX1_at_44 ?_
    exact reMl (v := (-1 : Int64)) hx hb hr hlocks hK hP hD hS h dX1_at_47
  · replace h := br_n c5 h
    refine lv_iload_n hx hb dX1_at_12 rfl (lv_at hl 2 rfl) ?_
    refine lv_i2l (v := (x2.toInt64)) hx hb dX1_at_13 rfl ?_
    refine lv_lconst (v := (0 : Int64)) hx hb dX1_at_14 (by decide) ?_
    refine lv_aload_n hx hb dX1_at_15 rfl (lv_at hl 0 rfl) ?_
    refine rdX1_many hx hb hts hinX1_at hown hK hP (hts (.fieldLink RX1 19 "ExactSharesModel" "many" "[I") (List.mem_of_getElem? (i := 2) rfl)) dX1_at_16 ?_
    refine lv_iload_n hx hb dX1_at_19 rfl (lv_at hl 1 rfl) ?_
    obtain ⟨g6, h⟩ := gd_t h
    refine ldX1_many hx hb hK hP g6 dX1_at_20 ?_
    refine lv_iconst (v := (1 : Int32)) hx hb dX1_at_21 (by decide) ?_
    refine lv_isub hx hb dX1_at_22 ?_
    refine lv_i2l (v := ((((m_many s1) x1.toNatClampNeg) - (1 : Int32)).toInt64)) hx hb dX1_at_23 rfl ?_
    obtain ⟨o7, ho8, h⟩ := bi h
    refine caPi (As := [.long (x2.toInt64), .long (0 : Int64), .long ((((m_many s1) x1.toNatClampNeg) - (1 : Int32)).toInt64)]) (rest := []) ⟨hx, hb, hml, hown, hts⟩ (mX1_isIn l (x2.toInt64) (0 : Int64) ((((m_many s1) x1.toNatClampNeg) - (1 : Int32)).toInt64) o7 ho8) (va_cwS 3 hts gX1_at_X1_isIn rfl rfl rfl (by decide +kernel) ⟨Nat.le_of_ble_eq_true rfl, Nat.le_of_ble_eq_true rfl⟩) rfl hl.1 (Nat.le_of_ble_eq_true rfl) dX1_at_24 ⟨Nat.zero_le _, Nat.zero_le _⟩ ?_
    refine lv_if_eq (tgt := 44) hx hb dX1_at_27 (by decide) (fun c9 => ?_) (fun c9 => ?_)
    · replace h := br_p c9 h
      refine lv_ldc2 (v := (-1 : Int64)) hx hb hown (hts (.constantLong RX1 67 (-1)) (List.mem_of_getElem? (i := 4) rfl)) dX1_at_44 ?_
      exact reMl (v := (-1 : Int64)) hx hb hr hlocks hK hP hD hS h dX1_at_47
    · replace h := br_n c9 h
      refine lv_aload_n hx hb dX1_at_30 rfl (lv_at hl 0 rfl) ?_
      refine rdX1_value hx hb hts hinX1_at hown hK hP (hts (.fieldLink RX1 16 "ExactSharesModel" "value" "[J") (List.mem_of_getElem? (i := 3) rfl)) dX1_at_31 ?_
      refine lv_bipush (v := (8 : Int32)) hx hb dX1_at_34 (by decide) ?_
      refine lv_iload_n hx hb dX1_at_36 rfl (lv_at hl 1 rfl) ?_
      refine lv_imul hx hb dX1_at_37 ?_
      refine lv_iload_n hx hb dX1_at_38 rfl (lv_at hl 2 rfl) ?_
      refine lv_iadd hx hb dX1_at_39 ?_
      obtain ⟨g10, h⟩ := gd_t h
      refine ldX1_value hx hb hK hP g10 dX1_at_40 ?_
      refine lv_goto (tgt := 47) hx hb dX1_at_41 (by decide) ?_
      exact reMl (v := ((m_value s1) (((8 : Int32) * x1) + x2).toNatClampNeg)) hx hb hr hlocks hK hP hD hS h dX1_at_47
abbrev rmX1_sumOf : Room := { frames := 0, cells := 0, slots := 0, locals := 0 }
theorem hinX1_sumOf : ∀ w ∈ u_ws RX1 TX1 17, w ∈ wsX1_sumOf := by first | exact fun _ h => List.mem_cons_of_mem _ (List.mem_append_right _ h) | exact fun _ h => List.mem_cons_of_mem _ (List.mem_append_left _ (List.mem_append_right _ h)) | decide +kernel
def fX1_sumOf_B5 (σ : MS)   (k5 : Int32 × Int64 × Int32 → Option (Int64)) (x1 : Int32) (x2 : Int64) (x4 : Int32) : Option (Int64) := (if ix x1 4 = true then (if ((m_many σ) x1.toNatClampNeg) ≤ x4 then (some x2) else (if ix (((8 : Int32) * x1) + x4) 32 = true then (k5 (x1, (x2 + ((m_value σ) (((8 : Int32) * x1) + x4).toNatClampNeg)), (x4 + (1 : Int32)))) else none)) else none)
def fX1_sumOf_L5 (σ : MS)   (x1 : Int32) (x2 : Int64) (x4 : Int32) : Option (Int64) := lp (fun k t => fX1_sumOf_B5 σ   k t.1 t.2.1 t.2.2) FU (x1, x2, x4)
set_option maxHeartbeats 4000000 in
set_option maxRecDepth 100000 in
theorem wX1_sumOf_B5 {p : Program} {l : Launch} {e : Env} {s : State} {m : MethodId} {args : Array Value} {below : List Frame} {meth : Method} {c : Code} {D : va_G} {kc : Nat → ClassId} {q : Nat → Nat} {out : Int64} (C : cxt p s m args meth c RX1 cX1_sumOf 5 (some .long) wsX1_sumOf) (hK : va_K D vwCl (tysX1 kc) s) {σ : MS} (k5 : Int32 × Int64 × Int32 → Option (Int64)) (hk5 : ∀ (x1 : Int32) (x2 : Int64) (x4 : Int32) (ls : Array Slot), k5 (x1, x2, x4) = some out → lv_has ls 5 [(0, .ref (q 0)), (1, .int x1), (2, .long x2), (4, .int x4)] → W p l e rmX1_sumOf s m args below meth c s.heap [] 0 0 (MQ below (QRl out) args s 0 0 (fun _ => False)) (F0 m 5 ls [])) (x1 : Int32) (x2 : Int64) (x4 : Int32) (ls : Array Slot) (h : fX1_sumOf_B5 σ   k5 x1 x2 x4 = some out) (hP : va_P D vwCl (wX1 kc q σ) s.heap) (hl : lv_has ls 5 [(0, .ref (q 0)), (1, .int x1), (2, .long x2), (4, .int x4)]) : W p l e rmX1_sumOf s m args below meth c s.heap [] 0 0 (MQ below (QRl out) args s 0 0 (fun _ => False)) (F0 m 5 ls []) := by
  obtain ⟨hx, hb, hr, hml, hown, hts, hlocks⟩ := id C
  unfold fX1_sumOf_B5 at h
  refine lv_iload hx hb dX1_sumOf_5 (lv_at hl 3 rfl) ?_
  refine lv_aload_n hx hb dX1_sumOf_7 rfl (lv_at hl 0 rfl) ?_
  refine rdX1_many hx hb hts hinX1_sumOf hown hK hP (hts (.fieldLink RX1 19 "ExactSharesModel" "many" "[I") (List.mem_of_getElem? (i := 1) rfl)) dX1_sumOf_8 ?_
  refine lv_iload_n hx hb dX1_sumOf_11 rfl (lv_at hl 1 rfl) ?_
  obtain ⟨g1, h⟩ := gd_t h
  refine ldX1_many hx hb hK hP g1 dX1_sumOf_12 ?_
  refine lv_icmp_ge (tgt := 37) hx hb dX1_sumOf_13 (by decide) (fun c2 => ?_) (fun c2 => ?_)
  · replace h := br_p c2 h
    refine lv_lload_n hx hb dX1_sumOf_37 rfl (lv_at hl 2 rfl) ?_
    exact reRl (v := x2) hx hb hr hlocks h dX1_sumOf_38
  · replace h := br_n c2 h
    refine lv_lload_n hx hb dX1_sumOf_16 rfl (lv_at hl 2 rfl) ?_
    refine lv_aload_n hx hb dX1_sumOf_17 rfl (lv_at hl 0 rfl) ?_
    refine rdX1_value hx hb hts hinX1_sumOf hown hK hP (hts (.fieldLink RX1 16 "ExactSharesModel" "value" "[J") (List.mem_of_getElem? (i := 2) rfl)) dX1_sumOf_18 ?_
    refine lv_bipush (v := (8 : Int32)) hx hb dX1_sumOf_21 (by decide) ?_
    refine lv_iload_n hx hb dX1_sumOf_23 rfl (lv_at hl 1 rfl) ?_
    refine lv_imul hx hb dX1_sumOf_24 ?_
    refine lv_iload hx hb dX1_sumOf_25 (lv_at hl 3 rfl) ?_
    refine lv_iadd hx hb dX1_sumOf_27 ?_
    obtain ⟨g3, h⟩ := gd_t h
    refine ldX1_value hx hb hK hP g3 dX1_sumOf_28 ?_
    refine lv_ladd hx hb dX1_sumOf_29 ?_
    refine lv_lstore_n (lv' := [(2, .long (x2 + ((m_value σ) (((8 : Int32) * x1) + x4).toNatClampNeg))), (0, .ref (q 0)), (1, .int x1), (4, .int x4)]) hx hb dX1_sumOf_30 rfl hl (by decide) rfl (fun ls hl => ?_)
    refine lv_iinc (v := (x4 + (1 : Int32))) (lv' := [(4, .int (x4 + (1 : Int32))), (2, .long (x2 + ((m_value σ) (((8 : Int32) * x1) + x4).toNatClampNeg))), (0, .ref (q 0)), (1, .int x1)]) hx hb dX1_sumOf_31 hl (k := 3) rfl rfl (by decide) rfl (fun ls hl => ?_)
    refine lv_goto (tgt := 5) hx hb dX1_sumOf_34 (by decide) ?_
    exact hk5 x1 (x2 + ((m_value σ) (((8 : Int32) * x1) + x4).toNatClampNeg)) (x4 + (1 : Int32)) ls h (lv_sub hl [2, 3, 1, 0] rfl)
set_option maxHeartbeats 4000000 in
set_option maxRecDepth 100000 in
theorem wX1_sumOf_L5 {p : Program} {l : Launch} {e : Env} {s : State} {m : MethodId} {args : Array Value} {below : List Frame} {meth : Method} {c : Code} {D : va_G} {kc : Nat → ClassId} {q : Nat → Nat} {out : Int64} (C : cxt p s m args meth c RX1 cX1_sumOf 5 (some .long) wsX1_sumOf) (hK : va_K D vwCl (tysX1 kc) s) {σ : MS} (x1 : Int32) (x2 : Int64) (x4 : Int32) (ls : Array Slot) (h : fX1_sumOf_L5 σ   x1 x2 x4 = some out) (hP : va_P D vwCl (wX1 kc q σ) s.heap) (hl : lv_has ls 5 [(0, .ref (q 0)), (1, .int x1), (2, .long x2), (4, .int x4)]) : W p l e rmX1_sumOf s m args below meth c s.heap [] 0 0 (MQ below (QRl out) args s 0 0 (fun _ => False)) (F0 m 5 ls []) := by
  unfold fX1_sumOf_L5 at h
  exact lp_ind (P := fun t : Int32 × Int64 × Int32 => ∀ ls : Array Slot, lv_has ls 5 [(0, .ref (q 0)), (1, .int t.1), (2, .long t.2.1), (4, .int t.2.2)] → W p l e rmX1_sumOf s m args below meth c s.heap [] 0 0 (MQ below (QRl out) args s 0 0 (fun _ => False)) (F0 m 5 ls [])) (fun k hk t h ls hl => wX1_sumOf_B5 C hK  k (fun x1 x2 x4 ls h hl => hk (x1, x2, x4) h ls hl) t.1 t.2.1 t.2.2 ls h hP hl) FU (x1, x2, x4) h ls hl
def fX1_sumOf (σ : MS)  (x1 : Int32) : Option (Int64) := (fX1_sumOf_L5 σ x1 (0 : Int64) (0 : Int32))
set_option maxHeartbeats 4000000 in
set_option maxRecDepth 100000 in
theorem mX1_sumOf (l : Launch) (D : va_G) (kc : Nat → ClassId) (q : Nat → Nat) (σ : MS) (x1 : Int32) (out : Int64) (h : fX1_sumOf σ  x1 = some out) : MRl l yX1_sumOf wsX1_sumOf rmX1_sumOf D (tysX1 kc) (wX1 kc q σ) [.ref (q 0), .int x1] out := by
  refine ofRl (cc := cX1_sumOf) (maxL := 5) (ret := (some .long)) (lv := [(0, .ref (q 0)), (1, .int x1)]) (by decide) rfl (Nat.le_of_ble_eq_true rfl) rfl ?_
  intro p e s m args below meth c C hK hP ls hl
  have C : cxt p s m args meth c RX1 cX1_sumOf 5 (some .long) wsX1_sumOf := C
  obtain ⟨hx, hb, hr, hml, hown, hts, hlocks⟩ := id C
  unfold fX1_sumOf at h
  refine lv_lconst (v := (0 : Int64)) hx hb dX1_sumOf_0 (by decide) ?_
  refine lv_lstore_n (lv' := [(2, .long (0 : Int64)), (0, .ref (q 0)), (1, .int x1)]) hx hb dX1_sumOf_1 rfl hl (by decide) rfl (fun ls hl => ?_)
  refine lv_iconst (v := (0 : Int32)) hx hb dX1_sumOf_2 (by decide) ?_
  refine lv_istore (lv' := [(4, .int (0 : Int32)), (2, .long (0 : Int64)), (0, .ref (q 0)), (1, .int x1)]) hx hb dX1_sumOf_3 hl (by decide) rfl (fun ls hl => ?_)
  exact wX1_sumOf_L5 C hK  x1 (0 : Int64) (0 : Int32) ls h hP (lv_sub hl [2, 3, 1, 0] rfl)
abbrev rmX1_share : Room := { frames := 3, cells := 0, slots := 0, locals := 78 }
theorem hinX1_share : ∀ w ∈ u_ws RX1 TX1 17, w ∈ wsX1_share := by first | exact fun _ h => List.mem_cons_of_mem _ (List.mem_append_right _ h) | exact fun _ h => List.mem_cons_of_mem _ (List.mem_append_left _ (List.mem_append_right _ h)) | decide +kernel
def fX1_share (σ : MS)  (x1 : Int32) (x2 : Int32) : Option (Int32 × MS) := (bd (sm_thrown σ (0 : Int32)) fun s1 => ((fX1_isRow x1).bind fun o3 => (if o3 = (0 : Int32) then (some ((-1 : Int32), s1)) else (if ix x1 4 = true then ((fX1_isIn (x2.toInt64) (0 : Int64) ((((m_many s1) x1.toNatClampNeg) - (1 : Int32)).toInt64)).bind fun o7 => (if o7 = (0 : Int32) then (some ((-1 : Int32), s1)) else (if (m_numbers s1) = (40 : Int32) then (some ((-4 : Int32), s1)) else ((fX1_sumOf s1 x1).bind fun o11 => (if o11 = (0 : Int64) then (bd (sm_thrown s1 (1 : Int32)) fun s17 => (some ((0 : Int32), s17))) else (if ix (((8 : Int32) * x1) + x2) 32 = true then ((fX1_kept s1 ((m_value s1) (((8 : Int32) * x1) + x2).toNatClampNeg) o11).bind fun o15 => (some (o15.1, o15.2))) else none)))))) else none))))
set_option maxHeartbeats 4000000 in
set_option maxRecDepth 100000 in
theorem mX1_share (l : Launch) (D : va_G) (kc : Nat → ClassId) (q : Nat → Nat) (σ : MS) (x1 : Int32) (x2 : Int32) (out : Int32 × MS) (h : fX1_share σ  x1 x2 = some out) : MMi l yX1_share wsX1_share rmX1_share D (tysX1 kc) (wX1 kc q) σ [.ref (q 0), .int x1, .int x2] out := by
  refine ofMi (cc := cX1_share) (maxL := 5) (ret := (some .int)) (lv := [(0, .ref (q 0)), (1, .int x1), (2, .int x2)]) (by decide) rfl (Nat.le_of_ble_eq_true rfl) rfl ?_
  intro p e s m args below meth c A C hA hK hP hD hS ls hl
  have C : cxt p s m args meth c RX1 cX1_share 5 (some .int) wsX1_share := C
  obtain ⟨hx, hb, hr, hml, hown, hts, hlocks⟩ := id C
  obtain ⟨H, hH⟩ : ∃ H, H = s.heap := ⟨_, rfl⟩
  obtain ⟨locs, hlocs⟩ : ∃ locs : List Loc, locs = [] := ⟨_, rfl⟩
  have hS : va_S A s.heap H locs := by rw [hH, hlocs]; exact va_S.rf
  rw [← hH] at hP
  suffices hW : W p l e rmX1_share s m args below meth c H locs 0 0 _ (F0 m 0 ls []) by rw [hH, hlocs] at hW; exact hW
  unfold fX1_share at h
  refine lv_aload_n hx hb dX1_share_0 rfl (lv_at hl 0 rfl) ?_
  refine lv_iconst (v := (0 : Int32)) hx hb dX1_share_1 (by decide) ?_
  refine wrX1_thrown (v := (0 : Int32)) hx hb hts hinX1_share hown hK hP hD hS (hts (.fieldLink RX1 43 "ExactSharesModel" "thrown" "I") (List.mem_of_getElem? (i := 1) rfl)) dX1_share_2 (fun H locs hP hD hS => ?_)
  obtain ⟨s1, e2, h⟩ := bd_e h
  replace hP : va_P D vwCl (wX1 kc q s1) H := by rw [e2]; exact hP
  replace hD : va_D A (wX1 kc q s1) := by rw [e2]; exact hD
  clear e2
  refine lv_iload_n hx hb dX1_share_5 rfl (lv_at hl 1 rfl) ?_
  obtain ⟨o3, ho4, h⟩ := bi h
  refine caPi (As := [.int x1]) (rest := []) ⟨hx, hb, hml, hown, hts⟩ (mX1_isRow l x1 o3 ho4) (va_cwS 1 hts gX1_share_X1_isRow rfl rfl rfl (by decide +kernel) ⟨Nat.le_of_ble_eq_true rfl, Nat.le_of_ble_eq_true rfl⟩) rfl hl.1 (Nat.le_of_ble_eq_true rfl) dX1_share_6 ⟨Nat.zero_le _, Nat.zero_le _⟩ ?_
  refine lv_if_eq (tgt := 30) hx hb dX1_share_9 (by decide) (fun c5 => ?_) (fun c5 => ?_)
  · replace h := br_p c5 h
    refine lv_iconst (v := (-1 : Int32)) hx hb dX1_share_30 (by decide) ?_
    exact reMi (v := (-1 : Int32)) hx hb hr hlocks hK hP hD hS h dX1_share_31
  · replace h := br_n c5 h
    refine lv_iload_n hx hb dX1_share_12 rfl (lv_at hl 2 rfl) ?_
    refine lv_i2l (v := (x2.toInt64)) hx hb dX1_share_13 rfl ?_
    refine lv_lconst (v := (0 : Int64)) hx hb dX1_share_14 (by decide) ?_
    refine lv_aload_n hx hb dX1_share_15 rfl (lv_at hl 0 rfl) ?_
    refine rdX1_many hx hb hts hinX1_share hown hK hP (hts (.fieldLink RX1 19 "ExactSharesModel" "many" "[I") (List.mem_of_getElem? (i := 2) rfl)) dX1_share_16 ?_
    refine lv_iload_n hx hb dX1_share_19 rfl (lv_at hl 1 rfl) ?_
    obtain ⟨g6, h⟩ := gd_t h
    refine ldX1_many hx hb hK hP g6 dX1_share_20 ?_
    refine lv_iconst (v := (1 : Int32)) hx hb dX1_share_21 (by decide) ?_
    refine lv_isub hx hb dX1_share_22 ?_
    refine lv_i2l (v := ((((m_many s1) x1.toNatClampNeg) - (1 : Int32)).toInt64)) hx hb dX1_share_23 rfl ?_
    obtain ⟨o7, ho8, h⟩ := bi h
    refine caPi (As := [.long (x2.toInt64), .long (0 : Int64), .long ((((m_many s1) x1.toNatClampNeg) - (1 : Int32)).toInt64)]) (rest := []) ⟨hx, hb, hml, hown, hts⟩ (mX1_isIn l (x2.toInt64) (0 : Int64) ((((m_many s1) x1.toNatClampNeg) - (1 : Int32)).toInt64) o7 ho8) (va_cwS 3 hts gX1_share_X1_isIn rfl rfl rfl (by decide +kernel) ⟨Nat.le_of_ble_eq_true rfl, Nat.le_of_ble_eq_true rfl⟩) rfl hl.1 (Nat.le_of_ble_eq_true rfl) dX1_share_24 ⟨Nat.zero_le _, Nat.zero_le _⟩ ?_
    refine lv_if_ne (tgt := 32) hx hb dX1_share_27 (by decide) (fun c9 => ?_) (fun c9 => ?_)
    · replace h := br_n c9 h
      refine lv_aload_n hx hb dX1_share_32 rfl (lv_at hl 0 rfl) ?_
      refine rdX1_numbers hx hb hts hinX1_share hown hK hP (hts (.fieldLink RX1 56 "ExactSharesModel" "numbers" "I") (List.mem_of_getElem? (i := 3) rfl)) dX1_share_33 ?_
      refine lv_bipush (v := (40 : Int32)) hx hb dX1_share_36 (by decide) ?_
      refine lv_icmp_ne (tgt := 44) hx hb dX1_share_38 (by decide) (fun c10 => ?_) (fun c10 => ?_)
      · replace h := br_n c10 h
        refine lv_aload_n hx hb dX1_share_44 rfl (lv_at hl 0 rfl) ?_
        refine lv_iload_n hx hb dX1_share_45 rfl (lv_at hl 1 rfl) ?_
        obtain ⟨o11, ho12, h⟩ := bi h
        refine caRl (q0 := 0) (As := [.int x1]) (rest := []) ⟨hx, hb, hml, hown, hts⟩ (mX1_sumOf l D kc q s1 x1 o11 ho12) (cwV 1 hts gX1_share_X1_sumOf rfl rfl rfl (by decide +kernel) ⟨Nat.le_of_ble_eq_true rfl, Nat.le_of_ble_eq_true rfl⟩) hK hP rfl rfl rfl rfl hl.1 (Nat.le_of_ble_eq_true rfl) dX1_share_46 ⟨Nat.zero_le _, Nat.zero_le _⟩ ?_
        refine lv_lstore_n (lv' := [(3, .long o11), (0, .ref (q 0)), (1, .int x1), (2, .int x2)]) hx hb dX1_share_49 rfl hl (by decide) rfl (fun ls hl => ?_)
        refine lv_lload_n hx hb dX1_share_50 rfl (lv_at hl 0 rfl) ?_
        refine lv_lconst (v := (0 : Int64)) hx hb dX1_share_51 (by decide) ?_
        refine xl_ne (tgt := 63) hx hb dX1_share_52 dX1_share_53 (by decide) (fun c13 => ?_) (fun c13 => ?_)
        · replace h := br_n c13 h
          refine lv_aload_n hx hb dX1_share_63 rfl (lv_at hl 1 rfl) ?_
          refine lv_aload_n hx hb dX1_share_64 rfl (lv_at hl 1 rfl) ?_
          refine rdX1_value hx hb hts hinX1_share hown hK hP (hts (.fieldLink RX1 16 "ExactSharesModel" "value" "[J") (List.mem_of_getElem? (i := 4) rfl)) dX1_share_65 ?_
          refine lv_bipush (v := (8 : Int32)) hx hb dX1_share_68 (by decide) ?_
          refine lv_iload_n hx hb dX1_share_70 rfl (lv_at hl 2 rfl) ?_
          refine lv_imul hx hb dX1_share_71 ?_
          refine lv_iload_n hx hb dX1_share_72 rfl (lv_at hl 3 rfl) ?_
          refine lv_iadd hx hb dX1_share_73 ?_
          obtain ⟨g14, h⟩ := gd_t h
          refine ldX1_value hx hb hK hP g14 dX1_share_74 ?_
          refine lv_lload_n hx hb dX1_share_75 rfl (lv_at hl 0 rfl) ?_
          obtain ⟨o15, ho16, h⟩ := bi h
          refine caMi (q0 := 0) (As := [.long ((m_value s1) (((8 : Int32) * x1) + x2).toNatClampNeg), .long o11]) (rest := []) ⟨hx, hb, hml, hown, hts⟩ (mX1_kept l D kc q s1 ((m_value s1) (((8 : Int32) * x1) + x2).toNatClampNeg) o11 o15 ho16) (cwV 2 hts gX1_share_X1_kept rfl rfl rfl (by decide +kernel) ⟨Nat.le_of_ble_eq_true rfl, Nat.le_of_ble_eq_true rfl⟩) hK hP hD hS hA rfl rfl rfl rfl hl.1 (Nat.le_of_ble_eq_true rfl) dX1_share_76 ⟨Nat.zero_le _, Nat.zero_le _⟩ (fun H locs hP hD hS => ?_)
          exact reMi (v := o15.1) hx hb hr hlocks hK hP hD hS h dX1_share_79
        · replace h := br_p c13 h
          refine lv_aload_n hx hb dX1_share_56 rfl (lv_at hl 1 rfl) ?_
          refine lv_iconst (v := (1 : Int32)) hx hb dX1_share_57 (by decide) ?_
          refine wrX1_thrown (v := (1 : Int32)) hx hb hts hinX1_share hown hK hP hD hS (hts (.fieldLink RX1 43 "ExactSharesModel" "thrown" "I") (List.mem_of_getElem? (i := 1) rfl)) dX1_share_58 (fun H locs hP hD hS => ?_)
          obtain ⟨s17, e18, h⟩ := bd_e h
          replace hP : va_P D vwCl (wX1 kc q s17) H := by rw [e18]; exact hP
          replace hD : va_D A (wX1 kc q s17) := by rw [e18]; exact hD
          clear e18
          refine lv_iconst (v := (0 : Int32)) hx hb dX1_share_61 (by decide) ?_
          exact reMi (v := (0 : Int32)) hx hb hr hlocks hK hP hD hS h dX1_share_62
      · replace h := br_p c10 h
        refine lv_bipush (v := (-4 : Int32)) hx hb dX1_share_41 (by decide) ?_
        exact reMi (v := (-4 : Int32)) hx hb hr hlocks hK hP hD hS h dX1_share_43
    · replace h := br_p c9 h
      refine lv_iconst (v := (-1 : Int32)) hx hb dX1_share_30 (by decide) ?_
      exact reMi (v := (-1 : Int32)) hx hb hr hlocks hK hP hD hS h dX1_share_31
abbrev rmX1_seats : Room := { frames := 2, cells := 0, slots := 0, locals := 45 }
theorem hinX1_seats : ∀ w ∈ u_ws RX1 TX1 17, w ∈ wsX1_seats := by first | exact fun _ h => List.mem_cons_of_mem _ (List.mem_append_right _ h) | exact fun _ h => List.mem_cons_of_mem _ (List.mem_append_left _ (List.mem_append_right _ h)) | decide +kernel
def fX1_seats_L403 (σ : MS)  (k377 : Int32 × Int32 × MS → Option (Int32 × MS)) (x8 : Int32) (y0 : Int32) (y1 : Int32) : Option (Int32 × MS) := (k377 ((y1 + y0), (x8 + (1 : Int32)), σ))
set_option maxHeartbeats 4000000 in
set_option maxRecDepth 100000 in
theorem wX1_seats_L403 {p : Program} {l : Launch} {e : Env} {s : State} {m : MethodId} {args : Array Value} {below : List Frame} {meth : Method} {c : Code} {A : Nat → Prop} {D : va_G} {kc : Nat → ClassId} {q : Nat → Nat} {out : Int32 × MS} (C : cxt p s m args meth c RX1 cX1_seats 14 (some .int) wsX1_seats) (hA : ∀ x, s.heap.size ≤ x → A x) (hK : va_K D vwCl (tysX1 kc) s) (k377 : Int32 × Int32 × MS → Option (Int32 × MS)) (hk377 : ∀ (x7 : Int32) (x8 : Int32) (σ : MS) (H : Heap) (locs : List Loc) (ls : Array Slot), k377 (x7, x8, σ) = some out → va_P D vwCl (wX1 kc q σ) H → va_D A (wX1 kc q σ) → va_S A s.heap H locs → lv_has ls 14 [(0, .ref (q 0)), (7, .int x7), (8, .int x8)] → W p l e rmX1_seats s m args below meth c H locs 0 0 (MQ below (QMi D (tysX1 kc) (wX1 kc q) A out) args s 0 0 A) (F0 m 377 ls [])) (σ : MS) (x8 : Int32) (y0 : Int32) (y1 : Int32) (H : Heap) (locs : List Loc) (ls : Array Slot) (h : fX1_seats_L403 σ  k377 x8 y0 y1 = some out) (hP : va_P D vwCl (wX1 kc q σ) H) (hD : va_D A (wX1 kc q σ)) (hS : va_S A s.heap H locs) (hl : lv_has ls 14 [(0, .ref (q 0)), (8, .int x8)]) : W p l e rmX1_seats s m args below meth c H locs 0 0 (MQ below (QMi D (tysX1 kc) (wX1 kc q) A out) args s 0 0 A) (F0 m 403 ls [.int y0, .int y1]) := by
  obtain ⟨hx, hb, hr, hml, hown, hts, hlocks⟩ := id C
  unfold fX1_seats_L403 at h
  refine lv_iadd hx hb dX1_seats_403 ?_
  refine lv_istore (lv' := [(7, .int (y1 + y0)), (0, .ref (q 0)), (8, .int x8)]) hx hb dX1_seats_404 hl (by decide) rfl (fun ls hl => ?_)
  refine lv_iinc (v := (x8 + (1 : Int32))) (lv' := [(8, .int (x8 + (1 : Int32))), (7, .int (y1 + y0)), (0, .ref (q 0))]) hx hb dX1_seats_406 hl (k := 2) rfl rfl (by decide) rfl (fun ls hl => ?_)
  refine lv_goto (tgt := 377) hx hb dX1_seats_409 (by decide) ?_
  exact hk377 (y1 + y0) (x8 + (1 : Int32)) σ H locs ls h hP hD hS (lv_sub hl [2, 1, 0] rfl)
def fX1_seats_B377 (σ : MS)   (k377 : Int32 × Int32 × MS → Option (Int32 × MS)) (x7 : Int32) (x8 : Int32) : Option (Int32 × MS) := (if (m_seated σ) ≤ x8 then (some (x7, σ)) else (if ix x8 8 = true then (if ((m_seat σ) x8.toNatClampNeg) ≤ (0 : Int32) then (fX1_seats_L403 σ k377 x8 (0 : Int32) x7) else (fX1_seats_L403 σ k377 x8 (1 : Int32) x7)) else none))
def fX1_seats_L377 (σ : MS)   (x7 : Int32) (x8 : Int32) : Option (Int32 × MS) := lp (fun k t => fX1_seats_B377 t.2.2   k t.1 t.2.1) FU (x7, x8, σ)
set_option maxHeartbeats 4000000 in
set_option maxRecDepth 100000 in
theorem wX1_seats_B377 {p : Program} {l : Launch} {e : Env} {s : State} {m : MethodId} {args : Array Value} {below : List Frame} {meth : Method} {c : Code} {A : Nat → Prop} {D : va_G} {kc : Nat → ClassId} {q : Nat → Nat} {out : Int32 × MS} (C : cxt p s m args meth c RX1 cX1_seats 14 (some .int) wsX1_seats) (hA : ∀ x, s.heap.size ≤ x → A x) (hK : va_K D vwCl (tysX1 kc) s) (k377 : Int32 × Int32 × MS → Option (Int32 × MS)) (hk377 : ∀ (x7 : Int32) (x8 : Int32) (σ : MS) (H : Heap) (locs : List Loc) (ls : Array Slot), k377 (x7, x8, σ) = some out → va_P D vwCl (wX1 kc q σ) H → va_D A (wX1 kc q σ) → va_S A s.heap H locs → lv_has ls 14 [(0, .ref (q 0)), (7, .int x7), (8, .int x8)] → W p l e rmX1_seats s m args below meth c H locs 0 0 (MQ below (QMi D (tysX1 kc) (wX1 kc q) A out) args s 0 0 A) (F0 m 377 ls [])) (σ : MS) (x7 : Int32) (x8 : Int32) (H : Heap) (locs : List Loc) (ls : Array Slot) (h : fX1_seats_B377 σ   k377 x7 x8 = some out) (hP : va_P D vwCl (wX1 kc q σ) H) (hD : va_D A (wX1 kc q σ)) (hS : va_S A s.heap H locs) (hl : lv_has ls 14 [(0, .ref (q 0)), (7, .int x7), (8, .int x8)]) : W p l e rmX1_seats s m args below meth c H locs 0 0 (MQ below (QMi D (tysX1 kc) (wX1 kc q) A out) args s 0 0 A) (F0 m 377 ls []) := by
  obtain ⟨hx, hb, hr, hml, hown, hts, hlocks⟩ := id C
  unfold fX1_seats_B377 at h
  refine lv_iload hx hb dX1_seats_377 (lv_at hl 2 rfl) ?_
  refine lv_aload_n hx hb dX1_seats_379 rfl (lv_at hl 0 rfl) ?_
  refine rdX1_seated hx hb hts hinX1_seats hown hK hP (hts (.fieldLink RX1 23 "ExactSharesModel" "seated" "I") (List.mem_of_getElem? (i := 5) rfl)) dX1_seats_380 ?_
  refine lv_icmp_ge (tgt := 412) hx hb dX1_seats_383 (by decide) (fun c1 => ?_) (fun c1 => ?_)
  · replace h := br_p c1 h
    refine lv_iload hx hb dX1_seats_412 (lv_at hl 1 rfl) ?_
    exact reMi (v := x7) hx hb hr hlocks hK hP hD hS h dX1_seats_414
  · replace h := br_n c1 h
    refine lv_iload hx hb dX1_seats_386 (lv_at hl 1 rfl) ?_
    refine lv_aload_n hx hb dX1_seats_388 rfl (lv_at hl 0 rfl) ?_
    refine rdX1_seat hx hb hts hinX1_seats hown hK hP (hts (.fieldLink RX1 27 "ExactSharesModel" "seat" "[I") (List.mem_of_getElem? (i := 6) rfl)) dX1_seats_389 ?_
    refine lv_iload hx hb dX1_seats_392 (lv_at hl 2 rfl) ?_
    obtain ⟨g2, h⟩ := gd_t h
    refine ldX1_seat hx hb hK hP g2 dX1_seats_394 ?_
    refine lv_if_le (tgt := 402) hx hb dX1_seats_395 (by decide) (fun c3 => ?_) (fun c3 => ?_)
    · replace h := br_p c3 h
      refine lv_iconst (v := (0 : Int32)) hx hb dX1_seats_402 (by decide) ?_
      exact wX1_seats_L403 C hA hK k377 hk377 σ x8 (0 : Int32) x7 H locs ls h hP hD hS (lv_sub hl [0, 2] rfl)
    · replace h := br_n c3 h
      refine lv_iconst (v := (1 : Int32)) hx hb dX1_seats_398 (by decide) ?_
      refine lv_goto (tgt := 403) hx hb dX1_seats_399 (by decide) ?_
      exact wX1_seats_L403 C hA hK k377 hk377 σ x8 (1 : Int32) x7 H locs ls h hP hD hS (lv_sub hl [0, 2] rfl)
set_option maxHeartbeats 4000000 in
set_option maxRecDepth 100000 in
theorem wX1_seats_L377 {p : Program} {l : Launch} {e : Env} {s : State} {m : MethodId} {args : Array Value} {below : List Frame} {meth : Method} {c : Code} {A : Nat → Prop} {D : va_G} {kc : Nat → ClassId} {q : Nat → Nat} {out : Int32 × MS} (C : cxt p s m args meth c RX1 cX1_seats 14 (some .int) wsX1_seats) (hA : ∀ x, s.heap.size ≤ x → A x) (hK : va_K D vwCl (tysX1 kc) s) (σ : MS) (x7 : Int32) (x8 : Int32) (H : Heap) (locs : List Loc) (ls : Array Slot) (h : fX1_seats_L377 σ   x7 x8 = some out) (hP : va_P D vwCl (wX1 kc q σ) H) (hD : va_D A (wX1 kc q σ)) (hS : va_S A s.heap H locs) (hl : lv_has ls 14 [(0, .ref (q 0)), (7, .int x7), (8, .int x8)]) : W p l e rmX1_seats s m args below meth c H locs 0 0 (MQ below (QMi D (tysX1 kc) (wX1 kc q) A out) args s 0 0 A) (F0 m 377 ls []) := by
  unfold fX1_seats_L377 at h
  exact lp_ind (P := fun t : Int32 × Int32 × MS => ∀ (H : Heap) (locs : List Loc) (ls : Array Slot), va_P D vwCl (wX1 kc q t.2.2) H → va_D A (wX1 kc q t.2.2) → va_S A s.heap H locs → lv_has ls 14 [(0, .ref (q 0)), (7, .int t.1), (8, .int t.2.1)] → W p l e rmX1_seats s m args below meth c H locs 0 0 (MQ below (QMi D (tysX1 kc) (wX1 kc q) A out) args s 0 0 A) (F0 m 377 ls [])) (fun k hk t h H locs ls hP hD hS hl => wX1_seats_B377 C hA hK  k (fun x7 x8 σ H locs ls h hP hD hS hl => hk (x7, x8, σ) h H locs ls hP hD hS hl) t.2.2 t.1 t.2.1 H locs ls h hP hD hS hl) FU (x7, x8, σ) h H locs ls hP hD hS hl
def fX1_seats_L336 (σ : MS)  (k165 : Int32 × Int32 × Int32 × MS → Option (Int32 × MS)) (k176 : Int32 × Int32 × Int32 × Int32 × Int32 × MS → Option (Int32 × MS)) (x1 : Int32) (x3 : Int32) (x6 : Int32) (x8 : Int32) (y0 : Int32) : Option (Int32 × MS) := (k176 (x1, x3, x6, y0, (x8 + (1 : Int32)), σ))
set_option maxHeartbeats 4000000 in
set_option maxRecDepth 100000 in
theorem wX1_seats_L336 {p : Program} {l : Launch} {e : Env} {s : State} {m : MethodId} {args : Array Value} {below : List Frame} {meth : Method} {c : Code} {A : Nat → Prop} {D : va_G} {kc : Nat → ClassId} {q : Nat → Nat} {out : Int32 × MS} (C : cxt p s m args meth c RX1 cX1_seats 14 (some .int) wsX1_seats) (hA : ∀ x, s.heap.size ≤ x → A x) (hK : va_K D vwCl (tysX1 kc) s) (k165 : Int32 × Int32 × Int32 × MS → Option (Int32 × MS)) (hk165 : ∀ (x1 : Int32) (x3 : Int32) (x6 : Int32) (σ : MS) (H : Heap) (locs : List Loc) (ls : Array Slot), k165 (x1, x3, x6, σ) = some out → va_P D vwCl (wX1 kc q σ) H → va_D A (wX1 kc q σ) → va_S A s.heap H locs → lv_has ls 14 [(0, .ref (q 0)), (1, .int x1), (3, .int x3), (6, .int x6)] → W p l e rmX1_seats s m args below meth c H locs 0 0 (MQ below (QMi D (tysX1 kc) (wX1 kc q) A out) args s 0 0 A) (F0 m 165 ls [])) (k176 : Int32 × Int32 × Int32 × Int32 × Int32 × MS → Option (Int32 × MS)) (hk176 : ∀ (x1 : Int32) (x3 : Int32) (x6 : Int32) (x7 : Int32) (x8 : Int32) (σ : MS) (H : Heap) (locs : List Loc) (ls : Array Slot), k176 (x1, x3, x6, x7, x8, σ) = some out → va_P D vwCl (wX1 kc q σ) H → va_D A (wX1 kc q σ) → va_S A s.heap H locs → lv_has ls 14 [(0, .ref (q 0)), (1, .int x1), (3, .int x3), (6, .int x6), (7, .int x7), (8, .int x8)] → W p l e rmX1_seats s m args below meth c H locs 0 0 (MQ below (QMi D (tysX1 kc) (wX1 kc q) A out) args s 0 0 A) (F0 m 176 ls [])) (σ : MS) (x1 : Int32) (x3 : Int32) (x6 : Int32) (x8 : Int32) (y0 : Int32) (H : Heap) (locs : List Loc) (ls : Array Slot) (h : fX1_seats_L336 σ  k165 k176 x1 x3 x6 x8 y0 = some out) (hP : va_P D vwCl (wX1 kc q σ) H) (hD : va_D A (wX1 kc q σ)) (hS : va_S A s.heap H locs) (hl : lv_has ls 14 [(0, .ref (q 0)), (1, .int x1), (3, .int x3), (6, .int x6), (8, .int x8)]) : W p l e rmX1_seats s m args below meth c H locs 0 0 (MQ below (QMi D (tysX1 kc) (wX1 kc q) A out) args s 0 0 A) (F0 m 336 ls [.int y0]) := by
  obtain ⟨hx, hb, hr, hml, hown, hts, hlocks⟩ := id C
  unfold fX1_seats_L336 at h
  refine lv_istore (lv' := [(7, .int y0), (0, .ref (q 0)), (1, .int x1), (3, .int x3), (6, .int x6), (8, .int x8)]) hx hb dX1_seats_336 hl (by decide) rfl (fun ls hl => ?_)
  refine lv_iinc (v := (x8 + (1 : Int32))) (lv' := [(8, .int (x8 + (1 : Int32))), (7, .int y0), (0, .ref (q 0)), (1, .int x1), (3, .int x3), (6, .int x6)]) hx hb dX1_seats_338 hl (k := 5) rfl rfl (by decide) rfl (fun ls hl => ?_)
  refine lv_goto (tgt := 176) hx hb dX1_seats_341 (by decide) ?_
  exact hk176 x1 x3 x6 y0 (x8 + (1 : Int32)) σ H locs ls h hP hD hS (lv_sub hl [2, 3, 4, 5, 1, 0] rfl)
def fX1_seats_L322 (σ : MS)  (k165 : Int32 × Int32 × Int32 × MS → Option (Int32 × MS)) (k176 : Int32 × Int32 × Int32 × Int32 × Int32 × MS → Option (Int32 × MS)) (x1 : Int32) (x3 : Int32) (x6 : Int32) (x7 : Int32) (x8 : Int32) (y0 : Int32) : Option (Int32 × MS) := (if y0 = (0 : Int32) then (fX1_seats_L336 σ k165 k176 x1 x3 x6 x8 x7) else (fX1_seats_L336 σ k165 k176 x1 x3 x6 x8 x8))
set_option maxHeartbeats 4000000 in
set_option maxRecDepth 100000 in
theorem wX1_seats_L322 {p : Program} {l : Launch} {e : Env} {s : State} {m : MethodId} {args : Array Value} {below : List Frame} {meth : Method} {c : Code} {A : Nat → Prop} {D : va_G} {kc : Nat → ClassId} {q : Nat → Nat} {out : Int32 × MS} (C : cxt p s m args meth c RX1 cX1_seats 14 (some .int) wsX1_seats) (hA : ∀ x, s.heap.size ≤ x → A x) (hK : va_K D vwCl (tysX1 kc) s) (k165 : Int32 × Int32 × Int32 × MS → Option (Int32 × MS)) (hk165 : ∀ (x1 : Int32) (x3 : Int32) (x6 : Int32) (σ : MS) (H : Heap) (locs : List Loc) (ls : Array Slot), k165 (x1, x3, x6, σ) = some out → va_P D vwCl (wX1 kc q σ) H → va_D A (wX1 kc q σ) → va_S A s.heap H locs → lv_has ls 14 [(0, .ref (q 0)), (1, .int x1), (3, .int x3), (6, .int x6)] → W p l e rmX1_seats s m args below meth c H locs 0 0 (MQ below (QMi D (tysX1 kc) (wX1 kc q) A out) args s 0 0 A) (F0 m 165 ls [])) (k176 : Int32 × Int32 × Int32 × Int32 × Int32 × MS → Option (Int32 × MS)) (hk176 : ∀ (x1 : Int32) (x3 : Int32) (x6 : Int32) (x7 : Int32) (x8 : Int32) (σ : MS) (H : Heap) (locs : List Loc) (ls : Array Slot), k176 (x1, x3, x6, x7, x8, σ) = some out → va_P D vwCl (wX1 kc q σ) H → va_D A (wX1 kc q σ) → va_S A s.heap H locs → lv_has ls 14 [(0, .ref (q 0)), (1, .int x1), (3, .int x3), (6, .int x6), (7, .int x7), (8, .int x8)] → W p l e rmX1_seats s m args below meth c H locs 0 0 (MQ below (QMi D (tysX1 kc) (wX1 kc q) A out) args s 0 0 A) (F0 m 176 ls [])) (σ : MS) (x1 : Int32) (x3 : Int32) (x6 : Int32) (x7 : Int32) (x8 : Int32) (y0 : Int32) (H : Heap) (locs : List Loc) (ls : Array Slot) (h : fX1_seats_L322 σ  k165 k176 x1 x3 x6 x7 x8 y0 = some out) (hP : va_P D vwCl (wX1 kc q σ) H) (hD : va_D A (wX1 kc q σ)) (hS : va_S A s.heap H locs) (hl : lv_has ls 14 [(0, .ref (q 0)), (1, .int x1), (3, .int x3), (6, .int x6), (7, .int x7), (8, .int x8)]) : W p l e rmX1_seats s m args below meth c H locs 0 0 (MQ below (QMi D (tysX1 kc) (wX1 kc q) A out) args s 0 0 A) (F0 m 322 ls [.int y0]) := by
  obtain ⟨hx, hb, hr, hml, hown, hts, hlocks⟩ := id C
  unfold fX1_seats_L322 at h
  refine lv_istore (lv' := [(13, .int y0), (0, .ref (q 0)), (1, .int x1), (3, .int x3), (6, .int x6), (7, .int x7), (8, .int x8)]) hx hb dX1_seats_322 hl (by decide) rfl (fun ls hl => ?_)
  refine lv_iload hx hb dX1_seats_324 (lv_at hl 0 rfl) ?_
  refine lv_if_eq (tgt := 334) hx hb dX1_seats_326 (by decide) (fun c1 => ?_) (fun c1 => ?_)
  · replace h := br_p c1 h
    refine lv_iload hx hb dX1_seats_334 (lv_at hl 5 rfl) ?_
    exact wX1_seats_L336 C hA hK k165 hk165 k176 hk176 σ x1 x3 x6 x8 x7 H locs ls h hP hD hS (lv_sub hl [1, 2, 3, 4, 6] rfl)
  · replace h := br_n c1 h
    refine lv_iload hx hb dX1_seats_329 (lv_at hl 6 rfl) ?_
    refine lv_goto (tgt := 336) hx hb dX1_seats_331 (by decide) ?_
    exact wX1_seats_L336 C hA hK k165 hk165 k176 hk176 σ x1 x3 x6 x8 x8 H locs ls h hP hD hS (lv_sub hl [1, 2, 3, 4, 6] rfl)
def fX1_seats_L251 (σ : MS)  (k165 : Int32 × Int32 × Int32 × MS → Option (Int32 × MS)) (k176 : Int32 × Int32 × Int32 × Int32 × Int32 × MS → Option (Int32 × MS)) (x1 : Int32) (x3 : Int32) (x6 : Int32) (x7 : Int32) (x8 : Int32) (x9 : Int64) (y0 : Int64) : Option (Int32 × MS) := (if x3 = (0 : Int32) then (if ix x8 8 = true then (if ix x7 8 = true then (if ((m_left σ) x8.toNatClampNeg) ≤ ((m_left σ) x7.toNatClampNeg) then (fX1_seats_L322 σ k165 k176 x1 x3 x6 x7 x8 (0 : Int32)) else (fX1_seats_L322 σ k165 k176 x1 x3 x6 x7 x8 (1 : Int32))) else none) else none) else (if ix (((8 : Int32) * x1) + x8) 32 = true then (if ix (((8 : Int32) * x1) + x7) 32 = true then (if (((m_value σ) (((8 : Int32) * x1) + x8).toNatClampNeg) * y0) ≤ (((m_value σ) (((8 : Int32) * x1) + x7).toNatClampNeg) * x9) then (fX1_seats_L322 σ k165 k176 x1 x3 x6 x7 x8 (0 : Int32)) else (fX1_seats_L322 σ k165 k176 x1 x3 x6 x7 x8 (1 : Int32))) else none) else none))
set_option maxHeartbeats 4000000 in
set_option maxRecDepth 100000 in
theorem wX1_seats_L251 {p : Program} {l : Launch} {e : Env} {s : State} {m : MethodId} {args : Array Value} {below : List Frame} {meth : Method} {c : Code} {A : Nat → Prop} {D : va_G} {kc : Nat → ClassId} {q : Nat → Nat} {out : Int32 × MS} (C : cxt p s m args meth c RX1 cX1_seats 14 (some .int) wsX1_seats) (hA : ∀ x, s.heap.size ≤ x → A x) (hK : va_K D vwCl (tysX1 kc) s) (k165 : Int32 × Int32 × Int32 × MS → Option (Int32 × MS)) (hk165 : ∀ (x1 : Int32) (x3 : Int32) (x6 : Int32) (σ : MS) (H : Heap) (locs : List Loc) (ls : Array Slot), k165 (x1, x3, x6, σ) = some out → va_P D vwCl (wX1 kc q σ) H → va_D A (wX1 kc q σ) → va_S A s.heap H locs → lv_has ls 14 [(0, .ref (q 0)), (1, .int x1), (3, .int x3), (6, .int x6)] → W p l e rmX1_seats s m args below meth c H locs 0 0 (MQ below (QMi D (tysX1 kc) (wX1 kc q) A out) args s 0 0 A) (F0 m 165 ls [])) (k176 : Int32 × Int32 × Int32 × Int32 × Int32 × MS → Option (Int32 × MS)) (hk176 : ∀ (x1 : Int32) (x3 : Int32) (x6 : Int32) (x7 : Int32) (x8 : Int32) (σ : MS) (H : Heap) (locs : List Loc) (ls : Array Slot), k176 (x1, x3, x6, x7, x8, σ) = some out → va_P D vwCl (wX1 kc q σ) H → va_D A (wX1 kc q σ) → va_S A s.heap H locs → lv_has ls 14 [(0, .ref (q 0)), (1, .int x1), (3, .int x3), (6, .int x6), (7, .int x7), (8, .int x8)] → W p l e rmX1_seats s m args below meth c H locs 0 0 (MQ below (QMi D (tysX1 kc) (wX1 kc q) A out) args s 0 0 A) (F0 m 176 ls [])) (σ : MS) (x1 : Int32) (x3 : Int32) (x6 : Int32) (x7 : Int32) (x8 : Int32) (x9 : Int64) (y0 : Int64) (H : Heap) (locs : List Loc) (ls : Array Slot) (h : fX1_seats_L251 σ  k165 k176 x1 x3 x6 x7 x8 x9 y0 = some out) (hP : va_P D vwCl (wX1 kc q σ) H) (hD : va_D A (wX1 kc q σ)) (hS : va_S A s.heap H locs) (hl : lv_has ls 14 [(0, .ref (q 0)), (1, .int x1), (3, .int x3), (6, .int x6), (7, .int x7), (8, .int x8), (9, .long x9)]) : W p l e rmX1_seats s m args below meth c H locs 0 0 (MQ below (QMi D (tysX1 kc) (wX1 kc q) A out) args s 0 0 A) (F0 m 251 ls [.long y0]) := by
  obtain ⟨hx, hb, hr, hml, hown, hts, hlocks⟩ := id C
  unfold fX1_seats_L251 at h
  refine lv_lstore (lv' := [(11, .long y0), (0, .ref (q 0)), (1, .int x1), (3, .int x3), (6, .int x6), (7, .int x7), (8, .int x8), (9, .long x9)]) hx hb dX1_seats_251 hl (by decide) rfl (fun ls hl => ?_)
  refine lv_iload_n hx hb dX1_seats_253 rfl (lv_at hl 3 rfl) ?_
  refine lv_if_ne (tgt := 283) hx hb dX1_seats_254 (by decide) (fun c1 => ?_) (fun c1 => ?_)
  · replace h := br_n c1 h
    refine lv_aload_n hx hb dX1_seats_283 rfl (lv_at hl 1 rfl) ?_
    refine rdX1_value hx hb hts hinX1_seats hown hK hP (hts (.fieldLink RX1 16 "ExactSharesModel" "value" "[J") (List.mem_of_getElem? (i := 7) rfl)) dX1_seats_284 ?_
    refine lv_bipush (v := (8 : Int32)) hx hb dX1_seats_287 (by decide) ?_
    refine lv_iload_n hx hb dX1_seats_289 rfl (lv_at hl 2 rfl) ?_
    refine lv_imul hx hb dX1_seats_290 ?_
    refine lv_iload hx hb dX1_seats_291 (lv_at hl 6 rfl) ?_
    refine lv_iadd hx hb dX1_seats_293 ?_
    obtain ⟨g2, h⟩ := gd_t h
    refine ldX1_value hx hb hK hP g2 dX1_seats_294 ?_
    refine lv_lload hx hb dX1_seats_295 (lv_at hl 0 rfl) ?_
    refine lv_lmul hx hb dX1_seats_297 ?_
    refine lv_aload_n hx hb dX1_seats_298 rfl (lv_at hl 1 rfl) ?_
    refine rdX1_value hx hb hts hinX1_seats hown hK hP (hts (.fieldLink RX1 16 "ExactSharesModel" "value" "[J") (List.mem_of_getElem? (i := 7) rfl)) dX1_seats_299 ?_
    refine lv_bipush (v := (8 : Int32)) hx hb dX1_seats_302 (by decide) ?_
    refine lv_iload_n hx hb dX1_seats_304 rfl (lv_at hl 2 rfl) ?_
    refine lv_imul hx hb dX1_seats_305 ?_
    refine lv_iload hx hb dX1_seats_306 (lv_at hl 5 rfl) ?_
    refine lv_iadd hx hb dX1_seats_308 ?_
    obtain ⟨g3, h⟩ := gd_t h
    refine ldX1_value hx hb hK hP g3 dX1_seats_309 ?_
    refine lv_lload hx hb dX1_seats_310 (lv_at hl 7 rfl) ?_
    refine lv_lmul hx hb dX1_seats_312 ?_
    refine xl_le (tgt := 321) hx hb dX1_seats_313 dX1_seats_314 (by decide) (fun c4 => ?_) (fun c4 => ?_)
    · replace h := br_p c4 h
      refine lv_iconst (v := (0 : Int32)) hx hb dX1_seats_321 (by decide) ?_
      exact wX1_seats_L322 C hA hK k165 hk165 k176 hk176 σ x1 x3 x6 x7 x8 (0 : Int32) H locs ls h hP hD hS (lv_sub hl [1, 2, 3, 4, 5, 6] rfl)
    · replace h := br_n c4 h
      refine lv_iconst (v := (1 : Int32)) hx hb dX1_seats_317 (by decide) ?_
      refine lv_goto (tgt := 322) hx hb dX1_seats_318 (by decide) ?_
      exact wX1_seats_L322 C hA hK k165 hk165 k176 hk176 σ x1 x3 x6 x7 x8 (1 : Int32) H locs ls h hP hD hS (lv_sub hl [1, 2, 3, 4, 5, 6] rfl)
  · replace h := br_p c1 h
    refine lv_aload_n hx hb dX1_seats_257 rfl (lv_at hl 1 rfl) ?_
    refine rdX1_left hx hb hts hinX1_seats hown hK hP (hts (.fieldLink RX1 30 "ExactSharesModel" "left" "[J") (List.mem_of_getElem? (i := 8) rfl)) dX1_seats_258 ?_
    refine lv_iload hx hb dX1_seats_261 (lv_at hl 6 rfl) ?_
    obtain ⟨g5, h⟩ := gd_t h
    refine ldX1_left hx hb hK hP g5 dX1_seats_263 ?_
    refine lv_aload_n hx hb dX1_seats_264 rfl (lv_at hl 1 rfl) ?_
    refine rdX1_left hx hb hts hinX1_seats hown hK hP (hts (.fieldLink RX1 30 "ExactSharesModel" "left" "[J") (List.mem_of_getElem? (i := 8) rfl)) dX1_seats_265 ?_
    refine lv_iload hx hb dX1_seats_268 (lv_at hl 5 rfl) ?_
    obtain ⟨g6, h⟩ := gd_t h
    refine ldX1_left hx hb hK hP g6 dX1_seats_270 ?_
    refine xl_le (tgt := 279) hx hb dX1_seats_271 dX1_seats_272 (by decide) (fun c7 => ?_) (fun c7 => ?_)
    · replace h := br_p c7 h
      refine lv_iconst (v := (0 : Int32)) hx hb dX1_seats_279 (by decide) ?_
      refine lv_goto (tgt := 322) hx hb dX1_seats_280 (by decide) ?_
      exact wX1_seats_L322 C hA hK k165 hk165 k176 hk176 σ x1 x3 x6 x7 x8 (0 : Int32) H locs ls h hP hD hS (lv_sub hl [1, 2, 3, 4, 5, 6] rfl)
    · replace h := br_n c7 h
      refine lv_iconst (v := (1 : Int32)) hx hb dX1_seats_275 (by decide) ?_
      refine lv_goto (tgt := 322) hx hb dX1_seats_276 (by decide) ?_
      exact wX1_seats_L322 C hA hK k165 hk165 k176 hk176 σ x1 x3 x6 x7 x8 (1 : Int32) H locs ls h hP hD hS (lv_sub hl [1, 2, 3, 4, 5, 6] rfl)
def fX1_seats_L217 (σ : MS)  (k165 : Int32 × Int32 × Int32 × MS → Option (Int32 × MS)) (k176 : Int32 × Int32 × Int32 × Int32 × Int32 × MS → Option (Int32 × MS)) (x1 : Int32) (x3 : Int32) (x6 : Int32) (x7 : Int32) (x8 : Int32) (y0 : Int64) : Option (Int32 × MS) := (if x3 = (1 : Int32) then (if ix x7 8 = true then (fX1_seats_L251 σ k165 k176 x1 x3 x6 x7 x8 y0 ((((m_seat σ) x7.toNatClampNeg).toInt64) + (1 : Int64))) else none) else (if ix x7 8 = true then (fX1_seats_L251 σ k165 k176 x1 x3 x6 x7 x8 y0 (((2 : Int64) * (((m_seat σ) x7.toNatClampNeg).toInt64)) + (1 : Int64))) else none))
set_option maxHeartbeats 4000000 in
set_option maxRecDepth 100000 in
theorem wX1_seats_L217 {p : Program} {l : Launch} {e : Env} {s : State} {m : MethodId} {args : Array Value} {below : List Frame} {meth : Method} {c : Code} {A : Nat → Prop} {D : va_G} {kc : Nat → ClassId} {q : Nat → Nat} {out : Int32 × MS} (C : cxt p s m args meth c RX1 cX1_seats 14 (some .int) wsX1_seats) (hA : ∀ x, s.heap.size ≤ x → A x) (hK : va_K D vwCl (tysX1 kc) s) (k165 : Int32 × Int32 × Int32 × MS → Option (Int32 × MS)) (hk165 : ∀ (x1 : Int32) (x3 : Int32) (x6 : Int32) (σ : MS) (H : Heap) (locs : List Loc) (ls : Array Slot), k165 (x1, x3, x6, σ) = some out → va_P D vwCl (wX1 kc q σ) H → va_D A (wX1 kc q σ) → va_S A s.heap H locs → lv_has ls 14 [(0, .ref (q 0)), (1, .int x1), (3, .int x3), (6, .int x6)] → W p l e rmX1_seats s m args below meth c H locs 0 0 (MQ below (QMi D (tysX1 kc) (wX1 kc q) A out) args s 0 0 A) (F0 m 165 ls [])) (k176 : Int32 × Int32 × Int32 × Int32 × Int32 × MS → Option (Int32 × MS)) (hk176 : ∀ (x1 : Int32) (x3 : Int32) (x6 : Int32) (x7 : Int32) (x8 : Int32) (σ : MS) (H : Heap) (locs : List Loc) (ls : Array Slot), k176 (x1, x3, x6, x7, x8, σ) = some out → va_P D vwCl (wX1 kc q σ) H → va_D A (wX1 kc q σ) → va_S A s.heap H locs → lv_has ls 14 [(0, .ref (q 0)), (1, .int x1), (3, .int x3), (6, .int x6), (7, .int x7), (8, .int x8)] → W p l e rmX1_seats s m args below meth c H locs 0 0 (MQ below (QMi D (tysX1 kc) (wX1 kc q) A out) args s 0 0 A) (F0 m 176 ls [])) (σ : MS) (x1 : Int32) (x3 : Int32) (x6 : Int32) (x7 : Int32) (x8 : Int32) (y0 : Int64) (H : Heap) (locs : List Loc) (ls : Array Slot) (h : fX1_seats_L217 σ  k165 k176 x1 x3 x6 x7 x8 y0 = some out) (hP : va_P D vwCl (wX1 kc q σ) H) (hD : va_D A (wX1 kc q σ)) (hS : va_S A s.heap H locs) (hl : lv_has ls 14 [(0, .ref (q 0)), (1, .int x1), (3, .int x3), (6, .int x6), (7, .int x7), (8, .int x8)]) : W p l e rmX1_seats s m args below meth c H locs 0 0 (MQ below (QMi D (tysX1 kc) (wX1 kc q) A out) args s 0 0 A) (F0 m 217 ls [.long y0]) := by
  obtain ⟨hx, hb, hr, hml, hown, hts, hlocks⟩ := id C
  unfold fX1_seats_L217 at h
  refine lv_lstore (lv' := [(9, .long y0), (0, .ref (q 0)), (1, .int x1), (3, .int x3), (6, .int x6), (7, .int x7), (8, .int x8)]) hx hb dX1_seats_217 hl (by decide) rfl (fun ls hl => ?_)
  refine lv_iload_n hx hb dX1_seats_219 rfl (lv_at hl 3 rfl) ?_
  refine lv_iconst (v := (1 : Int32)) hx hb dX1_seats_220 (by decide) ?_
  refine lv_icmp_ne (tgt := 237) hx hb dX1_seats_221 (by decide) (fun c1 => ?_) (fun c1 => ?_)
  · replace h := br_n c1 h
    refine lv_ldc2 (v := (2 : Int64)) hx hb hown (hts (.constantLong RX1 133 (2)) (List.mem_of_getElem? (i := 3) rfl)) dX1_seats_237 ?_
    refine lv_aload_n hx hb dX1_seats_240 rfl (lv_at hl 1 rfl) ?_
    refine rdX1_seat hx hb hts hinX1_seats hown hK hP (hts (.fieldLink RX1 27 "ExactSharesModel" "seat" "[I") (List.mem_of_getElem? (i := 6) rfl)) dX1_seats_241 ?_
    refine lv_iload hx hb dX1_seats_244 (lv_at hl 5 rfl) ?_
    obtain ⟨g2, h⟩ := gd_t h
    refine ldX1_seat hx hb hK hP g2 dX1_seats_246 ?_
    refine lv_i2l (v := (((m_seat σ) x7.toNatClampNeg).toInt64)) hx hb dX1_seats_247 rfl ?_
    refine lv_lmul hx hb dX1_seats_248 ?_
    refine lv_lconst (v := (1 : Int64)) hx hb dX1_seats_249 (by decide) ?_
    refine lv_ladd hx hb dX1_seats_250 ?_
    exact wX1_seats_L251 C hA hK k165 hk165 k176 hk176 σ x1 x3 x6 x7 x8 y0 (((2 : Int64) * (((m_seat σ) x7.toNatClampNeg).toInt64)) + (1 : Int64)) H locs ls h hP hD hS (lv_sub hl [1, 2, 3, 4, 5, 6, 0] rfl)
  · replace h := br_p c1 h
    refine lv_aload_n hx hb dX1_seats_224 rfl (lv_at hl 1 rfl) ?_
    refine rdX1_seat hx hb hts hinX1_seats hown hK hP (hts (.fieldLink RX1 27 "ExactSharesModel" "seat" "[I") (List.mem_of_getElem? (i := 6) rfl)) dX1_seats_225 ?_
    refine lv_iload hx hb dX1_seats_228 (lv_at hl 5 rfl) ?_
    obtain ⟨g3, h⟩ := gd_t h
    refine ldX1_seat hx hb hK hP g3 dX1_seats_230 ?_
    refine lv_i2l (v := (((m_seat σ) x7.toNatClampNeg).toInt64)) hx hb dX1_seats_231 rfl ?_
    refine lv_lconst (v := (1 : Int64)) hx hb dX1_seats_232 (by decide) ?_
    refine lv_ladd hx hb dX1_seats_233 ?_
    refine lv_goto (tgt := 251) hx hb dX1_seats_234 (by decide) ?_
    exact wX1_seats_L251 C hA hK k165 hk165 k176 hk176 σ x1 x3 x6 x7 x8 y0 ((((m_seat σ) x7.toNatClampNeg).toInt64) + (1 : Int64)) H locs ls h hP hD hS (lv_sub hl [1, 2, 3, 4, 5, 6, 0] rfl)
def fX1_seats_B176 (σ : MS)  (k165 : Int32 × Int32 × Int32 × MS → Option (Int32 × MS)) (k176 : Int32 × Int32 × Int32 × Int32 × Int32 × MS → Option (Int32 × MS)) (x1 : Int32) (x3 : Int32) (x6 : Int32) (x7 : Int32) (x8 : Int32) : Option (Int32 × MS) := (if (m_seated σ) ≤ x8 then (if ix x7 8 = true then (if ix x7 8 = true then (bd (sm_seat σ (upd (m_seat σ) x7.toNatClampNeg (((m_seat σ) x7.toNatClampNeg) + (1 : Int32)))) fun s4 => (if ix x7 8 = true then (bd (sm_left s4 (vp_updL (m_left s4) x7.toNatClampNeg (-1 : Int64))) fun s7 => (k165 (x1, x3, (x6 + (-1 : Int32)), s7))) else none)) else none) else none) else (if x3 = (1 : Int32) then (if ix x8 8 = true then (fX1_seats_L217 σ k165 k176 x1 x3 x6 x7 x8 ((((m_seat σ) x8.toNatClampNeg).toInt64) + (1 : Int64))) else none) else (if ix x8 8 = true then (fX1_seats_L217 σ k165 k176 x1 x3 x6 x7 x8 (((2 : Int64) * (((m_seat σ) x8.toNatClampNeg).toInt64)) + (1 : Int64))) else none)))
def fX1_seats_L176 (σ : MS)  (k165 : Int32 × Int32 × Int32 × MS → Option (Int32 × MS)) (x1 : Int32) (x3 : Int32) (x6 : Int32) (x7 : Int32) (x8 : Int32) : Option (Int32 × MS) := lp (fun k t => fX1_seats_B176 t.2.2.2.2.2  k165 k t.1 t.2.1 t.2.2.1 t.2.2.2.1 t.2.2.2.2.1) FU (x1, x3, x6, x7, x8, σ)
set_option maxHeartbeats 4000000 in
set_option maxRecDepth 100000 in
theorem wX1_seats_B176 {p : Program} {l : Launch} {e : Env} {s : State} {m : MethodId} {args : Array Value} {below : List Frame} {meth : Method} {c : Code} {A : Nat → Prop} {D : va_G} {kc : Nat → ClassId} {q : Nat → Nat} {out : Int32 × MS} (C : cxt p s m args meth c RX1 cX1_seats 14 (some .int) wsX1_seats) (hA : ∀ x, s.heap.size ≤ x → A x) (hK : va_K D vwCl (tysX1 kc) s) (k165 : Int32 × Int32 × Int32 × MS → Option (Int32 × MS)) (hk165 : ∀ (x1 : Int32) (x3 : Int32) (x6 : Int32) (σ : MS) (H : Heap) (locs : List Loc) (ls : Array Slot), k165 (x1, x3, x6, σ) = some out → va_P D vwCl (wX1 kc q σ) H → va_D A (wX1 kc q σ) → va_S A s.heap H locs → lv_has ls 14 [(0, .ref (q 0)), (1, .int x1), (3, .int x3), (6, .int x6)] → W p l e rmX1_seats s m args below meth c H locs 0 0 (MQ below (QMi D (tysX1 kc) (wX1 kc q) A out) args s 0 0 A) (F0 m 165 ls [])) (k176 : Int32 × Int32 × Int32 × Int32 × Int32 × MS → Option (Int32 × MS)) (hk176 : ∀ (x1 : Int32) (x3 : Int32) (x6 : Int32) (x7 : Int32) (x8 : Int32) (σ : MS) (H : Heap) (locs : List Loc) (ls : Array Slot), k176 (x1, x3, x6, x7, x8, σ) = some out → va_P D vwCl (wX1 kc q σ) H → va_D A (wX1 kc q σ) → va_S A s.heap H locs → lv_has ls 14 [(0, .ref (q 0)), (1, .int x1), (3, .int x3), (6, .int x6), (7, .int x7), (8, .int x8)] → W p l e rmX1_seats s m args below meth c H locs 0 0 (MQ below (QMi D (tysX1 kc) (wX1 kc q) A out) args s 0 0 A) (F0 m 176 ls [])) (σ : MS) (x1 : Int32) (x3 : Int32) (x6 : Int32) (x7 : Int32) (x8 : Int32) (H : Heap) (locs : List Loc) (ls : Array Slot) (h : fX1_seats_B176 σ  k165 k176 x1 x3 x6 x7 x8 = some out) (hP : va_P D vwCl (wX1 kc q σ) H) (hD : va_D A (wX1 kc q σ)) (hS : va_S A s.heap H locs) (hl : lv_has ls 14 [(0, .ref (q 0)), (1, .int x1), (3, .int x3), (6, .int x6), (7, .int x7), (8, .int x8)]) : W p l e rmX1_seats s m args below meth c H locs 0 0 (MQ below (QMi D (tysX1 kc) (wX1 kc q) A out) args s 0 0 A) (F0 m 176 ls []) := by
  obtain ⟨hx, hb, hr, hml, hown, hts, hlocks⟩ := id C
  unfold fX1_seats_B176 at h
  refine lv_iload hx hb dX1_seats_176 (lv_at hl 5 rfl) ?_
  refine lv_aload_n hx hb dX1_seats_178 rfl (lv_at hl 0 rfl) ?_
  refine rdX1_seated hx hb hts hinX1_seats hown hK hP (hts (.fieldLink RX1 23 "ExactSharesModel" "seated" "I") (List.mem_of_getElem? (i := 5) rfl)) dX1_seats_179 ?_
  refine lv_icmp_ge (tgt := 344) hx hb dX1_seats_182 (by decide) (fun c1 => ?_) (fun c1 => ?_)
  · replace h := br_p c1 h
    refine lv_aload_n hx hb dX1_seats_344 rfl (lv_at hl 0 rfl) ?_
    refine rdX1_seat hx hb hts hinX1_seats hown hK hP (hts (.fieldLink RX1 27 "ExactSharesModel" "seat" "[I") (List.mem_of_getElem? (i := 6) rfl)) dX1_seats_345 ?_
    refine lv_iload hx hb dX1_seats_348 (lv_at hl 4 rfl) ?_
    refine lv_dup2_11 hx hb dX1_seats_350 rfl rfl ?_
    obtain ⟨g2, h⟩ := gd_t h
    refine ldX1_seat hx hb hK hP g2 dX1_seats_351 ?_
    refine lv_iconst (v := (1 : Int32)) hx hb dX1_seats_352 (by decide) ?_
    refine lv_iadd hx hb dX1_seats_353 ?_
    obtain ⟨g3, h⟩ := gd_t h
    refine stX1_seat (x := (((m_seat σ) x7.toNatClampNeg) + (1 : Int32))) hx hb hK hP hD hS g3 dX1_seats_354 (fun H locs hP hD hS => ?_)
    obtain ⟨s4, e5, h⟩ := bd_e h
    replace hP : va_P D vwCl (wX1 kc q s4) H := by rw [e5]; exact hP
    replace hD : va_D A (wX1 kc q s4) := by rw [e5]; exact hD
    clear e5
    refine lv_aload_n hx hb dX1_seats_355 rfl (lv_at hl 0 rfl) ?_
    refine rdX1_left hx hb hts hinX1_seats hown hK hP (hts (.fieldLink RX1 30 "ExactSharesModel" "left" "[J") (List.mem_of_getElem? (i := 8) rfl)) dX1_seats_356 ?_
    refine lv_iload hx hb dX1_seats_359 (lv_at hl 4 rfl) ?_
    refine lv_ldc2 (v := (-1 : Int64)) hx hb hown (hts (.constantLong RX1 67 (-1)) (List.mem_of_getElem? (i := 9) rfl)) dX1_seats_361 ?_
    obtain ⟨g6, h⟩ := gd_t h
    refine stX1_left (x := (-1 : Int64)) hx hb hK hP hD hS g6 dX1_seats_364 (fun H locs hP hD hS => ?_)
    obtain ⟨s7, e8, h⟩ := bd_e h
    replace hP : va_P D vwCl (wX1 kc q s7) H := by rw [e8]; exact hP
    replace hD : va_D A (wX1 kc q s7) := by rw [e8]; exact hD
    clear e8
    refine lv_iinc (v := (x6 + (-1 : Int32))) (lv' := [(6, .int (x6 + (-1 : Int32))), (0, .ref (q 0)), (1, .int x1), (3, .int x3), (7, .int x7), (8, .int x8)]) hx hb dX1_seats_365 hl (k := 3) rfl rfl (by decide) rfl (fun ls hl => ?_)
    refine lv_goto (tgt := 165) hx hb dX1_seats_368 (by decide) ?_
    exact hk165 x1 x3 (x6 + (-1 : Int32)) s7 H locs ls h hP hD hS (lv_sub hl [1, 2, 3, 0] rfl)
  · replace h := br_n c1 h
    refine lv_iload_n hx hb dX1_seats_185 rfl (lv_at hl 2 rfl) ?_
    refine lv_iconst (v := (1 : Int32)) hx hb dX1_seats_186 (by decide) ?_
    refine lv_icmp_ne (tgt := 203) hx hb dX1_seats_187 (by decide) (fun c9 => ?_) (fun c9 => ?_)
    · replace h := br_n c9 h
      refine lv_ldc2 (v := (2 : Int64)) hx hb hown (hts (.constantLong RX1 133 (2)) (List.mem_of_getElem? (i := 3) rfl)) dX1_seats_203 ?_
      refine lv_aload_n hx hb dX1_seats_206 rfl (lv_at hl 0 rfl) ?_
      refine rdX1_seat hx hb hts hinX1_seats hown hK hP (hts (.fieldLink RX1 27 "ExactSharesModel" "seat" "[I") (List.mem_of_getElem? (i := 6) rfl)) dX1_seats_207 ?_
      refine lv_iload hx hb dX1_seats_210 (lv_at hl 5 rfl) ?_
      obtain ⟨g10, h⟩ := gd_t h
      refine ldX1_seat hx hb hK hP g10 dX1_seats_212 ?_
      refine lv_i2l (v := (((m_seat σ) x8.toNatClampNeg).toInt64)) hx hb dX1_seats_213 rfl ?_
      refine lv_lmul hx hb dX1_seats_214 ?_
      refine lv_lconst (v := (1 : Int64)) hx hb dX1_seats_215 (by decide) ?_
      refine lv_ladd hx hb dX1_seats_216 ?_
      exact wX1_seats_L217 C hA hK k165 hk165 k176 hk176 σ x1 x3 x6 x7 x8 (((2 : Int64) * (((m_seat σ) x8.toNatClampNeg).toInt64)) + (1 : Int64)) H locs ls h hP hD hS (lv_sub hl [0, 1, 2, 3, 4, 5] rfl)
    · replace h := br_p c9 h
      refine lv_aload_n hx hb dX1_seats_190 rfl (lv_at hl 0 rfl) ?_
      refine rdX1_seat hx hb hts hinX1_seats hown hK hP (hts (.fieldLink RX1 27 "ExactSharesModel" "seat" "[I") (List.mem_of_getElem? (i := 6) rfl)) dX1_seats_191 ?_
      refine lv_iload hx hb dX1_seats_194 (lv_at hl 5 rfl) ?_
      obtain ⟨g11, h⟩ := gd_t h
      refine ldX1_seat hx hb hK hP g11 dX1_seats_196 ?_
      refine lv_i2l (v := (((m_seat σ) x8.toNatClampNeg).toInt64)) hx hb dX1_seats_197 rfl ?_
      refine lv_lconst (v := (1 : Int64)) hx hb dX1_seats_198 (by decide) ?_
      refine lv_ladd hx hb dX1_seats_199 ?_
      refine lv_goto (tgt := 217) hx hb dX1_seats_200 (by decide) ?_
      exact wX1_seats_L217 C hA hK k165 hk165 k176 hk176 σ x1 x3 x6 x7 x8 ((((m_seat σ) x8.toNatClampNeg).toInt64) + (1 : Int64)) H locs ls h hP hD hS (lv_sub hl [0, 1, 2, 3, 4, 5] rfl)
set_option maxHeartbeats 4000000 in
set_option maxRecDepth 100000 in
theorem wX1_seats_L176 {p : Program} {l : Launch} {e : Env} {s : State} {m : MethodId} {args : Array Value} {below : List Frame} {meth : Method} {c : Code} {A : Nat → Prop} {D : va_G} {kc : Nat → ClassId} {q : Nat → Nat} {out : Int32 × MS} (C : cxt p s m args meth c RX1 cX1_seats 14 (some .int) wsX1_seats) (hA : ∀ x, s.heap.size ≤ x → A x) (hK : va_K D vwCl (tysX1 kc) s) (k165 : Int32 × Int32 × Int32 × MS → Option (Int32 × MS)) (hk165 : ∀ (x1 : Int32) (x3 : Int32) (x6 : Int32) (σ : MS) (H : Heap) (locs : List Loc) (ls : Array Slot), k165 (x1, x3, x6, σ) = some out → va_P D vwCl (wX1 kc q σ) H → va_D A (wX1 kc q σ) → va_S A s.heap H locs → lv_has ls 14 [(0, .ref (q 0)), (1, .int x1), (3, .int x3), (6, .int x6)] → W p l e rmX1_seats s m args below meth c H locs 0 0 (MQ below (QMi D (tysX1 kc) (wX1 kc q) A out) args s 0 0 A) (F0 m 165 ls [])) (σ : MS) (x1 : Int32) (x3 : Int32) (x6 : Int32) (x7 : Int32) (x8 : Int32) (H : Heap) (locs : List Loc) (ls : Array Slot) (h : fX1_seats_L176 σ  k165 x1 x3 x6 x7 x8 = some out) (hP : va_P D vwCl (wX1 kc q σ) H) (hD : va_D A (wX1 kc q σ)) (hS : va_S A s.heap H locs) (hl : lv_has ls 14 [(0, .ref (q 0)), (1, .int x1), (3, .int x3), (6, .int x6), (7, .int x7), (8, .int x8)]) : W p l e rmX1_seats s m args below meth c H locs 0 0 (MQ below (QMi D (tysX1 kc) (wX1 kc q) A out) args s 0 0 A) (F0 m 176 ls []) := by
  unfold fX1_seats_L176 at h
  exact lp_ind (P := fun t : Int32 × Int32 × Int32 × Int32 × Int32 × MS => ∀ (H : Heap) (locs : List Loc) (ls : Array Slot), va_P D vwCl (wX1 kc q t.2.2.2.2.2) H → va_D A (wX1 kc q t.2.2.2.2.2) → va_S A s.heap H locs → lv_has ls 14 [(0, .ref (q 0)), (1, .int t.1), (3, .int t.2.1), (6, .int t.2.2.1), (7, .int t.2.2.2.1), (8, .int t.2.2.2.2.1)] → W p l e rmX1_seats s m args below meth c H locs 0 0 (MQ below (QMi D (tysX1 kc) (wX1 kc q) A out) args s 0 0 A) (F0 m 176 ls [])) (fun k hk t h H locs ls hP hD hS hl => wX1_seats_B176 C hA hK k165 hk165 k (fun x1 x3 x6 x7 x8 σ H locs ls h hP hD hS hl => hk (x1, x3, x6, x7, x8, σ) h H locs ls hP hD hS hl) t.2.2.2.2.2 t.1 t.2.1 t.2.2.1 t.2.2.2.1 t.2.2.2.2.1 H locs ls h hP hD hS hl) FU (x1, x3, x6, x7, x8, σ) h H locs ls hP hD hS hl
def fX1_seats_B165 (σ : MS)   (k165 : Int32 × Int32 × Int32 × MS → Option (Int32 × MS)) (x1 : Int32) (x3 : Int32) (x6 : Int32) : Option (Int32 × MS) := (if x6 ≤ (0 : Int32) then (fX1_seats_L377 σ (0 : Int32) (0 : Int32)) else (fX1_seats_L176 σ k165 x1 x3 x6 (0 : Int32) (1 : Int32)))
def fX1_seats_L165 (σ : MS)   (x1 : Int32) (x3 : Int32) (x6 : Int32) : Option (Int32 × MS) := lp (fun k t => fX1_seats_B165 t.2.2.2   k t.1 t.2.1 t.2.2.1) FU (x1, x3, x6, σ)
set_option maxHeartbeats 4000000 in
set_option maxRecDepth 100000 in
theorem wX1_seats_B165 {p : Program} {l : Launch} {e : Env} {s : State} {m : MethodId} {args : Array Value} {below : List Frame} {meth : Method} {c : Code} {A : Nat → Prop} {D : va_G} {kc : Nat → ClassId} {q : Nat → Nat} {out : Int32 × MS} (C : cxt p s m args meth c RX1 cX1_seats 14 (some .int) wsX1_seats) (hA : ∀ x, s.heap.size ≤ x → A x) (hK : va_K D vwCl (tysX1 kc) s) (k165 : Int32 × Int32 × Int32 × MS → Option (Int32 × MS)) (hk165 : ∀ (x1 : Int32) (x3 : Int32) (x6 : Int32) (σ : MS) (H : Heap) (locs : List Loc) (ls : Array Slot), k165 (x1, x3, x6, σ) = some out → va_P D vwCl (wX1 kc q σ) H → va_D A (wX1 kc q σ) → va_S A s.heap H locs → lv_has ls 14 [(0, .ref (q 0)), (1, .int x1), (3, .int x3), (6, .int x6)] → W p l e rmX1_seats s m args below meth c H locs 0 0 (MQ below (QMi D (tysX1 kc) (wX1 kc q) A out) args s 0 0 A) (F0 m 165 ls [])) (σ : MS) (x1 : Int32) (x3 : Int32) (x6 : Int32) (H : Heap) (locs : List Loc) (ls : Array Slot) (h : fX1_seats_B165 σ   k165 x1 x3 x6 = some out) (hP : va_P D vwCl (wX1 kc q σ) H) (hD : va_D A (wX1 kc q σ)) (hS : va_S A s.heap H locs) (hl : lv_has ls 14 [(0, .ref (q 0)), (1, .int x1), (3, .int x3), (6, .int x6)]) : W p l e rmX1_seats s m args below meth c H locs 0 0 (MQ below (QMi D (tysX1 kc) (wX1 kc q) A out) args s 0 0 A) (F0 m 165 ls []) := by
  obtain ⟨hx, hb, hr, hml, hown, hts, hlocks⟩ := id C
  unfold fX1_seats_B165 at h
  refine lv_iload hx hb dX1_seats_165 (lv_at hl 3 rfl) ?_
  refine lv_if_le (tgt := 371) hx hb dX1_seats_167 (by decide) (fun c1 => ?_) (fun c1 => ?_)
  · replace h := br_p c1 h
    refine lv_iconst (v := (0 : Int32)) hx hb dX1_seats_371 (by decide) ?_
    refine lv_istore (lv' := [(7, .int (0 : Int32)), (0, .ref (q 0)), (1, .int x1), (3, .int x3), (6, .int x6)]) hx hb dX1_seats_372 hl (by decide) rfl (fun ls hl => ?_)
    refine lv_iconst (v := (0 : Int32)) hx hb dX1_seats_374 (by decide) ?_
    refine lv_istore (lv' := [(8, .int (0 : Int32)), (7, .int (0 : Int32)), (0, .ref (q 0)), (1, .int x1), (3, .int x3), (6, .int x6)]) hx hb dX1_seats_375 hl (by decide) rfl (fun ls hl => ?_)
    exact wX1_seats_L377 C hA hK  σ (0 : Int32) (0 : Int32) H locs ls h hP hD hS (lv_sub hl [2, 1, 0] rfl)
  · replace h := br_n c1 h
    refine lv_iconst (v := (0 : Int32)) hx hb dX1_seats_170 (by decide) ?_
    refine lv_istore (lv' := [(7, .int (0 : Int32)), (0, .ref (q 0)), (1, .int x1), (3, .int x3), (6, .int x6)]) hx hb dX1_seats_171 hl (by decide) rfl (fun ls hl => ?_)
    refine lv_iconst (v := (1 : Int32)) hx hb dX1_seats_173 (by decide) ?_
    refine lv_istore (lv' := [(8, .int (1 : Int32)), (7, .int (0 : Int32)), (0, .ref (q 0)), (1, .int x1), (3, .int x3), (6, .int x6)]) hx hb dX1_seats_174 hl (by decide) rfl (fun ls hl => ?_)
    exact wX1_seats_L176 C hA hK k165 hk165 σ x1 x3 x6 (0 : Int32) (1 : Int32) H locs ls h hP hD hS (lv_sub hl [2, 3, 4, 5, 1, 0] rfl)
set_option maxHeartbeats 4000000 in
set_option maxRecDepth 100000 in
theorem wX1_seats_L165 {p : Program} {l : Launch} {e : Env} {s : State} {m : MethodId} {args : Array Value} {below : List Frame} {meth : Method} {c : Code} {A : Nat → Prop} {D : va_G} {kc : Nat → ClassId} {q : Nat → Nat} {out : Int32 × MS} (C : cxt p s m args meth c RX1 cX1_seats 14 (some .int) wsX1_seats) (hA : ∀ x, s.heap.size ≤ x → A x) (hK : va_K D vwCl (tysX1 kc) s) (σ : MS) (x1 : Int32) (x3 : Int32) (x6 : Int32) (H : Heap) (locs : List Loc) (ls : Array Slot) (h : fX1_seats_L165 σ   x1 x3 x6 = some out) (hP : va_P D vwCl (wX1 kc q σ) H) (hD : va_D A (wX1 kc q σ)) (hS : va_S A s.heap H locs) (hl : lv_has ls 14 [(0, .ref (q 0)), (1, .int x1), (3, .int x3), (6, .int x6)]) : W p l e rmX1_seats s m args below meth c H locs 0 0 (MQ below (QMi D (tysX1 kc) (wX1 kc q) A out) args s 0 0 A) (F0 m 165 ls []) := by
  unfold fX1_seats_L165 at h
  exact lp_ind (P := fun t : Int32 × Int32 × Int32 × MS => ∀ (H : Heap) (locs : List Loc) (ls : Array Slot), va_P D vwCl (wX1 kc q t.2.2.2) H → va_D A (wX1 kc q t.2.2.2) → va_S A s.heap H locs → lv_has ls 14 [(0, .ref (q 0)), (1, .int t.1), (3, .int t.2.1), (6, .int t.2.2.1)] → W p l e rmX1_seats s m args below meth c H locs 0 0 (MQ below (QMi D (tysX1 kc) (wX1 kc q) A out) args s 0 0 A) (F0 m 165 ls [])) (fun k hk t h H locs ls hP hD hS hl => wX1_seats_B165 C hA hK  k (fun x1 x3 x6 σ H locs ls h hP hD hS hl => hk (x1, x3, x6, σ) h H locs ls hP hD hS hl) t.2.2.2 t.1 t.2.1 t.2.2.1 H locs ls h hP hD hS hl) FU (x1, x3, x6, σ) h H locs ls hP hD hS hl
def fX1_seats_L146 (σ : MS)  (k71 : Int32 × Int32 × Int32 × Int64 × Int32 × Int32 × MS → Option (Int32 × MS)) (x1 : Int32) (x2 : Int32) (x3 : Int32) (x4 : Int64) (x6 : Int32) (x7 : Int32) (y0 : Int64) (y1 : Int32) : Option (Int32 × MS) := (if ix y1 8 = true then (bd (sm_left σ (vp_updL (m_left σ) y1.toNatClampNeg y0)) fun s2 => (if ix x7 8 = true then (k71 (x1, x2, x3, x4, (x6 - ((m_seat s2) x7.toNatClampNeg)), (x7 + (1 : Int32)), s2)) else none)) else none)
set_option maxHeartbeats 4000000 in
set_option maxRecDepth 100000 in
theorem wX1_seats_L146 {p : Program} {l : Launch} {e : Env} {s : State} {m : MethodId} {args : Array Value} {below : List Frame} {meth : Method} {c : Code} {A : Nat → Prop} {D : va_G} {kc : Nat → ClassId} {q : Nat → Nat} {out : Int32 × MS} (C : cxt p s m args meth c RX1 cX1_seats 14 (some .int) wsX1_seats) (hA : ∀ x, s.heap.size ≤ x → A x) (hK : va_K D vwCl (tysX1 kc) s) (k71 : Int32 × Int32 × Int32 × Int64 × Int32 × Int32 × MS → Option (Int32 × MS)) (hk71 : ∀ (x1 : Int32) (x2 : Int32) (x3 : Int32) (x4 : Int64) (x6 : Int32) (x7 : Int32) (σ : MS) (H : Heap) (locs : List Loc) (ls : Array Slot), k71 (x1, x2, x3, x4, x6, x7, σ) = some out → va_P D vwCl (wX1 kc q σ) H → va_D A (wX1 kc q σ) → va_S A s.heap H locs → lv_has ls 14 [(0, .ref (q 0)), (1, .int x1), (2, .int x2), (3, .int x3), (4, .long x4), (6, .int x6), (7, .int x7)] → W p l e rmX1_seats s m args below meth c H locs 0 0 (MQ below (QMi D (tysX1 kc) (wX1 kc q) A out) args s 0 0 A) (F0 m 71 ls [])) (σ : MS) (x1 : Int32) (x2 : Int32) (x3 : Int32) (x4 : Int64) (x6 : Int32) (x7 : Int32) (y0 : Int64) (y1 : Int32) (H : Heap) (locs : List Loc) (ls : Array Slot) (h : fX1_seats_L146 σ  k71 x1 x2 x3 x4 x6 x7 y0 y1 = some out) (hP : va_P D vwCl (wX1 kc q σ) H) (hD : va_D A (wX1 kc q σ)) (hS : va_S A s.heap H locs) (hl : lv_has ls 14 [(0, .ref (q 0)), (1, .int x1), (2, .int x2), (3, .int x3), (4, .long x4), (6, .int x6), (7, .int x7)]) : W p l e rmX1_seats s m args below meth c H locs 0 0 (MQ below (QMi D (tysX1 kc) (wX1 kc q) A out) args s 0 0 A) (F0 m 146 ls [.long y0, .int y1, .ref (q 6)]) := by
  obtain ⟨hx, hb, hr, hml, hown, hts, hlocks⟩ := id C
  unfold fX1_seats_L146 at h
  obtain ⟨g1, h⟩ := gd_t h
  refine stX1_left (x := y0) hx hb hK hP hD hS g1 dX1_seats_146 (fun H locs hP hD hS => ?_)
  obtain ⟨s2, e3, h⟩ := bd_e h
  replace hP : va_P D vwCl (wX1 kc q s2) H := by rw [e3]; exact hP
  replace hD : va_D A (wX1 kc q s2) := by rw [e3]; exact hD
  clear e3
  refine lv_iload hx hb dX1_seats_147 (lv_at hl 5 rfl) ?_
  refine lv_aload_n hx hb dX1_seats_149 rfl (lv_at hl 0 rfl) ?_
  refine rdX1_seat hx hb hts hinX1_seats hown hK hP (hts (.fieldLink RX1 27 "ExactSharesModel" "seat" "[I") (List.mem_of_getElem? (i := 6) rfl)) dX1_seats_150 ?_
  refine lv_iload hx hb dX1_seats_153 (lv_at hl 6 rfl) ?_
  obtain ⟨g4, h⟩ := gd_t h
  refine ldX1_seat hx hb hK hP g4 dX1_seats_155 ?_
  refine lv_isub hx hb dX1_seats_156 ?_
  refine lv_istore (lv' := [(6, .int (x6 - ((m_seat s2) x7.toNatClampNeg))), (0, .ref (q 0)), (1, .int x1), (2, .int x2), (3, .int x3), (4, .long x4), (7, .int x7)]) hx hb dX1_seats_157 hl (by decide) rfl (fun ls hl => ?_)
  refine lv_iinc (v := (x7 + (1 : Int32))) (lv' := [(7, .int (x7 + (1 : Int32))), (6, .int (x6 - ((m_seat s2) x7.toNatClampNeg))), (0, .ref (q 0)), (1, .int x1), (2, .int x2), (3, .int x3), (4, .long x4)]) hx hb dX1_seats_159 hl (k := 6) rfl rfl (by decide) rfl (fun ls hl => ?_)
  refine lv_goto (tgt := 71) hx hb dX1_seats_162 (by decide) ?_
  exact hk71 x1 x2 x3 x4 (x6 - ((m_seat s2) x7.toNatClampNeg)) (x7 + (1 : Int32)) s2 H locs ls h hP hD hS (lv_sub hl [2, 3, 4, 5, 6, 1, 0] rfl)
def fX1_seats_L113 (σ : MS)  (k71 : Int32 × Int32 × Int32 × Int64 × Int32 × Int32 × MS → Option (Int32 × MS)) (x1 : Int32) (x2 : Int32) (x3 : Int32) (x4 : Int64) (x6 : Int32) (x7 : Int32) (y0 : Int32) (y1 : Int32) : Option (Int32 × MS) := (if ix y1 8 = true then (bd (sm_seat σ (upd (m_seat σ) y1.toNatClampNeg y0)) fun s2 => (if x3 = (0 : Int32) then (if ix (((8 : Int32) * x1) + x7) 32 = true then (if x4 = (0 : Int64) then none else (fX1_seats_L146 s2 k71 x1 x2 x3 x4 x6 x7 (lmd ((x2.toInt64) * ((m_value s2) (((8 : Int32) * x1) + x7).toNatClampNeg)) x4) x7)) else none) else (fX1_seats_L146 s2 k71 x1 x2 x3 x4 x6 x7 (0 : Int64) x7))) else none)
set_option maxHeartbeats 4000000 in
set_option maxRecDepth 100000 in
theorem wX1_seats_L113 {p : Program} {l : Launch} {e : Env} {s : State} {m : MethodId} {args : Array Value} {below : List Frame} {meth : Method} {c : Code} {A : Nat → Prop} {D : va_G} {kc : Nat → ClassId} {q : Nat → Nat} {out : Int32 × MS} (C : cxt p s m args meth c RX1 cX1_seats 14 (some .int) wsX1_seats) (hA : ∀ x, s.heap.size ≤ x → A x) (hK : va_K D vwCl (tysX1 kc) s) (k71 : Int32 × Int32 × Int32 × Int64 × Int32 × Int32 × MS → Option (Int32 × MS)) (hk71 : ∀ (x1 : Int32) (x2 : Int32) (x3 : Int32) (x4 : Int64) (x6 : Int32) (x7 : Int32) (σ : MS) (H : Heap) (locs : List Loc) (ls : Array Slot), k71 (x1, x2, x3, x4, x6, x7, σ) = some out → va_P D vwCl (wX1 kc q σ) H → va_D A (wX1 kc q σ) → va_S A s.heap H locs → lv_has ls 14 [(0, .ref (q 0)), (1, .int x1), (2, .int x2), (3, .int x3), (4, .long x4), (6, .int x6), (7, .int x7)] → W p l e rmX1_seats s m args below meth c H locs 0 0 (MQ below (QMi D (tysX1 kc) (wX1 kc q) A out) args s 0 0 A) (F0 m 71 ls [])) (σ : MS) (x1 : Int32) (x2 : Int32) (x3 : Int32) (x4 : Int64) (x6 : Int32) (x7 : Int32) (y0 : Int32) (y1 : Int32) (H : Heap) (locs : List Loc) (ls : Array Slot) (h : fX1_seats_L113 σ  k71 x1 x2 x3 x4 x6 x7 y0 y1 = some out) (hP : va_P D vwCl (wX1 kc q σ) H) (hD : va_D A (wX1 kc q σ)) (hS : va_S A s.heap H locs) (hl : lv_has ls 14 [(0, .ref (q 0)), (1, .int x1), (2, .int x2), (3, .int x3), (4, .long x4), (6, .int x6), (7, .int x7)]) : W p l e rmX1_seats s m args below meth c H locs 0 0 (MQ below (QMi D (tysX1 kc) (wX1 kc q) A out) args s 0 0 A) (F0 m 113 ls [.int y0, .int y1, .ref (q 5)]) := by
  obtain ⟨hx, hb, hr, hml, hown, hts, hlocks⟩ := id C
  unfold fX1_seats_L113 at h
  obtain ⟨g1, h⟩ := gd_t h
  refine stX1_seat (x := y0) hx hb hK hP hD hS g1 dX1_seats_113 (fun H locs hP hD hS => ?_)
  obtain ⟨s2, e3, h⟩ := bd_e h
  replace hP : va_P D vwCl (wX1 kc q s2) H := by rw [e3]; exact hP
  replace hD : va_D A (wX1 kc q s2) := by rw [e3]; exact hD
  clear e3
  refine lv_aload_n hx hb dX1_seats_114 rfl (lv_at hl 0 rfl) ?_
  refine rdX1_left hx hb hts hinX1_seats hown hK hP (hts (.fieldLink RX1 30 "ExactSharesModel" "left" "[J") (List.mem_of_getElem? (i := 8) rfl)) dX1_seats_115 ?_
  refine lv_iload hx hb dX1_seats_118 (lv_at hl 6 rfl) ?_
  refine lv_iload_n hx hb dX1_seats_120 rfl (lv_at hl 3 rfl) ?_
  refine lv_if_ne (tgt := 145) hx hb dX1_seats_121 (by decide) (fun c4 => ?_) (fun c4 => ?_)
  · replace h := br_n c4 h
    refine lv_lconst (v := (0 : Int64)) hx hb dX1_seats_145 (by decide) ?_
    exact wX1_seats_L146 C hA hK k71 hk71 s2 x1 x2 x3 x4 x6 x7 (0 : Int64) x7 H locs ls h hP hD hS (lv_sub hl [0, 1, 2, 3, 4, 5, 6] rfl)
  · replace h := br_p c4 h
    refine lv_iload_n hx hb dX1_seats_124 rfl (lv_at hl 2 rfl) ?_
    refine lv_i2l (v := (x2.toInt64)) hx hb dX1_seats_125 rfl ?_
    refine lv_aload_n hx hb dX1_seats_126 rfl (lv_at hl 0 rfl) ?_
    refine rdX1_value hx hb hts hinX1_seats hown hK hP (hts (.fieldLink RX1 16 "ExactSharesModel" "value" "[J") (List.mem_of_getElem? (i := 7) rfl)) dX1_seats_127 ?_
    refine lv_bipush (v := (8 : Int32)) hx hb dX1_seats_130 (by decide) ?_
    refine lv_iload_n hx hb dX1_seats_132 rfl (lv_at hl 1 rfl) ?_
    refine lv_imul hx hb dX1_seats_133 ?_
    refine lv_iload hx hb dX1_seats_134 (lv_at hl 6 rfl) ?_
    refine lv_iadd hx hb dX1_seats_136 ?_
    obtain ⟨g5, h⟩ := gd_t h
    refine ldX1_value hx hb hK hP g5 dX1_seats_137 ?_
    refine lv_lmul hx hb dX1_seats_138 ?_
    refine lv_lload hx hb dX1_seats_139 (lv_at hl 4 rfl) ?_
    obtain ⟨g6, h⟩ := gd_f h
    refine lv_lrem hx hb dX1_seats_141 g6 ?_
    refine lv_goto (tgt := 146) hx hb dX1_seats_142 (by decide) ?_
    exact wX1_seats_L146 C hA hK k71 hk71 s2 x1 x2 x3 x4 x6 x7 (lmd ((x2.toInt64) * ((m_value s2) (((8 : Int32) * x1) + x7).toNatClampNeg)) x4) x7 H locs ls h hP hD hS (lv_sub hl [0, 1, 2, 3, 4, 5, 6] rfl)
def fX1_seats_B71 (σ : MS)   (k71 : Int32 × Int32 × Int32 × Int64 × Int32 × Int32 × MS → Option (Int32 × MS)) (x1 : Int32) (x2 : Int32) (x3 : Int32) (x4 : Int64) (x6 : Int32) (x7 : Int32) : Option (Int32 × MS) := (if (m_seated σ) ≤ x7 then (fX1_seats_L165 σ x1 x3 x6) else (if x3 = (0 : Int32) then (if ix (((8 : Int32) * x1) + x7) 32 = true then (if x4 = (0 : Int64) then none else (fX1_seats_L113 σ k71 x1 x2 x3 x4 x6 x7 ((((x2.toInt64) * ((m_value σ) (((8 : Int32) * x1) + x7).toNatClampNeg)) / x4).toInt32) x7)) else none) else (fX1_seats_L113 σ k71 x1 x2 x3 x4 x6 x7 (0 : Int32) x7)))
def fX1_seats_L71 (σ : MS)   (x1 : Int32) (x2 : Int32) (x3 : Int32) (x4 : Int64) (x6 : Int32) (x7 : Int32) : Option (Int32 × MS) := lp (fun k t => fX1_seats_B71 t.2.2.2.2.2.2   k t.1 t.2.1 t.2.2.1 t.2.2.2.1 t.2.2.2.2.1 t.2.2.2.2.2.1) FU (x1, x2, x3, x4, x6, x7, σ)
set_option maxHeartbeats 4000000 in
set_option maxRecDepth 100000 in
theorem wX1_seats_B71 {p : Program} {l : Launch} {e : Env} {s : State} {m : MethodId} {args : Array Value} {below : List Frame} {meth : Method} {c : Code} {A : Nat → Prop} {D : va_G} {kc : Nat → ClassId} {q : Nat → Nat} {out : Int32 × MS} (C : cxt p s m args meth c RX1 cX1_seats 14 (some .int) wsX1_seats) (hA : ∀ x, s.heap.size ≤ x → A x) (hK : va_K D vwCl (tysX1 kc) s) (k71 : Int32 × Int32 × Int32 × Int64 × Int32 × Int32 × MS → Option (Int32 × MS)) (hk71 : ∀ (x1 : Int32) (x2 : Int32) (x3 : Int32) (x4 : Int64) (x6 : Int32) (x7 : Int32) (σ : MS) (H : Heap) (locs : List Loc) (ls : Array Slot), k71 (x1, x2, x3, x4, x6, x7, σ) = some out → va_P D vwCl (wX1 kc q σ) H → va_D A (wX1 kc q σ) → va_S A s.heap H locs → lv_has ls 14 [(0, .ref (q 0)), (1, .int x1), (2, .int x2), (3, .int x3), (4, .long x4), (6, .int x6), (7, .int x7)] → W p l e rmX1_seats s m args below meth c H locs 0 0 (MQ below (QMi D (tysX1 kc) (wX1 kc q) A out) args s 0 0 A) (F0 m 71 ls [])) (σ : MS) (x1 : Int32) (x2 : Int32) (x3 : Int32) (x4 : Int64) (x6 : Int32) (x7 : Int32) (H : Heap) (locs : List Loc) (ls : Array Slot) (h : fX1_seats_B71 σ   k71 x1 x2 x3 x4 x6 x7 = some out) (hP : va_P D vwCl (wX1 kc q σ) H) (hD : va_D A (wX1 kc q σ)) (hS : va_S A s.heap H locs) (hl : lv_has ls 14 [(0, .ref (q 0)), (1, .int x1), (2, .int x2), (3, .int x3), (4, .long x4), (6, .int x6), (7, .int x7)]) : W p l e rmX1_seats s m args below meth c H locs 0 0 (MQ below (QMi D (tysX1 kc) (wX1 kc q) A out) args s 0 0 A) (F0 m 71 ls []) := by
  obtain ⟨hx, hb, hr, hml, hown, hts, hlocks⟩ := id C
  unfold fX1_seats_B71 at h
  refine lv_iload hx hb dX1_seats_71 (lv_at hl 6 rfl) ?_
  refine lv_aload_n hx hb dX1_seats_73 rfl (lv_at hl 0 rfl) ?_
  refine rdX1_seated hx hb hts hinX1_seats hown hK hP (hts (.fieldLink RX1 23 "ExactSharesModel" "seated" "I") (List.mem_of_getElem? (i := 5) rfl)) dX1_seats_74 ?_
  refine lv_icmp_ge (tgt := 165) hx hb dX1_seats_77 (by decide) (fun c1 => ?_) (fun c1 => ?_)
  · replace h := br_p c1 h
    exact wX1_seats_L165 C hA hK  σ x1 x3 x6 H locs ls h hP hD hS (lv_sub hl [0, 1, 3, 5] rfl)
  · replace h := br_n c1 h
    refine lv_aload_n hx hb dX1_seats_80 rfl (lv_at hl 0 rfl) ?_
    refine rdX1_seat hx hb hts hinX1_seats hown hK hP (hts (.fieldLink RX1 27 "ExactSharesModel" "seat" "[I") (List.mem_of_getElem? (i := 6) rfl)) dX1_seats_81 ?_
    refine lv_iload hx hb dX1_seats_84 (lv_at hl 6 rfl) ?_
    refine lv_iload_n hx hb dX1_seats_86 rfl (lv_at hl 3 rfl) ?_
    refine lv_if_ne (tgt := 112) hx hb dX1_seats_87 (by decide) (fun c2 => ?_) (fun c2 => ?_)
    · replace h := br_n c2 h
      refine lv_iconst (v := (0 : Int32)) hx hb dX1_seats_112 (by decide) ?_
      exact wX1_seats_L113 C hA hK k71 hk71 σ x1 x2 x3 x4 x6 x7 (0 : Int32) x7 H locs ls h hP hD hS (lv_sub hl [0, 1, 2, 3, 4, 5, 6] rfl)
    · replace h := br_p c2 h
      refine lv_iload_n hx hb dX1_seats_90 rfl (lv_at hl 2 rfl) ?_
      refine lv_i2l (v := (x2.toInt64)) hx hb dX1_seats_91 rfl ?_
      refine lv_aload_n hx hb dX1_seats_92 rfl (lv_at hl 0 rfl) ?_
      refine rdX1_value hx hb hts hinX1_seats hown hK hP (hts (.fieldLink RX1 16 "ExactSharesModel" "value" "[J") (List.mem_of_getElem? (i := 7) rfl)) dX1_seats_93 ?_
      refine lv_bipush (v := (8 : Int32)) hx hb dX1_seats_96 (by decide) ?_
      refine lv_iload_n hx hb dX1_seats_98 rfl (lv_at hl 1 rfl) ?_
      refine lv_imul hx hb dX1_seats_99 ?_
      refine lv_iload hx hb dX1_seats_100 (lv_at hl 6 rfl) ?_
      refine lv_iadd hx hb dX1_seats_102 ?_
      obtain ⟨g3, h⟩ := gd_t h
      refine ldX1_value hx hb hK hP g3 dX1_seats_103 ?_
      refine lv_lmul hx hb dX1_seats_104 ?_
      refine lv_lload hx hb dX1_seats_105 (lv_at hl 4 rfl) ?_
      obtain ⟨g4, h⟩ := gd_f h
      refine lv_ldiv hx hb dX1_seats_107 g4 ?_
      refine lv_l2i (v := ((((x2.toInt64) * ((m_value σ) (((8 : Int32) * x1) + x7).toNatClampNeg)) / x4).toInt32)) hx hb dX1_seats_108 rfl ?_
      refine lv_goto (tgt := 113) hx hb dX1_seats_109 (by decide) ?_
      exact wX1_seats_L113 C hA hK k71 hk71 σ x1 x2 x3 x4 x6 x7 ((((x2.toInt64) * ((m_value σ) (((8 : Int32) * x1) + x7).toNatClampNeg)) / x4).toInt32) x7 H locs ls h hP hD hS (lv_sub hl [0, 1, 2, 3, 4, 5, 6] rfl)
set_option maxHeartbeats 4000000 in
set_option maxRecDepth 100000 in
theorem wX1_seats_L71 {p : Program} {l : Launch} {e : Env} {s : State} {m : MethodId} {args : Array Value} {below : List Frame} {meth : Method} {c : Code} {A : Nat → Prop} {D : va_G} {kc : Nat → ClassId} {q : Nat → Nat} {out : Int32 × MS} (C : cxt p s m args meth c RX1 cX1_seats 14 (some .int) wsX1_seats) (hA : ∀ x, s.heap.size ≤ x → A x) (hK : va_K D vwCl (tysX1 kc) s) (σ : MS) (x1 : Int32) (x2 : Int32) (x3 : Int32) (x4 : Int64) (x6 : Int32) (x7 : Int32) (H : Heap) (locs : List Loc) (ls : Array Slot) (h : fX1_seats_L71 σ   x1 x2 x3 x4 x6 x7 = some out) (hP : va_P D vwCl (wX1 kc q σ) H) (hD : va_D A (wX1 kc q σ)) (hS : va_S A s.heap H locs) (hl : lv_has ls 14 [(0, .ref (q 0)), (1, .int x1), (2, .int x2), (3, .int x3), (4, .long x4), (6, .int x6), (7, .int x7)]) : W p l e rmX1_seats s m args below meth c H locs 0 0 (MQ below (QMi D (tysX1 kc) (wX1 kc q) A out) args s 0 0 A) (F0 m 71 ls []) := by
  unfold fX1_seats_L71 at h
  exact lp_ind (P := fun t : Int32 × Int32 × Int32 × Int64 × Int32 × Int32 × MS => ∀ (H : Heap) (locs : List Loc) (ls : Array Slot), va_P D vwCl (wX1 kc q t.2.2.2.2.2.2) H → va_D A (wX1 kc q t.2.2.2.2.2.2) → va_S A s.heap H locs → lv_has ls 14 [(0, .ref (q 0)), (1, .int t.1), (2, .int t.2.1), (3, .int t.2.2.1), (4, .long t.2.2.2.1), (6, .int t.2.2.2.2.1), (7, .int t.2.2.2.2.2.1)] → W p l e rmX1_seats s m args below meth c H locs 0 0 (MQ below (QMi D (tysX1 kc) (wX1 kc q) A out) args s 0 0 A) (F0 m 71 ls [])) (fun k hk t h H locs ls hP hD hS hl => wX1_seats_B71 C hA hK  k (fun x1 x2 x3 x4 x6 x7 σ H locs ls h hP hD hS hl => hk (x1, x2, x3, x4, x6, x7, σ) h H locs ls hP hD hS hl) t.2.2.2.2.2.2 t.1 t.2.1 t.2.2.1 t.2.2.2.1 t.2.2.2.2.1 t.2.2.2.2.2.1 H locs ls h hP hD hS hl) FU (x1, x2, x3, x4, x6, x7, σ) h H locs ls hP hD hS hl
def fX1_seats (σ : MS)  (x1 : Int32) (x2 : Int32) (x3 : Int32) : Option (Int32 × MS) := (bd (sm_thrown σ (0 : Int32)) fun s1 => ((fX1_isRow x1).bind fun o3 => (if o3 = (0 : Int32) then (some ((-1 : Int32), s1)) else ((fX1_isIn (x2.toInt64) (0 : Int64) (2000 : Int64)).bind fun o6 => (if o6 = (0 : Int32) then (some ((-1 : Int32), s1)) else ((fX1_isIn (x3.toInt64) (0 : Int64) (2 : Int64)).bind fun o9 => (if o9 = (0 : Int32) then (some ((-1 : Int32), s1)) else ((fX1_sumOf s1 x1).bind fun o12 => (if o12 = (0 : Int64) then (some ((-2 : Int32), s1)) else (if ix x1 4 = true then (bd (sm_seated s1 ((m_many s1) x1.toNatClampNeg)) fun s16 => (fX1_seats_L71 s16 x1 x2 x3 o12 x2 (0 : Int32))) else none))))))))))
set_option maxHeartbeats 4000000 in
set_option maxRecDepth 100000 in
theorem mX1_seats (l : Launch) (D : va_G) (kc : Nat → ClassId) (q : Nat → Nat) (σ : MS) (x1 : Int32) (x2 : Int32) (x3 : Int32) (out : Int32 × MS) (h : fX1_seats σ  x1 x2 x3 = some out) : MMi l yX1_seats wsX1_seats rmX1_seats D (tysX1 kc) (wX1 kc q) σ [.ref (q 0), .int x1, .int x2, .int x3] out := by
  refine ofMi (cc := cX1_seats) (maxL := 14) (ret := (some .int)) (lv := [(0, .ref (q 0)), (1, .int x1), (2, .int x2), (3, .int x3)]) (by decide) rfl (Nat.le_of_ble_eq_true rfl) rfl ?_
  intro p e s m args below meth c A C hA hK hP hD hS ls hl
  have C : cxt p s m args meth c RX1 cX1_seats 14 (some .int) wsX1_seats := C
  obtain ⟨hx, hb, hr, hml, hown, hts, hlocks⟩ := id C
  obtain ⟨H, hH⟩ : ∃ H, H = s.heap := ⟨_, rfl⟩
  obtain ⟨locs, hlocs⟩ : ∃ locs : List Loc, locs = [] := ⟨_, rfl⟩
  have hS : va_S A s.heap H locs := by rw [hH, hlocs]; exact va_S.rf
  rw [← hH] at hP
  suffices hW : W p l e rmX1_seats s m args below meth c H locs 0 0 _ (F0 m 0 ls []) by rw [hH, hlocs] at hW; exact hW
  unfold fX1_seats at h
  refine lv_aload_n hx hb dX1_seats_0 rfl (lv_at hl 0 rfl) ?_
  refine lv_iconst (v := (0 : Int32)) hx hb dX1_seats_1 (by decide) ?_
  refine wrX1_thrown (v := (0 : Int32)) hx hb hts hinX1_seats hown hK hP hD hS (hts (.fieldLink RX1 43 "ExactSharesModel" "thrown" "I") (List.mem_of_getElem? (i := 1) rfl)) dX1_seats_2 (fun H locs hP hD hS => ?_)
  obtain ⟨s1, e2, h⟩ := bd_e h
  replace hP : va_P D vwCl (wX1 kc q s1) H := by rw [e2]; exact hP
  replace hD : va_D A (wX1 kc q s1) := by rw [e2]; exact hD
  clear e2
  refine lv_iload_n hx hb dX1_seats_5 rfl (lv_at hl 1 rfl) ?_
  obtain ⟨o3, ho4, h⟩ := bi h
  refine caPi (As := [.int x1]) (rest := []) ⟨hx, hb, hml, hown, hts⟩ (mX1_isRow l x1 o3 ho4) (va_cwS 1 hts gX1_seats_X1_isRow rfl rfl rfl (by decide +kernel) ⟨Nat.le_of_ble_eq_true rfl, Nat.le_of_ble_eq_true rfl⟩) rfl hl.1 (Nat.le_of_ble_eq_true rfl) dX1_seats_6 ⟨Nat.zero_le _, Nat.zero_le _⟩ ?_
  refine lv_if_eq (tgt := 36) hx hb dX1_seats_9 (by decide) (fun c5 => ?_) (fun c5 => ?_)
  · replace h := br_p c5 h
    refine lv_iconst (v := (-1 : Int32)) hx hb dX1_seats_36 (by decide) ?_
    exact reMi (v := (-1 : Int32)) hx hb hr hlocks hK hP hD hS h dX1_seats_37
  · replace h := br_n c5 h
    refine lv_iload_n hx hb dX1_seats_12 rfl (lv_at hl 2 rfl) ?_
    refine lv_i2l (v := (x2.toInt64)) hx hb dX1_seats_13 rfl ?_
    refine lv_lconst (v := (0 : Int64)) hx hb dX1_seats_14 (by decide) ?_
    refine lv_ldc2 (v := (2000 : Int64)) hx hb hown (hts (.constantLong RX1 131 (2000)) (List.mem_of_getElem? (i := 2) rfl)) dX1_seats_15 ?_
    obtain ⟨o6, ho7, h⟩ := bi h
    refine caPi (As := [.long (x2.toInt64), .long (0 : Int64), .long (2000 : Int64)]) (rest := []) ⟨hx, hb, hml, hown, hts⟩ (mX1_isIn l (x2.toInt64) (0 : Int64) (2000 : Int64) o6 ho7) (va_cwS 3 hts gX1_seats_X1_isIn rfl rfl rfl (by decide +kernel) ⟨Nat.le_of_ble_eq_true rfl, Nat.le_of_ble_eq_true rfl⟩) rfl hl.1 (Nat.le_of_ble_eq_true rfl) dX1_seats_18 ⟨Nat.zero_le _, Nat.zero_le _⟩ ?_
    refine lv_if_eq (tgt := 36) hx hb dX1_seats_21 (by decide) (fun c8 => ?_) (fun c8 => ?_)
    · replace h := br_p c8 h
      refine lv_iconst (v := (-1 : Int32)) hx hb dX1_seats_36 (by decide) ?_
      exact reMi (v := (-1 : Int32)) hx hb hr hlocks hK hP hD hS h dX1_seats_37
    · replace h := br_n c8 h
      refine lv_iload_n hx hb dX1_seats_24 rfl (lv_at hl 3 rfl) ?_
      refine lv_i2l (v := (x3.toInt64)) hx hb dX1_seats_25 rfl ?_
      refine lv_lconst (v := (0 : Int64)) hx hb dX1_seats_26 (by decide) ?_
      refine lv_ldc2 (v := (2 : Int64)) hx hb hown (hts (.constantLong RX1 133 (2)) (List.mem_of_getElem? (i := 3) rfl)) dX1_seats_27 ?_
      obtain ⟨o9, ho10, h⟩ := bi h
      refine caPi (As := [.long (x3.toInt64), .long (0 : Int64), .long (2 : Int64)]) (rest := []) ⟨hx, hb, hml, hown, hts⟩ (mX1_isIn l (x3.toInt64) (0 : Int64) (2 : Int64) o9 ho10) (va_cwS 3 hts gX1_seats_X1_isIn rfl rfl rfl (by decide +kernel) ⟨Nat.le_of_ble_eq_true rfl, Nat.le_of_ble_eq_true rfl⟩) rfl hl.1 (Nat.le_of_ble_eq_true rfl) dX1_seats_30 ⟨Nat.zero_le _, Nat.zero_le _⟩ ?_
      refine lv_if_ne (tgt := 38) hx hb dX1_seats_33 (by decide) (fun c11 => ?_) (fun c11 => ?_)
      · replace h := br_n c11 h
        refine lv_aload_n hx hb dX1_seats_38 rfl (lv_at hl 0 rfl) ?_
        refine lv_iload_n hx hb dX1_seats_39 rfl (lv_at hl 1 rfl) ?_
        obtain ⟨o12, ho13, h⟩ := bi h
        refine caRl (q0 := 0) (As := [.int x1]) (rest := []) ⟨hx, hb, hml, hown, hts⟩ (mX1_sumOf l D kc q s1 x1 o12 ho13) (cwV 1 hts gX1_seats_X1_sumOf rfl rfl rfl (by decide +kernel) ⟨Nat.le_of_ble_eq_true rfl, Nat.le_of_ble_eq_true rfl⟩) hK hP rfl rfl rfl rfl hl.1 (Nat.le_of_ble_eq_true rfl) dX1_seats_40 ⟨Nat.zero_le _, Nat.zero_le _⟩ ?_
        refine lv_lstore (lv' := [(4, .long o12), (0, .ref (q 0)), (1, .int x1), (2, .int x2), (3, .int x3)]) hx hb dX1_seats_43 hl (by decide) rfl (fun ls hl => ?_)
        refine lv_lload hx hb dX1_seats_45 (lv_at hl 0 rfl) ?_
        refine lv_lconst (v := (0 : Int64)) hx hb dX1_seats_47 (by decide) ?_
        refine xl_ne (tgt := 55) hx hb dX1_seats_48 dX1_seats_49 (by decide) (fun c14 => ?_) (fun c14 => ?_)
        · replace h := br_n c14 h
          refine lv_aload_n hx hb dX1_seats_55 rfl (lv_at hl 1 rfl) ?_
          refine lv_aload_n hx hb dX1_seats_56 rfl (lv_at hl 1 rfl) ?_
          refine rdX1_many hx hb hts hinX1_seats hown hK hP (hts (.fieldLink RX1 19 "ExactSharesModel" "many" "[I") (List.mem_of_getElem? (i := 4) rfl)) dX1_seats_57 ?_
          refine lv_iload_n hx hb dX1_seats_60 rfl (lv_at hl 2 rfl) ?_
          obtain ⟨g15, h⟩ := gd_t h
          refine ldX1_many hx hb hK hP g15 dX1_seats_61 ?_
          refine wrX1_seated (v := ((m_many s1) x1.toNatClampNeg)) hx hb hts hinX1_seats hown hK hP hD hS (hts (.fieldLink RX1 23 "ExactSharesModel" "seated" "I") (List.mem_of_getElem? (i := 5) rfl)) dX1_seats_62 (fun H locs hP hD hS => ?_)
          obtain ⟨s16, e17, h⟩ := bd_e h
          replace hP : va_P D vwCl (wX1 kc q s16) H := by rw [e17]; exact hP
          replace hD : va_D A (wX1 kc q s16) := by rw [e17]; exact hD
          clear e17
          refine lv_iload_n hx hb dX1_seats_65 rfl (lv_at hl 3 rfl) ?_
          refine lv_istore (lv' := [(6, .int x2), (4, .long o12), (0, .ref (q 0)), (1, .int x1), (2, .int x2), (3, .int x3)]) hx hb dX1_seats_66 hl (by decide) rfl (fun ls hl => ?_)
          refine lv_iconst (v := (0 : Int32)) hx hb dX1_seats_68 (by decide) ?_
          refine lv_istore (lv' := [(7, .int (0 : Int32)), (6, .int x2), (4, .long o12), (0, .ref (q 0)), (1, .int x1), (2, .int x2), (3, .int x3)]) hx hb dX1_seats_69 hl (by decide) rfl (fun ls hl => ?_)
          exact wX1_seats_L71 C hA hK  s16 x1 x2 x3 o12 x2 (0 : Int32) H locs ls h hP hD hS (lv_sub hl [3, 4, 5, 6, 2, 1, 0] rfl)
        · replace h := br_p c14 h
          refine lv_bipush (v := (-2 : Int32)) hx hb dX1_seats_52 (by decide) ?_
          exact reMi (v := (-2 : Int32)) hx hb hr hlocks hK hP hD hS h dX1_seats_54
      · replace h := br_p c11 h
        refine lv_iconst (v := (-1 : Int32)) hx hb dX1_seats_36 (by decide) ?_
        exact reMi (v := (-1 : Int32)) hx hb hr hlocks hK hP hD hS h dX1_seats_37
