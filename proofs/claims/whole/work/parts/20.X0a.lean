abbrev rmX0_isFull : Room := { frames := 0, cells := 0, slots := 0, locals := 0 }
theorem hinX0_isFull : ∀ w ∈ u_ws RX0 TX0 13, w ∈ wsX0_isFull := by first | exact fun _ h => List.mem_cons_of_mem _ (List.mem_append_right _ h) | exact fun _ h => List.mem_cons_of_mem _ (List.mem_append_left _ (List.mem_append_right _ h)) | decide +kernel
def fX0_isFull (σ : CS)   : Option (Int32) := (if (c_numbers σ) < (40 : Int32) then (some (0 : Int32)) else (some (1 : Int32)))
set_option maxHeartbeats 4000000 in
set_option maxRecDepth 100000 in
theorem mX0_isFull (l : Launch) (D : va_G) (kc : Nat → ClassId) (q : Nat → Nat) (σ : CS)  (out : Int32) (h : fX0_isFull σ   = some out) : MRi l yX0_isFull wsX0_isFull rmX0_isFull D (tysX0 kc) (wX0 kc q σ) [.ref (q 0)] out := by
  refine ofRi (cc := cX0_isFull) (maxL := 1) (ret := (some .boolean)) (lv := [(0, .ref (q 0))]) (by decide) rfl (Nat.le_of_ble_eq_true rfl) rfl ?_
  intro p e s m args below meth c C hK hP ls hl
  have C : cxt p s m args meth c RX0 cX0_isFull 1 (some .boolean) wsX0_isFull := C
  obtain ⟨hx, hb, hr, hml, hown, hts, hlocks⟩ := id C
  unfold fX0_isFull at h
  refine lv_aload_n hx hb dX0_isFull_0 rfl (lv_at hl 0 rfl) ?_
  refine rdX0_numbers hx hb hts hinX0_isFull hown hK hP (hts (.fieldLink RX0 68 "ExactShares" "numbers" "I") (List.mem_of_getElem? (i := 1) rfl)) dX0_isFull_1 ?_
  refine lv_bipush (v := (40 : Int32)) hx hb dX0_isFull_4 (by decide) ?_
  refine lv_icmp_lt (tgt := 13) hx hb dX0_isFull_6 (by decide) (fun c1 => ?_) (fun c1 => ?_)
  · replace h := br_p c1 h
    refine lv_iconst (v := (0 : Int32)) hx hb dX0_isFull_13 (by decide) ?_
    exact reRz (v := (0 : Int32)) hx hb hr hlocks (by decide) h dX0_isFull_14
  · replace h := br_n c1 h
    refine lv_iconst (v := (1 : Int32)) hx hb dX0_isFull_9 (by decide) ?_
    refine lv_goto (tgt := 14) hx hb dX0_isFull_10 (by decide) ?_
    exact reRz (v := (1 : Int32)) hx hb hr hlocks (by decide) h dX0_isFull_14
abbrev rmX0_greatestDivisor : Room := { frames := 1, cells := 0, slots := 0, locals := 80 }
def fX0_greatestDivisor_L51    (x4 : Int64) : Option (Int64) := (some (jmax (1 : Int64) x4))
set_option maxHeartbeats 4000000 in
set_option maxRecDepth 100000 in
theorem wX0_greatestDivisor_L51 {p : Program} {l : Launch} {e : Env} {s : State} {m : MethodId} {args : Array Value} {below : List Frame} {meth : Method} {c : Code} {out : Int64} (C : cxt p s m args meth c RX0 cX0_greatestDivisor 11 (some .long) wsX0_greatestDivisor) (x4 : Int64) (ls : Array Slot) (h : fX0_greatestDivisor_L51   x4 = some out) (hl : lv_has ls 11 [(4, .long x4)]) : W p l e rmX0_greatestDivisor s m args below meth c s.heap [] 0 0 (MQ below (QRl out) args s 0 0 (fun _ => False)) (F0 m 51 ls []) := by
  obtain ⟨hx, hb, hr, hml, hown, hts, hlocks⟩ := id C
  unfold fX0_greatestDivisor_L51 at h
  refine lv_lconst (v := (1 : Int64)) hx hb dX0_greatestDivisor_51 (by decide) ?_
  refine lv_lload hx hb dX0_greatestDivisor_52 (lv_at hl 0 rfl) ?_
  refine va_mmax_long hx hb (hml.trans hl.1.symm) hown (hts (.methodLink RX0 185 Lib.MathLoose.max_long.x) (List.mem_of_getElem? (i := 5) rfl)) (hts (.static Lib.MathLoose.max_long.x) (List.mem_of_getElem? (i := 6) rfl)) (hts (.initialized "java/lang/Math") (List.mem_of_getElem? (i := 3) rfl)) (hts (.code Lib.MathLoose.max_long.x Lib.MathLoose.max_long.code 4 (some .long)) (List.mem_of_getElem? (i := 7) rfl)) (Nat.le_of_ble_eq_true rfl) (Nat.le_of_ble_eq_true rfl) (Nat.zero_le _) (Nat.zero_le _) dX0_greatestDivisor_54 ?_
  exact reRl (v := (jmax (1 : Int64) x4)) hx hb hr hlocks h dX0_greatestDivisor_57
def fX0_greatestDivisor_B15    (k15 : Int64 × Int64 × Int32 → Option (Int64)) (x4 : Int64) (x6 : Int64) (x8 : Int32) : Option (Int64) := (if (200 : Int32) ≤ x8 then (fX0_greatestDivisor_L51 x4) else (if x6 = (0 : Int64) then (fX0_greatestDivisor_L51 x4) else (if x6 = (0 : Int64) then none else (k15 (x6, (lmd x4 x6), (x8 + (1 : Int32)))))))
def fX0_greatestDivisor_L15    (x4 : Int64) (x6 : Int64) (x8 : Int32) : Option (Int64) := lp (fun k t => fX0_greatestDivisor_B15    k t.1 t.2.1 t.2.2) FU (x4, x6, x8)
set_option maxHeartbeats 4000000 in
set_option maxRecDepth 100000 in
theorem wX0_greatestDivisor_B15 {p : Program} {l : Launch} {e : Env} {s : State} {m : MethodId} {args : Array Value} {below : List Frame} {meth : Method} {c : Code} {out : Int64} (C : cxt p s m args meth c RX0 cX0_greatestDivisor 11 (some .long) wsX0_greatestDivisor) (k15 : Int64 × Int64 × Int32 → Option (Int64)) (hk15 : ∀ (x4 : Int64) (x6 : Int64) (x8 : Int32) (ls : Array Slot), k15 (x4, x6, x8) = some out → lv_has ls 11 [(4, .long x4), (6, .long x6), (8, .int x8)] → W p l e rmX0_greatestDivisor s m args below meth c s.heap [] 0 0 (MQ below (QRl out) args s 0 0 (fun _ => False)) (F0 m 15 ls [])) (x4 : Int64) (x6 : Int64) (x8 : Int32) (ls : Array Slot) (h : fX0_greatestDivisor_B15   k15 x4 x6 x8 = some out) (hl : lv_has ls 11 [(4, .long x4), (6, .long x6), (8, .int x8)]) : W p l e rmX0_greatestDivisor s m args below meth c s.heap [] 0 0 (MQ below (QRl out) args s 0 0 (fun _ => False)) (F0 m 15 ls []) := by
  obtain ⟨hx, hb, hr, hml, hown, hts, hlocks⟩ := id C
  unfold fX0_greatestDivisor_B15 at h
  refine lv_iload hx hb dX0_greatestDivisor_15 (lv_at hl 2 rfl) ?_
  refine lv_sipush (v := (200 : Int32)) hx hb dX0_greatestDivisor_17 (by decide) ?_
  refine lv_icmp_ge (tgt := 51) hx hb dX0_greatestDivisor_20 (by decide) (fun c1 => ?_) (fun c1 => ?_)
  · replace h := br_p c1 h
    exact wX0_greatestDivisor_L51 C  x4 ls h (lv_sub hl [0] rfl)
  · replace h := br_n c1 h
    refine lv_lload hx hb dX0_greatestDivisor_23 (lv_at hl 1 rfl) ?_
    refine lv_lconst (v := (0 : Int64)) hx hb dX0_greatestDivisor_25 (by decide) ?_
    refine xl_eq (tgt := 51) hx hb dX0_greatestDivisor_26 dX0_greatestDivisor_27 (by decide) (fun c2 => ?_) (fun c2 => ?_)
    · replace h := br_p c2 h
      exact wX0_greatestDivisor_L51 C  x4 ls h (lv_sub hl [0] rfl)
    · replace h := br_n c2 h
      refine lv_lload hx hb dX0_greatestDivisor_30 (lv_at hl 0 rfl) ?_
      refine lv_lload hx hb dX0_greatestDivisor_32 (lv_at hl 1 rfl) ?_
      obtain ⟨g3, h⟩ := gd_f h
      refine lv_lrem hx hb dX0_greatestDivisor_34 g3 ?_
      refine lv_lstore (lv' := [(9, .long (lmd x4 x6)), (4, .long x4), (6, .long x6), (8, .int x8)]) hx hb dX0_greatestDivisor_35 hl (by decide) rfl (fun ls hl => ?_)
      refine lv_lload hx hb dX0_greatestDivisor_37 (lv_at hl 2 rfl) ?_
      refine lv_lstore (lv' := [(4, .long x6), (9, .long (lmd x4 x6)), (6, .long x6), (8, .int x8)]) hx hb dX0_greatestDivisor_39 hl (by decide) rfl (fun ls hl => ?_)
      refine lv_lload hx hb dX0_greatestDivisor_41 (lv_at hl 1 rfl) ?_
      refine lv_lstore (lv' := [(6, .long (lmd x4 x6)), (4, .long x6), (9, .long (lmd x4 x6)), (8, .int x8)]) hx hb dX0_greatestDivisor_43 hl (by decide) rfl (fun ls hl => ?_)
      refine lv_iinc (v := (x8 + (1 : Int32))) (lv' := [(8, .int (x8 + (1 : Int32))), (6, .long (lmd x4 x6)), (4, .long x6), (9, .long (lmd x4 x6))]) hx hb dX0_greatestDivisor_45 hl (k := 3) rfl rfl (by decide) rfl (fun ls hl => ?_)
      refine lv_goto (tgt := 15) hx hb dX0_greatestDivisor_48 (by decide) ?_
      exact hk15 x6 (lmd x4 x6) (x8 + (1 : Int32)) ls h (lv_sub hl [2, 1, 0] rfl)
set_option maxHeartbeats 4000000 in
set_option maxRecDepth 100000 in
theorem wX0_greatestDivisor_L15 {p : Program} {l : Launch} {e : Env} {s : State} {m : MethodId} {args : Array Value} {below : List Frame} {meth : Method} {c : Code} {out : Int64} (C : cxt p s m args meth c RX0 cX0_greatestDivisor 11 (some .long) wsX0_greatestDivisor) (x4 : Int64) (x6 : Int64) (x8 : Int32) (ls : Array Slot) (h : fX0_greatestDivisor_L15   x4 x6 x8 = some out) (hl : lv_has ls 11 [(4, .long x4), (6, .long x6), (8, .int x8)]) : W p l e rmX0_greatestDivisor s m args below meth c s.heap [] 0 0 (MQ below (QRl out) args s 0 0 (fun _ => False)) (F0 m 15 ls []) := by
  unfold fX0_greatestDivisor_L15 at h
  exact lp_ind (P := fun t : Int64 × Int64 × Int32 => ∀ ls : Array Slot, lv_has ls 11 [(4, .long t.1), (6, .long t.2.1), (8, .int t.2.2)] → W p l e rmX0_greatestDivisor s m args below meth c s.heap [] 0 0 (MQ below (QRl out) args s 0 0 (fun _ => False)) (F0 m 15 ls [])) (fun k hk t h ls hl => wX0_greatestDivisor_B15 C  k (fun x4 x6 x8 ls h hl => hk (x4, x6, x8) h ls hl) t.1 t.2.1 t.2.2 ls h hl) FU (x4, x6, x8) h ls hl
def fX0_greatestDivisor  (x0 : Int64) (x2 : Int64) : Option (Int64) := (fX0_greatestDivisor_L15 (jabs x0) (jabs x2) (0 : Int32))
set_option maxHeartbeats 4000000 in
set_option maxRecDepth 100000 in
theorem mX0_greatestDivisor (l : Launch) (x0 : Int64) (x2 : Int64) (out : Int64) (h : fX0_greatestDivisor  x0 x2 = some out) : MPl l yX0_greatestDivisor wsX0_greatestDivisor rmX0_greatestDivisor [.long x0, .long x2] out := by
  refine ofPl (cc := cX0_greatestDivisor) (maxL := 11) (ret := (some .long)) (lv := [(0, .long x0), (2, .long x2)]) (plainFor_of_name (by decide)) rfl (Nat.le_of_ble_eq_true rfl) rfl ?_
  intro p e s m args below meth c C ls hl
  have C : cxt p s m args meth c RX0 cX0_greatestDivisor 11 (some .long) wsX0_greatestDivisor := C
  obtain ⟨hx, hb, hr, hml, hown, hts, hlocks⟩ := id C
  unfold fX0_greatestDivisor at h
  refine lv_lload_n hx hb dX0_greatestDivisor_0 rfl (lv_at hl 0 rfl) ?_
  refine va_mabs_long hx hb (hml.trans hl.1.symm) hown (hts (.methodLink RX0 179 Lib.MathLoose.abs_long.x) (List.mem_of_getElem? (i := 1) rfl)) (hts (.static Lib.MathLoose.abs_long.x) (List.mem_of_getElem? (i := 2) rfl)) (hts (.initialized "java/lang/Math") (List.mem_of_getElem? (i := 3) rfl)) (hts (.code Lib.MathLoose.abs_long.x Lib.MathLoose.abs_long.code 2 (some .long)) (List.mem_of_getElem? (i := 4) rfl)) (Nat.le_of_ble_eq_true rfl) (Nat.le_of_ble_eq_true rfl) (Nat.zero_le _) (Nat.zero_le _) dX0_greatestDivisor_1 ?_
  refine lv_lstore (lv' := [(4, .long (jabs x0)), (0, .long x0), (2, .long x2)]) hx hb dX0_greatestDivisor_4 hl (by decide) rfl (fun ls hl => ?_)
  refine lv_lload_n hx hb dX0_greatestDivisor_6 rfl (lv_at hl 2 rfl) ?_
  refine va_mabs_long hx hb (hml.trans hl.1.symm) hown (hts (.methodLink RX0 179 Lib.MathLoose.abs_long.x) (List.mem_of_getElem? (i := 1) rfl)) (hts (.static Lib.MathLoose.abs_long.x) (List.mem_of_getElem? (i := 2) rfl)) (hts (.initialized "java/lang/Math") (List.mem_of_getElem? (i := 3) rfl)) (hts (.code Lib.MathLoose.abs_long.x Lib.MathLoose.abs_long.code 2 (some .long)) (List.mem_of_getElem? (i := 4) rfl)) (Nat.le_of_ble_eq_true rfl) (Nat.le_of_ble_eq_true rfl) (Nat.zero_le _) (Nat.zero_le _) dX0_greatestDivisor_7 ?_
  refine lv_lstore (lv' := [(6, .long (jabs x2)), (4, .long (jabs x0)), (0, .long x0), (2, .long x2)]) hx hb dX0_greatestDivisor_10 hl (by decide) rfl (fun ls hl => ?_)
  refine lv_iconst (v := (0 : Int32)) hx hb dX0_greatestDivisor_12 (by decide) ?_
  refine lv_istore (lv' := [(8, .int (0 : Int32)), (6, .long (jabs x2)), (4, .long (jabs x0)), (0, .long x0), (2, .long x2)]) hx hb dX0_greatestDivisor_13 hl (by decide) rfl (fun ls hl => ?_)
  exact wX0_greatestDivisor_L15 C  (jabs x0) (jabs x2) (0 : Int32) ls h (lv_sub hl [2, 1, 0] rfl)
abbrev rmX0_keep : Room := { frames := 2, cells := 0, slots := 0, locals := 110 }
theorem hinX0_keep : ∀ w ∈ u_ws RX0 TX0 13, w ∈ wsX0_keep := by first | exact fun _ h => List.mem_cons_of_mem _ (List.mem_append_right _ h) | exact fun _ h => List.mem_cons_of_mem _ (List.mem_append_left _ (List.mem_append_right _ h)) | decide +kernel
def fX0_keep (σ : CS)  (x1 : Int64) (x3 : Int64) : Option (Int32 × CS) := ((fX0_isFull σ).bind fun o1 => (if o1 = (0 : Int32) then ((fX0_greatestDivisor x1 x3).bind fun o4 => (if o4 = (0 : Int64) then none else (if ix (c_numbers σ) 40 = true then (bd (sc_above σ (vp_updL (c_above σ) (c_numbers σ).toNatClampNeg (x1 / o4))) fun s8 => (if o4 = (0 : Int64) then none else (if ix (c_numbers s8) 40 = true then (bd (sc_below s8 (vp_updL (c_below s8) (c_numbers s8).toNatClampNeg (x3 / o4))) fun s12 => (bd (sc_numbers s12 ((c_numbers s12) + (1 : Int32))) fun s14 => (some (((c_numbers s14) - (1 : Int32)), s14)))) else none))) else none))) else (some ((-4 : Int32), σ))))
set_option maxHeartbeats 4000000 in
set_option maxRecDepth 100000 in
theorem mX0_keep (l : Launch) (D : va_G) (kc : Nat → ClassId) (q : Nat → Nat) (σ : CS) (x1 : Int64) (x3 : Int64) (out : Int32 × CS) (h : fX0_keep σ  x1 x3 = some out) : MMi l yX0_keep wsX0_keep rmX0_keep D (tysX0 kc) (wX0 kc q) σ [.ref (q 0), .long x1, .long x3] out := by
  refine ofMi (cc := cX0_keep) (maxL := 7) (ret := (some .int)) (lv := [(0, .ref (q 0)), (1, .long x1), (3, .long x3)]) (by decide) rfl (Nat.le_of_ble_eq_true rfl) rfl ?_
  intro p e s m args below meth c A C hA hK hP hD hS ls hl
  have C : cxt p s m args meth c RX0 cX0_keep 7 (some .int) wsX0_keep := C
  obtain ⟨hx, hb, hr, hml, hown, hts, hlocks⟩ := id C
  obtain ⟨H, hH⟩ : ∃ H, H = s.heap := ⟨_, rfl⟩
  obtain ⟨locs, hlocs⟩ : ∃ locs : List Loc, locs = [] := ⟨_, rfl⟩
  have hS : va_S A s.heap H locs := by rw [hH, hlocs]; exact va_S.rf
  rw [← hH] at hP
  suffices hW : W p l e rmX0_keep s m args below meth c H locs 0 0 _ (F0 m 0 ls []) by rw [hH, hlocs] at hW; exact hW
  unfold fX0_keep at h
  refine lv_aload_n hx hb dX0_keep_0 rfl (lv_at hl 0 rfl) ?_
  obtain ⟨o1, ho2, h⟩ := bi h
  refine caRi (q0 := 0) (As := []) (rest := []) ⟨hx, hb, hml, hown, hts⟩ (mX0_isFull l D kc q σ  o1 ho2) (cwV 0 hts gX0_keep_X0_isFull rfl rfl rfl (by decide +kernel) ⟨Nat.le_of_ble_eq_true rfl, Nat.le_of_ble_eq_true rfl⟩) hK hP rfl rfl rfl rfl hl.1 (Nat.le_of_ble_eq_true rfl) dX0_keep_1 ⟨Nat.zero_le _, Nat.zero_le _⟩ ?_
  refine lv_if_eq (tgt := 10) hx hb dX0_keep_4 (by decide) (fun c3 => ?_) (fun c3 => ?_)
  · replace h := br_p c3 h
    refine lv_lload_n hx hb dX0_keep_10 rfl (lv_at hl 1 rfl) ?_
    refine lv_lload_n hx hb dX0_keep_11 rfl (lv_at hl 2 rfl) ?_
    obtain ⟨o4, ho5, h⟩ := bi h
    refine caPl (As := [.long x1, .long x3]) (rest := []) ⟨hx, hb, hml, hown, hts⟩ (mX0_greatestDivisor l x1 x3 o4 ho5) (va_cwS 2 hts gX0_keep_X0_greatestDivisor rfl rfl rfl (by decide +kernel) ⟨Nat.le_of_ble_eq_true rfl, Nat.le_of_ble_eq_true rfl⟩) rfl hl.1 (Nat.le_of_ble_eq_true rfl) dX0_keep_12 ⟨Nat.zero_le _, Nat.zero_le _⟩ ?_
    refine lv_lstore (lv' := [(5, .long o4), (0, .ref (q 0)), (1, .long x1), (3, .long x3)]) hx hb dX0_keep_15 hl (by decide) rfl (fun ls hl => ?_)
    refine lv_aload_n hx hb dX0_keep_17 rfl (lv_at hl 1 rfl) ?_
    refine rdX0_above hx hb hts hinX0_keep hown hK hP (hts (.fieldLink RX0 11 "ExactShares" "above" "[J") (List.mem_of_getElem? (i := 1) rfl)) dX0_keep_18 ?_
    refine lv_aload_n hx hb dX0_keep_21 rfl (lv_at hl 1 rfl) ?_
    refine rdX0_numbers hx hb hts hinX0_keep hown hK hP (hts (.fieldLink RX0 68 "ExactShares" "numbers" "I") (List.mem_of_getElem? (i := 2) rfl)) dX0_keep_22 ?_
    refine lv_lload_n hx hb dX0_keep_25 rfl (lv_at hl 2 rfl) ?_
    refine lv_lload hx hb dX0_keep_26 (lv_at hl 0 rfl) ?_
    obtain ⟨g6, h⟩ := gd_f h
    refine lv_ldiv hx hb dX0_keep_28 g6 ?_
    obtain ⟨g7, h⟩ := gd_t h
    refine stX0_above (x := (x1 / o4)) hx hb hK hP hD hS g7 dX0_keep_29 (fun H locs hP hD hS => ?_)
    obtain ⟨s8, e9, h⟩ := bd_e h
    replace hP : va_P D vwCl (wX0 kc q s8) H := by rw [e9]; exact hP
    replace hD : va_D A (wX0 kc q s8) := by rw [e9]; exact hD
    clear e9
    refine lv_aload_n hx hb dX0_keep_30 rfl (lv_at hl 1 rfl) ?_
    refine rdX0_below hx hb hts hinX0_keep hown hK hP (hts (.fieldLink RX0 15 "ExactShares" "below" "[J") (List.mem_of_getElem? (i := 3) rfl)) dX0_keep_31 ?_
    refine lv_aload_n hx hb dX0_keep_34 rfl (lv_at hl 1 rfl) ?_
    refine rdX0_numbers hx hb hts hinX0_keep hown hK hP (hts (.fieldLink RX0 68 "ExactShares" "numbers" "I") (List.mem_of_getElem? (i := 2) rfl)) dX0_keep_35 ?_
    refine lv_lload_n hx hb dX0_keep_38 rfl (lv_at hl 3 rfl) ?_
    refine lv_lload hx hb dX0_keep_39 (lv_at hl 0 rfl) ?_
    obtain ⟨g10, h⟩ := gd_f h
    refine lv_ldiv hx hb dX0_keep_41 g10 ?_
    obtain ⟨g11, h⟩ := gd_t h
    refine stX0_below (x := (x3 / o4)) hx hb hK hP hD hS g11 dX0_keep_42 (fun H locs hP hD hS => ?_)
    obtain ⟨s12, e13, h⟩ := bd_e h
    replace hP : va_P D vwCl (wX0 kc q s12) H := by rw [e13]; exact hP
    replace hD : va_D A (wX0 kc q s12) := by rw [e13]; exact hD
    clear e13
    refine lv_aload_n hx hb dX0_keep_43 rfl (lv_at hl 1 rfl) ?_
    refine lv_dup hx hb dX0_keep_44 rfl ?_
    refine rdX0_numbers hx hb hts hinX0_keep hown hK hP (hts (.fieldLink RX0 68 "ExactShares" "numbers" "I") (List.mem_of_getElem? (i := 2) rfl)) dX0_keep_45 ?_
    refine lv_iconst (v := (1 : Int32)) hx hb dX0_keep_48 (by decide) ?_
    refine lv_iadd hx hb dX0_keep_49 ?_
    refine wrX0_numbers (v := ((c_numbers s12) + (1 : Int32))) hx hb hts hinX0_keep hown hK hP hD hS (hts (.fieldLink RX0 68 "ExactShares" "numbers" "I") (List.mem_of_getElem? (i := 2) rfl)) dX0_keep_50 (fun H locs hP hD hS => ?_)
    obtain ⟨s14, e15, h⟩ := bd_e h
    replace hP : va_P D vwCl (wX0 kc q s14) H := by rw [e15]; exact hP
    replace hD : va_D A (wX0 kc q s14) := by rw [e15]; exact hD
    clear e15
    refine lv_aload_n hx hb dX0_keep_53 rfl (lv_at hl 1 rfl) ?_
    refine rdX0_numbers hx hb hts hinX0_keep hown hK hP (hts (.fieldLink RX0 68 "ExactShares" "numbers" "I") (List.mem_of_getElem? (i := 2) rfl)) dX0_keep_54 ?_
    refine lv_iconst (v := (1 : Int32)) hx hb dX0_keep_57 (by decide) ?_
    refine lv_isub hx hb dX0_keep_58 ?_
    exact reMi (v := ((c_numbers s14) - (1 : Int32))) hx hb hr hlocks hK hP hD hS h dX0_keep_59
  · replace h := br_n c3 h
    refine lv_bipush (v := (-4 : Int32)) hx hb dX0_keep_7 (by decide) ?_
    exact reMi (v := (-4 : Int32)) hx hb hr hlocks hK hP hD hS h dX0_keep_9
abbrev rmX0_value : Room := { frames := 3, cells := 0, slots := 0, locals := 136 }
def fX0_value (σ : CS)  (x1 : Int64) (x3 : Int64) : Option (Int32 × CS) := (if x3 = (0 : Int64) then (some ((-2 : Int32), σ)) else (if x1 = (-9223372036854775808 : Int64) then (some ((-3 : Int32), σ)) else (if x3 = (-9223372036854775808 : Int64) then (some ((-3 : Int32), σ)) else (if (0 : Int64) ≤ x3 then ((fX0_keep σ x1 x3).bind fun o5 => (some (o5.1, o5.2))) else ((fX0_keep σ (-x1) (-x3)).bind fun o7 => (some (o7.1, o7.2)))))))
set_option maxHeartbeats 4000000 in
set_option maxRecDepth 100000 in
theorem mX0_value (l : Launch) (D : va_G) (kc : Nat → ClassId) (q : Nat → Nat) (σ : CS) (x1 : Int64) (x3 : Int64) (out : Int32 × CS) (h : fX0_value σ  x1 x3 = some out) : MMi l yX0_value wsX0_value rmX0_value D (tysX0 kc) (wX0 kc q) σ [.ref (q 0), .long x1, .long x3] out := by
  refine ofMi (cc := cX0_value) (maxL := 5) (ret := (some .int)) (lv := [(0, .ref (q 0)), (1, .long x1), (3, .long x3)]) (by decide) rfl (Nat.le_of_ble_eq_true rfl) rfl ?_
  intro p e s m args below meth c A C hA hK hP hD hS ls hl
  have C : cxt p s m args meth c RX0 cX0_value 5 (some .int) wsX0_value := C
  obtain ⟨hx, hb, hr, hml, hown, hts, hlocks⟩ := id C
  obtain ⟨H, hH⟩ : ∃ H, H = s.heap := ⟨_, rfl⟩
  obtain ⟨locs, hlocs⟩ : ∃ locs : List Loc, locs = [] := ⟨_, rfl⟩
  have hS : va_S A s.heap H locs := by rw [hH, hlocs]; exact va_S.rf
  rw [← hH] at hP
  suffices hW : W p l e rmX0_value s m args below meth c H locs 0 0 _ (F0 m 0 ls []) by rw [hH, hlocs] at hW; exact hW
  unfold fX0_value at h
  refine lv_lload_n hx hb dX0_value_0 rfl (lv_at hl 2 rfl) ?_
  refine lv_lconst (v := (0 : Int64)) hx hb dX0_value_1 (by decide) ?_
  refine xl_ne (tgt := 9) hx hb dX0_value_2 dX0_value_3 (by decide) (fun c1 => ?_) (fun c1 => ?_)
  · replace h := br_n c1 h
    refine lv_lload_n hx hb dX0_value_9 rfl (lv_at hl 1 rfl) ?_
    refine lv_ldc2 (v := (-9223372036854775808 : Int64)) hx hb hown (hts (.constantLong RX0 36 (-9223372036854775808)) (List.mem_of_getElem? (i := 1) rfl)) dX0_value_10 ?_
    refine xl_eq (tgt := 25) hx hb dX0_value_13 dX0_value_14 (by decide) (fun c2 => ?_) (fun c2 => ?_)
    · replace h := br_p c2 h
      refine lv_bipush (v := (-3 : Int32)) hx hb dX0_value_25 (by decide) ?_
      exact reMi (v := (-3 : Int32)) hx hb hr hlocks hK hP hD hS h dX0_value_27
    · replace h := br_n c2 h
      refine lv_lload_n hx hb dX0_value_17 rfl (lv_at hl 2 rfl) ?_
      refine lv_ldc2 (v := (-9223372036854775808 : Int64)) hx hb hown (hts (.constantLong RX0 36 (-9223372036854775808)) (List.mem_of_getElem? (i := 1) rfl)) dX0_value_18 ?_
      refine xl_ne (tgt := 28) hx hb dX0_value_21 dX0_value_22 (by decide) (fun c3 => ?_) (fun c3 => ?_)
      · replace h := br_n c3 h
        refine lv_lload_n hx hb dX0_value_28 rfl (lv_at hl 2 rfl) ?_
        refine lv_lconst (v := (0 : Int64)) hx hb dX0_value_29 (by decide) ?_
        refine xl_ge (tgt := 45) hx hb dX0_value_30 dX0_value_31 (by decide) (fun c4 => ?_) (fun c4 => ?_)
        · replace h := br_p c4 h
          refine lv_aload_n hx hb dX0_value_45 rfl (lv_at hl 0 rfl) ?_
          refine lv_lload_n hx hb dX0_value_46 rfl (lv_at hl 1 rfl) ?_
          refine lv_lload_n hx hb dX0_value_47 rfl (lv_at hl 2 rfl) ?_
          obtain ⟨o5, ho6, h⟩ := bi h
          refine caMi (q0 := 0) (As := [.long x1, .long x3]) (rest := []) ⟨hx, hb, hml, hown, hts⟩ (mX0_keep l D kc q σ x1 x3 o5 ho6) (cwV 2 hts gX0_value_X0_keep rfl rfl rfl (by decide +kernel) ⟨Nat.le_of_ble_eq_true rfl, Nat.le_of_ble_eq_true rfl⟩) hK hP hD hS hA rfl rfl rfl rfl hl.1 (Nat.le_of_ble_eq_true rfl) dX0_value_48 ⟨Nat.zero_le _, Nat.zero_le _⟩ (fun H locs hP hD hS => ?_)
          exact reMi (v := o5.1) hx hb hr hlocks hK hP hD hS h dX0_value_51
        · replace h := br_n c4 h
          refine lv_aload_n hx hb dX0_value_34 rfl (lv_at hl 0 rfl) ?_
          refine lv_lload_n hx hb dX0_value_35 rfl (lv_at hl 1 rfl) ?_
          refine lv_lneg hx hb dX0_value_36 ?_
          refine lv_lload_n hx hb dX0_value_37 rfl (lv_at hl 2 rfl) ?_
          refine lv_lneg hx hb dX0_value_38 ?_
          obtain ⟨o7, ho8, h⟩ := bi h
          refine caMi (q0 := 0) (As := [.long (-x1), .long (-x3)]) (rest := []) ⟨hx, hb, hml, hown, hts⟩ (mX0_keep l D kc q σ (-x1) (-x3) o7 ho8) (cwV 2 hts gX0_value_X0_keep rfl rfl rfl (by decide +kernel) ⟨Nat.le_of_ble_eq_true rfl, Nat.le_of_ble_eq_true rfl⟩) hK hP hD hS hA rfl rfl rfl rfl hl.1 (Nat.le_of_ble_eq_true rfl) dX0_value_39 ⟨Nat.zero_le _, Nat.zero_le _⟩ (fun H locs hP hD hS => ?_)
          refine lv_goto (tgt := 51) hx hb dX0_value_42 (by decide) ?_
          exact reMi (v := o7.1) hx hb hr hlocks hK hP hD hS h dX0_value_51
      · replace h := br_p c3 h
        refine lv_bipush (v := (-3 : Int32)) hx hb dX0_value_25 (by decide) ?_
        exact reMi (v := (-3 : Int32)) hx hb hr hlocks hK hP hD hS h dX0_value_27
  · replace h := br_p c1 h
    refine lv_bipush (v := (-2 : Int32)) hx hb dX0_value_6 (by decide) ?_
    exact reMi (v := (-2 : Int32)) hx hb hr hlocks hK hP hD hS h dX0_value_8
abbrev rmX0_isNumber : Room := { frames := 0, cells := 0, slots := 0, locals := 0 }
theorem hinX0_isNumber : ∀ w ∈ u_ws RX0 TX0 13, w ∈ wsX0_isNumber := by first | exact fun _ h => List.mem_cons_of_mem _ (List.mem_append_right _ h) | exact fun _ h => List.mem_cons_of_mem _ (List.mem_append_left _ (List.mem_append_right _ h)) | decide +kernel
def fX0_isNumber (σ : CS)  (x1 : Int32) : Option (Int32) := (if x1 < (0 : Int32) then (some (0 : Int32)) else (if (c_numbers σ) ≤ x1 then (some (0 : Int32)) else (some (1 : Int32))))
set_option maxHeartbeats 4000000 in
set_option maxRecDepth 100000 in
theorem mX0_isNumber (l : Launch) (D : va_G) (kc : Nat → ClassId) (q : Nat → Nat) (σ : CS) (x1 : Int32) (out : Int32) (h : fX0_isNumber σ  x1 = some out) : MRi l yX0_isNumber wsX0_isNumber rmX0_isNumber D (tysX0 kc) (wX0 kc q σ) [.ref (q 0), .int x1] out := by
  refine ofRi (cc := cX0_isNumber) (maxL := 2) (ret := (some .boolean)) (lv := [(0, .ref (q 0)), (1, .int x1)]) (by decide) rfl (Nat.le_of_ble_eq_true rfl) rfl ?_
  intro p e s m args below meth c C hK hP ls hl
  have C : cxt p s m args meth c RX0 cX0_isNumber 2 (some .boolean) wsX0_isNumber := C
  obtain ⟨hx, hb, hr, hml, hown, hts, hlocks⟩ := id C
  unfold fX0_isNumber at h
  refine lv_iload_n hx hb dX0_isNumber_0 rfl (lv_at hl 1 rfl) ?_
  refine lv_if_lt (tgt := 16) hx hb dX0_isNumber_1 (by decide) (fun c1 => ?_) (fun c1 => ?_)
  · replace h := br_p c1 h
    refine lv_iconst (v := (0 : Int32)) hx hb dX0_isNumber_16 (by decide) ?_
    exact reRz (v := (0 : Int32)) hx hb hr hlocks (by decide) h dX0_isNumber_17
  · replace h := br_n c1 h
    refine lv_iload_n hx hb dX0_isNumber_4 rfl (lv_at hl 1 rfl) ?_
    refine lv_aload_n hx hb dX0_isNumber_5 rfl (lv_at hl 0 rfl) ?_
    refine rdX0_numbers hx hb hts hinX0_isNumber hown hK hP (hts (.fieldLink RX0 68 "ExactShares" "numbers" "I") (List.mem_of_getElem? (i := 1) rfl)) dX0_isNumber_6 ?_
    refine lv_icmp_ge (tgt := 16) hx hb dX0_isNumber_9 (by decide) (fun c2 => ?_) (fun c2 => ?_)
    · replace h := br_p c2 h
      refine lv_iconst (v := (0 : Int32)) hx hb dX0_isNumber_16 (by decide) ?_
      exact reRz (v := (0 : Int32)) hx hb hr hlocks (by decide) h dX0_isNumber_17
    · replace h := br_n c2 h
      refine lv_iconst (v := (1 : Int32)) hx hb dX0_isNumber_12 (by decide) ?_
      refine lv_goto (tgt := 17) hx hb dX0_isNumber_13 (by decide) ?_
      exact reRz (v := (1 : Int32)) hx hb hr hlocks (by decide) h dX0_isNumber_17
abbrev rmX0_times : Room := { frames := 1, cells := 0, slots := 0, locals := 80 }
def fX0_times_L48    (x0 : Int64) (x2 : Int64) : Option (Int64) := (some (x0 * x2))
set_option maxHeartbeats 4000000 in
set_option maxRecDepth 100000 in
theorem wX0_times_L48 {p : Program} {l : Launch} {e : Env} {s : State} {m : MethodId} {args : Array Value} {below : List Frame} {meth : Method} {c : Code} {out : Int64} (C : cxt p s m args meth c RX0 cX0_times 4 (some .long) wsX0_times) (x0 : Int64) (x2 : Int64) (ls : Array Slot) (h : fX0_times_L48   x0 x2 = some out) (hl : lv_has ls 4 [(0, .long x0), (2, .long x2)]) : W p l e rmX0_times s m args below meth c s.heap [] 0 0 (MQ below (QRl out) args s 0 0 (fun _ => False)) (F0 m 48 ls []) := by
  obtain ⟨hx, hb, hr, hml, hown, hts, hlocks⟩ := id C
  unfold fX0_times_L48 at h
  refine lv_lload_n hx hb dX0_times_48 rfl (lv_at hl 0 rfl) ?_
  refine lv_lload_n hx hb dX0_times_49 rfl (lv_at hl 1 rfl) ?_
  refine lv_lmul hx hb dX0_times_50 ?_
  exact reRl (v := (x0 * x2)) hx hb hr hlocks h dX0_times_51
def fX0_times  (x0 : Int64) (x2 : Int64) : Option (Int64) := (if x0 = (-9223372036854775808 : Int64) then (some (-9223372036854775808 : Int64)) else (if x2 = (-9223372036854775808 : Int64) then (some (-9223372036854775808 : Int64)) else (if x2 = (0 : Int64) then (fX0_times_L48 x0 x2) else (if (jabs x2) = (0 : Int64) then none else (if (jabs x0) ≤ ((9223372036854775807 : Int64) / (jabs x2)) then (fX0_times_L48 x0 x2) else (some (-9223372036854775808 : Int64)))))))
set_option maxHeartbeats 4000000 in
set_option maxRecDepth 100000 in
theorem mX0_times (l : Launch) (x0 : Int64) (x2 : Int64) (out : Int64) (h : fX0_times  x0 x2 = some out) : MPl l yX0_times wsX0_times rmX0_times [.long x0, .long x2] out := by
  refine ofPl (cc := cX0_times) (maxL := 4) (ret := (some .long)) (lv := [(0, .long x0), (2, .long x2)]) (plainFor_of_name (by decide)) rfl (Nat.le_of_ble_eq_true rfl) rfl ?_
  intro p e s m args below meth c C ls hl
  have C : cxt p s m args meth c RX0 cX0_times 4 (some .long) wsX0_times := C
  obtain ⟨hx, hb, hr, hml, hown, hts, hlocks⟩ := id C
  unfold fX0_times at h
  refine lv_lload_n hx hb dX0_times_0 rfl (lv_at hl 0 rfl) ?_
  refine lv_ldc2 (v := (-9223372036854775808 : Int64)) hx hb hown (hts (.constantLong RX0 36 (-9223372036854775808)) (List.mem_of_getElem? (i := 1) rfl)) dX0_times_1 ?_
  refine xl_eq (tgt := 16) hx hb dX0_times_4 dX0_times_5 (by decide) (fun c1 => ?_) (fun c1 => ?_)
  · replace h := br_p c1 h
    refine lv_ldc2 (v := (-9223372036854775808 : Int64)) hx hb hown (hts (.constantLong RX0 36 (-9223372036854775808)) (List.mem_of_getElem? (i := 1) rfl)) dX0_times_16 ?_
    exact reRl (v := (-9223372036854775808 : Int64)) hx hb hr hlocks h dX0_times_19
  · replace h := br_n c1 h
    refine lv_lload_n hx hb dX0_times_8 rfl (lv_at hl 1 rfl) ?_
    refine lv_ldc2 (v := (-9223372036854775808 : Int64)) hx hb hown (hts (.constantLong RX0 36 (-9223372036854775808)) (List.mem_of_getElem? (i := 1) rfl)) dX0_times_9 ?_
    refine xl_ne (tgt := 20) hx hb dX0_times_12 dX0_times_13 (by decide) (fun c2 => ?_) (fun c2 => ?_)
    · replace h := br_n c2 h
      refine lv_lload_n hx hb dX0_times_20 rfl (lv_at hl 1 rfl) ?_
      refine lv_lconst (v := (0 : Int64)) hx hb dX0_times_21 (by decide) ?_
      refine xl_eq (tgt := 48) hx hb dX0_times_22 dX0_times_23 (by decide) (fun c3 => ?_) (fun c3 => ?_)
      · replace h := br_p c3 h
        exact wX0_times_L48 C  x0 x2 ls h (lv_sub hl [0, 1] rfl)
      · replace h := br_n c3 h
        refine lv_lload_n hx hb dX0_times_26 rfl (lv_at hl 0 rfl) ?_
        refine va_mabs_long hx hb (hml.trans hl.1.symm) hown (hts (.methodLink RX0 179 Lib.MathLoose.abs_long.x) (List.mem_of_getElem? (i := 2) rfl)) (hts (.static Lib.MathLoose.abs_long.x) (List.mem_of_getElem? (i := 3) rfl)) (hts (.initialized "java/lang/Math") (List.mem_of_getElem? (i := 4) rfl)) (hts (.code Lib.MathLoose.abs_long.x Lib.MathLoose.abs_long.code 2 (some .long)) (List.mem_of_getElem? (i := 5) rfl)) (Nat.le_of_ble_eq_true rfl) (Nat.le_of_ble_eq_true rfl) (Nat.zero_le _) (Nat.zero_le _) dX0_times_27 ?_
        refine lv_ldc2 (v := (9223372036854775807 : Int64)) hx hb hown (hts (.constantLong RX0 183 (9223372036854775807)) (List.mem_of_getElem? (i := 6) rfl)) dX0_times_30 ?_
        refine lv_lload_n hx hb dX0_times_33 rfl (lv_at hl 1 rfl) ?_
        refine va_mabs_long hx hb (hml.trans hl.1.symm) hown (hts (.methodLink RX0 179 Lib.MathLoose.abs_long.x) (List.mem_of_getElem? (i := 2) rfl)) (hts (.static Lib.MathLoose.abs_long.x) (List.mem_of_getElem? (i := 3) rfl)) (hts (.initialized "java/lang/Math") (List.mem_of_getElem? (i := 4) rfl)) (hts (.code Lib.MathLoose.abs_long.x Lib.MathLoose.abs_long.code 2 (some .long)) (List.mem_of_getElem? (i := 5) rfl)) (Nat.le_of_ble_eq_true rfl) (Nat.le_of_ble_eq_true rfl) (Nat.zero_le _) (Nat.zero_le _) dX0_times_34 ?_
        obtain ⟨g4, h⟩ := gd_f h
        refine lv_ldiv hx hb dX0_times_37 g4 ?_
        refine xl_le (tgt := 48) hx hb dX0_times_38 dX0_times_39 (by decide) (fun c5 => ?_) (fun c5 => ?_)
        · replace h := br_p c5 h
          exact wX0_times_L48 C  x0 x2 ls h (lv_sub hl [0, 1] rfl)
        · replace h := br_n c5 h
          refine lv_ldc2 (v := (-9223372036854775808 : Int64)) hx hb hown (hts (.constantLong RX0 36 (-9223372036854775808)) (List.mem_of_getElem? (i := 1) rfl)) dX0_times_42 ?_
          refine lv_goto (tgt := 51) hx hb dX0_times_45 (by decide) ?_
          exact reRl (v := (-9223372036854775808 : Int64)) hx hb hr hlocks h dX0_times_51
    · replace h := br_p c2 h
      refine lv_ldc2 (v := (-9223372036854775808 : Int64)) hx hb hown (hts (.constantLong RX0 36 (-9223372036854775808)) (List.mem_of_getElem? (i := 1) rfl)) dX0_times_16 ?_
      exact reRl (v := (-9223372036854775808 : Int64)) hx hb hr hlocks h dX0_times_19
abbrev rmX0_plus : Room := { frames := 0, cells := 0, slots := 0, locals := 0 }
def fX0_plus_L68    (x4 : Int64) (y0 : Int32) : Option (Int64) := (if y0 = (0 : Int32) then (some x4) else (some (-9223372036854775808 : Int64)))
set_option maxHeartbeats 4000000 in
set_option maxRecDepth 100000 in
theorem wX0_plus_L68 {p : Program} {l : Launch} {e : Env} {s : State} {m : MethodId} {args : Array Value} {below : List Frame} {meth : Method} {c : Code} {out : Int64} (C : cxt p s m args meth c RX0 cX0_plus 7 (some .long) wsX0_plus) (x4 : Int64) (y0 : Int32) (ls : Array Slot) (h : fX0_plus_L68   x4 y0 = some out) (hl : lv_has ls 7 [(4, .long x4)]) : W p l e rmX0_plus s m args below meth c s.heap [] 0 0 (MQ below (QRl out) args s 0 0 (fun _ => False)) (F0 m 68 ls [.int y0]) := by
  obtain ⟨hx, hb, hr, hml, hown, hts, hlocks⟩ := id C
  unfold fX0_plus_L68 at h
  refine lv_istore (lv' := [(6, .int y0), (4, .long x4)]) hx hb dX0_plus_68 hl (by decide) rfl (fun ls hl => ?_)
  refine lv_iload hx hb dX0_plus_70 (lv_at hl 0 rfl) ?_
  refine lv_if_eq (tgt := 81) hx hb dX0_plus_72 (by decide) (fun c1 => ?_) (fun c1 => ?_)
  · replace h := br_p c1 h
    refine lv_lload hx hb dX0_plus_81 (lv_at hl 1 rfl) ?_
    exact reRl (v := x4) hx hb hr hlocks h dX0_plus_83
  · replace h := br_n c1 h
    refine lv_ldc2 (v := (-9223372036854775808 : Int64)) hx hb hown (hts (.constantLong RX0 36 (-9223372036854775808)) (List.mem_of_getElem? (i := 1) rfl)) dX0_plus_75 ?_
    refine lv_goto (tgt := 83) hx hb dX0_plus_78 (by decide) ?_
    exact reRl (v := (-9223372036854775808 : Int64)) hx hb hr hlocks h dX0_plus_83
def fX0_plus_L67    (x4 : Int64) : Option (Int64) := (fX0_plus_L68 x4 (0 : Int32))
set_option maxHeartbeats 4000000 in
set_option maxRecDepth 100000 in
theorem wX0_plus_L67 {p : Program} {l : Launch} {e : Env} {s : State} {m : MethodId} {args : Array Value} {below : List Frame} {meth : Method} {c : Code} {out : Int64} (C : cxt p s m args meth c RX0 cX0_plus 7 (some .long) wsX0_plus) (x4 : Int64) (ls : Array Slot) (h : fX0_plus_L67   x4 = some out) (hl : lv_has ls 7 [(4, .long x4)]) : W p l e rmX0_plus s m args below meth c s.heap [] 0 0 (MQ below (QRl out) args s 0 0 (fun _ => False)) (F0 m 67 ls []) := by
  obtain ⟨hx, hb, hr, hml, hown, hts, hlocks⟩ := id C
  unfold fX0_plus_L67 at h
  refine lv_iconst (v := (0 : Int32)) hx hb dX0_plus_67 (by decide) ?_
  exact wX0_plus_L68 C  x4 (0 : Int32) ls h (lv_sub hl [0] rfl)
def fX0_plus_L63    (x4 : Int64) : Option (Int64) := (fX0_plus_L68 x4 (1 : Int32))
set_option maxHeartbeats 4000000 in
set_option maxRecDepth 100000 in
theorem wX0_plus_L63 {p : Program} {l : Launch} {e : Env} {s : State} {m : MethodId} {args : Array Value} {below : List Frame} {meth : Method} {c : Code} {out : Int64} (C : cxt p s m args meth c RX0 cX0_plus 7 (some .long) wsX0_plus) (x4 : Int64) (ls : Array Slot) (h : fX0_plus_L63   x4 = some out) (hl : lv_has ls 7 [(4, .long x4)]) : W p l e rmX0_plus s m args below meth c s.heap [] 0 0 (MQ below (QRl out) args s 0 0 (fun _ => False)) (F0 m 63 ls []) := by
  obtain ⟨hx, hb, hr, hml, hown, hts, hlocks⟩ := id C
  unfold fX0_plus_L63 at h
  refine lv_iconst (v := (1 : Int32)) hx hb dX0_plus_63 (by decide) ?_
  refine lv_goto (tgt := 68) hx hb dX0_plus_64 (by decide) ?_
  exact wX0_plus_L68 C  x4 (1 : Int32) ls h (lv_sub hl [0] rfl)
def fX0_plus_L44    (x0 : Int64) (x2 : Int64) (x4 : Int64) : Option (Int64) := (if (0 : Int64) ≤ x0 then (fX0_plus_L67 x4) else (if (0 : Int64) ≤ x2 then (fX0_plus_L67 x4) else (if x4 < (0 : Int64) then (fX0_plus_L67 x4) else (fX0_plus_L63 x4))))
set_option maxHeartbeats 4000000 in
set_option maxRecDepth 100000 in
theorem wX0_plus_L44 {p : Program} {l : Launch} {e : Env} {s : State} {m : MethodId} {args : Array Value} {below : List Frame} {meth : Method} {c : Code} {out : Int64} (C : cxt p s m args meth c RX0 cX0_plus 7 (some .long) wsX0_plus) (x0 : Int64) (x2 : Int64) (x4 : Int64) (ls : Array Slot) (h : fX0_plus_L44   x0 x2 x4 = some out) (hl : lv_has ls 7 [(0, .long x0), (2, .long x2), (4, .long x4)]) : W p l e rmX0_plus s m args below meth c s.heap [] 0 0 (MQ below (QRl out) args s 0 0 (fun _ => False)) (F0 m 44 ls []) := by
  obtain ⟨hx, hb, hr, hml, hown, hts, hlocks⟩ := id C
  unfold fX0_plus_L44 at h
  refine lv_lload_n hx hb dX0_plus_44 rfl (lv_at hl 0 rfl) ?_
  refine lv_lconst (v := (0 : Int64)) hx hb dX0_plus_45 (by decide) ?_
  refine xl_ge (tgt := 67) hx hb dX0_plus_46 dX0_plus_47 (by decide) (fun c1 => ?_) (fun c1 => ?_)
  · replace h := br_p c1 h
    exact wX0_plus_L67 C  x4 ls h (lv_sub hl [2] rfl)
  · replace h := br_n c1 h
    refine lv_lload_n hx hb dX0_plus_50 rfl (lv_at hl 1 rfl) ?_
    refine lv_lconst (v := (0 : Int64)) hx hb dX0_plus_51 (by decide) ?_
    refine xl_ge (tgt := 67) hx hb dX0_plus_52 dX0_plus_53 (by decide) (fun c2 => ?_) (fun c2 => ?_)
    · replace h := br_p c2 h
      exact wX0_plus_L67 C  x4 ls h (lv_sub hl [2] rfl)
    · replace h := br_n c2 h
      refine lv_lload hx hb dX0_plus_56 (lv_at hl 2 rfl) ?_
      refine lv_lconst (v := (0 : Int64)) hx hb dX0_plus_58 (by decide) ?_
      refine xl_lt (tgt := 67) hx hb dX0_plus_59 dX0_plus_60 (by decide) (fun c3 => ?_) (fun c3 => ?_)
      · replace h := br_p c3 h
        exact wX0_plus_L67 C  x4 ls h (lv_sub hl [2] rfl)
      · replace h := br_n c3 h
        exact wX0_plus_L63 C  x4 ls h (lv_sub hl [2] rfl)
def fX0_plus  (x0 : Int64) (x2 : Int64) : Option (Int64) := (if x0 = (-9223372036854775808 : Int64) then (some (-9223372036854775808 : Int64)) else (if x2 = (-9223372036854775808 : Int64) then (some (-9223372036854775808 : Int64)) else (if x0 ≤ (0 : Int64) then (fX0_plus_L44 x0 x2 (x0 + x2)) else (if x2 ≤ (0 : Int64) then (fX0_plus_L44 x0 x2 (x0 + x2)) else (if (x0 + x2) < (0 : Int64) then (fX0_plus_L63 (x0 + x2)) else (fX0_plus_L44 x0 x2 (x0 + x2)))))))
set_option maxHeartbeats 4000000 in
set_option maxRecDepth 100000 in
theorem mX0_plus (l : Launch) (x0 : Int64) (x2 : Int64) (out : Int64) (h : fX0_plus  x0 x2 = some out) : MPl l yX0_plus wsX0_plus rmX0_plus [.long x0, .long x2] out := by
  refine ofPl (cc := cX0_plus) (maxL := 7) (ret := (some .long)) (lv := [(0, .long x0), (2, .long x2)]) (plainFor_of_name (by decide)) rfl (Nat.le_of_ble_eq_true rfl) rfl ?_
  intro p e s m args below meth c C ls hl
  have C : cxt p s m args meth c RX0 cX0_plus 7 (some .long) wsX0_plus := C
  obtain ⟨hx, hb, hr, hml, hown, hts, hlocks⟩ := id C
  unfold fX0_plus at h
  refine lv_lload_n hx hb dX0_plus_0 rfl (lv_at hl 0 rfl) ?_
  refine lv_ldc2 (v := (-9223372036854775808 : Int64)) hx hb hown (hts (.constantLong RX0 36 (-9223372036854775808)) (List.mem_of_getElem? (i := 1) rfl)) dX0_plus_1 ?_
  refine xl_eq (tgt := 16) hx hb dX0_plus_4 dX0_plus_5 (by decide) (fun c1 => ?_) (fun c1 => ?_)
  · replace h := br_p c1 h
    refine lv_ldc2 (v := (-9223372036854775808 : Int64)) hx hb hown (hts (.constantLong RX0 36 (-9223372036854775808)) (List.mem_of_getElem? (i := 1) rfl)) dX0_plus_16 ?_
    exact reRl (v := (-9223372036854775808 : Int64)) hx hb hr hlocks h dX0_plus_19
  · replace h := br_n c1 h
    refine lv_lload_n hx hb dX0_plus_8 rfl (lv_at hl 1 rfl) ?_
    refine lv_ldc2 (v := (-9223372036854775808 : Int64)) hx hb hown (hts (.constantLong RX0 36 (-9223372036854775808)) (List.mem_of_getElem? (i := 1) rfl)) dX0_plus_9 ?_
    refine xl_ne (tgt := 20) hx hb dX0_plus_12 dX0_plus_13 (by decide) (fun c2 => ?_) (fun c2 => ?_)
    · replace h := br_n c2 h
      refine lv_lload_n hx hb dX0_plus_20 rfl (lv_at hl 0 rfl) ?_
      refine lv_lload_n hx hb dX0_plus_21 rfl (lv_at hl 1 rfl) ?_
      refine lv_ladd hx hb dX0_plus_22 ?_
      refine lv_lstore (lv' := [(4, .long (x0 + x2)), (0, .long x0), (2, .long x2)]) hx hb dX0_plus_23 hl (by decide) rfl (fun ls hl => ?_)
      refine lv_lload_n hx hb dX0_plus_25 rfl (lv_at hl 1 rfl) ?_
      refine lv_lconst (v := (0 : Int64)) hx hb dX0_plus_26 (by decide) ?_
      refine xl_le (tgt := 44) hx hb dX0_plus_27 dX0_plus_28 (by decide) (fun c3 => ?_) (fun c3 => ?_)
      · replace h := br_p c3 h
        exact wX0_plus_L44 C  x0 x2 (x0 + x2) ls h (lv_sub hl [1, 2, 0] rfl)
      · replace h := br_n c3 h
        refine lv_lload_n hx hb dX0_plus_31 rfl (lv_at hl 2 rfl) ?_
        refine lv_lconst (v := (0 : Int64)) hx hb dX0_plus_32 (by decide) ?_
        refine xl_le (tgt := 44) hx hb dX0_plus_33 dX0_plus_34 (by decide) (fun c4 => ?_) (fun c4 => ?_)
        · replace h := br_p c4 h
          exact wX0_plus_L44 C  x0 x2 (x0 + x2) ls h (lv_sub hl [1, 2, 0] rfl)
        · replace h := br_n c4 h
          refine lv_lload hx hb dX0_plus_37 (lv_at hl 0 rfl) ?_
          refine lv_lconst (v := (0 : Int64)) hx hb dX0_plus_39 (by decide) ?_
          refine xl_lt (tgt := 63) hx hb dX0_plus_40 dX0_plus_41 (by decide) (fun c5 => ?_) (fun c5 => ?_)
          · replace h := br_p c5 h
            exact wX0_plus_L63 C  (x0 + x2) ls h (lv_sub hl [0] rfl)
          · replace h := br_n c5 h
            exact wX0_plus_L44 C  x0 x2 (x0 + x2) ls h (lv_sub hl [1, 2, 0] rfl)
    · replace h := br_p c2 h
      refine lv_ldc2 (v := (-9223372036854775808 : Int64)) hx hb hown (hts (.constantLong RX0 36 (-9223372036854775808)) (List.mem_of_getElem? (i := 1) rfl)) dX0_plus_16 ?_
      exact reRl (v := (-9223372036854775808 : Int64)) hx hb hr hlocks h dX0_plus_19
abbrev rmX0_keepUnlessWide : Room := { frames := 3, cells := 0, slots := 0, locals := 136 }
theorem hinX0_keepUnlessWide : ∀ w ∈ u_ws RX0 TX0 13, w ∈ wsX0_keepUnlessWide := by first | exact fun _ h => List.mem_cons_of_mem _ (List.mem_append_right _ h) | exact fun _ h => List.mem_cons_of_mem _ (List.mem_append_left _ (List.mem_append_right _ h)) | decide +kernel
def fX0_keepUnlessWide_L16 (σ : CS)    : Option (Int32 × CS) := (bd (sc_grown σ ((c_grown σ) + (1 : Int32))) fun s1 => (some ((-3 : Int32), s1)))
set_option maxHeartbeats 4000000 in
set_option maxRecDepth 100000 in
theorem wX0_keepUnlessWide_L16 {p : Program} {l : Launch} {e : Env} {s : State} {m : MethodId} {args : Array Value} {below : List Frame} {meth : Method} {c : Code} {A : Nat → Prop} {D : va_G} {kc : Nat → ClassId} {q : Nat → Nat} {out : Int32 × CS} (C : cxt p s m args meth c RX0 cX0_keepUnlessWide 5 (some .int) wsX0_keepUnlessWide) (hA : ∀ x, s.heap.size ≤ x → A x) (hK : va_K D vwCl (tysX0 kc) s) (σ : CS)  (H : Heap) (locs : List Loc) (ls : Array Slot) (h : fX0_keepUnlessWide_L16 σ    = some out) (hP : va_P D vwCl (wX0 kc q σ) H) (hD : va_D A (wX0 kc q σ)) (hS : va_S A s.heap H locs) (hl : lv_has ls 5 [(0, .ref (q 0))]) : W p l e rmX0_keepUnlessWide s m args below meth c H locs 0 0 (MQ below (QMi D (tysX0 kc) (wX0 kc q) A out) args s 0 0 A) (F0 m 16 ls []) := by
  obtain ⟨hx, hb, hr, hml, hown, hts, hlocks⟩ := id C
  unfold fX0_keepUnlessWide_L16 at h
  refine lv_aload_n hx hb dX0_keepUnlessWide_16 rfl (lv_at hl 0 rfl) ?_
  refine lv_dup hx hb dX0_keepUnlessWide_17 rfl ?_
  refine rdX0_grown hx hb hts hinX0_keepUnlessWide hown hK hP (hts (.fieldLink RX0 157 "ExactShares" "grown" "I") (List.mem_of_getElem? (i := 2) rfl)) dX0_keepUnlessWide_18 ?_
  refine lv_iconst (v := (1 : Int32)) hx hb dX0_keepUnlessWide_21 (by decide) ?_
  refine lv_iadd hx hb dX0_keepUnlessWide_22 ?_
  refine wrX0_grown (v := ((c_grown σ) + (1 : Int32))) hx hb hts hinX0_keepUnlessWide hown hK hP hD hS (hts (.fieldLink RX0 157 "ExactShares" "grown" "I") (List.mem_of_getElem? (i := 2) rfl)) dX0_keepUnlessWide_23 (fun H locs hP hD hS => ?_)
  obtain ⟨s1, e2, h⟩ := bd_e h
  replace hP : va_P D vwCl (wX0 kc q s1) H := by rw [e2]; exact hP
  replace hD : va_D A (wX0 kc q s1) := by rw [e2]; exact hD
  clear e2
  refine lv_bipush (v := (-3 : Int32)) hx hb dX0_keepUnlessWide_26 (by decide) ?_
  exact reMi (v := (-3 : Int32)) hx hb hr hlocks hK hP hD hS h dX0_keepUnlessWide_28
def fX0_keepUnlessWide (σ : CS)  (x1 : Int64) (x3 : Int64) : Option (Int32 × CS) := (if x1 = (-9223372036854775808 : Int64) then (fX0_keepUnlessWide_L16 σ) else (if x3 = (-9223372036854775808 : Int64) then (fX0_keepUnlessWide_L16 σ) else ((fX0_keep σ x1 x3).bind fun o3 => (some (o3.1, o3.2)))))
set_option maxHeartbeats 4000000 in
set_option maxRecDepth 100000 in
theorem mX0_keepUnlessWide (l : Launch) (D : va_G) (kc : Nat → ClassId) (q : Nat → Nat) (σ : CS) (x1 : Int64) (x3 : Int64) (out : Int32 × CS) (h : fX0_keepUnlessWide σ  x1 x3 = some out) : MMi l yX0_keepUnlessWide wsX0_keepUnlessWide rmX0_keepUnlessWide D (tysX0 kc) (wX0 kc q) σ [.ref (q 0), .long x1, .long x3] out := by
  refine ofMi (cc := cX0_keepUnlessWide) (maxL := 5) (ret := (some .int)) (lv := [(0, .ref (q 0)), (1, .long x1), (3, .long x3)]) (by decide) rfl (Nat.le_of_ble_eq_true rfl) rfl ?_
  intro p e s m args below meth c A C hA hK hP hD hS ls hl
  have C : cxt p s m args meth c RX0 cX0_keepUnlessWide 5 (some .int) wsX0_keepUnlessWide := C
  obtain ⟨hx, hb, hr, hml, hown, hts, hlocks⟩ := id C
  obtain ⟨H, hH⟩ : ∃ H, H = s.heap := ⟨_, rfl⟩
  obtain ⟨locs, hlocs⟩ : ∃ locs : List Loc, locs = [] := ⟨_, rfl⟩
  have hS : va_S A s.heap H locs := by rw [hH, hlocs]; exact va_S.rf
  rw [← hH] at hP
  suffices hW : W p l e rmX0_keepUnlessWide s m args below meth c H locs 0 0 _ (F0 m 0 ls []) by rw [hH, hlocs] at hW; exact hW
  unfold fX0_keepUnlessWide at h
  refine lv_lload_n hx hb dX0_keepUnlessWide_0 rfl (lv_at hl 1 rfl) ?_
  refine lv_ldc2 (v := (-9223372036854775808 : Int64)) hx hb hown (hts (.constantLong RX0 36 (-9223372036854775808)) (List.mem_of_getElem? (i := 1) rfl)) dX0_keepUnlessWide_1 ?_
  refine xl_eq (tgt := 16) hx hb dX0_keepUnlessWide_4 dX0_keepUnlessWide_5 (by decide) (fun c1 => ?_) (fun c1 => ?_)
  · replace h := br_p c1 h
    exact wX0_keepUnlessWide_L16 C hA hK  σ H locs ls h hP hD hS (lv_sub hl [0] rfl)
  · replace h := br_n c1 h
    refine lv_lload_n hx hb dX0_keepUnlessWide_8 rfl (lv_at hl 2 rfl) ?_
    refine lv_ldc2 (v := (-9223372036854775808 : Int64)) hx hb hown (hts (.constantLong RX0 36 (-9223372036854775808)) (List.mem_of_getElem? (i := 1) rfl)) dX0_keepUnlessWide_9 ?_
    refine xl_ne (tgt := 29) hx hb dX0_keepUnlessWide_12 dX0_keepUnlessWide_13 (by decide) (fun c2 => ?_) (fun c2 => ?_)
    · replace h := br_n c2 h
      refine lv_aload_n hx hb dX0_keepUnlessWide_29 rfl (lv_at hl 0 rfl) ?_
      refine lv_lload_n hx hb dX0_keepUnlessWide_30 rfl (lv_at hl 1 rfl) ?_
      refine lv_lload_n hx hb dX0_keepUnlessWide_31 rfl (lv_at hl 2 rfl) ?_
      obtain ⟨o3, ho4, h⟩ := bi h
      refine caMi (q0 := 0) (As := [.long x1, .long x3]) (rest := []) ⟨hx, hb, hml, hown, hts⟩ (mX0_keep l D kc q σ x1 x3 o3 ho4) (cwV 2 hts gX0_keepUnlessWide_X0_keep rfl rfl rfl (by decide +kernel) ⟨Nat.le_of_ble_eq_true rfl, Nat.le_of_ble_eq_true rfl⟩) hK hP hD hS hA rfl rfl rfl rfl hl.1 (Nat.le_of_ble_eq_true rfl) dX0_keepUnlessWide_32 ⟨Nat.zero_le _, Nat.zero_le _⟩ (fun H locs hP hD hS => ?_)
      exact reMi (v := o3.1) hx hb hr hlocks hK hP hD hS h dX0_keepUnlessWide_35
    · replace h := br_p c2 h
      exact wX0_keepUnlessWide_L16 C hA hK  σ H locs ls h hP hD hS (lv_sub hl [0] rfl)
abbrev rmX0_keepSum : Room := { frames := 4, cells := 0, slots := 0, locals := 160 }
def fX0_keepSum (σ : CS)  (x1 : Int64) (x3 : Int64) (x5 : Int64) (x7 : Int64) : Option (Int32 × CS) := ((fX0_greatestDivisor x3 x7).bind fun o1 => (if o1 = (0 : Int64) then none else ((fX0_times x1 (x7 / o1)).bind fun o4 => (if o1 = (0 : Int64) then none else ((fX0_times x5 (x3 / o1)).bind fun o7 => ((fX0_plus o4 o7).bind fun o9 => (if o1 = (0 : Int64) then none else ((fX0_times x3 (x7 / o1)).bind fun o12 => ((fX0_keepUnlessWide σ o9 o12).bind fun o14 => (some (o14.1, o14.2)))))))))))
set_option maxHeartbeats 4000000 in
set_option maxRecDepth 100000 in
theorem mX0_keepSum (l : Launch) (D : va_G) (kc : Nat → ClassId) (q : Nat → Nat) (σ : CS) (x1 : Int64) (x3 : Int64) (x5 : Int64) (x7 : Int64) (out : Int32 × CS) (h : fX0_keepSum σ  x1 x3 x5 x7 = some out) : MMi l yX0_keepSum wsX0_keepSum rmX0_keepSum D (tysX0 kc) (wX0 kc q) σ [.ref (q 0), .long x1, .long x3, .long x5, .long x7] out := by
  refine ofMi (cc := cX0_keepSum) (maxL := 13) (ret := (some .int)) (lv := [(0, .ref (q 0)), (1, .long x1), (3, .long x3), (5, .long x5), (7, .long x7)]) (by decide) rfl (Nat.le_of_ble_eq_true rfl) rfl ?_
  intro p e s m args below meth c A C hA hK hP hD hS ls hl
  have C : cxt p s m args meth c RX0 cX0_keepSum 13 (some .int) wsX0_keepSum := C
  obtain ⟨hx, hb, hr, hml, hown, hts, hlocks⟩ := id C
  obtain ⟨H, hH⟩ : ∃ H, H = s.heap := ⟨_, rfl⟩
  obtain ⟨locs, hlocs⟩ : ∃ locs : List Loc, locs = [] := ⟨_, rfl⟩
  have hS : va_S A s.heap H locs := by rw [hH, hlocs]; exact va_S.rf
  rw [← hH] at hP
  suffices hW : W p l e rmX0_keepSum s m args below meth c H locs 0 0 _ (F0 m 0 ls []) by rw [hH, hlocs] at hW; exact hW
  unfold fX0_keepSum at h
  refine lv_lload_n hx hb dX0_keepSum_0 rfl (lv_at hl 2 rfl) ?_
  refine lv_lload hx hb dX0_keepSum_1 (lv_at hl 4 rfl) ?_
  obtain ⟨o1, ho2, h⟩ := bi h
  refine caPl (As := [.long x3, .long x7]) (rest := []) ⟨hx, hb, hml, hown, hts⟩ (mX0_greatestDivisor l x3 x7 o1 ho2) (va_cwS 2 hts gX0_keepSum_X0_greatestDivisor rfl rfl rfl (by decide +kernel) ⟨Nat.le_of_ble_eq_true rfl, Nat.le_of_ble_eq_true rfl⟩) rfl hl.1 (Nat.le_of_ble_eq_true rfl) dX0_keepSum_3 ⟨Nat.zero_le _, Nat.zero_le _⟩ ?_
  refine lv_lstore (lv' := [(9, .long o1), (0, .ref (q 0)), (1, .long x1), (3, .long x3), (5, .long x5), (7, .long x7)]) hx hb dX0_keepSum_6 hl (by decide) rfl (fun ls hl => ?_)
  refine lv_lload_n hx hb dX0_keepSum_8 rfl (lv_at hl 2 rfl) ?_
  refine lv_lload hx hb dX0_keepSum_9 (lv_at hl 5 rfl) ?_
  refine lv_lload hx hb dX0_keepSum_11 (lv_at hl 0 rfl) ?_
  obtain ⟨g3, h⟩ := gd_f h
  refine lv_ldiv hx hb dX0_keepSum_13 g3 ?_
  obtain ⟨o4, ho5, h⟩ := bi h
  refine caPl (As := [.long x1, .long (x7 / o1)]) (rest := []) ⟨hx, hb, hml, hown, hts⟩ (mX0_times l x1 (x7 / o1) o4 ho5) (va_cwS 2 hts gX0_keepSum_X0_times rfl rfl rfl (by decide +kernel) ⟨Nat.le_of_ble_eq_true rfl, Nat.le_of_ble_eq_true rfl⟩) rfl hl.1 (Nat.le_of_ble_eq_true rfl) dX0_keepSum_14 ⟨Nat.zero_le _, Nat.zero_le _⟩ ?_
  refine lv_lload hx hb dX0_keepSum_17 (lv_at hl 4 rfl) ?_
  refine lv_lload_n hx hb dX0_keepSum_19 rfl (lv_at hl 3 rfl) ?_
  refine lv_lload hx hb dX0_keepSum_20 (lv_at hl 0 rfl) ?_
  obtain ⟨g6, h⟩ := gd_f h
  refine lv_ldiv hx hb dX0_keepSum_22 g6 ?_
  obtain ⟨o7, ho8, h⟩ := bi h
  refine caPl (As := [.long x5, .long (x3 / o1)]) (rest := [.long o4]) ⟨hx, hb, hml, hown, hts⟩ (mX0_times l x5 (x3 / o1) o7 ho8) (va_cwS 2 hts gX0_keepSum_X0_times rfl rfl rfl (by decide +kernel) ⟨Nat.le_of_ble_eq_true rfl, Nat.le_of_ble_eq_true rfl⟩) rfl hl.1 (Nat.le_of_ble_eq_true rfl) dX0_keepSum_23 ⟨Nat.zero_le _, Nat.zero_le _⟩ ?_
  obtain ⟨o9, ho10, h⟩ := bi h
  refine caPl (As := [.long o4, .long o7]) (rest := []) ⟨hx, hb, hml, hown, hts⟩ (mX0_plus l o4 o7 o9 ho10) (va_cwS 2 hts gX0_keepSum_X0_plus rfl rfl rfl (by decide +kernel) ⟨Nat.le_of_ble_eq_true rfl, Nat.le_of_ble_eq_true rfl⟩) rfl hl.1 (Nat.le_of_ble_eq_true rfl) dX0_keepSum_26 ⟨Nat.zero_le _, Nat.zero_le _⟩ ?_
  refine lv_lstore (lv' := [(11, .long o9), (9, .long o1), (0, .ref (q 0)), (1, .long x1), (3, .long x3), (5, .long x5), (7, .long x7)]) hx hb dX0_keepSum_29 hl (by decide) rfl (fun ls hl => ?_)
  refine lv_aload_n hx hb dX0_keepSum_31 rfl (lv_at hl 2 rfl) ?_
  refine lv_lload hx hb dX0_keepSum_32 (lv_at hl 0 rfl) ?_
  refine lv_lload_n hx hb dX0_keepSum_34 rfl (lv_at hl 4 rfl) ?_
  refine lv_lload hx hb dX0_keepSum_35 (lv_at hl 6 rfl) ?_
  refine lv_lload hx hb dX0_keepSum_37 (lv_at hl 1 rfl) ?_
  obtain ⟨g11, h⟩ := gd_f h
  refine lv_ldiv hx hb dX0_keepSum_39 g11 ?_
  obtain ⟨o12, ho13, h⟩ := bi h
  refine caPl (As := [.long x3, .long (x7 / o1)]) (rest := [.long o9, .ref (q 0)]) ⟨hx, hb, hml, hown, hts⟩ (mX0_times l x3 (x7 / o1) o12 ho13) (va_cwS 2 hts gX0_keepSum_X0_times rfl rfl rfl (by decide +kernel) ⟨Nat.le_of_ble_eq_true rfl, Nat.le_of_ble_eq_true rfl⟩) rfl hl.1 (Nat.le_of_ble_eq_true rfl) dX0_keepSum_40 ⟨Nat.zero_le _, Nat.zero_le _⟩ ?_
  obtain ⟨o14, ho15, h⟩ := bi h
  refine caMi (q0 := 0) (As := [.long o9, .long o12]) (rest := []) ⟨hx, hb, hml, hown, hts⟩ (mX0_keepUnlessWide l D kc q σ o9 o12 o14 ho15) (cwV 2 hts gX0_keepSum_X0_keepUnlessWide rfl rfl rfl (by decide +kernel) ⟨Nat.le_of_ble_eq_true rfl, Nat.le_of_ble_eq_true rfl⟩) hK hP hD hS hA rfl rfl rfl rfl hl.1 (Nat.le_of_ble_eq_true rfl) dX0_keepSum_43 ⟨Nat.zero_le _, Nat.zero_le _⟩ (fun H locs hP hD hS => ?_)
  exact reMi (v := o14.1) hx hb hr hlocks hK hP hD hS h dX0_keepSum_46
abbrev rmX0_keepProduct : Room := { frames := 4, cells := 0, slots := 0, locals := 160 }
def fX0_keepProduct (σ : CS)  (x1 : Int64) (x3 : Int64) (x5 : Int64) (x7 : Int64) : Option (Int32 × CS) := ((fX0_greatestDivisor x1 x7).bind fun o1 => ((fX0_greatestDivisor x5 x3).bind fun o3 => (if o1 = (0 : Int64) then none else (if o3 = (0 : Int64) then none else ((fX0_times (x1 / o1) (x5 / o3)).bind fun o7 => (if o3 = (0 : Int64) then none else (if o1 = (0 : Int64) then none else ((fX0_times (x3 / o3) (x7 / o1)).bind fun o11 => ((fX0_keepUnlessWide σ o7 o11).bind fun o13 => (some (o13.1, o13.2)))))))))))
set_option maxHeartbeats 4000000 in
set_option maxRecDepth 100000 in
theorem mX0_keepProduct (l : Launch) (D : va_G) (kc : Nat → ClassId) (q : Nat → Nat) (σ : CS) (x1 : Int64) (x3 : Int64) (x5 : Int64) (x7 : Int64) (out : Int32 × CS) (h : fX0_keepProduct σ  x1 x3 x5 x7 = some out) : MMi l yX0_keepProduct wsX0_keepProduct rmX0_keepProduct D (tysX0 kc) (wX0 kc q) σ [.ref (q 0), .long x1, .long x3, .long x5, .long x7] out := by
  refine ofMi (cc := cX0_keepProduct) (maxL := 13) (ret := (some .int)) (lv := [(0, .ref (q 0)), (1, .long x1), (3, .long x3), (5, .long x5), (7, .long x7)]) (by decide) rfl (Nat.le_of_ble_eq_true rfl) rfl ?_
  intro p e s m args below meth c A C hA hK hP hD hS ls hl
  have C : cxt p s m args meth c RX0 cX0_keepProduct 13 (some .int) wsX0_keepProduct := C
  obtain ⟨hx, hb, hr, hml, hown, hts, hlocks⟩ := id C
  obtain ⟨H, hH⟩ : ∃ H, H = s.heap := ⟨_, rfl⟩
  obtain ⟨locs, hlocs⟩ : ∃ locs : List Loc, locs = [] := ⟨_, rfl⟩
  have hS : va_S A s.heap H locs := by rw [hH, hlocs]; exact va_S.rf
  rw [← hH] at hP
  suffices hW : W p l e rmX0_keepProduct s m args below meth c H locs 0 0 _ (F0 m 0 ls []) by rw [hH, hlocs] at hW; exact hW
  unfold fX0_keepProduct at h
  refine lv_lload_n hx hb dX0_keepProduct_0 rfl (lv_at hl 1 rfl) ?_
  refine lv_lload hx hb dX0_keepProduct_1 (lv_at hl 4 rfl) ?_
  obtain ⟨o1, ho2, h⟩ := bi h
  refine caPl (As := [.long x1, .long x7]) (rest := []) ⟨hx, hb, hml, hown, hts⟩ (mX0_greatestDivisor l x1 x7 o1 ho2) (va_cwS 2 hts gX0_keepProduct_X0_greatestDivisor rfl rfl rfl (by decide +kernel) ⟨Nat.le_of_ble_eq_true rfl, Nat.le_of_ble_eq_true rfl⟩) rfl hl.1 (Nat.le_of_ble_eq_true rfl) dX0_keepProduct_3 ⟨Nat.zero_le _, Nat.zero_le _⟩ ?_
  refine lv_lstore (lv' := [(9, .long o1), (0, .ref (q 0)), (1, .long x1), (3, .long x3), (5, .long x5), (7, .long x7)]) hx hb dX0_keepProduct_6 hl (by decide) rfl (fun ls hl => ?_)
  refine lv_lload hx hb dX0_keepProduct_8 (lv_at hl 4 rfl) ?_
  refine lv_lload_n hx hb dX0_keepProduct_10 rfl (lv_at hl 3 rfl) ?_
  obtain ⟨o3, ho4, h⟩ := bi h
  refine caPl (As := [.long x5, .long x3]) (rest := []) ⟨hx, hb, hml, hown, hts⟩ (mX0_greatestDivisor l x5 x3 o3 ho4) (va_cwS 2 hts gX0_keepProduct_X0_greatestDivisor rfl rfl rfl (by decide +kernel) ⟨Nat.le_of_ble_eq_true rfl, Nat.le_of_ble_eq_true rfl⟩) rfl hl.1 (Nat.le_of_ble_eq_true rfl) dX0_keepProduct_11 ⟨Nat.zero_le _, Nat.zero_le _⟩ ?_
  refine lv_lstore (lv' := [(11, .long o3), (9, .long o1), (0, .ref (q 0)), (1, .long x1), (3, .long x3), (5, .long x5), (7, .long x7)]) hx hb dX0_keepProduct_14 hl (by decide) rfl (fun ls hl => ?_)
  refine lv_aload_n hx hb dX0_keepProduct_16 rfl (lv_at hl 2 rfl) ?_
  refine lv_lload_n hx hb dX0_keepProduct_17 rfl (lv_at hl 3 rfl) ?_
  refine lv_lload hx hb dX0_keepProduct_18 (lv_at hl 1 rfl) ?_
  obtain ⟨g5, h⟩ := gd_f h
  refine lv_ldiv hx hb dX0_keepProduct_20 g5 ?_
  refine lv_lload hx hb dX0_keepProduct_21 (lv_at hl 5 rfl) ?_
  refine lv_lload hx hb dX0_keepProduct_23 (lv_at hl 0 rfl) ?_
  obtain ⟨g6, h⟩ := gd_f h
  refine lv_ldiv hx hb dX0_keepProduct_25 g6 ?_
  obtain ⟨o7, ho8, h⟩ := bi h
  refine caPl (As := [.long (x1 / o1), .long (x5 / o3)]) (rest := [.ref (q 0)]) ⟨hx, hb, hml, hown, hts⟩ (mX0_times l (x1 / o1) (x5 / o3) o7 ho8) (va_cwS 2 hts gX0_keepProduct_X0_times rfl rfl rfl (by decide +kernel) ⟨Nat.le_of_ble_eq_true rfl, Nat.le_of_ble_eq_true rfl⟩) rfl hl.1 (Nat.le_of_ble_eq_true rfl) dX0_keepProduct_26 ⟨Nat.zero_le _, Nat.zero_le _⟩ ?_
  refine lv_lload_n hx hb dX0_keepProduct_29 rfl (lv_at hl 4 rfl) ?_
  refine lv_lload hx hb dX0_keepProduct_30 (lv_at hl 0 rfl) ?_
  obtain ⟨g9, h⟩ := gd_f h
  refine lv_ldiv hx hb dX0_keepProduct_32 g9 ?_
  refine lv_lload hx hb dX0_keepProduct_33 (lv_at hl 6 rfl) ?_
  refine lv_lload hx hb dX0_keepProduct_35 (lv_at hl 1 rfl) ?_
  obtain ⟨g10, h⟩ := gd_f h
  refine lv_ldiv hx hb dX0_keepProduct_37 g10 ?_
  obtain ⟨o11, ho12, h⟩ := bi h
  refine caPl (As := [.long (x3 / o3), .long (x7 / o1)]) (rest := [.long o7, .ref (q 0)]) ⟨hx, hb, hml, hown, hts⟩ (mX0_times l (x3 / o3) (x7 / o1) o11 ho12) (va_cwS 2 hts gX0_keepProduct_X0_times rfl rfl rfl (by decide +kernel) ⟨Nat.le_of_ble_eq_true rfl, Nat.le_of_ble_eq_true rfl⟩) rfl hl.1 (Nat.le_of_ble_eq_true rfl) dX0_keepProduct_38 ⟨Nat.zero_le _, Nat.zero_le _⟩ ?_
  obtain ⟨o13, ho14, h⟩ := bi h
  refine caMi (q0 := 0) (As := [.long o7, .long o11]) (rest := []) ⟨hx, hb, hml, hown, hts⟩ (mX0_keepUnlessWide l D kc q σ o7 o11 o13 ho14) (cwV 2 hts gX0_keepProduct_X0_keepUnlessWide rfl rfl rfl (by decide +kernel) ⟨Nat.le_of_ble_eq_true rfl, Nat.le_of_ble_eq_true rfl⟩) hK hP hD hS hA rfl rfl rfl rfl hl.1 (Nat.le_of_ble_eq_true rfl) dX0_keepProduct_41 ⟨Nat.zero_le _, Nat.zero_le _⟩ (fun H locs hP hD hS => ?_)
  exact reMi (v := o13.1) hx hb hr hlocks hK hP hD hS h dX0_keepProduct_44
