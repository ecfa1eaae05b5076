abbrev rmX1_thrown : Room := { frames := 0, cells := 0, slots := 0, locals := 0 }
theorem hinX1_thrown : ∀ w ∈ u_ws RX1 TX1 17, w ∈ wsX1_thrown := by first | exact fun _ h => List.mem_cons_of_mem _ (List.mem_append_right _ h) | exact fun _ h => List.mem_cons_of_mem _ (List.mem_append_left _ (List.mem_append_right _ h)) | decide +kernel
def fX1_thrown (σ : MS)   : Option (Int32) := (some (m_thrown σ))
set_option maxHeartbeats 4000000 in
set_option maxRecDepth 100000 in
theorem mX1_thrown (l : Launch) (D : va_G) (kc : Nat → ClassId) (q : Nat → Nat) (σ : MS)  (out : Int32) (h : fX1_thrown σ   = some out) : MRi l yX1_thrown wsX1_thrown rmX1_thrown D (tysX1 kc) (wX1 kc q σ) [.ref (q 0)] out := by
  refine ofRi (cc := cX1_thrown) (maxL := 1) (ret := (some .int)) (lv := [(0, .ref (q 0))]) (by decide) rfl (Nat.le_of_ble_eq_true rfl) rfl ?_
  intro p e s m args below meth c C hK hP ls hl
  have C : cxt p s m args meth c RX1 cX1_thrown 1 (some .int) wsX1_thrown := C
  obtain ⟨hx, hb, hr, hml, hown, hts, hlocks⟩ := id C
  unfold fX1_thrown at h
  refine lv_aload_n hx hb dX1_thrown_0 rfl (lv_at hl 0 rfl) ?_
  refine rdX1_thrown hx hb hts hinX1_thrown hown hK hP (hts (.fieldLink RX1 43 "ExactSharesModel" "thrown" "I") (List.mem_of_getElem? (i := 1) rfl)) dX1_thrown_1 ?_
  exact reRi (v := (m_thrown σ)) hx hb hr hlocks h dX1_thrown_4
abbrev rmX1_isIn : Room := { frames := 0, cells := 0, slots := 0, locals := 0 }
def fX1_isIn  (x0 : Int64) (x2 : Int64) (x4 : Int64) : Option (Int32) := (if x0 < x2 then (some (0 : Int32)) else (if x4 < x0 then (some (0 : Int32)) else (some (1 : Int32))))
set_option maxHeartbeats 4000000 in
set_option maxRecDepth 100000 in
theorem mX1_isIn (l : Launch) (x0 : Int64) (x2 : Int64) (x4 : Int64) (out : Int32) (h : fX1_isIn  x0 x2 x4 = some out) : MPi l yX1_isIn wsX1_isIn rmX1_isIn [.long x0, .long x2, .long x4] out := by
  refine ofPi (cc := cX1_isIn) (maxL := 6) (ret := (some .boolean)) (lv := [(0, .long x0), (2, .long x2), (4, .long x4)]) (plainFor_of_name (by decide)) rfl (Nat.le_of_ble_eq_true rfl) rfl ?_
  intro p e s m args below meth c C ls hl
  have C : cxt p s m args meth c RX1 cX1_isIn 6 (some .boolean) wsX1_isIn := C
  obtain ⟨hx, hb, hr, hml, hown, hts, hlocks⟩ := id C
  unfold fX1_isIn at h
  refine lv_lload_n hx hb dX1_isIn_0 rfl (lv_at hl 0 rfl) ?_
  refine lv_lload_n hx hb dX1_isIn_1 rfl (lv_at hl 1 rfl) ?_
  refine xl_lt (tgt := 17) hx hb dX1_isIn_2 dX1_isIn_3 (by decide) (fun c1 => ?_) (fun c1 => ?_)
  · replace h := br_p c1 h
    refine lv_iconst (v := (0 : Int32)) hx hb dX1_isIn_17 (by decide) ?_
    exact reRz (v := (0 : Int32)) hx hb hr hlocks (by decide) h dX1_isIn_18
  · replace h := br_n c1 h
    refine lv_lload_n hx hb dX1_isIn_6 rfl (lv_at hl 0 rfl) ?_
    refine lv_lload hx hb dX1_isIn_7 (lv_at hl 2 rfl) ?_
    refine xl_gt (tgt := 17) hx hb dX1_isIn_9 dX1_isIn_10 (by decide) (fun c2 => ?_) (fun c2 => ?_)
    · replace h := br_p c2 h
      refine lv_iconst (v := (0 : Int32)) hx hb dX1_isIn_17 (by decide) ?_
      exact reRz (v := (0 : Int32)) hx hb hr hlocks (by decide) h dX1_isIn_18
    · replace h := br_n c2 h
      refine lv_iconst (v := (1 : Int32)) hx hb dX1_isIn_13 (by decide) ?_
      refine lv_goto (tgt := 18) hx hb dX1_isIn_14 (by decide) ?_
      exact reRz (v := (1 : Int32)) hx hb hr hlocks (by decide) h dX1_isIn_18
abbrev rmX1_sizeOf : Room := { frames := 0, cells := 0, slots := 0, locals := 0 }
def fX1_sizeOf  (x0 : Int64) : Option (Int64) := (if (0 : Int64) ≤ x0 then (some x0) else (some (-x0)))
set_option maxHeartbeats 4000000 in
set_option maxRecDepth 100000 in
theorem mX1_sizeOf (l : Launch) (x0 : Int64) (out : Int64) (h : fX1_sizeOf  x0 = some out) : MPl l yX1_sizeOf wsX1_sizeOf rmX1_sizeOf [.long x0] out := by
  refine ofPl (cc := cX1_sizeOf) (maxL := 2) (ret := (some .long)) (lv := [(0, .long x0)]) (plainFor_of_name (by decide)) rfl (Nat.le_of_ble_eq_true rfl) rfl ?_
  intro p e s m args below meth c C ls hl
  have C : cxt p s m args meth c RX1 cX1_sizeOf 2 (some .long) wsX1_sizeOf := C
  obtain ⟨hx, hb, hr, hml, hown, hts, hlocks⟩ := id C
  unfold fX1_sizeOf at h
  refine lv_lload_n hx hb dX1_sizeOf_0 rfl (lv_at hl 0 rfl) ?_
  refine lv_lconst (v := (0 : Int64)) hx hb dX1_sizeOf_1 (by decide) ?_
  refine xl_ge (tgt := 11) hx hb dX1_sizeOf_2 dX1_sizeOf_3 (by decide) (fun c1 => ?_) (fun c1 => ?_)
  · replace h := br_p c1 h
    refine lv_lload_n hx hb dX1_sizeOf_11 rfl (lv_at hl 0 rfl) ?_
    exact reRl (v := x0) hx hb hr hlocks h dX1_sizeOf_12
  · replace h := br_n c1 h
    refine lv_lload_n hx hb dX1_sizeOf_6 rfl (lv_at hl 0 rfl) ?_
    refine lv_lneg hx hb dX1_sizeOf_7 ?_
    refine lv_goto (tgt := 12) hx hb dX1_sizeOf_8 (by decide) ?_
    exact reRl (v := (-x0)) hx hb hr hlocks h dX1_sizeOf_12
abbrev rmX1_divisor : Room := { frames := 1, cells := 0, slots := 0, locals := 21 }
def fX1_divisor_B12    (k12 : Int64 × Int64 → Option (Int64)) (x4 : Int64) (x6 : Int64) : Option (Int64) := (if x6 = (0 : Int64) then (some x4) else (if x6 = (0 : Int64) then none else (k12 (x6, (lmd x4 x6)))))
def fX1_divisor_L12    (x4 : Int64) (x6 : Int64) : Option (Int64) := lp (fun k t => fX1_divisor_B12    k t.1 t.2) FU (x4, x6)
set_option maxHeartbeats 4000000 in
set_option maxRecDepth 100000 in
theorem wX1_divisor_B12 {p : Program} {l : Launch} {e : Env} {s : State} {m : MethodId} {args : Array Value} {below : List Frame} {meth : Method} {c : Code} {out : Int64} (C : cxt p s m args meth c RX1 cX1_divisor 10 (some .long) wsX1_divisor) (k12 : Int64 × Int64 → Option (Int64)) (hk12 : ∀ (x4 : Int64) (x6 : Int64) (ls : Array Slot), k12 (x4, x6) = some out → lv_has ls 10 [(4, .long x4), (6, .long x6)] → W p l e rmX1_divisor s m args below meth c s.heap [] 0 0 (MQ below (QRl out) args s 0 0 (fun _ => False)) (F0 m 12 ls [])) (x4 : Int64) (x6 : Int64) (ls : Array Slot) (h : fX1_divisor_B12   k12 x4 x6 = some out) (hl : lv_has ls 10 [(4, .long x4), (6, .long x6)]) : W p l e rmX1_divisor s m args below meth c s.heap [] 0 0 (MQ below (QRl out) args s 0 0 (fun _ => False)) (F0 m 12 ls []) := by
  obtain ⟨hx, hb, hr, hml, hown, hts, hlocks⟩ := id C
  unfold fX1_divisor_B12 at h
  refine lv_lload hx hb dX1_divisor_12 (lv_at hl 1 rfl) ?_
  refine lv_lconst (v := (0 : Int64)) hx hb dX1_divisor_14 (by decide) ?_
  refine xl_eq (tgt := 37) hx hb dX1_divisor_15 dX1_divisor_16 (by decide) (fun c1 => ?_) (fun c1 => ?_)
  · replace h := br_p c1 h
    refine lv_lload hx hb dX1_divisor_37 (lv_at hl 0 rfl) ?_
    exact reRl (v := x4) hx hb hr hlocks h dX1_divisor_39
  · replace h := br_n c1 h
    refine lv_lload hx hb dX1_divisor_19 (lv_at hl 0 rfl) ?_
    refine lv_lload hx hb dX1_divisor_21 (lv_at hl 1 rfl) ?_
    obtain ⟨g2, h⟩ := gd_f h
    refine lv_lrem hx hb dX1_divisor_23 g2 ?_
    refine lv_lstore (lv' := [(8, .long (lmd x4 x6)), (4, .long x4), (6, .long x6)]) hx hb dX1_divisor_24 hl (by decide) rfl (fun ls hl => ?_)
    refine lv_lload hx hb dX1_divisor_26 (lv_at hl 2 rfl) ?_
    refine lv_lstore (lv' := [(4, .long x6), (8, .long (lmd x4 x6)), (6, .long x6)]) hx hb dX1_divisor_28 hl (by decide) rfl (fun ls hl => ?_)
    refine lv_lload hx hb dX1_divisor_30 (lv_at hl 1 rfl) ?_
    refine lv_lstore (lv' := [(6, .long (lmd x4 x6)), (4, .long x6), (8, .long (lmd x4 x6))]) hx hb dX1_divisor_32 hl (by decide) rfl (fun ls hl => ?_)
    refine lv_goto (tgt := 12) hx hb dX1_divisor_34 (by decide) ?_
    exact hk12 x6 (lmd x4 x6) ls h (lv_sub hl [1, 0] rfl)
set_option maxHeartbeats 4000000 in
set_option maxRecDepth 100000 in
theorem wX1_divisor_L12 {p : Program} {l : Launch} {e : Env} {s : State} {m : MethodId} {args : Array Value} {below : List Frame} {meth : Method} {c : Code} {out : Int64} (C : cxt p s m args meth c RX1 cX1_divisor 10 (some .long) wsX1_divisor) (x4 : Int64) (x6 : Int64) (ls : Array Slot) (h : fX1_divisor_L12   x4 x6 = some out) (hl : lv_has ls 10 [(4, .long x4), (6, .long x6)]) : W p l e rmX1_divisor s m args below meth c s.heap [] 0 0 (MQ below (QRl out) args s 0 0 (fun _ => False)) (F0 m 12 ls []) := by
  unfold fX1_divisor_L12 at h
  exact lp_ind (P := fun t : Int64 × Int64 => ∀ ls : Array Slot, lv_has ls 10 [(4, .long t.1), (6, .long t.2)] → W p l e rmX1_divisor s m args below meth c s.heap [] 0 0 (MQ below (QRl out) args s 0 0 (fun _ => False)) (F0 m 12 ls [])) (fun k hk t h ls hl => wX1_divisor_B12 C  k (fun x4 x6 ls h hl => hk (x4, x6) h ls hl) t.1 t.2 ls h hl) FU (x4, x6) h ls hl
def fX1_divisor  (x0 : Int64) (x2 : Int64) : Option (Int64) := ((fX1_sizeOf x0).bind fun o1 => ((fX1_sizeOf x2).bind fun o3 => (fX1_divisor_L12 o1 o3)))
set_option maxHeartbeats 4000000 in
set_option maxRecDepth 100000 in
theorem mX1_divisor (l : Launch) (x0 : Int64) (x2 : Int64) (out : Int64) (h : fX1_divisor  x0 x2 = some out) : MPl l yX1_divisor wsX1_divisor rmX1_divisor [.long x0, .long x2] out := by
  refine ofPl (cc := cX1_divisor) (maxL := 10) (ret := (some .long)) (lv := [(0, .long x0), (2, .long x2)]) (plainFor_of_name (by decide)) rfl (Nat.le_of_ble_eq_true rfl) rfl ?_
  intro p e s m args below meth c C ls hl
  have C : cxt p s m args meth c RX1 cX1_divisor 10 (some .long) wsX1_divisor := C
  obtain ⟨hx, hb, hr, hml, hown, hts, hlocks⟩ := id C
  unfold fX1_divisor at h
  refine lv_lload_n hx hb dX1_divisor_0 rfl (lv_at hl 0 rfl) ?_
  obtain ⟨o1, ho2, h⟩ := bi h
  refine caPl (As := [.long x0]) (rest := []) ⟨hx, hb, hml, hown, hts⟩ (mX1_sizeOf l x0 o1 ho2) (va_cwS 1 hts gX1_divisor_X1_sizeOf rfl rfl rfl (by decide +kernel) ⟨Nat.le_of_ble_eq_true rfl, Nat.le_of_ble_eq_true rfl⟩) rfl hl.1 (Nat.le_of_ble_eq_true rfl) dX1_divisor_1 ⟨Nat.zero_le _, Nat.zero_le _⟩ ?_
  refine lv_lstore (lv' := [(4, .long o1), (0, .long x0), (2, .long x2)]) hx hb dX1_divisor_4 hl (by decide) rfl (fun ls hl => ?_)
  refine lv_lload_n hx hb dX1_divisor_6 rfl (lv_at hl 2 rfl) ?_
  obtain ⟨o3, ho4, h⟩ := bi h
  refine caPl (As := [.long x2]) (rest := []) ⟨hx, hb, hml, hown, hts⟩ (mX1_sizeOf l x2 o3 ho4) (va_cwS 1 hts gX1_divisor_X1_sizeOf rfl rfl rfl (by decide +kernel) ⟨Nat.le_of_ble_eq_true rfl, Nat.le_of_ble_eq_true rfl⟩) rfl hl.1 (Nat.le_of_ble_eq_true rfl) dX1_divisor_7 ⟨Nat.zero_le _, Nat.zero_le _⟩ ?_
  refine lv_lstore (lv' := [(6, .long o3), (4, .long o1), (0, .long x0), (2, .long x2)]) hx hb dX1_divisor_10 hl (by decide) rfl (fun ls hl => ?_)
  exact wX1_divisor_L12 C  o1 o3 ls h (lv_sub hl [1, 0] rfl)
abbrev rmX1_times : Room := { frames := 1, cells := 0, slots := 0, locals := 21 }
theorem hinX1_times : ∀ w ∈ u_ws RX1 TX1 17, w ∈ wsX1_times := by first | exact fun _ h => List.mem_cons_of_mem _ (List.mem_append_right _ h) | exact fun _ h => List.mem_cons_of_mem _ (List.mem_append_left _ (List.mem_append_right _ h)) | decide +kernel
def fX1_times (σ : MS)  (x1 : Int64) (x3 : Int64) : Option (Int64 × MS) := (if x1 = (0 : Int64) then (some ((0 : Int64), σ)) else (if x3 = (0 : Int64) then (some ((0 : Int64), σ)) else ((fX1_sizeOf x1).bind fun o3 => ((fX1_sizeOf x3).bind fun o5 => (if o5 = (0 : Int64) then none else (if o3 ≤ ((9223372036854775807 : Int64) / o5) then (some ((x1 * x3), σ)) else (bd (sm_isWide σ (1 : Int32)) fun s9 => (some ((0 : Int64), s9)))))))))
set_option maxHeartbeats 4000000 in
set_option maxRecDepth 100000 in
theorem mX1_times (l : Launch) (D : va_G) (kc : Nat → ClassId) (q : Nat → Nat) (σ : MS) (x1 : Int64) (x3 : Int64) (out : Int64 × MS) (h : fX1_times σ  x1 x3 = some out) : MMl l yX1_times wsX1_times rmX1_times D (tysX1 kc) (wX1 kc q) σ [.ref (q 0), .long x1, .long x3] out := by
  refine ofMl (cc := cX1_times) (maxL := 5) (ret := (some .long)) (lv := [(0, .ref (q 0)), (1, .long x1), (3, .long x3)]) (by decide) rfl (Nat.le_of_ble_eq_true rfl) rfl ?_
  intro p e s m args below meth c A C hA hK hP hD hS ls hl
  have C : cxt p s m args meth c RX1 cX1_times 5 (some .long) wsX1_times := C
  obtain ⟨hx, hb, hr, hml, hown, hts, hlocks⟩ := id C
  obtain ⟨H, hH⟩ : ∃ H, H = s.heap := ⟨_, rfl⟩
  obtain ⟨locs, hlocs⟩ : ∃ locs : List Loc, locs = [] := ⟨_, rfl⟩
  have hS : va_S A s.heap H locs := by rw [hH, hlocs]; exact va_S.rf
  rw [← hH] at hP
  suffices hW : W p l e rmX1_times s m args below meth c H locs 0 0 _ (F0 m 0 ls []) by rw [hH, hlocs] at hW; exact hW
  unfold fX1_times at h
  refine lv_lload_n hx hb dX1_times_0 rfl (lv_at hl 1 rfl) ?_
  refine lv_lconst (v := (0 : Int64)) hx hb dX1_times_1 (by decide) ?_
  refine xl_eq (tgt := 12) hx hb dX1_times_2 dX1_times_3 (by decide) (fun c1 => ?_) (fun c1 => ?_)
  · replace h := br_p c1 h
    refine lv_lconst (v := (0 : Int64)) hx hb dX1_times_12 (by decide) ?_
    exact reMl (v := (0 : Int64)) hx hb hr hlocks hK hP hD hS h dX1_times_13
  · replace h := br_n c1 h
    refine lv_lload_n hx hb dX1_times_6 rfl (lv_at hl 2 rfl) ?_
    refine lv_lconst (v := (0 : Int64)) hx hb dX1_times_7 (by decide) ?_
    refine xl_ne (tgt := 14) hx hb dX1_times_8 dX1_times_9 (by decide) (fun c2 => ?_) (fun c2 => ?_)
    · replace h := br_n c2 h
      refine lv_lload_n hx hb dX1_times_14 rfl (lv_at hl 1 rfl) ?_
      obtain ⟨o3, ho4, h⟩ := bi h
      refine caPl (As := [.long x1]) (rest := []) ⟨hx, hb, hml, hown, hts⟩ (mX1_sizeOf l x1 o3 ho4) (va_cwS 1 hts gX1_times_X1_sizeOf rfl rfl rfl (by decide +kernel) ⟨Nat.le_of_ble_eq_true rfl, Nat.le_of_ble_eq_true rfl⟩) rfl hl.1 (Nat.le_of_ble_eq_true rfl) dX1_times_15 ⟨Nat.zero_le _, Nat.zero_le _⟩ ?_
      refine lv_ldc2 (v := (9223372036854775807 : Int64)) hx hb hown (hts (.constantLong RX1 50 (9223372036854775807)) (List.mem_of_getElem? (i := 1) rfl)) dX1_times_18 ?_
      refine lv_lload_n hx hb dX1_times_21 rfl (lv_at hl 2 rfl) ?_
      obtain ⟨o5, ho6, h⟩ := bi h
      refine caPl (As := [.long x3]) (rest := [.long (9223372036854775807 : Int64), .long o3]) ⟨hx, hb, hml, hown, hts⟩ (mX1_sizeOf l x3 o5 ho6) (va_cwS 1 hts gX1_times_X1_sizeOf rfl rfl rfl (by decide +kernel) ⟨Nat.le_of_ble_eq_true rfl, Nat.le_of_ble_eq_true rfl⟩) rfl hl.1 (Nat.le_of_ble_eq_true rfl) dX1_times_22 ⟨Nat.zero_le _, Nat.zero_le _⟩ ?_
      obtain ⟨g7, h⟩ := gd_f h
      refine lv_ldiv hx hb dX1_times_25 g7 ?_
      refine xl_le (tgt := 37) hx hb dX1_times_26 dX1_times_27 (by decide) (fun c8 => ?_) (fun c8 => ?_)
      · replace h := br_p c8 h
        refine lv_lload_n hx hb dX1_times_37 rfl (lv_at hl 1 rfl) ?_
        refine lv_lload_n hx hb dX1_times_38 rfl (lv_at hl 2 rfl) ?_
        refine lv_lmul hx hb dX1_times_39 ?_
        exact reMl (v := (x1 * x3)) hx hb hr hlocks hK hP hD hS h dX1_times_40
      · replace h := br_n c8 h
        refine lv_aload_n hx hb dX1_times_30 rfl (lv_at hl 0 rfl) ?_
        refine lv_iconst (v := (1 : Int32)) hx hb dX1_times_31 (by decide) ?_
        refine wrX1_isWide (v := (1 : Int32)) hx hb hts hinX1_times hown hK hP hD hS (hts (.fieldLink RX1 39 "ExactSharesModel" "isWide" "Z") (List.mem_of_getElem? (i := 2) rfl)) rfl rfl dX1_times_32 (fun H locs hP hD hS => ?_)
        obtain ⟨s9, e10, h⟩ := bd_e h
        replace hP : va_P D vwCl (wX1 kc q s9) H := by rw [e10]; exact hP
        replace hD : va_D A (wX1 kc q s9) := by rw [e10]; exact hD
        clear e10
        refine lv_lconst (v := (0 : Int64)) hx hb dX1_times_35 (by decide) ?_
        exact reMl (v := (0 : Int64)) hx hb hr hlocks hK hP hD hS h dX1_times_36
    · replace h := br_p c2 h
      refine lv_lconst (v := (0 : Int64)) hx hb dX1_times_12 (by decide) ?_
      exact reMl (v := (0 : Int64)) hx hb hr hlocks hK hP hD hS h dX1_times_13
abbrev rmX1_plus : Room := { frames := 0, cells := 0, slots := 0, locals := 0 }
theorem hinX1_plus : ∀ w ∈ u_ws RX1 TX1 17, w ∈ wsX1_plus := by first | exact fun _ h => List.mem_cons_of_mem _ (List.mem_append_right _ h) | exact fun _ h => List.mem_cons_of_mem _ (List.mem_append_left _ (List.mem_append_right _ h)) | decide +kernel
def fX1_plus_L39 (σ : MS)   (x1 : Int64) (x3 : Int64) : Option (Int64 × MS) := (some ((x1 + x3), σ))
set_option maxHeartbeats 4000000 in
set_option maxRecDepth 100000 in
theorem wX1_plus_L39 {p : Program} {l : Launch} {e : Env} {s : State} {m : MethodId} {args : Array Value} {below : List Frame} {meth : Method} {c : Code} {A : Nat → Prop} {D : va_G} {kc : Nat → ClassId} {q : Nat → Nat} {out : Int64 × MS} (C : cxt p s m args meth c RX1 cX1_plus 5 (some .long) wsX1_plus) (hA : ∀ x, s.heap.size ≤ x → A x) (hK : va_K D vwCl (tysX1 kc) s) (σ : MS) (x1 : Int64) (x3 : Int64) (H : Heap) (locs : List Loc) (ls : Array Slot) (h : fX1_plus_L39 σ   x1 x3 = some out) (hP : va_P D vwCl (wX1 kc q σ) H) (hD : va_D A (wX1 kc q σ)) (hS : va_S A s.heap H locs) (hl : lv_has ls 5 [(0, .ref (q 0)), (1, .long x1), (3, .long x3)]) : W p l e rmX1_plus s m args below meth c H locs 0 0 (MQ below (QMl D (tysX1 kc) (wX1 kc q) A out) args s 0 0 A) (F0 m 39 ls []) := by
  obtain ⟨hx, hb, hr, hml, hown, hts, hlocks⟩ := id C
  unfold fX1_plus_L39 at h
  refine lv_lload_n hx hb dX1_plus_39 rfl (lv_at hl 1 rfl) ?_
  refine lv_lload_n hx hb dX1_plus_40 rfl (lv_at hl 2 rfl) ?_
  refine lv_ladd hx hb dX1_plus_41 ?_
  exact reMl (v := (x1 + x3)) hx hb hr hlocks hK hP hD hS h dX1_plus_42
def fX1_plus_L32 (σ : MS)    : Option (Int64 × MS) := (bd (sm_isWide σ (1 : Int32)) fun s1 => (some ((0 : Int64), s1)))
set_option maxHeartbeats 4000000 in
set_option maxRecDepth 100000 in
theorem wX1_plus_L32 {p : Program} {l : Launch} {e : Env} {s : State} {m : MethodId} {args : Array Value} {below : List Frame} {meth : Method} {c : Code} {A : Nat → Prop} {D : va_G} {kc : Nat → ClassId} {q : Nat → Nat} {out : Int64 × MS} (C : cxt p s m args meth c RX1 cX1_plus 5 (some .long) wsX1_plus) (hA : ∀ x, s.heap.size ≤ x → A x) (hK : va_K D vwCl (tysX1 kc) s) (σ : MS)  (H : Heap) (locs : List Loc) (ls : Array Slot) (h : fX1_plus_L32 σ    = some out) (hP : va_P D vwCl (wX1 kc q σ) H) (hD : va_D A (wX1 kc q σ)) (hS : va_S A s.heap H locs) (hl : lv_has ls 5 [(0, .ref (q 0))]) : W p l e rmX1_plus s m args below meth c H locs 0 0 (MQ below (QMl D (tysX1 kc) (wX1 kc q) A out) args s 0 0 A) (F0 m 32 ls []) := by
  obtain ⟨hx, hb, hr, hml, hown, hts, hlocks⟩ := id C
  unfold fX1_plus_L32 at h
  refine lv_aload_n hx hb dX1_plus_32 rfl (lv_at hl 0 rfl) ?_
  refine lv_iconst (v := (1 : Int32)) hx hb dX1_plus_33 (by decide) ?_
  refine wrX1_isWide (v := (1 : Int32)) hx hb hts hinX1_plus hown hK hP hD hS (hts (.fieldLink RX1 39 "ExactSharesModel" "isWide" "Z") (List.mem_of_getElem? (i := 3) rfl)) rfl rfl dX1_plus_34 (fun H locs hP hD hS => ?_)
  obtain ⟨s1, e2, h⟩ := bd_e h
  replace hP : va_P D vwCl (wX1 kc q s1) H := by rw [e2]; exact hP
  replace hD : va_D A (wX1 kc q s1) := by rw [e2]; exact hD
  clear e2
  refine lv_lconst (v := (0 : Int64)) hx hb dX1_plus_37 (by decide) ?_
  exact reMl (v := (0 : Int64)) hx hb hr hlocks hK hP hD hS h dX1_plus_38
def fX1_plus_L16 (σ : MS)   (x1 : Int64) (x3 : Int64) : Option (Int64 × MS) := (if (0 : Int64) ≤ x1 then (fX1_plus_L39 σ x1 x3) else (if ((-9223372036854775807 : Int64) - x1) ≤ x3 then (fX1_plus_L39 σ x1 x3) else (fX1_plus_L32 σ)))
set_option maxHeartbeats 4000000 in
set_option maxRecDepth 100000 in
theorem wX1_plus_L16 {p : Program} {l : Launch} {e : Env} {s : State} {m : MethodId} {args : Array Value} {below : List Frame} {meth : Method} {c : Code} {A : Nat → Prop} {D : va_G} {kc : Nat → ClassId} {q : Nat → Nat} {out : Int64 × MS} (C : cxt p s m args meth c RX1 cX1_plus 5 (some .long) wsX1_plus) (hA : ∀ x, s.heap.size ≤ x → A x) (hK : va_K D vwCl (tysX1 kc) s) (σ : MS) (x1 : Int64) (x3 : Int64) (H : Heap) (locs : List Loc) (ls : Array Slot) (h : fX1_plus_L16 σ   x1 x3 = some out) (hP : va_P D vwCl (wX1 kc q σ) H) (hD : va_D A (wX1 kc q σ)) (hS : va_S A s.heap H locs) (hl : lv_has ls 5 [(0, .ref (q 0)), (1, .long x1), (3, .long x3)]) : W p l e rmX1_plus s m args below meth c H locs 0 0 (MQ below (QMl D (tysX1 kc) (wX1 kc q) A out) args s 0 0 A) (F0 m 16 ls []) := by
  obtain ⟨hx, hb, hr, hml, hown, hts, hlocks⟩ := id C
  unfold fX1_plus_L16 at h
  refine lv_lload_n hx hb dX1_plus_16 rfl (lv_at hl 1 rfl) ?_
  refine lv_lconst (v := (0 : Int64)) hx hb dX1_plus_17 (by decide) ?_
  refine xl_ge (tgt := 39) hx hb dX1_plus_18 dX1_plus_19 (by decide) (fun c1 => ?_) (fun c1 => ?_)
  · replace h := br_p c1 h
    exact wX1_plus_L39 C hA hK  σ x1 x3 H locs ls h hP hD hS (lv_sub hl [0, 1, 2] rfl)
  · replace h := br_n c1 h
    refine lv_lload_n hx hb dX1_plus_22 rfl (lv_at hl 2 rfl) ?_
    refine lv_ldc2 (v := (-9223372036854775807 : Int64)) hx hb hown (hts (.constantLong RX1 52 (-9223372036854775807)) (List.mem_of_getElem? (i := 2) rfl)) dX1_plus_23 ?_
    refine lv_lload_n hx hb dX1_plus_26 rfl (lv_at hl 1 rfl) ?_
    refine lv_lsub hx hb dX1_plus_27 ?_
    refine xl_ge (tgt := 39) hx hb dX1_plus_28 dX1_plus_29 (by decide) (fun c2 => ?_) (fun c2 => ?_)
    · replace h := br_p c2 h
      exact wX1_plus_L39 C hA hK  σ x1 x3 H locs ls h hP hD hS (lv_sub hl [0, 1, 2] rfl)
    · replace h := br_n c2 h
      exact wX1_plus_L32 C hA hK  σ H locs ls h hP hD hS (lv_sub hl [0] rfl)
def fX1_plus (σ : MS)  (x1 : Int64) (x3 : Int64) : Option (Int64 × MS) := (if x1 ≤ (0 : Int64) then (fX1_plus_L16 σ x1 x3) else (if ((9223372036854775807 : Int64) - x1) < x3 then (fX1_plus_L32 σ) else (fX1_plus_L16 σ x1 x3)))
set_option maxHeartbeats 4000000 in
set_option maxRecDepth 100000 in
theorem mX1_plus (l : Launch) (D : va_G) (kc : Nat → ClassId) (q : Nat → Nat) (σ : MS) (x1 : Int64) (x3 : Int64) (out : Int64 × MS) (h : fX1_plus σ  x1 x3 = some out) : MMl l yX1_plus wsX1_plus rmX1_plus D (tysX1 kc) (wX1 kc q) σ [.ref (q 0), .long x1, .long x3] out := by
  refine ofMl (cc := cX1_plus) (maxL := 5) (ret := (some .long)) (lv := [(0, .ref (q 0)), (1, .long x1), (3, .long x3)]) (by decide) rfl (Nat.le_of_ble_eq_true rfl) rfl ?_
  intro p e s m args below meth c A C hA hK hP hD hS ls hl
  have C : cxt p s m args meth c RX1 cX1_plus 5 (some .long) wsX1_plus := C
  obtain ⟨hx, hb, hr, hml, hown, hts, hlocks⟩ := id C
  obtain ⟨H, hH⟩ : ∃ H, H = s.heap := ⟨_, rfl⟩
  obtain ⟨locs, hlocs⟩ : ∃ locs : List Loc, locs = [] := ⟨_, rfl⟩
  have hS : va_S A s.heap H locs := by rw [hH, hlocs]; exact va_S.rf
  rw [← hH] at hP
  suffices hW : W p l e rmX1_plus s m args below meth c H locs 0 0 _ (F0 m 0 ls []) by rw [hH, hlocs] at hW; exact hW
  unfold fX1_plus at h
  refine lv_lload_n hx hb dX1_plus_0 rfl (lv_at hl 1 rfl) ?_
  refine lv_lconst (v := (0 : Int64)) hx hb dX1_plus_1 (by decide) ?_
  refine xl_le (tgt := 16) hx hb dX1_plus_2 dX1_plus_3 (by decide) (fun c1 => ?_) (fun c1 => ?_)
  · replace h := br_p c1 h
    exact wX1_plus_L16 C hA hK  σ x1 x3 H locs ls h hP hD hS (lv_sub hl [0, 1, 2] rfl)
  · replace h := br_n c1 h
    refine lv_lload_n hx hb dX1_plus_6 rfl (lv_at hl 2 rfl) ?_
    refine lv_ldc2 (v := (9223372036854775807 : Int64)) hx hb hown (hts (.constantLong RX1 50 (9223372036854775807)) (List.mem_of_getElem? (i := 1) rfl)) dX1_plus_7 ?_
    refine lv_lload_n hx hb dX1_plus_10 rfl (lv_at hl 1 rfl) ?_
    refine lv_lsub hx hb dX1_plus_11 ?_
    refine xl_gt (tgt := 32) hx hb dX1_plus_12 dX1_plus_13 (by decide) (fun c2 => ?_) (fun c2 => ?_)
    · replace h := br_p c2 h
      exact wX1_plus_L32 C hA hK  σ H locs ls h hP hD hS (lv_sub hl [0] rfl)
    · replace h := br_n c2 h
      exact wX1_plus_L16 C hA hK  σ x1 x3 H locs ls h hP hD hS (lv_sub hl [0, 1, 2] rfl)
abbrev rmX1_compared : Room := { frames := 0, cells := 0, slots := 0, locals := 0 }
theorem hinX1_compared : ∀ w ∈ u_ws RX1 TX1 17, w ∈ wsX1_compared := by first | exact fun _ h => List.mem_cons_of_mem _ (List.mem_append_right _ h) | exact fun _ h => List.mem_cons_of_mem _ (List.mem_append_left _ (List.mem_append_right _ h)) | decide +kernel
def fX1_compared_L255 (σ : MS)   (x9 : Int32) : Option (Int32 × MS) := (if ix x9 7 = true then (if ix x9 7 = true then (if ((m_two σ) x9.toNatClampNeg) ≤ ((m_one σ) x9.toNatClampNeg) then (if ix x9 7 = true then (if ix x9 7 = true then (if ((m_one σ) x9.toNatClampNeg) ≤ ((m_two σ) x9.toNatClampNeg) then (some ((0 : Int32), σ)) else (some ((1 : Int32), σ))) else none) else none) else (some ((-1 : Int32), σ))) else none) else none)
set_option maxHeartbeats 4000000 in
set_option maxRecDepth 100000 in
theorem wX1_compared_L255 {p : Program} {l : Launch} {e : Env} {s : State} {m : MethodId} {args : Array Value} {below : List Frame} {meth : Method} {c : Code} {A : Nat → Prop} {D : va_G} {kc : Nat → ClassId} {q : Nat → Nat} {out : Int32 × MS} (C : cxt p s m args meth c RX1 cX1_compared 11 (some .int) wsX1_compared) (hA : ∀ x, s.heap.size ≤ x → A x) (hK : va_K D vwCl (tysX1 kc) s) (σ : MS) (x9 : Int32) (H : Heap) (locs : List Loc) (ls : Array Slot) (h : fX1_compared_L255 σ   x9 = some out) (hP : va_P D vwCl (wX1 kc q σ) H) (hD : va_D A (wX1 kc q σ)) (hS : va_S A s.heap H locs) (hl : lv_has ls 11 [(0, .ref (q 0)), (9, .int x9)]) : W p l e rmX1_compared s m args below meth c H locs 0 0 (MQ below (QMi D (tysX1 kc) (wX1 kc q) A out) args s 0 0 A) (F0 m 255 ls []) := by
  obtain ⟨hx, hb, hr, hml, hown, hts, hlocks⟩ := id C
  unfold fX1_compared_L255 at h
  refine lv_aload_n hx hb dX1_compared_255 rfl (lv_at hl 0 rfl) ?_
  refine rdX1_one hx hb hts hinX1_compared hown hK hP (hts (.fieldLink RX1 33 "ExactSharesModel" "one" "[J") (List.mem_of_getElem? (i := 1) rfl)) dX1_compared_256 ?_
  refine lv_iload hx hb dX1_compared_259 (lv_at hl 1 rfl) ?_
  obtain ⟨g1, h⟩ := gd_t h
  refine ldX1_one hx hb hK hP g1 dX1_compared_261 ?_
  refine lv_aload_n hx hb dX1_compared_262 rfl (lv_at hl 0 rfl) ?_
  refine rdX1_two hx hb hts hinX1_compared hown hK hP (hts (.fieldLink RX1 36 "ExactSharesModel" "two" "[J") (List.mem_of_getElem? (i := 2) rfl)) dX1_compared_263 ?_
  refine lv_iload hx hb dX1_compared_266 (lv_at hl 1 rfl) ?_
  obtain ⟨g2, h⟩ := gd_t h
  refine ldX1_two hx hb hK hP g2 dX1_compared_268 ?_
  refine xl_ge (tgt := 277) hx hb dX1_compared_269 dX1_compared_270 (by decide) (fun c3 => ?_) (fun c3 => ?_)
  · replace h := br_p c3 h
    refine lv_aload_n hx hb dX1_compared_277 rfl (lv_at hl 0 rfl) ?_
    refine rdX1_one hx hb hts hinX1_compared hown hK hP (hts (.fieldLink RX1 33 "ExactSharesModel" "one" "[J") (List.mem_of_getElem? (i := 1) rfl)) dX1_compared_278 ?_
    refine lv_iload hx hb dX1_compared_281 (lv_at hl 1 rfl) ?_
    obtain ⟨g4, h⟩ := gd_t h
    refine ldX1_one hx hb hK hP g4 dX1_compared_283 ?_
    refine lv_aload_n hx hb dX1_compared_284 rfl (lv_at hl 0 rfl) ?_
    refine rdX1_two hx hb hts hinX1_compared hown hK hP (hts (.fieldLink RX1 36 "ExactSharesModel" "two" "[J") (List.mem_of_getElem? (i := 2) rfl)) dX1_compared_285 ?_
    refine lv_iload hx hb dX1_compared_288 (lv_at hl 1 rfl) ?_
    obtain ⟨g5, h⟩ := gd_t h
    refine ldX1_two hx hb hK hP g5 dX1_compared_290 ?_
    refine xl_le (tgt := 299) hx hb dX1_compared_291 dX1_compared_292 (by decide) (fun c6 => ?_) (fun c6 => ?_)
    · replace h := br_p c6 h
      refine lv_iconst (v := (0 : Int32)) hx hb dX1_compared_299 (by decide) ?_
      exact reMi (v := (0 : Int32)) hx hb hr hlocks hK hP hD hS h dX1_compared_300
    · replace h := br_n c6 h
      refine lv_iconst (v := (1 : Int32)) hx hb dX1_compared_295 (by decide) ?_
      refine lv_goto (tgt := 300) hx hb dX1_compared_296 (by decide) ?_
      exact reMi (v := (1 : Int32)) hx hb hr hlocks hK hP hD hS h dX1_compared_300
  · replace h := br_n c3 h
    refine lv_iconst (v := (-1 : Int32)) hx hb dX1_compared_273 (by decide) ?_
    refine lv_goto (tgt := 300) hx hb dX1_compared_274 (by decide) ?_
    exact reMi (v := (-1 : Int32)) hx hb hr hlocks hK hP hD hS h dX1_compared_300
def fX1_compared_B226 (σ : MS)   (k226 : Int32 × MS → Option (Int32 × MS)) (x9 : Int32) : Option (Int32 × MS) := (if x9 ≤ (0 : Int32) then (fX1_compared_L255 σ x9) else (if ix x9 7 = true then (if ix x9 7 = true then (if ((m_one σ) x9.toNatClampNeg) = ((m_two σ) x9.toNatClampNeg) then (k226 ((x9 + (-1 : Int32)), σ)) else (fX1_compared_L255 σ x9)) else none) else none))
def fX1_compared_L226 (σ : MS)   (x9 : Int32) : Option (Int32 × MS) := lp (fun k t => fX1_compared_B226 t.2   k t.1) FU (x9, σ)
set_option maxHeartbeats 4000000 in
set_option maxRecDepth 100000 in
theorem wX1_compared_B226 {p : Program} {l : Launch} {e : Env} {s : State} {m : MethodId} {args : Array Value} {below : List Frame} {meth : Method} {c : Code} {A : Nat → Prop} {D : va_G} {kc : Nat → ClassId} {q : Nat → Nat} {out : Int32 × MS} (C : cxt p s m args meth c RX1 cX1_compared 11 (some .int) wsX1_compared) (hA : ∀ x, s.heap.size ≤ x → A x) (hK : va_K D vwCl (tysX1 kc) s) (k226 : Int32 × MS → Option (Int32 × MS)) (hk226 : ∀ (x9 : Int32) (σ : MS) (H : Heap) (locs : List Loc) (ls : Array Slot), k226 (x9, σ) = some out → va_P D vwCl (wX1 kc q σ) H → va_D A (wX1 kc q σ) → va_S A s.heap H locs → lv_has ls 11 [(0, .ref (q 0)), (9, .int x9)] → W p l e rmX1_compared s m args below meth c H locs 0 0 (MQ below (QMi D (tysX1 kc) (wX1 kc q) A out) args s 0 0 A) (F0 m 226 ls [])) (σ : MS) (x9 : Int32) (H : Heap) (locs : List Loc) (ls : Array Slot) (h : fX1_compared_B226 σ   k226 x9 = some out) (hP : va_P D vwCl (wX1 kc q σ) H) (hD : va_D A (wX1 kc q σ)) (hS : va_S A s.heap H locs) (hl : lv_has ls 11 [(0, .ref (q 0)), (9, .int x9)]) : W p l e rmX1_compared s m args below meth c H locs 0 0 (MQ below (QMi D (tysX1 kc) (wX1 kc q) A out) args s 0 0 A) (F0 m 226 ls []) := by
  obtain ⟨hx, hb, hr, hml, hown, hts, hlocks⟩ := id C
  unfold fX1_compared_B226 at h
  refine lv_iload hx hb dX1_compared_226 (lv_at hl 1 rfl) ?_
  refine lv_if_le (tgt := 255) hx hb dX1_compared_228 (by decide) (fun c1 => ?_) (fun c1 => ?_)
  · replace h := br_p c1 h
    exact wX1_compared_L255 C hA hK  σ x9 H locs ls h hP hD hS (lv_sub hl [0, 1] rfl)
  · replace h := br_n c1 h
    refine lv_aload_n hx hb dX1_compared_231 rfl (lv_at hl 0 rfl) ?_
    refine rdX1_one hx hb hts hinX1_compared hown hK hP (hts (.fieldLink RX1 33 "ExactSharesModel" "one" "[J") (List.mem_of_getElem? (i := 1) rfl)) dX1_compared_232 ?_
    refine lv_iload hx hb dX1_compared_235 (lv_at hl 1 rfl) ?_
    obtain ⟨g2, h⟩ := gd_t h
    refine ldX1_one hx hb hK hP g2 dX1_compared_237 ?_
    refine lv_aload_n hx hb dX1_compared_238 rfl (lv_at hl 0 rfl) ?_
    refine rdX1_two hx hb hts hinX1_compared hown hK hP (hts (.fieldLink RX1 36 "ExactSharesModel" "two" "[J") (List.mem_of_getElem? (i := 2) rfl)) dX1_compared_239 ?_
    refine lv_iload hx hb dX1_compared_242 (lv_at hl 1 rfl) ?_
    obtain ⟨g3, h⟩ := gd_t h
    refine ldX1_two hx hb hK hP g3 dX1_compared_244 ?_
    refine xl_ne (tgt := 255) hx hb dX1_compared_245 dX1_compared_246 (by decide) (fun c4 => ?_) (fun c4 => ?_)
    · replace h := br_n c4 h
      exact wX1_compared_L255 C hA hK  σ x9 H locs ls h hP hD hS (lv_sub hl [0, 1] rfl)
    · replace h := br_p c4 h
      refine lv_iinc (v := (x9 + (-1 : Int32))) (lv' := [(9, .int (x9 + (-1 : Int32))), (0, .ref (q 0))]) hx hb dX1_compared_249 hl (k := 1) rfl rfl (by decide) rfl (fun ls hl => ?_)
      refine lv_goto (tgt := 226) hx hb dX1_compared_252 (by decide) ?_
      exact hk226 (x9 + (-1 : Int32)) σ H locs ls h hP hD hS (lv_sub hl [1, 0] rfl)
set_option maxHeartbeats 4000000 in
set_option maxRecDepth 100000 in
theorem wX1_compared_L226 {p : Program} {l : Launch} {e : Env} {s : State} {m : MethodId} {args : Array Value} {below : List Frame} {meth : Method} {c : Code} {A : Nat → Prop} {D : va_G} {kc : Nat → ClassId} {q : Nat → Nat} {out : Int32 × MS} (C : cxt p s m args meth c RX1 cX1_compared 11 (some .int) wsX1_compared) (hA : ∀ x, s.heap.size ≤ x → A x) (hK : va_K D vwCl (tysX1 kc) s) (σ : MS) (x9 : Int32) (H : Heap) (locs : List Loc) (ls : Array Slot) (h : fX1_compared_L226 σ   x9 = some out) (hP : va_P D vwCl (wX1 kc q σ) H) (hD : va_D A (wX1 kc q σ)) (hS : va_S A s.heap H locs) (hl : lv_has ls 11 [(0, .ref (q 0)), (9, .int x9)]) : W p l e rmX1_compared s m args below meth c H locs 0 0 (MQ below (QMi D (tysX1 kc) (wX1 kc q) A out) args s 0 0 A) (F0 m 226 ls []) := by
  unfold fX1_compared_L226 at h
  exact lp_ind (P := fun t : Int32 × MS => ∀ (H : Heap) (locs : List Loc) (ls : Array Slot), va_P D vwCl (wX1 kc q t.2) H → va_D A (wX1 kc q t.2) → va_S A s.heap H locs → lv_has ls 11 [(0, .ref (q 0)), (9, .int t.1)] → W p l e rmX1_compared s m args below meth c H locs 0 0 (MQ below (QMi D (tysX1 kc) (wX1 kc q) A out) args s 0 0 A) (F0 m 226 ls [])) (fun k hk t h H locs ls hP hD hS hl => wX1_compared_B226 C hA hK  k (fun x9 σ H locs ls h hP hD hS hl => hk (x9, σ) h H locs ls hP hD hS hl) t.2 t.1 H locs ls h hP hD hS hl) FU (x9, σ) h H locs ls hP hD hS hl
def fX1_compared_B139 (σ : MS)   (k139 : Int32 × MS → Option (Int32 × MS)) (x9 : Int32) : Option (Int32 × MS) := (if (6 : Int32) ≤ x9 then (fX1_compared_L226 σ (6 : Int32)) else (if ix (x9 + (1 : Int32)) 7 = true then (if ix x9 7 = true then (if ix (x9 + (1 : Int32)) 7 = true then (bd (sm_one σ (vp_updL (m_one σ) (x9 + (1 : Int32)).toNatClampNeg (((m_one σ) (x9 + (1 : Int32)).toNatClampNeg) + (((m_one σ) x9.toNatClampNeg) >>> ((21 : Int32).toInt64 &&& 63))))) fun s5 => (if ix x9 7 = true then (if ix x9 7 = true then (bd (sm_one s5 (vp_updL (m_one s5) x9.toNatClampNeg (((m_one s5) x9.toNatClampNeg) &&& (2097151 : Int64)))) fun s9 => (if ix (x9 + (1 : Int32)) 7 = true then (if ix x9 7 = true then (if ix (x9 + (1 : Int32)) 7 = true then (bd (sm_two s9 (vp_updL (m_two s9) (x9 + (1 : Int32)).toNatClampNeg (((m_two s9) (x9 + (1 : Int32)).toNatClampNeg) + (((m_two s9) x9.toNatClampNeg) >>> ((21 : Int32).toInt64 &&& 63))))) fun s14 => (if ix x9 7 = true then (if ix x9 7 = true then (bd (sm_two s14 (vp_updL (m_two s14) x9.toNatClampNeg (((m_two s14) x9.toNatClampNeg) &&& (2097151 : Int64)))) fun s18 => (k139 ((x9 + (1 : Int32)), s18))) else none) else none)) else none) else none) else none)) else none) else none)) else none) else none) else none))
def fX1_compared_L139 (σ : MS)   (x9 : Int32) : Option (Int32 × MS) := lp (fun k t => fX1_compared_B139 t.2   k t.1) FU (x9, σ)
set_option maxHeartbeats 4000000 in
set_option maxRecDepth 100000 in
theorem wX1_compared_B139 {p : Program} {l : Launch} {e : Env} {s : State} {m : MethodId} {args : Array Value} {below : List Frame} {meth : Method} {c : Code} {A : Nat → Prop} {D : va_G} {kc : Nat → ClassId} {q : Nat → Nat} {out : Int32 × MS} (C : cxt p s m args meth c RX1 cX1_compared 11 (some .int) wsX1_compared) (hA : ∀ x, s.heap.size ≤ x → A x) (hK : va_K D vwCl (tysX1 kc) s) (k139 : Int32 × MS → Option (Int32 × MS)) (hk139 : ∀ (x9 : Int32) (σ : MS) (H : Heap) (locs : List Loc) (ls : Array Slot), k139 (x9, σ) = some out → va_P D vwCl (wX1 kc q σ) H → va_D A (wX1 kc q σ) → va_S A s.heap H locs → lv_has ls 11 [(0, .ref (q 0)), (9, .int x9)] → W p l e rmX1_compared s m args below meth c H locs 0 0 (MQ below (QMi D (tysX1 kc) (wX1 kc q) A out) args s 0 0 A) (F0 m 139 ls [])) (σ : MS) (x9 : Int32) (H : Heap) (locs : List Loc) (ls : Array Slot) (h : fX1_compared_B139 σ   k139 x9 = some out) (hP : va_P D vwCl (wX1 kc q σ) H) (hD : va_D A (wX1 kc q σ)) (hS : va_S A s.heap H locs) (hl : lv_has ls 11 [(0, .ref (q 0)), (9, .int x9)]) : W p l e rmX1_compared s m args below meth c H locs 0 0 (MQ below (QMi D (tysX1 kc) (wX1 kc q) A out) args s 0 0 A) (F0 m 139 ls []) := by
  obtain ⟨hx, hb, hr, hml, hown, hts, hlocks⟩ := id C
  unfold fX1_compared_B139 at h
  refine lv_iload hx hb dX1_compared_139 (lv_at hl 1 rfl) ?_
  refine lv_bipush (v := (6 : Int32)) hx hb dX1_compared_141 (by decide) ?_
  refine lv_icmp_ge (tgt := 222) hx hb dX1_compared_143 (by decide) (fun c1 => ?_) (fun c1 => ?_)
  · replace h := br_p c1 h
    refine lv_bipush (v := (6 : Int32)) hx hb dX1_compared_222 (by decide) ?_
    refine lv_istore (lv' := [(9, .int (6 : Int32)), (0, .ref (q 0))]) hx hb dX1_compared_224 hl (by decide) rfl (fun ls hl => ?_)
    exact wX1_compared_L226 C hA hK  σ (6 : Int32) H locs ls h hP hD hS (lv_sub hl [1, 0] rfl)
  · replace h := br_n c1 h
    refine lv_aload_n hx hb dX1_compared_146 rfl (lv_at hl 0 rfl) ?_
    refine rdX1_one hx hb hts hinX1_compared hown hK hP (hts (.fieldLink RX1 33 "ExactSharesModel" "one" "[J") (List.mem_of_getElem? (i := 1) rfl)) dX1_compared_147 ?_
    refine lv_iload hx hb dX1_compared_150 (lv_at hl 1 rfl) ?_
    refine lv_iconst (v := (1 : Int32)) hx hb dX1_compared_152 (by decide) ?_
    refine lv_iadd hx hb dX1_compared_153 ?_
    refine lv_dup2_11 hx hb dX1_compared_154 rfl rfl ?_
    obtain ⟨g2, h⟩ := gd_t h
    refine ldX1_one hx hb hK hP g2 dX1_compared_155 ?_
    refine lv_aload_n hx hb dX1_compared_156 rfl (lv_at hl 0 rfl) ?_
    refine rdX1_one hx hb hts hinX1_compared hown hK hP (hts (.fieldLink RX1 33 "ExactSharesModel" "one" "[J") (List.mem_of_getElem? (i := 1) rfl)) dX1_compared_157 ?_
    refine lv_iload hx hb dX1_compared_160 (lv_at hl 1 rfl) ?_
    obtain ⟨g3, h⟩ := gd_t h
    refine ldX1_one hx hb hK hP g3 dX1_compared_162 ?_
    refine lv_bipush (v := (21 : Int32)) hx hb dX1_compared_163 (by decide) ?_
    refine lv_lshr (v := (((m_one σ) x9.toNatClampNeg) >>> ((21 : Int32).toInt64 &&& 63))) hx hb dX1_compared_165 rfl ?_
    refine lv_ladd hx hb dX1_compared_166 ?_
    obtain ⟨g4, h⟩ := gd_t h
    refine stX1_one (x := (((m_one σ) (x9 + (1 : Int32)).toNatClampNeg) + (((m_one σ) x9.toNatClampNeg) >>> ((21 : Int32).toInt64 &&& 63)))) hx hb hK hP hD hS g4 dX1_compared_167 (fun H locs hP hD hS => ?_)
    obtain ⟨s5, e6, h⟩ := bd_e h
    replace hP : va_P D vwCl (wX1 kc q s5) H := by rw [e6]; exact hP
    replace hD : va_D A (wX1 kc q s5) := by rw [e6]; exact hD
    clear e6
    refine lv_aload_n hx hb dX1_compared_168 rfl (lv_at hl 0 rfl) ?_
    refine rdX1_one hx hb hts hinX1_compared hown hK hP (hts (.fieldLink RX1 33 "ExactSharesModel" "one" "[J") (List.mem_of_getElem? (i := 1) rfl)) dX1_compared_169 ?_
    refine lv_iload hx hb dX1_compared_172 (lv_at hl 1 rfl) ?_
    refine lv_dup2_11 hx hb dX1_compared_174 rfl rfl ?_
    obtain ⟨g7, h⟩ := gd_t h
    refine ldX1_one hx hb hK hP g7 dX1_compared_175 ?_
    refine lv_ldc2 (v := (2097151 : Int64)) hx hb hown (hts (.constantLong RX1 54 (2097151)) (List.mem_of_getElem? (i := 3) rfl)) dX1_compared_176 ?_
    refine lv_land hx hb dX1_compared_179 ?_
    obtain ⟨g8, h⟩ := gd_t h
    refine stX1_one (x := (((m_one s5) x9.toNatClampNeg) &&& (2097151 : Int64))) hx hb hK hP hD hS g8 dX1_compared_180 (fun H locs hP hD hS => ?_)
    obtain ⟨s9, e10, h⟩ := bd_e h
    replace hP : va_P D vwCl (wX1 kc q s9) H := by rw [e10]; exact hP
    replace hD : va_D A (wX1 kc q s9) := by rw [e10]; exact hD
    clear e10
    refine lv_aload_n hx hb dX1_compared_181 rfl (lv_at hl 0 rfl) ?_
    refine rdX1_two hx hb hts hinX1_compared hown hK hP (hts (.fieldLink RX1 36 "ExactSharesModel" "two" "[J") (List.mem_of_getElem? (i := 2) rfl)) dX1_compared_182 ?_
    refine lv_iload hx hb dX1_compared_185 (lv_at hl 1 rfl) ?_
    refine lv_iconst (v := (1 : Int32)) hx hb dX1_compared_187 (by decide) ?_
    refine lv_iadd hx hb dX1_compared_188 ?_
    refine lv_dup2_11 hx hb dX1_compared_189 rfl rfl ?_
    obtain ⟨g11, h⟩ := gd_t h
    refine ldX1_two hx hb hK hP g11 dX1_compared_190 ?_
    refine lv_aload_n hx hb dX1_compared_191 rfl (lv_at hl 0 rfl) ?_
    refine rdX1_two hx hb hts hinX1_compared hown hK hP (hts (.fieldLink RX1 36 "ExactSharesModel" "two" "[J") (List.mem_of_getElem? (i := 2) rfl)) dX1_compared_192 ?_
    refine lv_iload hx hb dX1_compared_195 (lv_at hl 1 rfl) ?_
    obtain ⟨g12, h⟩ := gd_t h
    refine ldX1_two hx hb hK hP g12 dX1_compared_197 ?_
    refine lv_bipush (v := (21 : Int32)) hx hb dX1_compared_198 (by decide) ?_
    refine lv_lshr (v := (((m_two s9) x9.toNatClampNeg) >>> ((21 : Int32).toInt64 &&& 63))) hx hb dX1_compared_200 rfl ?_
    refine lv_ladd hx hb dX1_compared_201 ?_
    obtain ⟨g13, h⟩ := gd_t h
    refine stX1_two (x := (((m_two s9) (x9 + (1 : Int32)).toNatClampNeg) + (((m_two s9) x9.toNatClampNeg) >>> ((21 : Int32).toInt64 &&& 63)))) hx hb hK hP hD hS g13 dX1_compared_202 (fun H locs hP hD hS => ?_)
    obtain ⟨s14, e15, h⟩ := bd_e h
    replace hP : va_P D vwCl (wX1 kc q s14) H := by rw [e15]; exact hP
    replace hD : va_D A (wX1 kc q s14) := by rw [e15]; exact hD
    clear e15
    refine lv_aload_n hx hb dX1_compared_203 rfl (lv_at hl 0 rfl) ?_
    refine rdX1_two hx hb hts hinX1_compared hown hK hP (hts (.fieldLink RX1 36 "ExactSharesModel" "two" "[J") (List.mem_of_getElem? (i := 2) rfl)) dX1_compared_204 ?_
    refine lv_iload hx hb dX1_compared_207 (lv_at hl 1 rfl) ?_
    refine lv_dup2_11 hx hb dX1_compared_209 rfl rfl ?_
    obtain ⟨g16, h⟩ := gd_t h
    refine ldX1_two hx hb hK hP g16 dX1_compared_210 ?_
    refine lv_ldc2 (v := (2097151 : Int64)) hx hb hown (hts (.constantLong RX1 54 (2097151)) (List.mem_of_getElem? (i := 3) rfl)) dX1_compared_211 ?_
    refine lv_land hx hb dX1_compared_214 ?_
    obtain ⟨g17, h⟩ := gd_t h
    refine stX1_two (x := (((m_two s14) x9.toNatClampNeg) &&& (2097151 : Int64))) hx hb hK hP hD hS g17 dX1_compared_215 (fun H locs hP hD hS => ?_)
    obtain ⟨s18, e19, h⟩ := bd_e h
    replace hP : va_P D vwCl (wX1 kc q s18) H := by rw [e19]; exact hP
    replace hD : va_D A (wX1 kc q s18) := by rw [e19]; exact hD
    clear e19
    refine lv_iinc (v := (x9 + (1 : Int32))) (lv' := [(9, .int (x9 + (1 : Int32))), (0, .ref (q 0))]) hx hb dX1_compared_216 hl (k := 1) rfl rfl (by decide) rfl (fun ls hl => ?_)
    refine lv_goto (tgt := 139) hx hb dX1_compared_219 (by decide) ?_
    exact hk139 (x9 + (1 : Int32)) s18 H locs ls h hP hD hS (lv_sub hl [1, 0] rfl)
set_option maxHeartbeats 4000000 in
set_option maxRecDepth 100000 in
theorem wX1_compared_L139 {p : Program} {l : Launch} {e : Env} {s : State} {m : MethodId} {args : Array Value} {below : List Frame} {meth : Method} {c : Code} {A : Nat → Prop} {D : va_G} {kc : Nat → ClassId} {q : Nat → Nat} {out : Int32 × MS} (C : cxt p s m args meth c RX1 cX1_compared 11 (some .int) wsX1_compared) (hA : ∀ x, s.heap.size ≤ x → A x) (hK : va_K D vwCl (tysX1 kc) s) (σ : MS) (x9 : Int32) (H : Heap) (locs : List Loc) (ls : Array Slot) (h : fX1_compared_L139 σ   x9 = some out) (hP : va_P D vwCl (wX1 kc q σ) H) (hD : va_D A (wX1 kc q σ)) (hS : va_S A s.heap H locs) (hl : lv_has ls 11 [(0, .ref (q 0)), (9, .int x9)]) : W p l e rmX1_compared s m args below meth c H locs 0 0 (MQ below (QMi D (tysX1 kc) (wX1 kc q) A out) args s 0 0 A) (F0 m 139 ls []) := by
  unfold fX1_compared_L139 at h
  exact lp_ind (P := fun t : Int32 × MS => ∀ (H : Heap) (locs : List Loc) (ls : Array Slot), va_P D vwCl (wX1 kc q t.2) H → va_D A (wX1 kc q t.2) → va_S A s.heap H locs → lv_has ls 11 [(0, .ref (q 0)), (9, .int t.1)] → W p l e rmX1_compared s m args below meth c H locs 0 0 (MQ below (QMi D (tysX1 kc) (wX1 kc q) A out) args s 0 0 A) (F0 m 139 ls [])) (fun k hk t h H locs ls hP hD hS hl => wX1_compared_B139 C hA hK  k (fun x9 σ H locs ls h hP hD hS hl => hk (x9, σ) h H locs ls hP hD hS hl) t.2 t.1 H locs ls h hP hD hS hl) FU (x9, σ) h H locs ls hP hD hS hl
def fX1_compared_B44 (σ : MS)  (k35 : Int64 × Int64 × Int64 × Int64 × Int32 × MS → Option (Int32 × MS)) (k44 : Int64 × Int64 × Int64 × Int64 × Int32 × Int32 × MS → Option (Int32 × MS)) (x1 : Int64) (x3 : Int64) (x5 : Int64) (x7 : Int64) (x9 : Int32) (x10 : Int32) : Option (Int32 × MS) := (if (3 : Int32) ≤ x10 then (k35 (x1, x3, x5, x7, (x9 + (1 : Int32)), σ)) else (if ix (x9 + x10) 7 = true then (if ix (x9 + x10) 7 = true then (bd (sm_one σ (vp_updL (m_one σ) (x9 + x10).toNatClampNeg (((m_one σ) (x9 + x10).toNatClampNeg) + (((x1 >>> (((21 : Int32) * x9).toInt64 &&& 63)) &&& (2097151 : Int64)) * ((x3 >>> (((21 : Int32) * x10).toInt64 &&& 63)) &&& (2097151 : Int64)))))) fun s4 => (if ix (x9 + x10) 7 = true then (if ix (x9 + x10) 7 = true then (bd (sm_two s4 (vp_updL (m_two s4) (x9 + x10).toNatClampNeg (((m_two s4) (x9 + x10).toNatClampNeg) + (((x5 >>> (((21 : Int32) * x9).toInt64 &&& 63)) &&& (2097151 : Int64)) * ((x7 >>> (((21 : Int32) * x10).toInt64 &&& 63)) &&& (2097151 : Int64)))))) fun s8 => (k44 (x1, x3, x5, x7, x9, (x10 + (1 : Int32)), s8))) else none) else none)) else none) else none))
def fX1_compared_L44 (σ : MS)  (k35 : Int64 × Int64 × Int64 × Int64 × Int32 × MS → Option (Int32 × MS)) (x1 : Int64) (x3 : Int64) (x5 : Int64) (x7 : Int64) (x9 : Int32) (x10 : Int32) : Option (Int32 × MS) := lp (fun k t => fX1_compared_B44 t.2.2.2.2.2.2  k35 k t.1 t.2.1 t.2.2.1 t.2.2.2.1 t.2.2.2.2.1 t.2.2.2.2.2.1) FU (x1, x3, x5, x7, x9, x10, σ)
set_option maxHeartbeats 4000000 in
set_option maxRecDepth 100000 in
theorem wX1_compared_B44 {p : Program} {l : Launch} {e : Env} {s : State} {m : MethodId} {args : Array Value} {below : List Frame} {meth : Method} {c : Code} {A : Nat → Prop} {D : va_G} {kc : Nat → ClassId} {q : Nat → Nat} {out : Int32 × MS} (C : cxt p s m args meth c RX1 cX1_compared 11 (some .int) wsX1_compared) (hA : ∀ x, s.heap.size ≤ x → A x) (hK : va_K D vwCl (tysX1 kc) s) (k35 : Int64 × Int64 × Int64 × Int64 × Int32 × MS → Option (Int32 × MS)) (hk35 : ∀ (x1 : Int64) (x3 : Int64) (x5 : Int64) (x7 : Int64) (x9 : Int32) (σ : MS) (H : Heap) (locs : List Loc) (ls : Array Slot), k35 (x1, x3, x5, x7, x9, σ) = some out → va_P D vwCl (wX1 kc q σ) H → va_D A (wX1 kc q σ) → va_S A s.heap H locs → lv_has ls 11 [(0, .ref (q 0)), (1, .long x1), (3, .long x3), (5, .long x5), (7, .long x7), (9, .int x9)] → W p l e rmX1_compared s m args below meth c H locs 0 0 (MQ below (QMi D (tysX1 kc) (wX1 kc q) A out) args s 0 0 A) (F0 m 35 ls [])) (k44 : Int64 × Int64 × Int64 × Int64 × Int32 × Int32 × MS → Option (Int32 × MS)) (hk44 : ∀ (x1 : Int64) (x3 : Int64) (x5 : Int64) (x7 : Int64) (x9 : Int32) (x10 : Int32) (σ : MS) (H : Heap) (locs : List Loc) (ls : Array Slot), k44 (x1, x3, x5, x7, x9, x10, σ) = some out → va_P D vwCl (wX1 kc q σ) H → va_D A (wX1 kc q σ) → va_S A s.heap H locs → lv_has ls 11 [(0, .ref (q 0)), (1, .long x1), (3, .long x3), (5, .long x5), (7, .long x7), (9, .int x9), (10, .int x10)] → W p l e rmX1_compared s m args below meth c H locs 0 0 (MQ below (QMi D (tysX1 kc) (wX1 kc q) A out) args s 0 0 A) (F0 m 44 ls [])) (σ : MS) (x1 : Int64) (x3 : Int64) (x5 : Int64) (x7 : Int64) (x9 : Int32) (x10 : Int32) (H : Heap) (locs : List Loc) (ls : Array Slot) (h : fX1_compared_B44 σ  k35 k44 x1 x3 x5 x7 x9 x10 = some out) (hP : va_P D vwCl (wX1 kc q σ) H) (hD : va_D A (wX1 kc q σ)) (hS : va_S A s.heap H locs) (hl : lv_has ls 11 [(0, .ref (q 0)), (1, .long x1), (3, .long x3), (5, .long x5), (7, .long x7), (9, .int x9), (10, .int x10)]) : W p l e rmX1_compared s m args below meth c H locs 0 0 (MQ below (QMi D (tysX1 kc) (wX1 kc q) A out) args s 0 0 A) (F0 m 44 ls []) := by
  obtain ⟨hx, hb, hr, hml, hown, hts, hlocks⟩ := id C
  unfold fX1_compared_B44 at h
  refine lv_iload hx hb dX1_compared_44 (lv_at hl 6 rfl) ?_
  refine lv_iconst (v := (3 : Int32)) hx hb dX1_compared_46 (by decide) ?_
  refine lv_icmp_ge (tgt := 130) hx hb dX1_compared_47 (by decide) (fun c1 => ?_) (fun c1 => ?_)
  · replace h := br_p c1 h
    refine lv_iinc (v := (x9 + (1 : Int32))) (lv' := [(9, .int (x9 + (1 : Int32))), (0, .ref (q 0)), (1, .long x1), (3, .long x3), (5, .long x5), (7, .long x7), (10, .int x10)]) hx hb dX1_compared_130 hl (k := 5) rfl rfl (by decide) rfl (fun ls hl => ?_)
    refine lv_goto (tgt := 35) hx hb dX1_compared_133 (by decide) ?_
    exact hk35 x1 x3 x5 x7 (x9 + (1 : Int32)) σ H locs ls h hP hD hS (lv_sub hl [1, 2, 3, 4, 5, 0] rfl)
  · replace h := br_n c1 h
    refine lv_aload_n hx hb dX1_compared_50 rfl (lv_at hl 0 rfl) ?_
    refine rdX1_one hx hb hts hinX1_compared hown hK hP (hts (.fieldLink RX1 33 "ExactSharesModel" "one" "[J") (List.mem_of_getElem? (i := 1) rfl)) dX1_compared_51 ?_
    refine lv_iload hx hb dX1_compared_54 (lv_at hl 5 rfl) ?_
    refine lv_iload hx hb dX1_compared_56 (lv_at hl 6 rfl) ?_
    refine lv_iadd hx hb dX1_compared_58 ?_
    refine lv_dup2_11 hx hb dX1_compared_59 rfl rfl ?_
    obtain ⟨g2, h⟩ := gd_t h
    refine ldX1_one hx hb hK hP g2 dX1_compared_60 ?_
    refine lv_lload_n hx hb dX1_compared_61 rfl (lv_at hl 1 rfl) ?_
    refine lv_bipush (v := (21 : Int32)) hx hb dX1_compared_62 (by decide) ?_
    refine lv_iload hx hb dX1_compared_64 (lv_at hl 5 rfl) ?_
    refine lv_imul hx hb dX1_compared_66 ?_
    refine lv_lshr (v := (x1 >>> (((21 : Int32) * x9).toInt64 &&& 63))) hx hb dX1_compared_67 rfl ?_
    refine lv_ldc2 (v := (2097151 : Int64)) hx hb hown (hts (.constantLong RX1 54 (2097151)) (List.mem_of_getElem? (i := 3) rfl)) dX1_compared_68 ?_
    refine lv_land hx hb dX1_compared_71 ?_
    refine lv_lload_n hx hb dX1_compared_72 rfl (lv_at hl 2 rfl) ?_
    refine lv_bipush (v := (21 : Int32)) hx hb dX1_compared_73 (by decide) ?_
    refine lv_iload hx hb dX1_compared_75 (lv_at hl 6 rfl) ?_
    refine lv_imul hx hb dX1_compared_77 ?_
    refine lv_lshr (v := (x3 >>> (((21 : Int32) * x10).toInt64 &&& 63))) hx hb dX1_compared_78 rfl ?_
    refine lv_ldc2 (v := (2097151 : Int64)) hx hb hown (hts (.constantLong RX1 54 (2097151)) (List.mem_of_getElem? (i := 3) rfl)) dX1_compared_79 ?_
    refine lv_land hx hb dX1_compared_82 ?_
    refine lv_lmul hx hb dX1_compared_83 ?_
    refine lv_ladd hx hb dX1_compared_84 ?_
    obtain ⟨g3, h⟩ := gd_t h
    refine stX1_one (x := (((m_one σ) (x9 + x10).toNatClampNeg) + (((x1 >>> (((21 : Int32) * x9).toInt64 &&& 63)) &&& (2097151 : Int64)) * ((x3 >>> (((21 : Int32) * x10).toInt64 &&& 63)) &&& (2097151 : Int64))))) hx hb hK hP hD hS g3 dX1_compared_85 (fun H locs hP hD hS => ?_)
    obtain ⟨s4, e5, h⟩ := bd_e h
    replace hP : va_P D vwCl (wX1 kc q s4) H := by rw [e5]; exact hP
    replace hD : va_D A (wX1 kc q s4) := by rw [e5]; exact hD
    clear e5
    refine lv_aload_n hx hb dX1_compared_86 rfl (lv_at hl 0 rfl) ?_
    refine rdX1_two hx hb hts hinX1_compared hown hK hP (hts (.fieldLink RX1 36 "ExactSharesModel" "two" "[J") (List.mem_of_getElem? (i := 2) rfl)) dX1_compared_87 ?_
    refine lv_iload hx hb dX1_compared_90 (lv_at hl 5 rfl) ?_
    refine lv_iload hx hb dX1_compared_92 (lv_at hl 6 rfl) ?_
    refine lv_iadd hx hb dX1_compared_94 ?_
    refine lv_dup2_11 hx hb dX1_compared_95 rfl rfl ?_
    obtain ⟨g6, h⟩ := gd_t h
    refine ldX1_two hx hb hK hP g6 dX1_compared_96 ?_
    refine lv_lload hx hb dX1_compared_97 (lv_at hl 3 rfl) ?_
    refine lv_bipush (v := (21 : Int32)) hx hb dX1_compared_99 (by decide) ?_
    refine lv_iload hx hb dX1_compared_101 (lv_at hl 5 rfl) ?_
    refine lv_imul hx hb dX1_compared_103 ?_
    refine lv_lshr (v := (x5 >>> (((21 : Int32) * x9).toInt64 &&& 63))) hx hb dX1_compared_104 rfl ?_
    refine lv_ldc2 (v := (2097151 : Int64)) hx hb hown (hts (.constantLong RX1 54 (2097151)) (List.mem_of_getElem? (i := 3) rfl)) dX1_compared_105 ?_
    refine lv_land hx hb dX1_compared_108 ?_
    refine lv_lload hx hb dX1_compared_109 (lv_at hl 4 rfl) ?_
    refine lv_bipush (v := (21 : Int32)) hx hb dX1_compared_111 (by decide) ?_
    refine lv_iload hx hb dX1_compared_113 (lv_at hl 6 rfl) ?_
    refine lv_imul hx hb dX1_compared_115 ?_
    refine lv_lshr (v := (x7 >>> (((21 : Int32) * x10).toInt64 &&& 63))) hx hb dX1_compared_116 rfl ?_
    refine lv_ldc2 (v := (2097151 : Int64)) hx hb hown (hts (.constantLong RX1 54 (2097151)) (List.mem_of_getElem? (i := 3) rfl)) dX1_compared_117 ?_
    refine lv_land hx hb dX1_compared_120 ?_
    refine lv_lmul hx hb dX1_compared_121 ?_
    refine lv_ladd hx hb dX1_compared_122 ?_
    obtain ⟨g7, h⟩ := gd_t h
    refine stX1_two (x := (((m_two s4) (x9 + x10).toNatClampNeg) + (((x5 >>> (((21 : Int32) * x9).toInt64 &&& 63)) &&& (2097151 : Int64)) * ((x7 >>> (((21 : Int32) * x10).toInt64 &&& 63)) &&& (2097151 : Int64))))) hx hb hK hP hD hS g7 dX1_compared_123 (fun H locs hP hD hS => ?_)
    obtain ⟨s8, e9, h⟩ := bd_e h
    replace hP : va_P D vwCl (wX1 kc q s8) H := by rw [e9]; exact hP
    replace hD : va_D A (wX1 kc q s8) := by rw [e9]; exact hD
    clear e9
    refine lv_iinc (v := (x10 + (1 : Int32))) (lv' := [(10, .int (x10 + (1 : Int32))), (0, .ref (q 0)), (1, .long x1), (3, .long x3), (5, .long x5), (7, .long x7), (9, .int x9)]) hx hb dX1_compared_124 hl (k := 6) rfl rfl (by decide) rfl (fun ls hl => ?_)
    refine lv_goto (tgt := 44) hx hb dX1_compared_127 (by decide) ?_
    exact hk44 x1 x3 x5 x7 x9 (x10 + (1 : Int32)) s8 H locs ls h hP hD hS (lv_sub hl [1, 2, 3, 4, 5, 6, 0] rfl)
set_option maxHeartbeats 4000000 in
set_option maxRecDepth 100000 in
theorem wX1_compared_L44 {p : Program} {l : Launch} {e : Env} {s : State} {m : MethodId} {args : Array Value} {below : List Frame} {meth : Method} {c : Code} {A : Nat → Prop} {D : va_G} {kc : Nat → ClassId} {q : Nat → Nat} {out : Int32 × MS} (C : cxt p s m args meth c RX1 cX1_compared 11 (some .int) wsX1_compared) (hA : ∀ x, s.heap.size ≤ x → A x) (hK : va_K D vwCl (tysX1 kc) s) (k35 : Int64 × Int64 × Int64 × Int64 × Int32 × MS → Option (Int32 × MS)) (hk35 : ∀ (x1 : Int64) (x3 : Int64) (x5 : Int64) (x7 : Int64) (x9 : Int32) (σ : MS) (H : Heap) (locs : List Loc) (ls : Array Slot), k35 (x1, x3, x5, x7, x9, σ) = some out → va_P D vwCl (wX1 kc q σ) H → va_D A (wX1 kc q σ) → va_S A s.heap H locs → lv_has ls 11 [(0, .ref (q 0)), (1, .long x1), (3, .long x3), (5, .long x5), (7, .long x7), (9, .int x9)] → W p l e rmX1_compared s m args below meth c H locs 0 0 (MQ below (QMi D (tysX1 kc) (wX1 kc q) A out) args s 0 0 A) (F0 m 35 ls [])) (σ : MS) (x1 : Int64) (x3 : Int64) (x5 : Int64) (x7 : Int64) (x9 : Int32) (x10 : Int32) (H : Heap) (locs : List Loc) (ls : Array Slot) (h : fX1_compared_L44 σ  k35 x1 x3 x5 x7 x9 x10 = some out) (hP : va_P D vwCl (wX1 kc q σ) H) (hD : va_D A (wX1 kc q σ)) (hS : va_S A s.heap H locs) (hl : lv_has ls 11 [(0, .ref (q 0)), (1, .long x1), (3, .long x3), (5, .long x5), (7, .long x7), (9, .int x9), (10, .int x10)]) : W p l e rmX1_compared s m args below meth c H locs 0 0 (MQ below (QMi D (tysX1 kc) (wX1 kc q) A out) args s 0 0 A) (F0 m 44 ls []) := by
  unfold fX1_compared_L44 at h
  exact lp_ind (P := fun t : Int64 × Int64 × Int64 × Int64 × Int32 × Int32 × MS => ∀ (H : Heap) (locs : List Loc) (ls : Array Slot), va_P D vwCl (wX1 kc q t.2.2.2.2.2.2) H → va_D A (wX1 kc q t.2.2.2.2.2.2) → va_S A s.heap H locs → lv_has ls 11 [(0, .ref (q 0)), (1, .long t.1), (3, .long t.2.1), (5, .long t.2.2.1), (7, .long t.2.2.2.1), (9, .int t.2.2.2.2.1), (10, .int t.2.2.2.2.2.1)] → W p l e rmX1_compared s m args below meth c H locs 0 0 (MQ below (QMi D (tysX1 kc) (wX1 kc q) A out) args s 0 0 A) (F0 m 44 ls [])) (fun k hk t h H locs ls hP hD hS hl => wX1_compared_B44 C hA hK k35 hk35 k (fun x1 x3 x5 x7 x9 x10 σ H locs ls h hP hD hS hl => hk (x1, x3, x5, x7, x9, x10, σ) h H locs ls hP hD hS hl) t.2.2.2.2.2.2 t.1 t.2.1 t.2.2.1 t.2.2.2.1 t.2.2.2.2.1 t.2.2.2.2.2.1 H locs ls h hP hD hS hl) FU (x1, x3, x5, x7, x9, x10, σ) h H locs ls hP hD hS hl
def fX1_compared_B35 (σ : MS)   (k35 : Int64 × Int64 × Int64 × Int64 × Int32 × MS → Option (Int32 × MS)) (x1 : Int64) (x3 : Int64) (x5 : Int64) (x7 : Int64) (x9 : Int32) : Option (Int32 × MS) := (if (3 : Int32) ≤ x9 then (fX1_compared_L139 σ (0 : Int32)) else (fX1_compared_L44 σ k35 x1 x3 x5 x7 x9 (0 : Int32)))
def fX1_compared_L35 (σ : MS)   (x1 : Int64) (x3 : Int64) (x5 : Int64) (x7 : Int64) (x9 : Int32) : Option (Int32 × MS) := lp (fun k t => fX1_compared_B35 t.2.2.2.2.2   k t.1 t.2.1 t.2.2.1 t.2.2.2.1 t.2.2.2.2.1) FU (x1, x3, x5, x7, x9, σ)
set_option maxHeartbeats 4000000 in
set_option maxRecDepth 100000 in
theorem wX1_compared_B35 {p : Program} {l : Launch} {e : Env} {s : State} {m : MethodId} {args : Array Value} {below : List Frame} {meth : Method} {c : Code} {A : Nat → Prop} {D : va_G} {kc : Nat → ClassId} {q : Nat → Nat} {out : Int32 × MS} (C : cxt p s m args meth c RX1 cX1_compared 11 (some .int) wsX1_compared) (hA : ∀ x, s.heap.size ≤ x → A x) (hK : va_K D vwCl (tysX1 kc) s) (k35 : Int64 × Int64 × Int64 × Int64 × Int32 × MS → Option (Int32 × MS)) (hk35 : ∀ (x1 : Int64) (x3 : Int64) (x5 : Int64) (x7 : Int64) (x9 : Int32) (σ : MS) (H : Heap) (locs : List Loc) (ls : Array Slot), k35 (x1, x3, x5, x7, x9, σ) = some out → va_P D vwCl (wX1 kc q σ) H → va_D A (wX1 kc q σ) → va_S A s.heap H locs → lv_has ls 11 [(0, .ref (q 0)), (1, .long x1), (3, .long x3), (5, .long x5), (7, .long x7), (9, .int x9)] → W p l e rmX1_compared s m args below meth c H locs 0 0 (MQ below (QMi D (tysX1 kc) (wX1 kc q) A out) args s 0 0 A) (F0 m 35 ls [])) (σ : MS) (x1 : Int64) (x3 : Int64) (x5 : Int64) (x7 : Int64) (x9 : Int32) (H : Heap) (locs : List Loc) (ls : Array Slot) (h : fX1_compared_B35 σ   k35 x1 x3 x5 x7 x9 = some out) (hP : va_P D vwCl (wX1 kc q σ) H) (hD : va_D A (wX1 kc q σ)) (hS : va_S A s.heap H locs) (hl : lv_has ls 11 [(0, .ref (q 0)), (1, .long x1), (3, .long x3), (5, .long x5), (7, .long x7), (9, .int x9)]) : W p l e rmX1_compared s m args below meth c H locs 0 0 (MQ below (QMi D (tysX1 kc) (wX1 kc q) A out) args s 0 0 A) (F0 m 35 ls []) := by
  obtain ⟨hx, hb, hr, hml, hown, hts, hlocks⟩ := id C
  unfold fX1_compared_B35 at h
  refine lv_iload hx hb dX1_compared_35 (lv_at hl 5 rfl) ?_
  refine lv_iconst (v := (3 : Int32)) hx hb dX1_compared_37 (by decide) ?_
  refine lv_icmp_ge (tgt := 136) hx hb dX1_compared_38 (by decide) (fun c1 => ?_) (fun c1 => ?_)
  · replace h := br_p c1 h
    refine lv_iconst (v := (0 : Int32)) hx hb dX1_compared_136 (by decide) ?_
    refine lv_istore (lv' := [(9, .int (0 : Int32)), (0, .ref (q 0)), (1, .long x1), (3, .long x3), (5, .long x5), (7, .long x7)]) hx hb dX1_compared_137 hl (by decide) rfl (fun ls hl => ?_)
    exact wX1_compared_L139 C hA hK  σ (0 : Int32) H locs ls h hP hD hS (lv_sub hl [1, 0] rfl)
  · replace h := br_n c1 h
    refine lv_iconst (v := (0 : Int32)) hx hb dX1_compared_41 (by decide) ?_
    refine lv_istore (lv' := [(10, .int (0 : Int32)), (0, .ref (q 0)), (1, .long x1), (3, .long x3), (5, .long x5), (7, .long x7), (9, .int x9)]) hx hb dX1_compared_42 hl (by decide) rfl (fun ls hl => ?_)
    exact wX1_compared_L44 C hA hK k35 hk35 σ x1 x3 x5 x7 x9 (0 : Int32) H locs ls h hP hD hS (lv_sub hl [1, 2, 3, 4, 5, 6, 0] rfl)
set_option maxHeartbeats 4000000 in
set_option maxRecDepth 100000 in
theorem wX1_compared_L35 {p : Program} {l : Launch} {e : Env} {s : State} {m : MethodId} {args : Array Value} {below : List Frame} {meth : Method} {c : Code} {A : Nat → Prop} {D : va_G} {kc : Nat → ClassId} {q : Nat → Nat} {out : Int32 × MS} (C : cxt p s m args meth c RX1 cX1_compared 11 (some .int) wsX1_compared) (hA : ∀ x, s.heap.size ≤ x → A x) (hK : va_K D vwCl (tysX1 kc) s) (σ : MS) (x1 : Int64) (x3 : Int64) (x5 : Int64) (x7 : Int64) (x9 : Int32) (H : Heap) (locs : List Loc) (ls : Array Slot) (h : fX1_compared_L35 σ   x1 x3 x5 x7 x9 = some out) (hP : va_P D vwCl (wX1 kc q σ) H) (hD : va_D A (wX1 kc q σ)) (hS : va_S A s.heap H locs) (hl : lv_has ls 11 [(0, .ref (q 0)), (1, .long x1), (3, .long x3), (5, .long x5), (7, .long x7), (9, .int x9)]) : W p l e rmX1_compared s m args below meth c H locs 0 0 (MQ below (QMi D (tysX1 kc) (wX1 kc q) A out) args s 0 0 A) (F0 m 35 ls []) := by
  unfold fX1_compared_L35 at h
  exact lp_ind (P := fun t : Int64 × Int64 × Int64 × Int64 × Int32 × MS => ∀ (H : Heap) (locs : List Loc) (ls : Array Slot), va_P D vwCl (wX1 kc q t.2.2.2.2.2) H → va_D A (wX1 kc q t.2.2.2.2.2) → va_S A s.heap H locs → lv_has ls 11 [(0, .ref (q 0)), (1, .long t.1), (3, .long t.2.1), (5, .long t.2.2.1), (7, .long t.2.2.2.1), (9, .int t.2.2.2.2.1)] → W p l e rmX1_compared s m args below meth c H locs 0 0 (MQ below (QMi D (tysX1 kc) (wX1 kc q) A out) args s 0 0 A) (F0 m 35 ls [])) (fun k hk t h H locs ls hP hD hS hl => wX1_compared_B35 C hA hK  k (fun x1 x3 x5 x7 x9 σ H locs ls h hP hD hS hl => hk (x1, x3, x5, x7, x9, σ) h H locs ls hP hD hS hl) t.2.2.2.2.2 t.1 t.2.1 t.2.2.1 t.2.2.2.1 t.2.2.2.2.1 H locs ls h hP hD hS hl) FU (x1, x3, x5, x7, x9, σ) h H locs ls hP hD hS hl
def fX1_compared_B3 (σ : MS)   (k3 : Int64 × Int64 × Int64 × Int64 × Int32 × MS → Option (Int32 × MS)) (x1 : Int64) (x3 : Int64) (x5 : Int64) (x7 : Int64) (x9 : Int32) : Option (Int32 × MS) := (if (7 : Int32) ≤ x9 then (fX1_compared_L35 σ x1 x3 x5 x7 (0 : Int32)) else (if ix x9 7 = true then (bd (sm_one σ (vp_updL (m_one σ) x9.toNatClampNeg (0 : Int64))) fun s3 => (if ix x9 7 = true then (bd (sm_two s3 (vp_updL (m_two s3) x9.toNatClampNeg (0 : Int64))) fun s6 => (k3 (x1, x3, x5, x7, (x9 + (1 : Int32)), s6))) else none)) else none))
def fX1_compared_L3 (σ : MS)   (x1 : Int64) (x3 : Int64) (x5 : Int64) (x7 : Int64) (x9 : Int32) : Option (Int32 × MS) := lp (fun k t => fX1_compared_B3 t.2.2.2.2.2   k t.1 t.2.1 t.2.2.1 t.2.2.2.1 t.2.2.2.2.1) FU (x1, x3, x5, x7, x9, σ)
set_option maxHeartbeats 4000000 in
set_option maxRecDepth 100000 in
theorem wX1_compared_B3 {p : Program} {l : Launch} {e : Env} {s : State} {m : MethodId} {args : Array Value} {below : List Frame} {meth : Method} {c : Code} {A : Nat → Prop} {D : va_G} {kc : Nat → ClassId} {q : Nat → Nat} {out : Int32 × MS} (C : cxt p s m args meth c RX1 cX1_compared 11 (some .int) wsX1_compared) (hA : ∀ x, s.heap.size ≤ x → A x) (hK : va_K D vwCl (tysX1 kc) s) (k3 : Int64 × Int64 × Int64 × Int64 × Int32 × MS → Option (Int32 × MS)) (hk3 : ∀ (x1 : Int64) (x3 : Int64) (x5 : Int64) (x7 : Int64) (x9 : Int32) (σ : MS) (H : Heap) (locs : List Loc) (ls : Array Slot), k3 (x1, x3, x5, x7, x9, σ) = some out → va_P D vwCl (wX1 kc q σ) H → va_D A (wX1 kc q σ) → va_S A s.heap H locs → lv_has ls 11 [(0, .ref (q 0)), (1, .long x1), (3, .long x3), (5, .long x5), (7, .long x7), (9, .int x9)] → W p l e rmX1_compared s m args below meth c H locs 0 0 (MQ below (QMi D (tysX1 kc) (wX1 kc q) A out) args s 0 0 A) (F0 m 3 ls [])) (σ : MS) (x1 : Int64) (x3 : Int64) (x5 : Int64) (x7 : Int64) (x9 : Int32) (H : Heap) (locs : List Loc) (ls : Array Slot) (h : fX1_compared_B3 σ   k3 x1 x3 x5 x7 x9 = some out) (hP : va_P D vwCl (wX1 kc q σ) H) (hD : va_D A (wX1 kc q σ)) (hS : va_S A s.heap H locs) (hl : lv_has ls 11 [(0, .ref (q 0)), (1, .long x1), (3, .long x3), (5, .long x5), (7, .long x7), (9, .int x9)]) : W p l e rmX1_compared s m args below meth c H locs 0 0 (MQ below (QMi D (tysX1 kc) (wX1 kc q) A out) args s 0 0 A) (F0 m 3 ls []) := by
  obtain ⟨hx, hb, hr, hml, hown, hts, hlocks⟩ := id C
  unfold fX1_compared_B3 at h
  refine lv_iload hx hb dX1_compared_3 (lv_at hl 5 rfl) ?_
  refine lv_bipush (v := (7 : Int32)) hx hb dX1_compared_5 (by decide) ?_
  refine lv_icmp_ge (tgt := 32) hx hb dX1_compared_7 (by decide) (fun c1 => ?_) (fun c1 => ?_)
  · replace h := br_p c1 h
    refine lv_iconst (v := (0 : Int32)) hx hb dX1_compared_32 (by decide) ?_
    refine lv_istore (lv' := [(9, .int (0 : Int32)), (0, .ref (q 0)), (1, .long x1), (3, .long x3), (5, .long x5), (7, .long x7)]) hx hb dX1_compared_33 hl (by decide) rfl (fun ls hl => ?_)
    exact wX1_compared_L35 C hA hK  σ x1 x3 x5 x7 (0 : Int32) H locs ls h hP hD hS (lv_sub hl [1, 2, 3, 4, 5, 0] rfl)
  · replace h := br_n c1 h
    refine lv_aload_n hx hb dX1_compared_10 rfl (lv_at hl 0 rfl) ?_
    refine rdX1_one hx hb hts hinX1_compared hown hK hP (hts (.fieldLink RX1 33 "ExactSharesModel" "one" "[J") (List.mem_of_getElem? (i := 1) rfl)) dX1_compared_11 ?_
    refine lv_iload hx hb dX1_compared_14 (lv_at hl 5 rfl) ?_
    refine lv_lconst (v := (0 : Int64)) hx hb dX1_compared_16 (by decide) ?_
    obtain ⟨g2, h⟩ := gd_t h
    refine stX1_one (x := (0 : Int64)) hx hb hK hP hD hS g2 dX1_compared_17 (fun H locs hP hD hS => ?_)
    obtain ⟨s3, e4, h⟩ := bd_e h
    replace hP : va_P D vwCl (wX1 kc q s3) H := by rw [e4]; exact hP
    replace hD : va_D A (wX1 kc q s3) := by rw [e4]; exact hD
    clear e4
    refine lv_aload_n hx hb dX1_compared_18 rfl (lv_at hl 0 rfl) ?_
    refine rdX1_two hx hb hts hinX1_compared hown hK hP (hts (.fieldLink RX1 36 "ExactSharesModel" "two" "[J") (List.mem_of_getElem? (i := 2) rfl)) dX1_compared_19 ?_
    refine lv_iload hx hb dX1_compared_22 (lv_at hl 5 rfl) ?_
    refine lv_lconst (v := (0 : Int64)) hx hb dX1_compared_24 (by decide) ?_
    obtain ⟨g5, h⟩ := gd_t h
    refine stX1_two (x := (0 : Int64)) hx hb hK hP hD hS g5 dX1_compared_25 (fun H locs hP hD hS => ?_)
    obtain ⟨s6, e7, h⟩ := bd_e h
    replace hP : va_P D vwCl (wX1 kc q s6) H := by rw [e7]; exact hP
    replace hD : va_D A (wX1 kc q s6) := by rw [e7]; exact hD
    clear e7
    refine lv_iinc (v := (x9 + (1 : Int32))) (lv' := [(9, .int (x9 + (1 : Int32))), (0, .ref (q 0)), (1, .long x1), (3, .long x3), (5, .long x5), (7, .long x7)]) hx hb dX1_compared_26 hl (k := 5) rfl rfl (by decide) rfl (fun ls hl => ?_)
    refine lv_goto (tgt := 3) hx hb dX1_compared_29 (by decide) ?_
    exact hk3 x1 x3 x5 x7 (x9 + (1 : Int32)) s6 H locs ls h hP hD hS (lv_sub hl [1, 2, 3, 4, 5, 0] rfl)
set_option maxHeartbeats 4000000 in
set_option maxRecDepth 100000 in
theorem wX1_compared_L3 {p : Program} {l : Launch} {e : Env} {s : State} {m : MethodId} {args : Array Value} {below : List Frame} {meth : Method} {c : Code} {A : Nat → Prop} {D : va_G} {kc : Nat → ClassId} {q : Nat → Nat} {out : Int32 × MS} (C : cxt p s m args meth c RX1 cX1_compared 11 (some .int) wsX1_compared) (hA : ∀ x, s.heap.size ≤ x → A x) (hK : va_K D vwCl (tysX1 kc) s) (σ : MS) (x1 : Int64) (x3 : Int64) (x5 : Int64) (x7 : Int64) (x9 : Int32) (H : Heap) (locs : List Loc) (ls : Array Slot) (h : fX1_compared_L3 σ   x1 x3 x5 x7 x9 = some out) (hP : va_P D vwCl (wX1 kc q σ) H) (hD : va_D A (wX1 kc q σ)) (hS : va_S A s.heap H locs) (hl : lv_has ls 11 [(0, .ref (q 0)), (1, .long x1), (3, .long x3), (5, .long x5), (7, .long x7), (9, .int x9)]) : W p l e rmX1_compared s m args below meth c H locs 0 0 (MQ below (QMi D (tysX1 kc) (wX1 kc q) A out) args s 0 0 A) (F0 m 3 ls []) := by
  unfold fX1_compared_L3 at h
  exact lp_ind (P := fun t : Int64 × Int64 × Int64 × Int64 × Int32 × MS => ∀ (H : Heap) (locs : List Loc) (ls : Array Slot), va_P D vwCl (wX1 kc q t.2.2.2.2.2) H → va_D A (wX1 kc q t.2.2.2.2.2) → va_S A s.heap H locs → lv_has ls 11 [(0, .ref (q 0)), (1, .long t.1), (3, .long t.2.1), (5, .long t.2.2.1), (7, .long t.2.2.2.1), (9, .int t.2.2.2.2.1)] → W p l e rmX1_compared s m args below meth c H locs 0 0 (MQ below (QMi D (tysX1 kc) (wX1 kc q) A out) args s 0 0 A) (F0 m 3 ls [])) (fun k hk t h H locs ls hP hD hS hl => wX1_compared_B3 C hA hK  k (fun x1 x3 x5 x7 x9 σ H locs ls h hP hD hS hl => hk (x1, x3, x5, x7, x9, σ) h H locs ls hP hD hS hl) t.2.2.2.2.2 t.1 t.2.1 t.2.2.1 t.2.2.2.1 t.2.2.2.2.1 H locs ls h hP hD hS hl) FU (x1, x3, x5, x7, x9, σ) h H locs ls hP hD hS hl
def fX1_compared (σ : MS)  (x1 : Int64) (x3 : Int64) (x5 : Int64) (x7 : Int64) : Option (Int32 × MS) := (fX1_compared_L3 σ x1 x3 x5 x7 (0 : Int32))
set_option maxHeartbeats 4000000 in
set_option maxRecDepth 100000 in
theorem mX1_compared (l : Launch) (D : va_G) (kc : Nat → ClassId) (q : Nat → Nat) (σ : MS) (x1 : Int64) (x3 : Int64) (x5 : Int64) (x7 : Int64) (out : Int32 × MS) (h : fX1_compared σ  x1 x3 x5 x7 = some out) : MMi l yX1_compared wsX1_compared rmX1_compared D (tysX1 kc) (wX1 kc q) σ [.ref (q 0), .long x1, .long x3, .long x5, .long x7] out := by
  refine ofMi (cc := cX1_compared) (maxL := 11) (ret := (some .int)) (lv := [(0, .ref (q 0)), (1, .long x1), (3, .long x3), (5, .long x5), (7, .long x7)]) (by decide) rfl (Nat.le_of_ble_eq_true rfl) rfl ?_
  intro p e s m args below meth c A C hA hK hP hD hS ls hl
  have C : cxt p s m args meth c RX1 cX1_compared 11 (some .int) wsX1_compared := C
  obtain ⟨hx, hb, hr, hml, hown, hts, hlocks⟩ := id C
  obtain ⟨H, hH⟩ : ∃ H, H = s.heap := ⟨_, rfl⟩
  obtain ⟨locs, hlocs⟩ : ∃ locs : List Loc, locs = [] := ⟨_, rfl⟩
  have hS : va_S A s.heap H locs := by rw [hH, hlocs]; exact va_S.rf
  rw [← hH] at hP
  suffices hW : W p l e rmX1_compared s m args below meth c H locs 0 0 _ (F0 m 0 ls []) by rw [hH, hlocs] at hW; exact hW
  unfold fX1_compared at h
  refine lv_iconst (v := (0 : Int32)) hx hb dX1_compared_0 (by decide) ?_
  refine lv_istore (lv' := [(9, .int (0 : Int32)), (0, .ref (q 0)), (1, .long x1), (3, .long x3), (5, .long x5), (7, .long x7)]) hx hb dX1_compared_1 hl (by decide) rfl (fun ls hl => ?_)
  exact wX1_compared_L3 C hA hK  σ x1 x3 x5 x7 (0 : Int32) H locs ls h hP hD hS (lv_sub hl [1, 2, 3, 4, 5, 0] rfl)
