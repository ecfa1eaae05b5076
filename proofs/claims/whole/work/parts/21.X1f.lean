abbrev rmX1_given : Room := { frames := 1, cells := 0, slots := 0, locals := 25 }
theorem hinX1_given : ∀ w ∈ u_ws RX1 TX1 17, w ∈ wsX1_given := by first | exact fun _ h => List.mem_cons_of_mem _ (List.mem_append_right _ h) | exact fun _ h => List.mem_cons_of_mem _ (List.mem_append_left _ (List.mem_append_right _ h)) | decide +kernel
def fX1_given (σ : MS)  (x1 : Int32) : Option (Int32 × MS) := (bd (sm_thrown σ (0 : Int32)) fun s1 => ((fX1_isIn (x1.toInt64) (0 : Int64) (((m_seated s1) - (1 : Int32)).toInt64)).bind fun o3 => (if o3 = (0 : Int32) then (some ((-5 : Int32), s1)) else (if ix x1 8 = true then (some (((m_seat s1) x1.toNatClampNeg), s1)) else none))))
set_option maxHeartbeats 4000000 in
set_option maxRecDepth 100000 in
theorem mX1_given (l : Launch) (D : va_G) (kc : Nat → ClassId) (q : Nat → Nat) (σ : MS) (x1 : Int32) (out : Int32 × MS) (h : fX1_given σ  x1 = some out) : MMi l yX1_given wsX1_given rmX1_given D (tysX1 kc) (wX1 kc q) σ [.ref (q 0), .int x1] out := by
  refine ofMi (cc := cX1_given) (maxL := 2) (ret := (some .int)) (lv := [(0, .ref (q 0)), (1, .int x1)]) (by decide) rfl (Nat.le_of_ble_eq_true rfl) rfl ?_
  intro p e s m args below meth c A C hA hK hP hD hS ls hl
  have C : cxt p s m args meth c RX1 cX1_given 2 (some .int) wsX1_given := C
  obtain ⟨hx, hb, hr, hml, hown, hts, hlocks⟩ := id C
  obtain ⟨H, hH⟩ : ∃ H, H = s.heap := ⟨_, rfl⟩
  obtain ⟨locs, hlocs⟩ : ∃ locs : List Loc, locs = [] := ⟨_, rfl⟩
  have hS : va_S A s.heap H locs := by rw [hH, hlocs]; exact va_S.rf
  rw [← hH] at hP
  suffices hW : W p l e rmX1_given s m args below meth c H locs 0 0 _ (F0 m 0 ls []) by rw [hH, hlocs] at hW; exact hW
  unfold fX1_given at h
  refine lv_aload_n hx hb dX1_given_0 rfl (lv_at hl 0 rfl) ?_
  refine lv_iconst (v := (0 : Int32)) hx hb dX1_given_1 (by decide) ?_
  refine wrX1_thrown (v := (0 : Int32)) hx hb hts hinX1_given hown hK hP hD hS (hts (.fieldLink RX1 43 "ExactSharesModel" "thrown" "I") (List.mem_of_getElem? (i := 1) rfl)) dX1_given_2 (fun H locs hP hD hS => ?_)
  obtain ⟨s1, e2, h⟩ := bd_e h
  replace hP : va_P D vwCl (wX1 kc q s1) H := by rw [e2]; exact hP
  replace hD : va_D A (wX1 kc q s1) := by rw [e2]; exact hD
  clear e2
  refine lv_iload_n hx hb dX1_given_5 rfl (lv_at hl 1 rfl) ?_
  refine lv_i2l (v := (x1.toInt64)) hx hb dX1_given_6 rfl ?_
  refine lv_lconst (v := (0 : Int64)) hx hb dX1_given_7 (by decide) ?_
  refine lv_aload_n hx hb dX1_given_8 rfl (lv_at hl 0 rfl) ?_
  refine rdX1_seated hx hb hts hinX1_given hown hK hP (hts (.fieldLink RX1 23 "ExactSharesModel" "seated" "I") (List.mem_of_getElem? (i := 2) rfl)) dX1_given_9 ?_
  refine lv_iconst (v := (1 : Int32)) hx hb dX1_given_12 (by decide) ?_
  refine lv_isub hx hb dX1_given_13 ?_
  refine lv_i2l (v := (((m_seated s1) - (1 : Int32)).toInt64)) hx hb dX1_given_14 rfl ?_
  obtain ⟨o3, ho4, h⟩ := bi h
  refine caPi (As := [.long (x1.toInt64), .long (0 : Int64), .long (((m_seated s1) - (1 : Int32)).toInt64)]) (rest := []) ⟨hx, hb, hml, hown, hts⟩ (mX1_isIn l (x1.toInt64) (0 : Int64) (((m_seated s1) - (1 : Int32)).toInt64) o3 ho4) (va_cwS 3 hts gX1_given_X1_isIn rfl rfl rfl (by decide +kernel) ⟨Nat.le_of_ble_eq_true rfl, Nat.le_of_ble_eq_true rfl⟩) rfl hl.1 (Nat.le_of_ble_eq_true rfl) dX1_given_15 ⟨Nat.zero_le _, Nat.zero_le _⟩ ?_
  refine lv_if_eq (tgt := 30) hx hb dX1_given_18 (by decide) (fun c5 => ?_) (fun c5 => ?_)
  · replace h := br_p c5 h
    refine lv_bipush (v := (-5 : Int32)) hx hb dX1_given_30 (by decide) ?_
    exact reMi (v := (-5 : Int32)) hx hb hr hlocks hK hP hD hS h dX1_given_32
  · replace h := br_n c5 h
    refine lv_aload_n hx hb dX1_given_21 rfl (lv_at hl 0 rfl) ?_
    refine rdX1_seat hx hb hts hinX1_given hown hK hP (hts (.fieldLink RX1 27 "ExactSharesModel" "seat" "[I") (List.mem_of_getElem? (i := 3) rfl)) dX1_given_22 ?_
    refine lv_iload_n hx hb dX1_given_25 rfl (lv_at hl 1 rfl) ?_
    obtain ⟨g6, h⟩ := gd_t h
    refine ldX1_seat hx hb hK hP g6 dX1_given_26 ?_
    refine lv_goto (tgt := 32) hx hb dX1_given_27 (by decide) ?_
    exact reMi (v := ((m_seat s1) x1.toNatClampNeg)) hx hb hr hlocks hK hP hD hS h dX1_given_32
abbrev rmX1_choose : Room := { frames := 2, cells := 0, slots := 0, locals := 50 }
def fX1_choose_B16    (k16 : Int32 × Int32 × Int64 × Int32 → Option (Int64)) (x0 : Int32) (x1 : Int32) (x2 : Int64) (x4 : Int32) : Option (Int64) := (if x1 < x4 then (some x2) else ((fX1_divisor x2 (x4.toInt64)).bind fun o2 => (if o2 = (0 : Int64) then none else (if o2 = (0 : Int64) then none else (if ((x4.toInt64) / o2) = (0 : Int64) then none else (k16 (x0, x1, ((x2 / o2) * ((((x0 - x1) + x4).toInt64) / ((x4.toInt64) / o2))), (x4 + (1 : Int32)))))))))
def fX1_choose_L16    (x0 : Int32) (x1 : Int32) (x2 : Int64) (x4 : Int32) : Option (Int64) := lp (fun k t => fX1_choose_B16    k t.1 t.2.1 t.2.2.1 t.2.2.2) FU (x0, x1, x2, x4)
set_option maxHeartbeats 4000000 in
set_option maxRecDepth 100000 in
theorem wX1_choose_B16 {p : Program} {l : Launch} {e : Env} {s : State} {m : MethodId} {args : Array Value} {below : List Frame} {meth : Method} {c : Code} {out : Int64} (C : cxt p s m args meth c RX1 cX1_choose 9 (some .long) wsX1_choose) (k16 : Int32 × Int32 × Int64 × Int32 → Option (Int64)) (hk16 : ∀ (x0 : Int32) (x1 : Int32) (x2 : Int64) (x4 : Int32) (ls : Array Slot), k16 (x0, x1, x2, x4) = some out → lv_has ls 9 [(0, .int x0), (1, .int x1), (2, .long x2), (4, .int x4)] → W p l e rmX1_choose s m args below meth c s.heap [] 0 0 (MQ below (QRl out) args s 0 0 (fun _ => False)) (F0 m 16 ls [])) (x0 : Int32) (x1 : Int32) (x2 : Int64) (x4 : Int32) (ls : Array Slot) (h : fX1_choose_B16   k16 x0 x1 x2 x4 = some out) (hl : lv_has ls 9 [(0, .int x0), (1, .int x1), (2, .long x2), (4, .int x4)]) : W p l e rmX1_choose s m args below meth c s.heap [] 0 0 (MQ below (QRl out) args s 0 0 (fun _ => False)) (F0 m 16 ls []) := by
  obtain ⟨hx, hb, hr, hml, hown, hts, hlocks⟩ := id C
  unfold fX1_choose_B16 at h
  refine lv_iload hx hb dX1_choose_16 (lv_at hl 3 rfl) ?_
  refine lv_iload_n hx hb dX1_choose_18 rfl (lv_at hl 1 rfl) ?_
  refine lv_icmp_gt (tgt := 61) hx hb dX1_choose_19 (by decide) (fun c1 => ?_) (fun c1 => ?_)
  · replace h := br_p c1 h
    refine lv_lload_n hx hb dX1_choose_61 rfl (lv_at hl 2 rfl) ?_
    exact reRl (v := x2) hx hb hr hlocks h dX1_choose_62
  · replace h := br_n c1 h
    refine lv_iload_n hx hb dX1_choose_22 rfl (lv_at hl 0 rfl) ?_
    refine lv_iload_n hx hb dX1_choose_23 rfl (lv_at hl 1 rfl) ?_
    refine lv_isub hx hb dX1_choose_24 ?_
    refine lv_iload hx hb dX1_choose_25 (lv_at hl 3 rfl) ?_
    refine lv_iadd hx hb dX1_choose_27 ?_
    refine lv_i2l (v := (((x0 - x1) + x4).toInt64)) hx hb dX1_choose_28 rfl ?_
    refine lv_lstore (lv' := [(5, .long (((x0 - x1) + x4).toInt64)), (0, .int x0), (1, .int x1), (2, .long x2), (4, .int x4)]) hx hb dX1_choose_29 hl (by decide) rfl (fun ls hl => ?_)
    refine lv_lload_n hx hb dX1_choose_31 rfl (lv_at hl 3 rfl) ?_
    refine lv_iload hx hb dX1_choose_32 (lv_at hl 4 rfl) ?_
    refine lv_i2l (v := (x4.toInt64)) hx hb dX1_choose_34 rfl ?_
    obtain ⟨o2, ho3, h⟩ := bi h
    refine caPl (As := [.long x2, .long (x4.toInt64)]) (rest := []) ⟨hx, hb, hml, hown, hts⟩ (mX1_divisor l x2 (x4.toInt64) o2 ho3) (va_cwS 2 hts gX1_choose_X1_divisor rfl rfl rfl (by decide +kernel) ⟨Nat.le_of_ble_eq_true rfl, Nat.le_of_ble_eq_true rfl⟩) rfl hl.1 (Nat.le_of_ble_eq_true rfl) dX1_choose_35 ⟨Nat.zero_le _, Nat.zero_le _⟩ ?_
    refine lv_lstore (lv' := [(7, .long o2), (5, .long (((x0 - x1) + x4).toInt64)), (0, .int x0), (1, .int x1), (2, .long x2), (4, .int x4)]) hx hb dX1_choose_38 hl (by decide) rfl (fun ls hl => ?_)
    refine lv_lload_n hx hb dX1_choose_40 rfl (lv_at hl 4 rfl) ?_
    refine lv_lload hx hb dX1_choose_41 (lv_at hl 0 rfl) ?_
    obtain ⟨g4, h⟩ := gd_f h
    refine lv_ldiv hx hb dX1_choose_43 g4 ?_
    refine lv_lload hx hb dX1_choose_44 (lv_at hl 1 rfl) ?_
    refine lv_iload hx hb dX1_choose_46 (lv_at hl 5 rfl) ?_
    refine lv_i2l (v := (x4.toInt64)) hx hb dX1_choose_48 rfl ?_
    refine lv_lload hx hb dX1_choose_49 (lv_at hl 0 rfl) ?_
    obtain ⟨g5, h⟩ := gd_f h
    refine lv_ldiv hx hb dX1_choose_51 g5 ?_
    obtain ⟨g6, h⟩ := gd_f h
    refine lv_ldiv hx hb dX1_choose_52 g6 ?_
    refine lv_lmul hx hb dX1_choose_53 ?_
    refine lv_lstore_n (lv' := [(2, .long ((x2 / o2) * ((((x0 - x1) + x4).toInt64) / ((x4.toInt64) / o2)))), (7, .long o2), (5, .long (((x0 - x1) + x4).toInt64)), (0, .int x0), (1, .int x1), (4, .int x4)]) hx hb dX1_choose_54 rfl hl (by decide) rfl (fun ls hl => ?_)
    refine lv_iinc (v := (x4 + (1 : Int32))) (lv' := [(4, .int (x4 + (1 : Int32))), (2, .long ((x2 / o2) * ((((x0 - x1) + x4).toInt64) / ((x4.toInt64) / o2)))), (7, .long o2), (5, .long (((x0 - x1) + x4).toInt64)), (0, .int x0), (1, .int x1)]) hx hb dX1_choose_55 hl (k := 5) rfl rfl (by decide) rfl (fun ls hl => ?_)
    refine lv_goto (tgt := 16) hx hb dX1_choose_58 (by decide) ?_
    exact hk16 x0 x1 ((x2 / o2) * ((((x0 - x1) + x4).toInt64) / ((x4.toInt64) / o2))) (x4 + (1 : Int32)) ls h (lv_sub hl [4, 5, 1, 0] rfl)
set_option maxHeartbeats 4000000 in
set_option maxRecDepth 100000 in
theorem wX1_choose_L16 {p : Program} {l : Launch} {e : Env} {s : State} {m : MethodId} {args : Array Value} {below : List Frame} {meth : Method} {c : Code} {out : Int64} (C : cxt p s m args meth c RX1 cX1_choose 9 (some .long) wsX1_choose) (x0 : Int32) (x1 : Int32) (x2 : Int64) (x4 : Int32) (ls : Array Slot) (h : fX1_choose_L16   x0 x1 x2 x4 = some out) (hl : lv_has ls 9 [(0, .int x0), (1, .int x1), (2, .long x2), (4, .int x4)]) : W p l e rmX1_choose s m args below meth c s.heap [] 0 0 (MQ below (QRl out) args s 0 0 (fun _ => False)) (F0 m 16 ls []) := by
  unfold fX1_choose_L16 at h
  exact lp_ind (P := fun t : Int32 × Int32 × Int64 × Int32 => ∀ ls : Array Slot, lv_has ls 9 [(0, .int t.1), (1, .int t.2.1), (2, .long t.2.2.1), (4, .int t.2.2.2)] → W p l e rmX1_choose s m args below meth c s.heap [] 0 0 (MQ below (QRl out) args s 0 0 (fun _ => False)) (F0 m 16 ls [])) (fun k hk t h ls hl => wX1_choose_B16 C  k (fun x0 x1 x2 x4 ls h hl => hk (x0, x1, x2, x4) h ls hl) t.1 t.2.1 t.2.2.1 t.2.2.2 ls h hl) FU (x0, x1, x2, x4) h ls hl
def fX1_choose  (x0 : Int32) (x1 : Int32) : Option (Int64) := (if x1 < (0 : Int32) then (some (0 : Int64)) else (if x1 ≤ x0 then (fX1_choose_L16 x0 x1 (1 : Int64) (1 : Int32)) else (some (0 : Int64))))
set_option maxHeartbeats 4000000 in
set_option maxRecDepth 100000 in
theorem mX1_choose (l : Launch) (x0 : Int32) (x1 : Int32) (out : Int64) (h : fX1_choose  x0 x1 = some out) : MPl l yX1_choose wsX1_choose rmX1_choose [.int x0, .int x1] out := by
  refine ofPl (cc := cX1_choose) (maxL := 9) (ret := (some .long)) (lv := [(0, .int x0), (1, .int x1)]) (plainFor_of_name (by decide)) rfl (Nat.le_of_ble_eq_true rfl) rfl ?_
  intro p e s m args below meth c C ls hl
  have C : cxt p s m args meth c RX1 cX1_choose 9 (some .long) wsX1_choose := C
  obtain ⟨hx, hb, hr, hml, hown, hts, hlocks⟩ := id C
  unfold fX1_choose at h
  refine lv_iload_n hx hb dX1_choose_0 rfl (lv_at hl 1 rfl) ?_
  refine lv_if_lt (tgt := 9) hx hb dX1_choose_1 (by decide) (fun c1 => ?_) (fun c1 => ?_)
  · replace h := br_p c1 h
    refine lv_lconst (v := (0 : Int64)) hx hb dX1_choose_9 (by decide) ?_
    exact reRl (v := (0 : Int64)) hx hb hr hlocks h dX1_choose_10
  · replace h := br_n c1 h
    refine lv_iload_n hx hb dX1_choose_4 rfl (lv_at hl 1 rfl) ?_
    refine lv_iload_n hx hb dX1_choose_5 rfl (lv_at hl 0 rfl) ?_
    refine lv_icmp_le (tgt := 11) hx hb dX1_choose_6 (by decide) (fun c2 => ?_) (fun c2 => ?_)
    · replace h := br_p c2 h
      refine lv_lconst (v := (1 : Int64)) hx hb dX1_choose_11 (by decide) ?_
      refine lv_lstore_n (lv' := [(2, .long (1 : Int64)), (0, .int x0), (1, .int x1)]) hx hb dX1_choose_12 rfl hl (by decide) rfl (fun ls hl => ?_)
      refine lv_iconst (v := (1 : Int32)) hx hb dX1_choose_13 (by decide) ?_
      refine lv_istore (lv' := [(4, .int (1 : Int32)), (2, .long (1 : Int64)), (0, .int x0), (1, .int x1)]) hx hb dX1_choose_14 hl (by decide) rfl (fun ls hl => ?_)
      exact wX1_choose_L16 C  x0 x1 (1 : Int64) (1 : Int32) ls h (lv_sub hl [2, 3, 1, 0] rfl)
    · replace h := br_n c2 h
      refine lv_lconst (v := (0 : Int64)) hx hb dX1_choose_9 (by decide) ?_
      exact reRl (v := (0 : Int64)) hx hb hr hlocks h dX1_choose_10
abbrev rmX1_power : Room := { frames := 2, cells := 0, slots := 0, locals := 45 }
def fX1_power_B6 (σ : MS)   (k6 : Int64 × Int32 × Int64 × Int32 × MS → Option (Int64 × MS)) (x1 : Int64) (x3 : Int32) (x4 : Int64) (x6 : Int32) : Option (Int64 × MS) := (if x3 ≤ x6 then (some (x4, σ)) else ((fX1_times σ x4 x1).bind fun o2 => (k6 (x1, x3, o2.1, (x6 + (1 : Int32)), o2.2))))
def fX1_power_L6 (σ : MS)   (x1 : Int64) (x3 : Int32) (x4 : Int64) (x6 : Int32) : Option (Int64 × MS) := lp (fun k t => fX1_power_B6 t.2.2.2.2   k t.1 t.2.1 t.2.2.1 t.2.2.2.1) FU (x1, x3, x4, x6, σ)
set_option maxHeartbeats 4000000 in
set_option maxRecDepth 100000 in
theorem wX1_power_B6 {p : Program} {l : Launch} {e : Env} {s : State} {m : MethodId} {args : Array Value} {below : List Frame} {meth : Method} {c : Code} {A : Nat → Prop} {D : va_G} {kc : Nat → ClassId} {q : Nat → Nat} {out : Int64 × MS} (C : cxt p s m args meth c RX1 cX1_power 7 (some .long) wsX1_power) (hA : ∀ x, s.heap.size ≤ x → A x) (hK : va_K D vwCl (tysX1 kc) s) (k6 : Int64 × Int32 × Int64 × Int32 × MS → Option (Int64 × MS)) (hk6 : ∀ (x1 : Int64) (x3 : Int32) (x4 : Int64) (x6 : Int32) (σ : MS) (H : Heap) (locs : List Loc) (ls : Array Slot), k6 (x1, x3, x4, x6, σ) = some out → va_P D vwCl (wX1 kc q σ) H → va_D A (wX1 kc q σ) → va_S A s.heap H locs → lv_has ls 7 [(0, .ref (q 0)), (1, .long x1), (3, .int x3), (4, .long x4), (6, .int x6)] → W p l e rmX1_power s m args below meth c H locs 0 0 (MQ below (QMl D (tysX1 kc) (wX1 kc q) A out) args s 0 0 A) (F0 m 6 ls [])) (σ : MS) (x1 : Int64) (x3 : Int32) (x4 : Int64) (x6 : Int32) (H : Heap) (locs : List Loc) (ls : Array Slot) (h : fX1_power_B6 σ   k6 x1 x3 x4 x6 = some out) (hP : va_P D vwCl (wX1 kc q σ) H) (hD : va_D A (wX1 kc q σ)) (hS : va_S A s.heap H locs) (hl : lv_has ls 7 [(0, .ref (q 0)), (1, .long x1), (3, .int x3), (4, .long x4), (6, .int x6)]) : W p l e rmX1_power s m args below meth c H locs 0 0 (MQ below (QMl D (tysX1 kc) (wX1 kc q) A out) args s 0 0 A) (F0 m 6 ls []) := by
  obtain ⟨hx, hb, hr, hml, hown, hts, hlocks⟩ := id C
  unfold fX1_power_B6 at h
  refine lv_iload hx hb dX1_power_6 (lv_at hl 4 rfl) ?_
  refine lv_iload_n hx hb dX1_power_8 rfl (lv_at hl 2 rfl) ?_
  refine lv_icmp_ge (tgt := 27) hx hb dX1_power_9 (by decide) (fun c1 => ?_) (fun c1 => ?_)
  · replace h := br_p c1 h
    refine lv_lload hx hb dX1_power_27 (lv_at hl 3 rfl) ?_
    exact reMl (v := x4) hx hb hr hlocks hK hP hD hS h dX1_power_29
  · replace h := br_n c1 h
    refine lv_aload_n hx hb dX1_power_12 rfl (lv_at hl 0 rfl) ?_
    refine lv_lload hx hb dX1_power_13 (lv_at hl 3 rfl) ?_
    refine lv_lload_n hx hb dX1_power_15 rfl (lv_at hl 1 rfl) ?_
    obtain ⟨o2, ho3, h⟩ := bi h
    refine caMl (q0 := 0) (As := [.long x4, .long x1]) (rest := []) ⟨hx, hb, hml, hown, hts⟩ (mX1_times l D kc q σ x4 x1 o2 ho3) (cwV 2 hts gX1_power_X1_times rfl rfl rfl (by decide +kernel) ⟨Nat.le_of_ble_eq_true rfl, Nat.le_of_ble_eq_true rfl⟩) hK hP hD hS hA rfl rfl rfl rfl hl.1 (Nat.le_of_ble_eq_true rfl) dX1_power_16 ⟨Nat.zero_le _, Nat.zero_le _⟩ (fun H locs hP hD hS => ?_)
    refine lv_lstore (lv' := [(4, .long o2.1), (0, .ref (q 0)), (1, .long x1), (3, .int x3), (6, .int x6)]) hx hb dX1_power_19 hl (by decide) rfl (fun ls hl => ?_)
    refine lv_iinc (v := (x6 + (1 : Int32))) (lv' := [(6, .int (x6 + (1 : Int32))), (4, .long o2.1), (0, .ref (q 0)), (1, .long x1), (3, .int x3)]) hx hb dX1_power_21 hl (k := 4) rfl rfl (by decide) rfl (fun ls hl => ?_)
    refine lv_goto (tgt := 6) hx hb dX1_power_24 (by decide) ?_
    exact hk6 x1 x3 o2.1 (x6 + (1 : Int32)) o2.2 H locs ls h hP hD hS (lv_sub hl [2, 3, 4, 1, 0] rfl)
set_option maxHeartbeats 4000000 in
set_option maxRecDepth 100000 in
theorem wX1_power_L6 {p : Program} {l : Launch} {e : Env} {s : State} {m : MethodId} {args : Array Value} {below : List Frame} {meth : Method} {c : Code} {A : Nat → Prop} {D : va_G} {kc : Nat → ClassId} {q : Nat → Nat} {out : Int64 × MS} (C : cxt p s m args meth c RX1 cX1_power 7 (some .long) wsX1_power) (hA : ∀ x, s.heap.size ≤ x → A x) (hK : va_K D vwCl (tysX1 kc) s) (σ : MS) (x1 : Int64) (x3 : Int32) (x4 : Int64) (x6 : Int32) (H : Heap) (locs : List Loc) (ls : Array Slot) (h : fX1_power_L6 σ   x1 x3 x4 x6 = some out) (hP : va_P D vwCl (wX1 kc q σ) H) (hD : va_D A (wX1 kc q σ)) (hS : va_S A s.heap H locs) (hl : lv_has ls 7 [(0, .ref (q 0)), (1, .long x1), (3, .int x3), (4, .long x4), (6, .int x6)]) : W p l e rmX1_power s m args below meth c H locs 0 0 (MQ below (QMl D (tysX1 kc) (wX1 kc q) A out) args s 0 0 A) (F0 m 6 ls []) := by
  unfold fX1_power_L6 at h
  exact lp_ind (P := fun t : Int64 × Int32 × Int64 × Int32 × MS => ∀ (H : Heap) (locs : List Loc) (ls : Array Slot), va_P D vwCl (wX1 kc q t.2.2.2.2) H → va_D A (wX1 kc q t.2.2.2.2) → va_S A s.heap H locs → lv_has ls 7 [(0, .ref (q 0)), (1, .long t.1), (3, .int t.2.1), (4, .long t.2.2.1), (6, .int t.2.2.2.1)] → W p l e rmX1_power s m args below meth c H locs 0 0 (MQ below (QMl D (tysX1 kc) (wX1 kc q) A out) args s 0 0 A) (F0 m 6 ls [])) (fun k hk t h H locs ls hP hD hS hl => wX1_power_B6 C hA hK  k (fun x1 x3 x4 x6 σ H locs ls h hP hD hS hl => hk (x1, x3, x4, x6, σ) h H locs ls hP hD hS hl) t.2.2.2.2 t.1 t.2.1 t.2.2.1 t.2.2.2.1 H locs ls h hP hD hS hl) FU (x1, x3, x4, x6, σ) h H locs ls hP hD hS hl
def fX1_power (σ : MS)  (x1 : Int64) (x3 : Int32) : Option (Int64 × MS) := (fX1_power_L6 σ x1 x3 (1 : Int64) (0 : Int32))
set_option maxHeartbeats 4000000 in
set_option maxRecDepth 100000 in
theorem mX1_power (l : Launch) (D : va_G) (kc : Nat → ClassId) (q : Nat → Nat) (σ : MS) (x1 : Int64) (x3 : Int32) (out : Int64 × MS) (h : fX1_power σ  x1 x3 = some out) : MMl l yX1_power wsX1_power rmX1_power D (tysX1 kc) (wX1 kc q) σ [.ref (q 0), .long x1, .int x3] out := by
  refine ofMl (cc := cX1_power) (maxL := 7) (ret := (some .long)) (lv := [(0, .ref (q 0)), (1, .long x1), (3, .int x3)]) (by decide) rfl (Nat.le_of_ble_eq_true rfl) rfl ?_
  intro p e s m args below meth c A C hA hK hP hD hS ls hl
  have C : cxt p s m args meth c RX1 cX1_power 7 (some .long) wsX1_power := C
  obtain ⟨hx, hb, hr, hml, hown, hts, hlocks⟩ := id C
  obtain ⟨H, hH⟩ : ∃ H, H = s.heap := ⟨_, rfl⟩
  obtain ⟨locs, hlocs⟩ : ∃ locs : List Loc, locs = [] := ⟨_, rfl⟩
  have hS : va_S A s.heap H locs := by rw [hH, hlocs]; exact va_S.rf
  rw [← hH] at hP
  suffices hW : W p l e rmX1_power s m args below meth c H locs 0 0 _ (F0 m 0 ls []) by rw [hH, hlocs] at hW; exact hW
  unfold fX1_power at h
  refine lv_lconst (v := (1 : Int64)) hx hb dX1_power_0 (by decide) ?_
  refine lv_lstore (lv' := [(4, .long (1 : Int64)), (0, .ref (q 0)), (1, .long x1), (3, .int x3)]) hx hb dX1_power_1 hl (by decide) rfl (fun ls hl => ?_)
  refine lv_iconst (v := (0 : Int32)) hx hb dX1_power_3 (by decide) ?_
  refine lv_istore (lv' := [(6, .int (0 : Int32)), (4, .long (1 : Int64)), (0, .ref (q 0)), (1, .long x1), (3, .int x3)]) hx hb dX1_power_4 hl (by decide) rfl (fun ls hl => ?_)
  exact wX1_power_L6 C hA hK  σ x1 x3 (1 : Int64) (0 : Int32) H locs ls h hP hD hS (lv_sub hl [2, 3, 4, 1, 0] rfl)
abbrev rmX1_tail : Room := { frames := 3, cells := 0, slots := 0, locals := 78 }
theorem hinX1_tail : ∀ w ∈ u_ws RX1 TX1 17, w ∈ wsX1_tail := by first | exact fun _ h => List.mem_cons_of_mem _ (List.mem_append_right _ h) | exact fun _ h => List.mem_cons_of_mem _ (List.mem_append_left _ (List.mem_append_right _ h)) | decide +kernel
def fX1_tail_B111 (σ : MS)   (k111 : Int32 × Int32 × Int64 × Int64 × Int32 × MS → Option (Int32 × MS)) (x1 : Int32) (x3 : Int32) (x4 : Int64) (x6 : Int64) (x8 : Int32) : Option (Int32 × MS) := (if x1 < x8 then ((fX1_kept σ x6 x4).bind fun o2 => (some (o2.1, o2.2))) else ((fX1_choose x1 x8).bind fun o4 => (if ix x3 41 = true then ((fX1_power σ ((m_upper σ) x3.toNatClampNeg) x8).bind fun o7 => (if ix x3 41 = true then (if ix x3 41 = true then ((fX1_power o7.2 (((m_lower o7.2) x3.toNatClampNeg) - ((m_upper o7.2) x3.toNatClampNeg)) (x1 - x8)).bind fun o11 => (k111 (x1, x3, x4, (x6 + ((o4 * o7.1) * o11.1)), (x8 + (1 : Int32)), o11.2))) else none) else none)) else none)))
def fX1_tail_L111 (σ : MS)   (x1 : Int32) (x3 : Int32) (x4 : Int64) (x6 : Int64) (x8 : Int32) : Option (Int32 × MS) := lp (fun k t => fX1_tail_B111 t.2.2.2.2.2   k t.1 t.2.1 t.2.2.1 t.2.2.2.1 t.2.2.2.2.1) FU (x1, x3, x4, x6, x8, σ)
set_option maxHeartbeats 4000000 in
set_option maxRecDepth 100000 in
theorem wX1_tail_B111 {p : Program} {l : Launch} {e : Env} {s : State} {m : MethodId} {args : Array Value} {below : List Frame} {meth : Method} {c : Code} {A : Nat → Prop} {D : va_G} {kc : Nat → ClassId} {q : Nat → Nat} {out : Int32 × MS} (C : cxt p s m args meth c RX1 cX1_tail 9 (some .int) wsX1_tail) (hA : ∀ x, s.heap.size ≤ x → A x) (hK : va_K D vwCl (tysX1 kc) s) (k111 : Int32 × Int32 × Int64 × Int64 × Int32 × MS → Option (Int32 × MS)) (hk111 : ∀ (x1 : Int32) (x3 : Int32) (x4 : Int64) (x6 : Int64) (x8 : Int32) (σ : MS) (H : Heap) (locs : List Loc) (ls : Array Slot), k111 (x1, x3, x4, x6, x8, σ) = some out → va_P D vwCl (wX1 kc q σ) H → va_D A (wX1 kc q σ) → va_S A s.heap H locs → lv_has ls 9 [(0, .ref (q 0)), (1, .int x1), (3, .int x3), (4, .long x4), (6, .long x6), (8, .int x8)] → W p l e rmX1_tail s m args below meth c H locs 0 0 (MQ below (QMi D (tysX1 kc) (wX1 kc q) A out) args s 0 0 A) (F0 m 111 ls [])) (σ : MS) (x1 : Int32) (x3 : Int32) (x4 : Int64) (x6 : Int64) (x8 : Int32) (H : Heap) (locs : List Loc) (ls : Array Slot) (h : fX1_tail_B111 σ   k111 x1 x3 x4 x6 x8 = some out) (hP : va_P D vwCl (wX1 kc q σ) H) (hD : va_D A (wX1 kc q σ)) (hS : va_S A s.heap H locs) (hl : lv_has ls 9 [(0, .ref (q 0)), (1, .int x1), (3, .int x3), (4, .long x4), (6, .long x6), (8, .int x8)]) : W p l e rmX1_tail s m args below meth c H locs 0 0 (MQ below (QMi D (tysX1 kc) (wX1 kc q) A out) args s 0 0 A) (F0 m 111 ls []) := by
  obtain ⟨hx, hb, hr, hml, hown, hts, hlocks⟩ := id C
  unfold fX1_tail_B111 at h
  refine lv_iload hx hb dX1_tail_111 (lv_at hl 5 rfl) ?_
  refine lv_iload_n hx hb dX1_tail_113 rfl (lv_at hl 1 rfl) ?_
  refine lv_icmp_gt (tgt := 169) hx hb dX1_tail_114 (by decide) (fun c1 => ?_) (fun c1 => ?_)
  · replace h := br_p c1 h
    refine lv_aload_n hx hb dX1_tail_169 rfl (lv_at hl 0 rfl) ?_
    refine lv_lload hx hb dX1_tail_170 (lv_at hl 4 rfl) ?_
    refine lv_lload hx hb dX1_tail_172 (lv_at hl 3 rfl) ?_
    obtain ⟨o2, ho3, h⟩ := bi h
    refine caMi (q0 := 0) (As := [.long x6, .long x4]) (rest := []) ⟨hx, hb, hml, hown, hts⟩ (mX1_kept l D kc q σ x6 x4 o2 ho3) (cwV 2 hts gX1_tail_X1_kept rfl rfl rfl (by decide +kernel) ⟨Nat.le_of_ble_eq_true rfl, Nat.le_of_ble_eq_true rfl⟩) hK hP hD hS hA rfl rfl rfl rfl hl.1 (Nat.le_of_ble_eq_true rfl) dX1_tail_174 ⟨Nat.zero_le _, Nat.zero_le _⟩ (fun H locs hP hD hS => ?_)
    exact reMi (v := o2.1) hx hb hr hlocks hK hP hD hS h dX1_tail_177
  · replace h := br_n c1 h
    refine lv_lload hx hb dX1_tail_117 (lv_at hl 4 rfl) ?_
    refine lv_iload_n hx hb dX1_tail_119 rfl (lv_at hl 1 rfl) ?_
    refine lv_iload hx hb dX1_tail_120 (lv_at hl 5 rfl) ?_
    obtain ⟨o4, ho5, h⟩ := bi h
    refine caPl (As := [.int x1, .int x8]) (rest := [.long x6]) ⟨hx, hb, hml, hown, hts⟩ (mX1_choose l x1 x8 o4 ho5) (va_cwS 2 hts gX1_tail_X1_choose rfl rfl rfl (by decide +kernel) ⟨Nat.le_of_ble_eq_true rfl, Nat.le_of_ble_eq_true rfl⟩) rfl hl.1 (Nat.le_of_ble_eq_true rfl) dX1_tail_122 ⟨Nat.zero_le _, Nat.zero_le _⟩ ?_
    refine lv_aload_n hx hb dX1_tail_125 rfl (lv_at hl 0 rfl) ?_
    refine lv_aload_n hx hb dX1_tail_126 rfl (lv_at hl 0 rfl) ?_
    refine rdX1_upper hx hb hts hinX1_tail hown hK hP (hts (.fieldLink RX1 7 "ExactSharesModel" "upper" "[J") (List.mem_of_getElem? (i := 3) rfl)) dX1_tail_127 ?_
    refine lv_iload_n hx hb dX1_tail_130 rfl (lv_at hl 2 rfl) ?_
    obtain ⟨g6, h⟩ := gd_t h
    refine ldX1_upper hx hb hK hP g6 dX1_tail_131 ?_
    refine lv_iload hx hb dX1_tail_132 (lv_at hl 5 rfl) ?_
    obtain ⟨o7, ho8, h⟩ := bi h
    refine caMl (q0 := 0) (As := [.long ((m_upper σ) x3.toNatClampNeg), .int x8]) (rest := [.long o4, .long x6]) ⟨hx, hb, hml, hown, hts⟩ (mX1_power l D kc q σ ((m_upper σ) x3.toNatClampNeg) x8 o7 ho8) (cwV 2 hts gX1_tail_X1_power rfl rfl rfl (by decide +kernel) ⟨Nat.le_of_ble_eq_true rfl, Nat.le_of_ble_eq_true rfl⟩) hK hP hD hS hA rfl rfl rfl rfl hl.1 (Nat.le_of_ble_eq_true rfl) dX1_tail_134 ⟨Nat.zero_le _, Nat.zero_le _⟩ (fun H locs hP hD hS => ?_)
    refine lv_lmul hx hb dX1_tail_137 ?_
    refine lv_aload_n hx hb dX1_tail_138 rfl (lv_at hl 0 rfl) ?_
    refine lv_aload_n hx hb dX1_tail_139 rfl (lv_at hl 0 rfl) ?_
    refine rdX1_lower hx hb hts hinX1_tail hown hK hP (hts (.fieldLink RX1 13 "ExactSharesModel" "lower" "[J") (List.mem_of_getElem? (i := 4) rfl)) dX1_tail_140 ?_
    refine lv_iload_n hx hb dX1_tail_143 rfl (lv_at hl 2 rfl) ?_
    obtain ⟨g9, h⟩ := gd_t h
    refine ldX1_lower hx hb hK hP g9 dX1_tail_144 ?_
    refine lv_aload_n hx hb dX1_tail_145 rfl (lv_at hl 0 rfl) ?_
    refine rdX1_upper hx hb hts hinX1_tail hown hK hP (hts (.fieldLink RX1 7 "ExactSharesModel" "upper" "[J") (List.mem_of_getElem? (i := 3) rfl)) dX1_tail_146 ?_
    refine lv_iload_n hx hb dX1_tail_149 rfl (lv_at hl 2 rfl) ?_
    obtain ⟨g10, h⟩ := gd_t h
    refine ldX1_upper hx hb hK hP g10 dX1_tail_150 ?_
    refine lv_lsub hx hb dX1_tail_151 ?_
    refine lv_iload_n hx hb dX1_tail_152 rfl (lv_at hl 1 rfl) ?_
    refine lv_iload hx hb dX1_tail_153 (lv_at hl 5 rfl) ?_
    refine lv_isub hx hb dX1_tail_155 ?_
    obtain ⟨o11, ho12, h⟩ := bi h
    refine caMl (q0 := 0) (As := [.long (((m_lower o7.2) x3.toNatClampNeg) - ((m_upper o7.2) x3.toNatClampNeg)), .int (x1 - x8)]) (rest := [.long (o4 * o7.1), .long x6]) ⟨hx, hb, hml, hown, hts⟩ (mX1_power l D kc q o7.2 (((m_lower o7.2) x3.toNatClampNeg) - ((m_upper o7.2) x3.toNatClampNeg)) (x1 - x8) o11 ho12) (cwV 2 hts gX1_tail_X1_power rfl rfl rfl (by decide +kernel) ⟨Nat.le_of_ble_eq_true rfl, Nat.le_of_ble_eq_true rfl⟩) hK hP hD hS hA rfl rfl rfl rfl hl.1 (Nat.le_of_ble_eq_true rfl) dX1_tail_156 ⟨Nat.zero_le _, Nat.zero_le _⟩ (fun H locs hP hD hS => ?_)
    refine lv_lmul hx hb dX1_tail_159 ?_
    refine lv_ladd hx hb dX1_tail_160 ?_
    refine lv_lstore (lv' := [(6, .long (x6 + ((o4 * o7.1) * o11.1))), (0, .ref (q 0)), (1, .int x1), (3, .int x3), (4, .long x4), (8, .int x8)]) hx hb dX1_tail_161 hl (by decide) rfl (fun ls hl => ?_)
    refine lv_iinc (v := (x8 + (1 : Int32))) (lv' := [(8, .int (x8 + (1 : Int32))), (6, .long (x6 + ((o4 * o7.1) * o11.1))), (0, .ref (q 0)), (1, .int x1), (3, .int x3), (4, .long x4)]) hx hb dX1_tail_163 hl (k := 5) rfl rfl (by decide) rfl (fun ls hl => ?_)
    refine lv_goto (tgt := 111) hx hb dX1_tail_166 (by decide) ?_
    exact hk111 x1 x3 x4 (x6 + ((o4 * o7.1) * o11.1)) (x8 + (1 : Int32)) o11.2 H locs ls h hP hD hS (lv_sub hl [2, 3, 4, 5, 1, 0] rfl)
set_option maxHeartbeats 4000000 in
set_option maxRecDepth 100000 in
theorem wX1_tail_L111 {p : Program} {l : Launch} {e : Env} {s : State} {m : MethodId} {args : Array Value} {below : List Frame} {meth : Method} {c : Code} {A : Nat → Prop} {D : va_G} {kc : Nat → ClassId} {q : Nat → Nat} {out : Int32 × MS} (C : cxt p s m args meth c RX1 cX1_tail 9 (some .int) wsX1_tail) (hA : ∀ x, s.heap.size ≤ x → A x) (hK : va_K D vwCl (tysX1 kc) s) (σ : MS) (x1 : Int32) (x3 : Int32) (x4 : Int64) (x6 : Int64) (x8 : Int32) (H : Heap) (locs : List Loc) (ls : Array Slot) (h : fX1_tail_L111 σ   x1 x3 x4 x6 x8 = some out) (hP : va_P D vwCl (wX1 kc q σ) H) (hD : va_D A (wX1 kc q σ)) (hS : va_S A s.heap H locs) (hl : lv_has ls 9 [(0, .ref (q 0)), (1, .int x1), (3, .int x3), (4, .long x4), (6, .long x6), (8, .int x8)]) : W p l e rmX1_tail s m args below meth c H locs 0 0 (MQ below (QMi D (tysX1 kc) (wX1 kc q) A out) args s 0 0 A) (F0 m 111 ls []) := by
  unfold fX1_tail_L111 at h
  exact lp_ind (P := fun t : Int32 × Int32 × Int64 × Int64 × Int32 × MS => ∀ (H : Heap) (locs : List Loc) (ls : Array Slot), va_P D vwCl (wX1 kc q t.2.2.2.2.2) H → va_D A (wX1 kc q t.2.2.2.2.2) → va_S A s.heap H locs → lv_has ls 9 [(0, .ref (q 0)), (1, .int t.1), (3, .int t.2.1), (4, .long t.2.2.1), (6, .long t.2.2.2.1), (8, .int t.2.2.2.2.1)] → W p l e rmX1_tail s m args below meth c H locs 0 0 (MQ below (QMi D (tysX1 kc) (wX1 kc q) A out) args s 0 0 A) (F0 m 111 ls [])) (fun k hk t h H locs ls hP hD hS hl => wX1_tail_B111 C hA hK  k (fun x1 x3 x4 x6 x8 σ H locs ls h hP hD hS hl => hk (x1, x3, x4, x6, x8, σ) h H locs ls hP hD hS hl) t.2.2.2.2.2 t.1 t.2.1 t.2.2.1 t.2.2.2.1 t.2.2.2.2.1 H locs ls h hP hD hS hl) FU (x1, x3, x4, x6, x8, σ) h H locs ls hP hD hS hl
def fX1_tail_L109 (σ : MS)   (x1 : Int32) (x3 : Int32) (x4 : Int64) (x6 : Int64) (y0 : Int32) : Option (Int32 × MS) := (fX1_tail_L111 σ x1 x3 x4 x6 y0)
set_option maxHeartbeats 4000000 in
set_option maxRecDepth 100000 in
theorem wX1_tail_L109 {p : Program} {l : Launch} {e : Env} {s : State} {m : MethodId} {args : Array Value} {below : List Frame} {meth : Method} {c : Code} {A : Nat → Prop} {D : va_G} {kc : Nat → ClassId} {q : Nat → Nat} {out : Int32 × MS} (C : cxt p s m args meth c RX1 cX1_tail 9 (some .int) wsX1_tail) (hA : ∀ x, s.heap.size ≤ x → A x) (hK : va_K D vwCl (tysX1 kc) s) (σ : MS) (x1 : Int32) (x3 : Int32) (x4 : Int64) (x6 : Int64) (y0 : Int32) (H : Heap) (locs : List Loc) (ls : Array Slot) (h : fX1_tail_L109 σ   x1 x3 x4 x6 y0 = some out) (hP : va_P D vwCl (wX1 kc q σ) H) (hD : va_D A (wX1 kc q σ)) (hS : va_S A s.heap H locs) (hl : lv_has ls 9 [(0, .ref (q 0)), (1, .int x1), (3, .int x3), (4, .long x4), (6, .long x6)]) : W p l e rmX1_tail s m args below meth c H locs 0 0 (MQ below (QMi D (tysX1 kc) (wX1 kc q) A out) args s 0 0 A) (F0 m 109 ls [.int y0]) := by
  obtain ⟨hx, hb, hr, hml, hown, hts, hlocks⟩ := id C
  unfold fX1_tail_L109 at h
  refine lv_istore (lv' := [(8, .int y0), (0, .ref (q 0)), (1, .int x1), (3, .int x3), (4, .long x4), (6, .long x6)]) hx hb dX1_tail_109 hl (by decide) rfl (fun ls hl => ?_)
  exact wX1_tail_L111 C hA hK  σ x1 x3 x4 x6 y0 H locs ls h hP hD hS (lv_sub hl [1, 2, 3, 4, 5, 0] rfl)
def fX1_tail (σ : MS)  (x1 : Int32) (x2 : Int32) (x3 : Int32) : Option (Int32 × MS) := (bd (sm_thrown σ (0 : Int32)) fun s1 => ((fX1_isIn (x1.toInt64) (0 : Int64) (60 : Int64)).bind fun o3 => (if o3 = (0 : Int32) then (some ((-1 : Int32), s1)) else ((fX1_isNumber s1 x3).bind fun o6 => (if o6 = (0 : Int32) then (some ((-1 : Int32), s1)) else (if ix x3 41 = true then (if ((m_upper s1) x3.toNatClampNeg) < (0 : Int64) then (some ((-5 : Int32), s1)) else (if ix x3 41 = true then (if ix x3 41 = true then (if ((m_upper s1) x3.toNatClampNeg) ≤ ((m_lower s1) x3.toNatClampNeg) then (if (m_numbers s1) = (40 : Int32) then (some ((-4 : Int32), s1)) else (bd (sm_isWide s1 (0 : Int32)) fun s15 => (if ix x3 41 = true then ((fX1_power s15 ((m_lower s15) x3.toNatClampNeg) x1).bind fun o18 => (if (m_isWide o18.2) = (0 : Int32) then (if (0 : Int32) ≤ x2 then (fX1_tail_L109 o18.2 x1 x3 o18.1 (0 : Int64) x2) else (fX1_tail_L109 o18.2 x1 x3 o18.1 (0 : Int64) (0 : Int32))) else (some ((-3 : Int32), o18.2)))) else none))) else (some ((-5 : Int32), s1))) else none) else none)) else none))))))
set_option maxHeartbeats 4000000 in
set_option maxRecDepth 100000 in
theorem mX1_tail (l : Launch) (D : va_G) (kc : Nat → ClassId) (q : Nat → Nat) (σ : MS) (x1 : Int32) (x2 : Int32) (x3 : Int32) (out : Int32 × MS) (h : fX1_tail σ  x1 x2 x3 = some out) : MMi l yX1_tail wsX1_tail rmX1_tail D (tysX1 kc) (wX1 kc q) σ [.ref (q 0), .int x1, .int x2, .int x3] out := by
  refine ofMi (cc := cX1_tail) (maxL := 9) (ret := (some .int)) (lv := [(0, .ref (q 0)), (1, .int x1), (2, .int x2), (3, .int x3)]) (by decide) rfl (Nat.le_of_ble_eq_true rfl) rfl ?_
  intro p e s m args below meth c A C hA hK hP hD hS ls hl
  have C : cxt p s m args meth c RX1 cX1_tail 9 (some .int) wsX1_tail := C
  obtain ⟨hx, hb, hr, hml, hown, hts, hlocks⟩ := id C
  obtain ⟨H, hH⟩ : ∃ H, H = s.heap := ⟨_, rfl⟩
  obtain ⟨locs, hlocs⟩ : ∃ locs : List Loc, locs = [] := ⟨_, rfl⟩
  have hS : va_S A s.heap H locs := by rw [hH, hlocs]; exact va_S.rf
  rw [← hH] at hP
  suffices hW : W p l e rmX1_tail s m args below meth c H locs 0 0 _ (F0 m 0 ls []) by rw [hH, hlocs] at hW; exact hW
  unfold fX1_tail at h
  refine lv_aload_n hx hb dX1_tail_0 rfl (lv_at hl 0 rfl) ?_
  refine lv_iconst (v := (0 : Int32)) hx hb dX1_tail_1 (by decide) ?_
  refine wrX1_thrown (v := (0 : Int32)) hx hb hts hinX1_tail hown hK hP hD hS (hts (.fieldLink RX1 43 "ExactSharesModel" "thrown" "I") (List.mem_of_getElem? (i := 1) rfl)) dX1_tail_2 (fun H locs hP hD hS => ?_)
  obtain ⟨s1, e2, h⟩ := bd_e h
  replace hP : va_P D vwCl (wX1 kc q s1) H := by rw [e2]; exact hP
  replace hD : va_D A (wX1 kc q s1) := by rw [e2]; exact hD
  clear e2
  refine lv_iload_n hx hb dX1_tail_5 rfl (lv_at hl 1 rfl) ?_
  refine lv_i2l (v := (x1.toInt64)) hx hb dX1_tail_6 rfl ?_
  refine lv_lconst (v := (0 : Int64)) hx hb dX1_tail_7 (by decide) ?_
  refine lv_ldc2 (v := (60 : Int64)) hx hb hown (hts (.constantLong RX1 135 (60)) (List.mem_of_getElem? (i := 2) rfl)) dX1_tail_8 ?_
  obtain ⟨o3, ho4, h⟩ := bi h
  refine caPi (As := [.long (x1.toInt64), .long (0 : Int64), .long (60 : Int64)]) (rest := []) ⟨hx, hb, hml, hown, hts⟩ (mX1_isIn l (x1.toInt64) (0 : Int64) (60 : Int64) o3 ho4) (va_cwS 3 hts gX1_tail_X1_isIn rfl rfl rfl (by decide +kernel) ⟨Nat.le_of_ble_eq_true rfl, Nat.le_of_ble_eq_true rfl⟩) rfl hl.1 (Nat.le_of_ble_eq_true rfl) dX1_tail_11 ⟨Nat.zero_le _, Nat.zero_le _⟩ ?_
  refine lv_if_eq (tgt := 25) hx hb dX1_tail_14 (by decide) (fun c5 => ?_) (fun c5 => ?_)
  · replace h := br_p c5 h
    refine lv_iconst (v := (-1 : Int32)) hx hb dX1_tail_25 (by decide) ?_
    exact reMi (v := (-1 : Int32)) hx hb hr hlocks hK hP hD hS h dX1_tail_26
  · replace h := br_n c5 h
    refine lv_aload_n hx hb dX1_tail_17 rfl (lv_at hl 0 rfl) ?_
    refine lv_iload_n hx hb dX1_tail_18 rfl (lv_at hl 3 rfl) ?_
    obtain ⟨o6, ho7, h⟩ := bi h
    refine caRi (q0 := 0) (As := [.int x3]) (rest := []) ⟨hx, hb, hml, hown, hts⟩ (mX1_isNumber l D kc q s1 x3 o6 ho7) (cwV 1 hts gX1_tail_X1_isNumber rfl rfl rfl (by decide +kernel) ⟨Nat.le_of_ble_eq_true rfl, Nat.le_of_ble_eq_true rfl⟩) hK hP rfl rfl rfl rfl hl.1 (Nat.le_of_ble_eq_true rfl) dX1_tail_19 ⟨Nat.zero_le _, Nat.zero_le _⟩ ?_
    refine lv_if_ne (tgt := 27) hx hb dX1_tail_22 (by decide) (fun c8 => ?_) (fun c8 => ?_)
    · replace h := br_n c8 h
      refine lv_aload_n hx hb dX1_tail_27 rfl (lv_at hl 0 rfl) ?_
      refine rdX1_upper hx hb hts hinX1_tail hown hK hP (hts (.fieldLink RX1 7 "ExactSharesModel" "upper" "[J") (List.mem_of_getElem? (i := 3) rfl)) dX1_tail_28 ?_
      refine lv_iload_n hx hb dX1_tail_31 rfl (lv_at hl 3 rfl) ?_
      obtain ⟨g9, h⟩ := gd_t h
      refine ldX1_upper hx hb hK hP g9 dX1_tail_32 ?_
      refine lv_lconst (v := (0 : Int64)) hx hb dX1_tail_33 (by decide) ?_
      refine xl_lt (tgt := 54) hx hb dX1_tail_34 dX1_tail_35 (by decide) (fun c10 => ?_) (fun c10 => ?_)
      · replace h := br_p c10 h
        refine lv_bipush (v := (-5 : Int32)) hx hb dX1_tail_54 (by decide) ?_
        exact reMi (v := (-5 : Int32)) hx hb hr hlocks hK hP hD hS h dX1_tail_56
      · replace h := br_n c10 h
        refine lv_aload_n hx hb dX1_tail_38 rfl (lv_at hl 0 rfl) ?_
        refine rdX1_upper hx hb hts hinX1_tail hown hK hP (hts (.fieldLink RX1 7 "ExactSharesModel" "upper" "[J") (List.mem_of_getElem? (i := 3) rfl)) dX1_tail_39 ?_
        refine lv_iload_n hx hb dX1_tail_42 rfl (lv_at hl 3 rfl) ?_
        obtain ⟨g11, h⟩ := gd_t h
        refine ldX1_upper hx hb hK hP g11 dX1_tail_43 ?_
        refine lv_aload_n hx hb dX1_tail_44 rfl (lv_at hl 0 rfl) ?_
        refine rdX1_lower hx hb hts hinX1_tail hown hK hP (hts (.fieldLink RX1 13 "ExactSharesModel" "lower" "[J") (List.mem_of_getElem? (i := 4) rfl)) dX1_tail_45 ?_
        refine lv_iload_n hx hb dX1_tail_48 rfl (lv_at hl 3 rfl) ?_
        obtain ⟨g12, h⟩ := gd_t h
        refine ldX1_lower hx hb hK hP g12 dX1_tail_49 ?_
        refine xl_le (tgt := 57) hx hb dX1_tail_50 dX1_tail_51 (by decide) (fun c13 => ?_) (fun c13 => ?_)
        · replace h := br_p c13 h
          refine lv_aload_n hx hb dX1_tail_57 rfl (lv_at hl 0 rfl) ?_
          refine rdX1_numbers hx hb hts hinX1_tail hown hK hP (hts (.fieldLink RX1 56 "ExactSharesModel" "numbers" "I") (List.mem_of_getElem? (i := 5) rfl)) dX1_tail_58 ?_
          refine lv_bipush (v := (40 : Int32)) hx hb dX1_tail_61 (by decide) ?_
          refine lv_icmp_ne (tgt := 69) hx hb dX1_tail_63 (by decide) (fun c14 => ?_) (fun c14 => ?_)
          · replace h := br_n c14 h
            refine lv_aload_n hx hb dX1_tail_69 rfl (lv_at hl 0 rfl) ?_
            refine lv_iconst (v := (0 : Int32)) hx hb dX1_tail_70 (by decide) ?_
            refine wrX1_isWide (v := (0 : Int32)) hx hb hts hinX1_tail hown hK hP hD hS (hts (.fieldLink RX1 39 "ExactSharesModel" "isWide" "Z") (List.mem_of_getElem? (i := 6) rfl)) rfl rfl dX1_tail_71 (fun H locs hP hD hS => ?_)
            obtain ⟨s15, e16, h⟩ := bd_e h
            replace hP : va_P D vwCl (wX1 kc q s15) H := by rw [e16]; exact hP
            replace hD : va_D A (wX1 kc q s15) := by rw [e16]; exact hD
            clear e16
            refine lv_aload_n hx hb dX1_tail_74 rfl (lv_at hl 0 rfl) ?_
            refine lv_aload_n hx hb dX1_tail_75 rfl (lv_at hl 0 rfl) ?_
            refine rdX1_lower hx hb hts hinX1_tail hown hK hP (hts (.fieldLink RX1 13 "ExactSharesModel" "lower" "[J") (List.mem_of_getElem? (i := 4) rfl)) dX1_tail_76 ?_
            refine lv_iload_n hx hb dX1_tail_79 rfl (lv_at hl 3 rfl) ?_
            obtain ⟨g17, h⟩ := gd_t h
            refine ldX1_lower hx hb hK hP g17 dX1_tail_80 ?_
            refine lv_iload_n hx hb dX1_tail_81 rfl (lv_at hl 1 rfl) ?_
            obtain ⟨o18, ho19, h⟩ := bi h
            refine caMl (q0 := 0) (As := [.long ((m_lower s15) x3.toNatClampNeg), .int x1]) (rest := []) ⟨hx, hb, hml, hown, hts⟩ (mX1_power l D kc q s15 ((m_lower s15) x3.toNatClampNeg) x1 o18 ho19) (cwV 2 hts gX1_tail_X1_power rfl rfl rfl (by decide +kernel) ⟨Nat.le_of_ble_eq_true rfl, Nat.le_of_ble_eq_true rfl⟩) hK hP hD hS hA rfl rfl rfl rfl hl.1 (Nat.le_of_ble_eq_true rfl) dX1_tail_82 ⟨Nat.zero_le _, Nat.zero_le _⟩ (fun H locs hP hD hS => ?_)
            refine lv_lstore (lv' := [(4, .long o18.1), (0, .ref (q 0)), (1, .int x1), (2, .int x2), (3, .int x3)]) hx hb dX1_tail_85 hl (by decide) rfl (fun ls hl => ?_)
            refine lv_aload_n hx hb dX1_tail_87 rfl (lv_at hl 1 rfl) ?_
            refine rdX1_isWide hx hb hts hinX1_tail hown hK hP (hts (.fieldLink RX1 39 "ExactSharesModel" "isWide" "Z") (List.mem_of_getElem? (i := 6) rfl)) dX1_tail_88 ?_
            refine lv_if_eq (tgt := 97) hx hb dX1_tail_91 (by decide) (fun c20 => ?_) (fun c20 => ?_)
            · replace h := br_p c20 h
              refine lv_lconst (v := (0 : Int64)) hx hb dX1_tail_97 (by decide) ?_
              refine lv_lstore (lv' := [(6, .long (0 : Int64)), (4, .long o18.1), (0, .ref (q 0)), (1, .int x1), (2, .int x2), (3, .int x3)]) hx hb dX1_tail_98 hl (by decide) rfl (fun ls hl => ?_)
              refine lv_iload_n hx hb dX1_tail_100 rfl (lv_at hl 4 rfl) ?_
              refine lv_if_ge (tgt := 108) hx hb dX1_tail_101 (by decide) (fun c21 => ?_) (fun c21 => ?_)
              · replace h := br_p c21 h
                refine lv_iload_n hx hb dX1_tail_108 rfl (lv_at hl 4 rfl) ?_
                exact wX1_tail_L109 C hA hK  o18.2 x1 x3 o18.1 (0 : Int64) x2 H locs ls h hP hD hS (lv_sub hl [2, 3, 5, 1, 0] rfl)
              · replace h := br_n c21 h
                refine lv_iconst (v := (0 : Int32)) hx hb dX1_tail_104 (by decide) ?_
                refine lv_goto (tgt := 109) hx hb dX1_tail_105 (by decide) ?_
                exact wX1_tail_L109 C hA hK  o18.2 x1 x3 o18.1 (0 : Int64) (0 : Int32) H locs ls h hP hD hS (lv_sub hl [2, 3, 5, 1, 0] rfl)
            · replace h := br_n c20 h
              refine lv_bipush (v := (-3 : Int32)) hx hb dX1_tail_94 (by decide) ?_
              exact reMi (v := (-3 : Int32)) hx hb hr hlocks hK hP hD hS h dX1_tail_96
          · replace h := br_p c14 h
            refine lv_bipush (v := (-4 : Int32)) hx hb dX1_tail_66 (by decide) ?_
            exact reMi (v := (-4 : Int32)) hx hb hr hlocks hK hP hD hS h dX1_tail_68
        · replace h := br_n c13 h
          refine lv_bipush (v := (-5 : Int32)) hx hb dX1_tail_54 (by decide) ?_
          exact reMi (v := (-5 : Int32)) hx hb hr hlocks hK hP hD hS h dX1_tail_56
    · replace h := br_p c8 h
      refine lv_iconst (v := (-1 : Int32)) hx hb dX1_tail_25 (by decide) ?_
      exact reMi (v := (-1 : Int32)) hx hb hr hlocks hK hP hD hS h dX1_tail_26
abbrev rmX1_urn : Room := { frames := 3, cells := 0, slots := 0, locals := 78 }
theorem hinX1_urn : ∀ w ∈ u_ws RX1 TX1 17, w ∈ wsX1_urn := by first | exact fun _ h => List.mem_cons_of_mem _ (List.mem_append_right _ h) | exact fun _ h => List.mem_cons_of_mem _ (List.mem_append_left _ (List.mem_append_right _ h)) | decide +kernel
def fX1_urn_L85 (σ : MS)   (x1 : Int32) (x3 : Int32) (y0 : Int32) (y1 : Int32) (y2 : Int64) : Option (Int32 × MS) := ((fX1_choose y1 y0).bind fun o1 => ((fX1_choose x1 x3).bind fun o3 => ((fX1_kept σ (y2 * o1) o3).bind fun o5 => (some (o5.1, o5.2)))))
set_option maxHeartbeats 4000000 in
set_option maxRecDepth 100000 in
theorem wX1_urn_L85 {p : Program} {l : Launch} {e : Env} {s : State} {m : MethodId} {args : Array Value} {below : List Frame} {meth : Method} {c : Code} {A : Nat → Prop} {D : va_G} {kc : Nat → ClassId} {q : Nat → Nat} {out : Int32 × MS} (C : cxt p s m args meth c RX1 cX1_urn 7 (some .int) wsX1_urn) (hA : ∀ x, s.heap.size ≤ x → A x) (hK : va_K D vwCl (tysX1 kc) s) (σ : MS) (x1 : Int32) (x3 : Int32) (y0 : Int32) (y1 : Int32) (y2 : Int64) (H : Heap) (locs : List Loc) (ls : Array Slot) (h : fX1_urn_L85 σ   x1 x3 y0 y1 y2 = some out) (hP : va_P D vwCl (wX1 kc q σ) H) (hD : va_D A (wX1 kc q σ)) (hS : va_S A s.heap H locs) (hl : lv_has ls 7 [(0, .ref (q 0)), (1, .int x1), (3, .int x3)]) : W p l e rmX1_urn s m args below meth c H locs 0 0 (MQ below (QMi D (tysX1 kc) (wX1 kc q) A out) args s 0 0 A) (F0 m 85 ls [.int y0, .int y1, .long y2]) := by
  obtain ⟨hx, hb, hr, hml, hown, hts, hlocks⟩ := id C
  unfold fX1_urn_L85 at h
  obtain ⟨o1, ho2, h⟩ := bi h
  refine caPl (As := [.int y1, .int y0]) (rest := [.long y2]) ⟨hx, hb, hml, hown, hts⟩ (mX1_choose l y1 y0 o1 ho2) (va_cwS 2 hts gX1_urn_X1_choose rfl rfl rfl (by decide +kernel) ⟨Nat.le_of_ble_eq_true rfl, Nat.le_of_ble_eq_true rfl⟩) rfl hl.1 (Nat.le_of_ble_eq_true rfl) dX1_urn_85 ⟨Nat.zero_le _, Nat.zero_le _⟩ ?_
  refine lv_lmul hx hb dX1_urn_88 ?_
  refine lv_lstore (lv' := [(5, .long (y2 * o1)), (0, .ref (q 0)), (1, .int x1), (3, .int x3)]) hx hb dX1_urn_89 hl (by decide) rfl (fun ls hl => ?_)
  refine lv_aload_n hx hb dX1_urn_91 rfl (lv_at hl 1 rfl) ?_
  refine lv_lload hx hb dX1_urn_92 (lv_at hl 0 rfl) ?_
  refine lv_iload_n hx hb dX1_urn_94 rfl (lv_at hl 2 rfl) ?_
  refine lv_iload_n hx hb dX1_urn_95 rfl (lv_at hl 3 rfl) ?_
  obtain ⟨o3, ho4, h⟩ := bi h
  refine caPl (As := [.int x1, .int x3]) (rest := [.long (y2 * o1), .ref (q 0)]) ⟨hx, hb, hml, hown, hts⟩ (mX1_choose l x1 x3 o3 ho4) (va_cwS 2 hts gX1_urn_X1_choose rfl rfl rfl (by decide +kernel) ⟨Nat.le_of_ble_eq_true rfl, Nat.le_of_ble_eq_true rfl⟩) rfl hl.1 (Nat.le_of_ble_eq_true rfl) dX1_urn_96 ⟨Nat.zero_le _, Nat.zero_le _⟩ ?_
  obtain ⟨o5, ho6, h⟩ := bi h
  refine caMi (q0 := 0) (As := [.long (y2 * o1), .long o3]) (rest := []) ⟨hx, hb, hml, hown, hts⟩ (mX1_kept l D kc q σ (y2 * o1) o3 o5 ho6) (cwV 2 hts gX1_urn_X1_kept rfl rfl rfl (by decide +kernel) ⟨Nat.le_of_ble_eq_true rfl, Nat.le_of_ble_eq_true rfl⟩) hK hP hD hS hA rfl rfl rfl rfl hl.1 (Nat.le_of_ble_eq_true rfl) dX1_urn_99 ⟨Nat.zero_le _, Nat.zero_le _⟩ (fun H locs hP hD hS => ?_)
  exact reMi (v := o5.1) hx hb hr hlocks hK hP hD hS h dX1_urn_102
def fX1_urn (σ : MS)  (x1 : Int32) (x2 : Int32) (x3 : Int32) (x4 : Int32) : Option (Int32 × MS) := (bd (sm_thrown σ (0 : Int32)) fun s1 => ((fX1_isIn (x1.toInt64) (0 : Int64) (60 : Int64)).bind fun o3 => (if o3 = (0 : Int32) then (some ((-1 : Int32), s1)) else ((fX1_isIn (x2.toInt64) (0 : Int64) (x1.toInt64)).bind fun o6 => (if o6 = (0 : Int32) then (some ((-1 : Int32), s1)) else ((fX1_isIn (x3.toInt64) (0 : Int64) (x1.toInt64)).bind fun o9 => (if o9 = (0 : Int32) then (some ((-1 : Int32), s1)) else (if (m_numbers s1) = (40 : Int32) then (some ((-4 : Int32), s1)) else ((fX1_choose x2 x4).bind fun o13 => (if (0 : Int32) ≤ x4 then (if x4 ≤ x3 then (fX1_urn_L85 s1 x1 x3 (x3 - x4) (x1 - x2) o13) else (fX1_urn_L85 s1 x1 x3 (-1 : Int32) (x1 - x2) o13)) else (fX1_urn_L85 s1 x1 x3 (-1 : Int32) (x1 - x2) o13)))))))))))
set_option maxHeartbeats 4000000 in
set_option maxRecDepth 100000 in
theorem mX1_urn (l : Launch) (D : va_G) (kc : Nat → ClassId) (q : Nat → Nat) (σ : MS) (x1 : Int32) (x2 : Int32) (x3 : Int32) (x4 : Int32) (out : Int32 × MS) (h : fX1_urn σ  x1 x2 x3 x4 = some out) : MMi l yX1_urn wsX1_urn rmX1_urn D (tysX1 kc) (wX1 kc q) σ [.ref (q 0), .int x1, .int x2, .int x3, .int x4] out := by
  refine ofMi (cc := cX1_urn) (maxL := 7) (ret := (some .int)) (lv := [(0, .ref (q 0)), (1, .int x1), (2, .int x2), (3, .int x3), (4, .int x4)]) (by decide) rfl (Nat.le_of_ble_eq_true rfl) rfl ?_
  intro p e s m args below meth c A C hA hK hP hD hS ls hl
  have C : cxt p s m args meth c RX1 cX1_urn 7 (some .int) wsX1_urn := C
  obtain ⟨hx, hb, hr, hml, hown, hts, hlocks⟩ := id C
  obtain ⟨H, hH⟩ : ∃ H, H = s.heap := ⟨_, rfl⟩
  obtain ⟨locs, hlocs⟩ : ∃ locs : List Loc, locs = [] := ⟨_, rfl⟩
  have hS : va_S A s.heap H locs := by rw [hH, hlocs]; exact va_S.rf
  rw [← hH] at hP
  suffices hW : W p l e rmX1_urn s m args below meth c H locs 0 0 _ (F0 m 0 ls []) by rw [hH, hlocs] at hW; exact hW
  unfold fX1_urn at h
  refine lv_aload_n hx hb dX1_urn_0 rfl (lv_at hl 0 rfl) ?_
  refine lv_iconst (v := (0 : Int32)) hx hb dX1_urn_1 (by decide) ?_
  refine wrX1_thrown (v := (0 : Int32)) hx hb hts hinX1_urn hown hK hP hD hS (hts (.fieldLink RX1 43 "ExactSharesModel" "thrown" "I") (List.mem_of_getElem? (i := 1) rfl)) dX1_urn_2 (fun H locs hP hD hS => ?_)
  obtain ⟨s1, e2, h⟩ := bd_e h
  replace hP : va_P D vwCl (wX1 kc q s1) H := by rw [e2]; exact hP
  replace hD : va_D A (wX1 kc q s1) := by rw [e2]; exact hD
  clear e2
  refine lv_iload_n hx hb dX1_urn_5 rfl (lv_at hl 1 rfl) ?_
  refine lv_i2l (v := (x1.toInt64)) hx hb dX1_urn_6 rfl ?_
  refine lv_lconst (v := (0 : Int64)) hx hb dX1_urn_7 (by decide) ?_
  refine lv_ldc2 (v := (60 : Int64)) hx hb hown (hts (.constantLong RX1 135 (60)) (List.mem_of_getElem? (i := 2) rfl)) dX1_urn_8 ?_
  obtain ⟨o3, ho4, h⟩ := bi h
  refine caPi (As := [.long (x1.toInt64), .long (0 : Int64), .long (60 : Int64)]) (rest := []) ⟨hx, hb, hml, hown, hts⟩ (mX1_isIn l (x1.toInt64) (0 : Int64) (60 : Int64) o3 ho4) (va_cwS 3 hts gX1_urn_X1_isIn rfl rfl rfl (by decide +kernel) ⟨Nat.le_of_ble_eq_true rfl, Nat.le_of_ble_eq_true rfl⟩) rfl hl.1 (Nat.le_of_ble_eq_true rfl) dX1_urn_11 ⟨Nat.zero_le _, Nat.zero_le _⟩ ?_
  refine lv_if_eq (tgt := 39) hx hb dX1_urn_14 (by decide) (fun c5 => ?_) (fun c5 => ?_)
  · replace h := br_p c5 h
    refine lv_iconst (v := (-1 : Int32)) hx hb dX1_urn_39 (by decide) ?_
    exact reMi (v := (-1 : Int32)) hx hb hr hlocks hK hP hD hS h dX1_urn_40
  · replace h := br_n c5 h
    refine lv_iload_n hx hb dX1_urn_17 rfl (lv_at hl 2 rfl) ?_
    refine lv_i2l (v := (x2.toInt64)) hx hb dX1_urn_18 rfl ?_
    refine lv_lconst (v := (0 : Int64)) hx hb dX1_urn_19 (by decide) ?_
    refine lv_iload_n hx hb dX1_urn_20 rfl (lv_at hl 1 rfl) ?_
    refine lv_i2l (v := (x1.toInt64)) hx hb dX1_urn_21 rfl ?_
    obtain ⟨o6, ho7, h⟩ := bi h
    refine caPi (As := [.long (x2.toInt64), .long (0 : Int64), .long (x1.toInt64)]) (rest := []) ⟨hx, hb, hml, hown, hts⟩ (mX1_isIn l (x2.toInt64) (0 : Int64) (x1.toInt64) o6 ho7) (va_cwS 3 hts gX1_urn_X1_isIn rfl rfl rfl (by decide +kernel) ⟨Nat.le_of_ble_eq_true rfl, Nat.le_of_ble_eq_true rfl⟩) rfl hl.1 (Nat.le_of_ble_eq_true rfl) dX1_urn_22 ⟨Nat.zero_le _, Nat.zero_le _⟩ ?_
    refine lv_if_eq (tgt := 39) hx hb dX1_urn_25 (by decide) (fun c8 => ?_) (fun c8 => ?_)
    · replace h := br_p c8 h
      refine lv_iconst (v := (-1 : Int32)) hx hb dX1_urn_39 (by decide) ?_
      exact reMi (v := (-1 : Int32)) hx hb hr hlocks hK hP hD hS h dX1_urn_40
    · replace h := br_n c8 h
      refine lv_iload_n hx hb dX1_urn_28 rfl (lv_at hl 3 rfl) ?_
      refine lv_i2l (v := (x3.toInt64)) hx hb dX1_urn_29 rfl ?_
      refine lv_lconst (v := (0 : Int64)) hx hb dX1_urn_30 (by decide) ?_
      refine lv_iload_n hx hb dX1_urn_31 rfl (lv_at hl 1 rfl) ?_
      refine lv_i2l (v := (x1.toInt64)) hx hb dX1_urn_32 rfl ?_
      obtain ⟨o9, ho10, h⟩ := bi h
      refine caPi (As := [.long (x3.toInt64), .long (0 : Int64), .long (x1.toInt64)]) (rest := []) ⟨hx, hb, hml, hown, hts⟩ (mX1_isIn l (x3.toInt64) (0 : Int64) (x1.toInt64) o9 ho10) (va_cwS 3 hts gX1_urn_X1_isIn rfl rfl rfl (by decide +kernel) ⟨Nat.le_of_ble_eq_true rfl, Nat.le_of_ble_eq_true rfl⟩) rfl hl.1 (Nat.le_of_ble_eq_true rfl) dX1_urn_33 ⟨Nat.zero_le _, Nat.zero_le _⟩ ?_
      refine lv_if_ne (tgt := 41) hx hb dX1_urn_36 (by decide) (fun c11 => ?_) (fun c11 => ?_)
      · replace h := br_n c11 h
        refine lv_aload_n hx hb dX1_urn_41 rfl (lv_at hl 0 rfl) ?_
        refine rdX1_numbers hx hb hts hinX1_urn hown hK hP (hts (.fieldLink RX1 56 "ExactSharesModel" "numbers" "I") (List.mem_of_getElem? (i := 3) rfl)) dX1_urn_42 ?_
        refine lv_bipush (v := (40 : Int32)) hx hb dX1_urn_45 (by decide) ?_
        refine lv_icmp_ne (tgt := 53) hx hb dX1_urn_47 (by decide) (fun c12 => ?_) (fun c12 => ?_)
        · replace h := br_n c12 h
          refine lv_iload_n hx hb dX1_urn_53 rfl (lv_at hl 2 rfl) ?_
          refine lv_iload hx hb dX1_urn_54 (lv_at hl 4 rfl) ?_
          obtain ⟨o13, ho14, h⟩ := bi h
          refine caPl (As := [.int x2, .int x4]) (rest := []) ⟨hx, hb, hml, hown, hts⟩ (mX1_choose l x2 x4 o13 ho14) (va_cwS 2 hts gX1_urn_X1_choose rfl rfl rfl (by decide +kernel) ⟨Nat.le_of_ble_eq_true rfl, Nat.le_of_ble_eq_true rfl⟩) rfl hl.1 (Nat.le_of_ble_eq_true rfl) dX1_urn_56 ⟨Nat.zero_le _, Nat.zero_le _⟩ ?_
          refine lv_iload_n hx hb dX1_urn_59 rfl (lv_at hl 1 rfl) ?_
          refine lv_iload_n hx hb dX1_urn_60 rfl (lv_at hl 2 rfl) ?_
          refine lv_isub hx hb dX1_urn_61 ?_
          refine lv_iload hx hb dX1_urn_62 (lv_at hl 4 rfl) ?_
          refine lv_if_ge (tgt := 71) hx hb dX1_urn_64 (by decide) (fun c15 => ?_) (fun c15 => ?_)
          · replace h := br_p c15 h
            refine lv_iload hx hb dX1_urn_71 (lv_at hl 4 rfl) ?_
            refine lv_iload_n hx hb dX1_urn_73 rfl (lv_at hl 3 rfl) ?_
            refine lv_icmp_le (tgt := 81) hx hb dX1_urn_74 (by decide) (fun c16 => ?_) (fun c16 => ?_)
            · replace h := br_p c16 h
              refine lv_iload_n hx hb dX1_urn_81 rfl (lv_at hl 3 rfl) ?_
              refine lv_iload hx hb dX1_urn_82 (lv_at hl 4 rfl) ?_
              refine lv_isub hx hb dX1_urn_84 ?_
              exact wX1_urn_L85 C hA hK  s1 x1 x3 (x3 - x4) (x1 - x2) o13 H locs ls h hP hD hS (lv_sub hl [0, 1, 3] rfl)
            · replace h := br_n c16 h
              refine lv_iconst (v := (-1 : Int32)) hx hb dX1_urn_77 (by decide) ?_
              refine lv_goto (tgt := 85) hx hb dX1_urn_78 (by decide) ?_
              exact wX1_urn_L85 C hA hK  s1 x1 x3 (-1 : Int32) (x1 - x2) o13 H locs ls h hP hD hS (lv_sub hl [0, 1, 3] rfl)
          · replace h := br_n c15 h
            refine lv_iconst (v := (-1 : Int32)) hx hb dX1_urn_67 (by decide) ?_
            refine lv_goto (tgt := 85) hx hb dX1_urn_68 (by decide) ?_
            exact wX1_urn_L85 C hA hK  s1 x1 x3 (-1 : Int32) (x1 - x2) o13 H locs ls h hP hD hS (lv_sub hl [0, 1, 3] rfl)
        · replace h := br_p c12 h
          refine lv_bipush (v := (-4 : Int32)) hx hb dX1_urn_50 (by decide) ?_
          exact reMi (v := (-4 : Int32)) hx hb hr hlocks hK hP hD hS h dX1_urn_52
      · replace h := br_p c11 h
        refine lv_iconst (v := (-1 : Int32)) hx hb dX1_urn_39 (by decide) ?_
        exact reMi (v := (-1 : Int32)) hx hb hr hlocks hK hP hD hS h dX1_urn_40
abbrev rmX1_test : Room := { frames := 3, cells := 0, slots := 0, locals := 78 }
theorem hinX1_test : ∀ w ∈ u_ws RX1 TX1 17, w ∈ wsX1_test := by first | exact fun _ h => List.mem_cons_of_mem _ (List.mem_append_right _ h) | exact fun _ h => List.mem_cons_of_mem _ (List.mem_append_left _ (List.mem_append_right _ h)) | decide +kernel
def fX1_test_L256 (σ : MS)  (k98 : Int32 × Int32 × Int32 × Int64 × Int32 × MS → Option (Int32 × MS)) (x1 : Int32) (x2 : Int32) (x3 : Int32) (x4 : Int64) (x6 : Int32) : Option (Int32 × MS) := (k98 (x1, x2, x3, x4, (x6 + (1 : Int32)), σ))
set_option maxHeartbeats 4000000 in
set_option maxRecDepth 100000 in
theorem wX1_test_L256 {p : Program} {l : Launch} {e : Env} {s : State} {m : MethodId} {args : Array Value} {below : List Frame} {meth : Method} {c : Code} {A : Nat → Prop} {D : va_G} {kc : Nat → ClassId} {q : Nat → Nat} {out : Int32 × MS} (C : cxt p s m args meth c RX1 cX1_test 11 (some .int) wsX1_test) (hA : ∀ x, s.heap.size ≤ x → A x) (hK : va_K D vwCl (tysX1 kc) s) (k98 : Int32 × Int32 × Int32 × Int64 × Int32 × MS → Option (Int32 × MS)) (hk98 : ∀ (x1 : Int32) (x2 : Int32) (x3 : Int32) (x4 : Int64) (x6 : Int32) (σ : MS) (H : Heap) (locs : List Loc) (ls : Array Slot), k98 (x1, x2, x3, x4, x6, σ) = some out → va_P D vwCl (wX1 kc q σ) H → va_D A (wX1 kc q σ) → va_S A s.heap H locs → lv_has ls 11 [(0, .ref (q 0)), (1, .int x1), (2, .int x2), (3, .int x3), (4, .long x4), (6, .int x6)] → W p l e rmX1_test s m args below meth c H locs 0 0 (MQ below (QMi D (tysX1 kc) (wX1 kc q) A out) args s 0 0 A) (F0 m 98 ls [])) (σ : MS) (x1 : Int32) (x2 : Int32) (x3 : Int32) (x4 : Int64) (x6 : Int32) (H : Heap) (locs : List Loc) (ls : Array Slot) (h : fX1_test_L256 σ  k98 x1 x2 x3 x4 x6 = some out) (hP : va_P D vwCl (wX1 kc q σ) H) (hD : va_D A (wX1 kc q σ)) (hS : va_S A s.heap H locs) (hl : lv_has ls 11 [(0, .ref (q 0)), (1, .int x1), (2, .int x2), (3, .int x3), (4, .long x4), (6, .int x6)]) : W p l e rmX1_test s m args below meth c H locs 0 0 (MQ below (QMi D (tysX1 kc) (wX1 kc q) A out) args s 0 0 A) (F0 m 256 ls []) := by
  obtain ⟨hx, hb, hr, hml, hown, hts, hlocks⟩ := id C
  unfold fX1_test_L256 at h
  refine lv_iinc (v := (x6 + (1 : Int32))) (lv' := [(6, .int (x6 + (1 : Int32))), (0, .ref (q 0)), (1, .int x1), (2, .int x2), (3, .int x3), (4, .long x4)]) hx hb dX1_test_256 hl (k := 5) rfl rfl (by decide) rfl (fun ls hl => ?_)
  refine lv_goto (tgt := 98) hx hb dX1_test_259 (by decide) ?_
  exact hk98 x1 x2 x3 x4 (x6 + (1 : Int32)) σ H locs ls h hP hD hS (lv_sub hl [1, 2, 3, 4, 5, 0] rfl)
def fX1_test_L252 (σ : MS)  (k98 : Int32 × Int32 × Int32 × Int64 × Int32 × MS → Option (Int32 × MS)) (x1 : Int32) (x2 : Int32) (x3 : Int32) (x4 : Int64) (x6 : Int32) (y0 : Int32) (y1 : Int32) : Option (Int32 × MS) := (bd (sm_just σ (y1 + y0)) fun s1 => (fX1_test_L256 s1 k98 x1 x2 x3 x4 x6))
set_option maxHeartbeats 4000000 in
set_option maxRecDepth 100000 in
theorem wX1_test_L252 {p : Program} {l : Launch} {e : Env} {s : State} {m : MethodId} {args : Array Value} {below : List Frame} {meth : Method} {c : Code} {A : Nat → Prop} {D : va_G} {kc : Nat → ClassId} {q : Nat → Nat} {out : Int32 × MS} (C : cxt p s m args meth c RX1 cX1_test 11 (some .int) wsX1_test) (hA : ∀ x, s.heap.size ≤ x → A x) (hK : va_K D vwCl (tysX1 kc) s) (k98 : Int32 × Int32 × Int32 × Int64 × Int32 × MS → Option (Int32 × MS)) (hk98 : ∀ (x1 : Int32) (x2 : Int32) (x3 : Int32) (x4 : Int64) (x6 : Int32) (σ : MS) (H : Heap) (locs : List Loc) (ls : Array Slot), k98 (x1, x2, x3, x4, x6, σ) = some out → va_P D vwCl (wX1 kc q σ) H → va_D A (wX1 kc q σ) → va_S A s.heap H locs → lv_has ls 11 [(0, .ref (q 0)), (1, .int x1), (2, .int x2), (3, .int x3), (4, .long x4), (6, .int x6)] → W p l e rmX1_test s m args below meth c H locs 0 0 (MQ below (QMi D (tysX1 kc) (wX1 kc q) A out) args s 0 0 A) (F0 m 98 ls [])) (σ : MS) (x1 : Int32) (x2 : Int32) (x3 : Int32) (x4 : Int64) (x6 : Int32) (y0 : Int32) (y1 : Int32) (H : Heap) (locs : List Loc) (ls : Array Slot) (h : fX1_test_L252 σ  k98 x1 x2 x3 x4 x6 y0 y1 = some out) (hP : va_P D vwCl (wX1 kc q σ) H) (hD : va_D A (wX1 kc q σ)) (hS : va_S A s.heap H locs) (hl : lv_has ls 11 [(0, .ref (q 0)), (1, .int x1), (2, .int x2), (3, .int x3), (4, .long x4), (6, .int x6)]) : W p l e rmX1_test s m args below meth c H locs 0 0 (MQ below (QMi D (tysX1 kc) (wX1 kc q) A out) args s 0 0 A) (F0 m 252 ls [.int y0, .int y1, .ref (q 0)]) := by
  obtain ⟨hx, hb, hr, hml, hown, hts, hlocks⟩ := id C
  unfold fX1_test_L252 at h
  refine lv_iadd hx hb dX1_test_252 ?_
  refine wrX1_just (v := (y1 + y0)) hx hb hts hinX1_test hown hK hP hD hS (hts (.fieldLink RX1 151 "ExactSharesModel" "just" "I") (List.mem_of_getElem? (i := 6) rfl)) dX1_test_253 (fun H locs hP hD hS => ?_)
  obtain ⟨s1, e2, h⟩ := bd_e h
  replace hP : va_P D vwCl (wX1 kc q s1) H := by rw [e2]; exact hP
  replace hD : va_D A (wX1 kc q s1) := by rw [e2]; exact hD
  clear e2
  exact wX1_test_L256 C hA hK k98 hk98 s1 x1 x2 x3 x4 x6 H locs ls h hP hD hS (lv_sub hl [0, 1, 2, 3, 4, 5] rfl)
def fX1_test_L230 (σ : MS)  (k98 : Int32 × Int32 × Int32 × Int64 × Int32 × MS → Option (Int32 × MS)) (x1 : Int32) (x2 : Int32) (x3 : Int32) (x4 : Int64) (x6 : Int32) (x8 : Int64) (y0 : Int32) (y1 : Int32) : Option (Int32 × MS) := (bd (sm_notBelow σ (y1 + y0)) fun s1 => (if x8 = x4 then (fX1_test_L252 s1 k98 x1 x2 x3 x4 x6 (1 : Int32) (m_just s1)) else (fX1_test_L252 s1 k98 x1 x2 x3 x4 x6 (0 : Int32) (m_just s1))))
set_option maxHeartbeats 4000000 in
set_option maxRecDepth 100000 in
theorem wX1_test_L230 {p : Program} {l : Launch} {e : Env} {s : State} {m : MethodId} {args : Array Value} {below : List Frame} {meth : Method} {c : Code} {A : Nat → Prop} {D : va_G} {kc : Nat → ClassId} {q : Nat → Nat} {out : Int32 × MS} (C : cxt p s m args meth c RX1 cX1_test 11 (some .int) wsX1_test) (hA : ∀ x, s.heap.size ≤ x → A x) (hK : va_K D vwCl (tysX1 kc) s) (k98 : Int32 × Int32 × Int32 × Int64 × Int32 × MS → Option (Int32 × MS)) (hk98 : ∀ (x1 : Int32) (x2 : Int32) (x3 : Int32) (x4 : Int64) (x6 : Int32) (σ : MS) (H : Heap) (locs : List Loc) (ls : Array Slot), k98 (x1, x2, x3, x4, x6, σ) = some out → va_P D vwCl (wX1 kc q σ) H → va_D A (wX1 kc q σ) → va_S A s.heap H locs → lv_has ls 11 [(0, .ref (q 0)), (1, .int x1), (2, .int x2), (3, .int x3), (4, .long x4), (6, .int x6)] → W p l e rmX1_test s m args below meth c H locs 0 0 (MQ below (QMi D (tysX1 kc) (wX1 kc q) A out) args s 0 0 A) (F0 m 98 ls [])) (σ : MS) (x1 : Int32) (x2 : Int32) (x3 : Int32) (x4 : Int64) (x6 : Int32) (x8 : Int64) (y0 : Int32) (y1 : Int32) (H : Heap) (locs : List Loc) (ls : Array Slot) (h : fX1_test_L230 σ  k98 x1 x2 x3 x4 x6 x8 y0 y1 = some out) (hP : va_P D vwCl (wX1 kc q σ) H) (hD : va_D A (wX1 kc q σ)) (hS : va_S A s.heap H locs) (hl : lv_has ls 11 [(0, .ref (q 0)), (1, .int x1), (2, .int x2), (3, .int x3), (4, .long x4), (6, .int x6), (8, .long x8)]) : W p l e rmX1_test s m args below meth c H locs 0 0 (MQ below (QMi D (tysX1 kc) (wX1 kc q) A out) args s 0 0 A) (F0 m 230 ls [.int y0, .int y1, .ref (q 0)]) := by
  obtain ⟨hx, hb, hr, hml, hown, hts, hlocks⟩ := id C
  unfold fX1_test_L230 at h
  refine lv_iadd hx hb dX1_test_230 ?_
  refine wrX1_notBelow (v := (y1 + y0)) hx hb hts hinX1_test hown hK hP hD hS (hts (.fieldLink RX1 145 "ExactSharesModel" "notBelow" "I") (List.mem_of_getElem? (i := 4) rfl)) dX1_test_231 (fun H locs hP hD hS => ?_)
  obtain ⟨s1, e2, h⟩ := bd_e h
  replace hP : va_P D vwCl (wX1 kc q s1) H := by rw [e2]; exact hP
  replace hD : va_D A (wX1 kc q s1) := by rw [e2]; exact hD
  clear e2
  refine lv_aload_n hx hb dX1_test_234 rfl (lv_at hl 0 rfl) ?_
  refine lv_dup hx hb dX1_test_235 rfl ?_
  refine rdX1_just hx hb hts hinX1_test hown hK hP (hts (.fieldLink RX1 151 "ExactSharesModel" "just" "I") (List.mem_of_getElem? (i := 6) rfl)) dX1_test_236 ?_
  refine lv_lload hx hb dX1_test_239 (lv_at hl 6 rfl) ?_
  refine lv_lload hx hb dX1_test_241 (lv_at hl 4 rfl) ?_
  refine xl_ne (tgt := 251) hx hb dX1_test_243 dX1_test_244 (by decide) (fun c3 => ?_) (fun c3 => ?_)
  · replace h := br_n c3 h
    refine lv_iconst (v := (0 : Int32)) hx hb dX1_test_251 (by decide) ?_
    exact wX1_test_L252 C hA hK k98 hk98 s1 x1 x2 x3 x4 x6 (0 : Int32) (m_just s1) H locs ls h hP hD hS (lv_sub hl [0, 1, 2, 3, 4, 5] rfl)
  · replace h := br_p c3 h
    refine lv_iconst (v := (1 : Int32)) hx hb dX1_test_247 (by decide) ?_
    refine lv_goto (tgt := 252) hx hb dX1_test_248 (by decide) ?_
    exact wX1_test_L252 C hA hK k98 hk98 s1 x1 x2 x3 x4 x6 (1 : Int32) (m_just s1) H locs ls h hP hD hS (lv_sub hl [0, 1, 2, 3, 4, 5] rfl)
def fX1_test_L185 (σ : MS)  (k98 : Int32 × Int32 × Int32 × Int64 × Int32 × MS → Option (Int32 × MS)) (k115 : Int32 × Int32 × Int32 × Int64 × Int32 × Int32 × Int64 × Int32 × MS → Option (Int32 × MS)) (x1 : Int32) (x2 : Int32) (x3 : Int32) (x4 : Int64) (x6 : Int32) (x7 : Int32) (x8 : Int64) (x10 : Int32) : Option (Int32 × MS) := (k115 (x1, x2, x3, x4, x6, x7, x8, (x10 + (1 : Int32)), σ))
set_option maxHeartbeats 4000000 in
set_option maxRecDepth 100000 in
theorem wX1_test_L185 {p : Program} {l : Launch} {e : Env} {s : State} {m : MethodId} {args : Array Value} {below : List Frame} {meth : Method} {c : Code} {A : Nat → Prop} {D : va_G} {kc : Nat → ClassId} {q : Nat → Nat} {out : Int32 × MS} (C : cxt p s m args meth c RX1 cX1_test 11 (some .int) wsX1_test) (hA : ∀ x, s.heap.size ≤ x → A x) (hK : va_K D vwCl (tysX1 kc) s) (k98 : Int32 × Int32 × Int32 × Int64 × Int32 × MS → Option (Int32 × MS)) (hk98 : ∀ (x1 : Int32) (x2 : Int32) (x3 : Int32) (x4 : Int64) (x6 : Int32) (σ : MS) (H : Heap) (locs : List Loc) (ls : Array Slot), k98 (x1, x2, x3, x4, x6, σ) = some out → va_P D vwCl (wX1 kc q σ) H → va_D A (wX1 kc q σ) → va_S A s.heap H locs → lv_has ls 11 [(0, .ref (q 0)), (1, .int x1), (2, .int x2), (3, .int x3), (4, .long x4), (6, .int x6)] → W p l e rmX1_test s m args below meth c H locs 0 0 (MQ below (QMi D (tysX1 kc) (wX1 kc q) A out) args s 0 0 A) (F0 m 98 ls [])) (k115 : Int32 × Int32 × Int32 × Int64 × Int32 × Int32 × Int64 × Int32 × MS → Option (Int32 × MS)) (hk115 : ∀ (x1 : Int32) (x2 : Int32) (x3 : Int32) (x4 : Int64) (x6 : Int32) (x7 : Int32) (x8 : Int64) (x10 : Int32) (σ : MS) (H : Heap) (locs : List Loc) (ls : Array Slot), k115 (x1, x2, x3, x4, x6, x7, x8, x10, σ) = some out → va_P D vwCl (wX1 kc q σ) H → va_D A (wX1 kc q σ) → va_S A s.heap H locs → lv_has ls 11 [(0, .ref (q 0)), (1, .int x1), (2, .int x2), (3, .int x3), (4, .long x4), (6, .int x6), (7, .int x7), (8, .long x8), (10, .int x10)] → W p l e rmX1_test s m args below meth c H locs 0 0 (MQ below (QMi D (tysX1 kc) (wX1 kc q) A out) args s 0 0 A) (F0 m 115 ls [])) (σ : MS) (x1 : Int32) (x2 : Int32) (x3 : Int32) (x4 : Int64) (x6 : Int32) (x7 : Int32) (x8 : Int64) (x10 : Int32) (H : Heap) (locs : List Loc) (ls : Array Slot) (h : fX1_test_L185 σ  k98 k115 x1 x2 x3 x4 x6 x7 x8 x10 = some out) (hP : va_P D vwCl (wX1 kc q σ) H) (hD : va_D A (wX1 kc q σ)) (hS : va_S A s.heap H locs) (hl : lv_has ls 11 [(0, .ref (q 0)), (1, .int x1), (2, .int x2), (3, .int x3), (4, .long x4), (6, .int x6), (7, .int x7), (8, .long x8), (10, .int x10)]) : W p l e rmX1_test s m args below meth c H locs 0 0 (MQ below (QMi D (tysX1 kc) (wX1 kc q) A out) args s 0 0 A) (F0 m 185 ls []) := by
  obtain ⟨hx, hb, hr, hml, hown, hts, hlocks⟩ := id C
  unfold fX1_test_L185 at h
  refine lv_iinc (v := (x10 + (1 : Int32))) (lv' := [(10, .int (x10 + (1 : Int32))), (0, .ref (q 0)), (1, .int x1), (2, .int x2), (3, .int x3), (4, .long x4), (6, .int x6), (7, .int x7), (8, .long x8)]) hx hb dX1_test_185 hl (k := 8) rfl rfl (by decide) rfl (fun ls hl => ?_)
  refine lv_goto (tgt := 115) hx hb dX1_test_188 (by decide) ?_
  exact hk115 x1 x2 x3 x4 x6 x7 x8 (x10 + (1 : Int32)) σ H locs ls h hP hD hS (lv_sub hl [1, 2, 3, 4, 5, 6, 7, 8, 0] rfl)
def fX1_test_L182 (σ : MS)  (k98 : Int32 × Int32 × Int32 × Int64 × Int32 × MS → Option (Int32 × MS)) (k115 : Int32 × Int32 × Int32 × Int64 × Int32 × Int32 × Int64 × Int32 × MS → Option (Int32 × MS)) (x1 : Int32) (x2 : Int32) (x3 : Int32) (x4 : Int64) (x6 : Int32) (x7 : Int32) (x10 : Int32) (y0 : Int64) (y1 : Int64) : Option (Int32 × MS) := (fX1_test_L185 σ k98 k115 x1 x2 x3 x4 x6 x7 (y1 + y0) x10)
set_option maxHeartbeats 4000000 in
set_option maxRecDepth 100000 in
theorem wX1_test_L182 {p : Program} {l : Launch} {e : Env} {s : State} {m : MethodId} {args : Array Value} {below : List Frame} {meth : Method} {c : Code} {A : Nat → Prop} {D : va_G} {kc : Nat → ClassId} {q : Nat → Nat} {out : Int32 × MS} (C : cxt p s m args meth c RX1 cX1_test 11 (some .int) wsX1_test) (hA : ∀ x, s.heap.size ≤ x → A x) (hK : va_K D vwCl (tysX1 kc) s) (k98 : Int32 × Int32 × Int32 × Int64 × Int32 × MS → Option (Int32 × MS)) (hk98 : ∀ (x1 : Int32) (x2 : Int32) (x3 : Int32) (x4 : Int64) (x6 : Int32) (σ : MS) (H : Heap) (locs : List Loc) (ls : Array Slot), k98 (x1, x2, x3, x4, x6, σ) = some out → va_P D vwCl (wX1 kc q σ) H → va_D A (wX1 kc q σ) → va_S A s.heap H locs → lv_has ls 11 [(0, .ref (q 0)), (1, .int x1), (2, .int x2), (3, .int x3), (4, .long x4), (6, .int x6)] → W p l e rmX1_test s m args below meth c H locs 0 0 (MQ below (QMi D (tysX1 kc) (wX1 kc q) A out) args s 0 0 A) (F0 m 98 ls [])) (k115 : Int32 × Int32 × Int32 × Int64 × Int32 × Int32 × Int64 × Int32 × MS → Option (Int32 × MS)) (hk115 : ∀ (x1 : Int32) (x2 : Int32) (x3 : Int32) (x4 : Int64) (x6 : Int32) (x7 : Int32) (x8 : Int64) (x10 : Int32) (σ : MS) (H : Heap) (locs : List Loc) (ls : Array Slot), k115 (x1, x2, x3, x4, x6, x7, x8, x10, σ) = some out → va_P D vwCl (wX1 kc q σ) H → va_D A (wX1 kc q σ) → va_S A s.heap H locs → lv_has ls 11 [(0, .ref (q 0)), (1, .int x1), (2, .int x2), (3, .int x3), (4, .long x4), (6, .int x6), (7, .int x7), (8, .long x8), (10, .int x10)] → W p l e rmX1_test s m args below meth c H locs 0 0 (MQ below (QMi D (tysX1 kc) (wX1 kc q) A out) args s 0 0 A) (F0 m 115 ls [])) (σ : MS) (x1 : Int32) (x2 : Int32) (x3 : Int32) (x4 : Int64) (x6 : Int32) (x7 : Int32) (x10 : Int32) (y0 : Int64) (y1 : Int64) (H : Heap) (locs : List Loc) (ls : Array Slot) (h : fX1_test_L182 σ  k98 k115 x1 x2 x3 x4 x6 x7 x10 y0 y1 = some out) (hP : va_P D vwCl (wX1 kc q σ) H) (hD : va_D A (wX1 kc q σ)) (hS : va_S A s.heap H locs) (hl : lv_has ls 11 [(0, .ref (q 0)), (1, .int x1), (2, .int x2), (3, .int x3), (4, .long x4), (6, .int x6), (7, .int x7), (10, .int x10)]) : W p l e rmX1_test s m args below meth c H locs 0 0 (MQ below (QMi D (tysX1 kc) (wX1 kc q) A out) args s 0 0 A) (F0 m 182 ls [.long y0, .long y1]) := by
  obtain ⟨hx, hb, hr, hml, hown, hts, hlocks⟩ := id C
  unfold fX1_test_L182 at h
  refine lv_ladd hx hb dX1_test_182 ?_
  refine lv_lstore (lv' := [(8, .long (y1 + y0)), (0, .ref (q 0)), (1, .int x1), (2, .int x2), (3, .int x3), (4, .long x4), (6, .int x6), (7, .int x7), (10, .int x10)]) hx hb dX1_test_183 hl (by decide) rfl (fun ls hl => ?_)
  exact wX1_test_L185 C hA hK k98 hk98 k115 hk115 σ x1 x2 x3 x4 x6 x7 (y1 + y0) x10 H locs ls h hP hD hS (lv_sub hl [1, 2, 3, 4, 5, 6, 7, 0, 8] rfl)
def fX1_test_B115 (σ : MS)  (k98 : Int32 × Int32 × Int32 × Int64 × Int32 × MS → Option (Int32 × MS)) (k115 : Int32 × Int32 × Int32 × Int64 × Int32 × Int32 × Int64 × Int32 × MS → Option (Int32 × MS)) (x1 : Int32) (x2 : Int32) (x3 : Int32) (x4 : Int64) (x6 : Int32) (x7 : Int32) (x8 : Int64) (x10 : Int32) : Option (Int32 × MS) := (if x3 ≤ x10 then (if ix x1 4 = true then (if x7 = ((m_many σ) x1.toNatClampNeg) then (bd (sm_all σ ((m_all σ) + (1 : Int32))) fun s4 => (if x8 < x4 then (fX1_test_L230 s4 k98 x1 x2 x3 x4 x6 x8 (0 : Int32) (m_notBelow s4)) else (fX1_test_L230 s4 k98 x1 x2 x3 x4 x6 x8 (1 : Int32) (m_notBelow s4)))) else (fX1_test_L256 σ k98 x1 x2 x3 x4 x6)) else none) else (if ((x6 >>> (x10 &&& 31)) &&& (1 : Int32)) = (1 : Int32) then (if ix x1 4 = true then (if ((m_many σ) x1.toNatClampNeg) ≤ x10 then (if ix x1 4 = true then (if ix ((((8 : Int32) * x2) + x10) - ((m_many σ) x1.toNatClampNeg)) 32 = true then (fX1_test_L182 σ k98 k115 x1 x2 x3 x4 x6 (x7 + (1 : Int32)) x10 ((m_value σ) ((((8 : Int32) * x2) + x10) - ((m_many σ) x1.toNatClampNeg)).toNatClampNeg) x8) else none) else none) else (if ix (((8 : Int32) * x1) + x10) 32 = true then (fX1_test_L182 σ k98 k115 x1 x2 x3 x4 x6 (x7 + (1 : Int32)) x10 ((m_value σ) (((8 : Int32) * x1) + x10).toNatClampNeg) x8) else none)) else none) else (fX1_test_L185 σ k98 k115 x1 x2 x3 x4 x6 x7 x8 x10)))
def fX1_test_L115 (σ : MS)  (k98 : Int32 × Int32 × Int32 × Int64 × Int32 × MS → Option (Int32 × MS)) (x1 : Int32) (x2 : Int32) (x3 : Int32) (x4 : Int64) (x6 : Int32) (x7 : Int32) (x8 : Int64) (x10 : Int32) : Option (Int32 × MS) := lp (fun k t => fX1_test_B115 t.2.2.2.2.2.2.2.2  k98 k t.1 t.2.1 t.2.2.1 t.2.2.2.1 t.2.2.2.2.1 t.2.2.2.2.2.1 t.2.2.2.2.2.2.1 t.2.2.2.2.2.2.2.1) FU (x1, x2, x3, x4, x6, x7, x8, x10, σ)
set_option maxHeartbeats 4000000 in
set_option maxRecDepth 100000 in
theorem wX1_test_B115 {p : Program} {l : Launch} {e : Env} {s : State} {m : MethodId} {args : Array Value} {below : List Frame} {meth : Method} {c : Code} {A : Nat → Prop} {D : va_G} {kc : Nat → ClassId} {q : Nat → Nat} {out : Int32 × MS} (C : cxt p s m args meth c RX1 cX1_test 11 (some .int) wsX1_test) (hA : ∀ x, s.heap.size ≤ x → A x) (hK : va_K D vwCl (tysX1 kc) s) (k98 : Int32 × Int32 × Int32 × Int64 × Int32 × MS → Option (Int32 × MS)) (hk98 : ∀ (x1 : Int32) (x2 : Int32) (x3 : Int32) (x4 : Int64) (x6 : Int32) (σ : MS) (H : Heap) (locs : List Loc) (ls : Array Slot), k98 (x1, x2, x3, x4, x6, σ) = some out → va_P D vwCl (wX1 kc q σ) H → va_D A (wX1 kc q σ) → va_S A s.heap H locs → lv_has ls 11 [(0, .ref (q 0)), (1, .int x1), (2, .int x2), (3, .int x3), (4, .long x4), (6, .int x6)] → W p l e rmX1_test s m args below meth c H locs 0 0 (MQ below (QMi D (tysX1 kc) (wX1 kc q) A out) args s 0 0 A) (F0 m 98 ls [])) (k115 : Int32 × Int32 × Int32 × Int64 × Int32 × Int32 × Int64 × Int32 × MS → Option (Int32 × MS)) (hk115 : ∀ (x1 : Int32) (x2 : Int32) (x3 : Int32) (x4 : Int64) (x6 : Int32) (x7 : Int32) (x8 : Int64) (x10 : Int32) (σ : MS) (H : Heap) (locs : List Loc) (ls : Array Slot), k115 (x1, x2, x3, x4, x6, x7, x8, x10, σ) = some out → va_P D vwCl (wX1 kc q σ) H → va_D A (wX1 kc q σ) → va_S A s.heap H locs → lv_has ls 11 [(0, .ref (q 0)), (1, .int x1), (2, .int x2), (3, .int x3), (4, .long x4), (6, .int x6), (7, .int x7), (8, .long x8), (10, .int x10)] → W p l e rmX1_test s m args below meth c H locs 0 0 (MQ below (QMi D (tysX1 kc) (wX1 kc q) A out) args s 0 0 A) (F0 m 115 ls [])) (σ : MS) (x1 : Int32) (x2 : Int32) (x3 : Int32) (x4 : Int64) (x6 : Int32) (x7 : Int32) (x8 : Int64) (x10 : Int32) (H : Heap) (locs : List Loc) (ls : Array Slot) (h : fX1_test_B115 σ  k98 k115 x1 x2 x3 x4 x6 x7 x8 x10 = some out) (hP : va_P D vwCl (wX1 kc q σ) H) (hD : va_D A (wX1 kc q σ)) (hS : va_S A s.heap H locs) (hl : lv_has ls 11 [(0, .ref (q 0)), (1, .int x1), (2, .int x2), (3, .int x3), (4, .long x4), (6, .int x6), (7, .int x7), (8, .long x8), (10, .int x10)]) : W p l e rmX1_test s m args below meth c H locs 0 0 (MQ below (QMi D (tysX1 kc) (wX1 kc q) A out) args s 0 0 A) (F0 m 115 ls []) := by
  obtain ⟨hx, hb, hr, hml, hown, hts, hlocks⟩ := id C
  unfold fX1_test_B115 at h
  refine lv_iload hx hb dX1_test_115 (lv_at hl 8 rfl) ?_
  refine lv_iload_n hx hb dX1_test_117 rfl (lv_at hl 3 rfl) ?_
  refine lv_icmp_ge (tgt := 191) hx hb dX1_test_118 (by decide) (fun c1 => ?_) (fun c1 => ?_)
  · replace h := br_p c1 h
    refine lv_iload hx hb dX1_test_191 (lv_at hl 6 rfl) ?_
    refine lv_aload_n hx hb dX1_test_193 rfl (lv_at hl 0 rfl) ?_
    refine rdX1_many hx hb hts hinX1_test hown hK hP (hts (.fieldLink RX1 19 "ExactSharesModel" "many" "[I") (List.mem_of_getElem? (i := 2) rfl)) dX1_test_194 ?_
    refine lv_iload_n hx hb dX1_test_197 rfl (lv_at hl 1 rfl) ?_
    obtain ⟨g2, h⟩ := gd_t h
    refine ldX1_many hx hb hK hP g2 dX1_test_198 ?_
    refine lv_icmp_ne (tgt := 256) hx hb dX1_test_199 (by decide) (fun c3 => ?_) (fun c3 => ?_)
    · replace h := br_n c3 h
      exact wX1_test_L256 C hA hK k98 hk98 σ x1 x2 x3 x4 x6 H locs ls h hP hD hS (lv_sub hl [0, 1, 2, 3, 4, 5] rfl)
    · replace h := br_p c3 h
      refine lv_aload_n hx hb dX1_test_202 rfl (lv_at hl 0 rfl) ?_
      refine lv_dup hx hb dX1_test_203 rfl ?_
      refine rdX1_all hx hb hts hinX1_test hown hK hP (hts (.fieldLink RX1 148 "ExactSharesModel" "all" "I") (List.mem_of_getElem? (i := 5) rfl)) dX1_test_204 ?_
      refine lv_iconst (v := (1 : Int32)) hx hb dX1_test_207 (by decide) ?_
      refine lv_iadd hx hb dX1_test_208 ?_
      refine wrX1_all (v := ((m_all σ) + (1 : Int32))) hx hb hts hinX1_test hown hK hP hD hS (hts (.fieldLink RX1 148 "ExactSharesModel" "all" "I") (List.mem_of_getElem? (i := 5) rfl)) dX1_test_209 (fun H locs hP hD hS => ?_)
      obtain ⟨s4, e5, h⟩ := bd_e h
      replace hP : va_P D vwCl (wX1 kc q s4) H := by rw [e5]; exact hP
      replace hD : va_D A (wX1 kc q s4) := by rw [e5]; exact hD
      clear e5
      refine lv_aload_n hx hb dX1_test_212 rfl (lv_at hl 0 rfl) ?_
      refine lv_dup hx hb dX1_test_213 rfl ?_
      refine rdX1_notBelow hx hb hts hinX1_test hown hK hP (hts (.fieldLink RX1 145 "ExactSharesModel" "notBelow" "I") (List.mem_of_getElem? (i := 4) rfl)) dX1_test_214 ?_
      refine lv_lload hx hb dX1_test_217 (lv_at hl 7 rfl) ?_
      refine lv_lload hx hb dX1_test_219 (lv_at hl 4 rfl) ?_
      refine xl_lt (tgt := 229) hx hb dX1_test_221 dX1_test_222 (by decide) (fun c6 => ?_) (fun c6 => ?_)
      · replace h := br_p c6 h
        refine lv_iconst (v := (0 : Int32)) hx hb dX1_test_229 (by decide) ?_
        exact wX1_test_L230 C hA hK k98 hk98 s4 x1 x2 x3 x4 x6 x8 (0 : Int32) (m_notBelow s4) H locs ls h hP hD hS (lv_sub hl [0, 1, 2, 3, 4, 5, 7] rfl)
      · replace h := br_n c6 h
        refine lv_iconst (v := (1 : Int32)) hx hb dX1_test_225 (by decide) ?_
        refine lv_goto (tgt := 230) hx hb dX1_test_226 (by decide) ?_
        exact wX1_test_L230 C hA hK k98 hk98 s4 x1 x2 x3 x4 x6 x8 (1 : Int32) (m_notBelow s4) H locs ls h hP hD hS (lv_sub hl [0, 1, 2, 3, 4, 5, 7] rfl)
  · replace h := br_n c1 h
    refine lv_iload hx hb dX1_test_121 (lv_at hl 5 rfl) ?_
    refine lv_iload hx hb dX1_test_123 (lv_at hl 8 rfl) ?_
    refine lv_ishr hx hb dX1_test_125 ?_
    refine lv_iconst (v := (1 : Int32)) hx hb dX1_test_126 (by decide) ?_
    refine lv_iand hx hb dX1_test_127 ?_
    refine lv_iconst (v := (1 : Int32)) hx hb dX1_test_128 (by decide) ?_
    refine lv_icmp_ne (tgt := 185) hx hb dX1_test_129 (by decide) (fun c7 => ?_) (fun c7 => ?_)
    · replace h := br_n c7 h
      exact wX1_test_L185 C hA hK k98 hk98 k115 hk115 σ x1 x2 x3 x4 x6 x7 x8 x10 H locs ls h hP hD hS (lv_sub hl [0, 1, 2, 3, 4, 5, 6, 7, 8] rfl)
    · replace h := br_p c7 h
      refine lv_iinc (v := (x7 + (1 : Int32))) (lv' := [(7, .int (x7 + (1 : Int32))), (0, .ref (q 0)), (1, .int x1), (2, .int x2), (3, .int x3), (4, .long x4), (6, .int x6), (8, .long x8), (10, .int x10)]) hx hb dX1_test_132 hl (k := 6) rfl rfl (by decide) rfl (fun ls hl => ?_)
      refine lv_lload hx hb dX1_test_135 (lv_at hl 7 rfl) ?_
      refine lv_iload hx hb dX1_test_137 (lv_at hl 8 rfl) ?_
      refine lv_aload_n hx hb dX1_test_139 rfl (lv_at hl 1 rfl) ?_
      refine rdX1_many hx hb hts hinX1_test hown hK hP (hts (.fieldLink RX1 19 "ExactSharesModel" "many" "[I") (List.mem_of_getElem? (i := 2) rfl)) dX1_test_140 ?_
      refine lv_iload_n hx hb dX1_test_143 rfl (lv_at hl 2 rfl) ?_
      obtain ⟨g8, h⟩ := gd_t h
      refine ldX1_many hx hb hK hP g8 dX1_test_144 ?_
      refine lv_icmp_ge (tgt := 163) hx hb dX1_test_145 (by decide) (fun c9 => ?_) (fun c9 => ?_)
      · replace h := br_p c9 h
        refine lv_aload_n hx hb dX1_test_163 rfl (lv_at hl 1 rfl) ?_
        refine rdX1_value hx hb hts hinX1_test hown hK hP (hts (.fieldLink RX1 16 "ExactSharesModel" "value" "[J") (List.mem_of_getElem? (i := 7) rfl)) dX1_test_164 ?_
        refine lv_bipush (v := (8 : Int32)) hx hb dX1_test_167 (by decide) ?_
        refine lv_iload_n hx hb dX1_test_169 rfl (lv_at hl 3 rfl) ?_
        refine lv_imul hx hb dX1_test_170 ?_
        refine lv_iload hx hb dX1_test_171 (lv_at hl 8 rfl) ?_
        refine lv_iadd hx hb dX1_test_173 ?_
        refine lv_aload_n hx hb dX1_test_174 rfl (lv_at hl 1 rfl) ?_
        refine rdX1_many hx hb hts hinX1_test hown hK hP (hts (.fieldLink RX1 19 "ExactSharesModel" "many" "[I") (List.mem_of_getElem? (i := 2) rfl)) dX1_test_175 ?_
        refine lv_iload_n hx hb dX1_test_178 rfl (lv_at hl 2 rfl) ?_
        obtain ⟨g10, h⟩ := gd_t h
        refine ldX1_many hx hb hK hP g10 dX1_test_179 ?_
        refine lv_isub hx hb dX1_test_180 ?_
        obtain ⟨g11, h⟩ := gd_t h
        refine ldX1_value hx hb hK hP g11 dX1_test_181 ?_
        exact wX1_test_L182 C hA hK k98 hk98 k115 hk115 σ x1 x2 x3 x4 x6 (x7 + (1 : Int32)) x10 ((m_value σ) ((((8 : Int32) * x2) + x10) - ((m_many σ) x1.toNatClampNeg)).toNatClampNeg) x8 H locs ls h hP hD hS (lv_sub hl [1, 2, 3, 4, 5, 6, 0, 8] rfl)
      · replace h := br_n c9 h
        refine lv_aload_n hx hb dX1_test_148 rfl (lv_at hl 1 rfl) ?_
        refine rdX1_value hx hb hts hinX1_test hown hK hP (hts (.fieldLink RX1 16 "ExactSharesModel" "value" "[J") (List.mem_of_getElem? (i := 7) rfl)) dX1_test_149 ?_
        refine lv_bipush (v := (8 : Int32)) hx hb dX1_test_152 (by decide) ?_
        refine lv_iload_n hx hb dX1_test_154 rfl (lv_at hl 2 rfl) ?_
        refine lv_imul hx hb dX1_test_155 ?_
        refine lv_iload hx hb dX1_test_156 (lv_at hl 8 rfl) ?_
        refine lv_iadd hx hb dX1_test_158 ?_
        obtain ⟨g12, h⟩ := gd_t h
        refine ldX1_value hx hb hK hP g12 dX1_test_159 ?_
        refine lv_goto (tgt := 182) hx hb dX1_test_160 (by decide) ?_
        exact wX1_test_L182 C hA hK k98 hk98 k115 hk115 σ x1 x2 x3 x4 x6 (x7 + (1 : Int32)) x10 ((m_value σ) (((8 : Int32) * x1) + x10).toNatClampNeg) x8 H locs ls h hP hD hS (lv_sub hl [1, 2, 3, 4, 5, 6, 0, 8] rfl)
set_option maxHeartbeats 4000000 in
set_option maxRecDepth 100000 in
theorem wX1_test_L115 {p : Program} {l : Launch} {e : Env} {s : State} {m : MethodId} {args : Array Value} {below : List Frame} {meth : Method} {c : Code} {A : Nat → Prop} {D : va_G} {kc : Nat → ClassId} {q : Nat → Nat} {out : Int32 × MS} (C : cxt p s m args meth c RX1 cX1_test 11 (some .int) wsX1_test) (hA : ∀ x, s.heap.size ≤ x → A x) (hK : va_K D vwCl (tysX1 kc) s) (k98 : Int32 × Int32 × Int32 × Int64 × Int32 × MS → Option (Int32 × MS)) (hk98 : ∀ (x1 : Int32) (x2 : Int32) (x3 : Int32) (x4 : Int64) (x6 : Int32) (σ : MS) (H : Heap) (locs : List Loc) (ls : Array Slot), k98 (x1, x2, x3, x4, x6, σ) = some out → va_P D vwCl (wX1 kc q σ) H → va_D A (wX1 kc q σ) → va_S A s.heap H locs → lv_has ls 11 [(0, .ref (q 0)), (1, .int x1), (2, .int x2), (3, .int x3), (4, .long x4), (6, .int x6)] → W p l e rmX1_test s m args below meth c H locs 0 0 (MQ below (QMi D (tysX1 kc) (wX1 kc q) A out) args s 0 0 A) (F0 m 98 ls [])) (σ : MS) (x1 : Int32) (x2 : Int32) (x3 : Int32) (x4 : Int64) (x6 : Int32) (x7 : Int32) (x8 : Int64) (x10 : Int32) (H : Heap) (locs : List Loc) (ls : Array Slot) (h : fX1_test_L115 σ  k98 x1 x2 x3 x4 x6 x7 x8 x10 = some out) (hP : va_P D vwCl (wX1 kc q σ) H) (hD : va_D A (wX1 kc q σ)) (hS : va_S A s.heap H locs) (hl : lv_has ls 11 [(0, .ref (q 0)), (1, .int x1), (2, .int x2), (3, .int x3), (4, .long x4), (6, .int x6), (7, .int x7), (8, .long x8), (10, .int x10)]) : W p l e rmX1_test s m args below meth c H locs 0 0 (MQ below (QMi D (tysX1 kc) (wX1 kc q) A out) args s 0 0 A) (F0 m 115 ls []) := by
  unfold fX1_test_L115 at h
  exact lp_ind (P := fun t : Int32 × Int32 × Int32 × Int64 × Int32 × Int32 × Int64 × Int32 × MS => ∀ (H : Heap) (locs : List Loc) (ls : Array Slot), va_P D vwCl (wX1 kc q t.2.2.2.2.2.2.2.2) H → va_D A (wX1 kc q t.2.2.2.2.2.2.2.2) → va_S A s.heap H locs → lv_has ls 11 [(0, .ref (q 0)), (1, .int t.1), (2, .int t.2.1), (3, .int t.2.2.1), (4, .long t.2.2.2.1), (6, .int t.2.2.2.2.1), (7, .int t.2.2.2.2.2.1), (8, .long t.2.2.2.2.2.2.1), (10, .int t.2.2.2.2.2.2.2.1)] → W p l e rmX1_test s m args below meth c H locs 0 0 (MQ below (QMi D (tysX1 kc) (wX1 kc q) A out) args s 0 0 A) (F0 m 115 ls [])) (fun k hk t h H locs ls hP hD hS hl => wX1_test_B115 C hA hK k98 hk98 k (fun x1 x2 x3 x4 x6 x7 x8 x10 σ H locs ls h hP hD hS hl => hk (x1, x2, x3, x4, x6, x7, x8, x10, σ) h H locs ls hP hD hS hl) t.2.2.2.2.2.2.2.2 t.1 t.2.1 t.2.2.1 t.2.2.2.1 t.2.2.2.2.1 t.2.2.2.2.2.1 t.2.2.2.2.2.2.1 t.2.2.2.2.2.2.2.1 H locs ls h hP hD hS hl) FU (x1, x2, x3, x4, x6, x7, x8, x10, σ) h H locs ls hP hD hS hl
def fX1_test_B98 (σ : MS)   (k98 : Int32 × Int32 × Int32 × Int64 × Int32 × MS → Option (Int32 × MS)) (x1 : Int32) (x2 : Int32) (x3 : Int32) (x4 : Int64) (x6 : Int32) : Option (Int32 × MS) := (if ((1 : Int32) <<< (x3 &&& 31)) ≤ x6 then (bd (sm_isTested σ (1 : Int32)) fun s2 => ((fX1_kept s2 ((m_notBelow s2).toInt64) ((m_all s2).toInt64)).bind fun o4 => (some (o4.1, o4.2)))) else (fX1_test_L115 σ k98 x1 x2 x3 x4 x6 (0 : Int32) (0 : Int64) (0 : Int32)))
def fX1_test_L98 (σ : MS)   (x1 : Int32) (x2 : Int32) (x3 : Int32) (x4 : Int64) (x6 : Int32) : Option (Int32 × MS) := lp (fun k t => fX1_test_B98 t.2.2.2.2.2   k t.1 t.2.1 t.2.2.1 t.2.2.2.1 t.2.2.2.2.1) FU (x1, x2, x3, x4, x6, σ)
set_option maxHeartbeats 4000000 in
set_option maxRecDepth 100000 in
theorem wX1_test_B98 {p : Program} {l : Launch} {e : Env} {s : State} {m : MethodId} {args : Array Value} {below : List Frame} {meth : Method} {c : Code} {A : Nat → Prop} {D : va_G} {kc : Nat → ClassId} {q : Nat → Nat} {out : Int32 × MS} (C : cxt p s m args meth c RX1 cX1_test 11 (some .int) wsX1_test) (hA : ∀ x, s.heap.size ≤ x → A x) (hK : va_K D vwCl (tysX1 kc) s) (k98 : Int32 × Int32 × Int32 × Int64 × Int32 × MS → Option (Int32 × MS)) (hk98 : ∀ (x1 : Int32) (x2 : Int32) (x3 : Int32) (x4 : Int64) (x6 : Int32) (σ : MS) (H : Heap) (locs : List Loc) (ls : Array Slot), k98 (x1, x2, x3, x4, x6, σ) = some out → va_P D vwCl (wX1 kc q σ) H → va_D A (wX1 kc q σ) → va_S A s.heap H locs → lv_has ls 11 [(0, .ref (q 0)), (1, .int x1), (2, .int x2), (3, .int x3), (4, .long x4), (6, .int x6)] → W p l e rmX1_test s m args below meth c H locs 0 0 (MQ below (QMi D (tysX1 kc) (wX1 kc q) A out) args s 0 0 A) (F0 m 98 ls [])) (σ : MS) (x1 : Int32) (x2 : Int32) (x3 : Int32) (x4 : Int64) (x6 : Int32) (H : Heap) (locs : List Loc) (ls : Array Slot) (h : fX1_test_B98 σ   k98 x1 x2 x3 x4 x6 = some out) (hP : va_P D vwCl (wX1 kc q σ) H) (hD : va_D A (wX1 kc q σ)) (hS : va_S A s.heap H locs) (hl : lv_has ls 11 [(0, .ref (q 0)), (1, .int x1), (2, .int x2), (3, .int x3), (4, .long x4), (6, .int x6)]) : W p l e rmX1_test s m args below meth c H locs 0 0 (MQ below (QMi D (tysX1 kc) (wX1 kc q) A out) args s 0 0 A) (F0 m 98 ls []) := by
  obtain ⟨hx, hb, hr, hml, hown, hts, hlocks⟩ := id C
  unfold fX1_test_B98 at h
  refine lv_iload hx hb dX1_test_98 (lv_at hl 5 rfl) ?_
  refine lv_iconst (v := (1 : Int32)) hx hb dX1_test_100 (by decide) ?_
  refine lv_iload_n hx hb dX1_test_101 rfl (lv_at hl 3 rfl) ?_
  refine lv_ishl hx hb dX1_test_102 ?_
  refine lv_icmp_ge (tgt := 262) hx hb dX1_test_103 (by decide) (fun c1 => ?_) (fun c1 => ?_)
  · replace h := br_p c1 h
    refine lv_aload_n hx hb dX1_test_262 rfl (lv_at hl 0 rfl) ?_
    refine lv_iconst (v := (1 : Int32)) hx hb dX1_test_263 (by decide) ?_
    refine wrX1_isTested (v := (1 : Int32)) hx hb hts hinX1_test hown hK hP hD hS (hts (.fieldLink RX1 154 "ExactSharesModel" "isTested" "Z") (List.mem_of_getElem? (i := 8) rfl)) rfl rfl dX1_test_264 (fun H locs hP hD hS => ?_)
    obtain ⟨s2, e3, h⟩ := bd_e h
    replace hP : va_P D vwCl (wX1 kc q s2) H := by rw [e3]; exact hP
    replace hD : va_D A (wX1 kc q s2) := by rw [e3]; exact hD
    clear e3
    refine lv_aload_n hx hb dX1_test_267 rfl (lv_at hl 0 rfl) ?_
    refine lv_aload_n hx hb dX1_test_268 rfl (lv_at hl 0 rfl) ?_
    refine rdX1_notBelow hx hb hts hinX1_test hown hK hP (hts (.fieldLink RX1 145 "ExactSharesModel" "notBelow" "I") (List.mem_of_getElem? (i := 4) rfl)) dX1_test_269 ?_
    refine lv_i2l (v := ((m_notBelow s2).toInt64)) hx hb dX1_test_272 rfl ?_
    refine lv_aload_n hx hb dX1_test_273 rfl (lv_at hl 0 rfl) ?_
    refine rdX1_all hx hb hts hinX1_test hown hK hP (hts (.fieldLink RX1 148 "ExactSharesModel" "all" "I") (List.mem_of_getElem? (i := 5) rfl)) dX1_test_274 ?_
    refine lv_i2l (v := ((m_all s2).toInt64)) hx hb dX1_test_277 rfl ?_
    obtain ⟨o4, ho5, h⟩ := bi h
    refine caMi (q0 := 0) (As := [.long ((m_notBelow s2).toInt64), .long ((m_all s2).toInt64)]) (rest := []) ⟨hx, hb, hml, hown, hts⟩ (mX1_kept l D kc q s2 ((m_notBelow s2).toInt64) ((m_all s2).toInt64) o4 ho5) (cwV 2 hts gX1_test_X1_kept rfl rfl rfl (by decide +kernel) ⟨Nat.le_of_ble_eq_true rfl, Nat.le_of_ble_eq_true rfl⟩) hK hP hD hS hA rfl rfl rfl rfl hl.1 (Nat.le_of_ble_eq_true rfl) dX1_test_278 ⟨Nat.zero_le _, Nat.zero_le _⟩ (fun H locs hP hD hS => ?_)
    exact reMi (v := o4.1) hx hb hr hlocks hK hP hD hS h dX1_test_281
  · replace h := br_n c1 h
    refine lv_iconst (v := (0 : Int32)) hx hb dX1_test_106 (by decide) ?_
    refine lv_istore (lv' := [(7, .int (0 : Int32)), (0, .ref (q 0)), (1, .int x1), (2, .int x2), (3, .int x3), (4, .long x4), (6, .int x6)]) hx hb dX1_test_107 hl (by decide) rfl (fun ls hl => ?_)
    refine lv_lconst (v := (0 : Int64)) hx hb dX1_test_109 (by decide) ?_
    refine lv_lstore (lv' := [(8, .long (0 : Int64)), (7, .int (0 : Int32)), (0, .ref (q 0)), (1, .int x1), (2, .int x2), (3, .int x3), (4, .long x4), (6, .int x6)]) hx hb dX1_test_110 hl (by decide) rfl (fun ls hl => ?_)
    refine lv_iconst (v := (0 : Int32)) hx hb dX1_test_112 (by decide) ?_
    refine lv_istore (lv' := [(10, .int (0 : Int32)), (8, .long (0 : Int64)), (7, .int (0 : Int32)), (0, .ref (q 0)), (1, .int x1), (2, .int x2), (3, .int x3), (4, .long x4), (6, .int x6)]) hx hb dX1_test_113 hl (by decide) rfl (fun ls hl => ?_)
    exact wX1_test_L115 C hA hK k98 hk98 σ x1 x2 x3 x4 x6 (0 : Int32) (0 : Int64) (0 : Int32) H locs ls h hP hD hS (lv_sub hl [3, 4, 5, 6, 7, 8, 2, 1, 0] rfl)
set_option maxHeartbeats 4000000 in
set_option maxRecDepth 100000 in
theorem wX1_test_L98 {p : Program} {l : Launch} {e : Env} {s : State} {m : MethodId} {args : Array Value} {below : List Frame} {meth : Method} {c : Code} {A : Nat → Prop} {D : va_G} {kc : Nat → ClassId} {q : Nat → Nat} {out : Int32 × MS} (C : cxt p s m args meth c RX1 cX1_test 11 (some .int) wsX1_test) (hA : ∀ x, s.heap.size ≤ x → A x) (hK : va_K D vwCl (tysX1 kc) s) (σ : MS) (x1 : Int32) (x2 : Int32) (x3 : Int32) (x4 : Int64) (x6 : Int32) (H : Heap) (locs : List Loc) (ls : Array Slot) (h : fX1_test_L98 σ   x1 x2 x3 x4 x6 = some out) (hP : va_P D vwCl (wX1 kc q σ) H) (hD : va_D A (wX1 kc q σ)) (hS : va_S A s.heap H locs) (hl : lv_has ls 11 [(0, .ref (q 0)), (1, .int x1), (2, .int x2), (3, .int x3), (4, .long x4), (6, .int x6)]) : W p l e rmX1_test s m args below meth c H locs 0 0 (MQ below (QMi D (tysX1 kc) (wX1 kc q) A out) args s 0 0 A) (F0 m 98 ls []) := by
  unfold fX1_test_L98 at h
  exact lp_ind (P := fun t : Int32 × Int32 × Int32 × Int64 × Int32 × MS => ∀ (H : Heap) (locs : List Loc) (ls : Array Slot), va_P D vwCl (wX1 kc q t.2.2.2.2.2) H → va_D A (wX1 kc q t.2.2.2.2.2) → va_S A s.heap H locs → lv_has ls 11 [(0, .ref (q 0)), (1, .int t.1), (2, .int t.2.1), (3, .int t.2.2.1), (4, .long t.2.2.2.1), (6, .int t.2.2.2.2.1)] → W p l e rmX1_test s m args below meth c H locs 0 0 (MQ below (QMi D (tysX1 kc) (wX1 kc q) A out) args s 0 0 A) (F0 m 98 ls [])) (fun k hk t h H locs ls hP hD hS hl => wX1_test_B98 C hA hK  k (fun x1 x2 x3 x4 x6 σ H locs ls h hP hD hS hl => hk (x1, x2, x3, x4, x6, σ) h H locs ls hP hD hS hl) t.2.2.2.2.2 t.1 t.2.1 t.2.2.1 t.2.2.2.1 t.2.2.2.2.1 H locs ls h hP hD hS hl) FU (x1, x2, x3, x4, x6, σ) h H locs ls hP hD hS hl
def fX1_test (σ : MS)  (x1 : Int32) (x2 : Int32) : Option (Int32 × MS) := (bd (sm_thrown σ (0 : Int32)) fun s1 => ((fX1_isRow x1).bind fun o3 => (if o3 = (0 : Int32) then (some ((-1 : Int32), s1)) else ((fX1_isRow x2).bind fun o6 => (if o6 = (0 : Int32) then (some ((-1 : Int32), s1)) else (if x1 = x2 then (some ((-1 : Int32), s1)) else (if ix x1 4 = true then (if ((m_many s1) x1.toNatClampNeg) = (0 : Int32) then (some ((-5 : Int32), s1)) else (if ix x2 4 = true then (if ((m_many s1) x2.toNatClampNeg) = (0 : Int32) then (some ((-5 : Int32), s1)) else (if (m_numbers s1) = (40 : Int32) then (some ((-4 : Int32), s1)) else (if ix x1 4 = true then (if ix x2 4 = true then ((fX1_sumOf s1 x1).bind fun o17 => (bd (sm_notBelow s1 (0 : Int32)) fun s19 => (bd (sm_all s19 (0 : Int32)) fun s21 => (bd (sm_just s21 (0 : Int32)) fun s23 => (fX1_test_L98 s23 x1 x2 (((m_many s1) x1.toNatClampNeg) + ((m_many s1) x2.toNatClampNeg)) o17 (0 : Int32)))))) else none) else none))) else none)) else none)))))))
set_option maxHeartbeats 4000000 in
set_option maxRecDepth 100000 in
theorem mX1_test (l : Launch) (D : va_G) (kc : Nat → ClassId) (q : Nat → Nat) (σ : MS) (x1 : Int32) (x2 : Int32) (out : Int32 × MS) (h : fX1_test σ  x1 x2 = some out) : MMi l yX1_test wsX1_test rmX1_test D (tysX1 kc) (wX1 kc q) σ [.ref (q 0), .int x1, .int x2] out := by
  refine ofMi (cc := cX1_test) (maxL := 11) (ret := (some .int)) (lv := [(0, .ref (q 0)), (1, .int x1), (2, .int x2)]) (by decide) rfl (Nat.le_of_ble_eq_true rfl) rfl ?_
  intro p e s m args below meth c A C hA hK hP hD hS ls hl
  have C : cxt p s m args meth c RX1 cX1_test 11 (some .int) wsX1_test := C
  obtain ⟨hx, hb, hr, hml, hown, hts, hlocks⟩ := id C
  obtain ⟨H, hH⟩ : ∃ H, H = s.heap := ⟨_, rfl⟩
  obtain ⟨locs, hlocs⟩ : ∃ locs : List Loc, locs = [] := ⟨_, rfl⟩
  have hS : va_S A s.heap H locs := by rw [hH, hlocs]; exact va_S.rf
  rw [← hH] at hP
  suffices hW : W p l e rmX1_test s m args below meth c H locs 0 0 _ (F0 m 0 ls []) by rw [hH, hlocs] at hW; exact hW
  unfold fX1_test at h
  refine lv_aload_n hx hb dX1_test_0 rfl (lv_at hl 0 rfl) ?_
  refine lv_iconst (v := (0 : Int32)) hx hb dX1_test_1 (by decide) ?_
  refine wrX1_thrown (v := (0 : Int32)) hx hb hts hinX1_test hown hK hP hD hS (hts (.fieldLink RX1 43 "ExactSharesModel" "thrown" "I") (List.mem_of_getElem? (i := 1) rfl)) dX1_test_2 (fun H locs hP hD hS => ?_)
  obtain ⟨s1, e2, h⟩ := bd_e h
  replace hP : va_P D vwCl (wX1 kc q s1) H := by rw [e2]; exact hP
  replace hD : va_D A (wX1 kc q s1) := by rw [e2]; exact hD
  clear e2
  refine lv_iload_n hx hb dX1_test_5 rfl (lv_at hl 1 rfl) ?_
  obtain ⟨o3, ho4, h⟩ := bi h
  refine caPi (As := [.int x1]) (rest := []) ⟨hx, hb, hml, hown, hts⟩ (mX1_isRow l x1 o3 ho4) (va_cwS 1 hts gX1_test_X1_isRow rfl rfl rfl (by decide +kernel) ⟨Nat.le_of_ble_eq_true rfl, Nat.le_of_ble_eq_true rfl⟩) rfl hl.1 (Nat.le_of_ble_eq_true rfl) dX1_test_6 ⟨Nat.zero_le _, Nat.zero_le _⟩ ?_
  refine lv_if_eq (tgt := 24) hx hb dX1_test_9 (by decide) (fun c5 => ?_) (fun c5 => ?_)
  · replace h := br_p c5 h
    refine lv_iconst (v := (-1 : Int32)) hx hb dX1_test_24 (by decide) ?_
    exact reMi (v := (-1 : Int32)) hx hb hr hlocks hK hP hD hS h dX1_test_25
  · replace h := br_n c5 h
    refine lv_iload_n hx hb dX1_test_12 rfl (lv_at hl 2 rfl) ?_
    obtain ⟨o6, ho7, h⟩ := bi h
    refine caPi (As := [.int x2]) (rest := []) ⟨hx, hb, hml, hown, hts⟩ (mX1_isRow l x2 o6 ho7) (va_cwS 1 hts gX1_test_X1_isRow rfl rfl rfl (by decide +kernel) ⟨Nat.le_of_ble_eq_true rfl, Nat.le_of_ble_eq_true rfl⟩) rfl hl.1 (Nat.le_of_ble_eq_true rfl) dX1_test_13 ⟨Nat.zero_le _, Nat.zero_le _⟩ ?_
    refine lv_if_eq (tgt := 24) hx hb dX1_test_16 (by decide) (fun c8 => ?_) (fun c8 => ?_)
    · replace h := br_p c8 h
      refine lv_iconst (v := (-1 : Int32)) hx hb dX1_test_24 (by decide) ?_
      exact reMi (v := (-1 : Int32)) hx hb hr hlocks hK hP hD hS h dX1_test_25
    · replace h := br_n c8 h
      refine lv_iload_n hx hb dX1_test_19 rfl (lv_at hl 1 rfl) ?_
      refine lv_iload_n hx hb dX1_test_20 rfl (lv_at hl 2 rfl) ?_
      refine lv_icmp_ne (tgt := 26) hx hb dX1_test_21 (by decide) (fun c9 => ?_) (fun c9 => ?_)
      · replace h := br_n c9 h
        refine lv_aload_n hx hb dX1_test_26 rfl (lv_at hl 0 rfl) ?_
        refine rdX1_many hx hb hts hinX1_test hown hK hP (hts (.fieldLink RX1 19 "ExactSharesModel" "many" "[I") (List.mem_of_getElem? (i := 2) rfl)) dX1_test_27 ?_
        refine lv_iload_n hx hb dX1_test_30 rfl (lv_at hl 1 rfl) ?_
        obtain ⟨g10, h⟩ := gd_t h
        refine ldX1_many hx hb hK hP g10 dX1_test_31 ?_
        refine lv_if_eq (tgt := 44) hx hb dX1_test_32 (by decide) (fun c11 => ?_) (fun c11 => ?_)
        · replace h := br_p c11 h
          refine lv_bipush (v := (-5 : Int32)) hx hb dX1_test_44 (by decide) ?_
          exact reMi (v := (-5 : Int32)) hx hb hr hlocks hK hP hD hS h dX1_test_46
        · replace h := br_n c11 h
          refine lv_aload_n hx hb dX1_test_35 rfl (lv_at hl 0 rfl) ?_
          refine rdX1_many hx hb hts hinX1_test hown hK hP (hts (.fieldLink RX1 19 "ExactSharesModel" "many" "[I") (List.mem_of_getElem? (i := 2) rfl)) dX1_test_36 ?_
          refine lv_iload_n hx hb dX1_test_39 rfl (lv_at hl 2 rfl) ?_
          obtain ⟨g12, h⟩ := gd_t h
          refine ldX1_many hx hb hK hP g12 dX1_test_40 ?_
          refine lv_if_ne (tgt := 47) hx hb dX1_test_41 (by decide) (fun c13 => ?_) (fun c13 => ?_)
          · replace h := br_n c13 h
            refine lv_aload_n hx hb dX1_test_47 rfl (lv_at hl 0 rfl) ?_
            refine rdX1_numbers hx hb hts hinX1_test hown hK hP (hts (.fieldLink RX1 56 "ExactSharesModel" "numbers" "I") (List.mem_of_getElem? (i := 3) rfl)) dX1_test_48 ?_
            refine lv_bipush (v := (40 : Int32)) hx hb dX1_test_51 (by decide) ?_
            refine lv_icmp_ne (tgt := 59) hx hb dX1_test_53 (by decide) (fun c14 => ?_) (fun c14 => ?_)
            · replace h := br_n c14 h
              refine lv_aload_n hx hb dX1_test_59 rfl (lv_at hl 0 rfl) ?_
              refine rdX1_many hx hb hts hinX1_test hown hK hP (hts (.fieldLink RX1 19 "ExactSharesModel" "many" "[I") (List.mem_of_getElem? (i := 2) rfl)) dX1_test_60 ?_
              refine lv_iload_n hx hb dX1_test_63 rfl (lv_at hl 1 rfl) ?_
              obtain ⟨g15, h⟩ := gd_t h
              refine ldX1_many hx hb hK hP g15 dX1_test_64 ?_
              refine lv_aload_n hx hb dX1_test_65 rfl (lv_at hl 0 rfl) ?_
              refine rdX1_many hx hb hts hinX1_test hown hK hP (hts (.fieldLink RX1 19 "ExactSharesModel" "many" "[I") (List.mem_of_getElem? (i := 2) rfl)) dX1_test_66 ?_
              refine lv_iload_n hx hb dX1_test_69 rfl (lv_at hl 2 rfl) ?_
              obtain ⟨g16, h⟩ := gd_t h
              refine ldX1_many hx hb hK hP g16 dX1_test_70 ?_
              refine lv_iadd hx hb dX1_test_71 ?_
              refine lv_istore_n (lv' := [(3, .int (((m_many s1) x1.toNatClampNeg) + ((m_many s1) x2.toNatClampNeg))), (0, .ref (q 0)), (1, .int x1), (2, .int x2)]) hx hb dX1_test_72 rfl hl (by decide) rfl (fun ls hl => ?_)
              refine lv_aload_n hx hb dX1_test_73 rfl (lv_at hl 1 rfl) ?_
              refine lv_iload_n hx hb dX1_test_74 rfl (lv_at hl 2 rfl) ?_
              obtain ⟨o17, ho18, h⟩ := bi h
              refine caRl (q0 := 0) (As := [.int x1]) (rest := []) ⟨hx, hb, hml, hown, hts⟩ (mX1_sumOf l D kc q s1 x1 o17 ho18) (cwV 1 hts gX1_test_X1_sumOf rfl rfl rfl (by decide +kernel) ⟨Nat.le_of_ble_eq_true rfl, Nat.le_of_ble_eq_true rfl⟩) hK hP rfl rfl rfl rfl hl.1 (Nat.le_of_ble_eq_true rfl) dX1_test_75 ⟨Nat.zero_le _, Nat.zero_le _⟩ ?_
              refine lv_lstore (lv' := [(4, .long o17), (3, .int (((m_many s1) x1.toNatClampNeg) + ((m_many s1) x2.toNatClampNeg))), (0, .ref (q 0)), (1, .int x1), (2, .int x2)]) hx hb dX1_test_78 hl (by decide) rfl (fun ls hl => ?_)
              refine lv_aload_n hx hb dX1_test_80 rfl (lv_at hl 2 rfl) ?_
              refine lv_iconst (v := (0 : Int32)) hx hb dX1_test_81 (by decide) ?_
              refine wrX1_notBelow (v := (0 : Int32)) hx hb hts hinX1_test hown hK hP hD hS (hts (.fieldLink RX1 145 "ExactSharesModel" "notBelow" "I") (List.mem_of_getElem? (i := 4) rfl)) dX1_test_82 (fun H locs hP hD hS => ?_)
              obtain ⟨s19, e20, h⟩ := bd_e h
              replace hP : va_P D vwCl (wX1 kc q s19) H := by rw [e20]; exact hP
              replace hD : va_D A (wX1 kc q s19) := by rw [e20]; exact hD
              clear e20
              refine lv_aload_n hx hb dX1_test_85 rfl (lv_at hl 2 rfl) ?_
              refine lv_iconst (v := (0 : Int32)) hx hb dX1_test_86 (by decide) ?_
              refine wrX1_all (v := (0 : Int32)) hx hb hts hinX1_test hown hK hP hD hS (hts (.fieldLink RX1 148 "ExactSharesModel" "all" "I") (List.mem_of_getElem? (i := 5) rfl)) dX1_test_87 (fun H locs hP hD hS => ?_)
              obtain ⟨s21, e22, h⟩ := bd_e h
              replace hP : va_P D vwCl (wX1 kc q s21) H := by rw [e22]; exact hP
              replace hD : va_D A (wX1 kc q s21) := by rw [e22]; exact hD
              clear e22
              refine lv_aload_n hx hb dX1_test_90 rfl (lv_at hl 2 rfl) ?_
              refine lv_iconst (v := (0 : Int32)) hx hb dX1_test_91 (by decide) ?_
              refine wrX1_just (v := (0 : Int32)) hx hb hts hinX1_test hown hK hP hD hS (hts (.fieldLink RX1 151 "ExactSharesModel" "just" "I") (List.mem_of_getElem? (i := 6) rfl)) dX1_test_92 (fun H locs hP hD hS => ?_)
              obtain ⟨s23, e24, h⟩ := bd_e h
              replace hP : va_P D vwCl (wX1 kc q s23) H := by rw [e24]; exact hP
              replace hD : va_D A (wX1 kc q s23) := by rw [e24]; exact hD
              clear e24
              refine lv_iconst (v := (0 : Int32)) hx hb dX1_test_95 (by decide) ?_
              refine lv_istore (lv' := [(6, .int (0 : Int32)), (4, .long o17), (3, .int (((m_many s1) x1.toNatClampNeg) + ((m_many s1) x2.toNatClampNeg))), (0, .ref (q 0)), (1, .int x1), (2, .int x2)]) hx hb dX1_test_96 hl (by decide) rfl (fun ls hl => ?_)
              exact wX1_test_L98 C hA hK  s23 x1 x2 (((m_many s1) x1.toNatClampNeg) + ((m_many s1) x2.toNatClampNeg)) o17 (0 : Int32) H locs ls h hP hD hS (lv_sub hl [3, 4, 5, 2, 1, 0] rfl)
            · replace h := br_p c14 h
              refine lv_bipush (v := (-4 : Int32)) hx hb dX1_test_56 (by decide) ?_
              exact reMi (v := (-4 : Int32)) hx hb hr hlocks hK hP hD hS h dX1_test_58
          · replace h := br_p c13 h
            refine lv_bipush (v := (-5 : Int32)) hx hb dX1_test_44 (by decide) ?_
            exact reMi (v := (-5 : Int32)) hx hb hr hlocks hK hP hD hS h dX1_test_46
      · replace h := br_p c9 h
        refine lv_iconst (v := (-1 : Int32)) hx hb dX1_test_24 (by decide) ?_
        exact reMi (v := (-1 : Int32)) hx hb hr hlocks hK hP hD hS h dX1_test_25
