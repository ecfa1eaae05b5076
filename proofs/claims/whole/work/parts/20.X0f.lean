abbrev rmX0_countSeated : Room := { frames := 0, cells := 0, slots := 0, locals := 0 }
theorem hinX0_countSeated : ∀ w ∈ u_ws RX0 TX0 13, w ∈ wsX0_countSeated := by first | exact fun _ h => List.mem_cons_of_mem _ (List.mem_append_right _ h) | exact fun _ h => List.mem_cons_of_mem _ (List.mem_append_left _ (List.mem_append_right _ h)) | decide +kernel
def fX0_countSeated_L24 (σ : CS)  (k4 : Int32 × Int32 → Option (Int32)) (x1 : Int32) (x2 : Int32) : Option (Int32) := (k4 (x1, (x2 + (1 : Int32))))
set_option maxHeartbeats 4000000 in
set_option maxRecDepth 100000 in
theorem wX0_countSeated_L24 {p : Program} {l : Launch} {e : Env} {s : State} {m : MethodId} {args : Array Value} {below : List Frame} {meth : Method} {c : Code} {D : va_G} {kc : Nat → ClassId} {q : Nat → Nat} {out : Int32} (C : cxt p s m args meth c RX0 cX0_countSeated 3 (some .int) wsX0_countSeated) (hK : va_K D vwCl (tysX0 kc) s) {σ : CS} (k4 : Int32 × Int32 → Option (Int32)) (hk4 : ∀ (x1 : Int32) (x2 : Int32) (ls : Array Slot), k4 (x1, x2) = some out → lv_has ls 3 [(0, .ref (q 0)), (1, .int x1), (2, .int x2)] → W p l e rmX0_countSeated s m args below meth c s.heap [] 0 0 (MQ below (QRi out) args s 0 0 (fun _ => False)) (F0 m 4 ls [])) (x1 : Int32) (x2 : Int32) (ls : Array Slot) (h : fX0_countSeated_L24 σ  k4 x1 x2 = some out) (hP : va_P D vwCl (wX0 kc q σ) s.heap) (hl : lv_has ls 3 [(0, .ref (q 0)), (1, .int x1), (2, .int x2)]) : W p l e rmX0_countSeated s m args below meth c s.heap [] 0 0 (MQ below (QRi out) args s 0 0 (fun _ => False)) (F0 m 24 ls []) := by
  obtain ⟨hx, hb, hr, hml, hown, hts, hlocks⟩ := id C
  unfold fX0_countSeated_L24 at h
  refine lv_iinc (v := (x2 + (1 : Int32))) (lv' := [(2, .int (x2 + (1 : Int32))), (0, .ref (q 0)), (1, .int x1)]) hx hb dX0_countSeated_24 hl (k := 2) rfl rfl (by decide) rfl (fun ls hl => ?_)
  refine lv_goto (tgt := 4) hx hb dX0_countSeated_27 (by decide) ?_
  exact hk4 x1 (x2 + (1 : Int32)) ls h (lv_sub hl [1, 2, 0] rfl)
def fX0_countSeated_B4 (σ : CS)   (k4 : Int32 × Int32 → Option (Int32)) (x1 : Int32) (x2 : Int32) : Option (Int32) := (if (c_seatsGivenTo σ) ≤ x2 then (some x1) else (if ix x2 8 = true then (if ((c_seatsGiven σ) x2.toNatClampNeg) ≤ (0 : Int32) then (fX0_countSeated_L24 σ k4 x1 x2) else (fX0_countSeated_L24 σ k4 (x1 + (1 : Int32)) x2)) else none))
def fX0_countSeated_L4 (σ : CS)   (x1 : Int32) (x2 : Int32) : Option (Int32) := lp (fun k t => fX0_countSeated_B4 σ   k t.1 t.2) FU (x1, x2)
set_option maxHeartbeats 4000000 in
set_option maxRecDepth 100000 in
theorem wX0_countSeated_B4 {p : Program} {l : Launch} {e : Env} {s : State} {m : MethodId} {args : Array Value} {below : List Frame} {meth : Method} {c : Code} {D : va_G} {kc : Nat → ClassId} {q : Nat → Nat} {out : Int32} (C : cxt p s m args meth c RX0 cX0_countSeated 3 (some .int) wsX0_countSeated) (hK : va_K D vwCl (tysX0 kc) s) {σ : CS} (k4 : Int32 × Int32 → Option (Int32)) (hk4 : ∀ (x1 : Int32) (x2 : Int32) (ls : Array Slot), k4 (x1, x2) = some out → lv_has ls 3 [(0, .ref (q 0)), (1, .int x1), (2, .int x2)] → W p l e rmX0_countSeated s m args below meth c s.heap [] 0 0 (MQ below (QRi out) args s 0 0 (fun _ => False)) (F0 m 4 ls [])) (x1 : Int32) (x2 : Int32) (ls : Array Slot) (h : fX0_countSeated_B4 σ   k4 x1 x2 = some out) (hP : va_P D vwCl (wX0 kc q σ) s.heap) (hl : lv_has ls 3 [(0, .ref (q 0)), (1, .int x1), (2, .int x2)]) : W p l e rmX0_countSeated s m args below meth c s.heap [] 0 0 (MQ below (QRi out) args s 0 0 (fun _ => False)) (F0 m 4 ls []) := by
  obtain ⟨hx, hb, hr, hml, hown, hts, hlocks⟩ := id C
  unfold fX0_countSeated_B4 at h
  refine lv_iload_n hx hb dX0_countSeated_4 rfl (lv_at hl 2 rfl) ?_
  refine lv_aload_n hx hb dX0_countSeated_5 rfl (lv_at hl 0 rfl) ?_
  refine rdX0_seatsGivenTo hx hb hts hinX0_countSeated hown hK hP (hts (.fieldLink RX0 116 "ExactShares" "seatsGivenTo" "I") (List.mem_of_getElem? (i := 1) rfl)) dX0_countSeated_6 ?_
  refine lv_icmp_ge (tgt := 30) hx hb dX0_countSeated_9 (by decide) (fun c1 => ?_) (fun c1 => ?_)
  · replace h := br_p c1 h
    refine lv_iload_n hx hb dX0_countSeated_30 rfl (lv_at hl 1 rfl) ?_
    exact reRi (v := x1) hx hb hr hlocks h dX0_countSeated_31
  · replace h := br_n c1 h
    refine lv_aload_n hx hb dX0_countSeated_12 rfl (lv_at hl 0 rfl) ?_
    refine rdX0_seatsGiven hx hb hts hinX0_countSeated hown hK hP (hts (.fieldLink RX0 27 "ExactShares" "seatsGiven" "[I") (List.mem_of_getElem? (i := 2) rfl)) dX0_countSeated_13 ?_
    refine lv_iload_n hx hb dX0_countSeated_16 rfl (lv_at hl 2 rfl) ?_
    obtain ⟨g2, h⟩ := gd_t h
    refine ldX0_seatsGiven hx hb hK hP g2 dX0_countSeated_17 ?_
    refine lv_if_le (tgt := 24) hx hb dX0_countSeated_18 (by decide) (fun c3 => ?_) (fun c3 => ?_)
    · replace h := br_p c3 h
      exact wX0_countSeated_L24 C hK k4 hk4 x1 x2 ls h hP (lv_sub hl [0, 1, 2] rfl)
    · replace h := br_n c3 h
      refine lv_iinc (v := (x1 + (1 : Int32))) (lv' := [(1, .int (x1 + (1 : Int32))), (0, .ref (q 0)), (2, .int x2)]) hx hb dX0_countSeated_21 hl (k := 1) rfl rfl (by decide) rfl (fun ls hl => ?_)
      exact wX0_countSeated_L24 C hK k4 hk4 (x1 + (1 : Int32)) x2 ls h hP (lv_sub hl [1, 0, 2] rfl)
set_option maxHeartbeats 4000000 in
set_option maxRecDepth 100000 in
theorem wX0_countSeated_L4 {p : Program} {l : Launch} {e : Env} {s : State} {m : MethodId} {args : Array Value} {below : List Frame} {meth : Method} {c : Code} {D : va_G} {kc : Nat → ClassId} {q : Nat → Nat} {out : Int32} (C : cxt p s m args meth c RX0 cX0_countSeated 3 (some .int) wsX0_countSeated) (hK : va_K D vwCl (tysX0 kc) s) {σ : CS} (x1 : Int32) (x2 : Int32) (ls : Array Slot) (h : fX0_countSeated_L4 σ   x1 x2 = some out) (hP : va_P D vwCl (wX0 kc q σ) s.heap) (hl : lv_has ls 3 [(0, .ref (q 0)), (1, .int x1), (2, .int x2)]) : W p l e rmX0_countSeated s m args below meth c s.heap [] 0 0 (MQ below (QRi out) args s 0 0 (fun _ => False)) (F0 m 4 ls []) := by
  unfold fX0_countSeated_L4 at h
  exact lp_ind (P := fun t : Int32 × Int32 => ∀ ls : Array Slot, lv_has ls 3 [(0, .ref (q 0)), (1, .int t.1), (2, .int t.2)] → W p l e rmX0_countSeated s m args below meth c s.heap [] 0 0 (MQ below (QRi out) args s 0 0 (fun _ => False)) (F0 m 4 ls [])) (fun k hk t h ls hl => wX0_countSeated_B4 C hK  k (fun x1 x2 ls h hl => hk (x1, x2) h ls hl) t.1 t.2 ls h hP hl) FU (x1, x2) h ls hl
def fX0_countSeated (σ : CS)   : Option (Int32) := (fX0_countSeated_L4 σ (0 : Int32) (0 : Int32))
set_option maxHeartbeats 4000000 in
set_option maxRecDepth 100000 in
theorem mX0_countSeated (l : Launch) (D : va_G) (kc : Nat → ClassId) (q : Nat → Nat) (σ : CS)  (out : Int32) (h : fX0_countSeated σ   = some out) : MRi l yX0_countSeated wsX0_countSeated rmX0_countSeated D (tysX0 kc) (wX0 kc q σ) [.ref (q 0)] out := by
  refine ofRi (cc := cX0_countSeated) (maxL := 3) (ret := (some .int)) (lv := [(0, .ref (q 0))]) (by decide) rfl (Nat.le_of_ble_eq_true rfl) rfl ?_
  intro p e s m args below meth c C hK hP ls hl
  have C : cxt p s m args meth c RX0 cX0_countSeated 3 (some .int) wsX0_countSeated := C
  obtain ⟨hx, hb, hr, hml, hown, hts, hlocks⟩ := id C
  unfold fX0_countSeated at h
  refine lv_iconst (v := (0 : Int32)) hx hb dX0_countSeated_0 (by decide) ?_
  refine lv_istore_n (lv' := [(1, .int (0 : Int32)), (0, .ref (q 0))]) hx hb dX0_countSeated_1 rfl hl (by decide) rfl (fun ls hl => ?_)
  refine lv_iconst (v := (0 : Int32)) hx hb dX0_countSeated_2 (by decide) ?_
  refine lv_istore_n (lv' := [(2, .int (0 : Int32)), (1, .int (0 : Int32)), (0, .ref (q 0))]) hx hb dX0_countSeated_3 rfl hl (by decide) rfl (fun ls hl => ?_)
  exact wX0_countSeated_L4 C hK  (0 : Int32) (0 : Int32) ls h hP (lv_sub hl [2, 1, 0] rfl)
abbrev rmX0_seats : Room := { frames := 2, cells := 0, slots := 0, locals := 49 }
theorem hinX0_seats : ∀ w ∈ u_ws RX0 TX0 13, w ∈ wsX0_seats := by first | exact fun _ h => List.mem_cons_of_mem _ (List.mem_append_right _ h) | exact fun _ h => List.mem_cons_of_mem _ (List.mem_append_left _ (List.mem_append_right _ h)) | decide +kernel
def fX0_seats_L88 (σ : CS)    : Option (Int32 × CS) := ((fX0_countSeated σ).bind fun o1 => (some (o1, σ)))
set_option maxHeartbeats 4000000 in
set_option maxRecDepth 100000 in
theorem wX0_seats_L88 {p : Program} {l : Launch} {e : Env} {s : State} {m : MethodId} {args : Array Value} {below : List Frame} {meth : Method} {c : Code} {A : Nat → Prop} {D : va_G} {kc : Nat → ClassId} {q : Nat → Nat} {out : Int32 × CS} (C : cxt p s m args meth c RX0 cX0_seats 6 (some .int) wsX0_seats) (hA : ∀ x, s.heap.size ≤ x → A x) (hK : va_K D vwCl (tysX0 kc) s) (σ : CS)  (H : Heap) (locs : List Loc) (ls : Array Slot) (h : fX0_seats_L88 σ    = some out) (hP : va_P D vwCl (wX0 kc q σ) H) (hD : va_D A (wX0 kc q σ)) (hS : va_S A s.heap H locs) (hl : lv_has ls 6 [(0, .ref (q 0))]) : W p l e rmX0_seats s m args below meth c H locs 0 0 (MQ below (QMi D (tysX0 kc) (wX0 kc q) A out) args s 0 0 A) (F0 m 88 ls []) := by
  obtain ⟨hx, hb, hr, hml, hown, hts, hlocks⟩ := id C
  unfold fX0_seats_L88 at h
  refine lv_aload_n hx hb dX0_seats_88 rfl (lv_at hl 0 rfl) ?_
  obtain ⟨o1, ho2, h⟩ := bi h
  refine caRi (q0 := 0) (As := []) (rest := []) ⟨hx, hb, hml, hown, hts⟩ (mX0_countSeated l D kc q σ  o1 ho2) (cwV 0 hts gX0_seats_X0_countSeated rfl rfl rfl (by decide +kernel) ⟨Nat.le_of_ble_eq_true rfl, Nat.le_of_ble_eq_true rfl⟩) hK hP rfl rfl rfl rfl hl.1 (Nat.le_of_ble_eq_true rfl) dX0_seats_89 ⟨Nat.zero_le _, Nat.zero_le _⟩ ?_
  exact reMi (v := o1) hx hb hr hlocks hK hP hD hS h dX0_seats_92
def fX0_seats (σ : CS)  (x1 : Int32) (x2 : Int32) (x3 : Int32) : Option (Int32 × CS) := ((fX0_isRow x1).bind fun o1 => (if o1 = (0 : Int32) then (some ((-1 : Int32), σ)) else (if x2 < (0 : Int32) then (some ((-1 : Int32), σ)) else (if (2000 : Int32) < x2 then (some ((-1 : Int32), σ)) else (if x3 < (0 : Int32) then (some ((-1 : Int32), σ)) else (if x3 ≤ (2 : Int32) then ((fX0_sumOf σ x1).bind fun o8 => (if o8 = (0 : Int64) then (some ((-2 : Int32), σ)) else (if ix x1 4 = true then (bd (sc_seatsGivenTo σ ((c_sizes σ) x1.toNatClampNeg)) fun s12 => (if x3 = (0 : Int32) then (if ix x1 4 = true then ((fX0_giveByRemainders s12 x1.toNatClampNeg x2 o8).bind fun o19 => (fX0_seats_L88 o19)) else none) else (if ix x1 4 = true then ((fX0_giveOneByOne s12 x1.toNatClampNeg x2 x3).bind fun o16 => (fX0_seats_L88 o16)) else none))) else none))) else (some ((-1 : Int32), σ))))))))
set_option maxHeartbeats 4000000 in
set_option maxRecDepth 100000 in
theorem mX0_seats (l : Launch) (D : va_G) (kc : Nat → ClassId) (q : Nat → Nat) (σ : CS) (x1 : Int32) (x2 : Int32) (x3 : Int32) (out : Int32 × CS) (h : fX0_seats σ  x1 x2 x3 = some out) : MMi l yX0_seats wsX0_seats rmX0_seats D (tysX0 kc) (wX0 kc q) σ [.ref (q 0), .int x1, .int x2, .int x3] out := by
  refine ofMi (cc := cX0_seats) (maxL := 6) (ret := (some .int)) (lv := [(0, .ref (q 0)), (1, .int x1), (2, .int x2), (3, .int x3)]) (by decide) rfl (Nat.le_of_ble_eq_true rfl) rfl ?_
  intro p e s m args below meth c A C hA hK hP hD hS ls hl
  have C : cxt p s m args meth c RX0 cX0_seats 6 (some .int) wsX0_seats := C
  obtain ⟨hx, hb, hr, hml, hown, hts, hlocks⟩ := id C
  obtain ⟨H, hH⟩ : ∃ H, H = s.heap := ⟨_, rfl⟩
  obtain ⟨locs, hlocs⟩ : ∃ locs : List Loc, locs = [] := ⟨_, rfl⟩
  have hS : va_S A s.heap H locs := by rw [hH, hlocs]; exact va_S.rf
  rw [← hH] at hP
  suffices hW : W p l e rmX0_seats s m args below meth c H locs 0 0 _ (F0 m 0 ls []) by rw [hH, hlocs] at hW; exact hW
  unfold fX0_seats at h
  refine lv_iload_n hx hb dX0_seats_0 rfl (lv_at hl 1 rfl) ?_
  obtain ⟨o1, ho2, h⟩ := bi h
  refine caPi (As := [.int x1]) (rest := []) ⟨hx, hb, hml, hown, hts⟩ (mX0_isRow l x1 o1 ho2) (va_cwS 1 hts gX0_seats_X0_isRow rfl rfl rfl (by decide +kernel) ⟨Nat.le_of_ble_eq_true rfl, Nat.le_of_ble_eq_true rfl⟩) rfl hl.1 (Nat.le_of_ble_eq_true rfl) dX0_seats_1 ⟨Nat.zero_le _, Nat.zero_le _⟩ ?_
  refine lv_if_eq (tgt := 27) hx hb dX0_seats_4 (by decide) (fun c3 => ?_) (fun c3 => ?_)
  · replace h := br_p c3 h
    refine lv_iconst (v := (-1 : Int32)) hx hb dX0_seats_27 (by decide) ?_
    exact reMi (v := (-1 : Int32)) hx hb hr hlocks hK hP hD hS h dX0_seats_28
  · replace h := br_n c3 h
    refine lv_iload_n hx hb dX0_seats_7 rfl (lv_at hl 2 rfl) ?_
    refine lv_if_lt (tgt := 27) hx hb dX0_seats_8 (by decide) (fun c4 => ?_) (fun c4 => ?_)
    · replace h := br_p c4 h
      refine lv_iconst (v := (-1 : Int32)) hx hb dX0_seats_27 (by decide) ?_
      exact reMi (v := (-1 : Int32)) hx hb hr hlocks hK hP hD hS h dX0_seats_28
    · replace h := br_n c4 h
      refine lv_iload_n hx hb dX0_seats_11 rfl (lv_at hl 2 rfl) ?_
      refine lv_sipush (v := (2000 : Int32)) hx hb dX0_seats_12 (by decide) ?_
      refine lv_icmp_gt (tgt := 27) hx hb dX0_seats_15 (by decide) (fun c5 => ?_) (fun c5 => ?_)
      · replace h := br_p c5 h
        refine lv_iconst (v := (-1 : Int32)) hx hb dX0_seats_27 (by decide) ?_
        exact reMi (v := (-1 : Int32)) hx hb hr hlocks hK hP hD hS h dX0_seats_28
      · replace h := br_n c5 h
        refine lv_iload_n hx hb dX0_seats_18 rfl (lv_at hl 3 rfl) ?_
        refine lv_if_lt (tgt := 27) hx hb dX0_seats_19 (by decide) (fun c6 => ?_) (fun c6 => ?_)
        · replace h := br_p c6 h
          refine lv_iconst (v := (-1 : Int32)) hx hb dX0_seats_27 (by decide) ?_
          exact reMi (v := (-1 : Int32)) hx hb hr hlocks hK hP hD hS h dX0_seats_28
        · replace h := br_n c6 h
          refine lv_iload_n hx hb dX0_seats_22 rfl (lv_at hl 3 rfl) ?_
          refine lv_iconst (v := (2 : Int32)) hx hb dX0_seats_23 (by decide) ?_
          refine lv_icmp_le (tgt := 29) hx hb dX0_seats_24 (by decide) (fun c7 => ?_) (fun c7 => ?_)
          · replace h := br_p c7 h
            refine lv_aload_n hx hb dX0_seats_29 rfl (lv_at hl 0 rfl) ?_
            refine lv_iload_n hx hb dX0_seats_30 rfl (lv_at hl 1 rfl) ?_
            obtain ⟨o8, ho9, h⟩ := bi h
            refine caRl (q0 := 0) (As := [.int x1]) (rest := []) ⟨hx, hb, hml, hown, hts⟩ (mX0_sumOf l D kc q σ x1 o8 ho9) (cwV 1 hts gX0_seats_X0_sumOf rfl rfl rfl (by decide +kernel) ⟨Nat.le_of_ble_eq_true rfl, Nat.le_of_ble_eq_true rfl⟩) hK hP rfl rfl rfl rfl hl.1 (Nat.le_of_ble_eq_true rfl) dX0_seats_31 ⟨Nat.zero_le _, Nat.zero_le _⟩ ?_
            refine lv_lstore (lv' := [(4, .long o8), (0, .ref (q 0)), (1, .int x1), (2, .int x2), (3, .int x3)]) hx hb dX0_seats_34 hl (by decide) rfl (fun ls hl => ?_)
            refine lv_lload hx hb dX0_seats_36 (lv_at hl 0 rfl) ?_
            refine lv_lconst (v := (0 : Int64)) hx hb dX0_seats_38 (by decide) ?_
            refine xl_ne (tgt := 46) hx hb dX0_seats_39 dX0_seats_40 (by decide) (fun c10 => ?_) (fun c10 => ?_)
            · replace h := br_n c10 h
              refine lv_aload_n hx hb dX0_seats_46 rfl (lv_at hl 1 rfl) ?_
              refine lv_aload_n hx hb dX0_seats_47 rfl (lv_at hl 1 rfl) ?_
              refine rdX0_sizes hx hb hts hinX0_seats hown hK hP (hts (.fieldLink RX0 23 "ExactShares" "sizes" "[I") (List.mem_of_getElem? (i := 1) rfl)) dX0_seats_48 ?_
              refine lv_iload_n hx hb dX0_seats_51 rfl (lv_at hl 2 rfl) ?_
              obtain ⟨g11, h⟩ := gd_t h
              refine ldX0_sizes hx hb hK hP g11 dX0_seats_52 ?_
              refine wrX0_seatsGivenTo (v := ((c_sizes σ) x1.toNatClampNeg)) hx hb hts hinX0_seats hown hK hP hD hS (hts (.fieldLink RX0 116 "ExactShares" "seatsGivenTo" "I") (List.mem_of_getElem? (i := 2) rfl)) dX0_seats_53 (fun H locs hP hD hS => ?_)
              obtain ⟨s12, e13, h⟩ := bd_e h
              replace hP : va_P D vwCl (wX0 kc q s12) H := by rw [e13]; exact hP
              replace hD : va_D A (wX0 kc q s12) := by rw [e13]; exact hD
              clear e13
              refine lv_iload_n hx hb dX0_seats_56 rfl (lv_at hl 4 rfl) ?_
              refine lv_if_ne (tgt := 76) hx hb dX0_seats_57 (by decide) (fun c14 => ?_) (fun c14 => ?_)
              · replace h := br_n c14 h
                refine lv_aload_n hx hb dX0_seats_76 rfl (lv_at hl 1 rfl) ?_
                refine lv_aload_n hx hb dX0_seats_77 rfl (lv_at hl 1 rfl) ?_
                refine rdX0_values hx hb hts hinX0_seats hown hK hP (hts (.fieldLink RX0 20 "ExactShares" "values" "[[J") (List.mem_of_getElem? (i := 3) rfl)) dX0_seats_78 ?_
                refine lv_iload_n hx hb dX0_seats_81 rfl (lv_at hl 2 rfl) ?_
                obtain ⟨g15, h⟩ := gd_t h
                refine ldX0_values hx hb hK hP g15 dX0_seats_82 ?_
                refine lv_iload_n hx hb dX0_seats_83 rfl (lv_at hl 3 rfl) ?_
                refine lv_iload_n hx hb dX0_seats_84 rfl (lv_at hl 4 rfl) ?_
                obtain ⟨o16, ho17, h⟩ := bi h
                refine caMv (q0 := 0) (As := [.ref (q (8 + x1.toNatClampNeg)), .int x2, .int x3]) (rest := []) ⟨hx, hb, hml, hown, hts⟩ (mX0_giveOneByOne l D kc q s12 x1.toNatClampNeg (ix_lt g15) x2 x3 o16 ho17) (cwV 3 hts gX0_seats_X0_giveOneByOne rfl rfl rfl (by decide +kernel) ⟨Nat.le_of_ble_eq_true rfl, Nat.le_of_ble_eq_true rfl⟩) hK hP hD hS hA rfl rfl rfl rfl hl.1 (Nat.le_of_ble_eq_true rfl) dX0_seats_85 ⟨Nat.zero_le _, Nat.zero_le _⟩ (fun H locs hP hD hS => ?_)
                exact wX0_seats_L88 C hA hK  o16 H locs ls h hP hD hS (lv_sub hl [1] rfl)
              · replace h := br_p c14 h
                refine lv_aload_n hx hb dX0_seats_60 rfl (lv_at hl 1 rfl) ?_
                refine lv_aload_n hx hb dX0_seats_61 rfl (lv_at hl 1 rfl) ?_
                refine rdX0_values hx hb hts hinX0_seats hown hK hP (hts (.fieldLink RX0 20 "ExactShares" "values" "[[J") (List.mem_of_getElem? (i := 3) rfl)) dX0_seats_62 ?_
                refine lv_iload_n hx hb dX0_seats_65 rfl (lv_at hl 2 rfl) ?_
                obtain ⟨g18, h⟩ := gd_t h
                refine ldX0_values hx hb hK hP g18 dX0_seats_66 ?_
                refine lv_iload_n hx hb dX0_seats_67 rfl (lv_at hl 3 rfl) ?_
                refine lv_lload hx hb dX0_seats_68 (lv_at hl 0 rfl) ?_
                obtain ⟨o19, ho20, h⟩ := bi h
                refine caMv (q0 := 0) (As := [.ref (q (8 + x1.toNatClampNeg)), .int x2, .long o8]) (rest := []) ⟨hx, hb, hml, hown, hts⟩ (mX0_giveByRemainders l D kc q s12 x1.toNatClampNeg (ix_lt g18) x2 o8 o19 ho20) (cwV 3 hts gX0_seats_X0_giveByRemainders rfl rfl rfl (by decide +kernel) ⟨Nat.le_of_ble_eq_true rfl, Nat.le_of_ble_eq_true rfl⟩) hK hP hD hS hA rfl rfl rfl rfl hl.1 (Nat.le_of_ble_eq_true rfl) dX0_seats_70 ⟨Nat.zero_le _, Nat.zero_le _⟩ (fun H locs hP hD hS => ?_)
                refine lv_goto (tgt := 88) hx hb dX0_seats_73 (by decide) ?_
                exact wX0_seats_L88 C hA hK  o19 H locs ls h hP hD hS (lv_sub hl [1] rfl)
            · replace h := br_p c10 h
              refine lv_bipush (v := (-2 : Int32)) hx hb dX0_seats_43 (by decide) ?_
              exact reMi (v := (-2 : Int32)) hx hb hr hlocks hK hP hD hS h dX0_seats_45
          · replace h := br_n c7 h
            refine lv_iconst (v := (-1 : Int32)) hx hb dX0_seats_27 (by decide) ?_
            exact reMi (v := (-1 : Int32)) hx hb hr hlocks hK hP hD hS h dX0_seats_28
abbrev rmX0_given : Room := { frames := 0, cells := 0, slots := 0, locals := 0 }
theorem hinX0_given : ∀ w ∈ u_ws RX0 TX0 13, w ∈ wsX0_given := by first | exact fun _ h => List.mem_cons_of_mem _ (List.mem_append_right _ h) | exact fun _ h => List.mem_cons_of_mem _ (List.mem_append_left _ (List.mem_append_right _ h)) | decide +kernel
def fX0_given_L12 (σ : CS)    : Option (Int32) := (some (-5 : Int32))
set_option maxHeartbeats 4000000 in
set_option maxRecDepth 100000 in
theorem wX0_given_L12 {p : Program} {l : Launch} {e : Env} {s : State} {m : MethodId} {args : Array Value} {below : List Frame} {meth : Method} {c : Code} {D : va_G} {kc : Nat → ClassId} {q : Nat → Nat} {out : Int32} (C : cxt p s m args meth c RX0 cX0_given 2 (some .int) wsX0_given) (hK : va_K D vwCl (tysX0 kc) s) {σ : CS}  (ls : Array Slot) (h : fX0_given_L12 σ    = some out) (hP : va_P D vwCl (wX0 kc q σ) s.heap) (hl : lv_has ls 2 [(0, .ref (q 0))]) : W p l e rmX0_given s m args below meth c s.heap [] 0 0 (MQ below (QRi out) args s 0 0 (fun _ => False)) (F0 m 12 ls []) := by
  obtain ⟨hx, hb, hr, hml, hown, hts, hlocks⟩ := id C
  unfold fX0_given_L12 at h
  refine lv_bipush (v := (-5 : Int32)) hx hb dX0_given_12 (by decide) ?_
  refine lv_goto (tgt := 23) hx hb dX0_given_14 (by decide) ?_
  exact reRi (v := (-5 : Int32)) hx hb hr hlocks h dX0_given_23
def fX0_given (σ : CS)  (x1 : Int32) : Option (Int32) := (if x1 < (0 : Int32) then (fX0_given_L12 σ) else (if x1 < (c_seatsGivenTo σ) then (if ix x1 8 = true then (some ((c_seatsGiven σ) x1.toNatClampNeg)) else none) else (fX0_given_L12 σ)))
set_option maxHeartbeats 4000000 in
set_option maxRecDepth 100000 in
theorem mX0_given (l : Launch) (D : va_G) (kc : Nat → ClassId) (q : Nat → Nat) (σ : CS) (x1 : Int32) (out : Int32) (h : fX0_given σ  x1 = some out) : MRi l yX0_given wsX0_given rmX0_given D (tysX0 kc) (wX0 kc q σ) [.ref (q 0), .int x1] out := by
  refine ofRi (cc := cX0_given) (maxL := 2) (ret := (some .int)) (lv := [(0, .ref (q 0)), (1, .int x1)]) (by decide) rfl (Nat.le_of_ble_eq_true rfl) rfl ?_
  intro p e s m args below meth c C hK hP ls hl
  have C : cxt p s m args meth c RX0 cX0_given 2 (some .int) wsX0_given := C
  obtain ⟨hx, hb, hr, hml, hown, hts, hlocks⟩ := id C
  unfold fX0_given at h
  refine lv_iload_n hx hb dX0_given_0 rfl (lv_at hl 1 rfl) ?_
  refine lv_if_lt (tgt := 12) hx hb dX0_given_1 (by decide) (fun c1 => ?_) (fun c1 => ?_)
  · replace h := br_p c1 h
    exact wX0_given_L12 C hK   ls h hP (lv_sub hl [0] rfl)
  · replace h := br_n c1 h
    refine lv_iload_n hx hb dX0_given_4 rfl (lv_at hl 1 rfl) ?_
    refine lv_aload_n hx hb dX0_given_5 rfl (lv_at hl 0 rfl) ?_
    refine rdX0_seatsGivenTo hx hb hts hinX0_given hown hK hP (hts (.fieldLink RX0 116 "ExactShares" "seatsGivenTo" "I") (List.mem_of_getElem? (i := 1) rfl)) dX0_given_6 ?_
    refine lv_icmp_lt (tgt := 17) hx hb dX0_given_9 (by decide) (fun c2 => ?_) (fun c2 => ?_)
    · replace h := br_p c2 h
      refine lv_aload_n hx hb dX0_given_17 rfl (lv_at hl 0 rfl) ?_
      refine rdX0_seatsGiven hx hb hts hinX0_given hown hK hP (hts (.fieldLink RX0 27 "ExactShares" "seatsGiven" "[I") (List.mem_of_getElem? (i := 2) rfl)) dX0_given_18 ?_
      refine lv_iload_n hx hb dX0_given_21 rfl (lv_at hl 1 rfl) ?_
      obtain ⟨g3, h⟩ := gd_t h
      refine ldX0_seatsGiven hx hb hK hP g3 dX0_given_22 ?_
      exact reRi (v := ((c_seatsGiven σ) x1.toNatClampNeg)) hx hb hr hlocks h dX0_given_23
    · replace h := br_n c2 h
      exact wX0_given_L12 C hK   ls h hP (lv_sub hl [0] rfl)
abbrev rmX0_choose : Room := { frames := 0, cells := 0, slots := 0, locals := 0 }
def fX0_choose_B16    (k16 : Int32 × Int32 × Int64 × Int32 → Option (Int64)) (x0 : Int32) (x1 : Int32) (x2 : Int64) (x4 : Int32) : Option (Int64) := (if x1 ≤ x4 then (some x2) else (if ((x4 + (1 : Int32)).toInt64) = (0 : Int64) then none else (k16 (x0, x1, ((x2 * ((x0 - x4).toInt64)) / ((x4 + (1 : Int32)).toInt64)), (x4 + (1 : Int32))))))
def fX0_choose_L16    (x0 : Int32) (x1 : Int32) (x2 : Int64) (x4 : Int32) : Option (Int64) := lp (fun k t => fX0_choose_B16    k t.1 t.2.1 t.2.2.1 t.2.2.2) FU (x0, x1, x2, x4)
set_option maxHeartbeats 4000000 in
set_option maxRecDepth 100000 in
theorem wX0_choose_B16 {p : Program} {l : Launch} {e : Env} {s : State} {m : MethodId} {args : Array Value} {below : List Frame} {meth : Method} {c : Code} {out : Int64} (C : cxt p s m args meth c RX0 cX0_choose 5 (some .long) wsX0_choose) (k16 : Int32 × Int32 × Int64 × Int32 → Option (Int64)) (hk16 : ∀ (x0 : Int32) (x1 : Int32) (x2 : Int64) (x4 : Int32) (ls : Array Slot), k16 (x0, x1, x2, x4) = some out → lv_has ls 5 [(0, .int x0), (1, .int x1), (2, .long x2), (4, .int x4)] → W p l e rmX0_choose s m args below meth c s.heap [] 0 0 (MQ below (QRl out) args s 0 0 (fun _ => False)) (F0 m 16 ls [])) (x0 : Int32) (x1 : Int32) (x2 : Int64) (x4 : Int32) (ls : Array Slot) (h : fX0_choose_B16   k16 x0 x1 x2 x4 = some out) (hl : lv_has ls 5 [(0, .int x0), (1, .int x1), (2, .long x2), (4, .int x4)]) : W p l e rmX0_choose s m args below meth c s.heap [] 0 0 (MQ below (QRl out) args s 0 0 (fun _ => False)) (F0 m 16 ls []) := by
  obtain ⟨hx, hb, hr, hml, hown, hts, hlocks⟩ := id C
  unfold fX0_choose_B16 at h
  refine lv_iload hx hb dX0_choose_16 (lv_at hl 3 rfl) ?_
  refine lv_iload_n hx hb dX0_choose_18 rfl (lv_at hl 1 rfl) ?_
  refine lv_icmp_ge (tgt := 42) hx hb dX0_choose_19 (by decide) (fun c1 => ?_) (fun c1 => ?_)
  · replace h := br_p c1 h
    refine lv_lload_n hx hb dX0_choose_42 rfl (lv_at hl 2 rfl) ?_
    exact reRl (v := x2) hx hb hr hlocks h dX0_choose_43
  · replace h := br_n c1 h
    refine lv_lload_n hx hb dX0_choose_22 rfl (lv_at hl 2 rfl) ?_
    refine lv_iload_n hx hb dX0_choose_23 rfl (lv_at hl 0 rfl) ?_
    refine lv_iload hx hb dX0_choose_24 (lv_at hl 3 rfl) ?_
    refine lv_isub hx hb dX0_choose_26 ?_
    refine lv_i2l (v := ((x0 - x4).toInt64)) hx hb dX0_choose_27 rfl ?_
    refine lv_lmul hx hb dX0_choose_28 ?_
    refine lv_iload hx hb dX0_choose_29 (lv_at hl 3 rfl) ?_
    refine lv_iconst (v := (1 : Int32)) hx hb dX0_choose_31 (by decide) ?_
    refine lv_iadd hx hb dX0_choose_32 ?_
    refine lv_i2l (v := ((x4 + (1 : Int32)).toInt64)) hx hb dX0_choose_33 rfl ?_
    obtain ⟨g2, h⟩ := gd_f h
    refine lv_ldiv hx hb dX0_choose_34 g2 ?_
    refine lv_lstore_n (lv' := [(2, .long ((x2 * ((x0 - x4).toInt64)) / ((x4 + (1 : Int32)).toInt64))), (0, .int x0), (1, .int x1), (4, .int x4)]) hx hb dX0_choose_35 rfl hl (by decide) rfl (fun ls hl => ?_)
    refine lv_iinc (v := (x4 + (1 : Int32))) (lv' := [(4, .int (x4 + (1 : Int32))), (2, .long ((x2 * ((x0 - x4).toInt64)) / ((x4 + (1 : Int32)).toInt64))), (0, .int x0), (1, .int x1)]) hx hb dX0_choose_36 hl (k := 3) rfl rfl (by decide) rfl (fun ls hl => ?_)
    refine lv_goto (tgt := 16) hx hb dX0_choose_39 (by decide) ?_
    exact hk16 x0 x1 ((x2 * ((x0 - x4).toInt64)) / ((x4 + (1 : Int32)).toInt64)) (x4 + (1 : Int32)) ls h (lv_sub hl [2, 3, 1, 0] rfl)
set_option maxHeartbeats 4000000 in
set_option maxRecDepth 100000 in
theorem wX0_choose_L16 {p : Program} {l : Launch} {e : Env} {s : State} {m : MethodId} {args : Array Value} {below : List Frame} {meth : Method} {c : Code} {out : Int64} (C : cxt p s m args meth c RX0 cX0_choose 5 (some .long) wsX0_choose) (x0 : Int32) (x1 : Int32) (x2 : Int64) (x4 : Int32) (ls : Array Slot) (h : fX0_choose_L16   x0 x1 x2 x4 = some out) (hl : lv_has ls 5 [(0, .int x0), (1, .int x1), (2, .long x2), (4, .int x4)]) : W p l e rmX0_choose s m args below meth c s.heap [] 0 0 (MQ below (QRl out) args s 0 0 (fun _ => False)) (F0 m 16 ls []) := by
  unfold fX0_choose_L16 at h
  exact lp_ind (P := fun t : Int32 × Int32 × Int64 × Int32 => ∀ ls : Array Slot, lv_has ls 5 [(0, .int t.1), (1, .int t.2.1), (2, .long t.2.2.1), (4, .int t.2.2.2)] → W p l e rmX0_choose s m args below meth c s.heap [] 0 0 (MQ below (QRl out) args s 0 0 (fun _ => False)) (F0 m 16 ls [])) (fun k hk t h ls hl => wX0_choose_B16 C  k (fun x0 x1 x2 x4 ls h hl => hk (x0, x1, x2, x4) h ls hl) t.1 t.2.1 t.2.2.1 t.2.2.2 ls h hl) FU (x0, x1, x2, x4) h ls hl
def fX0_choose  (x0 : Int32) (x1 : Int32) : Option (Int64) := (if x1 < (0 : Int32) then (some (0 : Int64)) else (if x1 ≤ x0 then (fX0_choose_L16 x0 x1 (1 : Int64) (0 : Int32)) else (some (0 : Int64))))
set_option maxHeartbeats 4000000 in
set_option maxRecDepth 100000 in
theorem mX0_choose (l : Launch) (x0 : Int32) (x1 : Int32) (out : Int64) (h : fX0_choose  x0 x1 = some out) : MPl l yX0_choose wsX0_choose rmX0_choose [.int x0, .int x1] out := by
  refine ofPl (cc := cX0_choose) (maxL := 5) (ret := (some .long)) (lv := [(0, .int x0), (1, .int x1)]) (plainFor_of_name (by decide)) rfl (Nat.le_of_ble_eq_true rfl) rfl ?_
  intro p e s m args below meth c C ls hl
  have C : cxt p s m args meth c RX0 cX0_choose 5 (some .long) wsX0_choose := C
  obtain ⟨hx, hb, hr, hml, hown, hts, hlocks⟩ := id C
  unfold fX0_choose at h
  refine lv_iload_n hx hb dX0_choose_0 rfl (lv_at hl 1 rfl) ?_
  refine lv_if_lt (tgt := 9) hx hb dX0_choose_1 (by decide) (fun c1 => ?_) (fun c1 => ?_)
  · replace h := br_p c1 h
    refine lv_lconst (v := (0 : Int64)) hx hb dX0_choose_9 (by decide) ?_
    exact reRl (v := (0 : Int64)) hx hb hr hlocks h dX0_choose_10
  · replace h := br_n c1 h
    refine lv_iload_n hx hb dX0_choose_4 rfl (lv_at hl 1 rfl) ?_
    refine lv_iload_n hx hb dX0_choose_5 rfl (lv_at hl 0 rfl) ?_
    refine lv_icmp_le (tgt := 11) hx hb dX0_choose_6 (by decide) (fun c2 => ?_) (fun c2 => ?_)
    · replace h := br_p c2 h
      refine lv_lconst (v := (1 : Int64)) hx hb dX0_choose_11 (by decide) ?_
      refine lv_lstore_n (lv' := [(2, .long (1 : Int64)), (0, .int x0), (1, .int x1)]) hx hb dX0_choose_12 rfl hl (by decide) rfl (fun ls hl => ?_)
      refine lv_iconst (v := (0 : Int32)) hx hb dX0_choose_13 (by decide) ?_
      refine lv_istore (lv' := [(4, .int (0 : Int32)), (2, .long (1 : Int64)), (0, .int x0), (1, .int x1)]) hx hb dX0_choose_14 hl (by decide) rfl (fun ls hl => ?_)
      exact wX0_choose_L16 C  x0 x1 (1 : Int64) (0 : Int32) ls h (lv_sub hl [2, 3, 1, 0] rfl)
    · replace h := br_n c2 h
      refine lv_lconst (v := (0 : Int64)) hx hb dX0_choose_9 (by decide) ?_
      exact reRl (v := (0 : Int64)) hx hb hr hlocks h dX0_choose_10
abbrev rmX0_tail : Room := { frames := 3, cells := 0, slots := 0, locals := 136 }
theorem hinX0_tail : ∀ w ∈ u_ws RX0 TX0 13, w ∈ wsX0_tail := by first | exact fun _ h => List.mem_cons_of_mem _ (List.mem_append_right _ h) | exact fun _ h => List.mem_cons_of_mem _ (List.mem_append_left _ (List.mem_append_right _ h)) | decide +kernel
def fX0_tail_B94 (σ : CS)   (k94 : Int32 × Int32 × Int64 × Int64 × Int32 × CS → Option (Int32 × CS)) (x1 : Int32) (x3 : Int32) (x4 : Int64) (x6 : Int64) (x8 : Int32) : Option (Int32 × CS) := (if x1 < x8 then ((fX0_keep σ x6 x4).bind fun o2 => (some (o2.1, o2.2))) else ((fX0_choose x1 x8).bind fun o4 => (if ix x3 40 = true then ((fX0_power ((c_above σ) x3.toNatClampNeg) x8).bind fun o7 => (if ix x3 40 = true then (if ix x3 40 = true then ((fX0_power (((c_below σ) x3.toNatClampNeg) - ((c_above σ) x3.toNatClampNeg)) (x1 - x8)).bind fun o11 => (k94 (x1, x3, x4, (x6 + ((o4 * o7) * o11)), (x8 + (1 : Int32)), σ))) else none) else none)) else none)))
def fX0_tail_L94 (σ : CS)   (x1 : Int32) (x3 : Int32) (x4 : Int64) (x6 : Int64) (x8 : Int32) : Option (Int32 × CS) := lp (fun k t => fX0_tail_B94 t.2.2.2.2.2   k t.1 t.2.1 t.2.2.1 t.2.2.2.1 t.2.2.2.2.1) FU (x1, x3, x4, x6, x8, σ)
set_option maxHeartbeats 4000000 in
set_option maxRecDepth 100000 in
theorem wX0_tail_B94 {p : Program} {l : Launch} {e : Env} {s : State} {m : MethodId} {args : Array Value} {below : List Frame} {meth : Method} {c : Code} {A : Nat → Prop} {D : va_G} {kc : Nat → ClassId} {q : Nat → Nat} {out : Int32 × CS} (C : cxt p s m args meth c RX0 cX0_tail 9 (some .int) wsX0_tail) (hA : ∀ x, s.heap.size ≤ x → A x) (hK : va_K D vwCl (tysX0 kc) s) (k94 : Int32 × Int32 × Int64 × Int64 × Int32 × CS → Option (Int32 × CS)) (hk94 : ∀ (x1 : Int32) (x3 : Int32) (x4 : Int64) (x6 : Int64) (x8 : Int32) (σ : CS) (H : Heap) (locs : List Loc) (ls : Array Slot), k94 (x1, x3, x4, x6, x8, σ) = some out → va_P D vwCl (wX0 kc q σ) H → va_D A (wX0 kc q σ) → va_S A s.heap H locs → lv_has ls 9 [(0, .ref (q 0)), (1, .int x1), (3, .int x3), (4, .long x4), (6, .long x6), (8, .int x8)] → W p l e rmX0_tail s m args below meth c H locs 0 0 (MQ below (QMi D (tysX0 kc) (wX0 kc q) A out) args s 0 0 A) (F0 m 94 ls [])) (σ : CS) (x1 : Int32) (x3 : Int32) (x4 : Int64) (x6 : Int64) (x8 : Int32) (H : Heap) (locs : List Loc) (ls : Array Slot) (h : fX0_tail_B94 σ   k94 x1 x3 x4 x6 x8 = some out) (hP : va_P D vwCl (wX0 kc q σ) H) (hD : va_D A (wX0 kc q σ)) (hS : va_S A s.heap H locs) (hl : lv_has ls 9 [(0, .ref (q 0)), (1, .int x1), (3, .int x3), (4, .long x4), (6, .long x6), (8, .int x8)]) : W p l e rmX0_tail s m args below meth c H locs 0 0 (MQ below (QMi D (tysX0 kc) (wX0 kc q) A out) args s 0 0 A) (F0 m 94 ls []) := by
  obtain ⟨hx, hb, hr, hml, hown, hts, hlocks⟩ := id C
  unfold fX0_tail_B94 at h
  refine lv_iload hx hb dX0_tail_94 (lv_at hl 5 rfl) ?_
  refine lv_iload_n hx hb dX0_tail_96 rfl (lv_at hl 1 rfl) ?_
  refine lv_icmp_gt (tgt := 150) hx hb dX0_tail_97 (by decide) (fun c1 => ?_) (fun c1 => ?_)
  · replace h := br_p c1 h
    refine lv_aload_n hx hb dX0_tail_150 rfl (lv_at hl 0 rfl) ?_
    refine lv_lload hx hb dX0_tail_151 (lv_at hl 4 rfl) ?_
    refine lv_lload hx hb dX0_tail_153 (lv_at hl 3 rfl) ?_
    obtain ⟨o2, ho3, h⟩ := bi h
    refine caMi (q0 := 0) (As := [.long x6, .long x4]) (rest := []) ⟨hx, hb, hml, hown, hts⟩ (mX0_keep l D kc q σ x6 x4 o2 ho3) (cwV 2 hts gX0_tail_X0_keep rfl rfl rfl (by decide +kernel) ⟨Nat.le_of_ble_eq_true rfl, Nat.le_of_ble_eq_true rfl⟩) hK hP hD hS hA rfl rfl rfl rfl hl.1 (Nat.le_of_ble_eq_true rfl) dX0_tail_155 ⟨Nat.zero_le _, Nat.zero_le _⟩ (fun H locs hP hD hS => ?_)
    exact reMi (v := o2.1) hx hb hr hlocks hK hP hD hS h dX0_tail_158
  · replace h := br_n c1 h
    refine lv_lload hx hb dX0_tail_100 (lv_at hl 4 rfl) ?_
    refine lv_iload_n hx hb dX0_tail_102 rfl (lv_at hl 1 rfl) ?_
    refine lv_iload hx hb dX0_tail_103 (lv_at hl 5 rfl) ?_
    obtain ⟨o4, ho5, h⟩ := bi h
    refine caPl (As := [.int x1, .int x8]) (rest := [.long x6]) ⟨hx, hb, hml, hown, hts⟩ (mX0_choose l x1 x8 o4 ho5) (va_cwS 2 hts gX0_tail_X0_choose rfl rfl rfl (by decide +kernel) ⟨Nat.le_of_ble_eq_true rfl, Nat.le_of_ble_eq_true rfl⟩) rfl hl.1 (Nat.le_of_ble_eq_true rfl) dX0_tail_105 ⟨Nat.zero_le _, Nat.zero_le _⟩ ?_
    refine lv_aload_n hx hb dX0_tail_108 rfl (lv_at hl 0 rfl) ?_
    refine rdX0_above hx hb hts hinX0_tail hown hK hP (hts (.fieldLink RX0 11 "ExactShares" "above" "[J") (List.mem_of_getElem? (i := 1) rfl)) dX0_tail_109 ?_
    refine lv_iload_n hx hb dX0_tail_112 rfl (lv_at hl 2 rfl) ?_
    obtain ⟨g6, h⟩ := gd_t h
    refine ldX0_above hx hb hK hP g6 dX0_tail_113 ?_
    refine lv_iload hx hb dX0_tail_114 (lv_at hl 5 rfl) ?_
    obtain ⟨o7, ho8, h⟩ := bi h
    refine caPl (As := [.long ((c_above σ) x3.toNatClampNeg), .int x8]) (rest := [.long o4, .long x6]) ⟨hx, hb, hml, hown, hts⟩ (mX0_power l ((c_above σ) x3.toNatClampNeg) x8 o7 ho8) (va_cwS 2 hts gX0_tail_X0_power rfl rfl rfl (by decide +kernel) ⟨Nat.le_of_ble_eq_true rfl, Nat.le_of_ble_eq_true rfl⟩) rfl hl.1 (Nat.le_of_ble_eq_true rfl) dX0_tail_116 ⟨Nat.zero_le _, Nat.zero_le _⟩ ?_
    refine lv_lmul hx hb dX0_tail_119 ?_
    refine lv_aload_n hx hb dX0_tail_120 rfl (lv_at hl 0 rfl) ?_
    refine rdX0_below hx hb hts hinX0_tail hown hK hP (hts (.fieldLink RX0 15 "ExactShares" "below" "[J") (List.mem_of_getElem? (i := 2) rfl)) dX0_tail_121 ?_
    refine lv_iload_n hx hb dX0_tail_124 rfl (lv_at hl 2 rfl) ?_
    obtain ⟨g9, h⟩ := gd_t h
    refine ldX0_below hx hb hK hP g9 dX0_tail_125 ?_
    refine lv_aload_n hx hb dX0_tail_126 rfl (lv_at hl 0 rfl) ?_
    refine rdX0_above hx hb hts hinX0_tail hown hK hP (hts (.fieldLink RX0 11 "ExactShares" "above" "[J") (List.mem_of_getElem? (i := 1) rfl)) dX0_tail_127 ?_
    refine lv_iload_n hx hb dX0_tail_130 rfl (lv_at hl 2 rfl) ?_
    obtain ⟨g10, h⟩ := gd_t h
    refine ldX0_above hx hb hK hP g10 dX0_tail_131 ?_
    refine lv_lsub hx hb dX0_tail_132 ?_
    refine lv_iload_n hx hb dX0_tail_133 rfl (lv_at hl 1 rfl) ?_
    refine lv_iload hx hb dX0_tail_134 (lv_at hl 5 rfl) ?_
    refine lv_isub hx hb dX0_tail_136 ?_
    obtain ⟨o11, ho12, h⟩ := bi h
    refine caPl (As := [.long (((c_below σ) x3.toNatClampNeg) - ((c_above σ) x3.toNatClampNeg)), .int (x1 - x8)]) (rest := [.long (o4 * o7), .long x6]) ⟨hx, hb, hml, hown, hts⟩ (mX0_power l (((c_below σ) x3.toNatClampNeg) - ((c_above σ) x3.toNatClampNeg)) (x1 - x8) o11 ho12) (va_cwS 2 hts gX0_tail_X0_power rfl rfl rfl (by decide +kernel) ⟨Nat.le_of_ble_eq_true rfl, Nat.le_of_ble_eq_true rfl⟩) rfl hl.1 (Nat.le_of_ble_eq_true rfl) dX0_tail_137 ⟨Nat.zero_le _, Nat.zero_le _⟩ ?_
    refine lv_lmul hx hb dX0_tail_140 ?_
    refine lv_ladd hx hb dX0_tail_141 ?_
    refine lv_lstore (lv' := [(6, .long (x6 + ((o4 * o7) * o11))), (0, .ref (q 0)), (1, .int x1), (3, .int x3), (4, .long x4), (8, .int x8)]) hx hb dX0_tail_142 hl (by decide) rfl (fun ls hl => ?_)
    refine lv_iinc (v := (x8 + (1 : Int32))) (lv' := [(8, .int (x8 + (1 : Int32))), (6, .long (x6 + ((o4 * o7) * o11))), (0, .ref (q 0)), (1, .int x1), (3, .int x3), (4, .long x4)]) hx hb dX0_tail_144 hl (k := 5) rfl rfl (by decide) rfl (fun ls hl => ?_)
    refine lv_goto (tgt := 94) hx hb dX0_tail_147 (by decide) ?_
    exact hk94 x1 x3 x4 (x6 + ((o4 * o7) * o11)) (x8 + (1 : Int32)) σ H locs ls h hP hD hS (lv_sub hl [2, 3, 4, 5, 1, 0] rfl)
set_option maxHeartbeats 4000000 in
set_option maxRecDepth 100000 in
theorem wX0_tail_L94 {p : Program} {l : Launch} {e : Env} {s : State} {m : MethodId} {args : Array Value} {below : List Frame} {meth : Method} {c : Code} {A : Nat → Prop} {D : va_G} {kc : Nat → ClassId} {q : Nat → Nat} {out : Int32 × CS} (C : cxt p s m args meth c RX0 cX0_tail 9 (some .int) wsX0_tail) (hA : ∀ x, s.heap.size ≤ x → A x) (hK : va_K D vwCl (tysX0 kc) s) (σ : CS) (x1 : Int32) (x3 : Int32) (x4 : Int64) (x6 : Int64) (x8 : Int32) (H : Heap) (locs : List Loc) (ls : Array Slot) (h : fX0_tail_L94 σ   x1 x3 x4 x6 x8 = some out) (hP : va_P D vwCl (wX0 kc q σ) H) (hD : va_D A (wX0 kc q σ)) (hS : va_S A s.heap H locs) (hl : lv_has ls 9 [(0, .ref (q 0)), (1, .int x1), (3, .int x3), (4, .long x4), (6, .long x6), (8, .int x8)]) : W p l e rmX0_tail s m args below meth c H locs 0 0 (MQ below (QMi D (tysX0 kc) (wX0 kc q) A out) args s 0 0 A) (F0 m 94 ls []) := by
  unfold fX0_tail_L94 at h
  exact lp_ind (P := fun t : Int32 × Int32 × Int64 × Int64 × Int32 × CS => ∀ (H : Heap) (locs : List Loc) (ls : Array Slot), va_P D vwCl (wX0 kc q t.2.2.2.2.2) H → va_D A (wX0 kc q t.2.2.2.2.2) → va_S A s.heap H locs → lv_has ls 9 [(0, .ref (q 0)), (1, .int t.1), (3, .int t.2.1), (4, .long t.2.2.1), (6, .long t.2.2.2.1), (8, .int t.2.2.2.2.1)] → W p l e rmX0_tail s m args below meth c H locs 0 0 (MQ below (QMi D (tysX0 kc) (wX0 kc q) A out) args s 0 0 A) (F0 m 94 ls [])) (fun k hk t h H locs ls hP hD hS hl => wX0_tail_B94 C hA hK  k (fun x1 x3 x4 x6 x8 σ H locs ls h hP hD hS hl => hk (x1, x3, x4, x6, x8, σ) h H locs ls hP hD hS hl) t.2.2.2.2.2 t.1 t.2.1 t.2.2.1 t.2.2.2.1 t.2.2.2.2.1 H locs ls h hP hD hS hl) FU (x1, x3, x4, x6, x8, σ) h H locs ls hP hD hS hl
def fX0_tail (σ : CS)  (x1 : Int32) (x2 : Int32) (x3 : Int32) : Option (Int32 × CS) := (if x1 < (0 : Int32) then (some ((-1 : Int32), σ)) else (if (60 : Int32) < x1 then (some ((-1 : Int32), σ)) else ((fX0_isNumber σ x3).bind fun o3 => (if o3 = (0 : Int32) then (some ((-1 : Int32), σ)) else (if ix x3 40 = true then (if ((c_above σ) x3.toNatClampNeg) < (0 : Int64) then (some ((-5 : Int32), σ)) else (if ix x3 40 = true then (if ix x3 40 = true then (if ((c_above σ) x3.toNatClampNeg) ≤ ((c_below σ) x3.toNatClampNeg) then ((fX0_isFull σ).bind fun o11 => (if o11 = (0 : Int32) then (if ix x3 40 = true then ((fX0_power ((c_below σ) x3.toNatClampNeg) x1).bind fun o15 => (if o15 = (-9223372036854775808 : Int64) then (some ((-3 : Int32), σ)) else (fX0_tail_L94 σ x1 x3 o15 (0 : Int64) (imax (0 : Int32) x2)))) else none) else (some ((-4 : Int32), σ)))) else (some ((-5 : Int32), σ))) else none) else none)) else none)))))
set_option maxHeartbeats 4000000 in
set_option maxRecDepth 100000 in
theorem mX0_tail (l : Launch) (D : va_G) (kc : Nat → ClassId) (q : Nat → Nat) (σ : CS) (x1 : Int32) (x2 : Int32) (x3 : Int32) (out : Int32 × CS) (h : fX0_tail σ  x1 x2 x3 = some out) : MMi l yX0_tail wsX0_tail rmX0_tail D (tysX0 kc) (wX0 kc q) σ [.ref (q 0), .int x1, .int x2, .int x3] out := by
  refine ofMi (cc := cX0_tail) (maxL := 9) (ret := (some .int)) (lv := [(0, .ref (q 0)), (1, .int x1), (2, .int x2), (3, .int x3)]) (by decide) rfl (Nat.le_of_ble_eq_true rfl) rfl ?_
  intro p e s m args below meth c A C hA hK hP hD hS ls hl
  have C : cxt p s m args meth c RX0 cX0_tail 9 (some .int) wsX0_tail := C
  obtain ⟨hx, hb, hr, hml, hown, hts, hlocks⟩ := id C
  obtain ⟨H, hH⟩ : ∃ H, H = s.heap := ⟨_, rfl⟩
  obtain ⟨locs, hlocs⟩ : ∃ locs : List Loc, locs = [] := ⟨_, rfl⟩
  have hS : va_S A s.heap H locs := by rw [hH, hlocs]; exact va_S.rf
  rw [← hH] at hP
  suffices hW : W p l e rmX0_tail s m args below meth c H locs 0 0 _ (F0 m 0 ls []) by rw [hH, hlocs] at hW; exact hW
  unfold fX0_tail at h
  refine lv_iload_n hx hb dX0_tail_0 rfl (lv_at hl 1 rfl) ?_
  refine lv_if_lt (tgt := 18) hx hb dX0_tail_1 (by decide) (fun c1 => ?_) (fun c1 => ?_)
  · replace h := br_p c1 h
    refine lv_iconst (v := (-1 : Int32)) hx hb dX0_tail_18 (by decide) ?_
    exact reMi (v := (-1 : Int32)) hx hb hr hlocks hK hP hD hS h dX0_tail_19
  · replace h := br_n c1 h
    refine lv_iload_n hx hb dX0_tail_4 rfl (lv_at hl 1 rfl) ?_
    refine lv_bipush (v := (60 : Int32)) hx hb dX0_tail_5 (by decide) ?_
    refine lv_icmp_gt (tgt := 18) hx hb dX0_tail_7 (by decide) (fun c2 => ?_) (fun c2 => ?_)
    · replace h := br_p c2 h
      refine lv_iconst (v := (-1 : Int32)) hx hb dX0_tail_18 (by decide) ?_
      exact reMi (v := (-1 : Int32)) hx hb hr hlocks hK hP hD hS h dX0_tail_19
    · replace h := br_n c2 h
      refine lv_aload_n hx hb dX0_tail_10 rfl (lv_at hl 0 rfl) ?_
      refine lv_iload_n hx hb dX0_tail_11 rfl (lv_at hl 3 rfl) ?_
      obtain ⟨o3, ho4, h⟩ := bi h
      refine caRi (q0 := 0) (As := [.int x3]) (rest := []) ⟨hx, hb, hml, hown, hts⟩ (mX0_isNumber l D kc q σ x3 o3 ho4) (cwV 1 hts gX0_tail_X0_isNumber rfl rfl rfl (by decide +kernel) ⟨Nat.le_of_ble_eq_true rfl, Nat.le_of_ble_eq_true rfl⟩) hK hP rfl rfl rfl rfl hl.1 (Nat.le_of_ble_eq_true rfl) dX0_tail_12 ⟨Nat.zero_le _, Nat.zero_le _⟩ ?_
      refine lv_if_ne (tgt := 20) hx hb dX0_tail_15 (by decide) (fun c5 => ?_) (fun c5 => ?_)
      · replace h := br_n c5 h
        refine lv_aload_n hx hb dX0_tail_20 rfl (lv_at hl 0 rfl) ?_
        refine rdX0_above hx hb hts hinX0_tail hown hK hP (hts (.fieldLink RX0 11 "ExactShares" "above" "[J") (List.mem_of_getElem? (i := 1) rfl)) dX0_tail_21 ?_
        refine lv_iload_n hx hb dX0_tail_24 rfl (lv_at hl 3 rfl) ?_
        obtain ⟨g6, h⟩ := gd_t h
        refine ldX0_above hx hb hK hP g6 dX0_tail_25 ?_
        refine lv_lconst (v := (0 : Int64)) hx hb dX0_tail_26 (by decide) ?_
        refine xl_lt (tgt := 47) hx hb dX0_tail_27 dX0_tail_28 (by decide) (fun c7 => ?_) (fun c7 => ?_)
        · replace h := br_p c7 h
          refine lv_bipush (v := (-5 : Int32)) hx hb dX0_tail_47 (by decide) ?_
          exact reMi (v := (-5 : Int32)) hx hb hr hlocks hK hP hD hS h dX0_tail_49
        · replace h := br_n c7 h
          refine lv_aload_n hx hb dX0_tail_31 rfl (lv_at hl 0 rfl) ?_
          refine rdX0_above hx hb hts hinX0_tail hown hK hP (hts (.fieldLink RX0 11 "ExactShares" "above" "[J") (List.mem_of_getElem? (i := 1) rfl)) dX0_tail_32 ?_
          refine lv_iload_n hx hb dX0_tail_35 rfl (lv_at hl 3 rfl) ?_
          obtain ⟨g8, h⟩ := gd_t h
          refine ldX0_above hx hb hK hP g8 dX0_tail_36 ?_
          refine lv_aload_n hx hb dX0_tail_37 rfl (lv_at hl 0 rfl) ?_
          refine rdX0_below hx hb hts hinX0_tail hown hK hP (hts (.fieldLink RX0 15 "ExactShares" "below" "[J") (List.mem_of_getElem? (i := 2) rfl)) dX0_tail_38 ?_
          refine lv_iload_n hx hb dX0_tail_41 rfl (lv_at hl 3 rfl) ?_
          obtain ⟨g9, h⟩ := gd_t h
          refine ldX0_below hx hb hK hP g9 dX0_tail_42 ?_
          refine xl_le (tgt := 50) hx hb dX0_tail_43 dX0_tail_44 (by decide) (fun c10 => ?_) (fun c10 => ?_)
          · replace h := br_p c10 h
            refine lv_aload_n hx hb dX0_tail_50 rfl (lv_at hl 0 rfl) ?_
            obtain ⟨o11, ho12, h⟩ := bi h
            refine caRi (q0 := 0) (As := []) (rest := []) ⟨hx, hb, hml, hown, hts⟩ (mX0_isFull l D kc q σ  o11 ho12) (cwV 0 hts gX0_tail_X0_isFull rfl rfl rfl (by decide +kernel) ⟨Nat.le_of_ble_eq_true rfl, Nat.le_of_ble_eq_true rfl⟩) hK hP rfl rfl rfl rfl hl.1 (Nat.le_of_ble_eq_true rfl) dX0_tail_51 ⟨Nat.zero_le _, Nat.zero_le _⟩ ?_
            refine lv_if_eq (tgt := 60) hx hb dX0_tail_54 (by decide) (fun c13 => ?_) (fun c13 => ?_)
            · replace h := br_p c13 h
              refine lv_aload_n hx hb dX0_tail_60 rfl (lv_at hl 0 rfl) ?_
              refine rdX0_below hx hb hts hinX0_tail hown hK hP (hts (.fieldLink RX0 15 "ExactShares" "below" "[J") (List.mem_of_getElem? (i := 2) rfl)) dX0_tail_61 ?_
              refine lv_iload_n hx hb dX0_tail_64 rfl (lv_at hl 3 rfl) ?_
              obtain ⟨g14, h⟩ := gd_t h
              refine ldX0_below hx hb hK hP g14 dX0_tail_65 ?_
              refine lv_iload_n hx hb dX0_tail_66 rfl (lv_at hl 1 rfl) ?_
              obtain ⟨o15, ho16, h⟩ := bi h
              refine caPl (As := [.long ((c_below σ) x3.toNatClampNeg), .int x1]) (rest := []) ⟨hx, hb, hml, hown, hts⟩ (mX0_power l ((c_below σ) x3.toNatClampNeg) x1 o15 ho16) (va_cwS 2 hts gX0_tail_X0_power rfl rfl rfl (by decide +kernel) ⟨Nat.le_of_ble_eq_true rfl, Nat.le_of_ble_eq_true rfl⟩) rfl hl.1 (Nat.le_of_ble_eq_true rfl) dX0_tail_67 ⟨Nat.zero_le _, Nat.zero_le _⟩ ?_
              refine lv_lstore (lv' := [(4, .long o15), (0, .ref (q 0)), (1, .int x1), (2, .int x2), (3, .int x3)]) hx hb dX0_tail_70 hl (by decide) rfl (fun ls hl => ?_)
              refine lv_lload hx hb dX0_tail_72 (lv_at hl 0 rfl) ?_
              refine lv_ldc2 (v := (-9223372036854775808 : Int64)) hx hb hown (hts (.constantLong RX0 36 (-9223372036854775808)) (List.mem_of_getElem? (i := 3) rfl)) dX0_tail_74 ?_
              refine xl_ne (tgt := 84) hx hb dX0_tail_77 dX0_tail_78 (by decide) (fun c17 => ?_) (fun c17 => ?_)
              · replace h := br_n c17 h
                refine lv_lconst (v := (0 : Int64)) hx hb dX0_tail_84 (by decide) ?_
                refine lv_lstore (lv' := [(6, .long (0 : Int64)), (4, .long o15), (0, .ref (q 0)), (1, .int x1), (2, .int x2), (3, .int x3)]) hx hb dX0_tail_85 hl (by decide) rfl (fun ls hl => ?_)
                refine lv_iconst (v := (0 : Int32)) hx hb dX0_tail_87 (by decide) ?_
                refine lv_iload_n hx hb dX0_tail_88 rfl (lv_at hl 4 rfl) ?_
                refine va_mmax hx hb (hml.trans hl.1.symm) hown (hts (.methodLink RX0 131 Lib.Math.max.name) (List.mem_of_getElem? (i := 4) rfl)) (hts (.static Lib.Math.max.name) (List.mem_of_getElem? (i := 5) rfl)) (hts (.initialized "java/lang/Math") (List.mem_of_getElem? (i := 6) rfl)) (hts (.code Lib.Math.max.name Lib.Math.max.code 2 (some .int)) (List.mem_of_getElem? (i := 7) rfl)) (Nat.le_of_ble_eq_true rfl) (Nat.le_of_ble_eq_true rfl) (Nat.zero_le _) (Nat.zero_le _) dX0_tail_89 ?_
                refine lv_istore (lv' := [(8, .int (imax (0 : Int32) x2)), (6, .long (0 : Int64)), (4, .long o15), (0, .ref (q 0)), (1, .int x1), (2, .int x2), (3, .int x3)]) hx hb dX0_tail_92 hl (by decide) rfl (fun ls hl => ?_)
                exact wX0_tail_L94 C hA hK  σ x1 x3 o15 (0 : Int64) (imax (0 : Int32) x2) H locs ls h hP hD hS (lv_sub hl [3, 4, 6, 2, 1, 0] rfl)
              · replace h := br_p c17 h
                refine lv_bipush (v := (-3 : Int32)) hx hb dX0_tail_81 (by decide) ?_
                exact reMi (v := (-3 : Int32)) hx hb hr hlocks hK hP hD hS h dX0_tail_83
            · replace h := br_n c13 h
              refine lv_bipush (v := (-4 : Int32)) hx hb dX0_tail_57 (by decide) ?_
              exact reMi (v := (-4 : Int32)) hx hb hr hlocks hK hP hD hS h dX0_tail_59
          · replace h := br_n c10 h
            refine lv_bipush (v := (-5 : Int32)) hx hb dX0_tail_47 (by decide) ?_
            exact reMi (v := (-5 : Int32)) hx hb hr hlocks hK hP hD hS h dX0_tail_49
      · replace h := br_p c5 h
        refine lv_iconst (v := (-1 : Int32)) hx hb dX0_tail_18 (by decide) ?_
        exact reMi (v := (-1 : Int32)) hx hb hr hlocks hK hP hD hS h dX0_tail_19
abbrev rmX0_urn : Room := { frames := 3, cells := 0, slots := 0, locals := 136 }
def fX0_urn (σ : CS)  (x1 : Int32) (x2 : Int32) (x3 : Int32) (x4 : Int32) : Option (Int32 × CS) := (if x1 < (0 : Int32) then (some ((-1 : Int32), σ)) else (if (60 : Int32) < x1 then (some ((-1 : Int32), σ)) else (if x2 < (0 : Int32) then (some ((-1 : Int32), σ)) else (if x1 < x2 then (some ((-1 : Int32), σ)) else (if x3 < (0 : Int32) then (some ((-1 : Int32), σ)) else (if x3 ≤ x1 then ((fX0_choose x2 x4).bind fun o7 => ((fX0_choose (x1 - x2) (x3 - x4)).bind fun o9 => ((fX0_choose x1 x3).bind fun o11 => ((fX0_keep σ (o7 * o9) o11).bind fun o13 => (some (o13.1, o13.2)))))) else (some ((-1 : Int32), σ))))))))
set_option maxHeartbeats 4000000 in
set_option maxRecDepth 100000 in
theorem mX0_urn (l : Launch) (D : va_G) (kc : Nat → ClassId) (q : Nat → Nat) (σ : CS) (x1 : Int32) (x2 : Int32) (x3 : Int32) (x4 : Int32) (out : Int32 × CS) (h : fX0_urn σ  x1 x2 x3 x4 = some out) : MMi l yX0_urn wsX0_urn rmX0_urn D (tysX0 kc) (wX0 kc q) σ [.ref (q 0), .int x1, .int x2, .int x3, .int x4] out := by
  refine ofMi (cc := cX0_urn) (maxL := 5) (ret := (some .int)) (lv := [(0, .ref (q 0)), (1, .int x1), (2, .int x2), (3, .int x3), (4, .int x4)]) (by decide) rfl (Nat.le_of_ble_eq_true rfl) rfl ?_
  intro p e s m args below meth c A C hA hK hP hD hS ls hl
  have C : cxt p s m args meth c RX0 cX0_urn 5 (some .int) wsX0_urn := C
  obtain ⟨hx, hb, hr, hml, hown, hts, hlocks⟩ := id C
  obtain ⟨H, hH⟩ : ∃ H, H = s.heap := ⟨_, rfl⟩
  obtain ⟨locs, hlocs⟩ : ∃ locs : List Loc, locs = [] := ⟨_, rfl⟩
  have hS : va_S A s.heap H locs := by rw [hH, hlocs]; exact va_S.rf
  rw [← hH] at hP
  suffices hW : W p l e rmX0_urn s m args below meth c H locs 0 0 _ (F0 m 0 ls []) by rw [hH, hlocs] at hW; exact hW
  unfold fX0_urn at h
  refine lv_iload_n hx hb dX0_urn_0 rfl (lv_at hl 1 rfl) ?_
  refine lv_if_lt (tgt := 28) hx hb dX0_urn_1 (by decide) (fun c1 => ?_) (fun c1 => ?_)
  · replace h := br_p c1 h
    refine lv_iconst (v := (-1 : Int32)) hx hb dX0_urn_28 (by decide) ?_
    exact reMi (v := (-1 : Int32)) hx hb hr hlocks hK hP hD hS h dX0_urn_29
  · replace h := br_n c1 h
    refine lv_iload_n hx hb dX0_urn_4 rfl (lv_at hl 1 rfl) ?_
    refine lv_bipush (v := (60 : Int32)) hx hb dX0_urn_5 (by decide) ?_
    refine lv_icmp_gt (tgt := 28) hx hb dX0_urn_7 (by decide) (fun c2 => ?_) (fun c2 => ?_)
    · replace h := br_p c2 h
      refine lv_iconst (v := (-1 : Int32)) hx hb dX0_urn_28 (by decide) ?_
      exact reMi (v := (-1 : Int32)) hx hb hr hlocks hK hP hD hS h dX0_urn_29
    · replace h := br_n c2 h
      refine lv_iload_n hx hb dX0_urn_10 rfl (lv_at hl 2 rfl) ?_
      refine lv_if_lt (tgt := 28) hx hb dX0_urn_11 (by decide) (fun c3 => ?_) (fun c3 => ?_)
      · replace h := br_p c3 h
        refine lv_iconst (v := (-1 : Int32)) hx hb dX0_urn_28 (by decide) ?_
        exact reMi (v := (-1 : Int32)) hx hb hr hlocks hK hP hD hS h dX0_urn_29
      · replace h := br_n c3 h
        refine lv_iload_n hx hb dX0_urn_14 rfl (lv_at hl 2 rfl) ?_
        refine lv_iload_n hx hb dX0_urn_15 rfl (lv_at hl 1 rfl) ?_
        refine lv_icmp_gt (tgt := 28) hx hb dX0_urn_16 (by decide) (fun c4 => ?_) (fun c4 => ?_)
        · replace h := br_p c4 h
          refine lv_iconst (v := (-1 : Int32)) hx hb dX0_urn_28 (by decide) ?_
          exact reMi (v := (-1 : Int32)) hx hb hr hlocks hK hP hD hS h dX0_urn_29
        · replace h := br_n c4 h
          refine lv_iload_n hx hb dX0_urn_19 rfl (lv_at hl 3 rfl) ?_
          refine lv_if_lt (tgt := 28) hx hb dX0_urn_20 (by decide) (fun c5 => ?_) (fun c5 => ?_)
          · replace h := br_p c5 h
            refine lv_iconst (v := (-1 : Int32)) hx hb dX0_urn_28 (by decide) ?_
            exact reMi (v := (-1 : Int32)) hx hb hr hlocks hK hP hD hS h dX0_urn_29
          · replace h := br_n c5 h
            refine lv_iload_n hx hb dX0_urn_23 rfl (lv_at hl 3 rfl) ?_
            refine lv_iload_n hx hb dX0_urn_24 rfl (lv_at hl 1 rfl) ?_
            refine lv_icmp_le (tgt := 30) hx hb dX0_urn_25 (by decide) (fun c6 => ?_) (fun c6 => ?_)
            · replace h := br_p c6 h
              refine lv_aload_n hx hb dX0_urn_30 rfl (lv_at hl 0 rfl) ?_
              refine lv_iload_n hx hb dX0_urn_31 rfl (lv_at hl 2 rfl) ?_
              refine lv_iload hx hb dX0_urn_32 (lv_at hl 4 rfl) ?_
              obtain ⟨o7, ho8, h⟩ := bi h
              refine caPl (As := [.int x2, .int x4]) (rest := [.ref (q 0)]) ⟨hx, hb, hml, hown, hts⟩ (mX0_choose l x2 x4 o7 ho8) (va_cwS 2 hts gX0_urn_X0_choose rfl rfl rfl (by decide +kernel) ⟨Nat.le_of_ble_eq_true rfl, Nat.le_of_ble_eq_true rfl⟩) rfl hl.1 (Nat.le_of_ble_eq_true rfl) dX0_urn_34 ⟨Nat.zero_le _, Nat.zero_le _⟩ ?_
              refine lv_iload_n hx hb dX0_urn_37 rfl (lv_at hl 1 rfl) ?_
              refine lv_iload_n hx hb dX0_urn_38 rfl (lv_at hl 2 rfl) ?_
              refine lv_isub hx hb dX0_urn_39 ?_
              refine lv_iload_n hx hb dX0_urn_40 rfl (lv_at hl 3 rfl) ?_
              refine lv_iload hx hb dX0_urn_41 (lv_at hl 4 rfl) ?_
              refine lv_isub hx hb dX0_urn_43 ?_
              obtain ⟨o9, ho10, h⟩ := bi h
              refine caPl (As := [.int (x1 - x2), .int (x3 - x4)]) (rest := [.long o7, .ref (q 0)]) ⟨hx, hb, hml, hown, hts⟩ (mX0_choose l (x1 - x2) (x3 - x4) o9 ho10) (va_cwS 2 hts gX0_urn_X0_choose rfl rfl rfl (by decide +kernel) ⟨Nat.le_of_ble_eq_true rfl, Nat.le_of_ble_eq_true rfl⟩) rfl hl.1 (Nat.le_of_ble_eq_true rfl) dX0_urn_44 ⟨Nat.zero_le _, Nat.zero_le _⟩ ?_
              refine lv_lmul hx hb dX0_urn_47 ?_
              refine lv_iload_n hx hb dX0_urn_48 rfl (lv_at hl 1 rfl) ?_
              refine lv_iload_n hx hb dX0_urn_49 rfl (lv_at hl 3 rfl) ?_
              obtain ⟨o11, ho12, h⟩ := bi h
              refine caPl (As := [.int x1, .int x3]) (rest := [.long (o7 * o9), .ref (q 0)]) ⟨hx, hb, hml, hown, hts⟩ (mX0_choose l x1 x3 o11 ho12) (va_cwS 2 hts gX0_urn_X0_choose rfl rfl rfl (by decide +kernel) ⟨Nat.le_of_ble_eq_true rfl, Nat.le_of_ble_eq_true rfl⟩) rfl hl.1 (Nat.le_of_ble_eq_true rfl) dX0_urn_50 ⟨Nat.zero_le _, Nat.zero_le _⟩ ?_
              obtain ⟨o13, ho14, h⟩ := bi h
              refine caMi (q0 := 0) (As := [.long (o7 * o9), .long o11]) (rest := []) ⟨hx, hb, hml, hown, hts⟩ (mX0_keep l D kc q σ (o7 * o9) o11 o13 ho14) (cwV 2 hts gX0_urn_X0_keep rfl rfl rfl (by decide +kernel) ⟨Nat.le_of_ble_eq_true rfl, Nat.le_of_ble_eq_true rfl⟩) hK hP hD hS hA rfl rfl rfl rfl hl.1 (Nat.le_of_ble_eq_true rfl) dX0_urn_53 ⟨Nat.zero_le _, Nat.zero_le _⟩ (fun H locs hP hD hS => ?_)
              exact reMi (v := o13.1) hx hb hr hlocks hK hP hD hS h dX0_urn_56
            · replace h := br_n c6 h
              refine lv_iconst (v := (-1 : Int32)) hx hb dX0_urn_28 (by decide) ?_
              exact reMi (v := (-1 : Int32)) hx hb hr hlocks hK hP hD hS h dX0_urn_29
def fX0_waysToReach_b (σ : CS) (rec : Int64 → Int32 → Int32 → Int32 → Option Int32) (x0 : Int64) (x2 : Int32) (x4 : Int32) (x5 : Int32) : Option (Int32) := (if (1 : Int32) ≤ x2 then (if (x5 - x4) < x2 then (some (0 : Int32)) else (if x4 < (16 : Int32) then (if ix x4 16 = true then ((rec (x0 - ((c_things σ) x4.toNatClampNeg)) (x2 - (1 : Int32)) (x4 + (1 : Int32)) x5).bind fun o5 => ((rec x0 x2 (x4 + (1 : Int32)) x5).bind fun o7 => (some (o5 + o7)))) else none) else (some (0 : Int32)))) else (if (0 : Int64) < x0 then (some (0 : Int32)) else (some (1 : Int32))))
def fX0_waysToReach (σ : CS) : Nat → Int64 → Int32 → Int32 → Int32 → Option Int32
  | 0, _, _, _, _ => none
  | n + 1, a, b, c, d => fX0_waysToReach_b σ (fX0_waysToReach σ n) a b c d
abbrev rmX0_waysToReach (n : Nat) : Room := { frames := n, cells := 0, slots := 0, locals := 30 * n }
set_option maxHeartbeats 4000000 in
set_option maxRecDepth 100000 in
theorem mX0_waysToReach_n (l : Launch) (D : va_G) (kc : Nat → ClassId) (q : Nat → Nat) (σ : CS) : ∀ (n : Nat) (x0 : Int64) (x2 : Int32) (x4 : Int32) (x5 : Int32) (out : Int32), fX0_waysToReach σ n x0 x2 x4 x5 = some out → MRi l yX0_waysToReach wsX0_waysToReach (rmX0_waysToReach n) D (tysX0 kc) (wX0 kc q σ) [.long x0, .int x2, .ref (q 7), .int x4, .int x5] out := by
  intro n
  induction n with
  | zero => intro x0 x2 x4 x5 out h; cases h
  | succ n ih =>
    intro x0 x2 x4 x5 out h
    have h : fX0_waysToReach_b σ (fX0_waysToReach σ n) x0 x2 x4 x5 = some out := h
    generalize fX0_waysToReach σ n = rec at h ih
    have hrec := ih
    have hroom : (rmX0_waysToReach n).frames + 1 ≤ (rmX0_waysToReach (n + 1)).frames ∧ 8 + (6 + 11) + (rmX0_waysToReach n).locals ≤ (rmX0_waysToReach (n + 1)).locals := ⟨Nat.le_refl _, by show 8 + (6 + 11) + 30 * n ≤ 30 * (n + 1); omega⟩
    refine ofRi (cc := cX0_waysToReach) (maxL := 6) (ret := (some .int)) (lv := [(0, .long x0), (2, .int x2), (3, .ref (q 7)), (4, .int x4), (5, .int x5)]) (by decide) rfl (Nat.le_of_ble_eq_true rfl) rfl ?_
    intro p e s m args below meth c C hK hP ls hl
    obtain ⟨hx, hb, hr, hml, hown, hts, hlocks⟩ := id C
    unfold fX0_waysToReach_b at h
    refine lv_iload_n hx hb dX0_waysToReach_0 rfl (lv_at hl 1 rfl) ?_
    refine lv_iconst (v := (1 : Int32)) hx hb dX0_waysToReach_1 (by decide) ?_
    refine lv_icmp_ge (tgt := 17) hx hb dX0_waysToReach_2 (by decide) (fun c1 => ?_) (fun c1 => ?_)
    · replace h := br_p c1 h
      refine lv_iload_n hx hb dX0_waysToReach_17 rfl (lv_at hl 1 rfl) ?_
      refine lv_iload hx hb dX0_waysToReach_18 (lv_at hl 4 rfl) ?_
      refine lv_iload hx hb dX0_waysToReach_20 (lv_at hl 3 rfl) ?_
      refine lv_isub hx hb dX0_waysToReach_22 ?_
      refine lv_icmp_gt (tgt := 33) hx hb dX0_waysToReach_23 (by decide) (fun c2 => ?_) (fun c2 => ?_)
      · replace h := br_p c2 h
        refine lv_iconst (v := (0 : Int32)) hx hb dX0_waysToReach_33 (by decide) ?_
        exact reRi (v := (0 : Int32)) hx hb hr hlocks h dX0_waysToReach_34
      · replace h := br_n c2 h
        refine lv_iload hx hb dX0_waysToReach_26 (lv_at hl 3 rfl) ?_
        refine lv_aload_n hx hb dX0_waysToReach_28 rfl (lv_at hl 2 rfl) ?_
        refine va_alen (v := (16 : Int32)) hx hb hK hP 7 6 rfl rfl rfl dX0_waysToReach_29 ?_
        refine lv_icmp_lt (tgt := 35) hx hb dX0_waysToReach_30 (by decide) (fun c3 => ?_) (fun c3 => ?_)
        · replace h := br_p c3 h
          refine lv_lload_n hx hb dX0_waysToReach_35 rfl (lv_at hl 0 rfl) ?_
          refine lv_aload_n hx hb dX0_waysToReach_36 rfl (lv_at hl 2 rfl) ?_
          refine lv_iload hx hb dX0_waysToReach_37 (lv_at hl 3 rfl) ?_
          obtain ⟨g4, h⟩ := gd_t h
          refine ldX0_things hx hb hK hP g4 dX0_waysToReach_39 ?_
          refine lv_lsub hx hb dX0_waysToReach_40 ?_
          refine lv_iload_n hx hb dX0_waysToReach_41 rfl (lv_at hl 1 rfl) ?_
          refine lv_iconst (v := (1 : Int32)) hx hb dX0_waysToReach_42 (by decide) ?_
          refine lv_isub hx hb dX0_waysToReach_43 ?_
          refine lv_aload_n hx hb dX0_waysToReach_44 rfl (lv_at hl 2 rfl) ?_
          refine lv_iload hx hb dX0_waysToReach_45 (lv_at hl 3 rfl) ?_
          refine lv_iconst (v := (1 : Int32)) hx hb dX0_waysToReach_47 (by decide) ?_
          refine lv_iadd hx hb dX0_waysToReach_48 ?_
          refine lv_iload hx hb dX0_waysToReach_49 (lv_at hl 4 rfl) ?_
          obtain ⟨o5, ho6, h⟩ := bi h
          refine caSi (As := [.long (x0 - ((c_things σ) x4.toNatClampNeg)), .int (x2 - (1 : Int32)), .ref (q 7), .int (x4 + (1 : Int32)), .int x5]) (rest := []) ⟨hx, hb, hml, hown, hts⟩ (hrec (x0 - ((c_things σ) x4.toNatClampNeg)) (x2 - (1 : Int32)) (x4 + (1 : Int32)) x5 o5 ho6) (va_cwS 5 hts gX0_waysToReach_X0_waysToReach rfl rfl rfl (by decide +kernel) hroom) hK hP rfl hl.1 (Nat.le_of_ble_eq_true rfl) dX0_waysToReach_51 ⟨Nat.zero_le _, Nat.zero_le _⟩ ?_
          refine lv_lload_n hx hb dX0_waysToReach_54 rfl (lv_at hl 0 rfl) ?_
          refine lv_iload_n hx hb dX0_waysToReach_55 rfl (lv_at hl 1 rfl) ?_
          refine lv_aload_n hx hb dX0_waysToReach_56 rfl (lv_at hl 2 rfl) ?_
          refine lv_iload hx hb dX0_waysToReach_57 (lv_at hl 3 rfl) ?_
          refine lv_iconst (v := (1 : Int32)) hx hb dX0_waysToReach_59 (by decide) ?_
          refine lv_iadd hx hb dX0_waysToReach_60 ?_
          refine lv_iload hx hb dX0_waysToReach_61 (lv_at hl 4 rfl) ?_
          obtain ⟨o7, ho8, h⟩ := bi h
          refine caSi (As := [.long x0, .int x2, .ref (q 7), .int (x4 + (1 : Int32)), .int x5]) (rest := [.int o5]) ⟨hx, hb, hml, hown, hts⟩ (hrec x0 x2 (x4 + (1 : Int32)) x5 o7 ho8) (va_cwS 5 hts gX0_waysToReach_X0_waysToReach rfl rfl rfl (by decide +kernel) hroom) hK hP rfl hl.1 (Nat.le_of_ble_eq_true rfl) dX0_waysToReach_63 ⟨Nat.zero_le _, Nat.zero_le _⟩ ?_
          refine lv_iadd hx hb dX0_waysToReach_66 ?_
          exact reRi (v := (o5 + o7)) hx hb hr hlocks h dX0_waysToReach_67
        · replace h := br_n c3 h
          refine lv_iconst (v := (0 : Int32)) hx hb dX0_waysToReach_33 (by decide) ?_
          exact reRi (v := (0 : Int32)) hx hb hr hlocks h dX0_waysToReach_34
    · replace h := br_n c1 h
      refine lv_lload_n hx hb dX0_waysToReach_5 rfl (lv_at hl 0 rfl) ?_
      refine lv_lconst (v := (0 : Int64)) hx hb dX0_waysToReach_6 (by decide) ?_
      refine xl_gt (tgt := 15) hx hb dX0_waysToReach_7 dX0_waysToReach_8 (by decide) (fun c9 => ?_) (fun c9 => ?_)
      · replace h := br_p c9 h
        refine lv_iconst (v := (0 : Int32)) hx hb dX0_waysToReach_15 (by decide) ?_
        exact reRi (v := (0 : Int32)) hx hb hr hlocks h dX0_waysToReach_16
      · replace h := br_n c9 h
        refine lv_iconst (v := (1 : Int32)) hx hb dX0_waysToReach_11 (by decide) ?_
        refine lv_goto (tgt := 16) hx hb dX0_waysToReach_12 (by decide) ?_
        exact reRi (v := (1 : Int32)) hx hb hr hlocks h dX0_waysToReach_16
theorem mX0_waysToReach (l : Launch) (D : va_G) (kc : Nat → ClassId) (q : Nat → Nat) (σ : CS) (x0 : Int64) (x2 : Int32) (x4 : Int32) (x5 : Int32) (out : Int32) (h : fX0_waysToReach σ 20 x0 x2 x4 x5 = some out) : MRi l yX0_waysToReach wsX0_waysToReach (rmX0_waysToReach 20) D (tysX0 kc) (wX0 kc q σ) [.long x0, .int x2, .ref (q 7), .int x4, .int x5] out := mX0_waysToReach_n l D kc q σ 20 x0 x2 x4 x5 out h
