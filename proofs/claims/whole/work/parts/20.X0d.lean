abbrev rmX0_keepNearest : Room := { frames := 3, cells := 0, slots := 0, locals := 136 }
def fX0_keepNearest_L238 (σ : CS)   (x8 : Int64) (x10 : Int64) (x14 : Int64) (x16 : Int64) (y0 : Int32) : Option (Int32 × CS) := (if y0 = (0 : Int32) then ((fX0_keep σ x14 x16).bind fun o2 => (some (o2.1, o2.2))) else ((fX0_keep σ x8 x10).bind fun o4 => (some (o4.1, o4.2))))
set_option maxHeartbeats 4000000 in
set_option maxRecDepth 100000 in
theorem wX0_keepNearest_L238 {p : Program} {l : Launch} {e : Env} {s : State} {m : MethodId} {args : Array Value} {below : List Frame} {meth : Method} {c : Code} {A : Nat → Prop} {D : va_G} {kc : Nat → ClassId} {q : Nat → Nat} {out : Int32 × CS} (C : cxt p s m args meth c RX0 cX0_keepNearest 25 (some .int) wsX0_keepNearest) (hA : ∀ x, s.heap.size ≤ x → A x) (hK : va_K D vwCl (tysX0 kc) s) (σ : CS) (x8 : Int64) (x10 : Int64) (x14 : Int64) (x16 : Int64) (y0 : Int32) (H : Heap) (locs : List Loc) (ls : Array Slot) (h : fX0_keepNearest_L238 σ   x8 x10 x14 x16 y0 = some out) (hP : va_P D vwCl (wX0 kc q σ) H) (hD : va_D A (wX0 kc q σ)) (hS : va_S A s.heap H locs) (hl : lv_has ls 25 [(0, .ref (q 0)), (8, .long x8), (10, .long x10), (14, .long x14), (16, .long x16)]) : W p l e rmX0_keepNearest s m args below meth c H locs 0 0 (MQ below (QMi D (tysX0 kc) (wX0 kc q) A out) args s 0 0 A) (F0 m 238 ls [.int y0]) := by
  obtain ⟨hx, hb, hr, hml, hown, hts, hlocks⟩ := id C
  unfold fX0_keepNearest_L238 at h
  refine lv_istore (lv' := [(24, .int y0), (0, .ref (q 0)), (8, .long x8), (10, .long x10), (14, .long x14), (16, .long x16)]) hx hb dX0_keepNearest_238 hl (by decide) rfl (fun ls hl => ?_)
  refine lv_iload hx hb dX0_keepNearest_240 (lv_at hl 0 rfl) ?_
  refine lv_if_eq (tgt := 256) hx hb dX0_keepNearest_242 (by decide) (fun c1 => ?_) (fun c1 => ?_)
  · replace h := br_p c1 h
    refine lv_aload_n hx hb dX0_keepNearest_256 rfl (lv_at hl 1 rfl) ?_
    refine lv_lload hx hb dX0_keepNearest_257 (lv_at hl 4 rfl) ?_
    refine lv_lload hx hb dX0_keepNearest_259 (lv_at hl 5 rfl) ?_
    obtain ⟨o2, ho3, h⟩ := bi h
    refine caMi (q0 := 0) (As := [.long x14, .long x16]) (rest := []) ⟨hx, hb, hml, hown, hts⟩ (mX0_keep l D kc q σ x14 x16 o2 ho3) (cwV 2 hts gX0_keepNearest_X0_keep rfl rfl rfl (by decide +kernel) ⟨Nat.le_of_ble_eq_true rfl, Nat.le_of_ble_eq_true rfl⟩) hK hP hD hS hA rfl rfl rfl rfl hl.1 (Nat.le_of_ble_eq_true rfl) dX0_keepNearest_261 ⟨Nat.zero_le _, Nat.zero_le _⟩ (fun H locs hP hD hS => ?_)
    exact reMi (v := o2.1) hx hb hr hlocks hK hP hD hS h dX0_keepNearest_264
  · replace h := br_n c1 h
    refine lv_aload_n hx hb dX0_keepNearest_245 rfl (lv_at hl 1 rfl) ?_
    refine lv_lload hx hb dX0_keepNearest_246 (lv_at hl 2 rfl) ?_
    refine lv_lload hx hb dX0_keepNearest_248 (lv_at hl 3 rfl) ?_
    obtain ⟨o4, ho5, h⟩ := bi h
    refine caMi (q0 := 0) (As := [.long x8, .long x10]) (rest := []) ⟨hx, hb, hml, hown, hts⟩ (mX0_keep l D kc q σ x8 x10 o4 ho5) (cwV 2 hts gX0_keepNearest_X0_keep rfl rfl rfl (by decide +kernel) ⟨Nat.le_of_ble_eq_true rfl, Nat.le_of_ble_eq_true rfl⟩) hK hP hD hS hA rfl rfl rfl rfl hl.1 (Nat.le_of_ble_eq_true rfl) dX0_keepNearest_250 ⟨Nat.zero_le _, Nat.zero_le _⟩ (fun H locs hP hD hS => ?_)
    refine lv_goto (tgt := 264) hx hb dX0_keepNearest_253 (by decide) ?_
    exact reMi (v := o4.1) hx hb hr hlocks hK hP hD hS h dX0_keepNearest_264
def fX0_keepNearest_L237 (σ : CS)   (x8 : Int64) (x10 : Int64) (x14 : Int64) (x16 : Int64) : Option (Int32 × CS) := (fX0_keepNearest_L238 σ x8 x10 x14 x16 (0 : Int32))
set_option maxHeartbeats 4000000 in
set_option maxRecDepth 100000 in
theorem wX0_keepNearest_L237 {p : Program} {l : Launch} {e : Env} {s : State} {m : MethodId} {args : Array Value} {below : List Frame} {meth : Method} {c : Code} {A : Nat → Prop} {D : va_G} {kc : Nat → ClassId} {q : Nat → Nat} {out : Int32 × CS} (C : cxt p s m args meth c RX0 cX0_keepNearest 25 (some .int) wsX0_keepNearest) (hA : ∀ x, s.heap.size ≤ x → A x) (hK : va_K D vwCl (tysX0 kc) s) (σ : CS) (x8 : Int64) (x10 : Int64) (x14 : Int64) (x16 : Int64) (H : Heap) (locs : List Loc) (ls : Array Slot) (h : fX0_keepNearest_L237 σ   x8 x10 x14 x16 = some out) (hP : va_P D vwCl (wX0 kc q σ) H) (hD : va_D A (wX0 kc q σ)) (hS : va_S A s.heap H locs) (hl : lv_has ls 25 [(0, .ref (q 0)), (8, .long x8), (10, .long x10), (14, .long x14), (16, .long x16)]) : W p l e rmX0_keepNearest s m args below meth c H locs 0 0 (MQ below (QMi D (tysX0 kc) (wX0 kc q) A out) args s 0 0 A) (F0 m 237 ls []) := by
  obtain ⟨hx, hb, hr, hml, hown, hts, hlocks⟩ := id C
  unfold fX0_keepNearest_L237 at h
  refine lv_iconst (v := (0 : Int32)) hx hb dX0_keepNearest_237 (by decide) ?_
  exact wX0_keepNearest_L238 C hA hK  σ x8 x10 x14 x16 (0 : Int32) H locs ls h hP hD hS (lv_sub hl [0, 1, 2, 3, 4] rfl)
def fX0_keepNearest_L233 (σ : CS)   (x8 : Int64) (x10 : Int64) (x14 : Int64) (x16 : Int64) : Option (Int32 × CS) := (fX0_keepNearest_L238 σ x8 x10 x14 x16 (1 : Int32))
set_option maxHeartbeats 4000000 in
set_option maxRecDepth 100000 in
theorem wX0_keepNearest_L233 {p : Program} {l : Launch} {e : Env} {s : State} {m : MethodId} {args : Array Value} {below : List Frame} {meth : Method} {c : Code} {A : Nat → Prop} {D : va_G} {kc : Nat → ClassId} {q : Nat → Nat} {out : Int32 × CS} (C : cxt p s m args meth c RX0 cX0_keepNearest 25 (some .int) wsX0_keepNearest) (hA : ∀ x, s.heap.size ≤ x → A x) (hK : va_K D vwCl (tysX0 kc) s) (σ : CS) (x8 : Int64) (x10 : Int64) (x14 : Int64) (x16 : Int64) (H : Heap) (locs : List Loc) (ls : Array Slot) (h : fX0_keepNearest_L233 σ   x8 x10 x14 x16 = some out) (hP : va_P D vwCl (wX0 kc q σ) H) (hD : va_D A (wX0 kc q σ)) (hS : va_S A s.heap H locs) (hl : lv_has ls 25 [(0, .ref (q 0)), (8, .long x8), (10, .long x10), (14, .long x14), (16, .long x16)]) : W p l e rmX0_keepNearest s m args below meth c H locs 0 0 (MQ below (QMi D (tysX0 kc) (wX0 kc q) A out) args s 0 0 A) (F0 m 233 ls []) := by
  obtain ⟨hx, hb, hr, hml, hown, hts, hlocks⟩ := id C
  unfold fX0_keepNearest_L233 at h
  refine lv_iconst (v := (1 : Int32)) hx hb dX0_keepNearest_233 (by decide) ?_
  refine lv_goto (tgt := 238) hx hb dX0_keepNearest_234 (by decide) ?_
  exact wX0_keepNearest_L238 C hA hK  σ x8 x10 x14 x16 (1 : Int32) H locs ls h hP hD hS (lv_sub hl [0, 1, 2, 3, 4] rfl)
def fX0_keepNearest_L195 (σ : CS)   (x8 : Int64) (x10 : Int64) (x12 : Int64) (x14 : Int64) (x16 : Int64) (x18 : Int64) : Option (Int32 × CS) := (if (x12 * x16) < (x18 * x10) then (fX0_keepNearest_L233 σ x8 x10 x14 x16) else (if (x12 * x16) = (x18 * x10) then (if x16 < x10 then (fX0_keepNearest_L237 σ x8 x10 x14 x16) else (fX0_keepNearest_L233 σ x8 x10 x14 x16)) else (fX0_keepNearest_L237 σ x8 x10 x14 x16)))
set_option maxHeartbeats 4000000 in
set_option maxRecDepth 100000 in
theorem wX0_keepNearest_L195 {p : Program} {l : Launch} {e : Env} {s : State} {m : MethodId} {args : Array Value} {below : List Frame} {meth : Method} {c : Code} {A : Nat → Prop} {D : va_G} {kc : Nat → ClassId} {q : Nat → Nat} {out : Int32 × CS} (C : cxt p s m args meth c RX0 cX0_keepNearest 25 (some .int) wsX0_keepNearest) (hA : ∀ x, s.heap.size ≤ x → A x) (hK : va_K D vwCl (tysX0 kc) s) (σ : CS) (x8 : Int64) (x10 : Int64) (x12 : Int64) (x14 : Int64) (x16 : Int64) (x18 : Int64) (H : Heap) (locs : List Loc) (ls : Array Slot) (h : fX0_keepNearest_L195 σ   x8 x10 x12 x14 x16 x18 = some out) (hP : va_P D vwCl (wX0 kc q σ) H) (hD : va_D A (wX0 kc q σ)) (hS : va_S A s.heap H locs) (hl : lv_has ls 25 [(0, .ref (q 0)), (8, .long x8), (10, .long x10), (12, .long x12), (14, .long x14), (16, .long x16), (18, .long x18)]) : W p l e rmX0_keepNearest s m args below meth c H locs 0 0 (MQ below (QMi D (tysX0 kc) (wX0 kc q) A out) args s 0 0 A) (F0 m 195 ls []) := by
  obtain ⟨hx, hb, hr, hml, hown, hts, hlocks⟩ := id C
  unfold fX0_keepNearest_L195 at h
  refine lv_lload hx hb dX0_keepNearest_195 (lv_at hl 3 rfl) ?_
  refine lv_lload hx hb dX0_keepNearest_197 (lv_at hl 5 rfl) ?_
  refine lv_lmul hx hb dX0_keepNearest_199 ?_
  refine lv_lstore (lv' := [(20, .long (x12 * x16)), (0, .ref (q 0)), (8, .long x8), (10, .long x10), (12, .long x12), (14, .long x14), (16, .long x16), (18, .long x18)]) hx hb dX0_keepNearest_200 hl (by decide) rfl (fun ls hl => ?_)
  refine lv_lload hx hb dX0_keepNearest_202 (lv_at hl 7 rfl) ?_
  refine lv_lload hx hb dX0_keepNearest_204 (lv_at hl 3 rfl) ?_
  refine lv_lmul hx hb dX0_keepNearest_206 ?_
  refine lv_lstore (lv' := [(22, .long (x18 * x10)), (20, .long (x12 * x16)), (0, .ref (q 0)), (8, .long x8), (10, .long x10), (12, .long x12), (14, .long x14), (16, .long x16), (18, .long x18)]) hx hb dX0_keepNearest_207 hl (by decide) rfl (fun ls hl => ?_)
  refine lv_lload hx hb dX0_keepNearest_209 (lv_at hl 1 rfl) ?_
  refine lv_lload hx hb dX0_keepNearest_211 (lv_at hl 0 rfl) ?_
  refine xl_lt (tgt := 233) hx hb dX0_keepNearest_213 dX0_keepNearest_214 (by decide) (fun c1 => ?_) (fun c1 => ?_)
  · replace h := br_p c1 h
    exact wX0_keepNearest_L233 C hA hK  σ x8 x10 x14 x16 H locs ls h hP hD hS (lv_sub hl [2, 3, 4, 6, 7] rfl)
  · replace h := br_n c1 h
    refine lv_lload hx hb dX0_keepNearest_217 (lv_at hl 1 rfl) ?_
    refine lv_lload hx hb dX0_keepNearest_219 (lv_at hl 0 rfl) ?_
    refine xl_ne (tgt := 237) hx hb dX0_keepNearest_221 dX0_keepNearest_222 (by decide) (fun c2 => ?_) (fun c2 => ?_)
    · replace h := br_n c2 h
      exact wX0_keepNearest_L237 C hA hK  σ x8 x10 x14 x16 H locs ls h hP hD hS (lv_sub hl [2, 3, 4, 6, 7] rfl)
    · replace h := br_p c2 h
      refine lv_lload hx hb dX0_keepNearest_225 (lv_at hl 4 rfl) ?_
      refine lv_lload hx hb dX0_keepNearest_227 (lv_at hl 7 rfl) ?_
      refine xl_gt (tgt := 237) hx hb dX0_keepNearest_229 dX0_keepNearest_230 (by decide) (fun c3 => ?_) (fun c3 => ?_)
      · replace h := br_p c3 h
        exact wX0_keepNearest_L237 C hA hK  σ x8 x10 x14 x16 H locs ls h hP hD hS (lv_sub hl [2, 3, 4, 6, 7] rfl)
      · replace h := br_n c3 h
        exact wX0_keepNearest_L233 C hA hK  σ x8 x10 x14 x16 H locs ls h hP hD hS (lv_sub hl [2, 3, 4, 6, 7] rfl)
def fX0_keepNearest_L189 (σ : CS)  (k50 : Int32 × Int64 × Int64 × Int64 × Int64 × Int64 × Int64 × Int32 × CS → Option (Int32 × CS)) (x5 : Int32) (x8 : Int64) (x10 : Int64) (x12 : Int64) (x14 : Int64) (x16 : Int64) (x18 : Int64) (x20 : Int32) : Option (Int32 × CS) := (k50 (x5, x8, x10, x12, x14, x16, x18, (x20 + (1 : Int32)), σ))
set_option maxHeartbeats 4000000 in
set_option maxRecDepth 100000 in
theorem wX0_keepNearest_L189 {p : Program} {l : Launch} {e : Env} {s : State} {m : MethodId} {args : Array Value} {below : List Frame} {meth : Method} {c : Code} {A : Nat → Prop} {D : va_G} {kc : Nat → ClassId} {q : Nat → Nat} {out : Int32 × CS} (C : cxt p s m args meth c RX0 cX0_keepNearest 25 (some .int) wsX0_keepNearest) (hA : ∀ x, s.heap.size ≤ x → A x) (hK : va_K D vwCl (tysX0 kc) s) (k50 : Int32 × Int64 × Int64 × Int64 × Int64 × Int64 × Int64 × Int32 × CS → Option (Int32 × CS)) (hk50 : ∀ (x5 : Int32) (x8 : Int64) (x10 : Int64) (x12 : Int64) (x14 : Int64) (x16 : Int64) (x18 : Int64) (x20 : Int32) (σ : CS) (H : Heap) (locs : List Loc) (ls : Array Slot), k50 (x5, x8, x10, x12, x14, x16, x18, x20, σ) = some out → va_P D vwCl (wX0 kc q σ) H → va_D A (wX0 kc q σ) → va_S A s.heap H locs → lv_has ls 25 [(0, .ref (q 0)), (5, .int x5), (8, .long x8), (10, .long x10), (12, .long x12), (14, .long x14), (16, .long x16), (18, .long x18), (20, .int x20)] → W p l e rmX0_keepNearest s m args below meth c H locs 0 0 (MQ below (QMi D (tysX0 kc) (wX0 kc q) A out) args s 0 0 A) (F0 m 50 ls [])) (σ : CS) (x5 : Int32) (x8 : Int64) (x10 : Int64) (x12 : Int64) (x14 : Int64) (x16 : Int64) (x18 : Int64) (x20 : Int32) (H : Heap) (locs : List Loc) (ls : Array Slot) (h : fX0_keepNearest_L189 σ  k50 x5 x8 x10 x12 x14 x16 x18 x20 = some out) (hP : va_P D vwCl (wX0 kc q σ) H) (hD : va_D A (wX0 kc q σ)) (hS : va_S A s.heap H locs) (hl : lv_has ls 25 [(0, .ref (q 0)), (5, .int x5), (8, .long x8), (10, .long x10), (12, .long x12), (14, .long x14), (16, .long x16), (18, .long x18), (20, .int x20)]) : W p l e rmX0_keepNearest s m args below meth c H locs 0 0 (MQ below (QMi D (tysX0 kc) (wX0 kc q) A out) args s 0 0 A) (F0 m 189 ls []) := by
  obtain ⟨hx, hb, hr, hml, hown, hts, hlocks⟩ := id C
  unfold fX0_keepNearest_L189 at h
  refine lv_iinc (v := (x20 + (1 : Int32))) (lv' := [(20, .int (x20 + (1 : Int32))), (0, .ref (q 0)), (5, .int x5), (8, .long x8), (10, .long x10), (12, .long x12), (14, .long x14), (16, .long x16), (18, .long x18)]) hx hb dX0_keepNearest_189 hl (k := 8) rfl rfl (by decide) rfl (fun ls hl => ?_)
  refine lv_goto (tgt := 50) hx hb dX0_keepNearest_192 (by decide) ?_
  exact hk50 x5 x8 x10 x12 x14 x16 x18 (x20 + (1 : Int32)) σ H locs ls h hP hD hS (lv_sub hl [1, 2, 3, 4, 5, 6, 7, 8, 0] rfl)
def fX0_keepNearest_B50 (σ : CS)   (k50 : Int32 × Int64 × Int64 × Int64 × Int64 × Int64 × Int64 × Int32 × CS → Option (Int32 × CS)) (x5 : Int32) (x8 : Int64) (x10 : Int64) (x12 : Int64) (x14 : Int64) (x16 : Int64) (x18 : Int64) (x20 : Int32) : Option (Int32 × CS) := (if (200 : Int32) ≤ x20 then (fX0_keepNearest_L195 σ x8 x10 x12 x14 x16 x18) else (if (x5.toInt64) < (x10 + x16) then (fX0_keepNearest_L195 σ x8 x10 x12 x14 x16 x18) else (if x12 ≤ (0 : Int64) then (fX0_keepNearest_L195 σ x8 x10 x12 x14 x16 x18) else (if x18 ≤ (0 : Int64) then (fX0_keepNearest_L195 σ x8 x10 x12 x14 x16 x18) else (if x12 ≤ x18 then ((fX0_stepsOf x18 x12 ((x5.toInt64) - x16) x10).bind fun o6 => (fX0_keepNearest_L189 σ k50 x5 x8 x10 x12 (x14 + (o6 * x8)) (x16 + (o6 * x10)) (x18 - (o6 * x12)) x20)) else ((fX0_stepsOf x12 x18 ((x5.toInt64) - x10) x16).bind fun o8 => (fX0_keepNearest_L189 σ k50 x5 (x8 + (o8 * x14)) (x10 + (o8 * x16)) (x12 - (o8 * x18)) x14 x16 x18 x20)))))))
def fX0_keepNearest_L50 (σ : CS)   (x5 : Int32) (x8 : Int64) (x10 : Int64) (x12 : Int64) (x14 : Int64) (x16 : Int64) (x18 : Int64) (x20 : Int32) : Option (Int32 × CS) := lp (fun k t => fX0_keepNearest_B50 t.2.2.2.2.2.2.2.2   k t.1 t.2.1 t.2.2.1 t.2.2.2.1 t.2.2.2.2.1 t.2.2.2.2.2.1 t.2.2.2.2.2.2.1 t.2.2.2.2.2.2.2.1) FU (x5, x8, x10, x12, x14, x16, x18, x20, σ)
set_option maxHeartbeats 4000000 in
set_option maxRecDepth 100000 in
theorem wX0_keepNearest_B50 {p : Program} {l : Launch} {e : Env} {s : State} {m : MethodId} {args : Array Value} {below : List Frame} {meth : Method} {c : Code} {A : Nat → Prop} {D : va_G} {kc : Nat → ClassId} {q : Nat → Nat} {out : Int32 × CS} (C : cxt p s m args meth c RX0 cX0_keepNearest 25 (some .int) wsX0_keepNearest) (hA : ∀ x, s.heap.size ≤ x → A x) (hK : va_K D vwCl (tysX0 kc) s) (k50 : Int32 × Int64 × Int64 × Int64 × Int64 × Int64 × Int64 × Int32 × CS → Option (Int32 × CS)) (hk50 : ∀ (x5 : Int32) (x8 : Int64) (x10 : Int64) (x12 : Int64) (x14 : Int64) (x16 : Int64) (x18 : Int64) (x20 : Int32) (σ : CS) (H : Heap) (locs : List Loc) (ls : Array Slot), k50 (x5, x8, x10, x12, x14, x16, x18, x20, σ) = some out → va_P D vwCl (wX0 kc q σ) H → va_D A (wX0 kc q σ) → va_S A s.heap H locs → lv_has ls 25 [(0, .ref (q 0)), (5, .int x5), (8, .long x8), (10, .long x10), (12, .long x12), (14, .long x14), (16, .long x16), (18, .long x18), (20, .int x20)] → W p l e rmX0_keepNearest s m args below meth c H locs 0 0 (MQ below (QMi D (tysX0 kc) (wX0 kc q) A out) args s 0 0 A) (F0 m 50 ls [])) (σ : CS) (x5 : Int32) (x8 : Int64) (x10 : Int64) (x12 : Int64) (x14 : Int64) (x16 : Int64) (x18 : Int64) (x20 : Int32) (H : Heap) (locs : List Loc) (ls : Array Slot) (h : fX0_keepNearest_B50 σ   k50 x5 x8 x10 x12 x14 x16 x18 x20 = some out) (hP : va_P D vwCl (wX0 kc q σ) H) (hD : va_D A (wX0 kc q σ)) (hS : va_S A s.heap H locs) (hl : lv_has ls 25 [(0, .ref (q 0)), (5, .int x5), (8, .long x8), (10, .long x10), (12, .long x12), (14, .long x14), (16, .long x16), (18, .long x18), (20, .int x20)]) : W p l e rmX0_keepNearest s m args below meth c H locs 0 0 (MQ below (QMi D (tysX0 kc) (wX0 kc q) A out) args s 0 0 A) (F0 m 50 ls []) := by
  obtain ⟨hx, hb, hr, hml, hown, hts, hlocks⟩ := id C
  unfold fX0_keepNearest_B50 at h
  refine lv_iload hx hb dX0_keepNearest_50 (lv_at hl 8 rfl) ?_
  refine lv_sipush (v := (200 : Int32)) hx hb dX0_keepNearest_52 (by decide) ?_
  refine lv_icmp_ge (tgt := 195) hx hb dX0_keepNearest_55 (by decide) (fun c1 => ?_) (fun c1 => ?_)
  · replace h := br_p c1 h
    exact wX0_keepNearest_L195 C hA hK  σ x8 x10 x12 x14 x16 x18 H locs ls h hP hD hS (lv_sub hl [0, 2, 3, 4, 5, 6, 7] rfl)
  · replace h := br_n c1 h
    refine lv_lload hx hb dX0_keepNearest_58 (lv_at hl 3 rfl) ?_
    refine lv_lload hx hb dX0_keepNearest_60 (lv_at hl 6 rfl) ?_
    refine lv_ladd hx hb dX0_keepNearest_62 ?_
    refine lv_iload hx hb dX0_keepNearest_63 (lv_at hl 1 rfl) ?_
    refine lv_i2l (v := (x5.toInt64)) hx hb dX0_keepNearest_65 rfl ?_
    refine xl_gt (tgt := 195) hx hb dX0_keepNearest_66 dX0_keepNearest_67 (by decide) (fun c2 => ?_) (fun c2 => ?_)
    · replace h := br_p c2 h
      exact wX0_keepNearest_L195 C hA hK  σ x8 x10 x12 x14 x16 x18 H locs ls h hP hD hS (lv_sub hl [0, 2, 3, 4, 5, 6, 7] rfl)
    · replace h := br_n c2 h
      refine lv_lload hx hb dX0_keepNearest_70 (lv_at hl 4 rfl) ?_
      refine lv_lconst (v := (0 : Int64)) hx hb dX0_keepNearest_72 (by decide) ?_
      refine xl_le (tgt := 195) hx hb dX0_keepNearest_73 dX0_keepNearest_74 (by decide) (fun c3 => ?_) (fun c3 => ?_)
      · replace h := br_p c3 h
        exact wX0_keepNearest_L195 C hA hK  σ x8 x10 x12 x14 x16 x18 H locs ls h hP hD hS (lv_sub hl [0, 2, 3, 4, 5, 6, 7] rfl)
      · replace h := br_n c3 h
        refine lv_lload hx hb dX0_keepNearest_77 (lv_at hl 7 rfl) ?_
        refine lv_lconst (v := (0 : Int64)) hx hb dX0_keepNearest_79 (by decide) ?_
        refine xl_le (tgt := 195) hx hb dX0_keepNearest_80 dX0_keepNearest_81 (by decide) (fun c4 => ?_) (fun c4 => ?_)
        · replace h := br_p c4 h
          exact wX0_keepNearest_L195 C hA hK  σ x8 x10 x12 x14 x16 x18 H locs ls h hP hD hS (lv_sub hl [0, 2, 3, 4, 5, 6, 7] rfl)
        · replace h := br_n c4 h
          refine lv_lload hx hb dX0_keepNearest_84 (lv_at hl 4 rfl) ?_
          refine lv_lload hx hb dX0_keepNearest_86 (lv_at hl 7 rfl) ?_
          refine xl_le (tgt := 142) hx hb dX0_keepNearest_88 dX0_keepNearest_89 (by decide) (fun c5 => ?_) (fun c5 => ?_)
          · replace h := br_p c5 h
            refine lv_lload hx hb dX0_keepNearest_142 (lv_at hl 7 rfl) ?_
            refine lv_lload hx hb dX0_keepNearest_144 (lv_at hl 4 rfl) ?_
            refine lv_iload hx hb dX0_keepNearest_146 (lv_at hl 1 rfl) ?_
            refine lv_i2l (v := (x5.toInt64)) hx hb dX0_keepNearest_148 rfl ?_
            refine lv_lload hx hb dX0_keepNearest_149 (lv_at hl 6 rfl) ?_
            refine lv_lsub hx hb dX0_keepNearest_151 ?_
            refine lv_lload hx hb dX0_keepNearest_152 (lv_at hl 3 rfl) ?_
            obtain ⟨o6, ho7, h⟩ := bi h
            refine caPl (As := [.long x18, .long x12, .long ((x5.toInt64) - x16), .long x10]) (rest := []) ⟨hx, hb, hml, hown, hts⟩ (mX0_stepsOf l x18 x12 ((x5.toInt64) - x16) x10 o6 ho7) (va_cwS 4 hts gX0_keepNearest_X0_stepsOf rfl rfl rfl (by decide +kernel) ⟨Nat.le_of_ble_eq_true rfl, Nat.le_of_ble_eq_true rfl⟩) rfl hl.1 (Nat.le_of_ble_eq_true rfl) dX0_keepNearest_154 ⟨Nat.zero_le _, Nat.zero_le _⟩ ?_
            refine lv_lstore (lv' := [(21, .long o6), (0, .ref (q 0)), (5, .int x5), (8, .long x8), (10, .long x10), (12, .long x12), (14, .long x14), (16, .long x16), (18, .long x18), (20, .int x20)]) hx hb dX0_keepNearest_157 hl (by decide) rfl (fun ls hl => ?_)
            refine lv_lload hx hb dX0_keepNearest_159 (lv_at hl 6 rfl) ?_
            refine lv_lload hx hb dX0_keepNearest_161 (lv_at hl 0 rfl) ?_
            refine lv_lload hx hb dX0_keepNearest_163 (lv_at hl 3 rfl) ?_
            refine lv_lmul hx hb dX0_keepNearest_165 ?_
            refine lv_ladd hx hb dX0_keepNearest_166 ?_
            refine lv_lstore (lv' := [(14, .long (x14 + (o6 * x8))), (21, .long o6), (0, .ref (q 0)), (5, .int x5), (8, .long x8), (10, .long x10), (12, .long x12), (16, .long x16), (18, .long x18), (20, .int x20)]) hx hb dX0_keepNearest_167 hl (by decide) rfl (fun ls hl => ?_)
            refine lv_lload hx hb dX0_keepNearest_169 (lv_at hl 7 rfl) ?_
            refine lv_lload hx hb dX0_keepNearest_171 (lv_at hl 1 rfl) ?_
            refine lv_lload hx hb dX0_keepNearest_173 (lv_at hl 5 rfl) ?_
            refine lv_lmul hx hb dX0_keepNearest_175 ?_
            refine lv_ladd hx hb dX0_keepNearest_176 ?_
            refine lv_lstore (lv' := [(16, .long (x16 + (o6 * x10))), (14, .long (x14 + (o6 * x8))), (21, .long o6), (0, .ref (q 0)), (5, .int x5), (8, .long x8), (10, .long x10), (12, .long x12), (18, .long x18), (20, .int x20)]) hx hb dX0_keepNearest_177 hl (by decide) rfl (fun ls hl => ?_)
            refine lv_lload hx hb dX0_keepNearest_179 (lv_at hl 8 rfl) ?_
            refine lv_lload hx hb dX0_keepNearest_181 (lv_at hl 2 rfl) ?_
            refine lv_lload hx hb dX0_keepNearest_183 (lv_at hl 7 rfl) ?_
            refine lv_lmul hx hb dX0_keepNearest_185 ?_
            refine lv_lsub hx hb dX0_keepNearest_186 ?_
            refine lv_lstore (lv' := [(18, .long (x18 - (o6 * x12))), (16, .long (x16 + (o6 * x10))), (14, .long (x14 + (o6 * x8))), (21, .long o6), (0, .ref (q 0)), (5, .int x5), (8, .long x8), (10, .long x10), (12, .long x12), (20, .int x20)]) hx hb dX0_keepNearest_187 hl (by decide) rfl (fun ls hl => ?_)
            exact wX0_keepNearest_L189 C hA hK k50 hk50 σ x5 x8 x10 x12 (x14 + (o6 * x8)) (x16 + (o6 * x10)) (x18 - (o6 * x12)) x20 H locs ls h hP hD hS (lv_sub hl [4, 5, 6, 7, 8, 2, 1, 0, 9] rfl)
          · replace h := br_n c5 h
            refine lv_lload hx hb dX0_keepNearest_92 (lv_at hl 4 rfl) ?_
            refine lv_lload hx hb dX0_keepNearest_94 (lv_at hl 7 rfl) ?_
            refine lv_iload hx hb dX0_keepNearest_96 (lv_at hl 1 rfl) ?_
            refine lv_i2l (v := (x5.toInt64)) hx hb dX0_keepNearest_98 rfl ?_
            refine lv_lload hx hb dX0_keepNearest_99 (lv_at hl 3 rfl) ?_
            refine lv_lsub hx hb dX0_keepNearest_101 ?_
            refine lv_lload hx hb dX0_keepNearest_102 (lv_at hl 6 rfl) ?_
            obtain ⟨o8, ho9, h⟩ := bi h
            refine caPl (As := [.long x12, .long x18, .long ((x5.toInt64) - x10), .long x16]) (rest := []) ⟨hx, hb, hml, hown, hts⟩ (mX0_stepsOf l x12 x18 ((x5.toInt64) - x10) x16 o8 ho9) (va_cwS 4 hts gX0_keepNearest_X0_stepsOf rfl rfl rfl (by decide +kernel) ⟨Nat.le_of_ble_eq_true rfl, Nat.le_of_ble_eq_true rfl⟩) rfl hl.1 (Nat.le_of_ble_eq_true rfl) dX0_keepNearest_104 ⟨Nat.zero_le _, Nat.zero_le _⟩ ?_
            refine lv_lstore (lv' := [(21, .long o8), (0, .ref (q 0)), (5, .int x5), (8, .long x8), (10, .long x10), (12, .long x12), (14, .long x14), (16, .long x16), (18, .long x18), (20, .int x20)]) hx hb dX0_keepNearest_107 hl (by decide) rfl (fun ls hl => ?_)
            refine lv_lload hx hb dX0_keepNearest_109 (lv_at hl 3 rfl) ?_
            refine lv_lload hx hb dX0_keepNearest_111 (lv_at hl 0 rfl) ?_
            refine lv_lload hx hb dX0_keepNearest_113 (lv_at hl 6 rfl) ?_
            refine lv_lmul hx hb dX0_keepNearest_115 ?_
            refine lv_ladd hx hb dX0_keepNearest_116 ?_
            refine lv_lstore (lv' := [(8, .long (x8 + (o8 * x14))), (21, .long o8), (0, .ref (q 0)), (5, .int x5), (10, .long x10), (12, .long x12), (14, .long x14), (16, .long x16), (18, .long x18), (20, .int x20)]) hx hb dX0_keepNearest_117 hl (by decide) rfl (fun ls hl => ?_)
            refine lv_lload hx hb dX0_keepNearest_119 (lv_at hl 4 rfl) ?_
            refine lv_lload hx hb dX0_keepNearest_121 (lv_at hl 1 rfl) ?_
            refine lv_lload hx hb dX0_keepNearest_123 (lv_at hl 7 rfl) ?_
            refine lv_lmul hx hb dX0_keepNearest_125 ?_
            refine lv_ladd hx hb dX0_keepNearest_126 ?_
            refine lv_lstore (lv' := [(10, .long (x10 + (o8 * x16))), (8, .long (x8 + (o8 * x14))), (21, .long o8), (0, .ref (q 0)), (5, .int x5), (12, .long x12), (14, .long x14), (16, .long x16), (18, .long x18), (20, .int x20)]) hx hb dX0_keepNearest_127 hl (by decide) rfl (fun ls hl => ?_)
            refine lv_lload hx hb dX0_keepNearest_129 (lv_at hl 5 rfl) ?_
            refine lv_lload hx hb dX0_keepNearest_131 (lv_at hl 2 rfl) ?_
            refine lv_lload hx hb dX0_keepNearest_133 (lv_at hl 8 rfl) ?_
            refine lv_lmul hx hb dX0_keepNearest_135 ?_
            refine lv_lsub hx hb dX0_keepNearest_136 ?_
            refine lv_lstore (lv' := [(12, .long (x12 - (o8 * x18))), (10, .long (x10 + (o8 * x16))), (8, .long (x8 + (o8 * x14))), (21, .long o8), (0, .ref (q 0)), (5, .int x5), (14, .long x14), (16, .long x16), (18, .long x18), (20, .int x20)]) hx hb dX0_keepNearest_137 hl (by decide) rfl (fun ls hl => ?_)
            refine lv_goto (tgt := 189) hx hb dX0_keepNearest_139 (by decide) ?_
            exact wX0_keepNearest_L189 C hA hK k50 hk50 σ x5 (x8 + (o8 * x14)) (x10 + (o8 * x16)) (x12 - (o8 * x18)) x14 x16 x18 x20 H locs ls h hP hD hS (lv_sub hl [4, 5, 2, 1, 0, 6, 7, 8, 9] rfl)
set_option maxHeartbeats 4000000 in
set_option maxRecDepth 100000 in
theorem wX0_keepNearest_L50 {p : Program} {l : Launch} {e : Env} {s : State} {m : MethodId} {args : Array Value} {below : List Frame} {meth : Method} {c : Code} {A : Nat → Prop} {D : va_G} {kc : Nat → ClassId} {q : Nat → Nat} {out : Int32 × CS} (C : cxt p s m args meth c RX0 cX0_keepNearest 25 (some .int) wsX0_keepNearest) (hA : ∀ x, s.heap.size ≤ x → A x) (hK : va_K D vwCl (tysX0 kc) s) (σ : CS) (x5 : Int32) (x8 : Int64) (x10 : Int64) (x12 : Int64) (x14 : Int64) (x16 : Int64) (x18 : Int64) (x20 : Int32) (H : Heap) (locs : List Loc) (ls : Array Slot) (h : fX0_keepNearest_L50 σ   x5 x8 x10 x12 x14 x16 x18 x20 = some out) (hP : va_P D vwCl (wX0 kc q σ) H) (hD : va_D A (wX0 kc q σ)) (hS : va_S A s.heap H locs) (hl : lv_has ls 25 [(0, .ref (q 0)), (5, .int x5), (8, .long x8), (10, .long x10), (12, .long x12), (14, .long x14), (16, .long x16), (18, .long x18), (20, .int x20)]) : W p l e rmX0_keepNearest s m args below meth c H locs 0 0 (MQ below (QMi D (tysX0 kc) (wX0 kc q) A out) args s 0 0 A) (F0 m 50 ls []) := by
  unfold fX0_keepNearest_L50 at h
  exact lp_ind (P := fun t : Int32 × Int64 × Int64 × Int64 × Int64 × Int64 × Int64 × Int32 × CS => ∀ (H : Heap) (locs : List Loc) (ls : Array Slot), va_P D vwCl (wX0 kc q t.2.2.2.2.2.2.2.2) H → va_D A (wX0 kc q t.2.2.2.2.2.2.2.2) → va_S A s.heap H locs → lv_has ls 25 [(0, .ref (q 0)), (5, .int t.1), (8, .long t.2.1), (10, .long t.2.2.1), (12, .long t.2.2.2.1), (14, .long t.2.2.2.2.1), (16, .long t.2.2.2.2.2.1), (18, .long t.2.2.2.2.2.2.1), (20, .int t.2.2.2.2.2.2.2.1)] → W p l e rmX0_keepNearest s m args below meth c H locs 0 0 (MQ below (QMi D (tysX0 kc) (wX0 kc q) A out) args s 0 0 A) (F0 m 50 ls [])) (fun k hk t h H locs ls hP hD hS hl => wX0_keepNearest_B50 C hA hK  k (fun x5 x8 x10 x12 x14 x16 x18 x20 σ H locs ls h hP hD hS hl => hk (x5, x8, x10, x12, x14, x16, x18, x20, σ) h H locs ls hP hD hS hl) t.2.2.2.2.2.2.2.2 t.1 t.2.1 t.2.2.1 t.2.2.2.1 t.2.2.2.2.1 t.2.2.2.2.2.1 t.2.2.2.2.2.2.1 t.2.2.2.2.2.2.2.1 H locs ls h hP hD hS hl) FU (x5, x8, x10, x12, x14, x16, x18, x20, σ) h H locs ls hP hD hS hl
def fX0_keepNearest_L15 (σ : CS)   (x1 : Int64) (x3 : Int64) (x5 : Int32) (y0 : Int64) : Option (Int32 × CS) := (fX0_keepNearest_L50 σ x5 y0 (1 : Int64) (x1 - (y0 * x3)) (y0 + (1 : Int64)) (1 : Int64) (x3 - (x1 - (y0 * x3))) (0 : Int32))
set_option maxHeartbeats 4000000 in
set_option maxRecDepth 100000 in
theorem wX0_keepNearest_L15 {p : Program} {l : Launch} {e : Env} {s : State} {m : MethodId} {args : Array Value} {below : List Frame} {meth : Method} {c : Code} {A : Nat → Prop} {D : va_G} {kc : Nat → ClassId} {q : Nat → Nat} {out : Int32 × CS} (C : cxt p s m args meth c RX0 cX0_keepNearest 25 (some .int) wsX0_keepNearest) (hA : ∀ x, s.heap.size ≤ x → A x) (hK : va_K D vwCl (tysX0 kc) s) (σ : CS) (x1 : Int64) (x3 : Int64) (x5 : Int32) (y0 : Int64) (H : Heap) (locs : List Loc) (ls : Array Slot) (h : fX0_keepNearest_L15 σ   x1 x3 x5 y0 = some out) (hP : va_P D vwCl (wX0 kc q σ) H) (hD : va_D A (wX0 kc q σ)) (hS : va_S A s.heap H locs) (hl : lv_has ls 25 [(0, .ref (q 0)), (1, .long x1), (3, .long x3), (5, .int x5)]) : W p l e rmX0_keepNearest s m args below meth c H locs 0 0 (MQ below (QMi D (tysX0 kc) (wX0 kc q) A out) args s 0 0 A) (F0 m 15 ls [.long y0]) := by
  obtain ⟨hx, hb, hr, hml, hown, hts, hlocks⟩ := id C
  unfold fX0_keepNearest_L15 at h
  refine lv_lstore (lv' := [(6, .long y0), (0, .ref (q 0)), (1, .long x1), (3, .long x3), (5, .int x5)]) hx hb dX0_keepNearest_15 hl (by decide) rfl (fun ls hl => ?_)
  refine lv_lload hx hb dX0_keepNearest_17 (lv_at hl 0 rfl) ?_
  refine lv_lstore (lv' := [(8, .long y0), (6, .long y0), (0, .ref (q 0)), (1, .long x1), (3, .long x3), (5, .int x5)]) hx hb dX0_keepNearest_19 hl (by decide) rfl (fun ls hl => ?_)
  refine lv_lconst (v := (1 : Int64)) hx hb dX0_keepNearest_21 (by decide) ?_
  refine lv_lstore (lv' := [(10, .long (1 : Int64)), (8, .long y0), (6, .long y0), (0, .ref (q 0)), (1, .long x1), (3, .long x3), (5, .int x5)]) hx hb dX0_keepNearest_22 hl (by decide) rfl (fun ls hl => ?_)
  refine lv_lload_n hx hb dX0_keepNearest_24 rfl (lv_at hl 4 rfl) ?_
  refine lv_lload hx hb dX0_keepNearest_25 (lv_at hl 2 rfl) ?_
  refine lv_lload_n hx hb dX0_keepNearest_27 rfl (lv_at hl 5 rfl) ?_
  refine lv_lmul hx hb dX0_keepNearest_28 ?_
  refine lv_lsub hx hb dX0_keepNearest_29 ?_
  refine lv_lstore (lv' := [(12, .long (x1 - (y0 * x3))), (10, .long (1 : Int64)), (8, .long y0), (6, .long y0), (0, .ref (q 0)), (1, .long x1), (3, .long x3), (5, .int x5)]) hx hb dX0_keepNearest_30 hl (by decide) rfl (fun ls hl => ?_)
  refine lv_lload hx hb dX0_keepNearest_32 (lv_at hl 3 rfl) ?_
  refine lv_lconst (v := (1 : Int64)) hx hb dX0_keepNearest_34 (by decide) ?_
  refine lv_ladd hx hb dX0_keepNearest_35 ?_
  refine lv_lstore (lv' := [(14, .long (y0 + (1 : Int64))), (12, .long (x1 - (y0 * x3))), (10, .long (1 : Int64)), (8, .long y0), (6, .long y0), (0, .ref (q 0)), (1, .long x1), (3, .long x3), (5, .int x5)]) hx hb dX0_keepNearest_36 hl (by decide) rfl (fun ls hl => ?_)
  refine lv_lconst (v := (1 : Int64)) hx hb dX0_keepNearest_38 (by decide) ?_
  refine lv_lstore (lv' := [(16, .long (1 : Int64)), (14, .long (y0 + (1 : Int64))), (12, .long (x1 - (y0 * x3))), (10, .long (1 : Int64)), (8, .long y0), (6, .long y0), (0, .ref (q 0)), (1, .long x1), (3, .long x3), (5, .int x5)]) hx hb dX0_keepNearest_39 hl (by decide) rfl (fun ls hl => ?_)
  refine lv_lload_n hx hb dX0_keepNearest_41 rfl (lv_at hl 8 rfl) ?_
  refine lv_lload hx hb dX0_keepNearest_42 (lv_at hl 2 rfl) ?_
  refine lv_lsub hx hb dX0_keepNearest_44 ?_
  refine lv_lstore (lv' := [(18, .long (x3 - (x1 - (y0 * x3)))), (16, .long (1 : Int64)), (14, .long (y0 + (1 : Int64))), (12, .long (x1 - (y0 * x3))), (10, .long (1 : Int64)), (8, .long y0), (6, .long y0), (0, .ref (q 0)), (1, .long x1), (3, .long x3), (5, .int x5)]) hx hb dX0_keepNearest_45 hl (by decide) rfl (fun ls hl => ?_)
  refine lv_iconst (v := (0 : Int32)) hx hb dX0_keepNearest_47 (by decide) ?_
  refine lv_istore (lv' := [(20, .int (0 : Int32)), (18, .long (x3 - (x1 - (y0 * x3)))), (16, .long (1 : Int64)), (14, .long (y0 + (1 : Int64))), (12, .long (x1 - (y0 * x3))), (10, .long (1 : Int64)), (8, .long y0), (6, .long y0), (0, .ref (q 0)), (1, .long x1), (3, .long x3), (5, .int x5)]) hx hb dX0_keepNearest_48 hl (by decide) rfl (fun ls hl => ?_)
  exact wX0_keepNearest_L50 C hA hK  σ x5 y0 (1 : Int64) (x1 - (y0 * x3)) (y0 + (1 : Int64)) (1 : Int64) (x3 - (x1 - (y0 * x3))) (0 : Int32) H locs ls h hP hD hS (lv_sub hl [8, 11, 6, 5, 4, 3, 2, 1, 0] rfl)
def fX0_keepNearest (σ : CS)  (x1 : Int64) (x3 : Int64) (x5 : Int32) : Option (Int32 × CS) := (if x3 ≤ (0 : Int64) then (fX0_keepNearest_L15 σ x1 x3 x5 (0 : Int64)) else ((fJ9_floorDiv_f86c9 x1 x3).bind fun o2 => (fX0_keepNearest_L15 σ x1 x3 x5 o2)))
set_option maxHeartbeats 4000000 in
set_option maxRecDepth 100000 in
theorem mX0_keepNearest (l : Launch) (D : va_G) (kc : Nat → ClassId) (q : Nat → Nat) (σ : CS) (x1 : Int64) (x3 : Int64) (x5 : Int32) (out : Int32 × CS) (h : fX0_keepNearest σ  x1 x3 x5 = some out) : MMi l yX0_keepNearest wsX0_keepNearest rmX0_keepNearest D (tysX0 kc) (wX0 kc q) σ [.ref (q 0), .long x1, .long x3, .int x5] out := by
  refine ofMi (cc := cX0_keepNearest) (maxL := 25) (ret := (some .int)) (lv := [(0, .ref (q 0)), (1, .long x1), (3, .long x3), (5, .int x5)]) (by decide) rfl (Nat.le_of_ble_eq_true rfl) rfl ?_
  intro p e s m args below meth c A C hA hK hP hD hS ls hl
  have C : cxt p s m args meth c RX0 cX0_keepNearest 25 (some .int) wsX0_keepNearest := C
  obtain ⟨hx, hb, hr, hml, hown, hts, hlocks⟩ := id C
  obtain ⟨H, hH⟩ : ∃ H, H = s.heap := ⟨_, rfl⟩
  obtain ⟨locs, hlocs⟩ : ∃ locs : List Loc, locs = [] := ⟨_, rfl⟩
  have hS : va_S A s.heap H locs := by rw [hH, hlocs]; exact va_S.rf
  rw [← hH] at hP
  suffices hW : W p l e rmX0_keepNearest s m args below meth c H locs 0 0 _ (F0 m 0 ls []) by rw [hH, hlocs] at hW; exact hW
  unfold fX0_keepNearest at h
  refine lv_lload_n hx hb dX0_keepNearest_0 rfl (lv_at hl 2 rfl) ?_
  refine lv_lconst (v := (0 : Int64)) hx hb dX0_keepNearest_1 (by decide) ?_
  refine xl_le (tgt := 14) hx hb dX0_keepNearest_2 dX0_keepNearest_3 (by decide) (fun c1 => ?_) (fun c1 => ?_)
  · replace h := br_p c1 h
    refine lv_lconst (v := (0 : Int64)) hx hb dX0_keepNearest_14 (by decide) ?_
    exact wX0_keepNearest_L15 C hA hK  σ x1 x3 x5 (0 : Int64) H locs ls h hP hD hS (lv_sub hl [0, 1, 2, 3] rfl)
  · replace h := br_n c1 h
    refine lv_lload_n hx hb dX0_keepNearest_6 rfl (lv_at hl 1 rfl) ?_
    refine lv_lload_n hx hb dX0_keepNearest_7 rfl (lv_at hl 2 rfl) ?_
    obtain ⟨o2, ho3, h⟩ := bi h
    refine caPl (As := [.long x1, .long x3]) (rest := []) ⟨hx, hb, hml, hown, hts⟩ (mJ9_floorDiv_f86c9 l x1 x3 o2 ho3) (va_cwS 2 hts gX0_keepNearest_J9_floorDiv_f86c9 rfl rfl rfl (by decide +kernel) ⟨Nat.le_of_ble_eq_true rfl, Nat.le_of_ble_eq_true rfl⟩) rfl hl.1 (Nat.le_of_ble_eq_true rfl) dX0_keepNearest_8 ⟨Nat.zero_le _, Nat.zero_le _⟩ ?_
    refine lv_goto (tgt := 15) hx hb dX0_keepNearest_11 (by decide) ?_
    exact wX0_keepNearest_L15 C hA hK  σ x1 x3 x5 o2 H locs ls h hP hD hS (lv_sub hl [0, 1, 2, 3] rfl)
abbrev rmX0_near : Room := { frames := 4, cells := 0, slots := 0, locals := 180 }
theorem hinX0_near : ∀ w ∈ u_ws RX0 TX0 13, w ∈ wsX0_near := by first | exact fun _ h => List.mem_cons_of_mem _ (List.mem_append_right _ h) | exact fun _ h => List.mem_cons_of_mem _ (List.mem_append_left _ (List.mem_append_right _ h)) | decide +kernel
def fX0_near (σ : CS)  (x1 : Int32) (x2 : Int32) : Option (Int32 × CS) := ((fX0_isNumber σ x1).bind fun o1 => (if o1 = (0 : Int32) then (some ((-1 : Int32), σ)) else (if x2 < (1 : Int32) then (some ((-1 : Int32), σ)) else (if x2 ≤ (1000000 : Int32) then (if ix x1 40 = true then (if (x2.toInt64) < ((c_below σ) x1.toNatClampNeg) then (if ix x1 40 = true then (if ix x1 40 = true then ((fX0_keepNearest σ ((c_above σ) x1.toNatClampNeg) ((c_below σ) x1.toNatClampNeg) x2).bind fun o10 => (some (o10.1, o10.2))) else none) else none) else (if ix x1 40 = true then (if ix x1 40 = true then ((fX0_keep σ ((c_above σ) x1.toNatClampNeg) ((c_below σ) x1.toNatClampNeg)).bind fun o14 => (some (o14.1, o14.2))) else none) else none)) else none) else (some ((-1 : Int32), σ))))))
set_option maxHeartbeats 4000000 in
set_option maxRecDepth 100000 in
theorem mX0_near (l : Launch) (D : va_G) (kc : Nat → ClassId) (q : Nat → Nat) (σ : CS) (x1 : Int32) (x2 : Int32) (out : Int32 × CS) (h : fX0_near σ  x1 x2 = some out) : MMi l yX0_near wsX0_near rmX0_near D (tysX0 kc) (wX0 kc q) σ [.ref (q 0), .int x1, .int x2] out := by
  refine ofMi (cc := cX0_near) (maxL := 3) (ret := (some .int)) (lv := [(0, .ref (q 0)), (1, .int x1), (2, .int x2)]) (by decide) rfl (Nat.le_of_ble_eq_true rfl) rfl ?_
  intro p e s m args below meth c A C hA hK hP hD hS ls hl
  have C : cxt p s m args meth c RX0 cX0_near 3 (some .int) wsX0_near := C
  obtain ⟨hx, hb, hr, hml, hown, hts, hlocks⟩ := id C
  obtain ⟨H, hH⟩ : ∃ H, H = s.heap := ⟨_, rfl⟩
  obtain ⟨locs, hlocs⟩ : ∃ locs : List Loc, locs = [] := ⟨_, rfl⟩
  have hS : va_S A s.heap H locs := by rw [hH, hlocs]; exact va_S.rf
  rw [← hH] at hP
  suffices hW : W p l e rmX0_near s m args below meth c H locs 0 0 _ (F0 m 0 ls []) by rw [hH, hlocs] at hW; exact hW
  unfold fX0_near at h
  refine lv_aload_n hx hb dX0_near_0 rfl (lv_at hl 0 rfl) ?_
  refine lv_iload_n hx hb dX0_near_1 rfl (lv_at hl 1 rfl) ?_
  obtain ⟨o1, ho2, h⟩ := bi h
  refine caRi (q0 := 0) (As := [.int x1]) (rest := []) ⟨hx, hb, hml, hown, hts⟩ (mX0_isNumber l D kc q σ x1 o1 ho2) (cwV 1 hts gX0_near_X0_isNumber rfl rfl rfl (by decide +kernel) ⟨Nat.le_of_ble_eq_true rfl, Nat.le_of_ble_eq_true rfl⟩) hK hP rfl rfl rfl rfl hl.1 (Nat.le_of_ble_eq_true rfl) dX0_near_2 ⟨Nat.zero_le _, Nat.zero_le _⟩ ?_
  refine lv_if_eq (tgt := 19) hx hb dX0_near_5 (by decide) (fun c3 => ?_) (fun c3 => ?_)
  · replace h := br_p c3 h
    refine lv_iconst (v := (-1 : Int32)) hx hb dX0_near_19 (by decide) ?_
    exact reMi (v := (-1 : Int32)) hx hb hr hlocks hK hP hD hS h dX0_near_20
  · replace h := br_n c3 h
    refine lv_iload_n hx hb dX0_near_8 rfl (lv_at hl 2 rfl) ?_
    refine lv_iconst (v := (1 : Int32)) hx hb dX0_near_9 (by decide) ?_
    refine lv_icmp_lt (tgt := 19) hx hb dX0_near_10 (by decide) (fun c4 => ?_) (fun c4 => ?_)
    · replace h := br_p c4 h
      refine lv_iconst (v := (-1 : Int32)) hx hb dX0_near_19 (by decide) ?_
      exact reMi (v := (-1 : Int32)) hx hb hr hlocks hK hP hD hS h dX0_near_20
    · replace h := br_n c4 h
      refine lv_iload_n hx hb dX0_near_13 rfl (lv_at hl 2 rfl) ?_
      refine lv_ldc (v := (1000000 : Int32)) hx hb hown (hts (.constant RX0 79 (1000000)) (List.mem_of_getElem? (i := 1) rfl)) dX0_near_14 ?_
      refine lv_icmp_le (tgt := 21) hx hb dX0_near_16 (by decide) (fun c5 => ?_) (fun c5 => ?_)
      · replace h := br_p c5 h
        refine lv_aload_n hx hb dX0_near_21 rfl (lv_at hl 0 rfl) ?_
        refine rdX0_below hx hb hts hinX0_near hown hK hP (hts (.fieldLink RX0 15 "ExactShares" "below" "[J") (List.mem_of_getElem? (i := 2) rfl)) dX0_near_22 ?_
        refine lv_iload_n hx hb dX0_near_25 rfl (lv_at hl 1 rfl) ?_
        obtain ⟨g6, h⟩ := gd_t h
        refine ldX0_below hx hb hK hP g6 dX0_near_26 ?_
        refine lv_iload_n hx hb dX0_near_27 rfl (lv_at hl 2 rfl) ?_
        refine lv_i2l (v := (x2.toInt64)) hx hb dX0_near_28 rfl ?_
        refine xl_gt (tgt := 50) hx hb dX0_near_29 dX0_near_30 (by decide) (fun c7 => ?_) (fun c7 => ?_)
        · replace h := br_p c7 h
          refine lv_aload_n hx hb dX0_near_50 rfl (lv_at hl 0 rfl) ?_
          refine lv_aload_n hx hb dX0_near_51 rfl (lv_at hl 0 rfl) ?_
          refine rdX0_above hx hb hts hinX0_near hown hK hP (hts (.fieldLink RX0 11 "ExactShares" "above" "[J") (List.mem_of_getElem? (i := 3) rfl)) dX0_near_52 ?_
          refine lv_iload_n hx hb dX0_near_55 rfl (lv_at hl 1 rfl) ?_
          obtain ⟨g8, h⟩ := gd_t h
          refine ldX0_above hx hb hK hP g8 dX0_near_56 ?_
          refine lv_aload_n hx hb dX0_near_57 rfl (lv_at hl 0 rfl) ?_
          refine rdX0_below hx hb hts hinX0_near hown hK hP (hts (.fieldLink RX0 15 "ExactShares" "below" "[J") (List.mem_of_getElem? (i := 2) rfl)) dX0_near_58 ?_
          refine lv_iload_n hx hb dX0_near_61 rfl (lv_at hl 1 rfl) ?_
          obtain ⟨g9, h⟩ := gd_t h
          refine ldX0_below hx hb hK hP g9 dX0_near_62 ?_
          refine lv_iload_n hx hb dX0_near_63 rfl (lv_at hl 2 rfl) ?_
          obtain ⟨o10, ho11, h⟩ := bi h
          refine caMi (q0 := 0) (As := [.long ((c_above σ) x1.toNatClampNeg), .long ((c_below σ) x1.toNatClampNeg), .int x2]) (rest := []) ⟨hx, hb, hml, hown, hts⟩ (mX0_keepNearest l D kc q σ ((c_above σ) x1.toNatClampNeg) ((c_below σ) x1.toNatClampNeg) x2 o10 ho11) (cwV 3 hts gX0_near_X0_keepNearest rfl rfl rfl (by decide +kernel) ⟨Nat.le_of_ble_eq_true rfl, Nat.le_of_ble_eq_true rfl⟩) hK hP hD hS hA rfl rfl rfl rfl hl.1 (Nat.le_of_ble_eq_true rfl) dX0_near_64 ⟨Nat.zero_le _, Nat.zero_le _⟩ (fun H locs hP hD hS => ?_)
          exact reMi (v := o10.1) hx hb hr hlocks hK hP hD hS h dX0_near_67
        · replace h := br_n c7 h
          refine lv_aload_n hx hb dX0_near_33 rfl (lv_at hl 0 rfl) ?_
          refine lv_aload_n hx hb dX0_near_34 rfl (lv_at hl 0 rfl) ?_
          refine rdX0_above hx hb hts hinX0_near hown hK hP (hts (.fieldLink RX0 11 "ExactShares" "above" "[J") (List.mem_of_getElem? (i := 3) rfl)) dX0_near_35 ?_
          refine lv_iload_n hx hb dX0_near_38 rfl (lv_at hl 1 rfl) ?_
          obtain ⟨g12, h⟩ := gd_t h
          refine ldX0_above hx hb hK hP g12 dX0_near_39 ?_
          refine lv_aload_n hx hb dX0_near_40 rfl (lv_at hl 0 rfl) ?_
          refine rdX0_below hx hb hts hinX0_near hown hK hP (hts (.fieldLink RX0 15 "ExactShares" "below" "[J") (List.mem_of_getElem? (i := 2) rfl)) dX0_near_41 ?_
          refine lv_iload_n hx hb dX0_near_44 rfl (lv_at hl 1 rfl) ?_
          obtain ⟨g13, h⟩ := gd_t h
          refine ldX0_below hx hb hK hP g13 dX0_near_45 ?_
          obtain ⟨o14, ho15, h⟩ := bi h
          refine caMi (q0 := 0) (As := [.long ((c_above σ) x1.toNatClampNeg), .long ((c_below σ) x1.toNatClampNeg)]) (rest := []) ⟨hx, hb, hml, hown, hts⟩ (mX0_keep l D kc q σ ((c_above σ) x1.toNatClampNeg) ((c_below σ) x1.toNatClampNeg) o14 ho15) (cwV 2 hts gX0_near_X0_keep rfl rfl rfl (by decide +kernel) ⟨Nat.le_of_ble_eq_true rfl, Nat.le_of_ble_eq_true rfl⟩) hK hP hD hS hA rfl rfl rfl rfl hl.1 (Nat.le_of_ble_eq_true rfl) dX0_near_46 ⟨Nat.zero_le _, Nat.zero_le _⟩ (fun H locs hP hD hS => ?_)
          exact reMi (v := o14.1) hx hb hr hlocks hK hP hD hS h dX0_near_49
      · replace h := br_n c5 h
        refine lv_iconst (v := (-1 : Int32)) hx hb dX0_near_19 (by decide) ?_
        exact reMi (v := (-1 : Int32)) hx hb hr hlocks hK hP hD hS h dX0_near_20
abbrev rmX0_power : Room := { frames := 2, cells := 0, slots := 0, locals := 103 }
def fX0_power_B5    (k5 : Int64 × Int32 × Int64 × Int32 → Option (Int64)) (x0 : Int64) (x2 : Int32) (x3 : Int64) (x5 : Int32) : Option (Int64) := (if x2 ≤ x5 then (some x3) else ((fX0_times x3 x0).bind fun o2 => (k5 (x0, x2, o2, (x5 + (1 : Int32))))))
def fX0_power_L5    (x0 : Int64) (x2 : Int32) (x3 : Int64) (x5 : Int32) : Option (Int64) := lp (fun k t => fX0_power_B5    k t.1 t.2.1 t.2.2.1 t.2.2.2) FU (x0, x2, x3, x5)
set_option maxHeartbeats 4000000 in
set_option maxRecDepth 100000 in
theorem wX0_power_B5 {p : Program} {l : Launch} {e : Env} {s : State} {m : MethodId} {args : Array Value} {below : List Frame} {meth : Method} {c : Code} {out : Int64} (C : cxt p s m args meth c RX0 cX0_power 6 (some .long) wsX0_power) (k5 : Int64 × Int32 × Int64 × Int32 → Option (Int64)) (hk5 : ∀ (x0 : Int64) (x2 : Int32) (x3 : Int64) (x5 : Int32) (ls : Array Slot), k5 (x0, x2, x3, x5) = some out → lv_has ls 6 [(0, .long x0), (2, .int x2), (3, .long x3), (5, .int x5)] → W p l e rmX0_power s m args below meth c s.heap [] 0 0 (MQ below (QRl out) args s 0 0 (fun _ => False)) (F0 m 5 ls [])) (x0 : Int64) (x2 : Int32) (x3 : Int64) (x5 : Int32) (ls : Array Slot) (h : fX0_power_B5   k5 x0 x2 x3 x5 = some out) (hl : lv_has ls 6 [(0, .long x0), (2, .int x2), (3, .long x3), (5, .int x5)]) : W p l e rmX0_power s m args below meth c s.heap [] 0 0 (MQ below (QRl out) args s 0 0 (fun _ => False)) (F0 m 5 ls []) := by
  obtain ⟨hx, hb, hr, hml, hown, hts, hlocks⟩ := id C
  unfold fX0_power_B5 at h
  refine lv_iload hx hb dX0_power_5 (lv_at hl 3 rfl) ?_
  refine lv_iload_n hx hb dX0_power_7 rfl (lv_at hl 1 rfl) ?_
  refine lv_icmp_ge (tgt := 23) hx hb dX0_power_8 (by decide) (fun c1 => ?_) (fun c1 => ?_)
  · replace h := br_p c1 h
    refine lv_lload_n hx hb dX0_power_23 rfl (lv_at hl 2 rfl) ?_
    exact reRl (v := x3) hx hb hr hlocks h dX0_power_24
  · replace h := br_n c1 h
    refine lv_lload_n hx hb dX0_power_11 rfl (lv_at hl 2 rfl) ?_
    refine lv_lload_n hx hb dX0_power_12 rfl (lv_at hl 0 rfl) ?_
    obtain ⟨o2, ho3, h⟩ := bi h
    refine caPl (As := [.long x3, .long x0]) (rest := []) ⟨hx, hb, hml, hown, hts⟩ (mX0_times l x3 x0 o2 ho3) (va_cwS 2 hts gX0_power_X0_times rfl rfl rfl (by decide +kernel) ⟨Nat.le_of_ble_eq_true rfl, Nat.le_of_ble_eq_true rfl⟩) rfl hl.1 (Nat.le_of_ble_eq_true rfl) dX0_power_13 ⟨Nat.zero_le _, Nat.zero_le _⟩ ?_
    refine lv_lstore_n (lv' := [(3, .long o2), (0, .long x0), (2, .int x2), (5, .int x5)]) hx hb dX0_power_16 rfl hl (by decide) rfl (fun ls hl => ?_)
    refine lv_iinc (v := (x5 + (1 : Int32))) (lv' := [(5, .int (x5 + (1 : Int32))), (3, .long o2), (0, .long x0), (2, .int x2)]) hx hb dX0_power_17 hl (k := 3) rfl rfl (by decide) rfl (fun ls hl => ?_)
    refine lv_goto (tgt := 5) hx hb dX0_power_20 (by decide) ?_
    exact hk5 x0 x2 o2 (x5 + (1 : Int32)) ls h (lv_sub hl [2, 3, 1, 0] rfl)
set_option maxHeartbeats 4000000 in
set_option maxRecDepth 100000 in
theorem wX0_power_L5 {p : Program} {l : Launch} {e : Env} {s : State} {m : MethodId} {args : Array Value} {below : List Frame} {meth : Method} {c : Code} {out : Int64} (C : cxt p s m args meth c RX0 cX0_power 6 (some .long) wsX0_power) (x0 : Int64) (x2 : Int32) (x3 : Int64) (x5 : Int32) (ls : Array Slot) (h : fX0_power_L5   x0 x2 x3 x5 = some out) (hl : lv_has ls 6 [(0, .long x0), (2, .int x2), (3, .long x3), (5, .int x5)]) : W p l e rmX0_power s m args below meth c s.heap [] 0 0 (MQ below (QRl out) args s 0 0 (fun _ => False)) (F0 m 5 ls []) := by
  unfold fX0_power_L5 at h
  exact lp_ind (P := fun t : Int64 × Int32 × Int64 × Int32 => ∀ ls : Array Slot, lv_has ls 6 [(0, .long t.1), (2, .int t.2.1), (3, .long t.2.2.1), (5, .int t.2.2.2)] → W p l e rmX0_power s m args below meth c s.heap [] 0 0 (MQ below (QRl out) args s 0 0 (fun _ => False)) (F0 m 5 ls [])) (fun k hk t h ls hl => wX0_power_B5 C  k (fun x0 x2 x3 x5 ls h hl => hk (x0, x2, x3, x5) h ls hl) t.1 t.2.1 t.2.2.1 t.2.2.2 ls h hl) FU (x0, x2, x3, x5) h ls hl
def fX0_power  (x0 : Int64) (x2 : Int32) : Option (Int64) := (fX0_power_L5 x0 x2 (1 : Int64) (0 : Int32))
set_option maxHeartbeats 4000000 in
set_option maxRecDepth 100000 in
theorem mX0_power (l : Launch) (x0 : Int64) (x2 : Int32) (out : Int64) (h : fX0_power  x0 x2 = some out) : MPl l yX0_power wsX0_power rmX0_power [.long x0, .int x2] out := by
  refine ofPl (cc := cX0_power) (maxL := 6) (ret := (some .long)) (lv := [(0, .long x0), (2, .int x2)]) (plainFor_of_name (by decide)) rfl (Nat.le_of_ble_eq_true rfl) rfl ?_
  intro p e s m args below meth c C ls hl
  have C : cxt p s m args meth c RX0 cX0_power 6 (some .long) wsX0_power := C
  obtain ⟨hx, hb, hr, hml, hown, hts, hlocks⟩ := id C
  unfold fX0_power at h
  refine lv_lconst (v := (1 : Int64)) hx hb dX0_power_0 (by decide) ?_
  refine lv_lstore_n (lv' := [(3, .long (1 : Int64)), (0, .long x0), (2, .int x2)]) hx hb dX0_power_1 rfl hl (by decide) rfl (fun ls hl => ?_)
  refine lv_iconst (v := (0 : Int32)) hx hb dX0_power_2 (by decide) ?_
  refine lv_istore (lv' := [(5, .int (0 : Int32)), (3, .long (1 : Int64)), (0, .long x0), (2, .int x2)]) hx hb dX0_power_3 hl (by decide) rfl (fun ls hl => ?_)
  exact wX0_power_L5 C  x0 x2 (1 : Int64) (0 : Int32) ls h (lv_sub hl [2, 3, 1, 0] rfl)
abbrev rmX0_cut : Room := { frames := 3, cells := 0, slots := 0, locals := 128 }
theorem hinX0_cut : ∀ w ∈ u_ws RX0 TX0 13, w ∈ wsX0_cut := by first | exact fun _ h => List.mem_cons_of_mem _ (List.mem_append_right _ h) | exact fun _ h => List.mem_cons_of_mem _ (List.mem_append_left _ (List.mem_append_right _ h)) | decide +kernel
def fX0_cut (σ : CS)  (x1 : Int32) (x2 : Int32) (x3 : Int32) : Option (Int64) := ((fX0_isNumber σ x1).bind fun o1 => (if o1 = (0 : Int32) then (some (-9223372036854775808 : Int64)) else (if x2 < (0 : Int32) then (some (-9223372036854775808 : Int64)) else (if x2 ≤ (15 : Int32) then (if ix x1 40 = true then ((fX0_power (10 : Int64) x2).bind fun o7 => ((fX0_times ((c_above σ) x1.toNatClampNeg) o7).bind fun o9 => (if o9 = (-9223372036854775808 : Int64) then (some (-9223372036854775808 : Int64)) else (if ix x1 40 = true then (if (1 : Int64) ≤ ((c_below σ) x1.toNatClampNeg) then (if x3 = (0 : Int32) then (if ix x1 40 = true then ((fJ9_floorDiv_f86c9 o9 ((c_below σ) x1.toNatClampNeg)).bind fun o16 => (some o16)) else none) else (if ix x1 40 = true then ((fJ9_floorDiv_f86c9 (-o9) ((c_below σ) x1.toNatClampNeg)).bind fun o19 => (some (-o19))) else none)) else (some (-9223372036854775808 : Int64))) else none)))) else none) else (some (-9223372036854775808 : Int64))))))
set_option maxHeartbeats 4000000 in
set_option maxRecDepth 100000 in
theorem mX0_cut (l : Launch) (D : va_G) (kc : Nat → ClassId) (q : Nat → Nat) (σ : CS) (x1 : Int32) (x2 : Int32) (x3 : Int32) (out : Int64) (h : fX0_cut σ  x1 x2 x3 = some out) : MRl l yX0_cut wsX0_cut rmX0_cut D (tysX0 kc) (wX0 kc q σ) [.ref (q 0), .int x1, .int x2, .int x3] out := by
  refine ofRl (cc := cX0_cut) (maxL := 6) (ret := (some .long)) (lv := [(0, .ref (q 0)), (1, .int x1), (2, .int x2), (3, .int x3)]) (by decide) rfl (Nat.le_of_ble_eq_true rfl) rfl ?_
  intro p e s m args below meth c C hK hP ls hl
  have C : cxt p s m args meth c RX0 cX0_cut 6 (some .long) wsX0_cut := C
  obtain ⟨hx, hb, hr, hml, hown, hts, hlocks⟩ := id C
  unfold fX0_cut at h
  refine lv_aload_n hx hb dX0_cut_0 rfl (lv_at hl 0 rfl) ?_
  refine lv_iload_n hx hb dX0_cut_1 rfl (lv_at hl 1 rfl) ?_
  obtain ⟨o1, ho2, h⟩ := bi h
  refine caRi (q0 := 0) (As := [.int x1]) (rest := []) ⟨hx, hb, hml, hown, hts⟩ (mX0_isNumber l D kc q σ x1 o1 ho2) (cwV 1 hts gX0_cut_X0_isNumber rfl rfl rfl (by decide +kernel) ⟨Nat.le_of_ble_eq_true rfl, Nat.le_of_ble_eq_true rfl⟩) hK hP rfl rfl rfl rfl hl.1 (Nat.le_of_ble_eq_true rfl) dX0_cut_2 ⟨Nat.zero_le _, Nat.zero_le _⟩ ?_
  refine lv_if_eq (tgt := 18) hx hb dX0_cut_5 (by decide) (fun c3 => ?_) (fun c3 => ?_)
  · replace h := br_p c3 h
    refine lv_ldc2 (v := (-9223372036854775808 : Int64)) hx hb hown (hts (.constantLong RX0 36 (-9223372036854775808)) (List.mem_of_getElem? (i := 1) rfl)) dX0_cut_18 ?_
    exact reRl (v := (-9223372036854775808 : Int64)) hx hb hr hlocks h dX0_cut_21
  · replace h := br_n c3 h
    refine lv_iload_n hx hb dX0_cut_8 rfl (lv_at hl 2 rfl) ?_
    refine lv_if_lt (tgt := 18) hx hb dX0_cut_9 (by decide) (fun c4 => ?_) (fun c4 => ?_)
    · replace h := br_p c4 h
      refine lv_ldc2 (v := (-9223372036854775808 : Int64)) hx hb hown (hts (.constantLong RX0 36 (-9223372036854775808)) (List.mem_of_getElem? (i := 1) rfl)) dX0_cut_18 ?_
      exact reRl (v := (-9223372036854775808 : Int64)) hx hb hr hlocks h dX0_cut_21
    · replace h := br_n c4 h
      refine lv_iload_n hx hb dX0_cut_12 rfl (lv_at hl 2 rfl) ?_
      refine lv_bipush (v := (15 : Int32)) hx hb dX0_cut_13 (by decide) ?_
      refine lv_icmp_le (tgt := 22) hx hb dX0_cut_15 (by decide) (fun c5 => ?_) (fun c5 => ?_)
      · replace h := br_p c5 h
        refine lv_aload_n hx hb dX0_cut_22 rfl (lv_at hl 0 rfl) ?_
        refine rdX0_above hx hb hts hinX0_cut hown hK hP (hts (.fieldLink RX0 11 "ExactShares" "above" "[J") (List.mem_of_getElem? (i := 2) rfl)) dX0_cut_23 ?_
        refine lv_iload_n hx hb dX0_cut_26 rfl (lv_at hl 1 rfl) ?_
        obtain ⟨g6, h⟩ := gd_t h
        refine ldX0_above hx hb hK hP g6 dX0_cut_27 ?_
        refine lv_ldc2 (v := (10 : Int64)) hx hb hown (hts (.constantLong RX0 84 (10)) (List.mem_of_getElem? (i := 3) rfl)) dX0_cut_28 ?_
        refine lv_iload_n hx hb dX0_cut_31 rfl (lv_at hl 2 rfl) ?_
        obtain ⟨o7, ho8, h⟩ := bi h
        refine caPl (As := [.long (10 : Int64), .int x2]) (rest := [.long ((c_above σ) x1.toNatClampNeg)]) ⟨hx, hb, hml, hown, hts⟩ (mX0_power l (10 : Int64) x2 o7 ho8) (va_cwS 2 hts gX0_cut_X0_power rfl rfl rfl (by decide +kernel) ⟨Nat.le_of_ble_eq_true rfl, Nat.le_of_ble_eq_true rfl⟩) rfl hl.1 (Nat.le_of_ble_eq_true rfl) dX0_cut_32 ⟨Nat.zero_le _, Nat.zero_le _⟩ ?_
        obtain ⟨o9, ho10, h⟩ := bi h
        refine caPl (As := [.long ((c_above σ) x1.toNatClampNeg), .long o7]) (rest := []) ⟨hx, hb, hml, hown, hts⟩ (mX0_times l ((c_above σ) x1.toNatClampNeg) o7 o9 ho10) (va_cwS 2 hts gX0_cut_X0_times rfl rfl rfl (by decide +kernel) ⟨Nat.le_of_ble_eq_true rfl, Nat.le_of_ble_eq_true rfl⟩) rfl hl.1 (Nat.le_of_ble_eq_true rfl) dX0_cut_35 ⟨Nat.zero_le _, Nat.zero_le _⟩ ?_
        refine lv_lstore (lv' := [(4, .long o9), (0, .ref (q 0)), (1, .int x1), (2, .int x2), (3, .int x3)]) hx hb dX0_cut_38 hl (by decide) rfl (fun ls hl => ?_)
        refine lv_lload hx hb dX0_cut_40 (lv_at hl 0 rfl) ?_
        refine lv_ldc2 (v := (-9223372036854775808 : Int64)) hx hb hown (hts (.constantLong RX0 36 (-9223372036854775808)) (List.mem_of_getElem? (i := 1) rfl)) dX0_cut_42 ?_
        refine xl_eq (tgt := 60) hx hb dX0_cut_45 dX0_cut_46 (by decide) (fun c11 => ?_) (fun c11 => ?_)
        · replace h := br_p c11 h
          refine lv_ldc2 (v := (-9223372036854775808 : Int64)) hx hb hown (hts (.constantLong RX0 36 (-9223372036854775808)) (List.mem_of_getElem? (i := 1) rfl)) dX0_cut_60 ?_
          exact reRl (v := (-9223372036854775808 : Int64)) hx hb hr hlocks h dX0_cut_63
        · replace h := br_n c11 h
          refine lv_aload_n hx hb dX0_cut_49 rfl (lv_at hl 1 rfl) ?_
          refine rdX0_below hx hb hts hinX0_cut hown hK hP (hts (.fieldLink RX0 15 "ExactShares" "below" "[J") (List.mem_of_getElem? (i := 4) rfl)) dX0_cut_50 ?_
          refine lv_iload_n hx hb dX0_cut_53 rfl (lv_at hl 2 rfl) ?_
          obtain ⟨g12, h⟩ := gd_t h
          refine ldX0_below hx hb hK hP g12 dX0_cut_54 ?_
          refine lv_lconst (v := (1 : Int64)) hx hb dX0_cut_55 (by decide) ?_
          refine xl_ge (tgt := 64) hx hb dX0_cut_56 dX0_cut_57 (by decide) (fun c13 => ?_) (fun c13 => ?_)
          · replace h := br_p c13 h
            refine lv_iload_n hx hb dX0_cut_64 rfl (lv_at hl 4 rfl) ?_
            refine lv_if_eq (tgt := 84) hx hb dX0_cut_65 (by decide) (fun c14 => ?_) (fun c14 => ?_)
            · replace h := br_p c14 h
              refine lv_lload hx hb dX0_cut_84 (lv_at hl 0 rfl) ?_
              refine lv_aload_n hx hb dX0_cut_86 rfl (lv_at hl 1 rfl) ?_
              refine rdX0_below hx hb hts hinX0_cut hown hK hP (hts (.fieldLink RX0 15 "ExactShares" "below" "[J") (List.mem_of_getElem? (i := 4) rfl)) dX0_cut_87 ?_
              refine lv_iload_n hx hb dX0_cut_90 rfl (lv_at hl 2 rfl) ?_
              obtain ⟨g15, h⟩ := gd_t h
              refine ldX0_below hx hb hK hP g15 dX0_cut_91 ?_
              obtain ⟨o16, ho17, h⟩ := bi h
              refine caPl (As := [.long o9, .long ((c_below σ) x1.toNatClampNeg)]) (rest := []) ⟨hx, hb, hml, hown, hts⟩ (mJ9_floorDiv_f86c9 l o9 ((c_below σ) x1.toNatClampNeg) o16 ho17) (va_cwS 2 hts gX0_cut_J9_floorDiv_f86c9 rfl rfl rfl (by decide +kernel) ⟨Nat.le_of_ble_eq_true rfl, Nat.le_of_ble_eq_true rfl⟩) rfl hl.1 (Nat.le_of_ble_eq_true rfl) dX0_cut_92 ⟨Nat.zero_le _, Nat.zero_le _⟩ ?_
              exact reRl (v := o16) hx hb hr hlocks h dX0_cut_95
            · replace h := br_n c14 h
              refine lv_lload hx hb dX0_cut_68 (lv_at hl 0 rfl) ?_
              refine lv_lneg hx hb dX0_cut_70 ?_
              refine lv_aload_n hx hb dX0_cut_71 rfl (lv_at hl 1 rfl) ?_
              refine rdX0_below hx hb hts hinX0_cut hown hK hP (hts (.fieldLink RX0 15 "ExactShares" "below" "[J") (List.mem_of_getElem? (i := 4) rfl)) dX0_cut_72 ?_
              refine lv_iload_n hx hb dX0_cut_75 rfl (lv_at hl 2 rfl) ?_
              obtain ⟨g18, h⟩ := gd_t h
              refine ldX0_below hx hb hK hP g18 dX0_cut_76 ?_
              obtain ⟨o19, ho20, h⟩ := bi h
              refine caPl (As := [.long (-o9), .long ((c_below σ) x1.toNatClampNeg)]) (rest := []) ⟨hx, hb, hml, hown, hts⟩ (mJ9_floorDiv_f86c9 l (-o9) ((c_below σ) x1.toNatClampNeg) o19 ho20) (va_cwS 2 hts gX0_cut_J9_floorDiv_f86c9 rfl rfl rfl (by decide +kernel) ⟨Nat.le_of_ble_eq_true rfl, Nat.le_of_ble_eq_true rfl⟩) rfl hl.1 (Nat.le_of_ble_eq_true rfl) dX0_cut_77 ⟨Nat.zero_le _, Nat.zero_le _⟩ ?_
              refine lv_lneg hx hb dX0_cut_80 ?_
              refine lv_goto (tgt := 95) hx hb dX0_cut_81 (by decide) ?_
              exact reRl (v := (-o19)) hx hb hr hlocks h dX0_cut_95
          · replace h := br_n c13 h
            refine lv_ldc2 (v := (-9223372036854775808 : Int64)) hx hb hown (hts (.constantLong RX0 36 (-9223372036854775808)) (List.mem_of_getElem? (i := 1) rfl)) dX0_cut_60 ?_
            exact reRl (v := (-9223372036854775808 : Int64)) hx hb hr hlocks h dX0_cut_63
      · replace h := br_n c5 h
        refine lv_ldc2 (v := (-9223372036854775808 : Int64)) hx hb hown (hts (.constantLong RX0 36 (-9223372036854775808)) (List.mem_of_getElem? (i := 1) rfl)) dX0_cut_18 ?_
        exact reRl (v := (-9223372036854775808 : Int64)) hx hb hr hlocks h dX0_cut_21
abbrev rmX0_isRow : Room := { frames := 0, cells := 0, slots := 0, locals := 0 }
def fX0_isRow  (x0 : Int32) : Option (Int32) := (if x0 < (0 : Int32) then (some (0 : Int32)) else (if (4 : Int32) ≤ x0 then (some (0 : Int32)) else (some (1 : Int32))))
set_option maxHeartbeats 4000000 in
set_option maxRecDepth 100000 in
theorem mX0_isRow (l : Launch) (x0 : Int32) (out : Int32) (h : fX0_isRow  x0 = some out) : MPi l yX0_isRow wsX0_isRow rmX0_isRow [.int x0] out := by
  refine ofPi (cc := cX0_isRow) (maxL := 1) (ret := (some .boolean)) (lv := [(0, .int x0)]) (plainFor_of_name (by decide)) rfl (Nat.le_of_ble_eq_true rfl) rfl ?_
  intro p e s m args below meth c C ls hl
  have C : cxt p s m args meth c RX0 cX0_isRow 1 (some .boolean) wsX0_isRow := C
  obtain ⟨hx, hb, hr, hml, hown, hts, hlocks⟩ := id C
  unfold fX0_isRow at h
  refine lv_iload_n hx hb dX0_isRow_0 rfl (lv_at hl 0 rfl) ?_
  refine lv_if_lt (tgt := 13) hx hb dX0_isRow_1 (by decide) (fun c1 => ?_) (fun c1 => ?_)
  · replace h := br_p c1 h
    refine lv_iconst (v := (0 : Int32)) hx hb dX0_isRow_13 (by decide) ?_
    exact reRz (v := (0 : Int32)) hx hb hr hlocks (by decide) h dX0_isRow_14
  · replace h := br_n c1 h
    refine lv_iload_n hx hb dX0_isRow_4 rfl (lv_at hl 0 rfl) ?_
    refine lv_iconst (v := (4 : Int32)) hx hb dX0_isRow_5 (by decide) ?_
    refine lv_icmp_ge (tgt := 13) hx hb dX0_isRow_6 (by decide) (fun c2 => ?_) (fun c2 => ?_)
    · replace h := br_p c2 h
      refine lv_iconst (v := (0 : Int32)) hx hb dX0_isRow_13 (by decide) ?_
      exact reRz (v := (0 : Int32)) hx hb hr hlocks (by decide) h dX0_isRow_14
    · replace h := br_n c2 h
      refine lv_iconst (v := (1 : Int32)) hx hb dX0_isRow_9 (by decide) ?_
      refine lv_goto (tgt := 14) hx hb dX0_isRow_10 (by decide) ?_
      exact reRz (v := (1 : Int32)) hx hb hr hlocks (by decide) h dX0_isRow_14
