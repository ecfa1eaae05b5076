abbrev rmX1_simplest : Room := { frames := 4, cells := 0, slots := 0, locals := 128 }
theorem hinX1_simplest : ∀ w ∈ u_ws RX1 TX1 17, w ∈ wsX1_simplest := by first | exact fun _ h => List.mem_cons_of_mem _ (List.mem_append_right _ h) | exact fun _ h => List.mem_cons_of_mem _ (List.mem_append_left _ (List.mem_append_right _ h)) | decide +kernel
def fX1_simplest_L147 (σ : MS)   (x6 : Int32) (y0 : Int32) (y1 : Int32) : Option (Int32 × MS) := ((fX1_between σ y1 y0 x6).bind fun o1 => (some (o1.1, o1.2)))
set_option maxHeartbeats 4000000 in
set_option maxRecDepth 100000 in
theorem wX1_simplest_L147 {p : Program} {l : Launch} {e : Env} {s : State} {m : MethodId} {args : Array Value} {below : List Frame} {meth : Method} {c : Code} {A : Nat → Prop} {D : va_G} {kc : Nat → ClassId} {q : Nat → Nat} {out : Int32 × MS} (C : cxt p s m args meth c RX1 cX1_simplest 7 (some .int) wsX1_simplest) (hA : ∀ x, s.heap.size ≤ x → A x) (hK : va_K D vwCl (tysX1 kc) s) (σ : MS) (x6 : Int32) (y0 : Int32) (y1 : Int32) (H : Heap) (locs : List Loc) (ls : Array Slot) (h : fX1_simplest_L147 σ   x6 y0 y1 = some out) (hP : va_P D vwCl (wX1 kc q σ) H) (hD : va_D A (wX1 kc q σ)) (hS : va_S A s.heap H locs) (hl : lv_has ls 7 [(0, .ref (q 0)), (6, .int x6)]) : W p l e rmX1_simplest s m args below meth c H locs 0 0 (MQ below (QMi D (tysX1 kc) (wX1 kc q) A out) args s 0 0 A) (F0 m 147 ls [.int y0, .int y1, .ref (q 0)]) := by
  obtain ⟨hx, hb, hr, hml, hown, hts, hlocks⟩ := id C
  unfold fX1_simplest_L147 at h
  refine lv_iload hx hb dX1_simplest_147 (lv_at hl 1 rfl) ?_
  obtain ⟨o1, ho2, h⟩ := bi h
  refine caMi (q0 := 0) (As := [.int y1, .int y0, .int x6]) (rest := []) ⟨hx, hb, hml, hown, hts⟩ (mX1_between l D kc q σ y1 y0 x6 o1 ho2) (cwV 3 hts gX1_simplest_X1_between rfl rfl rfl (by decide +kernel) ⟨Nat.le_of_ble_eq_true rfl, Nat.le_of_ble_eq_true rfl⟩) hK hP hD hS hA rfl rfl rfl rfl hl.1 (Nat.le_of_ble_eq_true rfl) dX1_simplest_149 ⟨Nat.zero_le _, Nat.zero_le _⟩ (fun H locs hP hD hS => ?_)
  exact reMi (v := o1.1) hx hb hr hlocks hK hP hD hS h dX1_simplest_152
def fX1_simplest_L135 (σ : MS)   (x4 : Int32) (x5 : Int32) (x6 : Int32) (y0 : Int32) : Option (Int32 × MS) := (if x6 = (0 : Int32) then (fX1_simplest_L147 σ x6 x5 y0) else (fX1_simplest_L147 σ x6 x4 y0))
set_option maxHeartbeats 4000000 in
set_option maxRecDepth 100000 in
theorem wX1_simplest_L135 {p : Program} {l : Launch} {e : Env} {s : State} {m : MethodId} {args : Array Value} {below : List Frame} {meth : Method} {c : Code} {A : Nat → Prop} {D : va_G} {kc : Nat → ClassId} {q : Nat → Nat} {out : Int32 × MS} (C : cxt p s m args meth c RX1 cX1_simplest 7 (some .int) wsX1_simplest) (hA : ∀ x, s.heap.size ≤ x → A x) (hK : va_K D vwCl (tysX1 kc) s) (σ : MS) (x4 : Int32) (x5 : Int32) (x6 : Int32) (y0 : Int32) (H : Heap) (locs : List Loc) (ls : Array Slot) (h : fX1_simplest_L135 σ   x4 x5 x6 y0 = some out) (hP : va_P D vwCl (wX1 kc q σ) H) (hD : va_D A (wX1 kc q σ)) (hS : va_S A s.heap H locs) (hl : lv_has ls 7 [(0, .ref (q 0)), (4, .int x4), (5, .int x5), (6, .int x6)]) : W p l e rmX1_simplest s m args below meth c H locs 0 0 (MQ below (QMi D (tysX1 kc) (wX1 kc q) A out) args s 0 0 A) (F0 m 135 ls [.int y0, .ref (q 0)]) := by
  obtain ⟨hx, hb, hr, hml, hown, hts, hlocks⟩ := id C
  unfold fX1_simplest_L135 at h
  refine lv_iload hx hb dX1_simplest_135 (lv_at hl 3 rfl) ?_
  refine lv_if_eq (tgt := 145) hx hb dX1_simplest_137 (by decide) (fun c1 => ?_) (fun c1 => ?_)
  · replace h := br_p c1 h
    refine lv_iload hx hb dX1_simplest_145 (lv_at hl 2 rfl) ?_
    exact wX1_simplest_L147 C hA hK  σ x6 x5 y0 H locs ls h hP hD hS (lv_sub hl [0, 3] rfl)
  · replace h := br_n c1 h
    refine lv_iload hx hb dX1_simplest_140 (lv_at hl 1 rfl) ?_
    refine lv_goto (tgt := 147) hx hb dX1_simplest_142 (by decide) ?_
    exact wX1_simplest_L147 C hA hK  σ x6 x4 y0 H locs ls h hP hD hS (lv_sub hl [0, 3] rfl)
def fX1_simplest_L120 (σ : MS)   (x4 : Int32) (x5 : Int32) (y0 : Int32) : Option (Int32 × MS) := (if y0 = (0 : Int32) then (fX1_simplest_L135 σ x4 x5 y0 x4) else (fX1_simplest_L135 σ x4 x5 y0 x5))
set_option maxHeartbeats 4000000 in
set_option maxRecDepth 100000 in
theorem wX1_simplest_L120 {p : Program} {l : Launch} {e : Env} {s : State} {m : MethodId} {args : Array Value} {below : List Frame} {meth : Method} {c : Code} {A : Nat → Prop} {D : va_G} {kc : Nat → ClassId} {q : Nat → Nat} {out : Int32 × MS} (C : cxt p s m args meth c RX1 cX1_simplest 7 (some .int) wsX1_simplest) (hA : ∀ x, s.heap.size ≤ x → A x) (hK : va_K D vwCl (tysX1 kc) s) (σ : MS) (x4 : Int32) (x5 : Int32) (y0 : Int32) (H : Heap) (locs : List Loc) (ls : Array Slot) (h : fX1_simplest_L120 σ   x4 x5 y0 = some out) (hP : va_P D vwCl (wX1 kc q σ) H) (hD : va_D A (wX1 kc q σ)) (hS : va_S A s.heap H locs) (hl : lv_has ls 7 [(0, .ref (q 0)), (4, .int x4), (5, .int x5)]) : W p l e rmX1_simplest s m args below meth c H locs 0 0 (MQ below (QMi D (tysX1 kc) (wX1 kc q) A out) args s 0 0 A) (F0 m 120 ls [.int y0]) := by
  obtain ⟨hx, hb, hr, hml, hown, hts, hlocks⟩ := id C
  unfold fX1_simplest_L120 at h
  refine lv_istore (lv' := [(6, .int y0), (0, .ref (q 0)), (4, .int x4), (5, .int x5)]) hx hb dX1_simplest_120 hl (by decide) rfl (fun ls hl => ?_)
  refine lv_aload_n hx hb dX1_simplest_122 rfl (lv_at hl 1 rfl) ?_
  refine lv_iload hx hb dX1_simplest_123 (lv_at hl 0 rfl) ?_
  refine lv_if_eq (tgt := 133) hx hb dX1_simplest_125 (by decide) (fun c1 => ?_) (fun c1 => ?_)
  · replace h := br_p c1 h
    refine lv_iload hx hb dX1_simplest_133 (lv_at hl 2 rfl) ?_
    exact wX1_simplest_L135 C hA hK  σ x4 x5 y0 x4 H locs ls h hP hD hS (lv_sub hl [1, 2, 3, 0] rfl)
  · replace h := br_n c1 h
    refine lv_iload hx hb dX1_simplest_128 (lv_at hl 3 rfl) ?_
    refine lv_goto (tgt := 135) hx hb dX1_simplest_130 (by decide) ?_
    exact wX1_simplest_L135 C hA hK  σ x4 x5 y0 x5 H locs ls h hP hD hS (lv_sub hl [1, 2, 3, 0] rfl)
def fX1_simplest_L103 (σ : MS)   (x4 : Int32) (x5 : Int32) : Option (Int32 × MS) := (if ix x5 41 = true then (if (0 : Int64) ≤ ((m_upper σ) x5.toNatClampNeg) then (fX1_simplest_L120 σ x4 x5 (0 : Int32)) else (fX1_simplest_L120 σ x4 x5 (1 : Int32))) else none)
set_option maxHeartbeats 4000000 in
set_option maxRecDepth 100000 in
theorem wX1_simplest_L103 {p : Program} {l : Launch} {e : Env} {s : State} {m : MethodId} {args : Array Value} {below : List Frame} {meth : Method} {c : Code} {A : Nat → Prop} {D : va_G} {kc : Nat → ClassId} {q : Nat → Nat} {out : Int32 × MS} (C : cxt p s m args meth c RX1 cX1_simplest 7 (some .int) wsX1_simplest) (hA : ∀ x, s.heap.size ≤ x → A x) (hK : va_K D vwCl (tysX1 kc) s) (σ : MS) (x4 : Int32) (x5 : Int32) (H : Heap) (locs : List Loc) (ls : Array Slot) (h : fX1_simplest_L103 σ   x4 x5 = some out) (hP : va_P D vwCl (wX1 kc q σ) H) (hD : va_D A (wX1 kc q σ)) (hS : va_S A s.heap H locs) (hl : lv_has ls 7 [(0, .ref (q 0)), (4, .int x4), (5, .int x5)]) : W p l e rmX1_simplest s m args below meth c H locs 0 0 (MQ below (QMi D (tysX1 kc) (wX1 kc q) A out) args s 0 0 A) (F0 m 103 ls []) := by
  obtain ⟨hx, hb, hr, hml, hown, hts, hlocks⟩ := id C
  unfold fX1_simplest_L103 at h
  refine lv_aload_n hx hb dX1_simplest_103 rfl (lv_at hl 0 rfl) ?_
  refine rdX1_upper hx hb hts hinX1_simplest hown hK hP (hts (.fieldLink RX1 7 "ExactSharesModel" "upper" "[J") (List.mem_of_getElem? (i := 3) rfl)) dX1_simplest_104 ?_
  refine lv_iload hx hb dX1_simplest_107 (lv_at hl 2 rfl) ?_
  obtain ⟨g1, h⟩ := gd_t h
  refine ldX1_upper hx hb hK hP g1 dX1_simplest_109 ?_
  refine lv_lconst (v := (0 : Int64)) hx hb dX1_simplest_110 (by decide) ?_
  refine xl_ge (tgt := 119) hx hb dX1_simplest_111 dX1_simplest_112 (by decide) (fun c2 => ?_) (fun c2 => ?_)
  · replace h := br_p c2 h
    refine lv_iconst (v := (0 : Int32)) hx hb dX1_simplest_119 (by decide) ?_
    exact wX1_simplest_L120 C hA hK  σ x4 x5 (0 : Int32) H locs ls h hP hD hS (lv_sub hl [0, 1, 2] rfl)
  · replace h := br_n c2 h
    refine lv_iconst (v := (1 : Int32)) hx hb dX1_simplest_115 (by decide) ?_
    refine lv_goto (tgt := 120) hx hb dX1_simplest_116 (by decide) ?_
    exact wX1_simplest_L120 C hA hK  σ x4 x5 (1 : Int32) H locs ls h hP hD hS (lv_sub hl [0, 1, 2] rfl)
def fX1_simplest_L70 (σ : MS)   (x4 : Int32) (y0 : Int32) : Option (Int32 × MS) := (if ix x4 41 = true then (if (0 : Int64) < ((m_upper σ) x4.toNatClampNeg) then (fX1_simplest_L103 σ x4 y0) else (if ix y0 41 = true then (if ((m_upper σ) y0.toNatClampNeg) < (0 : Int64) then (fX1_simplest_L103 σ x4 y0) else ((fX1_kept σ (0 : Int64) (1 : Int64)).bind fun o5 => (some (o5.1, o5.2)))) else none)) else none)
set_option maxHeartbeats 4000000 in
set_option maxRecDepth 100000 in
theorem wX1_simplest_L70 {p : Program} {l : Launch} {e : Env} {s : State} {m : MethodId} {args : Array Value} {below : List Frame} {meth : Method} {c : Code} {A : Nat → Prop} {D : va_G} {kc : Nat → ClassId} {q : Nat → Nat} {out : Int32 × MS} (C : cxt p s m args meth c RX1 cX1_simplest 7 (some .int) wsX1_simplest) (hA : ∀ x, s.heap.size ≤ x → A x) (hK : va_K D vwCl (tysX1 kc) s) (σ : MS) (x4 : Int32) (y0 : Int32) (H : Heap) (locs : List Loc) (ls : Array Slot) (h : fX1_simplest_L70 σ   x4 y0 = some out) (hP : va_P D vwCl (wX1 kc q σ) H) (hD : va_D A (wX1 kc q σ)) (hS : va_S A s.heap H locs) (hl : lv_has ls 7 [(0, .ref (q 0)), (4, .int x4)]) : W p l e rmX1_simplest s m args below meth c H locs 0 0 (MQ below (QMi D (tysX1 kc) (wX1 kc q) A out) args s 0 0 A) (F0 m 70 ls [.int y0]) := by
  obtain ⟨hx, hb, hr, hml, hown, hts, hlocks⟩ := id C
  unfold fX1_simplest_L70 at h
  refine lv_istore (lv' := [(5, .int y0), (0, .ref (q 0)), (4, .int x4)]) hx hb dX1_simplest_70 hl (by decide) rfl (fun ls hl => ?_)
  refine lv_aload_n hx hb dX1_simplest_72 rfl (lv_at hl 1 rfl) ?_
  refine rdX1_upper hx hb hts hinX1_simplest hown hK hP (hts (.fieldLink RX1 7 "ExactSharesModel" "upper" "[J") (List.mem_of_getElem? (i := 3) rfl)) dX1_simplest_73 ?_
  refine lv_iload hx hb dX1_simplest_76 (lv_at hl 2 rfl) ?_
  obtain ⟨g1, h⟩ := gd_t h
  refine ldX1_upper hx hb hK hP g1 dX1_simplest_78 ?_
  refine lv_lconst (v := (0 : Int64)) hx hb dX1_simplest_79 (by decide) ?_
  refine xl_gt (tgt := 103) hx hb dX1_simplest_80 dX1_simplest_81 (by decide) (fun c2 => ?_) (fun c2 => ?_)
  · replace h := br_p c2 h
    exact wX1_simplest_L103 C hA hK  σ x4 y0 H locs ls h hP hD hS (lv_sub hl [1, 2, 0] rfl)
  · replace h := br_n c2 h
    refine lv_aload_n hx hb dX1_simplest_84 rfl (lv_at hl 1 rfl) ?_
    refine rdX1_upper hx hb hts hinX1_simplest hown hK hP (hts (.fieldLink RX1 7 "ExactSharesModel" "upper" "[J") (List.mem_of_getElem? (i := 3) rfl)) dX1_simplest_85 ?_
    refine lv_iload hx hb dX1_simplest_88 (lv_at hl 0 rfl) ?_
    obtain ⟨g3, h⟩ := gd_t h
    refine ldX1_upper hx hb hK hP g3 dX1_simplest_90 ?_
    refine lv_lconst (v := (0 : Int64)) hx hb dX1_simplest_91 (by decide) ?_
    refine xl_lt (tgt := 103) hx hb dX1_simplest_92 dX1_simplest_93 (by decide) (fun c4 => ?_) (fun c4 => ?_)
    · replace h := br_p c4 h
      exact wX1_simplest_L103 C hA hK  σ x4 y0 H locs ls h hP hD hS (lv_sub hl [1, 2, 0] rfl)
    · replace h := br_n c4 h
      refine lv_aload_n hx hb dX1_simplest_96 rfl (lv_at hl 1 rfl) ?_
      refine lv_lconst (v := (0 : Int64)) hx hb dX1_simplest_97 (by decide) ?_
      refine lv_lconst (v := (1 : Int64)) hx hb dX1_simplest_98 (by decide) ?_
      obtain ⟨o5, ho6, h⟩ := bi h
      refine caMi (q0 := 0) (As := [.long (0 : Int64), .long (1 : Int64)]) (rest := []) ⟨hx, hb, hml, hown, hts⟩ (mX1_kept l D kc q σ (0 : Int64) (1 : Int64) o5 ho6) (cwV 2 hts gX1_simplest_X1_kept rfl rfl rfl (by decide +kernel) ⟨Nat.le_of_ble_eq_true rfl, Nat.le_of_ble_eq_true rfl⟩) hK hP hD hS hA rfl rfl rfl rfl hl.1 (Nat.le_of_ble_eq_true rfl) dX1_simplest_99 ⟨Nat.zero_le _, Nat.zero_le _⟩ (fun H locs hP hD hS => ?_)
      exact reMi (v := o5.1) hx hb hr hlocks hK hP hD hS h dX1_simplest_102
def fX1_simplest_L59 (σ : MS)   (x1 : Int32) (x2 : Int32) (x3 : Int32) (y0 : Int32) : Option (Int32 × MS) := (if x3 = (0 : Int32) then (fX1_simplest_L70 σ y0 x2) else (fX1_simplest_L70 σ y0 x1))
set_option maxHeartbeats 4000000 in
set_option maxRecDepth 100000 in
theorem wX1_simplest_L59 {p : Program} {l : Launch} {e : Env} {s : State} {m : MethodId} {args : Array Value} {below : List Frame} {meth : Method} {c : Code} {A : Nat → Prop} {D : va_G} {kc : Nat → ClassId} {q : Nat → Nat} {out : Int32 × MS} (C : cxt p s m args meth c RX1 cX1_simplest 7 (some .int) wsX1_simplest) (hA : ∀ x, s.heap.size ≤ x → A x) (hK : va_K D vwCl (tysX1 kc) s) (σ : MS) (x1 : Int32) (x2 : Int32) (x3 : Int32) (y0 : Int32) (H : Heap) (locs : List Loc) (ls : Array Slot) (h : fX1_simplest_L59 σ   x1 x2 x3 y0 = some out) (hP : va_P D vwCl (wX1 kc q σ) H) (hD : va_D A (wX1 kc q σ)) (hS : va_S A s.heap H locs) (hl : lv_has ls 7 [(0, .ref (q 0)), (1, .int x1), (2, .int x2), (3, .int x3)]) : W p l e rmX1_simplest s m args below meth c H locs 0 0 (MQ below (QMi D (tysX1 kc) (wX1 kc q) A out) args s 0 0 A) (F0 m 59 ls [.int y0]) := by
  obtain ⟨hx, hb, hr, hml, hown, hts, hlocks⟩ := id C
  unfold fX1_simplest_L59 at h
  refine lv_istore (lv' := [(4, .int y0), (0, .ref (q 0)), (1, .int x1), (2, .int x2), (3, .int x3)]) hx hb dX1_simplest_59 hl (by decide) rfl (fun ls hl => ?_)
  refine lv_iload_n hx hb dX1_simplest_61 rfl (lv_at hl 4 rfl) ?_
  refine lv_if_eq (tgt := 69) hx hb dX1_simplest_62 (by decide) (fun c1 => ?_) (fun c1 => ?_)
  · replace h := br_p c1 h
    refine lv_iload_n hx hb dX1_simplest_69 rfl (lv_at hl 3 rfl) ?_
    exact wX1_simplest_L70 C hA hK  σ y0 x2 H locs ls h hP hD hS (lv_sub hl [1, 0] rfl)
  · replace h := br_n c1 h
    refine lv_iload_n hx hb dX1_simplest_65 rfl (lv_at hl 2 rfl) ?_
    refine lv_goto (tgt := 70) hx hb dX1_simplest_66 (by decide) ?_
    exact wX1_simplest_L70 C hA hK  σ y0 x1 H locs ls h hP hD hS (lv_sub hl [1, 0] rfl)
def fX1_simplest_L49 (σ : MS)   (x1 : Int32) (x2 : Int32) (y0 : Int32) : Option (Int32 × MS) := (if y0 = (0 : Int32) then (fX1_simplest_L59 σ x1 x2 y0 x1) else (fX1_simplest_L59 σ x1 x2 y0 x2))
set_option maxHeartbeats 4000000 in
set_option maxRecDepth 100000 in
theorem wX1_simplest_L49 {p : Program} {l : Launch} {e : Env} {s : State} {m : MethodId} {args : Array Value} {below : List Frame} {meth : Method} {c : Code} {A : Nat → Prop} {D : va_G} {kc : Nat → ClassId} {q : Nat → Nat} {out : Int32 × MS} (C : cxt p s m args meth c RX1 cX1_simplest 7 (some .int) wsX1_simplest) (hA : ∀ x, s.heap.size ≤ x → A x) (hK : va_K D vwCl (tysX1 kc) s) (σ : MS) (x1 : Int32) (x2 : Int32) (y0 : Int32) (H : Heap) (locs : List Loc) (ls : Array Slot) (h : fX1_simplest_L49 σ   x1 x2 y0 = some out) (hP : va_P D vwCl (wX1 kc q σ) H) (hD : va_D A (wX1 kc q σ)) (hS : va_S A s.heap H locs) (hl : lv_has ls 7 [(0, .ref (q 0)), (1, .int x1), (2, .int x2)]) : W p l e rmX1_simplest s m args below meth c H locs 0 0 (MQ below (QMi D (tysX1 kc) (wX1 kc q) A out) args s 0 0 A) (F0 m 49 ls [.int y0]) := by
  obtain ⟨hx, hb, hr, hml, hown, hts, hlocks⟩ := id C
  unfold fX1_simplest_L49 at h
  refine lv_istore_n (lv' := [(3, .int y0), (0, .ref (q 0)), (1, .int x1), (2, .int x2)]) hx hb dX1_simplest_49 rfl hl (by decide) rfl (fun ls hl => ?_)
  refine lv_iload_n hx hb dX1_simplest_50 rfl (lv_at hl 0 rfl) ?_
  refine lv_if_eq (tgt := 58) hx hb dX1_simplest_51 (by decide) (fun c1 => ?_) (fun c1 => ?_)
  · replace h := br_p c1 h
    refine lv_iload_n hx hb dX1_simplest_58 rfl (lv_at hl 2 rfl) ?_
    exact wX1_simplest_L59 C hA hK  σ x1 x2 y0 x1 H locs ls h hP hD hS (lv_sub hl [1, 2, 3, 0] rfl)
  · replace h := br_n c1 h
    refine lv_iload_n hx hb dX1_simplest_54 rfl (lv_at hl 3 rfl) ?_
    refine lv_goto (tgt := 59) hx hb dX1_simplest_55 (by decide) ?_
    exact wX1_simplest_L59 C hA hK  σ x1 x2 y0 x2 H locs ls h hP hD hS (lv_sub hl [1, 2, 3, 0] rfl)
def fX1_simplest (σ : MS)  (x1 : Int32) (x2 : Int32) : Option (Int32 × MS) := (bd (sm_thrown σ (0 : Int32)) fun s1 => ((fX1_isNumber s1 x1).bind fun o3 => (if o3 = (0 : Int32) then (some ((-1 : Int32), s1)) else ((fX1_isNumber s1 x2).bind fun o6 => (if o6 = (0 : Int32) then (some ((-1 : Int32), s1)) else (if (m_numbers s1) = (40 : Int32) then (some ((-4 : Int32), s1)) else ((fX1_ordered s1 x1 x2).bind fun o10 => (if o10.1 ≤ (0 : Int32) then (fX1_simplest_L49 o10.2 x1 x2 (0 : Int32)) else (fX1_simplest_L49 o10.2 x1 x2 (1 : Int32))))))))))
set_option maxHeartbeats 4000000 in
set_option maxRecDepth 100000 in
theorem mX1_simplest (l : Launch) (D : va_G) (kc : Nat → ClassId) (q : Nat → Nat) (σ : MS) (x1 : Int32) (x2 : Int32) (out : Int32 × MS) (h : fX1_simplest σ  x1 x2 = some out) : MMi l yX1_simplest wsX1_simplest rmX1_simplest D (tysX1 kc) (wX1 kc q) σ [.ref (q 0), .int x1, .int x2] out := by
  refine ofMi (cc := cX1_simplest) (maxL := 7) (ret := (some .int)) (lv := [(0, .ref (q 0)), (1, .int x1), (2, .int x2)]) (by decide) rfl (Nat.le_of_ble_eq_true rfl) rfl ?_
  intro p e s m args below meth c A C hA hK hP hD hS ls hl
  have C : cxt p s m args meth c RX1 cX1_simplest 7 (some .int) wsX1_simplest := C
  obtain ⟨hx, hb, hr, hml, hown, hts, hlocks⟩ := id C
  obtain ⟨H, hH⟩ : ∃ H, H = s.heap := ⟨_, rfl⟩
  obtain ⟨locs, hlocs⟩ : ∃ locs : List Loc, locs = [] := ⟨_, rfl⟩
  have hS : va_S A s.heap H locs := by rw [hH, hlocs]; exact va_S.rf
  rw [← hH] at hP
  suffices hW : W p l e rmX1_simplest s m args below meth c H locs 0 0 _ (F0 m 0 ls []) by rw [hH, hlocs] at hW; exact hW
  unfold fX1_simplest at h
  refine lv_aload_n hx hb dX1_simplest_0 rfl (lv_at hl 0 rfl) ?_
  refine lv_iconst (v := (0 : Int32)) hx hb dX1_simplest_1 (by decide) ?_
  refine wrX1_thrown (v := (0 : Int32)) hx hb hts hinX1_simplest hown hK hP hD hS (hts (.fieldLink RX1 43 "ExactSharesModel" "thrown" "I") (List.mem_of_getElem? (i := 1) rfl)) dX1_simplest_2 (fun H locs hP hD hS => ?_)
  obtain ⟨s1, e2, h⟩ := bd_e h
  replace hP : va_P D vwCl (wX1 kc q s1) H := by rw [e2]; exact hP
  replace hD : va_D A (wX1 kc q s1) := by rw [e2]; exact hD
  clear e2
  refine lv_aload_n hx hb dX1_simplest_5 rfl (lv_at hl 0 rfl) ?_
  refine lv_iload_n hx hb dX1_simplest_6 rfl (lv_at hl 1 rfl) ?_
  obtain ⟨o3, ho4, h⟩ := bi h
  refine caRi (q0 := 0) (As := [.int x1]) (rest := []) ⟨hx, hb, hml, hown, hts⟩ (mX1_isNumber l D kc q s1 x1 o3 ho4) (cwV 1 hts gX1_simplest_X1_isNumber rfl rfl rfl (by decide +kernel) ⟨Nat.le_of_ble_eq_true rfl, Nat.le_of_ble_eq_true rfl⟩) hK hP rfl rfl rfl rfl hl.1 (Nat.le_of_ble_eq_true rfl) dX1_simplest_7 ⟨Nat.zero_le _, Nat.zero_le _⟩ ?_
  refine lv_if_eq (tgt := 21) hx hb dX1_simplest_10 (by decide) (fun c5 => ?_) (fun c5 => ?_)
  · replace h := br_p c5 h
    refine lv_iconst (v := (-1 : Int32)) hx hb dX1_simplest_21 (by decide) ?_
    exact reMi (v := (-1 : Int32)) hx hb hr hlocks hK hP hD hS h dX1_simplest_22
  · replace h := br_n c5 h
    refine lv_aload_n hx hb dX1_simplest_13 rfl (lv_at hl 0 rfl) ?_
    refine lv_iload_n hx hb dX1_simplest_14 rfl (lv_at hl 2 rfl) ?_
    obtain ⟨o6, ho7, h⟩ := bi h
    refine caRi (q0 := 0) (As := [.int x2]) (rest := []) ⟨hx, hb, hml, hown, hts⟩ (mX1_isNumber l D kc q s1 x2 o6 ho7) (cwV 1 hts gX1_simplest_X1_isNumber rfl rfl rfl (by decide +kernel) ⟨Nat.le_of_ble_eq_true rfl, Nat.le_of_ble_eq_true rfl⟩) hK hP rfl rfl rfl rfl hl.1 (Nat.le_of_ble_eq_true rfl) dX1_simplest_15 ⟨Nat.zero_le _, Nat.zero_le _⟩ ?_
    refine lv_if_ne (tgt := 23) hx hb dX1_simplest_18 (by decide) (fun c8 => ?_) (fun c8 => ?_)
    · replace h := br_n c8 h
      refine lv_aload_n hx hb dX1_simplest_23 rfl (lv_at hl 0 rfl) ?_
      refine rdX1_numbers hx hb hts hinX1_simplest hown hK hP (hts (.fieldLink RX1 56 "ExactSharesModel" "numbers" "I") (List.mem_of_getElem? (i := 2) rfl)) dX1_simplest_24 ?_
      refine lv_bipush (v := (40 : Int32)) hx hb dX1_simplest_27 (by decide) ?_
      refine lv_icmp_ne (tgt := 35) hx hb dX1_simplest_29 (by decide) (fun c9 => ?_) (fun c9 => ?_)
      · replace h := br_n c9 h
        refine lv_aload_n hx hb dX1_simplest_35 rfl (lv_at hl 0 rfl) ?_
        refine lv_iload_n hx hb dX1_simplest_36 rfl (lv_at hl 1 rfl) ?_
        refine lv_iload_n hx hb dX1_simplest_37 rfl (lv_at hl 2 rfl) ?_
        obtain ⟨o10, ho11, h⟩ := bi h
        refine caMi (q0 := 0) (As := [.int x1, .int x2]) (rest := []) ⟨hx, hb, hml, hown, hts⟩ (mX1_ordered l D kc q s1 x1 x2 o10 ho11) (cwV 2 hts gX1_simplest_X1_ordered rfl rfl rfl (by decide +kernel) ⟨Nat.le_of_ble_eq_true rfl, Nat.le_of_ble_eq_true rfl⟩) hK hP hD hS hA rfl rfl rfl rfl hl.1 (Nat.le_of_ble_eq_true rfl) dX1_simplest_38 ⟨Nat.zero_le _, Nat.zero_le _⟩ (fun H locs hP hD hS => ?_)
        refine lv_if_le (tgt := 48) hx hb dX1_simplest_41 (by decide) (fun c12 => ?_) (fun c12 => ?_)
        · replace h := br_p c12 h
          refine lv_iconst (v := (0 : Int32)) hx hb dX1_simplest_48 (by decide) ?_
          exact wX1_simplest_L49 C hA hK  o10.2 x1 x2 (0 : Int32) H locs ls h hP hD hS (lv_sub hl [0, 1, 2] rfl)
        · replace h := br_n c12 h
          refine lv_iconst (v := (1 : Int32)) hx hb dX1_simplest_44 (by decide) ?_
          refine lv_goto (tgt := 49) hx hb dX1_simplest_45 (by decide) ?_
          exact wX1_simplest_L49 C hA hK  o10.2 x1 x2 (1 : Int32) H locs ls h hP hD hS (lv_sub hl [0, 1, 2] rfl)
      · replace h := br_p c9 h
        refine lv_bipush (v := (-4 : Int32)) hx hb dX1_simplest_32 (by decide) ?_
        exact reMi (v := (-4 : Int32)) hx hb hr hlocks hK hP hD hS h dX1_simplest_34
    · replace h := br_p c8 h
      refine lv_iconst (v := (-1 : Int32)) hx hb dX1_simplest_21 (by decide) ?_
      exact reMi (v := (-1 : Int32)) hx hb hr hlocks hK hP hD hS h dX1_simplest_22
abbrev rmX1_near : Room := { frames := 3, cells := 0, slots := 0, locals := 78 }
theorem hinX1_near : ∀ w ∈ u_ws RX1 TX1 17, w ∈ wsX1_near := by first | exact fun _ h => List.mem_cons_of_mem _ (List.mem_append_right _ h) | exact fun _ h => List.mem_cons_of_mem _ (List.mem_append_left _ (List.mem_append_right _ h)) | decide +kernel
def fX1_near_L314 (σ : MS)   (x3 : Int64) (x9 : Int64) (x11 : Int64) (x13 : Int64) (x15 : Int64) (y0 : Int32) : Option (Int32 × MS) := (if y0 = (0 : Int32) then ((fX1_kept σ ((x3 * x15) + x13) x15).bind fun o2 => (some (o2.1, o2.2))) else ((fX1_kept σ ((x3 * x11) + x9) x11).bind fun o4 => (some (o4.1, o4.2))))
set_option maxHeartbeats 4000000 in
set_option maxRecDepth 100000 in
theorem wX1_near_L314 {p : Program} {l : Launch} {e : Env} {s : State} {m : MethodId} {args : Array Value} {below : List Frame} {meth : Method} {c : Code} {A : Nat → Prop} {D : va_G} {kc : Nat → ClassId} {q : Nat → Nat} {out : Int32 × MS} (C : cxt p s m args meth c RX1 cX1_near 21 (some .int) wsX1_near) (hA : ∀ x, s.heap.size ≤ x → A x) (hK : va_K D vwCl (tysX1 kc) s) (σ : MS) (x3 : Int64) (x9 : Int64) (x11 : Int64) (x13 : Int64) (x15 : Int64) (y0 : Int32) (H : Heap) (locs : List Loc) (ls : Array Slot) (h : fX1_near_L314 σ   x3 x9 x11 x13 x15 y0 = some out) (hP : va_P D vwCl (wX1 kc q σ) H) (hD : va_D A (wX1 kc q σ)) (hS : va_S A s.heap H locs) (hl : lv_has ls 21 [(0, .ref (q 0)), (3, .long x3), (9, .long x9), (11, .long x11), (13, .long x13), (15, .long x15)]) : W p l e rmX1_near s m args below meth c H locs 0 0 (MQ below (QMi D (tysX1 kc) (wX1 kc q) A out) args s 0 0 A) (F0 m 314 ls [.int y0]) := by
  obtain ⟨hx, hb, hr, hml, hown, hts, hlocks⟩ := id C
  unfold fX1_near_L314 at h
  refine lv_istore (lv' := [(18, .int y0), (0, .ref (q 0)), (3, .long x3), (9, .long x9), (11, .long x11), (13, .long x13), (15, .long x15)]) hx hb dX1_near_314 hl (by decide) rfl (fun ls hl => ?_)
  refine lv_iload hx hb dX1_near_316 (lv_at hl 0 rfl) ?_
  refine lv_if_eq (tgt := 337) hx hb dX1_near_318 (by decide) (fun c1 => ?_) (fun c1 => ?_)
  · replace h := br_p c1 h
    refine lv_aload_n hx hb dX1_near_337 rfl (lv_at hl 1 rfl) ?_
    refine lv_lload_n hx hb dX1_near_338 rfl (lv_at hl 2 rfl) ?_
    refine lv_lload hx hb dX1_near_339 (lv_at hl 6 rfl) ?_
    refine lv_lmul hx hb dX1_near_341 ?_
    refine lv_lload hx hb dX1_near_342 (lv_at hl 5 rfl) ?_
    refine lv_ladd hx hb dX1_near_344 ?_
    refine lv_lload hx hb dX1_near_345 (lv_at hl 6 rfl) ?_
    obtain ⟨o2, ho3, h⟩ := bi h
    refine caMi (q0 := 0) (As := [.long ((x3 * x15) + x13), .long x15]) (rest := []) ⟨hx, hb, hml, hown, hts⟩ (mX1_kept l D kc q σ ((x3 * x15) + x13) x15 o2 ho3) (cwV 2 hts gX1_near_X1_kept rfl rfl rfl (by decide +kernel) ⟨Nat.le_of_ble_eq_true rfl, Nat.le_of_ble_eq_true rfl⟩) hK hP hD hS hA rfl rfl rfl rfl hl.1 (Nat.le_of_ble_eq_true rfl) dX1_near_347 ⟨Nat.zero_le _, Nat.zero_le _⟩ (fun H locs hP hD hS => ?_)
    exact reMi (v := o2.1) hx hb hr hlocks hK hP hD hS h dX1_near_350
  · replace h := br_n c1 h
    refine lv_aload_n hx hb dX1_near_321 rfl (lv_at hl 1 rfl) ?_
    refine lv_lload_n hx hb dX1_near_322 rfl (lv_at hl 2 rfl) ?_
    refine lv_lload hx hb dX1_near_323 (lv_at hl 4 rfl) ?_
    refine lv_lmul hx hb dX1_near_325 ?_
    refine lv_lload hx hb dX1_near_326 (lv_at hl 3 rfl) ?_
    refine lv_ladd hx hb dX1_near_328 ?_
    refine lv_lload hx hb dX1_near_329 (lv_at hl 4 rfl) ?_
    obtain ⟨o4, ho5, h⟩ := bi h
    refine caMi (q0 := 0) (As := [.long ((x3 * x11) + x9), .long x11]) (rest := []) ⟨hx, hb, hml, hown, hts⟩ (mX1_kept l D kc q σ ((x3 * x11) + x9) x11 o4 ho5) (cwV 2 hts gX1_near_X1_kept rfl rfl rfl (by decide +kernel) ⟨Nat.le_of_ble_eq_true rfl, Nat.le_of_ble_eq_true rfl⟩) hK hP hD hS hA rfl rfl rfl rfl hl.1 (Nat.le_of_ble_eq_true rfl) dX1_near_331 ⟨Nat.zero_le _, Nat.zero_le _⟩ (fun H locs hP hD hS => ?_)
    refine lv_goto (tgt := 350) hx hb dX1_near_334 (by decide) ?_
    exact reMi (v := o4.1) hx hb hr hlocks hK hP hD hS h dX1_near_350
def fX1_near_L313 (σ : MS)   (x3 : Int64) (x9 : Int64) (x11 : Int64) (x13 : Int64) (x15 : Int64) : Option (Int32 × MS) := (fX1_near_L314 σ x3 x9 x11 x13 x15 (0 : Int32))
set_option maxHeartbeats 4000000 in
set_option maxRecDepth 100000 in
theorem wX1_near_L313 {p : Program} {l : Launch} {e : Env} {s : State} {m : MethodId} {args : Array Value} {below : List Frame} {meth : Method} {c : Code} {A : Nat → Prop} {D : va_G} {kc : Nat → ClassId} {q : Nat → Nat} {out : Int32 × MS} (C : cxt p s m args meth c RX1 cX1_near 21 (some .int) wsX1_near) (hA : ∀ x, s.heap.size ≤ x → A x) (hK : va_K D vwCl (tysX1 kc) s) (σ : MS) (x3 : Int64) (x9 : Int64) (x11 : Int64) (x13 : Int64) (x15 : Int64) (H : Heap) (locs : List Loc) (ls : Array Slot) (h : fX1_near_L313 σ   x3 x9 x11 x13 x15 = some out) (hP : va_P D vwCl (wX1 kc q σ) H) (hD : va_D A (wX1 kc q σ)) (hS : va_S A s.heap H locs) (hl : lv_has ls 21 [(0, .ref (q 0)), (3, .long x3), (9, .long x9), (11, .long x11), (13, .long x13), (15, .long x15)]) : W p l e rmX1_near s m args below meth c H locs 0 0 (MQ below (QMi D (tysX1 kc) (wX1 kc q) A out) args s 0 0 A) (F0 m 313 ls []) := by
  obtain ⟨hx, hb, hr, hml, hown, hts, hlocks⟩ := id C
  unfold fX1_near_L313 at h
  refine lv_iconst (v := (0 : Int32)) hx hb dX1_near_313 (by decide) ?_
  exact wX1_near_L314 C hA hK  σ x3 x9 x11 x13 x15 (0 : Int32) H locs ls h hP hD hS (lv_sub hl [0, 1, 2, 3, 4, 5] rfl)
def fX1_near_L309 (σ : MS)   (x3 : Int64) (x9 : Int64) (x11 : Int64) (x13 : Int64) (x15 : Int64) : Option (Int32 × MS) := (fX1_near_L314 σ x3 x9 x11 x13 x15 (1 : Int32))
set_option maxHeartbeats 4000000 in
set_option maxRecDepth 100000 in
theorem wX1_near_L309 {p : Program} {l : Launch} {e : Env} {s : State} {m : MethodId} {args : Array Value} {below : List Frame} {meth : Method} {c : Code} {A : Nat → Prop} {D : va_G} {kc : Nat → ClassId} {q : Nat → Nat} {out : Int32 × MS} (C : cxt p s m args meth c RX1 cX1_near 21 (some .int) wsX1_near) (hA : ∀ x, s.heap.size ≤ x → A x) (hK : va_K D vwCl (tysX1 kc) s) (σ : MS) (x3 : Int64) (x9 : Int64) (x11 : Int64) (x13 : Int64) (x15 : Int64) (H : Heap) (locs : List Loc) (ls : Array Slot) (h : fX1_near_L309 σ   x3 x9 x11 x13 x15 = some out) (hP : va_P D vwCl (wX1 kc q σ) H) (hD : va_D A (wX1 kc q σ)) (hS : va_S A s.heap H locs) (hl : lv_has ls 21 [(0, .ref (q 0)), (3, .long x3), (9, .long x9), (11, .long x11), (13, .long x13), (15, .long x15)]) : W p l e rmX1_near s m args below meth c H locs 0 0 (MQ below (QMi D (tysX1 kc) (wX1 kc q) A out) args s 0 0 A) (F0 m 309 ls []) := by
  obtain ⟨hx, hb, hr, hml, hown, hts, hlocks⟩ := id C
  unfold fX1_near_L309 at h
  refine lv_iconst (v := (1 : Int32)) hx hb dX1_near_309 (by decide) ?_
  refine lv_goto (tgt := 314) hx hb dX1_near_310 (by decide) ?_
  exact wX1_near_L314 C hA hK  σ x3 x9 x11 x13 x15 (1 : Int32) H locs ls h hP hD hS (lv_sub hl [0, 1, 2, 3, 4, 5] rfl)
def fX1_near_L242 (σ : MS)  (k124 : Int32 × Int64 × Int64 × Int64 × Int64 × Int64 × Int64 × Int64 × MS → Option (Int32 × MS)) (x2 : Int32) (x3 : Int64) (x5 : Int64) (x7 : Int64) (x9 : Int64) (x11 : Int64) (x13 : Int64) (x15 : Int64) (y0 : Int64) : Option (Int32 × MS) := (k124 (x2, x3, x5, (x7 - (y0 * x5)), x9, x11, (x13 + (y0 * x9)), (x15 + (y0 * x11)), σ))
set_option maxHeartbeats 4000000 in
set_option maxRecDepth 100000 in
theorem wX1_near_L242 {p : Program} {l : Launch} {e : Env} {s : State} {m : MethodId} {args : Array Value} {below : List Frame} {meth : Method} {c : Code} {A : Nat → Prop} {D : va_G} {kc : Nat → ClassId} {q : Nat → Nat} {out : Int32 × MS} (C : cxt p s m args meth c RX1 cX1_near 21 (some .int) wsX1_near) (hA : ∀ x, s.heap.size ≤ x → A x) (hK : va_K D vwCl (tysX1 kc) s) (k124 : Int32 × Int64 × Int64 × Int64 × Int64 × Int64 × Int64 × Int64 × MS → Option (Int32 × MS)) (hk124 : ∀ (x2 : Int32) (x3 : Int64) (x5 : Int64) (x7 : Int64) (x9 : Int64) (x11 : Int64) (x13 : Int64) (x15 : Int64) (σ : MS) (H : Heap) (locs : List Loc) (ls : Array Slot), k124 (x2, x3, x5, x7, x9, x11, x13, x15, σ) = some out → va_P D vwCl (wX1 kc q σ) H → va_D A (wX1 kc q σ) → va_S A s.heap H locs → lv_has ls 21 [(0, .ref (q 0)), (2, .int x2), (3, .long x3), (5, .long x5), (7, .long x7), (9, .long x9), (11, .long x11), (13, .long x13), (15, .long x15)] → W p l e rmX1_near s m args below meth c H locs 0 0 (MQ below (QMi D (tysX1 kc) (wX1 kc q) A out) args s 0 0 A) (F0 m 124 ls [])) (σ : MS) (x2 : Int32) (x3 : Int64) (x5 : Int64) (x7 : Int64) (x9 : Int64) (x11 : Int64) (x13 : Int64) (x15 : Int64) (y0 : Int64) (H : Heap) (locs : List Loc) (ls : Array Slot) (h : fX1_near_L242 σ  k124 x2 x3 x5 x7 x9 x11 x13 x15 y0 = some out) (hP : va_P D vwCl (wX1 kc q σ) H) (hD : va_D A (wX1 kc q σ)) (hS : va_S A s.heap H locs) (hl : lv_has ls 21 [(0, .ref (q 0)), (2, .int x2), (3, .long x3), (5, .long x5), (7, .long x7), (9, .long x9), (11, .long x11), (13, .long x13), (15, .long x15)]) : W p l e rmX1_near s m args below meth c H locs 0 0 (MQ below (QMi D (tysX1 kc) (wX1 kc q) A out) args s 0 0 A) (F0 m 242 ls [.long y0]) := by
  obtain ⟨hx, hb, hr, hml, hown, hts, hlocks⟩ := id C
  unfold fX1_near_L242 at h
  refine lv_lstore (lv' := [(17, .long y0), (0, .ref (q 0)), (2, .int x2), (3, .long x3), (5, .long x5), (7, .long x7), (9, .long x9), (11, .long x11), (13, .long x13), (15, .long x15)]) hx hb dX1_near_242 hl (by decide) rfl (fun ls hl => ?_)
  refine lv_lload hx hb dX1_near_244 (lv_at hl 8 rfl) ?_
  refine lv_lload hx hb dX1_near_246 (lv_at hl 0 rfl) ?_
  refine lv_lload hx hb dX1_near_248 (lv_at hl 6 rfl) ?_
  refine lv_lmul hx hb dX1_near_250 ?_
  refine lv_ladd hx hb dX1_near_251 ?_
  refine lv_lstore (lv' := [(13, .long (x13 + (y0 * x9))), (17, .long y0), (0, .ref (q 0)), (2, .int x2), (3, .long x3), (5, .long x5), (7, .long x7), (9, .long x9), (11, .long x11), (15, .long x15)]) hx hb dX1_near_252 hl (by decide) rfl (fun ls hl => ?_)
  refine lv_lload hx hb dX1_near_254 (lv_at hl 9 rfl) ?_
  refine lv_lload hx hb dX1_near_256 (lv_at hl 1 rfl) ?_
  refine lv_lload hx hb dX1_near_258 (lv_at hl 8 rfl) ?_
  refine lv_lmul hx hb dX1_near_260 ?_
  refine lv_ladd hx hb dX1_near_261 ?_
  refine lv_lstore (lv' := [(15, .long (x15 + (y0 * x11))), (13, .long (x13 + (y0 * x9))), (17, .long y0), (0, .ref (q 0)), (2, .int x2), (3, .long x3), (5, .long x5), (7, .long x7), (9, .long x9), (11, .long x11)]) hx hb dX1_near_262 hl (by decide) rfl (fun ls hl => ?_)
  refine lv_lload hx hb dX1_near_264 (lv_at hl 7 rfl) ?_
  refine lv_lload hx hb dX1_near_266 (lv_at hl 2 rfl) ?_
  refine lv_lload hx hb dX1_near_268 (lv_at hl 6 rfl) ?_
  refine lv_lmul hx hb dX1_near_270 ?_
  refine lv_lsub hx hb dX1_near_271 ?_
  refine lv_lstore (lv' := [(7, .long (x7 - (y0 * x5))), (15, .long (x15 + (y0 * x11))), (13, .long (x13 + (y0 * x9))), (17, .long y0), (0, .ref (q 0)), (2, .int x2), (3, .long x3), (5, .long x5), (9, .long x9), (11, .long x11)]) hx hb dX1_near_272 hl (by decide) rfl (fun ls hl => ?_)
  refine lv_goto (tgt := 124) hx hb dX1_near_274 (by decide) ?_
  exact hk124 x2 x3 x5 (x7 - (y0 * x5)) x9 x11 (x13 + (y0 * x9)) (x15 + (y0 * x11)) σ H locs ls h hP hD hS (lv_sub hl [4, 5, 6, 7, 0, 8, 9, 2, 1] rfl)
def fX1_near_L175 (σ : MS)  (k124 : Int32 × Int64 × Int64 × Int64 × Int64 × Int64 × Int64 × Int64 × MS → Option (Int32 × MS)) (x2 : Int32) (x3 : Int64) (x5 : Int64) (x7 : Int64) (x9 : Int64) (x11 : Int64) (x13 : Int64) (x15 : Int64) (y0 : Int64) : Option (Int32 × MS) := (k124 (x2, x3, (x5 - (y0 * x7)), x7, (x9 + (y0 * x13)), (x11 + (y0 * x15)), x13, x15, σ))
set_option maxHeartbeats 4000000 in
set_option maxRecDepth 100000 in
theorem wX1_near_L175 {p : Program} {l : Launch} {e : Env} {s : State} {m : MethodId} {args : Array Value} {below : List Frame} {meth : Method} {c : Code} {A : Nat → Prop} {D : va_G} {kc : Nat → ClassId} {q : Nat → Nat} {out : Int32 × MS} (C : cxt p s m args meth c RX1 cX1_near 21 (some .int) wsX1_near) (hA : ∀ x, s.heap.size ≤ x → A x) (hK : va_K D vwCl (tysX1 kc) s) (k124 : Int32 × Int64 × Int64 × Int64 × Int64 × Int64 × Int64 × Int64 × MS → Option (Int32 × MS)) (hk124 : ∀ (x2 : Int32) (x3 : Int64) (x5 : Int64) (x7 : Int64) (x9 : Int64) (x11 : Int64) (x13 : Int64) (x15 : Int64) (σ : MS) (H : Heap) (locs : List Loc) (ls : Array Slot), k124 (x2, x3, x5, x7, x9, x11, x13, x15, σ) = some out → va_P D vwCl (wX1 kc q σ) H → va_D A (wX1 kc q σ) → va_S A s.heap H locs → lv_has ls 21 [(0, .ref (q 0)), (2, .int x2), (3, .long x3), (5, .long x5), (7, .long x7), (9, .long x9), (11, .long x11), (13, .long x13), (15, .long x15)] → W p l e rmX1_near s m args below meth c H locs 0 0 (MQ below (QMi D (tysX1 kc) (wX1 kc q) A out) args s 0 0 A) (F0 m 124 ls [])) (σ : MS) (x2 : Int32) (x3 : Int64) (x5 : Int64) (x7 : Int64) (x9 : Int64) (x11 : Int64) (x13 : Int64) (x15 : Int64) (y0 : Int64) (H : Heap) (locs : List Loc) (ls : Array Slot) (h : fX1_near_L175 σ  k124 x2 x3 x5 x7 x9 x11 x13 x15 y0 = some out) (hP : va_P D vwCl (wX1 kc q σ) H) (hD : va_D A (wX1 kc q σ)) (hS : va_S A s.heap H locs) (hl : lv_has ls 21 [(0, .ref (q 0)), (2, .int x2), (3, .long x3), (5, .long x5), (7, .long x7), (9, .long x9), (11, .long x11), (13, .long x13), (15, .long x15)]) : W p l e rmX1_near s m args below meth c H locs 0 0 (MQ below (QMi D (tysX1 kc) (wX1 kc q) A out) args s 0 0 A) (F0 m 175 ls [.long y0]) := by
  obtain ⟨hx, hb, hr, hml, hown, hts, hlocks⟩ := id C
  unfold fX1_near_L175 at h
  refine lv_lstore (lv' := [(17, .long y0), (0, .ref (q 0)), (2, .int x2), (3, .long x3), (5, .long x5), (7, .long x7), (9, .long x9), (11, .long x11), (13, .long x13), (15, .long x15)]) hx hb dX1_near_175 hl (by decide) rfl (fun ls hl => ?_)
  refine lv_lload hx hb dX1_near_177 (lv_at hl 6 rfl) ?_
  refine lv_lload hx hb dX1_near_179 (lv_at hl 0 rfl) ?_
  refine lv_lload hx hb dX1_near_181 (lv_at hl 8 rfl) ?_
  refine lv_lmul hx hb dX1_near_183 ?_
  refine lv_ladd hx hb dX1_near_184 ?_
  refine lv_lstore (lv' := [(9, .long (x9 + (y0 * x13))), (17, .long y0), (0, .ref (q 0)), (2, .int x2), (3, .long x3), (5, .long x5), (7, .long x7), (11, .long x11), (13, .long x13), (15, .long x15)]) hx hb dX1_near_185 hl (by decide) rfl (fun ls hl => ?_)
  refine lv_lload hx hb dX1_near_187 (lv_at hl 7 rfl) ?_
  refine lv_lload hx hb dX1_near_189 (lv_at hl 1 rfl) ?_
  refine lv_lload hx hb dX1_near_191 (lv_at hl 9 rfl) ?_
  refine lv_lmul hx hb dX1_near_193 ?_
  refine lv_ladd hx hb dX1_near_194 ?_
  refine lv_lstore (lv' := [(11, .long (x11 + (y0 * x15))), (9, .long (x9 + (y0 * x13))), (17, .long y0), (0, .ref (q 0)), (2, .int x2), (3, .long x3), (5, .long x5), (7, .long x7), (13, .long x13), (15, .long x15)]) hx hb dX1_near_195 hl (by decide) rfl (fun ls hl => ?_)
  refine lv_lload hx hb dX1_near_197 (lv_at hl 6 rfl) ?_
  refine lv_lload hx hb dX1_near_199 (lv_at hl 2 rfl) ?_
  refine lv_lload hx hb dX1_near_201 (lv_at hl 7 rfl) ?_
  refine lv_lmul hx hb dX1_near_203 ?_
  refine lv_lsub hx hb dX1_near_204 ?_
  refine lv_lstore (lv' := [(5, .long (x5 - (y0 * x7))), (11, .long (x11 + (y0 * x15))), (9, .long (x9 + (y0 * x13))), (17, .long y0), (0, .ref (q 0)), (2, .int x2), (3, .long x3), (7, .long x7), (13, .long x13), (15, .long x15)]) hx hb dX1_near_205 hl (by decide) rfl (fun ls hl => ?_)
  refine lv_goto (tgt := 124) hx hb dX1_near_207 (by decide) ?_
  exact hk124 x2 x3 (x5 - (y0 * x7)) x7 (x9 + (y0 * x13)) (x11 + (y0 * x15)) x13 x15 σ H locs ls h hP hD hS (lv_sub hl [4, 5, 6, 0, 7, 2, 1, 8, 9] rfl)
def fX1_near_B124 (σ : MS)   (k124 : Int32 × Int64 × Int64 × Int64 × Int64 × Int64 × Int64 × Int64 × MS → Option (Int32 × MS)) (x2 : Int32) (x3 : Int64) (x5 : Int64) (x7 : Int64) (x9 : Int64) (x11 : Int64) (x13 : Int64) (x15 : Int64) : Option (Int32 × MS) := (if (x2.toInt64) < (x11 + x15) then ((fX1_compared σ x5 x15 x7 x11).bind fun o2 => (if o2.1 < (0 : Int32) then (fX1_near_L309 o2.2 x3 x9 x11 x13 x15) else (if o2.1 = (0 : Int32) then (if x15 < x11 then (fX1_near_L313 o2.2 x3 x9 x11 x13 x15) else (fX1_near_L309 o2.2 x3 x9 x11 x13 x15)) else (fX1_near_L313 o2.2 x3 x9 x11 x13 x15)))) else (if x5 < x7 then (if x5 = (0 : Int64) then none else (if x11 = (0 : Int64) then none else (if (((x2.toInt64) - x15) / x11) ≤ (x7 / x5) then (fX1_near_L242 σ k124 x2 x3 x5 x7 x9 x11 x13 x15 (((x2.toInt64) - x15) / x11)) else (fX1_near_L242 σ k124 x2 x3 x5 x7 x9 x11 x13 x15 (x7 / x5))))) else (if x7 = (0 : Int64) then none else (if x15 = (0 : Int64) then none else (if (((x2.toInt64) - x11) / x15) ≤ (x5 / x7) then (fX1_near_L175 σ k124 x2 x3 x5 x7 x9 x11 x13 x15 (((x2.toInt64) - x11) / x15)) else (fX1_near_L175 σ k124 x2 x3 x5 x7 x9 x11 x13 x15 (x5 / x7)))))))
def fX1_near_L124 (σ : MS)   (x2 : Int32) (x3 : Int64) (x5 : Int64) (x7 : Int64) (x9 : Int64) (x11 : Int64) (x13 : Int64) (x15 : Int64) : Option (Int32 × MS) := lp (fun k t => fX1_near_B124 t.2.2.2.2.2.2.2.2   k t.1 t.2.1 t.2.2.1 t.2.2.2.1 t.2.2.2.2.1 t.2.2.2.2.2.1 t.2.2.2.2.2.2.1 t.2.2.2.2.2.2.2.1) FU (x2, x3, x5, x7, x9, x11, x13, x15, σ)
set_option maxHeartbeats 4000000 in
set_option maxRecDepth 100000 in
theorem wX1_near_B124 {p : Program} {l : Launch} {e : Env} {s : State} {m : MethodId} {args : Array Value} {below : List Frame} {meth : Method} {c : Code} {A : Nat → Prop} {D : va_G} {kc : Nat → ClassId} {q : Nat → Nat} {out : Int32 × MS} (C : cxt p s m args meth c RX1 cX1_near 21 (some .int) wsX1_near) (hA : ∀ x, s.heap.size ≤ x → A x) (hK : va_K D vwCl (tysX1 kc) s) (k124 : Int32 × Int64 × Int64 × Int64 × Int64 × Int64 × Int64 × Int64 × MS → Option (Int32 × MS)) (hk124 : ∀ (x2 : Int32) (x3 : Int64) (x5 : Int64) (x7 : Int64) (x9 : Int64) (x11 : Int64) (x13 : Int64) (x15 : Int64) (σ : MS) (H : Heap) (locs : List Loc) (ls : Array Slot), k124 (x2, x3, x5, x7, x9, x11, x13, x15, σ) = some out → va_P D vwCl (wX1 kc q σ) H → va_D A (wX1 kc q σ) → va_S A s.heap H locs → lv_has ls 21 [(0, .ref (q 0)), (2, .int x2), (3, .long x3), (5, .long x5), (7, .long x7), (9, .long x9), (11, .long x11), (13, .long x13), (15, .long x15)] → W p l e rmX1_near s m args below meth c H locs 0 0 (MQ below (QMi D (tysX1 kc) (wX1 kc q) A out) args s 0 0 A) (F0 m 124 ls [])) (σ : MS) (x2 : Int32) (x3 : Int64) (x5 : Int64) (x7 : Int64) (x9 : Int64) (x11 : Int64) (x13 : Int64) (x15 : Int64) (H : Heap) (locs : List Loc) (ls : Array Slot) (h : fX1_near_B124 σ   k124 x2 x3 x5 x7 x9 x11 x13 x15 = some out) (hP : va_P D vwCl (wX1 kc q σ) H) (hD : va_D A (wX1 kc q σ)) (hS : va_S A s.heap H locs) (hl : lv_has ls 21 [(0, .ref (q 0)), (2, .int x2), (3, .long x3), (5, .long x5), (7, .long x7), (9, .long x9), (11, .long x11), (13, .long x13), (15, .long x15)]) : W p l e rmX1_near s m args below meth c H locs 0 0 (MQ below (QMi D (tysX1 kc) (wX1 kc q) A out) args s 0 0 A) (F0 m 124 ls []) := by
  obtain ⟨hx, hb, hr, hml, hown, hts, hlocks⟩ := id C
  unfold fX1_near_B124 at h
  refine lv_lload hx hb dX1_near_124 (lv_at hl 6 rfl) ?_
  refine lv_lload hx hb dX1_near_126 (lv_at hl 8 rfl) ?_
  refine lv_ladd hx hb dX1_near_128 ?_
  refine lv_iload_n hx hb dX1_near_129 rfl (lv_at hl 1 rfl) ?_
  refine lv_i2l (v := (x2.toInt64)) hx hb dX1_near_130 rfl ?_
  refine xl_gt (tgt := 277) hx hb dX1_near_131 dX1_near_132 (by decide) (fun c1 => ?_) (fun c1 => ?_)
  · replace h := br_p c1 h
    refine lv_aload_n hx hb dX1_near_277 rfl (lv_at hl 0 rfl) ?_
    refine lv_lload hx hb dX1_near_278 (lv_at hl 3 rfl) ?_
    refine lv_lload hx hb dX1_near_280 (lv_at hl 8 rfl) ?_
    refine lv_lload hx hb dX1_near_282 (lv_at hl 4 rfl) ?_
    refine lv_lload hx hb dX1_near_284 (lv_at hl 6 rfl) ?_
    obtain ⟨o2, ho3, h⟩ := bi h
    refine caMi (q0 := 0) (As := [.long x5, .long x15, .long x7, .long x11]) (rest := []) ⟨hx, hb, hml, hown, hts⟩ (mX1_compared l D kc q σ x5 x15 x7 x11 o2 ho3) (cwV 4 hts gX1_near_X1_compared rfl rfl rfl (by decide +kernel) ⟨Nat.le_of_ble_eq_true rfl, Nat.le_of_ble_eq_true rfl⟩) hK hP hD hS hA rfl rfl rfl rfl hl.1 (Nat.le_of_ble_eq_true rfl) dX1_near_286 ⟨Nat.zero_le _, Nat.zero_le _⟩ (fun H locs hP hD hS => ?_)
    refine lv_istore (lv' := [(17, .int o2.1), (0, .ref (q 0)), (2, .int x2), (3, .long x3), (5, .long x5), (7, .long x7), (9, .long x9), (11, .long x11), (13, .long x13), (15, .long x15)]) hx hb dX1_near_289 hl (by decide) rfl (fun ls hl => ?_)
    refine lv_iload hx hb dX1_near_291 (lv_at hl 0 rfl) ?_
    refine lv_if_lt (tgt := 309) hx hb dX1_near_293 (by decide) (fun c4 => ?_) (fun c4 => ?_)
    · replace h := br_p c4 h
      exact wX1_near_L309 C hA hK  o2.2 x3 x9 x11 x13 x15 H locs ls h hP hD hS (lv_sub hl [1, 3, 6, 7, 8, 9] rfl)
    · replace h := br_n c4 h
      refine lv_iload hx hb dX1_near_296 (lv_at hl 0 rfl) ?_
      refine lv_if_ne (tgt := 313) hx hb dX1_near_298 (by decide) (fun c5 => ?_) (fun c5 => ?_)
      · replace h := br_n c5 h
        exact wX1_near_L313 C hA hK  o2.2 x3 x9 x11 x13 x15 H locs ls h hP hD hS (lv_sub hl [1, 3, 6, 7, 8, 9] rfl)
      · replace h := br_p c5 h
        refine lv_lload hx hb dX1_near_301 (lv_at hl 7 rfl) ?_
        refine lv_lload hx hb dX1_near_303 (lv_at hl 9 rfl) ?_
        refine xl_gt (tgt := 313) hx hb dX1_near_305 dX1_near_306 (by decide) (fun c6 => ?_) (fun c6 => ?_)
        · replace h := br_p c6 h
          exact wX1_near_L313 C hA hK  o2.2 x3 x9 x11 x13 x15 H locs ls h hP hD hS (lv_sub hl [1, 3, 6, 7, 8, 9] rfl)
        · replace h := br_n c6 h
          exact wX1_near_L309 C hA hK  o2.2 x3 x9 x11 x13 x15 H locs ls h hP hD hS (lv_sub hl [1, 3, 6, 7, 8, 9] rfl)
  · replace h := br_n c1 h
    refine lv_lload hx hb dX1_near_135 (lv_at hl 3 rfl) ?_
    refine lv_lload hx hb dX1_near_137 (lv_at hl 4 rfl) ?_
    refine xl_lt (tgt := 210) hx hb dX1_near_139 dX1_near_140 (by decide) (fun c7 => ?_) (fun c7 => ?_)
    · replace h := br_p c7 h
      refine lv_lload hx hb dX1_near_210 (lv_at hl 4 rfl) ?_
      refine lv_lload hx hb dX1_near_212 (lv_at hl 3 rfl) ?_
      obtain ⟨g8, h⟩ := gd_f h
      refine lv_ldiv hx hb dX1_near_214 g8 ?_
      refine lv_lstore (lv' := [(17, .long (x7 / x5)), (0, .ref (q 0)), (2, .int x2), (3, .long x3), (5, .long x5), (7, .long x7), (9, .long x9), (11, .long x11), (13, .long x13), (15, .long x15)]) hx hb dX1_near_215 hl (by decide) rfl (fun ls hl => ?_)
      refine lv_iload_n hx hb dX1_near_217 rfl (lv_at hl 2 rfl) ?_
      refine lv_i2l (v := (x2.toInt64)) hx hb dX1_near_218 rfl ?_
      refine lv_lload hx hb dX1_near_219 (lv_at hl 9 rfl) ?_
      refine lv_lsub hx hb dX1_near_221 ?_
      refine lv_lload hx hb dX1_near_222 (lv_at hl 7 rfl) ?_
      obtain ⟨g9, h⟩ := gd_f h
      refine lv_ldiv hx hb dX1_near_224 g9 ?_
      refine lv_lstore (lv' := [(19, .long (((x2.toInt64) - x15) / x11)), (17, .long (x7 / x5)), (0, .ref (q 0)), (2, .int x2), (3, .long x3), (5, .long x5), (7, .long x7), (9, .long x9), (11, .long x11), (13, .long x13), (15, .long x15)]) hx hb dX1_near_225 hl (by decide) rfl (fun ls hl => ?_)
      refine lv_lload hx hb dX1_near_227 (lv_at hl 1 rfl) ?_
      refine lv_lload hx hb dX1_near_229 (lv_at hl 0 rfl) ?_
      refine xl_ge (tgt := 240) hx hb dX1_near_231 dX1_near_232 (by decide) (fun c10 => ?_) (fun c10 => ?_)
      · replace h := br_p c10 h
        refine lv_lload hx hb dX1_near_240 (lv_at hl 0 rfl) ?_
        exact wX1_near_L242 C hA hK k124 hk124 σ x2 x3 x5 x7 x9 x11 x13 x15 (((x2.toInt64) - x15) / x11) H locs ls h hP hD hS (lv_sub hl [2, 3, 4, 5, 6, 7, 8, 9, 10] rfl)
      · replace h := br_n c10 h
        refine lv_lload hx hb dX1_near_235 (lv_at hl 1 rfl) ?_
        refine lv_goto (tgt := 242) hx hb dX1_near_237 (by decide) ?_
        exact wX1_near_L242 C hA hK k124 hk124 σ x2 x3 x5 x7 x9 x11 x13 x15 (x7 / x5) H locs ls h hP hD hS (lv_sub hl [2, 3, 4, 5, 6, 7, 8, 9, 10] rfl)
    · replace h := br_n c7 h
      refine lv_lload hx hb dX1_near_143 (lv_at hl 3 rfl) ?_
      refine lv_lload hx hb dX1_near_145 (lv_at hl 4 rfl) ?_
      obtain ⟨g11, h⟩ := gd_f h
      refine lv_ldiv hx hb dX1_near_147 g11 ?_
      refine lv_lstore (lv' := [(17, .long (x5 / x7)), (0, .ref (q 0)), (2, .int x2), (3, .long x3), (5, .long x5), (7, .long x7), (9, .long x9), (11, .long x11), (13, .long x13), (15, .long x15)]) hx hb dX1_near_148 hl (by decide) rfl (fun ls hl => ?_)
      refine lv_iload_n hx hb dX1_near_150 rfl (lv_at hl 2 rfl) ?_
      refine lv_i2l (v := (x2.toInt64)) hx hb dX1_near_151 rfl ?_
      refine lv_lload hx hb dX1_near_152 (lv_at hl 7 rfl) ?_
      refine lv_lsub hx hb dX1_near_154 ?_
      refine lv_lload hx hb dX1_near_155 (lv_at hl 9 rfl) ?_
      obtain ⟨g12, h⟩ := gd_f h
      refine lv_ldiv hx hb dX1_near_157 g12 ?_
      refine lv_lstore (lv' := [(19, .long (((x2.toInt64) - x11) / x15)), (17, .long (x5 / x7)), (0, .ref (q 0)), (2, .int x2), (3, .long x3), (5, .long x5), (7, .long x7), (9, .long x9), (11, .long x11), (13, .long x13), (15, .long x15)]) hx hb dX1_near_158 hl (by decide) rfl (fun ls hl => ?_)
      refine lv_lload hx hb dX1_near_160 (lv_at hl 1 rfl) ?_
      refine lv_lload hx hb dX1_near_162 (lv_at hl 0 rfl) ?_
      refine xl_ge (tgt := 173) hx hb dX1_near_164 dX1_near_165 (by decide) (fun c13 => ?_) (fun c13 => ?_)
      · replace h := br_p c13 h
        refine lv_lload hx hb dX1_near_173 (lv_at hl 0 rfl) ?_
        exact wX1_near_L175 C hA hK k124 hk124 σ x2 x3 x5 x7 x9 x11 x13 x15 (((x2.toInt64) - x11) / x15) H locs ls h hP hD hS (lv_sub hl [2, 3, 4, 5, 6, 7, 8, 9, 10] rfl)
      · replace h := br_n c13 h
        refine lv_lload hx hb dX1_near_168 (lv_at hl 1 rfl) ?_
        refine lv_goto (tgt := 175) hx hb dX1_near_170 (by decide) ?_
        exact wX1_near_L175 C hA hK k124 hk124 σ x2 x3 x5 x7 x9 x11 x13 x15 (x5 / x7) H locs ls h hP hD hS (lv_sub hl [2, 3, 4, 5, 6, 7, 8, 9, 10] rfl)
set_option maxHeartbeats 4000000 in
set_option maxRecDepth 100000 in
theorem wX1_near_L124 {p : Program} {l : Launch} {e : Env} {s : State} {m : MethodId} {args : Array Value} {below : List Frame} {meth : Method} {c : Code} {A : Nat → Prop} {D : va_G} {kc : Nat → ClassId} {q : Nat → Nat} {out : Int32 × MS} (C : cxt p s m args meth c RX1 cX1_near 21 (some .int) wsX1_near) (hA : ∀ x, s.heap.size ≤ x → A x) (hK : va_K D vwCl (tysX1 kc) s) (σ : MS) (x2 : Int32) (x3 : Int64) (x5 : Int64) (x7 : Int64) (x9 : Int64) (x11 : Int64) (x13 : Int64) (x15 : Int64) (H : Heap) (locs : List Loc) (ls : Array Slot) (h : fX1_near_L124 σ   x2 x3 x5 x7 x9 x11 x13 x15 = some out) (hP : va_P D vwCl (wX1 kc q σ) H) (hD : va_D A (wX1 kc q σ)) (hS : va_S A s.heap H locs) (hl : lv_has ls 21 [(0, .ref (q 0)), (2, .int x2), (3, .long x3), (5, .long x5), (7, .long x7), (9, .long x9), (11, .long x11), (13, .long x13), (15, .long x15)]) : W p l e rmX1_near s m args below meth c H locs 0 0 (MQ below (QMi D (tysX1 kc) (wX1 kc q) A out) args s 0 0 A) (F0 m 124 ls []) := by
  unfold fX1_near_L124 at h
  exact lp_ind (P := fun t : Int32 × Int64 × Int64 × Int64 × Int64 × Int64 × Int64 × Int64 × MS => ∀ (H : Heap) (locs : List Loc) (ls : Array Slot), va_P D vwCl (wX1 kc q t.2.2.2.2.2.2.2.2) H → va_D A (wX1 kc q t.2.2.2.2.2.2.2.2) → va_S A s.heap H locs → lv_has ls 21 [(0, .ref (q 0)), (2, .int t.1), (3, .long t.2.1), (5, .long t.2.2.1), (7, .long t.2.2.2.1), (9, .long t.2.2.2.2.1), (11, .long t.2.2.2.2.2.1), (13, .long t.2.2.2.2.2.2.1), (15, .long t.2.2.2.2.2.2.2.1)] → W p l e rmX1_near s m args below meth c H locs 0 0 (MQ below (QMi D (tysX1 kc) (wX1 kc q) A out) args s 0 0 A) (F0 m 124 ls [])) (fun k hk t h H locs ls hP hD hS hl => wX1_near_B124 C hA hK  k (fun x2 x3 x5 x7 x9 x11 x13 x15 σ H locs ls h hP hD hS hl => hk (x2, x3, x5, x7, x9, x11, x13, x15, σ) h H locs ls hP hD hS hl) t.2.2.2.2.2.2.2.2 t.1 t.2.1 t.2.2.1 t.2.2.2.1 t.2.2.2.2.1 t.2.2.2.2.2.1 t.2.2.2.2.2.2.1 t.2.2.2.2.2.2.2.1 H locs ls h hP hD hS hl) FU (x2, x3, x5, x7, x9, x11, x13, x15, σ) h H locs ls hP hD hS hl
def fX1_near (σ : MS)  (x1 : Int32) (x2 : Int32) : Option (Int32 × MS) := (bd (sm_thrown σ (0 : Int32)) fun s1 => ((fX1_isNumber s1 x1).bind fun o3 => (if o3 = (0 : Int32) then (some ((-1 : Int32), s1)) else ((fX1_isIn (x2.toInt64) (1 : Int64) (1000000 : Int64)).bind fun o6 => (if o6 = (0 : Int32) then (some ((-1 : Int32), s1)) else (if (m_numbers s1) = (40 : Int32) then (some ((-4 : Int32), s1)) else (if ix x1 41 = true then (if (x2.toInt64) < ((m_lower s1) x1.toNatClampNeg) then (if ix x1 41 = true then (if ix x1 41 = true then ((fX1_floor ((m_upper s1) x1.toNatClampNeg) ((m_lower s1) x1.toNatClampNeg)).bind fun o14 => (if ix x1 41 = true then (if ix x1 41 = true then (if ix x1 41 = true then (fX1_near_L124 s1 x2 o14 (((m_upper s1) x1.toNatClampNeg) - (o14 * ((m_lower s1) x1.toNatClampNeg))) (((m_lower s1) x1.toNatClampNeg) - (((m_upper s1) x1.toNatClampNeg) - (o14 * ((m_lower s1) x1.toNatClampNeg)))) (0 : Int64) (1 : Int64) (1 : Int64) (1 : Int64)) else none) else none) else none)) else none) else none) else (if ix x1 41 = true then (if ix x1 41 = true then ((fX1_kept s1 ((m_upper s1) x1.toNatClampNeg) ((m_lower s1) x1.toNatClampNeg)).bind fun o21 => (some (o21.1, o21.2))) else none) else none)) else none)))))))
set_option maxHeartbeats 4000000 in
set_option maxRecDepth 100000 in
theorem mX1_near (l : Launch) (D : va_G) (kc : Nat → ClassId) (q : Nat → Nat) (σ : MS) (x1 : Int32) (x2 : Int32) (out : Int32 × MS) (h : fX1_near σ  x1 x2 = some out) : MMi l yX1_near wsX1_near rmX1_near D (tysX1 kc) (wX1 kc q) σ [.ref (q 0), .int x1, .int x2] out := by
  refine ofMi (cc := cX1_near) (maxL := 21) (ret := (some .int)) (lv := [(0, .ref (q 0)), (1, .int x1), (2, .int x2)]) (by decide) rfl (Nat.le_of_ble_eq_true rfl) rfl ?_
  intro p e s m args below meth c A C hA hK hP hD hS ls hl
  have C : cxt p s m args meth c RX1 cX1_near 21 (some .int) wsX1_near := C
  obtain ⟨hx, hb, hr, hml, hown, hts, hlocks⟩ := id C
  obtain ⟨H, hH⟩ : ∃ H, H = s.heap := ⟨_, rfl⟩
  obtain ⟨locs, hlocs⟩ : ∃ locs : List Loc, locs = [] := ⟨_, rfl⟩
  have hS : va_S A s.heap H locs := by rw [hH, hlocs]; exact va_S.rf
  rw [← hH] at hP
  suffices hW : W p l e rmX1_near s m args below meth c H locs 0 0 _ (F0 m 0 ls []) by rw [hH, hlocs] at hW; exact hW
  unfold fX1_near at h
  refine lv_aload_n hx hb dX1_near_0 rfl (lv_at hl 0 rfl) ?_
  refine lv_iconst (v := (0 : Int32)) hx hb dX1_near_1 (by decide) ?_
  refine wrX1_thrown (v := (0 : Int32)) hx hb hts hinX1_near hown hK hP hD hS (hts (.fieldLink RX1 43 "ExactSharesModel" "thrown" "I") (List.mem_of_getElem? (i := 1) rfl)) dX1_near_2 (fun H locs hP hD hS => ?_)
  obtain ⟨s1, e2, h⟩ := bd_e h
  replace hP : va_P D vwCl (wX1 kc q s1) H := by rw [e2]; exact hP
  replace hD : va_D A (wX1 kc q s1) := by rw [e2]; exact hD
  clear e2
  refine lv_aload_n hx hb dX1_near_5 rfl (lv_at hl 0 rfl) ?_
  refine lv_iload_n hx hb dX1_near_6 rfl (lv_at hl 1 rfl) ?_
  obtain ⟨o3, ho4, h⟩ := bi h
  refine caRi (q0 := 0) (As := [.int x1]) (rest := []) ⟨hx, hb, hml, hown, hts⟩ (mX1_isNumber l D kc q s1 x1 o3 ho4) (cwV 1 hts gX1_near_X1_isNumber rfl rfl rfl (by decide +kernel) ⟨Nat.le_of_ble_eq_true rfl, Nat.le_of_ble_eq_true rfl⟩) hK hP rfl rfl rfl rfl hl.1 (Nat.le_of_ble_eq_true rfl) dX1_near_7 ⟨Nat.zero_le _, Nat.zero_le _⟩ ?_
  refine lv_if_eq (tgt := 25) hx hb dX1_near_10 (by decide) (fun c5 => ?_) (fun c5 => ?_)
  · replace h := br_p c5 h
    refine lv_iconst (v := (-1 : Int32)) hx hb dX1_near_25 (by decide) ?_
    exact reMi (v := (-1 : Int32)) hx hb hr hlocks hK hP hD hS h dX1_near_26
  · replace h := br_n c5 h
    refine lv_iload_n hx hb dX1_near_13 rfl (lv_at hl 2 rfl) ?_
    refine lv_i2l (v := (x2.toInt64)) hx hb dX1_near_14 rfl ?_
    refine lv_lconst (v := (1 : Int64)) hx hb dX1_near_15 (by decide) ?_
    refine lv_ldc2 (v := (1000000 : Int64)) hx hb hown (hts (.constantLong RX1 115 (1000000)) (List.mem_of_getElem? (i := 2) rfl)) dX1_near_16 ?_
    obtain ⟨o6, ho7, h⟩ := bi h
    refine caPi (As := [.long (x2.toInt64), .long (1 : Int64), .long (1000000 : Int64)]) (rest := []) ⟨hx, hb, hml, hown, hts⟩ (mX1_isIn l (x2.toInt64) (1 : Int64) (1000000 : Int64) o6 ho7) (va_cwS 3 hts gX1_near_X1_isIn rfl rfl rfl (by decide +kernel) ⟨Nat.le_of_ble_eq_true rfl, Nat.le_of_ble_eq_true rfl⟩) rfl hl.1 (Nat.le_of_ble_eq_true rfl) dX1_near_19 ⟨Nat.zero_le _, Nat.zero_le _⟩ ?_
    refine lv_if_ne (tgt := 27) hx hb dX1_near_22 (by decide) (fun c8 => ?_) (fun c8 => ?_)
    · replace h := br_n c8 h
      refine lv_aload_n hx hb dX1_near_27 rfl (lv_at hl 0 rfl) ?_
      refine rdX1_numbers hx hb hts hinX1_near hown hK hP (hts (.fieldLink RX1 56 "ExactSharesModel" "numbers" "I") (List.mem_of_getElem? (i := 3) rfl)) dX1_near_28 ?_
      refine lv_bipush (v := (40 : Int32)) hx hb dX1_near_31 (by decide) ?_
      refine lv_icmp_ne (tgt := 39) hx hb dX1_near_33 (by decide) (fun c9 => ?_) (fun c9 => ?_)
      · replace h := br_n c9 h
        refine lv_aload_n hx hb dX1_near_39 rfl (lv_at hl 0 rfl) ?_
        refine rdX1_lower hx hb hts hinX1_near hown hK hP (hts (.fieldLink RX1 13 "ExactSharesModel" "lower" "[J") (List.mem_of_getElem? (i := 4) rfl)) dX1_near_40 ?_
        refine lv_iload_n hx hb dX1_near_43 rfl (lv_at hl 1 rfl) ?_
        obtain ⟨g10, h⟩ := gd_t h
        refine ldX1_lower hx hb hK hP g10 dX1_near_44 ?_
        refine lv_iload_n hx hb dX1_near_45 rfl (lv_at hl 2 rfl) ?_
        refine lv_i2l (v := (x2.toInt64)) hx hb dX1_near_46 rfl ?_
        refine xl_gt (tgt := 68) hx hb dX1_near_47 dX1_near_48 (by decide) (fun c11 => ?_) (fun c11 => ?_)
        · replace h := br_p c11 h
          refine lv_aload_n hx hb dX1_near_68 rfl (lv_at hl 0 rfl) ?_
          refine rdX1_upper hx hb hts hinX1_near hown hK hP (hts (.fieldLink RX1 7 "ExactSharesModel" "upper" "[J") (List.mem_of_getElem? (i := 5) rfl)) dX1_near_69 ?_
          refine lv_iload_n hx hb dX1_near_72 rfl (lv_at hl 1 rfl) ?_
          obtain ⟨g12, h⟩ := gd_t h
          refine ldX1_upper hx hb hK hP g12 dX1_near_73 ?_
          refine lv_aload_n hx hb dX1_near_74 rfl (lv_at hl 0 rfl) ?_
          refine rdX1_lower hx hb hts hinX1_near hown hK hP (hts (.fieldLink RX1 13 "ExactSharesModel" "lower" "[J") (List.mem_of_getElem? (i := 4) rfl)) dX1_near_75 ?_
          refine lv_iload_n hx hb dX1_near_78 rfl (lv_at hl 1 rfl) ?_
          obtain ⟨g13, h⟩ := gd_t h
          refine ldX1_lower hx hb hK hP g13 dX1_near_79 ?_
          obtain ⟨o14, ho15, h⟩ := bi h
          refine caPl (As := [.long ((m_upper s1) x1.toNatClampNeg), .long ((m_lower s1) x1.toNatClampNeg)]) (rest := []) ⟨hx, hb, hml, hown, hts⟩ (mX1_floor l ((m_upper s1) x1.toNatClampNeg) ((m_lower s1) x1.toNatClampNeg) o14 ho15) (va_cwS 2 hts gX1_near_X1_floor rfl rfl rfl (by decide +kernel) ⟨Nat.le_of_ble_eq_true rfl, Nat.le_of_ble_eq_true rfl⟩) rfl hl.1 (Nat.le_of_ble_eq_true rfl) dX1_near_80 ⟨Nat.zero_le _, Nat.zero_le _⟩ ?_
          refine lv_lstore_n (lv' := [(3, .long o14), (0, .ref (q 0)), (1, .int x1), (2, .int x2)]) hx hb dX1_near_83 rfl hl (by decide) rfl (fun ls hl => ?_)
          refine lv_aload_n hx hb dX1_near_84 rfl (lv_at hl 1 rfl) ?_
          refine rdX1_upper hx hb hts hinX1_near hown hK hP (hts (.fieldLink RX1 7 "ExactSharesModel" "upper" "[J") (List.mem_of_getElem? (i := 5) rfl)) dX1_near_85 ?_
          refine lv_iload_n hx hb dX1_near_88 rfl (lv_at hl 2 rfl) ?_
          obtain ⟨g16, h⟩ := gd_t h
          refine ldX1_upper hx hb hK hP g16 dX1_near_89 ?_
          refine lv_lload_n hx hb dX1_near_90 rfl (lv_at hl 0 rfl) ?_
          refine lv_aload_n hx hb dX1_near_91 rfl (lv_at hl 1 rfl) ?_
          refine rdX1_lower hx hb hts hinX1_near hown hK hP (hts (.fieldLink RX1 13 "ExactSharesModel" "lower" "[J") (List.mem_of_getElem? (i := 4) rfl)) dX1_near_92 ?_
          refine lv_iload_n hx hb dX1_near_95 rfl (lv_at hl 2 rfl) ?_
          obtain ⟨g17, h⟩ := gd_t h
          refine ldX1_lower hx hb hK hP g17 dX1_near_96 ?_
          refine lv_lmul hx hb dX1_near_97 ?_
          refine lv_lsub hx hb dX1_near_98 ?_
          refine lv_lstore (lv' := [(5, .long (((m_upper s1) x1.toNatClampNeg) - (o14 * ((m_lower s1) x1.toNatClampNeg)))), (3, .long o14), (0, .ref (q 0)), (1, .int x1), (2, .int x2)]) hx hb dX1_near_99 hl (by decide) rfl (fun ls hl => ?_)
          refine lv_aload_n hx hb dX1_near_101 rfl (lv_at hl 2 rfl) ?_
          refine rdX1_lower hx hb hts hinX1_near hown hK hP (hts (.fieldLink RX1 13 "ExactSharesModel" "lower" "[J") (List.mem_of_getElem? (i := 4) rfl)) dX1_near_102 ?_
          refine lv_iload_n hx hb dX1_near_105 rfl (lv_at hl 3 rfl) ?_
          obtain ⟨g18, h⟩ := gd_t h
          refine ldX1_lower hx hb hK hP g18 dX1_near_106 ?_
          refine lv_lload hx hb dX1_near_107 (lv_at hl 0 rfl) ?_
          refine lv_lsub hx hb dX1_near_109 ?_
          refine lv_lstore (lv' := [(7, .long (((m_lower s1) x1.toNatClampNeg) - (((m_upper s1) x1.toNatClampNeg) - (o14 * ((m_lower s1) x1.toNatClampNeg))))), (5, .long (((m_upper s1) x1.toNatClampNeg) - (o14 * ((m_lower s1) x1.toNatClampNeg)))), (3, .long o14), (0, .ref (q 0)), (1, .int x1), (2, .int x2)]) hx hb dX1_near_110 hl (by decide) rfl (fun ls hl => ?_)
          refine lv_lconst (v := (0 : Int64)) hx hb dX1_near_112 (by decide) ?_
          refine lv_lstore (lv' := [(9, .long (0 : Int64)), (7, .long (((m_lower s1) x1.toNatClampNeg) - (((m_upper s1) x1.toNatClampNeg) - (o14 * ((m_lower s1) x1.toNatClampNeg))))), (5, .long (((m_upper s1) x1.toNatClampNeg) - (o14 * ((m_lower s1) x1.toNatClampNeg)))), (3, .long o14), (0, .ref (q 0)), (1, .int x1), (2, .int x2)]) hx hb dX1_near_113 hl (by decide) rfl (fun ls hl => ?_)
          refine lv_lconst (v := (1 : Int64)) hx hb dX1_near_115 (by decide) ?_
          refine lv_lstore (lv' := [(11, .long (1 : Int64)), (9, .long (0 : Int64)), (7, .long (((m_lower s1) x1.toNatClampNeg) - (((m_upper s1) x1.toNatClampNeg) - (o14 * ((m_lower s1) x1.toNatClampNeg))))), (5, .long (((m_upper s1) x1.toNatClampNeg) - (o14 * ((m_lower s1) x1.toNatClampNeg)))), (3, .long o14), (0, .ref (q 0)), (1, .int x1), (2, .int x2)]) hx hb dX1_near_116 hl (by decide) rfl (fun ls hl => ?_)
          refine lv_lconst (v := (1 : Int64)) hx hb dX1_near_118 (by decide) ?_
          refine lv_lstore (lv' := [(13, .long (1 : Int64)), (11, .long (1 : Int64)), (9, .long (0 : Int64)), (7, .long (((m_lower s1) x1.toNatClampNeg) - (((m_upper s1) x1.toNatClampNeg) - (o14 * ((m_lower s1) x1.toNatClampNeg))))), (5, .long (((m_upper s1) x1.toNatClampNeg) - (o14 * ((m_lower s1) x1.toNatClampNeg)))), (3, .long o14), (0, .ref (q 0)), (1, .int x1), (2, .int x2)]) hx hb dX1_near_119 hl (by decide) rfl (fun ls hl => ?_)
          refine lv_lconst (v := (1 : Int64)) hx hb dX1_near_121 (by decide) ?_
          refine lv_lstore (lv' := [(15, .long (1 : Int64)), (13, .long (1 : Int64)), (11, .long (1 : Int64)), (9, .long (0 : Int64)), (7, .long (((m_lower s1) x1.toNatClampNeg) - (((m_upper s1) x1.toNatClampNeg) - (o14 * ((m_lower s1) x1.toNatClampNeg))))), (5, .long (((m_upper s1) x1.toNatClampNeg) - (o14 * ((m_lower s1) x1.toNatClampNeg)))), (3, .long o14), (0, .ref (q 0)), (1, .int x1), (2, .int x2)]) hx hb dX1_near_122 hl (by decide) rfl (fun ls hl => ?_)
          exact wX1_near_L124 C hA hK  s1 x2 o14 (((m_upper s1) x1.toNatClampNeg) - (o14 * ((m_lower s1) x1.toNatClampNeg))) (((m_lower s1) x1.toNatClampNeg) - (((m_upper s1) x1.toNatClampNeg) - (o14 * ((m_lower s1) x1.toNatClampNeg)))) (0 : Int64) (1 : Int64) (1 : Int64) (1 : Int64) H locs ls h hP hD hS (lv_sub hl [7, 9, 6, 5, 4, 3, 2, 1, 0] rfl)
        · replace h := br_n c11 h
          refine lv_aload_n hx hb dX1_near_51 rfl (lv_at hl 0 rfl) ?_
          refine lv_aload_n hx hb dX1_near_52 rfl (lv_at hl 0 rfl) ?_
          refine rdX1_upper hx hb hts hinX1_near hown hK hP (hts (.fieldLink RX1 7 "ExactSharesModel" "upper" "[J") (List.mem_of_getElem? (i := 5) rfl)) dX1_near_53 ?_
          refine lv_iload_n hx hb dX1_near_56 rfl (lv_at hl 1 rfl) ?_
          obtain ⟨g19, h⟩ := gd_t h
          refine ldX1_upper hx hb hK hP g19 dX1_near_57 ?_
          refine lv_aload_n hx hb dX1_near_58 rfl (lv_at hl 0 rfl) ?_
          refine rdX1_lower hx hb hts hinX1_near hown hK hP (hts (.fieldLink RX1 13 "ExactSharesModel" "lower" "[J") (List.mem_of_getElem? (i := 4) rfl)) dX1_near_59 ?_
          refine lv_iload_n hx hb dX1_near_62 rfl (lv_at hl 1 rfl) ?_
          obtain ⟨g20, h⟩ := gd_t h
          refine ldX1_lower hx hb hK hP g20 dX1_near_63 ?_
          obtain ⟨o21, ho22, h⟩ := bi h
          refine caMi (q0 := 0) (As := [.long ((m_upper s1) x1.toNatClampNeg), .long ((m_lower s1) x1.toNatClampNeg)]) (rest := []) ⟨hx, hb, hml, hown, hts⟩ (mX1_kept l D kc q s1 ((m_upper s1) x1.toNatClampNeg) ((m_lower s1) x1.toNatClampNeg) o21 ho22) (cwV 2 hts gX1_near_X1_kept rfl rfl rfl (by decide +kernel) ⟨Nat.le_of_ble_eq_true rfl, Nat.le_of_ble_eq_true rfl⟩) hK hP hD hS hA rfl rfl rfl rfl hl.1 (Nat.le_of_ble_eq_true rfl) dX1_near_64 ⟨Nat.zero_le _, Nat.zero_le _⟩ (fun H locs hP hD hS => ?_)
          exact reMi (v := o21.1) hx hb hr hlocks hK hP hD hS h dX1_near_67
      · replace h := br_p c9 h
        refine lv_bipush (v := (-4 : Int32)) hx hb dX1_near_36 (by decide) ?_
        exact reMi (v := (-4 : Int32)) hx hb hr hlocks hK hP hD hS h dX1_near_38
    · replace h := br_p c8 h
      refine lv_iconst (v := (-1 : Int32)) hx hb dX1_near_25 (by decide) ?_
      exact reMi (v := (-1 : Int32)) hx hb hr hlocks hK hP hD hS h dX1_near_26
