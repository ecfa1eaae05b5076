set_option maxHeartbeats 4000000 in
set_option maxRecDepth 100000 in
theorem lc_7 {p : Program} {l : Launch} {e : Env} {s : State} {m : MethodId} {below : List Frame} {meth : Method} {c : Code} {b L : Nat} {xs : Nat → Int32} {D : va_G} {kc0 kc1 : Nat → ClassId} {q0 q1 : Nat → Nat} {ko : ClassId} {qo : Nat} {x4 : Int32} {cells slots : Nat} (C0 : lw_At p s m meth c b L xs) (X0 : lwx l s D kc0 kc1 ko L x4) (hcs1 : cells + 1 ≤ room_1.cells ∧ slots + 6 ≤ room_1.slots) (hnext : ∀ (σ : CS) (τ : MS) (o : Nat → Int64) (H : Heap) (locs : List Loc) (ls : Array Slot), Rel σ τ → va_P D vwCl (wL kc0 q0 σ kc1 q1 τ ko qo o) H → va_D (fun q : Nat => s.heap.size ≤ q) (wL kc0 q0 σ kc1 q1 τ ko qo o) → va_S (fun q : Nat => s.heap.size ≤ q) s.heap H locs → lv_has ls 7 [(0, .ref b), (1, .ref (q0 0)), (2, .ref (q1 0)), (3, .ref qo), (4, .int x4)] → W p l e room_1 s m #[Value.ref b] below meth c H locs (cells + 1) (slots + 6) (lw_Z below #[Value.ref b] s) (F0 m 1049 ls [])) (σ : CS) (τ : MS) (o : Nat → Int64) (H : Heap) (locs : List Loc) (ls : Array Slot) (hR : Rel σ τ) (hP : va_P D vwCl (wL kc0 q0 σ kc1 q1 τ ko qo o) H) (hD : va_D (fun q : Nat => s.heap.size ≤ q) (wL kc0 q0 σ kc1 q1 τ ko qo o)) (hS : va_S (fun q : Nat => s.heap.size ≤ q) s.heap H locs) (hl : lv_has ls 7 [(0, .ref b), (1, .ref (q0 0)), (2, .ref (q1 0)), (3, .ref qo), (4, .int x4)]) : W p l e room_1 s m #[Value.ref b] below meth c H locs cells slots (lw_Z below #[Value.ref b] s) (F0 m 475 ls []) := by
  obtain ⟨hx, hb, hr, hml, hown, hts, hX, hbl, hlocks, hgv⟩ := C0
  obtain ⟨hz, hK, hi1, hi2, hi3, hi4⟩ := X0
  have hown : s.vm.findClass RL = some m.cls := hown
  have hts : ∀ w ∈ wsL_law, w.before #[Value.ref b] s = true := fun w h => hts w (wsL_law_in w h)
  have hA : ∀ q : Nat, s.heap.size ≤ q → (fun q : Nat => s.heap.size ≤ q) q := fun _ h => h
  have hbA : ¬ (fun q : Nat => s.heap.size ≤ q) b := Nat.not_le.mpr hbl
  have hcs : cells ≤ room_1.cells ∧ slots ≤ room_1.slots := ⟨by omega, by omega⟩
  refine lv_aload_n hx hb dL_law_475 rfl (lv_at hl 1 rfl) ?_
  refine lv_aload_n hx hb dL_law_476 rfl (lv_at hl 0 rfl) ?_
  refine lv_iload hx hb dL_law_477 (lv_at hl 4 rfl) ?_
  refine lv_iconst (v := (1 : Int32)) hx hb dL_law_479 (by decide) ?_
  refine lv_iadd hx hb dL_law_480 ?_
  refine va_sld hx hb hX hbl hbA hS hi1 dL_law_481 ?_
  refine lv_aload_n hx hb dL_law_482 rfl (lv_at hl 0 rfl) ?_
  refine lv_iload hx hb dL_law_483 (lv_at hl 4 rfl) ?_
  refine lv_iconst (v := (2 : Int32)) hx hb dL_law_485 (by decide) ?_
  refine lv_iadd hx hb dL_law_486 ?_
  refine va_sld hx hb hX hbl hbA hS hi2 dL_law_487 ?_
  obtain ⟨r, σ1, τ1, hf0, hf1, hR⟩ := pu_near hR (xs (x4 + (1 : Int32)).toNatClampNeg) (xs (x4 + (2 : Int32)).toNatClampNeg)
  refine cl0Mi (As := [.int (xs (x4 + (1 : Int32)).toNatClampNeg), .int (xs (x4 + (2 : Int32)).toNatClampNeg)]) (rest := []) ⟨hx, hb, hml, hown, hts⟩ (mX0_near l D kc0 q0 σ (xs (x4 + (1 : Int32)).toNatClampNeg) (xs (x4 + (2 : Int32)).toNatClampNeg) _ hf0) (cwV 2 hts gL_law_X0_near rfl rfl rfl (by decide +kernel) ⟨Nat.le_of_ble_eq_true rfl, Nat.le_of_ble_eq_true rfl⟩) hK hP hD hS hA rfl hl.1 (Nat.le_of_ble_eq_true rfl) dL_law_488 hcs (fun H locs hP hD hS => ?_)
  refine lv_aload_n hx hb dL_law_491 rfl (lv_at hl 2 rfl) ?_
  refine lv_aload_n hx hb dL_law_492 rfl (lv_at hl 0 rfl) ?_
  refine lv_iload hx hb dL_law_493 (lv_at hl 4 rfl) ?_
  refine lv_iconst (v := (1 : Int32)) hx hb dL_law_495 (by decide) ?_
  refine lv_iadd hx hb dL_law_496 ?_
  refine va_sld hx hb hX hbl hbA hS hi1 dL_law_497 ?_
  refine lv_aload_n hx hb dL_law_498 rfl (lv_at hl 0 rfl) ?_
  refine lv_iload hx hb dL_law_499 (lv_at hl 4 rfl) ?_
  refine lv_iconst (v := (2 : Int32)) hx hb dL_law_501 (by decide) ?_
  refine lv_iadd hx hb dL_law_502 ?_
  refine va_sld hx hb hX hbl hbA hS hi2 dL_law_503 ?_
  refine cl1Mi (As := [.int (xs (x4 + (1 : Int32)).toNatClampNeg), .int (xs (x4 + (2 : Int32)).toNatClampNeg)]) (rest := [.int r]) ⟨hx, hb, hml, hown, hts⟩ (mX1_near l D kc1 q1 τ (xs (x4 + (1 : Int32)).toNatClampNeg) (xs (x4 + (2 : Int32)).toNatClampNeg) _ hf1) (cwV 2 hts gL_law_X1_near rfl rfl rfl (by decide +kernel) ⟨Nat.le_of_ble_eq_true rfl, Nat.le_of_ble_eq_true rfl⟩) hK hP hD hS hA rfl hl.1 (Nat.le_of_ble_eq_true rfl) dL_law_504 hcs (fun H locs hP hD hS => ?_)
  refine lv_icmp_eq (tgt := 1049) hx hb dL_law_507 (by decide) (fun c7 => ?_) (fun c7 => ?_)
  · refine W.widen (k := cells + 1) (n := slots + 6) (by omega) (by omega) ?_
    exact hnext σ1 τ1 o H locs ls hR hP hD hS hl
  · exact absurd rfl c7
set_option maxHeartbeats 4000000 in
set_option maxRecDepth 100000 in
theorem lc_8 {p : Program} {l : Launch} {e : Env} {s : State} {m : MethodId} {below : List Frame} {meth : Method} {c : Code} {b L : Nat} {xs : Nat → Int32} {D : va_G} {kc0 kc1 : Nat → ClassId} {q0 q1 : Nat → Nat} {ko : ClassId} {qo : Nat} {x4 : Int32} {cells slots : Nat} (C0 : lw_At p s m meth c b L xs) (X0 : lwx l s D kc0 kc1 ko L x4) (hcs1 : cells + 1 ≤ room_1.cells ∧ slots + 6 ≤ room_1.slots) (hnext : ∀ (σ : CS) (τ : MS) (o : Nat → Int64) (H : Heap) (locs : List Loc) (ls : Array Slot), Rel σ τ → va_P D vwCl (wL kc0 q0 σ kc1 q1 τ ko qo o) H → va_D (fun q : Nat => s.heap.size ≤ q) (wL kc0 q0 σ kc1 q1 τ ko qo o) → va_S (fun q : Nat => s.heap.size ≤ q) s.heap H locs → lv_has ls 7 [(0, .ref b), (1, .ref (q0 0)), (2, .ref (q1 0)), (3, .ref qo), (4, .int x4)] → W p l e room_1 s m #[Value.ref b] below meth c H locs (cells + 1) (slots + 6) (lw_Z below #[Value.ref b] s) (F0 m 1049 ls [])) (σ : CS) (τ : MS) (o : Nat → Int64) (H : Heap) (locs : List Loc) (ls : Array Slot) (hR : Rel σ τ) (hP : va_P D vwCl (wL kc0 q0 σ kc1 q1 τ ko qo o) H) (hD : va_D (fun q : Nat => s.heap.size ≤ q) (wL kc0 q0 σ kc1 q1 τ ko qo o)) (hS : va_S (fun q : Nat => s.heap.size ≤ q) s.heap H locs) (hl : lv_has ls 7 [(0, .ref b), (1, .ref (q0 0)), (2, .ref (q1 0)), (3, .ref qo), (4, .int x4)]) : W p l e room_1 s m #[Value.ref b] below meth c H locs cells slots (lw_Z below #[Value.ref b] s) (F0 m 512 ls []) := by
  obtain ⟨hx, hb, hr, hml, hown, hts, hX, hbl, hlocks, hgv⟩ := C0
  obtain ⟨hz, hK, hi1, hi2, hi3, hi4⟩ := X0
  have hown : s.vm.findClass RL = some m.cls := hown
  have hts : ∀ w ∈ wsL_law, w.before #[Value.ref b] s = true := fun w h => hts w (wsL_law_in w h)
  have hA : ∀ q : Nat, s.heap.size ≤ q → (fun q : Nat => s.heap.size ≤ q) q := fun _ h => h
  have hbA : ¬ (fun q : Nat => s.heap.size ≤ q) b := Nat.not_le.mpr hbl
  have hcs : cells ≤ room_1.cells ∧ slots ≤ room_1.slots := ⟨by omega, by omega⟩
  refine lv_aload_n hx hb dL_law_512 rfl (lv_at hl 1 rfl) ?_
  refine lv_aload_n hx hb dL_law_513 rfl (lv_at hl 0 rfl) ?_
  refine lv_iload hx hb dL_law_514 (lv_at hl 4 rfl) ?_
  refine lv_iconst (v := (1 : Int32)) hx hb dL_law_516 (by decide) ?_
  refine lv_iadd hx hb dL_law_517 ?_
  refine va_sld hx hb hX hbl hbA hS hi1 dL_law_518 ?_
  refine lv_aload_n hx hb dL_law_519 rfl (lv_at hl 0 rfl) ?_
  refine lv_iload hx hb dL_law_520 (lv_at hl 4 rfl) ?_
  refine lv_iconst (v := (2 : Int32)) hx hb dL_law_522 (by decide) ?_
  refine lv_iadd hx hb dL_law_523 ?_
  refine va_sld hx hb hX hbl hbA hS hi2 dL_law_524 ?_
  refine lv_aload_n hx hb dL_law_525 rfl (lv_at hl 0 rfl) ?_
  refine lv_iload hx hb dL_law_526 (lv_at hl 4 rfl) ?_
  refine lv_iconst (v := (3 : Int32)) hx hb dL_law_528 (by decide) ?_
  refine lv_iadd hx hb dL_law_529 ?_
  refine va_sld hx hb hX hbl hbA hS hi3 dL_law_530 ?_
  refine lv_if_eq (tgt := 538) hx hb dL_law_531 (by decide) (fun c8 => ?_) (fun c8 => ?_)
  · refine lv_iconst (v := (0 : Int32)) hx hb dL_law_538 (by decide) ?_
    obtain ⟨r, τ1, hf0, hf1, hR⟩ := pu_cut hR (xs (x4 + (1 : Int32)).toNatClampNeg) (xs (x4 + (2 : Int32)).toNatClampNeg) (0 : Int32)
    refine cl0Rl (As := [.int (xs (x4 + (1 : Int32)).toNatClampNeg), .int (xs (x4 + (2 : Int32)).toNatClampNeg), .int (0 : Int32)]) (rest := []) ⟨hx, hb, hml, hown, hts⟩ (mX0_cut l D kc0 q0 σ (xs (x4 + (1 : Int32)).toNatClampNeg) (xs (x4 + (2 : Int32)).toNatClampNeg) (0 : Int32) _ hf0) (cwV 3 hts gL_law_X0_cut rfl rfl rfl (by decide +kernel) ⟨Nat.le_of_ble_eq_true rfl, Nat.le_of_ble_eq_true rfl⟩) hK hP rfl hl.1 (Nat.le_of_ble_eq_true rfl) dL_law_539 hcs ?_
    refine lv_aload_n hx hb dL_law_542 rfl (lv_at hl 2 rfl) ?_
    refine lv_aload_n hx hb dL_law_543 rfl (lv_at hl 0 rfl) ?_
    refine lv_iload hx hb dL_law_544 (lv_at hl 4 rfl) ?_
    refine lv_iconst (v := (1 : Int32)) hx hb dL_law_546 (by decide) ?_
    refine lv_iadd hx hb dL_law_547 ?_
    refine va_sld hx hb hX hbl hbA hS hi1 dL_law_548 ?_
    refine lv_aload_n hx hb dL_law_549 rfl (lv_at hl 0 rfl) ?_
    refine lv_iload hx hb dL_law_550 (lv_at hl 4 rfl) ?_
    refine lv_iconst (v := (2 : Int32)) hx hb dL_law_552 (by decide) ?_
    refine lv_iadd hx hb dL_law_553 ?_
    refine va_sld hx hb hX hbl hbA hS hi2 dL_law_554 ?_
    refine lv_aload_n hx hb dL_law_555 rfl (lv_at hl 0 rfl) ?_
    refine lv_iload hx hb dL_law_556 (lv_at hl 4 rfl) ?_
    refine lv_iconst (v := (3 : Int32)) hx hb dL_law_558 (by decide) ?_
    refine lv_iadd hx hb dL_law_559 ?_
    refine va_sld hx hb hX hbl hbA hS hi3 dL_law_560 ?_
    refine lv_if_eq (tgt := 568) hx hb dL_law_561 (by decide) (fun c9 => ?_) (fun c9 => ?_)
    · refine lv_iconst (v := (0 : Int32)) hx hb dL_law_568 (by decide) ?_
      refine cl1Ml (As := [.int (xs (x4 + (1 : Int32)).toNatClampNeg), .int (xs (x4 + (2 : Int32)).toNatClampNeg), .int (0 : Int32)]) (rest := [.long r]) ⟨hx, hb, hml, hown, hts⟩ (mX1_cut l D kc1 q1 τ (xs (x4 + (1 : Int32)).toNatClampNeg) (xs (x4 + (2 : Int32)).toNatClampNeg) (0 : Int32) _ hf1) (cwV 3 hts gL_law_X1_cut rfl rfl rfl (by decide +kernel) ⟨Nat.le_of_ble_eq_true rfl, Nat.le_of_ble_eq_true rfl⟩) hK hP hD hS hA rfl hl.1 (Nat.le_of_ble_eq_true rfl) dL_law_569 hcs (fun H locs hP hD hS => ?_)
      refine xl_eq (tgt := 1049) hx hb dL_law_572 dL_law_573 (by decide) (fun c7 => ?_) (fun c7 => ?_)
      · refine W.widen (k := cells + 1) (n := slots + 6) (by omega) (by omega) ?_
        exact hnext σ τ1 o H locs ls hR hP hD hS hl
      · exact absurd rfl c7
    · exact absurd c8 c9
  · refine lv_iconst (v := (1 : Int32)) hx hb dL_law_534 (by decide) ?_
    refine lv_goto (tgt := 539) hx hb dL_law_535 (by decide) ?_
    obtain ⟨r, τ1, hf0, hf1, hR⟩ := pu_cut hR (xs (x4 + (1 : Int32)).toNatClampNeg) (xs (x4 + (2 : Int32)).toNatClampNeg) (1 : Int32)
    refine cl0Rl (As := [.int (xs (x4 + (1 : Int32)).toNatClampNeg), .int (xs (x4 + (2 : Int32)).toNatClampNeg), .int (1 : Int32)]) (rest := []) ⟨hx, hb, hml, hown, hts⟩ (mX0_cut l D kc0 q0 σ (xs (x4 + (1 : Int32)).toNatClampNeg) (xs (x4 + (2 : Int32)).toNatClampNeg) (1 : Int32) _ hf0) (cwV 3 hts gL_law_X0_cut rfl rfl rfl (by decide +kernel) ⟨Nat.le_of_ble_eq_true rfl, Nat.le_of_ble_eq_true rfl⟩) hK hP rfl hl.1 (Nat.le_of_ble_eq_true rfl) dL_law_539 hcs ?_
    refine lv_aload_n hx hb dL_law_542 rfl (lv_at hl 2 rfl) ?_
    refine lv_aload_n hx hb dL_law_543 rfl (lv_at hl 0 rfl) ?_
    refine lv_iload hx hb dL_law_544 (lv_at hl 4 rfl) ?_
    refine lv_iconst (v := (1 : Int32)) hx hb dL_law_546 (by decide) ?_
    refine lv_iadd hx hb dL_law_547 ?_
    refine va_sld hx hb hX hbl hbA hS hi1 dL_law_548 ?_
    refine lv_aload_n hx hb dL_law_549 rfl (lv_at hl 0 rfl) ?_
    refine lv_iload hx hb dL_law_550 (lv_at hl 4 rfl) ?_
    refine lv_iconst (v := (2 : Int32)) hx hb dL_law_552 (by decide) ?_
    refine lv_iadd hx hb dL_law_553 ?_
    refine va_sld hx hb hX hbl hbA hS hi2 dL_law_554 ?_
    refine lv_aload_n hx hb dL_law_555 rfl (lv_at hl 0 rfl) ?_
    refine lv_iload hx hb dL_law_556 (lv_at hl 4 rfl) ?_
    refine lv_iconst (v := (3 : Int32)) hx hb dL_law_558 (by decide) ?_
    refine lv_iadd hx hb dL_law_559 ?_
    refine va_sld hx hb hX hbl hbA hS hi3 dL_law_560 ?_
    refine lv_if_eq (tgt := 568) hx hb dL_law_561 (by decide) (fun c9 => ?_) (fun c9 => ?_)
    · exact absurd c9 c8
    · refine lv_iconst (v := (1 : Int32)) hx hb dL_law_564 (by decide) ?_
      refine lv_goto (tgt := 569) hx hb dL_law_565 (by decide) ?_
      refine cl1Ml (As := [.int (xs (x4 + (1 : Int32)).toNatClampNeg), .int (xs (x4 + (2 : Int32)).toNatClampNeg), .int (1 : Int32)]) (rest := [.long r]) ⟨hx, hb, hml, hown, hts⟩ (mX1_cut l D kc1 q1 τ (xs (x4 + (1 : Int32)).toNatClampNeg) (xs (x4 + (2 : Int32)).toNatClampNeg) (1 : Int32) _ hf1) (cwV 3 hts gL_law_X1_cut rfl rfl rfl (by decide +kernel) ⟨Nat.le_of_ble_eq_true rfl, Nat.le_of_ble_eq_true rfl⟩) hK hP hD hS hA rfl hl.1 (Nat.le_of_ble_eq_true rfl) dL_law_569 hcs (fun H locs hP hD hS => ?_)
      refine xl_eq (tgt := 1049) hx hb dL_law_572 dL_law_573 (by decide) (fun c7 => ?_) (fun c7 => ?_)
      · refine W.widen (k := cells + 1) (n := slots + 6) (by omega) (by omega) ?_
        exact hnext σ τ1 o H locs ls hR hP hD hS hl
      · exact absurd rfl c7
set_option maxHeartbeats 4000000 in
set_option maxRecDepth 100000 in
theorem lc_9 {p : Program} {l : Launch} {e : Env} {s : State} {m : MethodId} {below : List Frame} {meth : Method} {c : Code} {b L : Nat} {xs : Nat → Int32} {D : va_G} {kc0 kc1 : Nat → ClassId} {q0 q1 : Nat → Nat} {ko : ClassId} {qo : Nat} {x4 : Int32} {cells slots : Nat} (C0 : lw_At p s m meth c b L xs) (X0 : lwx l s D kc0 kc1 ko L x4) (hcs1 : cells + 1 ≤ room_1.cells ∧ slots + 6 ≤ room_1.slots) (hnext : ∀ (σ : CS) (τ : MS) (o : Nat → Int64) (H : Heap) (locs : List Loc) (ls : Array Slot), Rel σ τ → va_P D vwCl (wL kc0 q0 σ kc1 q1 τ ko qo o) H → va_D (fun q : Nat => s.heap.size ≤ q) (wL kc0 q0 σ kc1 q1 τ ko qo o) → va_S (fun q : Nat => s.heap.size ≤ q) s.heap H locs → lv_has ls 7 [(0, .ref b), (1, .ref (q0 0)), (2, .ref (q1 0)), (3, .ref qo), (4, .int x4)] → W p l e room_1 s m #[Value.ref b] below meth c H locs (cells + 1) (slots + 6) (lw_Z below #[Value.ref b] s) (F0 m 1049 ls [])) (σ : CS) (τ : MS) (o : Nat → Int64) (H : Heap) (locs : List Loc) (ls : Array Slot) (hR : Rel σ τ) (hP : va_P D vwCl (wL kc0 q0 σ kc1 q1 τ ko qo o) H) (hD : va_D (fun q : Nat => s.heap.size ≤ q) (wL kc0 q0 σ kc1 q1 τ ko qo o)) (hS : va_S (fun q : Nat => s.heap.size ≤ q) s.heap H locs) (hl : lv_has ls 7 [(0, .ref b), (1, .ref (q0 0)), (2, .ref (q1 0)), (3, .ref qo), (4, .int x4)]) : W p l e room_1 s m #[Value.ref b] below meth c H locs cells slots (lw_Z below #[Value.ref b] s) (F0 m 578 ls []) := by
  obtain ⟨hx, hb, hr, hml, hown, hts, hX, hbl, hlocks, hgv⟩ := C0
  obtain ⟨hz, hK, hi1, hi2, hi3, hi4⟩ := X0
  have hown : s.vm.findClass RL = some m.cls := hown
  have hts : ∀ w ∈ wsL_law, w.before #[Value.ref b] s = true := fun w h => hts w (wsL_law_in w h)
  have hA : ∀ q : Nat, s.heap.size ≤ q → (fun q : Nat => s.heap.size ≤ q) q := fun _ h => h
  have hbA : ¬ (fun q : Nat => s.heap.size ≤ q) b := Nat.not_le.mpr hbl
  have hcs : cells ≤ room_1.cells ∧ slots ≤ room_1.slots := ⟨by omega, by omega⟩
  refine lv_aload_n hx hb dL_law_578 rfl (lv_at hl 1 rfl) ?_
  refine lv_aload_n hx hb dL_law_579 rfl (lv_at hl 0 rfl) ?_
  refine lv_iload hx hb dL_law_580 (lv_at hl 4 rfl) ?_
  refine lv_iconst (v := (1 : Int32)) hx hb dL_law_582 (by decide) ?_
  refine lv_iadd hx hb dL_law_583 ?_
  refine va_sld hx hb hX hbl hbA hS hi1 dL_law_584 ?_
  refine lv_aload_n hx hb dL_law_585 rfl (lv_at hl 0 rfl) ?_
  refine lv_iload hx hb dL_law_586 (lv_at hl 4 rfl) ?_
  refine lv_iconst (v := (2 : Int32)) hx hb dL_law_588 (by decide) ?_
  refine lv_iadd hx hb dL_law_589 ?_
  refine va_sld hx hb hX hbl hbA hS hi2 dL_law_590 ?_
  refine lv_i2l (v := ((xs (x4 + (2 : Int32)).toNatClampNeg).toInt64)) hx hb dL_law_591 rfl ?_
  refine lv_bipush (v := (32 : Int32)) hx hb dL_law_592 (by decide) ?_
  refine lv_lshl (v := (((xs (x4 + (2 : Int32)).toNatClampNeg).toInt64) <<< ((32 : Int32).toInt64 &&& 63))) hx hb dL_law_594 rfl ?_
  refine lv_aload_n hx hb dL_law_595 rfl (lv_at hl 0 rfl) ?_
  refine lv_iload hx hb dL_law_596 (lv_at hl 4 rfl) ?_
  refine lv_iconst (v := (3 : Int32)) hx hb dL_law_598 (by decide) ?_
  refine lv_iadd hx hb dL_law_599 ?_
  refine va_sld hx hb hX hbl hbA hS hi3 dL_law_600 ?_
  refine lv_i2l (v := ((xs (x4 + (3 : Int32)).toNatClampNeg).toInt64)) hx hb dL_law_601 rfl ?_
  refine lv_ldc2 (v := (4294967295 : Int64)) hx hb hown (hts (.constantLong RL 22 (4294967295)) (List.mem_append_left _ (List.mem_of_getElem? (i := 7) rfl))) dL_law_602 ?_
  refine lv_land hx hb dL_law_605 ?_
  refine lv_lor hx hb dL_law_606 ?_
  obtain ⟨r, σ1, τ1, hf0, hf1, hR⟩ := pu_into hR (xs (x4 + (1 : Int32)).toNatClampNeg) ((((xs (x4 + (2 : Int32)).toNatClampNeg).toInt64) <<< ((32 : Int32).toInt64 &&& 63)) ||| (((xs (x4 + (3 : Int32)).toNatClampNeg).toInt64) &&& (4294967295 : Int64)))
  refine cl0Mi (As := [.int (xs (x4 + (1 : Int32)).toNatClampNeg), .long ((((xs (x4 + (2 : Int32)).toNatClampNeg).toInt64) <<< ((32 : Int32).toInt64 &&& 63)) ||| (((xs (x4 + (3 : Int32)).toNatClampNeg).toInt64) &&& (4294967295 : Int64)))]) (rest := []) ⟨hx, hb, hml, hown, hts⟩ (mX0_into l D kc0 q0 σ (xs (x4 + (1 : Int32)).toNatClampNeg) ((((xs (x4 + (2 : Int32)).toNatClampNeg).toInt64) <<< ((32 : Int32).toInt64 &&& 63)) ||| (((xs (x4 + (3 : Int32)).toNatClampNeg).toInt64) &&& (4294967295 : Int64))) _ hf0) (cwV 2 hts gL_law_X0_into rfl rfl rfl (by decide +kernel) ⟨Nat.le_of_ble_eq_true rfl, Nat.le_of_ble_eq_true rfl⟩) hK hP hD hS hA rfl hl.1 (Nat.le_of_ble_eq_true rfl) dL_law_607 hcs (fun H locs hP hD hS => ?_)
  refine lv_aload_n hx hb dL_law_610 rfl (lv_at hl 2 rfl) ?_
  refine lv_aload_n hx hb dL_law_611 rfl (lv_at hl 0 rfl) ?_
  refine lv_iload hx hb dL_law_612 (lv_at hl 4 rfl) ?_
  refine lv_iconst (v := (1 : Int32)) hx hb dL_law_614 (by decide) ?_
  refine lv_iadd hx hb dL_law_615 ?_
  refine va_sld hx hb hX hbl hbA hS hi1 dL_law_616 ?_
  refine lv_aload_n hx hb dL_law_617 rfl (lv_at hl 0 rfl) ?_
  refine lv_iload hx hb dL_law_618 (lv_at hl 4 rfl) ?_
  refine lv_iconst (v := (2 : Int32)) hx hb dL_law_620 (by decide) ?_
  refine lv_iadd hx hb dL_law_621 ?_
  refine va_sld hx hb hX hbl hbA hS hi2 dL_law_622 ?_
  refine lv_i2l (v := ((xs (x4 + (2 : Int32)).toNatClampNeg).toInt64)) hx hb dL_law_623 rfl ?_
  refine lv_bipush (v := (32 : Int32)) hx hb dL_law_624 (by decide) ?_
  refine lv_lshl (v := (((xs (x4 + (2 : Int32)).toNatClampNeg).toInt64) <<< ((32 : Int32).toInt64 &&& 63))) hx hb dL_law_626 rfl ?_
  refine lv_aload_n hx hb dL_law_627 rfl (lv_at hl 0 rfl) ?_
  refine lv_iload hx hb dL_law_628 (lv_at hl 4 rfl) ?_
  refine lv_iconst (v := (3 : Int32)) hx hb dL_law_630 (by decide) ?_
  refine lv_iadd hx hb dL_law_631 ?_
  refine va_sld hx hb hX hbl hbA hS hi3 dL_law_632 ?_
  refine lv_i2l (v := ((xs (x4 + (3 : Int32)).toNatClampNeg).toInt64)) hx hb dL_law_633 rfl ?_
  refine lv_ldc2 (v := (4294967295 : Int64)) hx hb hown (hts (.constantLong RL 22 (4294967295)) (List.mem_append_left _ (List.mem_of_getElem? (i := 7) rfl))) dL_law_634 ?_
  refine lv_land hx hb dL_law_637 ?_
  refine lv_lor hx hb dL_law_638 ?_
  refine cl1Mi (As := [.int (xs (x4 + (1 : Int32)).toNatClampNeg), .long ((((xs (x4 + (2 : Int32)).toNatClampNeg).toInt64) <<< ((32 : Int32).toInt64 &&& 63)) ||| (((xs (x4 + (3 : Int32)).toNatClampNeg).toInt64) &&& (4294967295 : Int64)))]) (rest := [.int r]) ⟨hx, hb, hml, hown, hts⟩ (mX1_into l D kc1 q1 τ (xs (x4 + (1 : Int32)).toNatClampNeg) ((((xs (x4 + (2 : Int32)).toNatClampNeg).toInt64) <<< ((32 : Int32).toInt64 &&& 63)) ||| (((xs (x4 + (3 : Int32)).toNatClampNeg).toInt64) &&& (4294967295 : Int64))) _ hf1) (cwV 2 hts gL_law_X1_into rfl rfl rfl (by decide +kernel) ⟨Nat.le_of_ble_eq_true rfl, Nat.le_of_ble_eq_true rfl⟩) hK hP hD hS hA rfl hl.1 (Nat.le_of_ble_eq_true rfl) dL_law_639 hcs (fun H locs hP hD hS => ?_)
  refine lv_icmp_eq (tgt := 1049) hx hb dL_law_642 (by decide) (fun c7 => ?_) (fun c7 => ?_)
  · refine W.widen (k := cells + 1) (n := slots + 6) (by omega) (by omega) ?_
    exact hnext σ1 τ1 o H locs ls hR hP hD hS hl
  · exact absurd rfl c7
set_option maxHeartbeats 4000000 in
set_option maxRecDepth 100000 in
theorem lc_10 {p : Program} {l : Launch} {e : Env} {s : State} {m : MethodId} {below : List Frame} {meth : Method} {c : Code} {b L : Nat} {xs : Nat → Int32} {D : va_G} {kc0 kc1 : Nat → ClassId} {q0 q1 : Nat → Nat} {ko : ClassId} {qo : Nat} {x4 : Int32} {cells slots : Nat} (C0 : lw_At p s m meth c b L xs) (X0 : lwx l s D kc0 kc1 ko L x4) (hcs1 : cells + 1 ≤ room_1.cells ∧ slots + 6 ≤ room_1.slots) (hnext : ∀ (σ : CS) (τ : MS) (o : Nat → Int64) (H : Heap) (locs : List Loc) (ls : Array Slot), Rel σ τ → va_P D vwCl (wL kc0 q0 σ kc1 q1 τ ko qo o) H → va_D (fun q : Nat => s.heap.size ≤ q) (wL kc0 q0 σ kc1 q1 τ ko qo o) → va_S (fun q : Nat => s.heap.size ≤ q) s.heap H locs → lv_has ls 7 [(0, .ref b), (1, .ref (q0 0)), (2, .ref (q1 0)), (3, .ref qo), (4, .int x4)] → W p l e room_1 s m #[Value.ref b] below meth c H locs (cells + 1) (slots + 6) (lw_Z below #[Value.ref b] s) (F0 m 1049 ls [])) (σ : CS) (τ : MS) (o : Nat → Int64) (H : Heap) (locs : List Loc) (ls : Array Slot) (hR : Rel σ τ) (hP : va_P D vwCl (wL kc0 q0 σ kc1 q1 τ ko qo o) H) (hD : va_D (fun q : Nat => s.heap.size ≤ q) (wL kc0 q0 σ kc1 q1 τ ko qo o)) (hS : va_S (fun q : Nat => s.heap.size ≤ q) s.heap H locs) (hl : lv_has ls 7 [(0, .ref b), (1, .ref (q0 0)), (2, .ref (q1 0)), (3, .ref qo), (4, .int x4)]) : W p l e room_1 s m #[Value.ref b] below meth c H locs cells slots (lw_Z below #[Value.ref b] s) (F0 m 647 ls []) := by
  obtain ⟨hx, hb, hr, hml, hown, hts, hX, hbl, hlocks, hgv⟩ := C0
  obtain ⟨hz, hK, hi1, hi2, hi3, hi4⟩ := X0
  have hown : s.vm.findClass RL = some m.cls := hown
  have hts : ∀ w ∈ wsL_law, w.before #[Value.ref b] s = true := fun w h => hts w (wsL_law_in w h)
  have hA : ∀ q : Nat, s.heap.size ≤ q → (fun q : Nat => s.heap.size ≤ q) q := fun _ h => h
  have hbA : ¬ (fun q : Nat => s.heap.size ≤ q) b := Nat.not_le.mpr hbl
  have hcs : cells ≤ room_1.cells ∧ slots ≤ room_1.slots := ⟨by omega, by omega⟩
  refine lv_aload_n hx hb dL_law_647 rfl (lv_at hl 1 rfl) ?_
  refine lv_aload_n hx hb dL_law_648 rfl (lv_at hl 0 rfl) ?_
  refine lv_iload hx hb dL_law_649 (lv_at hl 4 rfl) ?_
  refine lv_iconst (v := (1 : Int32)) hx hb dL_law_651 (by decide) ?_
  refine lv_iadd hx hb dL_law_652 ?_
  refine va_sld hx hb hX hbl hbA hS hi1 dL_law_653 ?_
  obtain ⟨r, σ1, τ1, hf0, hf1, hR⟩ := pu_empty hR (xs (x4 + (1 : Int32)).toNatClampNeg)
  refine cl0Mi (As := [.int (xs (x4 + (1 : Int32)).toNatClampNeg)]) (rest := []) ⟨hx, hb, hml, hown, hts⟩ (mX0_empty l D kc0 q0 σ (xs (x4 + (1 : Int32)).toNatClampNeg) _ hf0) (cwV 1 hts gL_law_X0_empty rfl rfl rfl (by decide +kernel) ⟨Nat.le_of_ble_eq_true rfl, Nat.le_of_ble_eq_true rfl⟩) hK hP hD hS hA rfl hl.1 (Nat.le_of_ble_eq_true rfl) dL_law_654 hcs (fun H locs hP hD hS => ?_)
  refine lv_aload_n hx hb dL_law_657 rfl (lv_at hl 2 rfl) ?_
  refine lv_aload_n hx hb dL_law_658 rfl (lv_at hl 0 rfl) ?_
  refine lv_iload hx hb dL_law_659 (lv_at hl 4 rfl) ?_
  refine lv_iconst (v := (1 : Int32)) hx hb dL_law_661 (by decide) ?_
  refine lv_iadd hx hb dL_law_662 ?_
  refine va_sld hx hb hX hbl hbA hS hi1 dL_law_663 ?_
  refine cl1Mi (As := [.int (xs (x4 + (1 : Int32)).toNatClampNeg)]) (rest := [.int r]) ⟨hx, hb, hml, hown, hts⟩ (mX1_empty l D kc1 q1 τ (xs (x4 + (1 : Int32)).toNatClampNeg) _ hf1) (cwV 1 hts gL_law_X1_empty rfl rfl rfl (by decide +kernel) ⟨Nat.le_of_ble_eq_true rfl, Nat.le_of_ble_eq_true rfl⟩) hK hP hD hS hA rfl hl.1 (Nat.le_of_ble_eq_true rfl) dL_law_664 hcs (fun H locs hP hD hS => ?_)
  refine lv_icmp_eq (tgt := 1049) hx hb dL_law_667 (by decide) (fun c7 => ?_) (fun c7 => ?_)
  · refine W.widen (k := cells + 1) (n := slots + 6) (by omega) (by omega) ?_
    exact hnext σ1 τ1 o H locs ls hR hP hD hS hl
  · exact absurd rfl c7
set_option maxHeartbeats 4000000 in
set_option maxRecDepth 100000 in
theorem lc_11 {p : Program} {l : Launch} {e : Env} {s : State} {m : MethodId} {below : List Frame} {meth : Method} {c : Code} {b L : Nat} {xs : Nat → Int32} {D : va_G} {kc0 kc1 : Nat → ClassId} {q0 q1 : Nat → Nat} {ko : ClassId} {qo : Nat} {x4 : Int32} {cells slots : Nat} (C0 : lw_At p s m meth c b L xs) (X0 : lwx l s D kc0 kc1 ko L x4) (hcs1 : cells + 1 ≤ room_1.cells ∧ slots + 6 ≤ room_1.slots) (hnext : ∀ (σ : CS) (τ : MS) (o : Nat → Int64) (H : Heap) (locs : List Loc) (ls : Array Slot), Rel σ τ → va_P D vwCl (wL kc0 q0 σ kc1 q1 τ ko qo o) H → va_D (fun q : Nat => s.heap.size ≤ q) (wL kc0 q0 σ kc1 q1 τ ko qo o) → va_S (fun q : Nat => s.heap.size ≤ q) s.heap H locs → lv_has ls 7 [(0, .ref b), (1, .ref (q0 0)), (2, .ref (q1 0)), (3, .ref qo), (4, .int x4)] → W p l e room_1 s m #[Value.ref b] below meth c H locs (cells + 1) (slots + 6) (lw_Z below #[Value.ref b] s) (F0 m 1049 ls [])) (σ : CS) (τ : MS) (o : Nat → Int64) (H : Heap) (locs : List Loc) (ls : Array Slot) (hR : Rel σ τ) (hP : va_P D vwCl (wL kc0 q0 σ kc1 q1 τ ko qo o) H) (hD : va_D (fun q : Nat => s.heap.size ≤ q) (wL kc0 q0 σ kc1 q1 τ ko qo o)) (hS : va_S (fun q : Nat => s.heap.size ≤ q) s.heap H locs) (hl : lv_has ls 7 [(0, .ref b), (1, .ref (q0 0)), (2, .ref (q1 0)), (3, .ref qo), (4, .int x4)]) : W p l e room_1 s m #[Value.ref b] below meth c H locs cells slots (lw_Z below #[Value.ref b] s) (F0 m 672 ls []) := by
  obtain ⟨hx, hb, hr, hml, hown, hts, hX, hbl, hlocks, hgv⟩ := C0
  obtain ⟨hz, hK, hi1, hi2, hi3, hi4⟩ := X0
  have hown : s.vm.findClass RL = some m.cls := hown
  have hts : ∀ w ∈ wsL_law, w.before #[Value.ref b] s = true := fun w h => hts w (wsL_law_in w h)
  have hA : ∀ q : Nat, s.heap.size ≤ q → (fun q : Nat => s.heap.size ≤ q) q := fun _ h => h
  have hbA : ¬ (fun q : Nat => s.heap.size ≤ q) b := Nat.not_le.mpr hbl
  have hcs : cells ≤ room_1.cells ∧ slots ≤ room_1.slots := ⟨by omega, by omega⟩
  refine lv_aload_n hx hb dL_law_672 rfl (lv_at hl 1 rfl) ?_
  refine lv_aload_n hx hb dL_law_673 rfl (lv_at hl 0 rfl) ?_
  refine lv_iload hx hb dL_law_674 (lv_at hl 4 rfl) ?_
  refine lv_iconst (v := (1 : Int32)) hx hb dL_law_676 (by decide) ?_
  refine lv_iadd hx hb dL_law_677 ?_
  refine va_sld hx hb hX hbl hbA hS hi1 dL_law_678 ?_
  refine lv_aload_n hx hb dL_law_679 rfl (lv_at hl 0 rfl) ?_
  refine lv_iload hx hb dL_law_680 (lv_at hl 4 rfl) ?_
  refine lv_iconst (v := (2 : Int32)) hx hb dL_law_682 (by decide) ?_
  refine lv_iadd hx hb dL_law_683 ?_
  refine va_sld hx hb hX hbl hbA hS hi2 dL_law_684 ?_
  obtain ⟨r, τ1, hf0, hf1, hR⟩ := pu_at hR (xs (x4 + (1 : Int32)).toNatClampNeg) (xs (x4 + (2 : Int32)).toNatClampNeg)
  refine cl0Rl (As := [.int (xs (x4 + (1 : Int32)).toNatClampNeg), .int (xs (x4 + (2 : Int32)).toNatClampNeg)]) (rest := []) ⟨hx, hb, hml, hown, hts⟩ (mX0_at l D kc0 q0 σ (xs (x4 + (1 : Int32)).toNatClampNeg) (xs (x4 + (2 : Int32)).toNatClampNeg) _ hf0) (cwV 2 hts gL_law_X0_at rfl rfl rfl (by decide +kernel) ⟨Nat.le_of_ble_eq_true rfl, Nat.le_of_ble_eq_true rfl⟩) hK hP rfl hl.1 (Nat.le_of_ble_eq_true rfl) dL_law_685 hcs ?_
  refine lv_aload_n hx hb dL_law_688 rfl (lv_at hl 2 rfl) ?_
  refine lv_aload_n hx hb dL_law_689 rfl (lv_at hl 0 rfl) ?_
  refine lv_iload hx hb dL_law_690 (lv_at hl 4 rfl) ?_
  refine lv_iconst (v := (1 : Int32)) hx hb dL_law_692 (by decide) ?_
  refine lv_iadd hx hb dL_law_693 ?_
  refine va_sld hx hb hX hbl hbA hS hi1 dL_law_694 ?_
  refine lv_aload_n hx hb dL_law_695 rfl (lv_at hl 0 rfl) ?_
  refine lv_iload hx hb dL_law_696 (lv_at hl 4 rfl) ?_
  refine lv_iconst (v := (2 : Int32)) hx hb dL_law_698 (by decide) ?_
  refine lv_iadd hx hb dL_law_699 ?_
  refine va_sld hx hb hX hbl hbA hS hi2 dL_law_700 ?_
  refine cl1Ml (As := [.int (xs (x4 + (1 : Int32)).toNatClampNeg), .int (xs (x4 + (2 : Int32)).toNatClampNeg)]) (rest := [.long r]) ⟨hx, hb, hml, hown, hts⟩ (mX1_at l D kc1 q1 τ (xs (x4 + (1 : Int32)).toNatClampNeg) (xs (x4 + (2 : Int32)).toNatClampNeg) _ hf1) (cwV 2 hts gL_law_X1_at rfl rfl rfl (by decide +kernel) ⟨Nat.le_of_ble_eq_true rfl, Nat.le_of_ble_eq_true rfl⟩) hK hP hD hS hA rfl hl.1 (Nat.le_of_ble_eq_true rfl) dL_law_701 hcs (fun H locs hP hD hS => ?_)
  refine xl_eq (tgt := 1049) hx hb dL_law_704 dL_law_705 (by decide) (fun c7 => ?_) (fun c7 => ?_)
  · refine W.widen (k := cells + 1) (n := slots + 6) (by omega) (by omega) ?_
    exact hnext σ τ1 o H locs ls hR hP hD hS hl
  · exact absurd rfl c7
set_option maxHeartbeats 4000000 in
set_option maxRecDepth 100000 in
theorem lc_12 {p : Program} {l : Launch} {e : Env} {s : State} {m : MethodId} {below : List Frame} {meth : Method} {c : Code} {b L : Nat} {xs : Nat → Int32} {D : va_G} {kc0 kc1 : Nat → ClassId} {q0 q1 : Nat → Nat} {ko : ClassId} {qo : Nat} {x4 : Int32} {cells slots : Nat} (C0 : lw_At p s m meth c b L xs) (X0 : lwx l s D kc0 kc1 ko L x4) (hcs1 : cells + 1 ≤ room_1.cells ∧ slots + 6 ≤ room_1.slots) (hnext : ∀ (σ : CS) (τ : MS) (o : Nat → Int64) (H : Heap) (locs : List Loc) (ls : Array Slot), Rel σ τ → va_P D vwCl (wL kc0 q0 σ kc1 q1 τ ko qo o) H → va_D (fun q : Nat => s.heap.size ≤ q) (wL kc0 q0 σ kc1 q1 τ ko qo o) → va_S (fun q : Nat => s.heap.size ≤ q) s.heap H locs → lv_has ls 7 [(0, .ref b), (1, .ref (q0 0)), (2, .ref (q1 0)), (3, .ref qo), (4, .int x4)] → W p l e room_1 s m #[Value.ref b] below meth c H locs (cells + 1) (slots + 6) (lw_Z below #[Value.ref b] s) (F0 m 1049 ls [])) (σ : CS) (τ : MS) (o : Nat → Int64) (H : Heap) (locs : List Loc) (ls : Array Slot) (hR : Rel σ τ) (hP : va_P D vwCl (wL kc0 q0 σ kc1 q1 τ ko qo o) H) (hD : va_D (fun q : Nat => s.heap.size ≤ q) (wL kc0 q0 σ kc1 q1 τ ko qo o)) (hS : va_S (fun q : Nat => s.heap.size ≤ q) s.heap H locs) (hl : lv_has ls 7 [(0, .ref b), (1, .ref (q0 0)), (2, .ref (q1 0)), (3, .ref qo), (4, .int x4)]) : W p l e room_1 s m #[Value.ref b] below meth c H locs cells slots (lw_Z below #[Value.ref b] s) (F0 m 710 ls []) := by
  obtain ⟨hx, hb, hr, hml, hown, hts, hX, hbl, hlocks, hgv⟩ := C0
  obtain ⟨hz, hK, hi1, hi2, hi3, hi4⟩ := X0
  have hown : s.vm.findClass RL = some m.cls := hown
  have hts : ∀ w ∈ wsL_law, w.before #[Value.ref b] s = true := fun w h => hts w (wsL_law_in w h)
  have hA : ∀ q : Nat, s.heap.size ≤ q → (fun q : Nat => s.heap.size ≤ q) q := fun _ h => h
  have hbA : ¬ (fun q : Nat => s.heap.size ≤ q) b := Nat.not_le.mpr hbl
  have hcs : cells ≤ room_1.cells ∧ slots ≤ room_1.slots := ⟨by omega, by omega⟩
  refine lv_aload_n hx hb dL_law_710 rfl (lv_at hl 1 rfl) ?_
  refine lv_aload_n hx hb dL_law_711 rfl (lv_at hl 0 rfl) ?_
  refine lv_iload hx hb dL_law_712 (lv_at hl 4 rfl) ?_
  refine lv_iconst (v := (1 : Int32)) hx hb dL_law_714 (by decide) ?_
  refine lv_iadd hx hb dL_law_715 ?_
  refine va_sld hx hb hX hbl hbA hS hi1 dL_law_716 ?_
  refine lv_aload_n hx hb dL_law_717 rfl (lv_at hl 0 rfl) ?_
  refine lv_iload hx hb dL_law_718 (lv_at hl 4 rfl) ?_
  refine lv_iconst (v := (2 : Int32)) hx hb dL_law_720 (by decide) ?_
  refine lv_iadd hx hb dL_law_721 ?_
  refine va_sld hx hb hX hbl hbA hS hi2 dL_law_722 ?_
  refine lv_aload_n hx hb dL_law_723 rfl (lv_at hl 3 rfl) ?_
  obtain ⟨r, τ1, r1, hf0, hf1, hR, hthr⟩ := pu_share hR (xs (x4 + (1 : Int32)).toNatClampNeg) (xs (x4 + (2 : Int32)).toNatClampNeg)
  refine clH (As := [.ref (q0 0), .int (xs (x4 + (1 : Int32)).toNatClampNeg), .int (xs (x4 + (2 : Int32)).toNatClampNeg), .ref qo]) (rest := []) ⟨hx, hb, hml, hown, hts⟩ (mL_share l D kc0 q0 ko qo σ o (xs (x4 + (1 : Int32)).toNatClampNeg) (xs (x4 + (2 : Int32)).toNatClampNeg) r hf0) (vx_cwSW 4 hts gL_law_L_share rfl rfl rfl (by decide +kernel) ⟨Nat.le_of_ble_eq_true rfl, Nat.le_of_ble_eq_true rfl⟩) hK hP hD hS hA hz rfl hl.1 (Nat.le_of_ble_eq_true rfl) dL_law_724 hcs1 (fun H locs hP hD hS => ?_)
  have hcs := hcs1
  refine lv_istore (lv' := [(5, .int (fH r o).1), (0, .ref (b)), (1, .ref (q0 0)), (2, .ref (q1 0)), (3, .ref (qo)), (4, .int x4)]) hx hb dL_law_727 hl (by decide) rfl (fun ls hl => ?_)
  refine lv_aload_n hx hb dL_law_729 rfl (lv_at hl 3 rfl) ?_
  refine lv_aload_n hx hb dL_law_730 rfl (lv_at hl 1 rfl) ?_
  refine lv_iload hx hb dL_law_731 (lv_at hl 5 rfl) ?_
  refine lv_iconst (v := (1 : Int32)) hx hb dL_law_733 (by decide) ?_
  refine lv_iadd hx hb dL_law_734 ?_
  refine va_sld hx hb hX hbl hbA hS hi1 dL_law_735 ?_
  refine lv_aload_n hx hb dL_law_736 rfl (lv_at hl 1 rfl) ?_
  refine lv_iload hx hb dL_law_737 (lv_at hl 5 rfl) ?_
  refine lv_iconst (v := (2 : Int32)) hx hb dL_law_739 (by decide) ?_
  refine lv_iadd hx hb dL_law_740 ?_
  refine va_sld hx hb hX hbl hbA hS hi2 dL_law_741 ?_
  refine cl1Mi (As := [.int (xs (x4 + (1 : Int32)).toNatClampNeg), .int (xs (x4 + (2 : Int32)).toNatClampNeg)]) (rest := []) ⟨hx, hb, hml, hown, hts⟩ (mX1_share l D kc1 q1 τ (xs (x4 + (1 : Int32)).toNatClampNeg) (xs (x4 + (2 : Int32)).toNatClampNeg) _ hf1) (cwV 2 hts gL_law_X1_share rfl rfl rfl (by decide +kernel) ⟨Nat.le_of_ble_eq_true rfl, Nat.le_of_ble_eq_true rfl⟩) hK hP hD hS hA rfl hl.1 (Nat.le_of_ble_eq_true rfl) dL_law_742 hcs (fun H locs hP hD hS => ?_)
  refine lv_istore (lv' := [(6, .int r1), (5, .int (fH r o).1), (0, .ref (b)), (1, .ref (q0 0)), (2, .ref (q1 0)), (3, .ref (qo)), (4, .int x4)]) hx hb dL_law_745 hl (by decide) rfl (fun ls hl => ?_)
  refine lv_aload_n hx hb dL_law_747 rfl (lv_at hl 4 rfl) ?_
  refine cl1Ri (As := []) (rest := []) ⟨hx, hb, hml, hown, hts⟩ (mX1_thrown l D kc1 q1 τ1 (m_thrown τ1) rfl) (cwV 0 hts gL_law_X1_thrown rfl rfl rfl (by decide +kernel) ⟨Nat.le_of_ble_eq_true rfl, Nat.le_of_ble_eq_true rfl⟩) hK hP rfl hl.1 (Nat.le_of_ble_eq_true rfl) dL_law_748 hcs ?_
  refine lv_iload hx hb dL_law_751 (lv_at hl 1 rfl) ?_
  refine lv_icmp_eq (tgt := 758) hx hb dL_law_753 (by decide) (fun c7 => ?_) (fun c7 => ?_)
  · refine lv_iload hx hb dL_law_758 (lv_at hl 1 rfl) ?_
    refine lv_if_ne (tgt := 775) hx hb dL_law_760 (by decide) (fun c6 => ?_) (fun c6 => ?_)
    · refine lv_goto (tgt := 1049) hx hb dL_law_775 (by decide) ?_
      exact hnext _ τ1 _ H locs ls (by rw [fH_st]; exact hR) hP hD hS (lv_sub hl [2, 3, 4, 5, 6] rfl)
    · refine lv_aload_n hx hb dL_law_763 rfl (lv_at hl 5 rfl) ?_
      refine lv_iconst (v := (0 : Int32)) hx hb dL_law_764 (by decide) ?_
      refine va_lald hx hb hK hP 21 19 rfl rfl (ix_in (i := 0) (n := 1) (by decide)) dL_law_765 ?_
      refine lv_iload hx hb dL_law_766 (lv_at hl 0 rfl) ?_
      refine lv_i2l (v := r1.toInt64) hx hb dL_law_768 rfl ?_
      refine xl_eq (tgt := 775) hx hb dL_law_769 dL_law_770 (by decide) (fun c5 => ?_) (fun c5 => ?_)
      · refine lv_goto (tgt := 1049) hx hb dL_law_775 (by decide) ?_
        exact hnext _ τ1 _ H locs ls (by rw [fH_st]; exact hR) hP hD hS (lv_sub hl [2, 3, 4, 5, 6] rfl)
      · exact absurd (fH_out hthr c6) c5
  · exact absurd (fH_thr hthr) c7
set_option maxHeartbeats 4000000 in
set_option maxRecDepth 100000 in
theorem lc_13 {p : Program} {l : Launch} {e : Env} {s : State} {m : MethodId} {below : List Frame} {meth : Method} {c : Code} {b L : Nat} {xs : Nat → Int32} {D : va_G} {kc0 kc1 : Nat → ClassId} {q0 q1 : Nat → Nat} {ko : ClassId} {qo : Nat} {x4 : Int32} {cells slots : Nat} (C0 : lw_At p s m meth c b L xs) (X0 : lwx l s D kc0 kc1 ko L x4) (hcs1 : cells + 1 ≤ room_1.cells ∧ slots + 6 ≤ room_1.slots) (hnext : ∀ (σ : CS) (τ : MS) (o : Nat → Int64) (H : Heap) (locs : List Loc) (ls : Array Slot), Rel σ τ → va_P D vwCl (wL kc0 q0 σ kc1 q1 τ ko qo o) H → va_D (fun q : Nat => s.heap.size ≤ q) (wL kc0 q0 σ kc1 q1 τ ko qo o) → va_S (fun q : Nat => s.heap.size ≤ q) s.heap H locs → lv_has ls 7 [(0, .ref b), (1, .ref (q0 0)), (2, .ref (q1 0)), (3, .ref qo), (4, .int x4)] → W p l e room_1 s m #[Value.ref b] below meth c H locs (cells + 1) (slots + 6) (lw_Z below #[Value.ref b] s) (F0 m 1049 ls [])) (σ : CS) (τ : MS) (o : Nat → Int64) (H : Heap) (locs : List Loc) (ls : Array Slot) (hR : Rel σ τ) (hP : va_P D vwCl (wL kc0 q0 σ kc1 q1 τ ko qo o) H) (hD : va_D (fun q : Nat => s.heap.size ≤ q) (wL kc0 q0 σ kc1 q1 τ ko qo o)) (hS : va_S (fun q : Nat => s.heap.size ≤ q) s.heap H locs) (hl : lv_has ls 7 [(0, .ref b), (1, .ref (q0 0)), (2, .ref (q1 0)), (3, .ref qo), (4, .int x4)]) : W p l e room_1 s m #[Value.ref b] below meth c H locs cells slots (lw_Z below #[Value.ref b] s) (F0 m 778 ls []) := by
  obtain ⟨hx, hb, hr, hml, hown, hts, hX, hbl, hlocks, hgv⟩ := C0
  obtain ⟨hz, hK, hi1, hi2, hi3, hi4⟩ := X0
  have hown : s.vm.findClass RL = some m.cls := hown
  have hts : ∀ w ∈ wsL_law, w.before #[Value.ref b] s = true := fun w h => hts w (wsL_law_in w h)
  have hA : ∀ q : Nat, s.heap.size ≤ q → (fun q : Nat => s.heap.size ≤ q) q := fun _ h => h
  have hbA : ¬ (fun q : Nat => s.heap.size ≤ q) b := Nat.not_le.mpr hbl
  have hcs : cells ≤ room_1.cells ∧ slots ≤ room_1.slots := ⟨by omega, by omega⟩
  refine lv_aload_n hx hb dL_law_778 rfl (lv_at hl 1 rfl) ?_
  refine lv_aload_n hx hb dL_law_779 rfl (lv_at hl 0 rfl) ?_
  refine lv_iload hx hb dL_law_780 (lv_at hl 4 rfl) ?_
  refine lv_iconst (v := (1 : Int32)) hx hb dL_law_782 (by decide) ?_
  refine lv_iadd hx hb dL_law_783 ?_
  refine va_sld hx hb hX hbl hbA hS hi1 dL_law_784 ?_
  refine lv_aload_n hx hb dL_law_785 rfl (lv_at hl 0 rfl) ?_
  refine lv_iload hx hb dL_law_786 (lv_at hl 4 rfl) ?_
  refine lv_iconst (v := (2 : Int32)) hx hb dL_law_788 (by decide) ?_
  refine lv_iadd hx hb dL_law_789 ?_
  refine va_sld hx hb hX hbl hbA hS hi2 dL_law_790 ?_
  refine lv_aload_n hx hb dL_law_791 rfl (lv_at hl 0 rfl) ?_
  refine lv_iload hx hb dL_law_792 (lv_at hl 4 rfl) ?_
  refine lv_iconst (v := (3 : Int32)) hx hb dL_law_794 (by decide) ?_
  refine lv_iadd hx hb dL_law_795 ?_
  refine va_sld hx hb hX hbl hbA hS hi3 dL_law_796 ?_
  obtain ⟨r, σ1, τ1, hf0, hf1, hR⟩ := pu_seats hR (xs (x4 + (1 : Int32)).toNatClampNeg) (xs (x4 + (2 : Int32)).toNatClampNeg) (xs (x4 + (3 : Int32)).toNatClampNeg)
  refine cl0Mi (As := [.int (xs (x4 + (1 : Int32)).toNatClampNeg), .int (xs (x4 + (2 : Int32)).toNatClampNeg), .int (xs (x4 + (3 : Int32)).toNatClampNeg)]) (rest := []) ⟨hx, hb, hml, hown, hts⟩ (mX0_seats l D kc0 q0 σ (xs (x4 + (1 : Int32)).toNatClampNeg) (xs (x4 + (2 : Int32)).toNatClampNeg) (xs (x4 + (3 : Int32)).toNatClampNeg) _ hf0) (cwV 3 hts gL_law_X0_seats rfl rfl rfl (by decide +kernel) ⟨Nat.le_of_ble_eq_true rfl, Nat.le_of_ble_eq_true rfl⟩) hK hP hD hS hA rfl hl.1 (Nat.le_of_ble_eq_true rfl) dL_law_797 hcs (fun H locs hP hD hS => ?_)
  refine lv_aload_n hx hb dL_law_800 rfl (lv_at hl 2 rfl) ?_
  refine lv_aload_n hx hb dL_law_801 rfl (lv_at hl 0 rfl) ?_
  refine lv_iload hx hb dL_law_802 (lv_at hl 4 rfl) ?_
  refine lv_iconst (v := (1 : Int32)) hx hb dL_law_804 (by decide) ?_
  refine lv_iadd hx hb dL_law_805 ?_
  refine va_sld hx hb hX hbl hbA hS hi1 dL_law_806 ?_
  refine lv_aload_n hx hb dL_law_807 rfl (lv_at hl 0 rfl) ?_
  refine lv_iload hx hb dL_law_808 (lv_at hl 4 rfl) ?_
  refine lv_iconst (v := (2 : Int32)) hx hb dL_law_810 (by decide) ?_
  refine lv_iadd hx hb dL_law_811 ?_
  refine va_sld hx hb hX hbl hbA hS hi2 dL_law_812 ?_
  refine lv_aload_n hx hb dL_law_813 rfl (lv_at hl 0 rfl) ?_
  refine lv_iload hx hb dL_law_814 (lv_at hl 4 rfl) ?_
  refine lv_iconst (v := (3 : Int32)) hx hb dL_law_816 (by decide) ?_
  refine lv_iadd hx hb dL_law_817 ?_
  refine va_sld hx hb hX hbl hbA hS hi3 dL_law_818 ?_
  refine cl1Mi (As := [.int (xs (x4 + (1 : Int32)).toNatClampNeg), .int (xs (x4 + (2 : Int32)).toNatClampNeg), .int (xs (x4 + (3 : Int32)).toNatClampNeg)]) (rest := [.int r]) ⟨hx, hb, hml, hown, hts⟩ (mX1_seats l D kc1 q1 τ (xs (x4 + (1 : Int32)).toNatClampNeg) (xs (x4 + (2 : Int32)).toNatClampNeg) (xs (x4 + (3 : Int32)).toNatClampNeg) _ hf1) (cwV 3 hts gL_law_X1_seats rfl rfl rfl (by decide +kernel) ⟨Nat.le_of_ble_eq_true rfl, Nat.le_of_ble_eq_true rfl⟩) hK hP hD hS hA rfl hl.1 (Nat.le_of_ble_eq_true rfl) dL_law_819 hcs (fun H locs hP hD hS => ?_)
  refine lv_icmp_eq (tgt := 1049) hx hb dL_law_822 (by decide) (fun c7 => ?_) (fun c7 => ?_)
  · refine W.widen (k := cells + 1) (n := slots + 6) (by omega) (by omega) ?_
    exact hnext σ1 τ1 o H locs ls hR hP hD hS hl
  · exact absurd rfl c7
