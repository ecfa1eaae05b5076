set_option maxHeartbeats 4000000 in
set_option maxRecDepth 100000 in
/-- one turn behind the switch -/
theorem law_turn {p : Program} {l : Launch} {e : Env} {s : State} {m : MethodId} {below : List Frame} {meth : Method} {c : Code} {b L : Nat} {xs : Nat → Int32} {D : va_G} {kc0 kc1 : Nat → ClassId} {q0 q1 : Nat → Nat} {ko : ClassId} {qo : Nat} {x4 : Int32} {cells slots : Nat} (C0 : lw_At p s m meth c b L xs) (X0 : lwx l s D kc0 kc1 ko L x4) (hi0 : vp_in x4 L) (hcs1 : cells + 1 ≤ room_1.cells ∧ slots + 6 ≤ room_1.slots) (hnext : ∀ (σ : CS) (τ : MS) (o : Nat → Int64) (H : Heap) (locs : List Loc) (ls : Array Slot), Rel σ τ → va_P D vwCl (wL kc0 q0 σ kc1 q1 τ ko qo o) H → va_D (fun q : Nat => s.heap.size ≤ q) (wL kc0 q0 σ kc1 q1 τ ko qo o) → va_S (fun q : Nat => s.heap.size ≤ q) s.heap H locs → lv_has ls 7 [(0, .ref b), (1, .ref (q0 0)), (2, .ref (q1 0)), (3, .ref qo), (4, .int x4)] → W p l e room_1 s m #[Value.ref b] below meth c H locs (cells + 1) (slots + 6) (lw_Z below #[Value.ref b] s) (F0 m 1049 ls [])) (σ : CS) (τ : MS) (o : Nat → Int64) (H : Heap) (locs : List Loc) (ls : Array Slot) (hR : Rel σ τ) (hP : va_P D vwCl (wL kc0 q0 σ kc1 q1 τ ko qo o) H) (hD : va_D (fun q : Nat => s.heap.size ≤ q) (wL kc0 q0 σ kc1 q1 τ ko qo o)) (hS : va_S (fun q : Nat => s.heap.size ≤ q) s.heap H locs) (hl : lv_has ls 7 [(0, .ref b), (1, .ref (q0 0)), (2, .ref (q1 0)), (3, .ref qo), (4, .int x4)]) : W p l e room_1 s m #[Value.ref b] below meth c H locs cells slots (lw_Z below #[Value.ref b] s) (F0 m 32 ls []) := by
  obtain ⟨hx, hb, hr, hml, hown, hts, hX, hbl, hlocks, hgv⟩ := id C0
  have hbA : ¬ (fun q : Nat => s.heap.size ≤ q) b := Nat.not_le.mpr hbl
  refine lv_aload_n hx hb dL_law_32 rfl (lv_at hl 0 rfl) ?_
  refine lv_iload hx hb dL_law_33 (lv_at hl 4 rfl) ?_
  refine va_sld hx hb hX hbl hbA hS hi0 dL_law_35 ?_
  refine lv_bipush (v := (31 : Int32)) hx hb dL_law_36 (by decide) ?_
  refine lv_iand hx hb dL_law_38 ?_
  refine lv_topi (fun z ez => ?_)
  by_cases c0 : z = (0 : Int32)
  · refine lv_tableIn (off := 93) (tgt := 132) hx hb dL_law_39 (by rw [c0]; decide) (by rw [c0]; decide) (by rw [c0]; rfl) (by decide) ?_
    exact lc_0 C0 X0 hcs1 hnext σ τ o H locs ls hR hP hD hS hl
  by_cases c1 : z = (1 : Int32)
  · refine lv_tableIn (off := 194) (tgt := 233) hx hb dL_law_39 (by rw [c1]; decide) (by rw [c1]; decide) (by rw [c1]; rfl) (by decide) ?_
    exact lc_1 C0 X0 hcs1 hnext σ τ o H locs ls hR hP hD hS hl
  by_cases c2 : z = (2 : Int32)
  · refine lv_tableIn (off := 243) (tgt := 282) hx hb dL_law_39 (by rw [c2]; decide) (by rw [c2]; decide) (by rw [c2]; rfl) (by decide) ?_
    exact lc_2 C0 X0 hcs1 hnext σ τ o H locs ls hR hP hD hS hl
  by_cases c3 : z = (3 : Int32)
  · refine lv_tableIn (off := 311) (tgt := 350) hx hb dL_law_39 (by rw [c3]; decide) (by rw [c3]; decide) (by rw [c3]; rfl) (by decide) ?_
    exact lc_3 C0 X0 hcs1 hnext σ τ o H locs ls hR hP hD hS hl
  by_cases c4 : z = (4 : Int32)
  · refine lv_tableIn (off := 324) (tgt := 363) hx hb dL_law_39 (by rw [c4]; decide) (by rw [c4]; decide) (by rw [c4]; rfl) (by decide) ?_
    exact lc_4 C0 X0 hcs1 hnext σ τ o H locs ls hR hP hD hS hl
  by_cases c5 : z = (5 : Int32)
  · refine lv_tableIn (off := 361) (tgt := 400) hx hb dL_law_39 (by rw [c5]; decide) (by rw [c5]; decide) (by rw [c5]; rfl) (by decide) ?_
    exact lc_5 C0 X0 hcs1 hnext σ τ o H locs ls hR hP hD hS hl
  by_cases c6 : z = (6 : Int32)
  · refine lv_tableIn (off := 399) (tgt := 438) hx hb dL_law_39 (by rw [c6]; decide) (by rw [c6]; decide) (by rw [c6]; rfl) (by decide) ?_
    exact lc_6 C0 X0 hcs1 hnext σ τ o H locs ls hR hP hD hS hl
  by_cases c7 : z = (7 : Int32)
  · refine lv_tableIn (off := 436) (tgt := 475) hx hb dL_law_39 (by rw [c7]; decide) (by rw [c7]; decide) (by rw [c7]; rfl) (by decide) ?_
    exact lc_7 C0 X0 hcs1 hnext σ τ o H locs ls hR hP hD hS hl
  by_cases c8 : z = (8 : Int32)
  · refine lv_tableIn (off := 473) (tgt := 512) hx hb dL_law_39 (by rw [c8]; decide) (by rw [c8]; decide) (by rw [c8]; rfl) (by decide) ?_
    exact lc_8 C0 X0 hcs1 hnext σ τ o H locs ls hR hP hD hS hl
  by_cases c9 : z = (9 : Int32)
  · refine lv_tableIn (off := 539) (tgt := 578) hx hb dL_law_39 (by rw [c9]; decide) (by rw [c9]; decide) (by rw [c9]; rfl) (by decide) ?_
    exact lc_9 C0 X0 hcs1 hnext σ τ o H locs ls hR hP hD hS hl
  by_cases c10 : z = (10 : Int32)
  · refine lv_tableIn (off := 608) (tgt := 647) hx hb dL_law_39 (by rw [c10]; decide) (by rw [c10]; decide) (by rw [c10]; rfl) (by decide) ?_
    exact lc_10 C0 X0 hcs1 hnext σ τ o H locs ls hR hP hD hS hl
  by_cases c11 : z = (11 : Int32)
  · refine lv_tableIn (off := 633) (tgt := 672) hx hb dL_law_39 (by rw [c11]; decide) (by rw [c11]; decide) (by rw [c11]; rfl) (by decide) ?_
    exact lc_11 C0 X0 hcs1 hnext σ τ o H locs ls hR hP hD hS hl
  by_cases c12 : z = (12 : Int32)
  · refine lv_tableIn (off := 671) (tgt := 710) hx hb dL_law_39 (by rw [c12]; decide) (by rw [c12]; decide) (by rw [c12]; rfl) (by decide) ?_
    exact lc_12 C0 X0 hcs1 hnext σ τ o H locs ls hR hP hD hS hl
  by_cases c13 : z = (13 : Int32)
  · refine lv_tableIn (off := 739) (tgt := 778) hx hb dL_law_39 (by rw [c13]; decide) (by rw [c13]; decide) (by rw [c13]; rfl) (by decide) ?_
    exact lc_13 C0 X0 hcs1 hnext σ τ o H locs ls hR hP hD hS hl
  by_cases c14 : z = (14 : Int32)
  · refine lv_tableIn (off := 788) (tgt := 827) hx hb dL_law_39 (by rw [c14]; decide) (by rw [c14]; decide) (by rw [c14]; rfl) (by decide) ?_
    exact lc_14 C0 X0 hcs1 hnext σ τ o H locs ls hR hP hD hS hl
  by_cases c15 : z = (15 : Int32)
  · refine lv_tableIn (off := 813) (tgt := 852) hx hb dL_law_39 (by rw [c15]; decide) (by rw [c15]; decide) (by rw [c15]; rfl) (by decide) ?_
    exact lc_15 C0 X0 hcs1 hnext σ τ o H locs ls hR hP hD hS hl
  by_cases c16 : z = (16 : Int32)
  · refine lv_tableIn (off := 862) (tgt := 901) hx hb dL_law_39 (by rw [c16]; decide) (by rw [c16]; decide) (by rw [c16]; rfl) (by decide) ?_
    exact lc_16 C0 X0 hcs1 hnext σ τ o H locs ls hR hP hD hS hl
  by_cases c17 : z = (17 : Int32)
  · refine lv_tableIn (off := 923) (tgt := 962) hx hb dL_law_39 (by rw [c17]; decide) (by rw [c17]; decide) (by rw [c17]; rfl) (by decide) ?_
    exact lc_17 C0 X0 hcs1 hnext σ τ o H locs ls hR hP hD hS hl
  by_cases c18 : z = (18 : Int32)
  · refine lv_tableIn (off := 960) (tgt := 999) hx hb dL_law_39 (by rw [c18]; decide) (by rw [c18]; decide) (by rw [c18]; rfl) (by decide) ?_
    exact lc_18 C0 X0 hcs1 hnext σ τ o H locs ls hR hP hD hS hl
  by_cases c19 : z = (19 : Int32)
  · refine lv_tableIn (off := 985) (tgt := 1024) hx hb dL_law_39 (by rw [c19]; decide) (by rw [c19]; decide) (by rw [c19]; rfl) (by decide) ?_
    exact lc_19 C0 X0 hcs1 hnext σ τ o H locs ls hR hP hD hS hl
  refine lv_tableOut (tgt := 1049) hx hb dL_law_39 (by have := lv_neT (a := 0) c0 rfl; have := lv_neT (a := 1) c1 rfl; have := lv_neT (a := 2) c2 rfl; have := lv_neT (a := 3) c3 rfl; have := lv_neT (a := 4) c4 rfl; have := lv_neT (a := 5) c5 rfl; have := lv_neT (a := 6) c6 rfl; have := lv_neT (a := 7) c7 rfl; have := lv_neT (a := 8) c8 rfl; have := lv_neT (a := 9) c9 rfl; have := lv_neT (a := 10) c10 rfl; have := lv_neT (a := 11) c11 rfl; have := lv_neT (a := 12) c12 rfl; have := lv_neT (a := 13) c13 rfl; have := lv_neT (a := 14) c14 rfl; have := lv_neT (a := 15) c15 rfl; have := lv_neT (a := 16) c16 rfl; have := lv_neT (a := 17) c17 rfl; have := lv_neT (a := 18) c18 rfl; have := lv_neT (a := 19) c19 rfl; omega) (by decide) ?_
  refine W.widen (k := cells + 1) (n := slots + 6) (by omega) (by omega) ?_
  exact hnext σ τ o H locs ls hR hP hD hS hl
theorem ix5 {i L : Nat} (k : Nat) (hk : k < 5) (h : i + 4 < L) (hL : L ≤ 2560) : vp_in (nI i + nI k) L := by
  rw [nI_add]
  exact vp_in_nI (by omega) (by omega)
set_option maxHeartbeats 4000000 in
set_option maxRecDepth 100000 in
/-- the law's loop -/
theorem law_loop {p : Program} {l : Launch} {e : Env} {s : State} {m : MethodId} {below : List Frame} {meth : Method} {c : Code} {b L : Nat} {xs : Nat → Int32} {D : va_G} {kc0 kc1 : Nat → ClassId} {q0 q1 : Nat → Nat} {ko : ClassId} {qo : Nat} (hL : L ≤ 2560) (C0 : lw_At p s m meth c b L xs) (hz : zB l s (fun q : Nat => s.heap.size ≤ q) s.heap) (hK : va_K D vwCl (tysL kc0 kc1 ko) s) :
    ∀ (n j : Nat), j + n = 513 → j ≤ 513 → ∀ (x4 : Int32), x4 = nI (5 * j) → ∀ (σ : CS) (τ : MS) (o : Nat → Int64) (H : Heap) (locs : List Loc) (ls : Array Slot), Rel σ τ → va_P D vwCl (wL kc0 q0 σ kc1 q1 τ ko qo o) H → va_D (fun q : Nat => s.heap.size ≤ q) (wL kc0 q0 σ kc1 q1 τ ko qo o) → va_S (fun q : Nat => s.heap.size ≤ q) s.heap H locs → lv_has ls 7 [(0, .ref b), (1, .ref (q0 0)), (2, .ref (q1 0)), (3, .ref qo), (4, .int x4)] → W p l e room_1 s m #[Value.ref b] below meth c H locs (24 + j) (400 + 6 * j) (lw_Z below #[Value.ref b] s) (F0 m 23 ls []) := by
  obtain ⟨hx, hb, hr, hml, hown, hts, hX, hbl, hlocks, hgv⟩ := id C0
  have hbA : ¬ (fun q : Nat => s.heap.size ≤ q) b := Nat.not_le.mpr hbl
  intro n
  induction n with
  | zero =>
    intro j hj hj2 x4 ex σ τ o H locs ls hR hP hD hS hl
    have e5 : (nI L - (5 : Int32)).toInt = (L : Int) - 5 := pk_sub_toInt (a := L) (b := 5) (by omega) (by omega)
    refine lv_iload hx hb dL_law_23 (lv_at hl 4 rfl) ?_
    refine lv_aload_n hx hb dL_law_25 rfl (lv_at hl 0 rfl) ?_
    refine va_slen hx hb hX hbl hbA hS dL_law_26 ?_
    refine lv_iconst (v := (5 : Int32)) hx hb dL_law_27 (by decide) ?_
    refine lv_isub hx hb dL_law_28 ?_
    refine lv_icmp_gt (tgt := 1055) hx hb dL_law_29 (by decide) (fun c1 => ?_) (fun c1 => ?_)
    · refine lv_iconst (v := 1) hx hb dL_law_1055 (by decide) ?_
      refine va_forget (fun q hq => hS.2.2 q hq) ?_
      refine W.widen (k := 635726) (n := 7188926) (by omega) (by omega) ?_
      exact lw_ret hx hb hr hlocks dL_law_1056
    · exact absurd (by rw [i_lt]; show (nI L - (5 : Int32)).toInt < _; rw [e5, ex, nI_toInt (by omega)]; omega) c1
  | succ n ih =>
    intro j hj hj2 x4 ex σ τ o H locs ls hR hP hD hS hl
    have e5 : (nI L - (5 : Int32)).toInt = (L : Int) - 5 := pk_sub_toInt (a := L) (b := 5) (by omega) (by omega)
    refine lv_iload hx hb dL_law_23 (lv_at hl 4 rfl) ?_
    refine lv_aload_n hx hb dL_law_25 rfl (lv_at hl 0 rfl) ?_
    refine va_slen hx hb hX hbl hbA hS dL_law_26 ?_
    refine lv_iconst (v := (5 : Int32)) hx hb dL_law_27 (by decide) ?_
    refine lv_isub hx hb dL_law_28 ?_
    refine lv_icmp_gt (tgt := 1055) hx hb dL_law_29 (by decide) (fun c1 => ?_) (fun c1 => ?_)
    · refine lv_iconst (v := 1) hx hb dL_law_1055 (by decide) ?_
      refine va_forget (fun q hq => hS.2.2 q hq) ?_
      refine W.widen (k := 635726) (n := 7188926) (by omega) (by omega) ?_
      exact lw_ret hx hb hr hlocks dL_law_1056
    · have hlt : 5 * j + 4 < L := by
        rcases Nat.lt_or_ge (5 * j + 4) L with h | h
        · exact h
        · exact absurd (by rw [i_lt]; show (nI L - (5 : Int32)).toInt < _; rw [e5, ex, nI_toInt (by omega)]; omega) c1
      refine law_turn C0 (cells := 24 + j) (slots := 400 + 6 * j) ⟨hz, hK, by rw [ex]; exact ix5 1 (by omega) hlt hL, by rw [ex]; exact ix5 2 (by omega) hlt hL, by rw [ex]; exact ix5 3 (by omega) hlt hL, by rw [ex]; exact ix5 4 (by omega) hlt hL⟩ (by rw [ex]; exact vp_in_nI (by omega) (by omega)) ⟨by show 24 + j + 1 ≤ 635726; omega, by show 400 + 6 * j + 6 ≤ 7188926; omega⟩ (fun σ τ o H locs ls hR hP hD hS hl => ?_) σ τ o H locs ls hR hP hD hS hl
      refine lv_iinc (v := x4 + (5 : Int32)) (lv' := [(4, .int (x4 + (5 : Int32))), (0, .ref b), (1, .ref (q0 0)), (2, .ref (q1 0)), (3, .ref qo)]) hx hb dL_law_1049 hl (k := 4) rfl rfl (by decide) rfl (fun ls hl => ?_)
      refine lv_goto (tgt := 23) hx hb dL_law_1052 (by decide) ?_
      have e1 : x4 + (5 : Int32) = nI (5 * (j + 1)) := by rw [ex]; exact nI_add (5 * j) 5
      exact ih (j + 1) (by omega) (by omega) _ e1 σ τ o H locs ls hR hP hD hS (lv_sub hl [1, 2, 3, 4, 0] rfl)
