set_option maxHeartbeats 4000000 in
set_option maxRecDepth 100000 in
theorem lc_14 {p : Program} {l : Launch} {e : Env} {s : State} {m : MethodId} {below : List Frame} {meth : Method} {c : Code} {b L : Nat} {xs : Nat → Int32} {D : va_G} {kc0 kc1 : Nat → ClassId} {q0 q1 : Nat → Nat} {ko : ClassId} {qo : Nat} {x4 : Int32} {cells slots : Nat} (C0 : lw_At p s m meth c b L xs) (X0 : lwx l s D kc0 kc1 ko L x4) (hcs1 : cells + 1 ≤ room_1.cells ∧ slots + 6 ≤ room_1.slots) (hnext : ∀ (σ : CS) (τ : MS) (o : Nat → Int64) (H : Heap) (locs : List Loc) (ls : Array Slot), Rel σ τ → va_P D vwCl (wL kc0 q0 σ kc1 q1 τ ko qo o) H → va_D (fun q : Nat => s.heap.size ≤ q) (wL kc0 q0 σ kc1 q1 τ ko qo o) → va_S (fun q : Nat => s.heap.size ≤ q) s.heap H locs → lv_has ls 7 [(0, .ref b), (1, .ref (q0 0)), (2, .ref (q1 0)), (3, .ref qo), (4, .int x4)] → W p l e room_1 s m #[Value.ref b] below meth c H locs (cells + 1) (slots + 6) (lw_Z below #[Value.ref b] s) (F0 m 1049 ls [])) (σ : CS) (τ : MS) (o : Nat → Int64) (H : Heap) (locs : List Loc) (ls : Array Slot) (hR : Rel σ τ) (hP : va_P D vwCl (wL kc0 q0 σ kc1 q1 τ ko qo o) H) (hD : va_D (fun q : Nat => s.heap.size ≤ q) (wL kc0 q0 σ kc1 q1 τ ko qo o)) (hS : va_S (fun q : Nat => s.heap.size ≤ q) s.heap H locs) (hl : lv_has ls 7 [(0, .ref b), (1, .ref (q0 0)), (2, .ref (q1 0)), (3, .ref qo), (4, .int x4)]) : W p l e room_1 s m #[Value.ref b] below meth c H locs cells slots (lw_Z below #[Value.ref b] s) (F0 m 827 ls []) := by
  obtain ⟨hx, hb, hr, hml, hown, hts, hX, hbl, hlocks, hgv⟩ := C0
  obtain ⟨hz, hK, hi1, hi2, hi3, hi4⟩ := X0
  have hown : s.vm.findClass RL = some m.cls := hown
  have hts : ∀ w ∈ wsL_law, w.before #[Value.ref b] s = true := fun w h => hts w (wsL_law_in w h)
  have hA : ∀ q : Nat, s.heap.size ≤ q → (fun q : Nat => s.heap.size ≤ q) q := fun _ h => h
  have hbA : ¬ (fun q : Nat => s.heap.size ≤ q) b := Nat.not_le.mpr hbl
  have hcs : cells ≤ room_1.cells ∧ slots ≤ room_1.slots := ⟨by omega, by omega⟩
  refine lv_aload_n hx hb dL_law_827 rfl (lv_at hl 1 rfl) ?_
  refine lv_aload_n hx hb dL_law_828 rfl (lv_at hl 0 rfl) ?_
  refine lv_iload hx hb dL_law_829 (lv_at hl 4 rfl) ?_
  refine lv_iconst (v := (1 : Int32)) hx hb dL_law_831 (by decide) ?_
  refine lv_iadd hx hb dL_law_832 ?_
  refine va_sld hx hb hX hbl hbA hS hi1 dL_law_833 ?_
  obtain ⟨r, τ1, hf0, hf1, hR⟩ := pu_given hR (xs (x4 + (1 : Int32)).toNatClampNeg)
  refine cl0Ri (As := [.int (xs (x4 + (1 : Int32)).toNatClampNeg)]) (rest := []) ⟨hx, hb, hml, hown, hts⟩ (mX0_given l D kc0 q0 σ (xs (x4 + (1 : Int32)).toNatClampNeg) _ hf0) (cwV 1 hts gL_law_X0_given rfl rfl rfl (by decide +kernel) ⟨Nat.le_of_ble_eq_true rfl, Nat.le_of_ble_eq_true rfl⟩) hK hP rfl hl.1 (Nat.le_of_ble_eq_true rfl) dL_law_834 hcs ?_
  refine lv_aload_n hx hb dL_law_837 rfl (lv_at hl 2 rfl) ?_
  refine lv_aload_n hx hb dL_law_838 rfl (lv_at hl 0 rfl) ?_
  refine lv_iload hx hb dL_law_839 (lv_at hl 4 rfl) ?_
  refine lv_iconst (v := (1 : Int32)) hx hb dL_law_841 (by decide) ?_
  refine lv_iadd hx hb dL_law_842 ?_
  refine va_sld hx hb hX hbl hbA hS hi1 dL_law_843 ?_
  refine cl1Mi (As := [.int (xs (x4 + (1 : Int32)).toNatClampNeg)]) (rest := [.int r]) ⟨hx, hb, hml, hown, hts⟩ (mX1_given l D kc1 q1 τ (xs (x4 + (1 : Int32)).toNatClampNeg) _ hf1) (cwV 1 hts gL_law_X1_given rfl rfl rfl (by decide +kernel) ⟨Nat.le_of_ble_eq_true rfl, Nat.le_of_ble_eq_true rfl⟩) hK hP hD hS hA rfl hl.1 (Nat.le_of_ble_eq_true rfl) dL_law_844 hcs (fun H locs hP hD hS => ?_)
  refine lv_icmp_eq (tgt := 1049) hx hb dL_law_847 (by decide) (fun c7 => ?_) (fun c7 => ?_)
  · refine W.widen (k := cells + 1) (n := slots + 6) (by omega) (by omega) ?_
    exact hnext σ τ1 o H locs ls hR hP hD hS hl
  · exact absurd rfl c7
set_option maxHeartbeats 4000000 in
set_option maxRecDepth 100000 in
theorem lc_15 {p : Program} {l : Launch} {e : Env} {s : State} {m : MethodId} {below : List Frame} {meth : Method} {c : Code} {b L : Nat} {xs : Nat → Int32} {D : va_G} {kc0 kc1 : Nat → ClassId} {q0 q1 : Nat → Nat} {ko : ClassId} {qo : Nat} {x4 : Int32} {cells slots : Nat} (C0 : lw_At p s m meth c b L xs) (X0 : lwx l s D kc0 kc1 ko L x4) (hcs1 : cells + 1 ≤ room_1.cells ∧ slots + 6 ≤ room_1.slots) (hnext : ∀ (σ : CS) (τ : MS) (o : Nat → Int64) (H : Heap) (locs : List Loc) (ls : Array Slot), Rel σ τ → va_P D vwCl (wL kc0 q0 σ kc1 q1 τ ko qo o) H → va_D (fun q : Nat => s.heap.size ≤ q) (wL kc0 q0 σ kc1 q1 τ ko qo o) → va_S (fun q : Nat => s.heap.size ≤ q) s.heap H locs → lv_has ls 7 [(0, .ref b), (1, .ref (q0 0)), (2, .ref (q1 0)), (3, .ref qo), (4, .int x4)] → W p l e room_1 s m #[Value.ref b] below meth c H locs (cells + 1) (slots + 6) (lw_Z below #[Value.ref b] s) (F0 m 1049 ls [])) (σ : CS) (τ : MS) (o : Nat → Int64) (H : Heap) (locs : List Loc) (ls : Array Slot) (hR : Rel σ τ) (hP : va_P D vwCl (wL kc0 q0 σ kc1 q1 τ ko qo o) H) (hD : va_D (fun q : Nat => s.heap.size ≤ q) (wL kc0 q0 σ kc1 q1 τ ko qo o)) (hS : va_S (fun q : Nat => s.heap.size ≤ q) s.heap H locs) (hl : lv_has ls 7 [(0, .ref b), (1, .ref (q0 0)), (2, .ref (q1 0)), (3, .ref qo), (4, .int x4)]) : W p l e room_1 s m #[Value.ref b] below meth c H locs cells slots (lw_Z below #[Value.ref b] s) (F0 m 852 ls []) := by
  obtain ⟨hx, hb, hr, hml, hown, hts, hX, hbl, hlocks, hgv⟩ := C0
  obtain ⟨hz, hK, hi1, hi2, hi3, hi4⟩ := X0
  have hown : s.vm.findClass RL = some m.cls := hown
  have hts : ∀ w ∈ wsL_law, w.before #[Value.ref b] s = true := fun w h => hts w (wsL_law_in w h)
  have hA : ∀ q : Nat, s.heap.size ≤ q → (fun q : Nat => s.heap.size ≤ q) q := fun _ h => h
  have hbA : ¬ (fun q : Nat => s.heap.size ≤ q) b := Nat.not_le.mpr hbl
  have hcs : cells ≤ room_1.cells ∧ slots ≤ room_1.slots := ⟨by omega, by omega⟩
  refine lv_aload_n hx hb dL_law_852 rfl (lv_at hl 1 rfl) ?_
  refine lv_aload_n hx hb dL_law_853 rfl (lv_at hl 0 rfl) ?_
  refine lv_iload hx hb dL_law_854 (lv_at hl 4 rfl) ?_
  refine lv_iconst (v := (1 : Int32)) hx hb dL_law_856 (by decide) ?_
  refine lv_iadd hx hb dL_law_857 ?_
  refine va_sld hx hb hX hbl hbA hS hi1 dL_law_858 ?_
  refine lv_aload_n hx hb dL_law_859 rfl (lv_at hl 0 rfl) ?_
  refine lv_iload hx hb dL_law_860 (lv_at hl 4 rfl) ?_
  refine lv_iconst (v := (2 : Int32)) hx hb dL_law_862 (by decide) ?_
  refine lv_iadd hx hb dL_law_863 ?_
  refine va_sld hx hb hX hbl hbA hS hi2 dL_law_864 ?_
  refine lv_aload_n hx hb dL_law_865 rfl (lv_at hl 0 rfl) ?_
  refine lv_iload hx hb dL_law_866 (lv_at hl 4 rfl) ?_
  refine lv_iconst (v := (3 : Int32)) hx hb dL_law_868 (by decide) ?_
  refine lv_iadd hx hb dL_law_869 ?_
  refine va_sld hx hb hX hbl hbA hS hi3 dL_law_870 ?_
  obtain ⟨r, σ1, τ1, hf0, hf1, hR⟩ := pu_tail hR (xs (x4 + (1 : Int32)).toNatClampNeg) (xs (x4 + (2 : Int32)).toNatClampNeg) (xs (x4 + (3 : Int32)).toNatClampNeg)
  refine cl0Mi (As := [.int (xs (x4 + (1 : Int32)).toNatClampNeg), .int (xs (x4 + (2 : Int32)).toNatClampNeg), .int (xs (x4 + (3 : Int32)).toNatClampNeg)]) (rest := []) ⟨hx, hb, hml, hown, hts⟩ (mX0_tail l D kc0 q0 σ (xs (x4 + (1 : Int32)).toNatClampNeg) (xs (x4 + (2 : Int32)).toNatClampNeg) (xs (x4 + (3 : Int32)).toNatClampNeg) _ hf0) (cwV 3 hts gL_law_X0_tail rfl rfl rfl (by decide +kernel) ⟨Nat.le_of_ble_eq_true rfl, Nat.le_of_ble_eq_true rfl⟩) hK hP hD hS hA rfl hl.1 (Nat.le_of_ble_eq_true rfl) dL_law_871 hcs (fun H locs hP hD hS => ?_)
  refine lv_aload_n hx hb dL_law_874 rfl (lv_at hl 2 rfl) ?_
  refine lv_aload_n hx hb dL_law_875 rfl (lv_at hl 0 rfl) ?_
  refine lv_iload hx hb dL_law_876 (lv_at hl 4 rfl) ?_
  refine lv_iconst (v := (1 : Int32)) hx hb dL_law_878 (by decide) ?_
  refine lv_iadd hx hb dL_law_879 ?_
  refine va_sld hx hb hX hbl hbA hS hi1 dL_law_880 ?_
  refine lv_aload_n hx hb dL_law_881 rfl (lv_at hl 0 rfl) ?_
  refine lv_iload hx hb dL_law_882 (lv_at hl 4 rfl) ?_
  refine lv_iconst (v := (2 : Int32)) hx hb dL_law_884 (by decide) ?_
  refine lv_iadd hx hb dL_law_885 ?_
  refine va_sld hx hb hX hbl hbA hS hi2 dL_law_886 ?_
  refine lv_aload_n hx hb dL_law_887 rfl (lv_at hl 0 rfl) ?_
  refine lv_iload hx hb dL_law_888 (lv_at hl 4 rfl) ?_
  refine lv_iconst (v := (3 : Int32)) hx hb dL_law_890 (by decide) ?_
  refine lv_iadd hx hb dL_law_891 ?_
  refine va_sld hx hb hX hbl hbA hS hi3 dL_law_892 ?_
  refine cl1Mi (As := [.int (xs (x4 + (1 : Int32)).toNatClampNeg), .int (xs (x4 + (2 : Int32)).toNatClampNeg), .int (xs (x4 + (3 : Int32)).toNatClampNeg)]) (rest := [.int r]) ⟨hx, hb, hml, hown, hts⟩ (mX1_tail l D kc1 q1 τ (xs (x4 + (1 : Int32)).toNatClampNeg) (xs (x4 + (2 : Int32)).toNatClampNeg) (xs (x4 + (3 : Int32)).toNatClampNeg) _ hf1) (cwV 3 hts gL_law_X1_tail rfl rfl rfl (by decide +kernel) ⟨Nat.le_of_ble_eq_true rfl, Nat.le_of_ble_eq_true rfl⟩) hK hP hD hS hA rfl hl.1 (Nat.le_of_ble_eq_true rfl) dL_law_893 hcs (fun H locs hP hD hS => ?_)
  refine lv_icmp_eq (tgt := 1049) hx hb dL_law_896 (by decide) (fun c7 => ?_) (fun c7 => ?_)
  · refine W.widen (k := cells + 1) (n := slots + 6) (by omega) (by omega) ?_
    exact hnext σ1 τ1 o H locs ls hR hP hD hS hl
  · exact absurd rfl c7
set_option maxHeartbeats 4000000 in
set_option maxRecDepth 100000 in
theorem lc_16 {p : Program} {l : Launch} {e : Env} {s : State} {m : MethodId} {below : List Frame} {meth : Method} {c : Code} {b L : Nat} {xs : Nat → Int32} {D : va_G} {kc0 kc1 : Nat → ClassId} {q0 q1 : Nat → Nat} {ko : ClassId} {qo : Nat} {x4 : Int32} {cells slots : Nat} (C0 : lw_At p s m meth c b L xs) (X0 : lwx l s D kc0 kc1 ko L x4) (hcs1 : cells + 1 ≤ room_1.cells ∧ slots + 6 ≤ room_1.slots) (hnext : ∀ (σ : CS) (τ : MS) (o : Nat → Int64) (H : Heap) (locs : List Loc) (ls : Array Slot), Rel σ τ → va_P D vwCl (wL kc0 q0 σ kc1 q1 τ ko qo o) H → va_D (fun q : Nat => s.heap.size ≤ q) (wL kc0 q0 σ kc1 q1 τ ko qo o) → va_S (fun q : Nat => s.heap.size ≤ q) s.heap H locs → lv_has ls 7 [(0, .ref b), (1, .ref (q0 0)), (2, .ref (q1 0)), (3, .ref qo), (4, .int x4)] → W p l e room_1 s m #[Value.ref b] below meth c H locs (cells + 1) (slots + 6) (lw_Z below #[Value.ref b] s) (F0 m 1049 ls [])) (σ : CS) (τ : MS) (o : Nat → Int64) (H : Heap) (locs : List Loc) (ls : Array Slot) (hR : Rel σ τ) (hP : va_P D vwCl (wL kc0 q0 σ kc1 q1 τ ko qo o) H) (hD : va_D (fun q : Nat => s.heap.size ≤ q) (wL kc0 q0 σ kc1 q1 τ ko qo o)) (hS : va_S (fun q : Nat => s.heap.size ≤ q) s.heap H locs) (hl : lv_has ls 7 [(0, .ref b), (1, .ref (q0 0)), (2, .ref (q1 0)), (3, .ref qo), (4, .int x4)]) : W p l e room_1 s m #[Value.ref b] below meth c H locs cells slots (lw_Z below #[Value.ref b] s) (F0 m 901 ls []) := by
  obtain ⟨hx, hb, hr, hml, hown, hts, hX, hbl, hlocks, hgv⟩ := C0
  obtain ⟨hz, hK, hi1, hi2, hi3, hi4⟩ := X0
  have hown : s.vm.findClass RL = some m.cls := hown
  have hts : ∀ w ∈ wsL_law, w.before #[Value.ref b] s = true := fun w h => hts w (wsL_law_in w h)
  have hA : ∀ q : Nat, s.heap.size ≤ q → (fun q : Nat => s.heap.size ≤ q) q := fun _ h => h
  have hbA : ¬ (fun q : Nat => s.heap.size ≤ q) b := Nat.not_le.mpr hbl
  have hcs : cells ≤ room_1.cells ∧ slots ≤ room_1.slots := ⟨by omega, by omega⟩
  refine lv_aload_n hx hb dL_law_901 rfl (lv_at hl 1 rfl) ?_
  refine lv_aload_n hx hb dL_law_902 rfl (lv_at hl 0 rfl) ?_
  refine lv_iload hx hb dL_law_903 (lv_at hl 4 rfl) ?_
  refine lv_iconst (v := (1 : Int32)) hx hb dL_law_905 (by decide) ?_
  refine lv_iadd hx hb dL_law_906 ?_
  refine va_sld hx hb hX hbl hbA hS hi1 dL_law_907 ?_
  refine lv_aload_n hx hb dL_law_908 rfl (lv_at hl 0 rfl) ?_
  refine lv_iload hx hb dL_law_909 (lv_at hl 4 rfl) ?_
  refine lv_iconst (v := (2 : Int32)) hx hb dL_law_911 (by decide) ?_
  refine lv_iadd hx hb dL_law_912 ?_
  refine va_sld hx hb hX hbl hbA hS hi2 dL_law_913 ?_
  refine lv_aload_n hx hb dL_law_914 rfl (lv_at hl 0 rfl) ?_
  refine lv_iload hx hb dL_law_915 (lv_at hl 4 rfl) ?_
  refine lv_iconst (v := (3 : Int32)) hx hb dL_law_917 (by decide) ?_
  refine lv_iadd hx hb dL_law_918 ?_
  refine va_sld hx hb hX hbl hbA hS hi3 dL_law_919 ?_
  refine lv_aload_n hx hb dL_law_920 rfl (lv_at hl 0 rfl) ?_
  refine lv_iload hx hb dL_law_921 (lv_at hl 4 rfl) ?_
  refine lv_iconst (v := (4 : Int32)) hx hb dL_law_923 (by decide) ?_
  refine lv_iadd hx hb dL_law_924 ?_
  refine va_sld hx hb hX hbl hbA hS hi4 dL_law_925 ?_
  obtain ⟨r, σ1, τ1, hf0, hf1, hR⟩ := pu_urn hR (xs (x4 + (1 : Int32)).toNatClampNeg) (xs (x4 + (2 : Int32)).toNatClampNeg) (xs (x4 + (3 : Int32)).toNatClampNeg) (xs (x4 + (4 : Int32)).toNatClampNeg)
  refine cl0Mi (As := [.int (xs (x4 + (1 : Int32)).toNatClampNeg), .int (xs (x4 + (2 : Int32)).toNatClampNeg), .int (xs (x4 + (3 : Int32)).toNatClampNeg), .int (xs (x4 + (4 : Int32)).toNatClampNeg)]) (rest := []) ⟨hx, hb, hml, hown, hts⟩ (mX0_urn l D kc0 q0 σ (xs (x4 + (1 : Int32)).toNatClampNeg) (xs (x4 + (2 : Int32)).toNatClampNeg) (xs (x4 + (3 : Int32)).toNatClampNeg) (xs (x4 + (4 : Int32)).toNatClampNeg) _ hf0) (cwV 4 hts gL_law_X0_urn rfl rfl rfl (by decide +kernel) ⟨Nat.le_of_ble_eq_true rfl, Nat.le_of_ble_eq_true rfl⟩) hK hP hD hS hA rfl hl.1 (Nat.le_of_ble_eq_true rfl) dL_law_926 hcs (fun H locs hP hD hS => ?_)
  refine lv_aload_n hx hb dL_law_929 rfl (lv_at hl 2 rfl) ?_
  refine lv_aload_n hx hb dL_law_930 rfl (lv_at hl 0 rfl) ?_
  refine lv_iload hx hb dL_law_931 (lv_at hl 4 rfl) ?_
  refine lv_iconst (v := (1 : Int32)) hx hb dL_law_933 (by decide) ?_
  refine lv_iadd hx hb dL_law_934 ?_
  refine va_sld hx hb hX hbl hbA hS hi1 dL_law_935 ?_
  refine lv_aload_n hx hb dL_law_936 rfl (lv_at hl 0 rfl) ?_
  refine lv_iload hx hb dL_law_937 (lv_at hl 4 rfl) ?_
  refine lv_iconst (v := (2 : Int32)) hx hb dL_law_939 (by decide) ?_
  refine lv_iadd hx hb dL_law_940 ?_
  refine va_sld hx hb hX hbl hbA hS hi2 dL_law_941 ?_
  refine lv_aload_n hx hb dL_law_942 rfl (lv_at hl 0 rfl) ?_
  refine lv_iload hx hb dL_law_943 (lv_at hl 4 rfl) ?_
  refine lv_iconst (v := (3 : Int32)) hx hb dL_law_945 (by decide) ?_
  refine lv_iadd hx hb dL_law_946 ?_
  refine va_sld hx hb hX hbl hbA hS hi3 dL_law_947 ?_
  refine lv_aload_n hx hb dL_law_948 rfl (lv_at hl 0 rfl) ?_
  refine lv_iload hx hb dL_law_949 (lv_at hl 4 rfl) ?_
  refine lv_iconst (v := (4 : Int32)) hx hb dL_law_951 (by decide) ?_
  refine lv_iadd hx hb dL_law_952 ?_
  refine va_sld hx hb hX hbl hbA hS hi4 dL_law_953 ?_
  refine cl1Mi (As := [.int (xs (x4 + (1 : Int32)).toNatClampNeg), .int (xs (x4 + (2 : Int32)).toNatClampNeg), .int (xs (x4 + (3 : Int32)).toNatClampNeg), .int (xs (x4 + (4 : Int32)).toNatClampNeg)]) (rest := [.int r]) ⟨hx, hb, hml, hown, hts⟩ (mX1_urn l D kc1 q1 τ (xs (x4 + (1 : Int32)).toNatClampNeg) (xs (x4 + (2 : Int32)).toNatClampNeg) (xs (x4 + (3 : Int32)).toNatClampNeg) (xs (x4 + (4 : Int32)).toNatClampNeg) _ hf1) (cwV 4 hts gL_law_X1_urn rfl rfl rfl (by decide +kernel) ⟨Nat.le_of_ble_eq_true rfl, Nat.le_of_ble_eq_true rfl⟩) hK hP hD hS hA rfl hl.1 (Nat.le_of_ble_eq_true rfl) dL_law_954 hcs (fun H locs hP hD hS => ?_)
  refine lv_icmp_eq (tgt := 1049) hx hb dL_law_957 (by decide) (fun c7 => ?_) (fun c7 => ?_)
  · refine W.widen (k := cells + 1) (n := slots + 6) (by omega) (by omega) ?_
    exact hnext σ1 τ1 o H locs ls hR hP hD hS hl
  · exact absurd rfl c7
set_option maxHeartbeats 4000000 in
set_option maxRecDepth 100000 in
theorem lc_17 {p : Program} {l : Launch} {e : Env} {s : State} {m : MethodId} {below : List Frame} {meth : Method} {c : Code} {b L : Nat} {xs : Nat → Int32} {D : va_G} {kc0 kc1 : Nat → ClassId} {q0 q1 : Nat → Nat} {ko : ClassId} {qo : Nat} {x4 : Int32} {cells slots : Nat} (C0 : lw_At p s m meth c b L xs) (X0 : lwx l s D kc0 kc1 ko L x4) (hcs1 : cells + 1 ≤ room_1.cells ∧ slots + 6 ≤ room_1.slots) (hnext : ∀ (σ : CS) (τ : MS) (o : Nat → Int64) (H : Heap) (locs : List Loc) (ls : Array Slot), Rel σ τ → va_P D vwCl (wL kc0 q0 σ kc1 q1 τ ko qo o) H → va_D (fun q : Nat => s.heap.size ≤ q) (wL kc0 q0 σ kc1 q1 τ ko qo o) → va_S (fun q : Nat => s.heap.size ≤ q) s.heap H locs → lv_has ls 7 [(0, .ref b), (1, .ref (q0 0)), (2, .ref (q1 0)), (3, .ref qo), (4, .int x4)] → W p l e room_1 s m #[Value.ref b] below meth c H locs (cells + 1) (slots + 6) (lw_Z below #[Value.ref b] s) (F0 m 1049 ls [])) (σ : CS) (τ : MS) (o : Nat → Int64) (H : Heap) (locs : List Loc) (ls : Array Slot) (hR : Rel σ τ) (hP : va_P D vwCl (wL kc0 q0 σ kc1 q1 τ ko qo o) H) (hD : va_D (fun q : Nat => s.heap.size ≤ q) (wL kc0 q0 σ kc1 q1 τ ko qo o)) (hS : va_S (fun q : Nat => s.heap.size ≤ q) s.heap H locs) (hl : lv_has ls 7 [(0, .ref b), (1, .ref (q0 0)), (2, .ref (q1 0)), (3, .ref qo), (4, .int x4)]) : W p l e room_1 s m #[Value.ref b] below meth c H locs cells slots (lw_Z below #[Value.ref b] s) (F0 m 962 ls []) := by
  obtain ⟨hx, hb, hr, hml, hown, hts, hX, hbl, hlocks, hgv⟩ := C0
  obtain ⟨hz, hK, hi1, hi2, hi3, hi4⟩ := X0
  have hown : s.vm.findClass RL = some m.cls := hown
  have hts : ∀ w ∈ wsL_law, w.before #[Value.ref b] s = true := fun w h => hts w (wsL_law_in w h)
  have hA : ∀ q : Nat, s.heap.size ≤ q → (fun q : Nat => s.heap.size ≤ q) q := fun _ h => h
  have hbA : ¬ (fun q : Nat => s.heap.size ≤ q) b := Nat.not_le.mpr hbl
  have hcs : cells ≤ room_1.cells ∧ slots ≤ room_1.slots := ⟨by omega, by omega⟩
  refine lv_aload_n hx hb dL_law_962 rfl (lv_at hl 1 rfl) ?_
  refine lv_aload_n hx hb dL_law_963 rfl (lv_at hl 0 rfl) ?_
  refine lv_iload hx hb dL_law_964 (lv_at hl 4 rfl) ?_
  refine lv_iconst (v := (1 : Int32)) hx hb dL_law_966 (by decide) ?_
  refine lv_iadd hx hb dL_law_967 ?_
  refine va_sld hx hb hX hbl hbA hS hi1 dL_law_968 ?_
  refine lv_aload_n hx hb dL_law_969 rfl (lv_at hl 0 rfl) ?_
  refine lv_iload hx hb dL_law_970 (lv_at hl 4 rfl) ?_
  refine lv_iconst (v := (2 : Int32)) hx hb dL_law_972 (by decide) ?_
  refine lv_iadd hx hb dL_law_973 ?_
  refine va_sld hx hb hX hbl hbA hS hi2 dL_law_974 ?_
  obtain ⟨r, σ1, τ1, hf0, hf1, hR⟩ := pu_test hR (xs (x4 + (1 : Int32)).toNatClampNeg) (xs (x4 + (2 : Int32)).toNatClampNeg)
  refine cl0Mi (As := [.int (xs (x4 + (1 : Int32)).toNatClampNeg), .int (xs (x4 + (2 : Int32)).toNatClampNeg)]) (rest := []) ⟨hx, hb, hml, hown, hts⟩ (mX0_test l D kc0 q0 σ (xs (x4 + (1 : Int32)).toNatClampNeg) (xs (x4 + (2 : Int32)).toNatClampNeg) _ hf0) (cwV 2 hts gL_law_X0_test rfl rfl rfl (by decide +kernel) ⟨Nat.le_of_ble_eq_true rfl, Nat.le_of_ble_eq_true rfl⟩) hK hP hD hS hA rfl hl.1 (Nat.le_of_ble_eq_true rfl) dL_law_975 hcs (fun H locs hP hD hS => ?_)
  refine lv_aload_n hx hb dL_law_978 rfl (lv_at hl 2 rfl) ?_
  refine lv_aload_n hx hb dL_law_979 rfl (lv_at hl 0 rfl) ?_
  refine lv_iload hx hb dL_law_980 (lv_at hl 4 rfl) ?_
  refine lv_iconst (v := (1 : Int32)) hx hb dL_law_982 (by decide) ?_
  refine lv_iadd hx hb dL_law_983 ?_
  refine va_sld hx hb hX hbl hbA hS hi1 dL_law_984 ?_
  refine lv_aload_n hx hb dL_law_985 rfl (lv_at hl 0 rfl) ?_
  refine lv_iload hx hb dL_law_986 (lv_at hl 4 rfl) ?_
  refine lv_iconst (v := (2 : Int32)) hx hb dL_law_988 (by decide) ?_
  refine lv_iadd hx hb dL_law_989 ?_
  refine va_sld hx hb hX hbl hbA hS hi2 dL_law_990 ?_
  refine cl1Mi (As := [.int (xs (x4 + (1 : Int32)).toNatClampNeg), .int (xs (x4 + (2 : Int32)).toNatClampNeg)]) (rest := [.int r]) ⟨hx, hb, hml, hown, hts⟩ (mX1_test l D kc1 q1 τ (xs (x4 + (1 : Int32)).toNatClampNeg) (xs (x4 + (2 : Int32)).toNatClampNeg) _ hf1) (cwV 2 hts gL_law_X1_test rfl rfl rfl (by decide +kernel) ⟨Nat.le_of_ble_eq_true rfl, Nat.le_of_ble_eq_true rfl⟩) hK hP hD hS hA rfl hl.1 (Nat.le_of_ble_eq_true rfl) dL_law_991 hcs (fun H locs hP hD hS => ?_)
  refine lv_icmp_eq (tgt := 1049) hx hb dL_law_994 (by decide) (fun c7 => ?_) (fun c7 => ?_)
  · refine W.widen (k := cells + 1) (n := slots + 6) (by omega) (by omega) ?_
    exact hnext σ1 τ1 o H locs ls hR hP hD hS hl
  · exact absurd rfl c7
set_option maxHeartbeats 4000000 in
set_option maxRecDepth 100000 in
theorem lc_18 {p : Program} {l : Launch} {e : Env} {s : State} {m : MethodId} {below : List Frame} {meth : Method} {c : Code} {b L : Nat} {xs : Nat → Int32} {D : va_G} {kc0 kc1 : Nat → ClassId} {q0 q1 : Nat → Nat} {ko : ClassId} {qo : Nat} {x4 : Int32} {cells slots : Nat} (C0 : lw_At p s m meth c b L xs) (X0 : lwx l s D kc0 kc1 ko L x4) (hcs1 : cells + 1 ≤ room_1.cells ∧ slots + 6 ≤ room_1.slots) (hnext : ∀ (σ : CS) (τ : MS) (o : Nat → Int64) (H : Heap) (locs : List Loc) (ls : Array Slot), Rel σ τ → va_P D vwCl (wL kc0 q0 σ kc1 q1 τ ko qo o) H → va_D (fun q : Nat => s.heap.size ≤ q) (wL kc0 q0 σ kc1 q1 τ ko qo o) → va_S (fun q : Nat => s.heap.size ≤ q) s.heap H locs → lv_has ls 7 [(0, .ref b), (1, .ref (q0 0)), (2, .ref (q1 0)), (3, .ref qo), (4, .int x4)] → W p l e room_1 s m #[Value.ref b] below meth c H locs (cells + 1) (slots + 6) (lw_Z below #[Value.ref b] s) (F0 m 1049 ls [])) (σ : CS) (τ : MS) (o : Nat → Int64) (H : Heap) (locs : List Loc) (ls : Array Slot) (hR : Rel σ τ) (hP : va_P D vwCl (wL kc0 q0 σ kc1 q1 τ ko qo o) H) (hD : va_D (fun q : Nat => s.heap.size ≤ q) (wL kc0 q0 σ kc1 q1 τ ko qo o)) (hS : va_S (fun q : Nat => s.heap.size ≤ q) s.heap H locs) (hl : lv_has ls 7 [(0, .ref b), (1, .ref (q0 0)), (2, .ref (q1 0)), (3, .ref qo), (4, .int x4)]) : W p l e room_1 s m #[Value.ref b] below meth c H locs cells slots (lw_Z below #[Value.ref b] s) (F0 m 999 ls []) := by
  obtain ⟨hx, hb, hr, hml, hown, hts, hX, hbl, hlocks, hgv⟩ := C0
  obtain ⟨hz, hK, hi1, hi2, hi3, hi4⟩ := X0
  have hown : s.vm.findClass RL = some m.cls := hown
  have hts : ∀ w ∈ wsL_law, w.before #[Value.ref b] s = true := fun w h => hts w (wsL_law_in w h)
  have hA : ∀ q : Nat, s.heap.size ≤ q → (fun q : Nat => s.heap.size ≤ q) q := fun _ h => h
  have hbA : ¬ (fun q : Nat => s.heap.size ≤ q) b := Nat.not_le.mpr hbl
  have hcs : cells ≤ room_1.cells ∧ slots ≤ room_1.slots := ⟨by omega, by omega⟩
  refine lv_aload_n hx hb dL_law_999 rfl (lv_at hl 1 rfl) ?_
  refine lv_aload_n hx hb dL_law_1000 rfl (lv_at hl 0 rfl) ?_
  refine lv_iload hx hb dL_law_1001 (lv_at hl 4 rfl) ?_
  refine lv_iconst (v := (1 : Int32)) hx hb dL_law_1003 (by decide) ?_
  refine lv_iadd hx hb dL_law_1004 ?_
  refine va_sld hx hb hX hbl hbA hS hi1 dL_law_1005 ?_
  obtain ⟨r, τ1, hf0, hf1, hR⟩ := pu_ways hR (xs (x4 + (1 : Int32)).toNatClampNeg)
  refine cl0Ri (As := [.int (xs (x4 + (1 : Int32)).toNatClampNeg)]) (rest := []) ⟨hx, hb, hml, hown, hts⟩ (mX0_ways l D kc0 q0 σ (xs (x4 + (1 : Int32)).toNatClampNeg) _ hf0) (cwV 1 hts gL_law_X0_ways rfl rfl rfl (by decide +kernel) ⟨Nat.le_of_ble_eq_true rfl, Nat.le_of_ble_eq_true rfl⟩) hK hP rfl hl.1 (Nat.le_of_ble_eq_true rfl) dL_law_1006 hcs ?_
  refine lv_aload_n hx hb dL_law_1009 rfl (lv_at hl 2 rfl) ?_
  refine lv_aload_n hx hb dL_law_1010 rfl (lv_at hl 0 rfl) ?_
  refine lv_iload hx hb dL_law_1011 (lv_at hl 4 rfl) ?_
  refine lv_iconst (v := (1 : Int32)) hx hb dL_law_1013 (by decide) ?_
  refine lv_iadd hx hb dL_law_1014 ?_
  refine va_sld hx hb hX hbl hbA hS hi1 dL_law_1015 ?_
  refine cl1Mi (As := [.int (xs (x4 + (1 : Int32)).toNatClampNeg)]) (rest := [.int r]) ⟨hx, hb, hml, hown, hts⟩ (mX1_ways l D kc1 q1 τ (xs (x4 + (1 : Int32)).toNatClampNeg) _ hf1) (cwV 1 hts gL_law_X1_ways rfl rfl rfl (by decide +kernel) ⟨Nat.le_of_ble_eq_true rfl, Nat.le_of_ble_eq_true rfl⟩) hK hP hD hS hA rfl hl.1 (Nat.le_of_ble_eq_true rfl) dL_law_1016 hcs (fun H locs hP hD hS => ?_)
  refine lv_icmp_eq (tgt := 1049) hx hb dL_law_1019 (by decide) (fun c7 => ?_) (fun c7 => ?_)
  · refine W.widen (k := cells + 1) (n := slots + 6) (by omega) (by omega) ?_
    exact hnext σ τ1 o H locs ls hR hP hD hS hl
  · exact absurd rfl c7
set_option maxHeartbeats 4000000 in
set_option maxRecDepth 100000 in
theorem lc_19 {p : Program} {l : Launch} {e : Env} {s : State} {m : MethodId} {below : List Frame} {meth : Method} {c : Code} {b L : Nat} {xs : Nat → Int32} {D : va_G} {kc0 kc1 : Nat → ClassId} {q0 q1 : Nat → Nat} {ko : ClassId} {qo : Nat} {x4 : Int32} {cells slots : Nat} (C0 : lw_At p s m meth c b L xs) (X0 : lwx l s D kc0 kc1 ko L x4) (hcs1 : cells + 1 ≤ room_1.cells ∧ slots + 6 ≤ room_1.slots) (hnext : ∀ (σ : CS) (τ : MS) (o : Nat → Int64) (H : Heap) (locs : List Loc) (ls : Array Slot), Rel σ τ → va_P D vwCl (wL kc0 q0 σ kc1 q1 τ ko qo o) H → va_D (fun q : Nat => s.heap.size ≤ q) (wL kc0 q0 σ kc1 q1 τ ko qo o) → va_S (fun q : Nat => s.heap.size ≤ q) s.heap H locs → lv_has ls 7 [(0, .ref b), (1, .ref (q0 0)), (2, .ref (q1 0)), (3, .ref qo), (4, .int x4)] → W p l e room_1 s m #[Value.ref b] below meth c H locs (cells + 1) (slots + 6) (lw_Z below #[Value.ref b] s) (F0 m 1049 ls [])) (σ : CS) (τ : MS) (o : Nat → Int64) (H : Heap) (locs : List Loc) (ls : Array Slot) (hR : Rel σ τ) (hP : va_P D vwCl (wL kc0 q0 σ kc1 q1 τ ko qo o) H) (hD : va_D (fun q : Nat => s.heap.size ≤ q) (wL kc0 q0 σ kc1 q1 τ ko qo o)) (hS : va_S (fun q : Nat => s.heap.size ≤ q) s.heap H locs) (hl : lv_has ls 7 [(0, .ref b), (1, .ref (q0 0)), (2, .ref (q1 0)), (3, .ref qo), (4, .int x4)]) : W p l e room_1 s m #[Value.ref b] below meth c H locs cells slots (lw_Z below #[Value.ref b] s) (F0 m 1024 ls []) := by
  obtain ⟨hx, hb, hr, hml, hown, hts, hX, hbl, hlocks, hgv⟩ := C0
  obtain ⟨hz, hK, hi1, hi2, hi3, hi4⟩ := X0
  have hown : s.vm.findClass RL = some m.cls := hown
  have hts : ∀ w ∈ wsL_law, w.before #[Value.ref b] s = true := fun w h => hts w (wsL_law_in w h)
  have hA : ∀ q : Nat, s.heap.size ≤ q → (fun q : Nat => s.heap.size ≤ q) q := fun _ h => h
  have hbA : ¬ (fun q : Nat => s.heap.size ≤ q) b := Nat.not_le.mpr hbl
  have hcs : cells ≤ room_1.cells ∧ slots ≤ room_1.slots := ⟨by omega, by omega⟩
  refine lv_aload_n hx hb dL_law_1024 rfl (lv_at hl 1 rfl) ?_
  refine lv_aload_n hx hb dL_law_1025 rfl (lv_at hl 0 rfl) ?_
  refine lv_iload hx hb dL_law_1026 (lv_at hl 4 rfl) ?_
  refine lv_iconst (v := (1 : Int32)) hx hb dL_law_1028 (by decide) ?_
  refine lv_iadd hx hb dL_law_1029 ?_
  refine va_sld hx hb hX hbl hbA hS hi1 dL_law_1030 ?_
  obtain ⟨r, τ1, hf0, hf1, hR⟩ := pu_count hR (xs (x4 + (1 : Int32)).toNatClampNeg)
  refine cl0Ri (As := [.int (xs (x4 + (1 : Int32)).toNatClampNeg)]) (rest := []) ⟨hx, hb, hml, hown, hts⟩ (mX0_count l D kc0 q0 σ (xs (x4 + (1 : Int32)).toNatClampNeg) _ hf0) (cwV 1 hts gL_law_X0_count rfl rfl rfl (by decide +kernel) ⟨Nat.le_of_ble_eq_true rfl, Nat.le_of_ble_eq_true rfl⟩) hK hP rfl hl.1 (Nat.le_of_ble_eq_true rfl) dL_law_1031 hcs ?_
  refine lv_aload_n hx hb dL_law_1034 rfl (lv_at hl 2 rfl) ?_
  refine lv_aload_n hx hb dL_law_1035 rfl (lv_at hl 0 rfl) ?_
  refine lv_iload hx hb dL_law_1036 (lv_at hl 4 rfl) ?_
  refine lv_iconst (v := (1 : Int32)) hx hb dL_law_1038 (by decide) ?_
  refine lv_iadd hx hb dL_law_1039 ?_
  refine va_sld hx hb hX hbl hbA hS hi1 dL_law_1040 ?_
  refine cl1Mi (As := [.int (xs (x4 + (1 : Int32)).toNatClampNeg)]) (rest := [.int r]) ⟨hx, hb, hml, hown, hts⟩ (mX1_count l D kc1 q1 τ (xs (x4 + (1 : Int32)).toNatClampNeg) _ hf1) (cwV 1 hts gL_law_X1_count rfl rfl rfl (by decide +kernel) ⟨Nat.le_of_ble_eq_true rfl, Nat.le_of_ble_eq_true rfl⟩) hK hP hD hS hA rfl hl.1 (Nat.le_of_ble_eq_true rfl) dL_law_1041 hcs (fun H locs hP hD hS => ?_)
  refine lv_icmp_eq (tgt := 1049) hx hb dL_law_1044 (by decide) (fun c7 => ?_) (fun c7 => ?_)
  · refine W.widen (k := cells + 1) (n := slots + 6) (by omega) (by omega) ?_
    exact hnext σ τ1 o H locs ls hR hP hD hS hl
  · exact absurd rfl c7
