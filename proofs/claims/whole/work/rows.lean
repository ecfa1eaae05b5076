section
-- ===== PART A: goes FIRST, ahead of the names: the tables' words, and 'selects' of the private methods out of them =====
/-- a private method of a class that the tables say can be made, by its rows of tables_1 -/
def lw_okq (q : MethodName × Nat) : Prop := (q.1.cls ≠ "java/lang/invoke/MethodHandle" ∧ q.1.cls ≠ "java/lang/invoke/VarHandle") ∧ Cond.instantiable q.1.cls q.2 ∈ tables_1 ∧ Cond.privateMethod q.1 ∈ tables_1 ∧ Cond.instanceMethod q.1 ∈ tables_1
theorem lw_p0 : lw_okq (⟨"ExactShares", "keep", "(JJ)I"⟩, 13) := ⟨⟨by decide +kernel, by decide +kernel⟩, List.mem_of_getElem? (i := 10) (by decide +kernel), List.mem_of_getElem? (i := 67) (by decide +kernel), List.mem_of_getElem? (i := 68) (by decide +kernel)⟩
theorem lw_p1 : lw_okq (⟨"ExactShares", "isFull", "()Z"⟩, 13) := ⟨⟨by decide +kernel, by decide +kernel⟩, List.mem_of_getElem? (i := 10) (by decide +kernel), List.mem_of_getElem? (i := 71) (by decide +kernel), List.mem_of_getElem? (i := 72) (by decide +kernel)⟩
theorem lw_p2 : lw_okq (⟨"ExactShares", "isNumber", "(I)Z"⟩, 13) := ⟨⟨by decide +kernel, by decide +kernel⟩, List.mem_of_getElem? (i := 10) (by decide +kernel), List.mem_of_getElem? (i := 88) (by decide +kernel), List.mem_of_getElem? (i := 89) (by decide +kernel)⟩
theorem lw_p3 : lw_okq (⟨"ExactShares", "keepSum", "(JJJJ)I"⟩, 13) := ⟨⟨by decide +kernel, by decide +kernel⟩, List.mem_of_getElem? (i := 10) (by decide +kernel), List.mem_of_getElem? (i := 92) (by decide +kernel), List.mem_of_getElem? (i := 93) (by decide +kernel)⟩
theorem lw_p4 : lw_okq (⟨"ExactShares", "keepUnlessWide", "(JJ)I"⟩, 13) := ⟨⟨by decide +kernel, by decide +kernel⟩, List.mem_of_getElem? (i := 10) (by decide +kernel), List.mem_of_getElem? (i := 103) (by decide +kernel), List.mem_of_getElem? (i := 104) (by decide +kernel)⟩
theorem lw_p5 : lw_okq (⟨"ExactShares", "keepProduct", "(JJJJ)I"⟩, 13) := ⟨⟨by decide +kernel, by decide +kernel⟩, List.mem_of_getElem? (i := 10) (by decide +kernel), List.mem_of_getElem? (i := 107) (by decide +kernel), List.mem_of_getElem? (i := 108) (by decide +kernel)⟩
theorem lw_p6 : lw_okq (⟨"ExactShares", "keepQuotient", "(II)I"⟩, 13) := ⟨⟨by decide +kernel, by decide +kernel⟩, List.mem_of_getElem? (i := 10) (by decide +kernel), List.mem_of_getElem? (i := 111) (by decide +kernel), List.mem_of_getElem? (i := 112) (by decide +kernel)⟩
theorem lw_p7 : lw_okq (⟨"ExactShares", "keepSimplest", "(JJJJI)I"⟩, 13) := ⟨⟨by decide +kernel, by decide +kernel⟩, List.mem_of_getElem? (i := 10) (by decide +kernel), List.mem_of_getElem? (i := 137) (by decide +kernel), List.mem_of_getElem? (i := 138) (by decide +kernel)⟩
theorem lw_p8 : lw_okq (⟨"ExactShares", "keepNearest", "(JJI)I"⟩, 13) := ⟨⟨by decide +kernel, by decide +kernel⟩, List.mem_of_getElem? (i := 10) (by decide +kernel), List.mem_of_getElem? (i := 146) (by decide +kernel), List.mem_of_getElem? (i := 147) (by decide +kernel)⟩
theorem lw_p9 : lw_okq (⟨"ExactShares", "isValue", "(II)Z"⟩, 13) := ⟨⟨by decide +kernel, by decide +kernel⟩, List.mem_of_getElem? (i := 10) (by decide +kernel), List.mem_of_getElem? (i := 180) (by decide +kernel), List.mem_of_getElem? (i := 181) (by decide +kernel)⟩
theorem lw_p10 : lw_okq (⟨"ExactShares", "sumOf", "(I)J"⟩, 13) := ⟨⟨by decide +kernel, by decide +kernel⟩, List.mem_of_getElem? (i := 10) (by decide +kernel), List.mem_of_getElem? (i := 189) (by decide +kernel), List.mem_of_getElem? (i := 190) (by decide +kernel)⟩
theorem lw_p11 : lw_okq (⟨"ExactShares", "giveByRemainders", "([JIJ)V"⟩, 13) := ⟨⟨by decide +kernel, by decide +kernel⟩, List.mem_of_getElem? (i := 10) (by decide +kernel), List.mem_of_getElem? (i := 193) (by decide +kernel), List.mem_of_getElem? (i := 194) (by decide +kernel)⟩
theorem lw_p12 : lw_okq (⟨"ExactShares", "firstGreatestRemainder", "()I"⟩, 13) := ⟨⟨by decide +kernel, by decide +kernel⟩, List.mem_of_getElem? (i := 10) (by decide +kernel), List.mem_of_getElem? (i := 197) (by decide +kernel), List.mem_of_getElem? (i := 198) (by decide +kernel)⟩
theorem lw_p13 : lw_okq (⟨"ExactShares", "giveOneByOne", "([JII)V"⟩, 13) := ⟨⟨by decide +kernel, by decide +kernel⟩, List.mem_of_getElem? (i := 10) (by decide +kernel), List.mem_of_getElem? (i := 201) (by decide +kernel), List.mem_of_getElem? (i := 202) (by decide +kernel)⟩
theorem lw_p14 : lw_okq (⟨"ExactShares", "countSeated", "()I"⟩, 13) := ⟨⟨by decide +kernel, by decide +kernel⟩, List.mem_of_getElem? (i := 10) (by decide +kernel), List.mem_of_getElem? (i := 205) (by decide +kernel), List.mem_of_getElem? (i := 206) (by decide +kernel)⟩
theorem lw_p15 : lw_okq (⟨"java/lang/Throwable", "fillInStackTrace", "(I)Ljava/lang/Throwable;"⟩, 6) := ⟨⟨by decide +kernel, by decide +kernel⟩, List.mem_of_getElem? (i := 289) (by decide +kernel), List.mem_of_getElem? (i := 287) (by decide +kernel), List.mem_of_getElem? (i := 288) (by decide +kernel)⟩
def lw_privs_1 : List (MethodName × Nat) := [(⟨"ExactShares", "keep", "(JJ)I"⟩, 13), (⟨"ExactShares", "isFull", "()Z"⟩, 13), (⟨"ExactShares", "isNumber", "(I)Z"⟩, 13), (⟨"ExactShares", "keepSum", "(JJJJ)I"⟩, 13), (⟨"ExactShares", "keepUnlessWide", "(JJ)I"⟩, 13), (⟨"ExactShares", "keepProduct", "(JJJJ)I"⟩, 13), (⟨"ExactShares", "keepQuotient", "(II)I"⟩, 13), (⟨"ExactShares", "keepSimplest", "(JJJJI)I"⟩, 13), (⟨"ExactShares", "keepNearest", "(JJI)I"⟩, 13), (⟨"ExactShares", "isValue", "(II)Z"⟩, 13), (⟨"ExactShares", "sumOf", "(I)J"⟩, 13), (⟨"ExactShares", "giveByRemainders", "([JIJ)V"⟩, 13), (⟨"ExactShares", "firstGreatestRemainder", "()I"⟩, 13), (⟨"ExactShares", "giveOneByOne", "([JII)V"⟩, 13), (⟨"ExactShares", "countSeated", "()I"⟩, 13), (⟨"java/lang/Throwable", "fillInStackTrace", "(I)Ljava/lang/Throwable;"⟩, 6)]
theorem lw_r1 : ∀ q ∈ lw_privs_1, lw_okq q := List.forall_mem_cons.mpr ⟨lw_p0, List.forall_mem_cons.mpr ⟨lw_p1, List.forall_mem_cons.mpr ⟨lw_p2, List.forall_mem_cons.mpr ⟨lw_p3, List.forall_mem_cons.mpr ⟨lw_p4, List.forall_mem_cons.mpr ⟨lw_p5, List.forall_mem_cons.mpr ⟨lw_p6, List.forall_mem_cons.mpr ⟨lw_p7, List.forall_mem_cons.mpr ⟨lw_p8, List.forall_mem_cons.mpr ⟨lw_p9, List.forall_mem_cons.mpr ⟨lw_p10, List.forall_mem_cons.mpr ⟨lw_p11, List.forall_mem_cons.mpr ⟨lw_p12, List.forall_mem_cons.mpr ⟨lw_p13, List.forall_mem_cons.mpr ⟨lw_p14, List.forall_mem_cons.mpr ⟨lw_p15, fun _ h => absurd h List.not_mem_nil⟩⟩⟩⟩⟩⟩⟩⟩⟩⟩⟩⟩⟩⟩⟩⟩
theorem lw_p16 : lw_okq (⟨"ExactSharesModel", "kept", "(JJ)I"⟩, 17) := ⟨⟨by decide +kernel, by decide +kernel⟩, List.mem_of_getElem? (i := 327) (by decide +kernel), List.mem_of_getElem? (i := 394) (by decide +kernel), List.mem_of_getElem? (i := 395) (by decide +kernel)⟩
theorem lw_p17 : lw_okq (⟨"ExactSharesModel", "isNumber", "(I)Z"⟩, 17) := ⟨⟨by decide +kernel, by decide +kernel⟩, List.mem_of_getElem? (i := 327) (by decide +kernel), List.mem_of_getElem? (i := 413) (by decide +kernel), List.mem_of_getElem? (i := 414) (by decide +kernel)⟩
theorem lw_p18 : lw_okq (⟨"ExactSharesModel", "divided", "(II)I"⟩, 17) := ⟨⟨by decide +kernel, by decide +kernel⟩, List.mem_of_getElem? (i := 327) (by decide +kernel), List.mem_of_getElem? (i := 417) (by decide +kernel), List.mem_of_getElem? (i := 418) (by decide +kernel)⟩
theorem lw_p19 : lw_okq (⟨"ExactSharesModel", "multiplied", "(JJJJ)I"⟩, 17) := ⟨⟨by decide +kernel, by decide +kernel⟩, List.mem_of_getElem? (i := 327) (by decide +kernel), List.mem_of_getElem? (i := 421) (by decide +kernel), List.mem_of_getElem? (i := 422) (by decide +kernel)⟩
theorem lw_p20 : lw_okq (⟨"ExactSharesModel", "times", "(JJ)J"⟩, 17) := ⟨⟨by decide +kernel, by decide +kernel⟩, List.mem_of_getElem? (i := 327) (by decide +kernel), List.mem_of_getElem? (i := 425) (by decide +kernel), List.mem_of_getElem? (i := 426) (by decide +kernel)⟩
theorem lw_p21 : lw_okq (⟨"ExactSharesModel", "grew", "()I"⟩, 17) := ⟨⟨by decide +kernel, by decide +kernel⟩, List.mem_of_getElem? (i := 327) (by decide +kernel), List.mem_of_getElem? (i := 430) (by decide +kernel), List.mem_of_getElem? (i := 431) (by decide +kernel)⟩
theorem lw_p22 : lw_okq (⟨"ExactSharesModel", "summed", "(JJJJ)I"⟩, 17) := ⟨⟨by decide +kernel, by decide +kernel⟩, List.mem_of_getElem? (i := 327) (by decide +kernel), List.mem_of_getElem? (i := 434) (by decide +kernel), List.mem_of_getElem? (i := 435) (by decide +kernel)⟩
theorem lw_p23 : lw_okq (⟨"ExactSharesModel", "plus", "(JJ)J"⟩, 17) := ⟨⟨by decide +kernel, by decide +kernel⟩, List.mem_of_getElem? (i := 327) (by decide +kernel), List.mem_of_getElem? (i := 438) (by decide +kernel), List.mem_of_getElem? (i := 439) (by decide +kernel)⟩
theorem lw_p24 : lw_okq (⟨"ExactSharesModel", "ordered", "(II)I"⟩, 17) := ⟨⟨by decide +kernel, by decide +kernel⟩, List.mem_of_getElem? (i := 327) (by decide +kernel), List.mem_of_getElem? (i := 455) (by decide +kernel), List.mem_of_getElem? (i := 456) (by decide +kernel)⟩
theorem lw_p25 : lw_okq (⟨"ExactSharesModel", "compared", "(JJJJ)I"⟩, 17) := ⟨⟨by decide +kernel, by decide +kernel⟩, List.mem_of_getElem? (i := 327) (by decide +kernel), List.mem_of_getElem? (i := 459) (by decide +kernel), List.mem_of_getElem? (i := 460) (by decide +kernel)⟩
theorem lw_p26 : lw_okq (⟨"ExactSharesModel", "between", "(IIZ)I"⟩, 17) := ⟨⟨by decide +kernel, by decide +kernel⟩, List.mem_of_getElem? (i := 327) (by decide +kernel), List.mem_of_getElem? (i := 472) (by decide +kernel), List.mem_of_getElem? (i := 473) (by decide +kernel)⟩
theorem lw_p27 : lw_okq (⟨"ExactSharesModel", "sumOf", "(I)J"⟩, 17) := ⟨⟨by decide +kernel, by decide +kernel⟩, List.mem_of_getElem? (i := 327) (by decide +kernel), List.mem_of_getElem? (i := 509) (by decide +kernel), List.mem_of_getElem? (i := 510) (by decide +kernel)⟩
theorem lw_p28 : lw_okq (⟨"ExactSharesModel", "power", "(JI)J"⟩, 17) := ⟨⟨by decide +kernel, by decide +kernel⟩, List.mem_of_getElem? (i := 327) (by decide +kernel), List.mem_of_getElem? (i := 528) (by decide +kernel), List.mem_of_getElem? (i := 529) (by decide +kernel)⟩
def lw_privs_2 : List (MethodName × Nat) := [(⟨"ExactSharesModel", "kept", "(JJ)I"⟩, 17), (⟨"ExactSharesModel", "isNumber", "(I)Z"⟩, 17), (⟨"ExactSharesModel", "divided", "(II)I"⟩, 17), (⟨"ExactSharesModel", "multiplied", "(JJJJ)I"⟩, 17), (⟨"ExactSharesModel", "times", "(JJ)J"⟩, 17), (⟨"ExactSharesModel", "grew", "()I"⟩, 17), (⟨"ExactSharesModel", "summed", "(JJJJ)I"⟩, 17), (⟨"ExactSharesModel", "plus", "(JJ)J"⟩, 17), (⟨"ExactSharesModel", "ordered", "(II)I"⟩, 17), (⟨"ExactSharesModel", "compared", "(JJJJ)I"⟩, 17), (⟨"ExactSharesModel", "between", "(IIZ)I"⟩, 17), (⟨"ExactSharesModel", "sumOf", "(I)J"⟩, 17), (⟨"ExactSharesModel", "power", "(JI)J"⟩, 17)]
theorem lw_r2 : ∀ q ∈ lw_privs_2, lw_okq q := List.forall_mem_cons.mpr ⟨lw_p16, List.forall_mem_cons.mpr ⟨lw_p17, List.forall_mem_cons.mpr ⟨lw_p18, List.forall_mem_cons.mpr ⟨lw_p19, List.forall_mem_cons.mpr ⟨lw_p20, List.forall_mem_cons.mpr ⟨lw_p21, List.forall_mem_cons.mpr ⟨lw_p22, List.forall_mem_cons.mpr ⟨lw_p23, List.forall_mem_cons.mpr ⟨lw_p24, List.forall_mem_cons.mpr ⟨lw_p25, List.forall_mem_cons.mpr ⟨lw_p26, List.forall_mem_cons.mpr ⟨lw_p27, List.forall_mem_cons.mpr ⟨lw_p28, fun _ h => absurd h List.not_mem_nil⟩⟩⟩⟩⟩⟩⟩⟩⟩⟩⟩⟩⟩
def lw_privs : List (MethodName × Nat) := lw_privs_1 ++ (lw_privs_2)
def lw_tbl : List Cond := k2_sels lw_privs ++ tables_1
theorem lw_privs_ok : ∀ q ∈ lw_privs, lw_okq q := by
  show ∀ q ∈ lw_privs_1 ++ (lw_privs_2), lw_okq q
  exact List.forall_mem_append.mpr ⟨lw_r1, lw_r2⟩
-- ===== end of PART A; then your names; then what follows =====
end
section
/-! ===== BEGIN words of one list among another's, by their places ===== -/
theorem goodIn_r {big : List Cond} (ws : List Cond) (ps : List Nat) (hp : ws = ps.filterMap (fun i => big[i]?)) (h : ws.all goodWord = true) : GoodIn big ws := by
  intro w hw
  have h1 := List.all_eq_true.mp h w hw
  rw [hp] at hw
  obtain ⟨i, -, hi⟩ := List.mem_filterMap.mp hw
  have hm : w ∈ big := by first | exact List.mem_of_getElem? hi | exact List.getElem?_mem hi
  exact ⟨hm, good_of_word h1⟩
theorem goodIn_app {big a b : List Cond} (ha : GoodIn big a) (hb : GoodIn big b) : GoodIn big (a ++ b) := fun w h => (List.mem_append.mp h).elim (ha w) (hb w)
theorem goodIn_ca {big a b : List Cond} {c : Cond} (ha : GoodIn big (c :: a)) (hb : GoodIn big b) : GoodIn big (c :: (a ++ b)) := fun w h => (List.mem_cons.mp h).elim (fun e => ha w (List.mem_cons.mpr (Or.inl e))) (fun h => (List.mem_append.mp h).elim (fun h => ha w (List.mem_cons.mpr (Or.inr h))) (hb w))
theorem goodIn_sub {big ws : List Cond} (hm : ∀ w ∈ ws, w ∈ big) (h : ws.all goodWord = true) : GoodIn big ws := fun w hw => ⟨hm w hw, good_of_word (List.all_eq_true.mp h w hw)⟩
/-! ===== END ===== -/

def va_AOA (t : FieldType) (U : State) : Prop := (Cond.arrayOver (.array t)).before #[] U = true
theorem va_AOA.use {t : FieldType} {A : Array Value} {U : State} (h : va_AOA t U) : (Cond.arrayOver (.array t)).before A U = true := h
/-! ===== BEGIN new T[n][m]: the outer array a place, the inner ones among the pooled ===== -/
/-- f, but v at every address of l -/
def vr_up {α : Type} (f : Nat → α) (l : List Nat) (v : α) : Nat → α := fun a => if a ∈ l then v else f a
theorem vr_up_in {α : Type} {f : Nat → α} {l : List Nat} {v : α} {a : Nat} (h : a ∈ l) : vr_up f l v a = v := if_pos h
theorem vr_up_ne {α : Type} {f : Nat → α} {l : List Nat} {v : α} {a : Nat} (h : a ∉ l) : vr_up f l v a = f a := if_neg h
theorem vr_rows {L l : List Nat} {f : Nat → va_E} {e : va_E} (h : ∀ a, a ∈ l → a ∉ L) : va_pl L f ++ l.map (fun a => (a, e)) = va_pl (L ++ l) (vr_up f l e) := by
  unfold va_pl
  rw [List.map_append]
  congr 1
  · apply List.map_congr_left
    intro a ha
    rw [vr_up_ne (fun q => h a q ha)]
  · apply List.map_congr_left
    intro a ha
    rw [vr_up_in ha]
theorem vr_lay {X rows : va_W} {x : Nat × va_E} {pl : va_W} {D : va_G} {cl : List vw_C} {H : Heap} (hP : va_P D cl (((X ++ pl) ++ [x]) ++ rows) H) : va_P D cl ((X ++ [x]) ++ (pl ++ rows)) H := by
  rw [List.append_assoc (X ++ pl)] at hP
  have h := va_P.swap hP
  rw [← List.append_assoc X] at h
  have h2 := va_P.swap h
  rw [List.append_assoc (X ++ [x])] at h2
  exact h2
theorem vr_layD {X rows : va_W} {x : Nat × va_E} {pl : va_W} {A : Nat → Prop} (hD : va_D A (((X ++ pl) ++ [x]) ++ rows)) : va_D A ((X ++ [x]) ++ (pl ++ rows)) := by
  rw [List.append_assoc (X ++ pl)] at hD
  have h := va_D.swap hD
  rw [← List.append_assoc X] at h
  have h2 := va_D.swap h
  rw [List.append_assoc (X ++ [x])] at h2
  exact h2
theorem vr_outer (c : ClassId) (N h0 : Nat) : ∀ i : Nat, Jvm.Free.Multi.outerC c N h0 i = arrV c N (fun j => va_rf (if j < i then some (h0 + 1 + j) else none))
  | 0 => by
    show ({ cls := c, slots := Array.replicate N .null, vm := .none } : Cell) = _
    rw [arrV_new]
    refine congrArg (arrV c N) (funext fun j => ?_)
    simp [va_rf]
  | i + 1 => by
    show (Jvm.Free.Multi.outerC c N h0 i).setSlot i (.ref (h0 + 1 + i)) = _
    rw [vr_outer c N h0 i, arrV_store]
    refine congrArg (arrV c N) (funext fun j => ?_)
    by_cases e : j = i
    · subst e
      simp [updV, va_rf]
    · by_cases h : j < i
      · simp [updV, e, h, Nat.lt_succ_of_lt h]
      · simp [updV, e, h, show ¬ j < i + 1 by omega]
section VGM
variable {p : Program} {l : Launch} {e : Env} {R : Room} {s : State} {m : MethodId} {args : Array Value} {below : List Frame} {meth : Method} {c : Code} {H : Heap} {locs : List Loc} {cells slots : Nat} {Q : State → Prop}
variable {cc : ByteArray} {pc : Nat} {ls : Array Slot} {rest : List Value} {D : va_G} {cl : List vw_C} {A : Nat → Prop} {a : Nat} {tys : List (ClassId × FieldType)} {ws : va_W} {H0 : Heap}
theorem va_mna {X : va_W} {L : List Nat} {f : Nat → va_E} {cc : ByteArray} (hexec : p.tables.exec = Jvm.exec) (hb : c.code = cc) {own : String} {index : Nat} {ty : FieldType} {cy : ClassId} (hown : s.vm.findClass own = some m.cls) (hclink : (Cond.classLink own index ("[" ++ (FieldType.array ty).toString)).before args s = true) (hover : va_AOA ty s) (harr : (Cond.arrayClass ty).before args s = true) (hcy : s.vm.findClass (FieldType.array ty).toString = some cy)
    (hK : va_K D cl tys s) (hP : va_P D cl (X ++ va_pl L f) H) (hD : va_D A (X ++ va_pl L f)) (hS : va_S A H0 H locs) (hA : ∀ q, H0.size ≤ q → A q) {n k : Int32} {N' K' : Nat} {z : vp_A} (hn : ¬ n < 0) (hk : ¬ k < 0) (hN : n.toNatClampNeg = N') (hM : k.toNatClampNeg = K')
    (hb1 : N' * 4 ≤ 536870912) (hb2 : K' * componentBytes ty ≤ 536870912) (hb3 : K' ≤ 536870912) (hdf : fits ty (defaultValue ty) = true) (hdd : (defaultValue ty).isDefault = true) (hcells : cells + (1 + N') ≤ R.cells) (hslots : slots + (N' + N' * K') ≤ R.slots) (hz : ∀ c : ClassId, Jvm.Free.Multi.innerC c K' (defaultValue ty) = vp_cell c z) (hdg : decode cc pc = .ok (.multianewarray index 2, 4))
    (kk : ∀ (q : Nat) (r : Nat → Nat) (cA : ClassId) (H1 : Heap), (∀ i j : Nat, i < N' → j < N' → r i = r j → i = j) → (∀ i : Nat, i < N' → r i ∉ L) → va_K D cl (tys ++ [(cA, .array ty)]) s →
      va_P D cl ((X ++ [(q, .inl (cA, N', .inr (.inr (.inr (.inr (fun i => if i < N' then some (r i) else none))))))]) ++ va_pl (L ++ (List.range N').map r) (vr_up f ((List.range N').map r) (.inl (cy, z)))) H1 → va_D A ((X ++ [(q, .inl (cA, N', .inr (.inr (.inr (.inr (fun i => if i < N' then some (r i) else none))))))]) ++ va_pl (L ++ (List.range N').map r) (vr_up f ((List.range N').map r) (.inl (cy, z)))) → va_S A H0 H1 locs →
      W p l e R s m args below meth c H1 locs (cells + 1 + N') (slots + N' + N' * K') Q (F0 m (pc + 4) ls (.ref q :: rest))) : W p l e R s m args below meth c H locs cells slots Q (F0 m pc ls (.int k :: .int n :: rest)) := by
  subst hN
  subst hM
  intro T hT Xs
  obtain ⟨vm₁, cA, comp, -, fA, fC, hO, -, X', step⟩ := Xs.multianewarray2F hexec hown hclink (va_AOA.use hover) harr (g := F0 m pc ls (.int k :: .int n :: rest)) rfl (by rw [hb]; exact hdg) rfl hn hk hb1 hb2 hb3 hdf hdd hcells hslots
  have ec : some cy = some comp := hcy.symm.trans fC
  cases ec
  generalize hF : Jvm.Free.Multi.fill (T.setVm vm₁) cA cy n.toNatClampNeg k.toNatClampNeg (defaultValue ty) n.toNatClampNeg = F at X' step
  have hTh : (T.setVm vm₁).heap = H := hT
  obtain ⟨f1, f2, -, -⟩ := Jvm.Free.Multi.fill_facts (T.setVm vm₁) cA cy n.toNatClampNeg k.toNatClampNeg (defaultValue ty) n.toNatClampNeg
  rw [hF, hTh] at f1 f2
  have hold : ∀ x : Nat, x < H.size → F.heap[x]? = H[x]? := fun x hx => by
    have := Jvm.Free.Multi.fill_old (T.setVm vm₁) cA cy n.toNatClampNeg k.toNatClampNeg (defaultValue ty) (a := x) (by rw [hTh]; exact hx) n.toNatClampNeg
    rw [hF, hTh] at this
    exact this
  have hrow : ∀ j : Nat, j < n.toNatClampNeg → F.heap[H.size + 1 + j]? = some (vp_cell cy z) := fun j hj => by
    have := Jvm.Free.Multi.fill_inner (T.setVm vm₁) cA cy n.toNatClampNeg k.toNatClampNeg (defaultValue ty) n.toNatClampNeg j hj
    rw [hF, hTh, hz] at this
    exact this
  have hout : Jvm.Free.Multi.outerC cA n.toNatClampNeg H.size n.toNatClampNeg = vp_cell cA (n.toNatClampNeg, .inr (.inr (.inr (.inr (fun i => if i < n.toNatClampNeg then some (H.size + 1 + i) else none))))) := by
    rw [vp_cell_q]
    exact vr_outer cA n.toNatClampNeg H.size n.toNatClampNeg
  rw [hout] at f2
  have hlt : ∀ a, a ∈ L → a < H.size := fun a ha => by
    obtain ⟨k9, hk9⟩ := va_pl_get (X := X) (f := f) ha
    exact (hP k9 _ hk9).lt
  have hnl : ∀ i : Nat, i < n.toNatClampNeg → H.size + 1 + i ∉ L := fun i _ h => by
    have := hlt _ h
    omega
  have hnm : ∀ a, a ∈ (List.range n.toNatClampNeg).map (fun i => H.size + 1 + i) → a ∉ L := fun a ha h => by
    obtain ⟨i, -, rfl⟩ := List.mem_map.mp ha
    have := hlt _ h
    omega
  have hP0 : va_P D cl (X ++ va_pl L f) F.heap := hP.kept (fun k9 x hx => hold x.1 ((hP k9 x hx).lt))
  have hP1 : va_P D cl ((X ++ va_pl L f) ++ [(H.size, .inl (cA, n.toNatClampNeg, .inr (.inr (.inr (.inr (fun i => if i < n.toNatClampNeg then some (H.size + 1 + i) else none))))))]) F.heap := hP0.app (fun k9 x hx => by
    have h0 : k9 < 1 := (List.getElem?_eq_some_iff.mp hx).1
    rw [show k9 = 0 by omega] at hx
    cases hx
    exact f2)
  have hP2 : va_P D cl (((X ++ va_pl L f) ++ [(H.size, .inl (cA, n.toNatClampNeg, .inr (.inr (.inr (.inr (fun i => if i < n.toNatClampNeg then some (H.size + 1 + i) else none))))))]) ++ ((List.range n.toNatClampNeg).map (fun i => H.size + 1 + i)).map (fun a => (a, .inl (cy, z)))) F.heap := hP1.app (fun k9 x hx => by
    obtain ⟨a, ha, rfl⟩ := List.mem_map.mp (List.mem_of_getElem? hx)
    obtain ⟨i, hi, rfl⟩ := List.mem_map.mp ha
    exact hrow i (List.mem_range.mp hi))
  have hD2 : va_D A (((X ++ va_pl L f) ++ [(H.size, .inl (cA, n.toNatClampNeg, .inr (.inr (.inr (.inr (fun i => if i < n.toNatClampNeg then some (H.size + 1 + i) else none))))))]) ++ ((List.range n.toNatClampNeg).map (fun i => H.size + 1 + i)).map (fun a => (a, .inl (cy, z)))) := by
    have hD1 := hD.push (e := .inl (cA, n.toNatClampNeg, .inr (.inr (.inr (.inr (fun i => if i < n.toNatClampNeg then some (H.size + 1 + i) else none)))))) hP rfl (hA _ hS.1)
    generalize hW1 : (X ++ va_pl L f) ++ [(H.size, .inl (cA, n.toNatClampNeg, .inr (.inr (.inr (.inr (fun i => if i < n.toNatClampNeg then some (H.size + 1 + i) else none))))))] = W1 at hD1 hP1 ⊢
    have hle : ∀ (k9 : Nat) (x : Nat × va_E), W1[k9]? = some x → x.1 ≤ H.size := fun k9 x hx => by
      rw [← hW1] at hx
      by_cases hl : k9 < (X ++ va_pl L f).length
      · rw [List.getElem?_append_left hl] at hx
        exact Nat.le_of_lt ((hP k9 x hx).lt)
      · rw [List.getElem?_append_right (by omega)] at hx
        have h0 : k9 - (X ++ va_pl L f).length < 1 := (List.getElem?_eq_some_iff.mp hx).1
        rw [show k9 - (X ++ va_pl L f).length = 0 by omega] at hx
        cases hx
        exact Nat.le_refl _
    have hr : ∀ (k9 : Nat) (x : Nat × va_E), (((List.range n.toNatClampNeg).map (fun i => H.size + 1 + i)).map (fun a => ((a, .inl (cy, z)) : Nat × va_E)))[k9]? = some x → x.1 = H.size + 1 + k9 := fun k9 x hx => by
      rw [List.getElem?_map, List.getElem?_map] at hx
      by_cases h9 : k9 < n.toNatClampNeg
      · rw [List.getElem?_range h9] at hx
        cases hx
        rfl
      · have hn0 : (List.range n.toNatClampNeg)[k9]? = none := List.getElem?_eq_none (by rw [List.length_range]; omega)
        rw [hn0] at hx
        cases hx
    refine ⟨fun i j x y hi hj hxy => ?_, fun k9 x hx => ?_⟩
    · by_cases h1 : i < W1.length <;> by_cases h2 : j < W1.length
      · rw [List.getElem?_append_left h1] at hi
        rw [List.getElem?_append_left h2] at hj
        exact hD1.1 i j x y hi hj hxy
      · rw [List.getElem?_append_left h1] at hi
        rw [List.getElem?_append_right (by omega)] at hj
        have := hle _ _ hi
        have := hr _ _ hj
        omega
      · rw [List.getElem?_append_right (by omega)] at hi
        rw [List.getElem?_append_left h2] at hj
        have := hle _ _ hj
        have := hr _ _ hi
        omega
      · rw [List.getElem?_append_right (by omega)] at hi hj
        have := hr _ _ hi
        have := hr _ _ hj
        omega
    · by_cases h1 : k9 < W1.length
      · rw [List.getElem?_append_left h1] at hx
        exact hD1.2 k9 x hx
      · rw [List.getElem?_append_right (by omega)] at hx
        have := hr _ _ hx
        exact hA _ (by have := hS.1; omega)
  have hAr : ArrOfT s cA (.array ty) := fun N9 z9 => by
    obtain ⟨-, k9, hk9, cm9, hkk9⟩ := (hO 0 0 0).1
    exact ⟨(fun q hq => by cases hq), k9, hk9, cm9, hkk9⟩
  have hK2 : va_K D cl (tys ++ [(cA, .array ty)]) s := ⟨hK.1, fun k9 x hx => by
    by_cases hl : k9 < tys.length
    · rw [List.getElem?_append_left hl] at hx
      exact hK.2 k9 x hx
    · rw [List.getElem?_append_right (by omega)] at hx
      have h0 : k9 - tys.length < 1 := (List.getElem?_eq_some_iff.mp hx).1
      rw [show k9 - tys.length = 0 by omega] at hx
      cases hx
      exact ⟨hAr, fA⟩⟩
  obtain ⟨t, a1, b1⟩ := kk H.size (fun i => H.size + 1 + i) cA F.heap (fun i j _ _ h => by have h9 : H.size + 1 + i = H.size + 1 + j := h; omega) hnl hK2 (by rw [← vr_rows hnm]; exact vr_lay hP2) (by rw [← vr_rows hnm]; exact vr_layD hD2) ⟨by rw [f1]; have := hS.1; omega, fun x h1 h2 => (hold x (Nat.lt_of_lt_of_le h1 hS.1)).trans (hS.2.1 x h1 h2), hS.2.2⟩ F rfl X'
  refine ⟨t, step t ?_, b1⟩
  have e : T.heap.size = H.size := by rw [hT]
  rw [e]
  exact a1
end VGM
/-! ===== END ===== -/

/-! ===== BEGIN exceptions that leave a method, and their catching by the caller (launches without stack traces) ===== -/
section VXA
/-! The laws vx_back, vx_callV, vx_callS, vx_callSW, vx_throw0, vx_throwS follow proofs of the library, with one case more: JvmDerived/Free/Laws.lean (Back.of_free), Shelf42/LK1.lean (callV, callS), Shelf/KitTraced.lean (throwNew0V, throwNewS). -/
/-- where a method has thrown q: the class by its name, the cell, what was written, the world -/
def vx_T (XC : String → State → State → Prop) (st : State) (q : Addr) (t : State) (mc ms : Nat) (free : Addr → Prop) : Prop :=
  ∃ (E : String) (ce : Cell) (L : List Loc), XC E st t ∧ t.heap[q]? = some ce ∧ ce.vm = .none ∧ st.vm.findClass E = some ce.cls ∧ st.WarmedH t.vm ∧ st.sameButNew ({ t with vm := st.vm } : State) L mc ms ∧ ∀ z ∈ L, free z.base
def vx_Q (Qc : Array Value → State → Outcome → State → Prop) (XC : String → State → State → Prop) (mc ms : Nat) (free : Addr → Prop) : Array Value → State → Outcome → State → Prop := fun a st o t =>
  (Qc a st o t ∧ ∃ L, FrameEnd st o t L mc ms ∧ ∀ q ∈ L, free q.base) ∨ ∃ q, o = .threw q ∧ vx_T XC st q t mc ms free
/-- a callee that returns or throws -/
def vx_Met (l : Launch) (y : MethodName) (ws : List Cond) (rm : Room) (Pc : Array Value → State → Prop) (Qc : Array Value → State → Outcome → State → Prop) (XC : String → State → State → Prop) (mc ms : Nat) (free : Addr → Prop) : Prop :=
  MetFree l y (headSpec ws rm) Pc (fun _ _ _ _ _ => True) (vx_Q Qc XC mc ms free)
def vx_Post (XC : String → State → State → Prop) (mc ms : Nat) (free : Addr → Prop) : Pt → Array Value → Addr → Pt → Prop := fun A a q B =>
  ∃ (g : JFrame) (mk : MethodId) (t : State) (L : List Loc) (E : String) (ce : Cell), B.U.heap = t.heap ∧ B.U.vm = t.vm ∧ XC E (A.U.calling g mk a) t ∧ t.heap[q]? = some ce ∧ ce.vm = .none ∧ A.U.vm.findClass E = some ce.cls ∧ B.locs = A.locs ++ L ∧ (∀ z ∈ L, free z.base) ∧ B.cells = A.cells + mc ∧ B.slots = A.slots + ms
def vx_Back (l : Launch) (R : Room) (p : Program) (e : Env) (below : List Frame) (s : State) (sargs : Array Value) (y : MethodName) (len W9 : Nat)
    (Pre : Pt → Array Value → Prop) (Post : Pt → Array Value → Option Value → Pt → Prop) (PostX : Pt → Array Value → Addr → Pt → Prop) : Prop :=
  ∀ (m : MethodId) (meth : Method) (c : Code) (A : Pt) (g : JFrame) (ig : Instr) (mk : MethodId) (a : Array Value),
    Stand p l e R s m sargs below meth c A.U A.locs A.cells A.slots → g.method = m → g.locals.size = c.maxLocals → decode c.code g.pc = .ok (ig, len) →
    2 * g.monitorRoom + (g.stack.map fun v => v.category).sum ≤ W9 → A.U.methodNamed? y = some mk → Pre A a →
    (∃ (v : Option Value) (B : Pt), Stand p l e R s m sargs below meth c B.U B.locs B.cells B.slots ∧ Post A a v B ∧
      Steps p.tables e below (doInvoke e (A.U.setTop g) [] mk a).1 (B.U.setTop { g with pc := g.pc + len, stack := v.toList ++ g.stack })) ∨
    (∃ (q : Addr) (B : Pt), Stand p l e R s m sargs below meth c B.U B.locs B.cells B.slots ∧ PostX A a q B ∧
      Steps p.tables e below (doInvoke e (A.U.setTop g) [] mk a).1 ((B.U.setTop g).pushFrame (.throwing q)))
section Payer
variable {l : Launch} {R : Room} {p : Program} {e : Env} {below : List Frame} {s : State} {sargs : Array Value} {y : MethodName} {len W9 : Nat}
theorem vx_back {ws : List Cond} {rm : Room} {Pc : Array Value → State → Prop} {Qc : Array Value → State → Outcome → State → Prop} {XC : String → State → State → Prop} {mc ms : Nat} {free : Addr → Prop} {bytes : ByteArray} {maxL : Nat} {ret : Option FieldType}
    (hM : vx_Met l y ws rm Pc Qc XC mc ms free) (hblind : FrameBlind Pc) (hrc : rm.cells = mc) (hrs : rm.slots = ms)
    (hframes : rm.frames + 1 ≤ R.frames) (hlocals : W9 + (maxL + 11) + rm.locals ≤ R.locals)
    (hws : ∀ w ∈ ws, ∀ a' U, s.WarmedH U.vm → w.before a' U = true) (hcode : Cond.code y bytes maxL ret ∈ ws) (hinit : ∀ a' U, s.WarmedH U.vm → (Cond.initialized y.cls).before a' U = true) :
    vx_Back l R p e below s sargs y len W9 (PreOf R mc ms Pc) (PostOf Qc mc ms free) (vx_Post XC mc ms free) := by
  intro m meth c A g ig mk a X hg hsize hdg hW hn hp
  have h1 : (headSpec ws rm).pre.before a A.U = true := atoms_intro fun w hw => hws w hw _ _ X.warmed
  have h2 : (Cond.code y bytes maxL ret).before a A.U = true := hws _ hcode _ _ X.warmed
  have h3 : (Cond.initialized y.cls).before a A.U = true := hinit _ _ X.warmed
  have h4 : A.cells + (headSpec ws rm).room.cells ≤ R.cells := by rw [show (headSpec ws rm).room.cells = mc from hrc]; exact hp.1
  have h5 : A.slots + (headSpec ws rm).room.slots ≤ R.slots := by rw [show (headSpec ws rm).room.slots = ms from hrs]; exact hp.2.1
  have hPc : Pc a (A.U.calling g mk a) := hblind _ _ _ _ hp.2.2
  obtain ⟨U, Ls, c0, s0⟩ := A
  dsimp only [Pt.U, Pt.locs, Pt.cells, Pt.slots] at h1 h2 h3 h4 h5 X hn hPc ⊢
  obtain ⟨methY, cY, hmY, hcY, -, hlY, -, -, -, -⟩ := Cond.code_spec hn h2
  obtain ⟨kY, hkY, -⟩ := className_of_methodNamed hn
  have hinitY : kY.init = .initialized := Cond.initialized_spec (findClass_of_methodNamed hn) hkY h3
  have h : At U g.method c below := by rw [hg]; exact X.here
  have hlocals9 : W9 + (maxL + 11) + (headSpec ws rm).room.locals ≤ R.locals := hlocals
  have happ : (headSpec ws rm).appliesLoose y e.platform (U.calling g mk a) = true :=
    Spec.appliesLoose_calling (g := g) h hdg hn hkY hinitY
      (X.room_calling (g := g) (R' := (headSpec ws rm).room) hsize hmY hcY hframes (by rw [hlY]; omega) h4 h5) h1
  obtain ⟨mid, hmid⟩ := h.above
  have hfr : (U.setTop g).frames = (.java g :: mid) ++ below := by rw [State.frames_setTop' g h.top, hmid]; rfl
  obtain ⟨o, s₂, hsteps, -, hend, hq⟩ := Steps.callFree hM p X.admits X.cas X.clock (acts := []) hfr happ hPc trivial
  have hq' : vx_Q Qc XC mc ms free a (U.calling g mk a) o s₂ := hq
  rw [State.frames_setTop' g h.top] at hend
  obtain ⟨g₀, hg0⟩ := Option.isSome_iff_exists.mp h.top
  obtain ⟨r, hr⟩ := State.topJava?_eq_some.mp hg0
  have hr' : (({ U with heap := s₂.heap, slotsUsed := s₂.slotsUsed } : State).setVm s₂.vm).frames = .java g₀ :: r := hr
  rcases hq' with ⟨hqc, L, hfe, hL⟩ | ⟨q, rfl, E, ce, L, hx, hce, hcv, hcl, hW₂, hsm, hL⟩
  · obtain ⟨⟨v, rfl⟩, hW₂, e2, q2, q3, q4, q5, q6⟩ := id hfe
    have e3 : s₂ = ({ (U.calling g mk a).setFrames s₂.frames with heap := s₂.heap, slotsUsed := s₂.slotsUsed } : State).setVm s₂.vm := by
      have : s₂ = ({ s₂ with vm := (U.calling g mk a).vm } : State).setVm s₂.vm := rfl
      rw [e2] at this
      exact this
    obtain ⟨c₂, i₂, len₂, hc₂, hd₂, hf₂⟩ := hend
    have hW' : U.WarmedH s₂.vm := hW₂
    have hcc : c₂ = c := by
      have h1 : s₂.code? g.method = U.code? g.method := by
        rw [State.code?_eq, State.code?_eq, hW'.alike.method?]
      exact Option.some.inj (hc₂.symm.trans (h1.trans h.code))
    subst hcc
    have hlen : len₂ = len := by rw [hdg] at hd₂; cases hd₂; rfl
    subst hlen
    have hs₂ : s₂ = (({ U with heap := s₂.heap, slotsUsed := s₂.slotsUsed } : State).setVm s₂.vm).setTop { g with pc := g.pc + len₂, stack := v.toList ++ g.stack } := by
      refine e3.trans ?_
      rw [hf₂, State.calling_eq h.top, State.setFrames_setFrames, State.setTop_of_frames _ hr', hr]
      rfl
    have hsame : U.sameButNew ({ U with heap := s₂.heap, slotsUsed := s₂.slotsUsed } : State) L mc ms := by
      refine ⟨?_, q2, q3, q4, q5, q6⟩
      obtain ⟨t, ht, -⟩ := State.frames_cons hr
      show ({ U with heap := s₂.heap, slotsUsed := s₂.slotsUsed } : State) = { U.setFrames U.frames with heap := s₂.heap, slotsUsed := s₂.slotsUsed }
      rw [State.setFrames_self ht]
    subst hg
    refine Or.inl ⟨v, ⟨(({ U with heap := s₂.heap, slotsUsed := s₂.slotsUsed } : State).setVm s₂.vm), Ls ++ L, c0 + mc, s0 + ms⟩,
      ⟨X.admits, X.cas, X.clock, X.frames, X.room, X.hears, X.method, X.code, (X.here.setHeapUsed s₂.heap s₂.slotsUsed).setVm hW'.alike, X.tail, State.WarmedH.trans X.warmed hW', X.limits, X.bytes, X.same.trans (hsame.setVm s.vm)⟩,
      ⟨g, mk, s₂, L, rfl, rfl, hqc, rfl, hL, rfl, rfl⟩, ?_⟩
    show Steps p.tables e below _ ((({ U with heap := s₂.heap, slotsUsed := s₂.slotsUsed } : State).setVm s₂.vm).setTop { g with pc := g.pc + len₂, stack := v.toList ++ g.stack })
    rw [← hs₂]
    exact hsteps
  · obtain ⟨e2, q2, q3, q4, q5, q6⟩ := id hsm
    have e3 : s₂ = ({ (U.calling g mk a).setFrames s₂.frames with heap := s₂.heap, slotsUsed := s₂.slotsUsed } : State).setVm s₂.vm := by
      have : s₂ = ({ s₂ with vm := (U.calling g mk a).vm } : State).setVm s₂.vm := rfl
      rw [e2] at this
      exact this
    have hf₂ : s₂.frames = .throwing q :: .java g :: U.frames.tail := hend
    have hW' : U.WarmedH s₂.vm := hW₂
    have hs₂ : s₂ = ((({ U with heap := s₂.heap, slotsUsed := s₂.slotsUsed } : State).setVm s₂.vm).setTop g).pushFrame (.throwing q) := by
      refine e3.trans ?_
      rw [hf₂, State.calling_eq h.top, State.setFrames_setFrames, State.pushFrame, State.frames_setTop _ hr', State.setTop_of_frames _ hr', State.setFrames_setFrames, hr]
      rfl
    have hsame : U.sameButNew ({ U with heap := s₂.heap, slotsUsed := s₂.slotsUsed } : State) L mc ms := by
      refine ⟨?_, q2, q3, q4, q5, q6⟩
      obtain ⟨t, ht, -⟩ := State.frames_cons hr
      show ({ U with heap := s₂.heap, slotsUsed := s₂.slotsUsed } : State) = { U.setFrames U.frames with heap := s₂.heap, slotsUsed := s₂.slotsUsed }
      rw [State.setFrames_self ht]
    subst hg
    refine Or.inr ⟨q, ⟨(({ U with heap := s₂.heap, slotsUsed := s₂.slotsUsed } : State).setVm s₂.vm), Ls ++ L, c0 + mc, s0 + ms⟩,
      ⟨X.admits, X.cas, X.clock, X.frames, X.room, X.hears, X.method, X.code, (X.here.setHeapUsed s₂.heap s₂.slotsUsed).setVm hW'.alike, X.tail, State.WarmedH.trans X.warmed hW', X.limits, X.bytes, X.same.trans (hsame.setVm s.vm)⟩,
      ⟨g, mk, s₂, L, E, ce, rfl, rfl, hx, hce, hcv, hcl, rfl, hL, rfl, rfl⟩, ?_⟩
    show Steps p.tables e below _ (((({ U with heap := s₂.heap, slotsUsed := s₂.slotsUsed } : State).setVm s₂.vm).setTop g).pushFrame (.throwing q))
    rw [← hs₂]
    exact hsteps
end Payer
section Calls
variable {p : Program} {l : Launch} {e : Env} {R : Room} {s : State} {m : MethodId} {args : Array Value} {below : List Frame} {meth : Method} {c : Code} {T : State} {locs : List Loc} {cells slots : Nat}
theorem vx_callV (X : Stand p l e R s m args below meth c T locs cells slots) (hexec : p.tables.exec = Jvm.exec) {own C : String} {index : Nat} {y : MethodName} {bytes : ByteArray} {maxL : Nat} {ret : Option FieldType}
    (hown : s.vm.findClass own = some m.cls) (hlink : (Cond.methodLink own index y).before args s = true) (hinst : (Cond.instanceMethod y).before args s = true) (hsel : (Cond.selects C y y).before args s = true)
    (hcode : (Cond.code y bytes maxL ret).before args s = true) (hy : y.cls ≠ "java/lang/invoke/MethodHandle" ∧ y.cls ≠ "java/lang/invoke/VarHandle")
    {W9 : Nat} {Pre : Pt → Array Value → Prop} {Post : Pt → Array Value → Option Value → Pt → Prop} {PostX : Pt → Array Value → Addr → Pt → Prop} (hK : vx_Back l R p e below s args y 3 W9 Pre Post PostX)
    {b : Addr} {cellB : Cell} (hcell : T.heap[b]? = some cellB) (hobj : cellB.vm.isStatics = false) (hcls : s.vm.findClass C = some cellB.cls)
    {g : JFrame} (hg : g.method = m) (hsize : g.locals.size = c.maxLocals) {argsL rest : List Value} (hlen : ∀ sig, parseMethodDescriptor y.desc = some sig → argsL.length = sig.parameters.length)
    (hstack : g.stack = argsL.reverse ++ .ref b :: rest) (hW : 2 * g.monitorRoom + (rest.map fun v => v.category).sum ≤ W9) (hdg : decode c.code g.pc = .ok (.invokevirtual index, 3))
    (hpre : ∀ vm₁, s.WarmedH vm₁ → Pre ⟨T.setVm vm₁, locs, cells, slots⟩ (Value.ref b :: argsL).toArray) :
    (∃ (v : Option Value) (vm₁ : Vm) (B : Pt), s.WarmedH vm₁ ∧ Stand p l e R s m args below meth c B.U B.locs B.cells B.slots ∧ Post ⟨T.setVm vm₁, locs, cells, slots⟩ (Value.ref b :: argsL).toArray v B ∧
      ∀ target, Steps p.tables e below (B.U.setTop { g with pc := g.pc + 3, stack := v.toList ++ rest }) target → Steps p.tables e below (T.setTop g) target) ∨
    (∃ (q : Addr) (vm₁ : Vm) (B : Pt), s.WarmedH vm₁ ∧ Stand p l e R s m args below meth c B.U B.locs B.cells B.slots ∧ PostX ⟨T.setVm vm₁, locs, cells, slots⟩ (Value.ref b :: argsL).toArray q B ∧
      Steps p.tables e below (T.setTop g) ((B.U.setTop { g with stack := rest }).pushFrame (.throwing q))) := by
  obtain ⟨mk, methM, hnamed, hmethM, hstM, habM⟩ := Cond.instanceMethod_spec hinst
  obtain ⟨methM', cM, hmethM', -, -, -, -, -, -, hsigM⟩ := Cond.code_spec hnamed hcode
  cases hmethM.symm.trans hmethM'
  obtain ⟨c2, r2, m2, q1, q2, q3, q4, kP, hkP, hkPi⟩ := Cond.selects_spec hsel
  cases hcls.symm.trans q1
  cases (State.methodFound?_of_named hnamed hy).symm.trans q2
  cases hnamed.symm.trans q3
  have hselP : selectMethod e.platform s.vm cellB.cls mk = .method mk := by rw [Launch.admits_selectMethod X.admits]; exact q4
  obtain ⟨vm₁, X₁, hstep₁⟩ := X.invokevirtual hexec hown hlink hnamed hmethM hstM hkP hkPi hy (a := b) (cell := cellB) hcell
    (fun z h => by rw [h] at hobj; cases hobj) hselP hmethM habM hkP hkPi (g := g) hg (argsL := argsL) (rest := rest) (hlen _ hsigM) hstack hdg
  rcases hK m meth c ⟨T.setVm vm₁, locs, cells, slots⟩ { g with stack := rest } (.invokevirtual index) mk (Value.ref b :: argsL).toArray X₁ hg hsize hdg hW (X₁.named hnamed) (hpre vm₁ X₁.warmed) with ⟨v, B, X', hpost, hsteps⟩ | ⟨q, B, X', hpost, hsteps⟩
  · exact Or.inl ⟨v, vm₁, B, X₁.warmed, X', hpost, fun target h => hstep₁ _ fun acts => by rw [doInvoke_state]; exact hsteps.trans h⟩
  · exact Or.inr ⟨q, vm₁, B, X₁.warmed, X', hpost, hstep₁ _ fun acts => by rw [doInvoke_state]; exact hsteps⟩
theorem vx_callS (X : Stand p l e R s m args below meth c T locs cells slots) (hexec : p.tables.exec = Jvm.exec) {own : String} {index : Nat} {y : MethodName} {bytes : ByteArray} {maxL : Nat} {ret : Option FieldType}
    (hown : s.vm.findClass own = some m.cls) (hlink : (Cond.methodLink own index y).before args s = true) (hstat : (Cond.static y).before args s = true) (hinit : (Cond.initialized y.cls).before args s = true)
    (hcode : (Cond.code y bytes maxL ret).before args s = true) (hy : y.cls ≠ "java/lang/invoke/MethodHandle" ∧ y.cls ≠ "java/lang/invoke/VarHandle")
    {W9 : Nat} {Pre : Pt → Array Value → Prop} {Post : Pt → Array Value → Option Value → Pt → Prop} {PostX : Pt → Array Value → Addr → Pt → Prop} (hK : vx_Back l R p e below s args y 3 W9 Pre Post PostX)
    {g : JFrame} (hg : g.method = m) (hsize : g.locals.size = c.maxLocals) {argsL rest : List Value} (hlen : ∀ sig, parseMethodDescriptor y.desc = some sig → argsL.length = sig.parameters.length)
    (hstack : g.stack = argsL.reverse ++ rest) (hW : 2 * g.monitorRoom + (rest.map fun v => v.category).sum ≤ W9) (hdg : decode c.code g.pc = .ok (.invokestatic index, 3))
    (hpre : ∀ vm₁, s.WarmedH vm₁ → Pre ⟨T.setVm vm₁, locs, cells, slots⟩ argsL.toArray) :
    (∃ (v : Option Value) (vm₁ : Vm) (B : Pt), s.WarmedH vm₁ ∧ Stand p l e R s m args below meth c B.U B.locs B.cells B.slots ∧ Post ⟨T.setVm vm₁, locs, cells, slots⟩ argsL.toArray v B ∧
      ∀ target, Steps p.tables e below (B.U.setTop { g with pc := g.pc + 3, stack := v.toList ++ rest }) target → Steps p.tables e below (T.setTop g) target) ∨
    (∃ (q : Addr) (vm₁ : Vm) (B : Pt), s.WarmedH vm₁ ∧ Stand p l e R s m args below meth c B.U B.locs B.cells B.slots ∧ PostX ⟨T.setVm vm₁, locs, cells, slots⟩ argsL.toArray q B ∧
      Steps p.tables e below (T.setTop g) ((B.U.setTop { g with stack := rest }).pushFrame (.throwing q))) := by
  obtain ⟨mk, hnamed⟩ := Cond.code_named hcode
  obtain ⟨methM, cM, hmethM, -, -, -, -, -, -, hsigM⟩ := Cond.code_spec hnamed hcode
  have hstatic : methM.isStatic = true := Cond.static_spec hnamed hmethM hstat
  obtain ⟨kP, hkP, -⟩ := className_of_methodNamed hnamed
  have hinitP : kP.init = .initialized := Cond.initialized_spec (findClass_of_methodNamed hnamed) hkP hinit
  obtain ⟨vm₁, X₁, hstep₁⟩ := X.invokestatic hexec hown hlink hnamed hmethM hstatic hkP hinitP hy (g := g) hg (argsL := argsL) (rest := rest) (hlen _ hsigM) hstack hdg
  rcases hK m meth c ⟨T.setVm vm₁, locs, cells, slots⟩ { g with stack := rest } (.invokestatic index) mk argsL.toArray X₁ hg hsize hdg hW (X₁.named hnamed) (hpre vm₁ X₁.warmed) with ⟨v, B, X', hpost, hsteps⟩ | ⟨q, B, X', hpost, hsteps⟩
  · exact Or.inl ⟨v, vm₁, B, X₁.warmed, X', hpost, fun target h => hstep₁ _ fun acts => by rw [doInvoke_state]; exact hsteps.trans h⟩
  · exact Or.inr ⟨q, vm₁, B, X₁.warmed, X', hpost, hstep₁ _ fun acts => by rw [doInvoke_state]; exact hsteps⟩
end Calls
theorem vx_cls {s : State} {T : State} {vm₁ : Vm} {E : String} {k : ClassId} (hW : s.WarmedH vm₁) (h : (T.setVm vm₁).vm.findClass E = some k) : s.vm.findClass E = some k := by
  have h1 : vm₁.findClass E = some k := h
  rw [hW.alike.findClass] at h1
  exact h1
/-- the method's frame g, with q thrown over it -/
def vx_W (p : Program) (l : Launch) (e : Env) (R : Room) (s : State) (m : MethodId) (args : Array Value) (below : List Frame) (meth : Method) (c : Code) (H : Heap) (locs : List Loc) (cells slots : Nat) (Q : State → Prop) (g : JFrame) (q : Addr) : Prop :=
  ∀ T : State, T.heap = H → Stand p l e R s m args below meth c T locs cells slots → ∃ t, Steps p.tables e below ((T.setTop g).pushFrame (.throwing q)) t ∧ Q t
def vx_Run (p : Program) (l : Launch) (e : Env) (R : Room) (s : State) (m : MethodId) (args : Array Value) (below : List Frame) (meth : Method) (c : Code) (H : Heap) (locs : List Loc) (cells slots mc ms : Nat) (g : JFrame) (rest : List Value) (Qa : State → Outcome → State → Prop) (XC : String → State → State → Prop) (free : Addr → Prop) : Prop :=
  ∀ T : State, T.heap = H → Stand p l e R s m args below meth c T locs cells slots →
    (∃ (v : Option Value) (st₀ t T' : State) (L : List Loc), st₀.heap = H ∧ Stand p l e R s m args below meth c T' (locs ++ L) (cells + mc) (slots + ms) ∧ (∀ q ∈ L, free q.base) ∧ T'.heap = t.heap ∧ T'.vm = t.vm ∧ Qa st₀ (.returned v) t ∧
      Goes p e below T g T' { g with pc := g.pc + 3, stack := v.toList ++ rest }) ∨
    (∃ (q : Addr) (st₀ t T' : State) (L : List Loc) (E : String) (ce : Cell), st₀.heap = H ∧ Stand p l e R s m args below meth c T' (locs ++ L) (cells + mc) (slots + ms) ∧ (∀ z ∈ L, free z.base) ∧ T'.heap = t.heap ∧ T'.vm = t.vm ∧ XC E st₀ t ∧ t.heap[q]? = some ce ∧ ce.vm = .none ∧ s.vm.findClass E = some ce.cls ∧
      Steps p.tables e below (T.setTop g) ((T'.setTop { g with stack := rest }).pushFrame (.throwing q)))
def vx_X {S : Type} (px : S → Prop) (B : String → S → State → Prop) (A : Nat → Prop) : String → State → State → Prop := fun E st t => ∃ u : S, px u ∧ B E u t ∧ va_F A st t
section Runs
variable {p : Program} {l : Launch} {e : Env} {R : Room} {s : State} {m : MethodId} {args : Array Value} {below : List Frame} {meth : Method} {c : Code} {H : Heap} {locs : List Loc} {cells slots : Nat}
variable {y : MethodName} {bytes cc : ByteArray} {maxL nL mc ms n index : Nat} {ret : Option FieldType} {ws : List Cond} {rm : Room} {Pc : Array Value → State → Prop} {Qc : Array Value → State → Outcome → State → Prop} {XC : String → State → State → Prop} {free : Addr → Prop} {Ts : List Cond} {own C : String} {b : Addr} {As rest : List Value} {g : JFrame}
theorem vx_callBack (cb : CallB R s args own index y bytes maxL ret ws rm mc ms n) (hM : vx_Met l y ws rm Pc Qc XC mc ms free) (hbl : FrameBlind Pc) : vx_Back l R p e below s args y 3 8 (PreOf R mc ms Pc) (PostOf Qc mc ms free) (vx_Post XC mc ms free) := by
  obtain ⟨hrc, hrs, hfr, hlo, hws, hcw, -, hini, -⟩ := cb
  exact vx_back (bytes := bytes) (maxL := maxL) (ret := ret) hM hbl hrc hrs hfr hlo hws hcw (fun a' U hW => word_at hW (Or.inl (by first | rfl | simp [Cond.onTables, Cond.keeps, Cond.steady])) hini)
theorem vx_runV (S : CallFix p m c cc nL s args Ts own) (hM : vx_Met l y ws rm Pc Qc XC mc ms free) (cw : CallW R s args own C index y bytes maxL ret ws rm mc ms n) (hp : PreV s H C b Pc As)
    (hg : g.method = m) (hn : As.length = n) (hsize : g.locals.size = nL) (hstack : g.stack = As.reverse ++ .ref b :: rest) (hW : 2 * g.monitorRoom + (rest.map fun v => v.category).sum ≤ 8) (hdg : decode cc g.pc = .ok (.invokevirtual index, 3)) (hf : cells + mc ≤ R.cells ∧ slots + ms ≤ R.slots) :
    vx_Run p l e R s m args below meth c H locs cells slots mc ms g rest (Qc (Value.ref b :: As).toArray) XC free := by
  have hK : vx_Back l R p e below s args y 3 8 (PreOf R mc ms Pc) (PostOf Qc mc ms free) (vx_Post XC mc ms free) := vx_callBack cw.1 hM hp.1
  obtain ⟨⟨-, -, -, -, -, -, hcode, -, hy, hlen, hl⟩, hin, hse⟩ := cw
  obtain ⟨hx, hb, hml, ho, -⟩ := S
  obtain ⟨-, ⟨cellB, hcB, hoB, hclB⟩, hPc⟩ := hp
  intro T hT X
  rcases vx_callV X hx (C := C) (bytes := bytes) (maxL := maxL) (ret := ret) ho hl hin hse hcode hy hK (by rw [hT]; exact hcB) hoB hclB hg (hsize.trans hml.symm) (argsL := As) (rest := rest) (fun sig h => hn.trans (hlen sig h)) hstack hW (by rw [hb]; exact hdg)
    (fun vm₁ hW₁ => ⟨hf.1, hf.2, hPc (T.setVm vm₁) hT hW₁⟩) with ⟨v, vm₁, ⟨U', l2, c2, s2⟩, hW₁, X', ⟨g', mk, t, L, e1, e2, hq, h1, hL, h2, h3⟩, st⟩ | ⟨q, vm₁, ⟨U', l2, c2, s2⟩, hW₁, X', ⟨g', mk, t, L, E, ce, e1, e2, hq, hce, hcv, hcl, h1, hL, h2, h3⟩, st⟩
  · dsimp only [Pt.U, Pt.locs, Pt.cells, Pt.slots] at X' e1 e2 h1 h2 h3 st
    subst h1; subst h2; subst h3
    exact Or.inl ⟨v, (T.setVm vm₁).calling g' mk (Value.ref b :: As).toArray, t, U', L, hT, X', hL, e1, e2, hq, st⟩
  · dsimp only [Pt.U, Pt.locs, Pt.cells, Pt.slots] at X' e1 e2 h1 h2 h3 st hcl
    subst h1; subst h2; subst h3
    exact Or.inr ⟨q, (T.setVm vm₁).calling g' mk (Value.ref b :: As).toArray, t, U', L, E, ce, hT, X', hL, e1, e2, hq, hce, hcv, vx_cls hW₁ hcl, st⟩
theorem vx_runS (S : CallFix p m c cc nL s args Ts own) (hM : vx_Met l y ws rm Pc Qc XC mc ms free) (cw : CallB R s args own index y bytes maxL ret ws rm mc ms n ∧ (Cond.static y).before args s = true) (hp : PreS s H Pc As)
    (hg : g.method = m) (hn : As.length = n) (hsize : g.locals.size = nL) (hstack : g.stack = As.reverse ++ rest) (hW : 2 * g.monitorRoom + (rest.map fun v => v.category).sum ≤ 8) (hdg : decode cc g.pc = .ok (.invokestatic index, 3)) (hf : cells + mc ≤ R.cells ∧ slots + ms ≤ R.slots) :
    vx_Run p l e R s m args below meth c H locs cells slots mc ms g rest (Qc As.toArray) XC free := by
  have hK : vx_Back l R p e below s args y 3 8 (PreOf R mc ms Pc) (PostOf Qc mc ms free) (vx_Post XC mc ms free) := vx_callBack cw.1 hM hp.1
  obtain ⟨⟨-, -, -, -, -, -, hcode, hini, hy, hlen, hl⟩, hstt⟩ := cw
  obtain ⟨hx, hb, hml, ho, -⟩ := S
  intro T hT X
  rcases vx_callS X hx (bytes := bytes) (maxL := maxL) (ret := ret) ho hl hstt hini hcode hy hK hg (hsize.trans hml.symm) (argsL := As) (rest := rest) (fun sig h => hn.trans (hlen sig h)) hstack hW (by rw [hb]; exact hdg)
    (fun vm₁ hW₁ => ⟨hf.1, hf.2, hp.2 (T.setVm vm₁) hT hW₁⟩) with ⟨v, vm₁, ⟨U', l2, c2, s2⟩, hW₁, X', ⟨g', mk, t, L, e1, e2, hq, h1, hL, h2, h3⟩, st⟩ | ⟨q, vm₁, ⟨U', l2, c2, s2⟩, hW₁, X', ⟨g', mk, t, L, E, ce, e1, e2, hq, hce, hcv, hcl, h1, hL, h2, h3⟩, st⟩
  · dsimp only [Pt.U, Pt.locs, Pt.cells, Pt.slots] at X' e1 e2 h1 h2 h3 st
    subst h1; subst h2; subst h3
    exact Or.inl ⟨v, (T.setVm vm₁).calling g' mk As.toArray, t, U', L, hT, X', hL, e1, e2, hq, st⟩
  · dsimp only [Pt.U, Pt.locs, Pt.cells, Pt.slots] at X' e1 e2 h1 h2 h3 st hcl
    subst h1; subst h2; subst h3
    exact Or.inr ⟨q, (T.setVm vm₁).calling g' mk As.toArray, t, U', L, E, ce, hT, X', hL, e1, e2, hq, hce, hcv, vx_cls hW₁ hcl, st⟩
end Runs
section Rows
variable {p : Program} {l : Launch} {e : Env} {R : Room} {s : State} {m : MethodId} {args : Array Value} {below : List Frame} {meth : Method} {c : Code} {H : Heap} {locs : List Loc} {cells slots : Nat} {Q : State → Prop}
variable {mc ms : Nat} {free : Addr → Prop} {A0 A1 : Nat → Prop} {H0 : Heap} {a : Array Value} {pc : Nat} {ls : Array Slot} {st0 rest : List Value}
theorem vx_keep {st₀ t T' : State} {L : List Loc} (h0 : st₀.heap = H) (e1 : T'.heap = t.heap) (hS : va_S A0 H0 H locs) (hA : ∀ q, q < H.size → A1 q → A0 q) (hf : ∀ q, free q → A0 q) (hL : ∀ q ∈ L, free q.base) (hF : va_F A1 st₀ t) :
    H.size ≤ T'.heap.size ∧ (∀ q : Nat, q < H.size → ¬ A1 q → T'.heap[q]? = H[q]?) ∧ va_S A0 H0 T'.heap (locs ++ L) := by
  obtain ⟨hz, hk⟩ := hF
  rw [h0] at hz hk
  exact ⟨by rw [e1]; exact hz, fun q h1 h2 => by rw [e1]; exact hk q h1 h2,
    ⟨Nat.le_trans hS.1 (by rw [e1]; exact hz), fun q h1 h2 => by rw [e1, hk q (Nat.lt_of_lt_of_le h1 hS.1) (fun z => h2 (hA q (Nat.lt_of_lt_of_le h1 hS.1) z))]; exact hS.2.1 q h1 h2, fun q hq => by
      rcases List.mem_append.mp hq with h | h
      · exact hS.2.2 q h
      · exact hf _ (hL q h)⟩⟩
theorem vx_calli {S SX : Type} {post : Int32 → S → Prop} {px : SX → Prop} {B : S → State → Prop} {BX : String → SX → State → Prop} {AX : Nat → Prop} (hr : vx_Run p l e R s m args below meth c H locs cells slots mc ms (F0 m pc ls st0) rest (va_Qi post B A1 a) (vx_X px BX AX) free) (hS : va_S A0 H0 H locs) (hA : ∀ q, q < H.size → A1 q → A0 q) (hf : ∀ q, free q → A0 q) (hAX : ∀ q, q < H.size → AX q → A0 q)
    (kx : ∀ (E : String) (ce : Cell) (q9 : Addr) (u : SX) (t : State) (H1 : Heap) (locs1 : List Loc), t.heap = H1 → s.vm.Alike t.vm → px u → BX E u t → H.size ≤ H1.size → (∀ q : Nat, q < H.size → ¬ AX q → H1[q]? = H[q]?) → va_S A0 H0 H1 locs1 → H1[q9]? = some ce → ce.vm = .none → s.vm.findClass E = some ce.cls → vx_W p l e R s m args below meth c H1 locs1 (cells + mc) (slots + ms) Q (F0 m pc ls rest) q9)
    (kk : ∀ (r : Int32) (u : S) (t : State) (H1 : Heap) (locs1 : List Loc), t.heap = H1 → s.vm.Alike t.vm → post r u → B u t → H.size ≤ H1.size → (∀ q : Nat, q < H.size → ¬ A1 q → H1[q]? = H[q]?) → va_S A0 H0 H1 locs1 → W p l e R s m args below meth c H1 locs1 (cells + mc) (slots + ms) Q (F0 m (pc + 3) ls (.int r :: rest))) : W p l e R s m args below meth c H locs cells slots Q (F0 m pc ls st0) := by
  intro T hT X
  rcases hr T hT X with ⟨v, st₀, t, T', L, h0, X', hL, e1, e2, ⟨⟨r, u, hv, hp, hb⟩, hF⟩, st⟩ | ⟨q, st₀, t, T', L, E, ce, h0, X', hL, e1, e2, ⟨u, hp, hb, hF⟩, hce, hcv, hcl, st⟩
  · cases hv
    obtain ⟨k1, k2, k3⟩ := vx_keep h0 e1 hS hA hf hL hF
    obtain ⟨t2, a1, b1⟩ := kk r u t T'.heap (locs ++ L) e1.symm (by rw [← e2]; exact X'.warmed.alike) hp hb k1 k2 k3 T' rfl X'
    exact ⟨t2, st t2 a1, b1⟩
  · obtain ⟨k1, k2, k3⟩ := vx_keep h0 e1 hS hAX hf hL hF
    obtain ⟨t2, a1, b1⟩ := kx E ce q u t T'.heap (locs ++ L) e1.symm (by rw [← e2]; exact X'.warmed.alike) hp hb k1 k2 k3 (by rw [e1]; exact hce) hcv hcl T' rfl X'
    exact ⟨t2, st.trans a1, b1⟩
theorem vx_calll {S SX : Type} {post : Int64 → S → Prop} {px : SX → Prop} {B : S → State → Prop} {BX : String → SX → State → Prop} {AX : Nat → Prop} (hr : vx_Run p l e R s m args below meth c H locs cells slots mc ms (F0 m pc ls st0) rest (va_Ql post B A1 a) (vx_X px BX AX) free) (hS : va_S A0 H0 H locs) (hA : ∀ q, q < H.size → A1 q → A0 q) (hf : ∀ q, free q → A0 q) (hAX : ∀ q, q < H.size → AX q → A0 q)
    (kx : ∀ (E : String) (ce : Cell) (q9 : Addr) (u : SX) (t : State) (H1 : Heap) (locs1 : List Loc), t.heap = H1 → s.vm.Alike t.vm → px u → BX E u t → H.size ≤ H1.size → (∀ q : Nat, q < H.size → ¬ AX q → H1[q]? = H[q]?) → va_S A0 H0 H1 locs1 → H1[q9]? = some ce → ce.vm = .none → s.vm.findClass E = some ce.cls → vx_W p l e R s m args below meth c H1 locs1 (cells + mc) (slots + ms) Q (F0 m pc ls rest) q9)
    (kk : ∀ (r : Int64) (u : S) (t : State) (H1 : Heap) (locs1 : List Loc), t.heap = H1 → s.vm.Alike t.vm → post r u → B u t → H.size ≤ H1.size → (∀ q : Nat, q < H.size → ¬ A1 q → H1[q]? = H[q]?) → va_S A0 H0 H1 locs1 → W p l e R s m args below meth c H1 locs1 (cells + mc) (slots + ms) Q (F0 m (pc + 3) ls (.long r :: rest))) : W p l e R s m args below meth c H locs cells slots Q (F0 m pc ls st0) := by
  intro T hT X
  rcases hr T hT X with ⟨v, st₀, t, T', L, h0, X', hL, e1, e2, ⟨⟨r, u, hv, hp, hb⟩, hF⟩, st⟩ | ⟨q, st₀, t, T', L, E, ce, h0, X', hL, e1, e2, ⟨u, hp, hb, hF⟩, hce, hcv, hcl, st⟩
  · cases hv
    obtain ⟨k1, k2, k3⟩ := vx_keep h0 e1 hS hA hf hL hF
    obtain ⟨t2, a1, b1⟩ := kk r u t T'.heap (locs ++ L) e1.symm (by rw [← e2]; exact X'.warmed.alike) hp hb k1 k2 k3 T' rfl X'
    exact ⟨t2, st t2 a1, b1⟩
  · obtain ⟨k1, k2, k3⟩ := vx_keep h0 e1 hS hAX hf hL hF
    obtain ⟨t2, a1, b1⟩ := kx E ce q u t T'.heap (locs ++ L) e1.symm (by rw [← e2]; exact X'.warmed.alike) hp hb k1 k2 k3 (by rw [e1]; exact hce) hcv hcl T' rfl X'
    exact ⟨t2, st.trans a1, b1⟩
theorem vx_callf {S SX : Type} {post : UInt32 → S → Prop} {px : SX → Prop} {B : S → State → Prop} {BX : String → SX → State → Prop} {AX : Nat → Prop} (hr : vx_Run p l e R s m args below meth c H locs cells slots mc ms (F0 m pc ls st0) rest (va_Qf post B A1 a) (vx_X px BX AX) free) (hS : va_S A0 H0 H locs) (hA : ∀ q, q < H.size → A1 q → A0 q) (hf : ∀ q, free q → A0 q) (hAX : ∀ q, q < H.size → AX q → A0 q)
    (kx : ∀ (E : String) (ce : Cell) (q9 : Addr) (u : SX) (t : State) (H1 : Heap) (locs1 : List Loc), t.heap = H1 → s.vm.Alike t.vm → px u → BX E u t → H.size ≤ H1.size → (∀ q : Nat, q < H.size → ¬ AX q → H1[q]? = H[q]?) → va_S A0 H0 H1 locs1 → H1[q9]? = some ce → ce.vm = .none → s.vm.findClass E = some ce.cls → vx_W p l e R s m args below meth c H1 locs1 (cells + mc) (slots + ms) Q (F0 m pc ls rest) q9)
    (kk : ∀ (r : UInt32) (u : S) (t : State) (H1 : Heap) (locs1 : List Loc), t.heap = H1 → s.vm.Alike t.vm → post r u → B u t → H.size ≤ H1.size → (∀ q : Nat, q < H.size → ¬ A1 q → H1[q]? = H[q]?) → va_S A0 H0 H1 locs1 → W p l e R s m args below meth c H1 locs1 (cells + mc) (slots + ms) Q (F0 m (pc + 3) ls (.float r :: rest))) : W p l e R s m args below meth c H locs cells slots Q (F0 m pc ls st0) := by
  intro T hT X
  rcases hr T hT X with ⟨v, st₀, t, T', L, h0, X', hL, e1, e2, ⟨⟨r, u, hv, hp, hb⟩, hF⟩, st⟩ | ⟨q, st₀, t, T', L, E, ce, h0, X', hL, e1, e2, ⟨u, hp, hb, hF⟩, hce, hcv, hcl, st⟩
  · cases hv
    obtain ⟨k1, k2, k3⟩ := vx_keep h0 e1 hS hA hf hL hF
    obtain ⟨t2, a1, b1⟩ := kk r u t T'.heap (locs ++ L) e1.symm (by rw [← e2]; exact X'.warmed.alike) hp hb k1 k2 k3 T' rfl X'
    exact ⟨t2, st t2 a1, b1⟩
  · obtain ⟨k1, k2, k3⟩ := vx_keep h0 e1 hS hAX hf hL hF
    obtain ⟨t2, a1, b1⟩ := kx E ce q u t T'.heap (locs ++ L) e1.symm (by rw [← e2]; exact X'.warmed.alike) hp hb k1 k2 k3 (by rw [e1]; exact hce) hcv hcl T' rfl X'
    exact ⟨t2, st.trans a1, b1⟩
theorem vx_calld {S SX : Type} {post : UInt64 → S → Prop} {px : SX → Prop} {B : S → State → Prop} {BX : String → SX → State → Prop} {AX : Nat → Prop} (hr : vx_Run p l e R s m args below meth c H locs cells slots mc ms (F0 m pc ls st0) rest (va_Qd post B A1 a) (vx_X px BX AX) free) (hS : va_S A0 H0 H locs) (hA : ∀ q, q < H.size → A1 q → A0 q) (hf : ∀ q, free q → A0 q) (hAX : ∀ q, q < H.size → AX q → A0 q)
    (kx : ∀ (E : String) (ce : Cell) (q9 : Addr) (u : SX) (t : State) (H1 : Heap) (locs1 : List Loc), t.heap = H1 → s.vm.Alike t.vm → px u → BX E u t → H.size ≤ H1.size → (∀ q : Nat, q < H.size → ¬ AX q → H1[q]? = H[q]?) → va_S A0 H0 H1 locs1 → H1[q9]? = some ce → ce.vm = .none → s.vm.findClass E = some ce.cls → vx_W p l e R s m args below meth c H1 locs1 (cells + mc) (slots + ms) Q (F0 m pc ls rest) q9)
    (kk : ∀ (r : UInt64) (u : S) (t : State) (H1 : Heap) (locs1 : List Loc), t.heap = H1 → s.vm.Alike t.vm → post r u → B u t → H.size ≤ H1.size → (∀ q : Nat, q < H.size → ¬ A1 q → H1[q]? = H[q]?) → va_S A0 H0 H1 locs1 → W p l e R s m args below meth c H1 locs1 (cells + mc) (slots + ms) Q (F0 m (pc + 3) ls (.double r :: rest))) : W p l e R s m args below meth c H locs cells slots Q (F0 m pc ls st0) := by
  intro T hT X
  rcases hr T hT X with ⟨v, st₀, t, T', L, h0, X', hL, e1, e2, ⟨⟨r, u, hv, hp, hb⟩, hF⟩, st⟩ | ⟨q, st₀, t, T', L, E, ce, h0, X', hL, e1, e2, ⟨u, hp, hb, hF⟩, hce, hcv, hcl, st⟩
  · cases hv
    obtain ⟨k1, k2, k3⟩ := vx_keep h0 e1 hS hA hf hL hF
    obtain ⟨t2, a1, b1⟩ := kk r u t T'.heap (locs ++ L) e1.symm (by rw [← e2]; exact X'.warmed.alike) hp hb k1 k2 k3 T' rfl X'
    exact ⟨t2, st t2 a1, b1⟩
  · obtain ⟨k1, k2, k3⟩ := vx_keep h0 e1 hS hAX hf hL hF
    obtain ⟨t2, a1, b1⟩ := kx E ce q u t T'.heap (locs ++ L) e1.symm (by rw [← e2]; exact X'.warmed.alike) hp hb k1 k2 k3 (by rw [e1]; exact hce) hcv hcl T' rfl X'
    exact ⟨t2, st.trans a1, b1⟩
theorem vx_callv {S SX : Type} {post : S → Prop} {px : SX → Prop} {B : S → State → Prop} {BX : String → SX → State → Prop} {AX : Nat → Prop} (hr : vx_Run p l e R s m args below meth c H locs cells slots mc ms (F0 m pc ls st0) rest (va_Qv post B A1 a) (vx_X px BX AX) free) (hS : va_S A0 H0 H locs) (hA : ∀ q, q < H.size → A1 q → A0 q) (hf : ∀ q, free q → A0 q) (hAX : ∀ q, q < H.size → AX q → A0 q)
    (kx : ∀ (E : String) (ce : Cell) (q9 : Addr) (u : SX) (t : State) (H1 : Heap) (locs1 : List Loc), t.heap = H1 → s.vm.Alike t.vm → px u → BX E u t → H.size ≤ H1.size → (∀ q : Nat, q < H.size → ¬ AX q → H1[q]? = H[q]?) → va_S A0 H0 H1 locs1 → H1[q9]? = some ce → ce.vm = .none → s.vm.findClass E = some ce.cls → vx_W p l e R s m args below meth c H1 locs1 (cells + mc) (slots + ms) Q (F0 m pc ls rest) q9)
    (kk : ∀ (u : S) (t : State) (H1 : Heap) (locs1 : List Loc), t.heap = H1 → s.vm.Alike t.vm → post u → B u t → H.size ≤ H1.size → (∀ q : Nat, q < H.size → ¬ A1 q → H1[q]? = H[q]?) → va_S A0 H0 H1 locs1 → W p l e R s m args below meth c H1 locs1 (cells + mc) (slots + ms) Q (F0 m (pc + 3) ls (rest))) : W p l e R s m args below meth c H locs cells slots Q (F0 m pc ls st0) := by
  intro T hT X
  rcases hr T hT X with ⟨v, st₀, t, T', L, h0, X', hL, e1, e2, ⟨⟨u, hv, hp, hb⟩, hF⟩, st⟩ | ⟨q, st₀, t, T', L, E, ce, h0, X', hL, e1, e2, ⟨u, hp, hb, hF⟩, hce, hcv, hcl, st⟩
  · cases hv
    obtain ⟨k1, k2, k3⟩ := vx_keep h0 e1 hS hA hf hL hF
    obtain ⟨t2, a1, b1⟩ := kk u t T'.heap (locs ++ L) e1.symm (by rw [← e2]; exact X'.warmed.alike) hp hb k1 k2 k3 T' rfl X'
    exact ⟨t2, st t2 a1, b1⟩
  · obtain ⟨k1, k2, k3⟩ := vx_keep h0 e1 hS hAX hf hL hF
    obtain ⟨t2, a1, b1⟩ := kx E ce q u t T'.heap (locs ++ L) e1.symm (by rw [← e2]; exact X'.warmed.alike) hp hb k1 k2 k3 (by rw [e1]; exact hce) hcv hcl T' rfl X'
    exact ⟨t2, st.trans a1, b1⟩
/-- caught by the row x of this method's table; the rows ahead don't take it -/
theorem vx_catch {own name : String} {E : String} {ce : Cell} {q : Addr} (hown : s.vm.findClass own = some m.cls) (pre : List ExceptionTableEntry) (x : ExceptionTableEntry) (suf : List ExceptionTableEntry) (hsplit : c.exceptionTable.toList = pre ++ x :: suf)
    (hpass : ∀ z ∈ pre, covers z pc = false ∨ (z.catchType ≠ 0 ∧ ∃ nm : String, (Cond.classLink own z.catchType nm).before args s = true ∧ va_Nc E nm s)) (hx : covers x pc = true) (h0 : x.catchType ≠ 0)
    (hlink : (Cond.classLink own x.catchType name).before args s = true) (hcast : (Cond.castable E name).before args s = true) (hcell : H[q]? = some ce) (hv : ce.vm = .none) (hcl : s.vm.findClass E = some ce.cls)
    (kk : W p l e R s m args below meth c H locs cells slots Q (F0 m x.handlerPc ls [.ref q])) : vx_W p l e R s m args below meth c H locs cells slots Q (F0 m pc ls rest) q := by
  intro T hT X
  have hpl : e.platform.magicAccessors = ({} : Platform).magicAccessors := by rw [X.admits.platform]
  obtain ⟨c3, c4, hc3, hc4, hasg⟩ := Cond.castable_spec hcast
  cases Option.some.inj (hc3.symm.trans hcl)
  obtain ⟨c5, hc5, hcl5⟩ := Cond.classLink_spec hown hlink e.platform hpl
  cases Option.some.inj (hc4.symm.trans hc5)
  obtain ⟨vm', X', st⟩ := X.thenCaughtThrough q (g := F0 m pc ls rest) rfl (Steps.refl _) (by rw [hT]; exact hcell) (by rw [hv]; rfl) (by obtain ⟨k9, h9, -⟩ := Vm.findClass_spec hcl; exact ⟨k9, h9⟩) pre x suf hsplit
    (fun z hz => by
      rcases hpass z hz with h | ⟨hz0, nm, hl1, hn1⟩
      · exact Or.inl h
      · obtain ⟨c6, hc6, hcl6⟩ := Cond.classLink_spec hown hl1 e.platform hpl
        obtain ⟨a8, b8, h1, h2, h3⟩ := hn1
        cases Option.some.inj (h1.symm.trans hcl)
        cases Option.some.inj (h2.symm.trans hc6)
        exact Or.inr ⟨hz0, _, hcl6, h3⟩) hx (Or.inr ⟨h0, c4, hcl5, hasg⟩)
  obtain ⟨t, a1, b1⟩ := kk (T.setVm vm') hT X'
  exact ⟨t, st.trans a1, b1⟩
end Rows
section Ends
variable {p : Program} {l : Launch} {e : Env} {R : Room} {s : State} {m : MethodId} {args : Array Value} {below : List Frame} {meth : Method} {c : Code} {H : Heap} {locs : List Loc} {cells slots : Nat} {Q : State → Prop}
variable {mc ms : Nat} {free : Addr → Prop} {A0 A1 : Nat → Prop} {H0 : Heap} {a : Array Value} {ls : Array Slot} {st0 rest : List Value}
variable {Qc : Array Value → State → Outcome → State → Prop} {XC : String → State → State → Prop}
/-- what a body that may throw owes at its end -/
def vx_MQ (below : List Frame) (Qc : Array Value → State → Outcome → State → Prop) (XC : String → State → State → Prop) (a : Array Value) (s : State) (mc ms : Nat) (free : Addr → Prop) : State → Prop := fun t =>
  ∃ o, t.status = .running ∧ Ended t below o ∧ vx_Q Qc XC mc ms free a s o t
theorem vx_ret {g : JFrame} {mc ms : Nat} (k : W p l e R s m args below meth c H locs cells slots (MQ below Qc args s mc ms free) g) : W p l e R s m args below meth c H locs cells slots (vx_MQ below Qc XC args s mc ms free) g := by
  intro T hT X
  obtain ⟨t, a1, o, b1, b2, b3, b4⟩ := k T hT X
  exact ⟨t, a1, o, b1, b2, Or.inl ⟨b3, b4⟩⟩
/-- not caught here: it goes on to the caller -/
theorem vx_widen {g : JFrame} {q : Addr} {k n : Nat} (h1 : cells ≤ k) (h2 : slots ≤ n) (kk : vx_W p l e R s m args below meth c H locs k n Q g q) : vx_W p l e R s m args below meth c H locs cells slots Q g q := fun T hT X => kk T hT (stand_widen X h1 h2)
theorem vx_out {pc : Nat} {E : String} {ce : Cell} {q : Addr} {mc ms : Nat} (hout : ∀ x ∈ c.exceptionTable.toList, covers x pc = false) (hlocks : meth.locks = false) (hcell : H[q]? = some ce) (hv : ce.vm = .none) (hcl : s.vm.findClass E = some ce.cls)
    (hx : ∀ t : State, t.heap = H → s.vm.Alike t.vm → XC E s t) (hf : ∀ z ∈ locs, free z.base) (hc : cells ≤ mc) (hs : slots ≤ ms) :
    vx_W p l e R s m args below meth c H locs cells slots (vx_MQ below Qc XC args s mc ms free) (F0 m pc ls rest) q := by
  intro T hT X
  obtain ⟨st1, hrun, hend, hW, hsm⟩ := X.leaveThrown q (g := F0 m pc ls rest) rfl rfl rfl hout hlocks
  have hcell9 : (T.setFrames (.throwing q :: below)).heap[q]? = some ce := by
    show T.heap[q]? = some ce
    rw [hT]; exact hcell
  exact ⟨_, st1, .threw q, hrun, hend, Or.inr ⟨q, rfl, E, ce, locs, hx _ hT hW.alike, hcell9, hv, hcl, hW, hsm.mono hc hs, hf⟩⟩
theorem vx_frame {U : State} {k n : Nat} (h : s.sameButNew ({ U with vm := s.vm } : State) locs k n) : s.heap.size ≤ U.heap.size ∧ ∀ q : Nat, q < s.heap.size → (∀ z ∈ locs, z.base ≠ q) → U.heap[q]? = s.heap[q]? := by
  obtain ⟨-, h2, -, -, -, h6⟩ := h
  refine ⟨h2, fun q hq hz => ?_⟩
  obtain ⟨c9, e1, e2, e3, e4⟩ := h6 q _ (Array.getElem?_eq_getElem hq)
  have hs : c9.slots = (s.heap[q]).slots := Array.ext_getElem? fun i => e4 i fun hm => hz _ hm rfl
  have h9 : c9 = s.heap[q] := by
    rw [hs] at e2
    exact e2
  have e5 : U.heap[q]? = some c9 := e1
  rw [e5, h9, Array.getElem?_eq_getElem hq]
/-- the words of a throw but the four that speak of the heap -/
def vx_no (w : Cond) : Bool := decide (w ≠ .isRef (.static Bundle.tN "UNASSIGNED_STACK" Bundle.steD)) && decide (w ≠ .isRef (.static Bundle.tN "SUPPRESSED_SENTINEL" Bundle.listD)) && decide (w ≠ .laysStatic Bundle.tN "UNASSIGNED_STACK" Bundle.steD) && decide (w ≠ .laysStatic Bundle.tN "SUPPRESSED_SENTINEL" Bundle.listD)
def vx_at0 (own : String) (ic : Nat) (X : String) (names : List String) : List Cond := (Bundle.ownAtoms0 own ic X names).filter vx_no
def vx_atS (own : String) (ic : Nat) (X : String) (names : List String) : List Cond := (Bundle.ownAtoms own ic X names).filter vx_no
/-- a word that the tables alone decide, or a good one -/
def vx_ot (w : Cond) : Bool := w.onTables || goodWord w
theorem vx_ot_at {args a' : Array Value} {s U : State} {w : Cond} (hW : s.WarmedH U.vm) (hvm : s.vm = U.vm) (hg : vx_ot w = true) (h : w.before args s = true) : w.before a' U = true := by
  simp only [vx_ot, Bool.or_eq_true] at hg
  rcases hg with hg | hg
  · exact va_tabs hg hvm h
  · exact word_at hW (good_of_word hg) h
/-- a list's words: the good ones out of the method's own list, the others by premises of their own -/
theorem vx_hat {args : Array Value} {s : State} {L B : List Cond} (h1 : ∀ w ∈ L.filter goodWord, w.before args s = true) (h2 : ∀ w ∈ L.filter (fun w => !goodWord w), w ∈ B) (h3 : ∀ w ∈ B, w.before args s = true) : ∀ w ∈ L, w.before args s = true := by
  intro w hw
  by_cases g : goodWord w = true
  · exact h1 w (List.mem_filter.mpr ⟨hw, g⟩)
  · refine h3 w (h2 w (List.mem_filter.mpr ⟨hw, ?_⟩))
    show (!goodWord w) = true
    cases hgw : goodWord w
    · rfl
    · exact absurd hgw g
theorem vx_c {args : Array Value} {s : State} {w : Cond} {B : List Cond} (h : w.before args s = true) (t : ∀ w ∈ B, w.before args s = true) : ∀ w' ∈ w :: B, w'.before args s = true := fun w' h' => (List.mem_cons.mp h').elim (fun e => by rw [e]; exact h) (t w')
theorem vx_n {args : Array Value} {s : State} : ∀ w ∈ ([] : List Cond), w.before args s = true := fun _ h => nomatch h
theorem vx_own {args : Array Value} {s : State} {L : List Cond} (h1 : ∀ w ∈ L.filter vx_no, w.before args s = true)
    (hU : (Cond.isRef (.static Bundle.tN "UNASSIGNED_STACK" Bundle.steD)).before args s = true) (hN : (Cond.isRef (.static Bundle.tN "SUPPRESSED_SENTINEL" Bundle.listD)).before args s = true)
    (lU : (Cond.laysStatic Bundle.tN "UNASSIGNED_STACK" Bundle.steD).before args s = true) (lN : (Cond.laysStatic Bundle.tN "SUPPRESSED_SENTINEL" Bundle.listD).before args s = true) : ∀ w ∈ L, w.before args s = true := by
  intro w hw
  by_cases e1 : w = .isRef (.static Bundle.tN "UNASSIGNED_STACK" Bundle.steD)
  · rw [e1]; exact hU
  · by_cases e2 : w = .isRef (.static Bundle.tN "SUPPRESSED_SENTINEL" Bundle.listD)
    · rw [e2]; exact hN
    · by_cases e3 : w = .laysStatic Bundle.tN "UNASSIGNED_STACK" Bundle.steD
      · rw [e3]; exact lU
      · by_cases e4 : w = .laysStatic Bundle.tN "SUPPRESSED_SENTINEL" Bundle.listD
        · rw [e4]; exact lN
        · exact h1 w (List.mem_filter.mpr ⟨hw, by unfold vx_no; rw [decide_eq_true e1, decide_eq_true e2, decide_eq_true e3, decide_eq_true e4]; rfl⟩)
/-- where a static field lies, its class's statics cell in H -/
def vx_L (C n d : String) (A : Nat → Prop) (U : State) (H : Heap) : Prop := ∃ (c : ClassId) (k : Class) (i : Nat) (f : Field) (a : Nat) (cell : Cell), U.vm.findClass C = some c ∧ U.fieldFound? C n d = some (c, k, i, f) ∧ f.isStatic = true ∧ k.statics = some a ∧ H[a]? = some cell ∧ cell.vm.isStatics = true ∧ cell.cls = c ∧ f.slot < cell.slots.size ∧ k.staticTypes[f.slot]? = some f.type ∧ ¬ A a
theorem vx_L.moved {C n d : String} {A : Nat → Prop} {u U : State} {H : Heap} (hvm : u.vm.Alike U.vm) (h : vx_L C n d A u H) : vx_L C n d A U H := by
  obtain ⟨c, k, i, f, a, cell, h1, h2, h3, h4, h5, h6, h7, h8, h9, h10⟩ := h
  obtain ⟨k', hi', he⟩ := State.fieldFound?_setVm hvm h2
  exact ⟨c, k', i, f, a, cell, by rw [hvm.findClass]; exact h1, hi', h3, by rw [he]; exact h4, h5, h6, h7, h8, by rw [he]; exact h9, h10⟩
theorem vx_L.kept {C n d : String} {A : Nat → Prop} {U : State} {H H1 : Heap} (h : vx_L C n d A U H) (hq : ∀ a : Nat, a < H.size → ¬ A a → H1[a]? = H[a]?) : vx_L C n d A U H1 := by
  obtain ⟨c, k, i, f, a, cell, h1, h2, h3, h4, h5, h6, h7, h8, h9, h10⟩ := h
  exact ⟨c, k, i, f, a, cell, h1, h2, h3, h4, by rw [hq a (Array.getElem?_eq_some_iff.mp h5).1 h10]; exact h5, h6, h7, h8, h9, h10⟩
theorem vx_L.narrow {C n d : String} {A B : Nat → Prop} {U : State} {H : Heap} (h : vx_L C n d A U H) (hAB : ∀ q, B q → A q) : vx_L C n d B U H := by
  obtain ⟨c, k, i, f, a, cell, h1, h2, h3, h4, h5, h6, h7, h8, h9, h10⟩ := h
  exact ⟨c, k, i, f, a, cell, h1, h2, h3, h4, h5, h6, h7, h8, h9, fun z => h10 (hAB _ z)⟩
theorem vx_L.word {C n d : String} {A : Nat → Prop} {s : State} {args : Array Value} (h : vx_L C n d A s s.heap) : (Cond.laysStatic C n d).before args s = true := by
  obtain ⟨c, k, i, f, a, cell, h1, h2, h3, h4, h5, h6, h7, h8, h9, -⟩ := h
  show (Cond.laysStatic C n d).holds args s none s [] = true
  exact Cond.laysStatic_of h1 h2 h3 h4 h5 h6 h7 h8 h9
/-- .. and what it holds: null or some reference -/
def vx_Zq (C n d : String) (A : Nat → Prop) (U : State) (H : Heap) : Prop := va_Zq C n d A U H ∧ vx_L C n d A U H
theorem vx_Zq.moved {C n d : String} {A : Nat → Prop} {u U : State} {H : Heap} (hvm : u.vm.Alike U.vm) (h : vx_Zq C n d A u H) : vx_Zq C n d A U H := ⟨va_Zq.moved hvm h.1, vx_L.moved hvm h.2⟩
theorem vx_Zq.kept {C n d : String} {A : Nat → Prop} {U : State} {H H1 : Heap} (h : vx_Zq C n d A U H) (hq : ∀ a : Nat, a < H.size → ¬ A a → H1[a]? = H[a]?) : vx_Zq C n d A U H1 := ⟨va_Zq.kept h.1 hq, vx_L.kept h.2 hq⟩
theorem vx_Zq.narrow {C n d : String} {A B : Nat → Prop} {U : State} {H : Heap} (h : vx_Zq C n d A U H) (hAB : ∀ q, B q → A q) : vx_Zq C n d B U H := ⟨va_Zq.narrow h.1 hAB, vx_L.narrow h.2 hAB⟩
theorem vx_Zqof {args : Array Value} {s : State} {C n d : String} {A : Nat → Prop} (hl : (Cond.laysStatic C n d).before args s = true) (hini : (Cond.initialized C).before args s = true) (h : (Cond.isRef (.static C n d)).before args s = true) (hA : ∀ a : Nat, a < s.heap.size → ¬ A a) : vx_Zq C n d A s s.heap := by
  refine ⟨va_Zqof hl hini h hA, ?_⟩
  obtain ⟨c, k, i, f, a, cell, h1, h2, h3, h4, h5, h6, h7, h8, h9⟩ := Cond.laysStatic_spec hl
  exact ⟨c, k, i, f, a, cell, h1, h2, h3, h4, h5, h6, h7, h8, h9, hA a (Array.getElem?_eq_some_iff.mp h5).1⟩
theorem vx_isRef {C n d : String} {v : Value} {A : Nat → Prop} {s : State} {args : Array Value} (h : va_Z C n d v A s s.heap) (hv : v.isRef = true) : (Cond.isRef (.static C n d)).before args s = true := by
  obtain ⟨cf, kf, fi, f, a, cell, h1, h2, h3, h4, h5, h6, h7, -⟩ := h
  have he : (Term.static C n d).eval args s none [] s = some v := by
    simp [Term.eval, State.fieldNamed?, h1, h2, h4, h5, h6, h7]
  simp only [Cond.before, Cond.holds, Cond.value, he]
  cases v <;> simp_all [Value.isRef]
theorem vx_isRefq {C n d : String} {A : Nat → Prop} {s : State} {args : Array Value} (h : va_Zq C n d A s s.heap) : (Cond.isRef (.static C n d)).before args s = true := by
  rcases h with h | ⟨t, h⟩
  · exact vx_isRef h rfl
  · exact vx_isRef h rfl
/-- the same frame, seen from here: as if the method were called anew in this heap -/
theorem vx_rebase {T : State} (X : Stand p l e R s m args below meth c T locs cells slots) {R' : Room} (hf : R'.frames ≤ R.frames) (hl : R'.locals ≤ R.locals) (hc : cells + R'.cells ≤ R.cells) (hs : slots + R'.slots ≤ R.slots) :
    Stand p l e R' ((T.setVm s.vm).setFrames (.invoking m args :: below)) m args below meth c T [] 0 0 := by
  have htop : (T.setVm s.vm).topJava?.isSome := X.here.top
  have hF : ((T.setVm s.vm).setFrames (.invoking m args :: below)).frames = .invoking m args :: below := State.frames_setFrames _ (State.cur_lt_of_top htop)
  obtain ⟨g₀, hg0⟩ := Option.isSome_iff_exists.mp htop
  obtain ⟨r, hr⟩ := State.topJava?_eq_some.mp hg0
  have hl9 : e.platform.stackLimits (T.setVm s.vm).me = e.platform.stackLimits s.me := X.limits
  have hb9 : (T.setVm s.vm).me.stackBytes = s.me.stackBytes := X.bytes
  refine ⟨X.admits, X.cas, X.clock, hF, ?_, X.hears, X.method, X.code, X.here, X.tail, X.warmed, ?_, ?_, ?_⟩
  · have h := X.room
    have hU : ((T.setVm s.vm).setFrames (.invoking m args :: below)).localsInUse = s.localsInUse := by
      rw [State.localsInUse_invoking hF (meth := meth) (c := c) X.method X.code, State.localsInUse_invoking X.frames X.method X.code]
    simp only [State.hasRoom, Bool.and_eq_true, decide_eq_true_eq] at h ⊢
    obtain ⟨⟨⟨⟨h1, h2, h3, h4, h5, h6⟩, h7⟩, h8⟩, h9⟩ := h
    rw [X.frames, List.length_cons] at h2 h3
    have q1 := X.heapSize
    have q2 := X.used
    simp only [hF, hU, List.length_cons, State.stackLimits_setFrames, State.stackBytes_setFrames, hl9, hb9]
    refine ⟨⟨⟨⟨by omega, by omega, by omega, by omega, by omega, h6⟩, ?_⟩, ?_⟩, X.book⟩
    · show T.heap.size + R'.cells ≤ e.platform.maxCells
      omega
    · show T.slotsUsed + R'.slots ≤ e.platform.maxSlots
      omega
  · rw [State.stackLimits_setFrames]; rfl
  · rw [State.stackBytes_setFrames]; rfl
  · refine ⟨?_, Nat.le_refl _, Nat.le_refl _, ?_, ?_, fun a c9 h9 => ⟨c9, h9, rfl, rfl, fun _ _ => rfl⟩⟩
    · obtain ⟨t, ht, -⟩ := State.frames_cons hr
      show T.setVm s.vm = { ((T.setVm s.vm).setFrames (.invoking m args :: below)).setFrames (T.setVm s.vm).frames with heap := T.heap, slotsUsed := T.slotsUsed }
      rw [State.setFrames_setFrames, State.setFrames_self ht]
      rfl
    · show T.slotsUsed = T.slotsUsed + ((T.heap.toList.drop T.heap.size).map (·.slots.size)).sum
      rw [List.drop_eq_nil_of_le (Nat.le_of_eq Array.length_toList)]
      rfl
    · show ((T.heap.toList.drop T.heap.size).map (·.slots.size)).sum ≤ 0
      rw [List.drop_eq_nil_of_le (Nat.le_of_eq Array.length_toList)]
      exact Nat.le_refl _
/-- 'throw new E()': new; dup; invokespecial; athrow -/
theorem vx_throw0 {cc : ByteArray} {pc : Nat} (hexec : p.tables.exec = Jvm.exec) (hb : c.code = cc) (hl : l.stackTraces = false) {own cls : String} {names : List String} {ik ic mc ms : Nat} {A : Nat → Prop}
    (hown : s.vm.findClass own = some m.cls) (hcls : Bundle.fit cls = true) (hnames : ∀ n ∈ names, Bundle.fit n = true)
    (hk : (Cond.classLink own ik cls).before args s = true) (hini : (Cond.initialized cls).before args s = true) (hat : ∀ w ∈ vx_at0 own ic cls names, w.before args s = true)
    (hgood : ∀ w ∈ Cond.classLink own ik cls :: Cond.initialized cls :: vx_at0 own ic cls names, vx_ot w = true)
    (hU : vx_Zq Bundle.tN "UNASSIGNED_STACK" Bundle.steD A s s.heap) (hN : vx_Zq Bundle.tN "SUPPRESSED_SENTINEL" Bundle.listD A s s.heap) (hS : va_S A s.heap H locs) (hsize : ls.size = c.maxLocals)
    (d0 : decode cc pc = .ok (.new ik, 3)) (d3 : decode cc (pc + 3) = .ok (.dup, 1)) (d4 : decode cc (pc + 4) = .ok (.invokespecial ic, 3)) (d7 : decode cc (pc + 7) = .ok (.athrow, 1))
    (hout : ∀ x ∈ c.exceptionTable.toList, covers x (pc + 7) = false)
    (hRframes : names.length + 3 < R.frames) (hRlocals : (rest.map fun v => v.category).sum + (13 * (names.length + 1) + 42) ≤ R.locals) (hRcells : cells + 1 ≤ R.cells) (hRslots : slots + 6 ≤ R.slots) (hlocks : meth.locks = false)
    (hx : ∀ t : State, s.vm.Alike t.vm → H.size ≤ t.heap.size → (∀ q : Nat, q < H.size → t.heap[q]? = H[q]?) → XC cls s t)
    (hf : ∀ z ∈ locs, free z.base) (hc : cells + 1 ≤ mc) (hs : slots + 6 ≤ ms) :
    W p l e R s m args below meth c H locs cells slots (vx_MQ below Qc XC args s mc ms free) (F0 m pc ls rest) := by
  intro T hT X
  have htr : e.platform.stackTraces = false := (show e.platform.stackTraces = l.stackTraces by rw [X.admits.platform]).trans hl
  have Y := vx_rebase X (R' := { frames := R.frames, locals := R.locals, cells := 1, slots := 6 }) (Nat.le_refl _) (Nat.le_refl _) hRcells hRslots
  obtain ⟨s', hA⟩ : ∃ z, z = (T.setVm s.vm).setFrames (.invoking m args :: below) := ⟨_, rfl⟩
  rw [← hA] at Y
  have hvm : s'.vm = s.vm := by rw [hA]; rfl
  have hhp : s'.heap = H := by rw [hA]; exact hT
  have hW0 : s.WarmedH s'.vm := by rw [hvm]; exact State.WarmedH.refl s
  have hat' : ∀ w ∈ vx_at0 own ic cls names, w.before args s' = true := fun w hw => vx_ot_at hW0 hvm.symm (hgood w (List.mem_cons_of_mem _ (List.mem_cons_of_mem _ hw))) (hat w hw)
  have hk' : (Cond.classLink own ik cls).before args s' = true := vx_ot_at hW0 hvm.symm (hgood _ List.mem_cons_self) hk
  have hini' : (Cond.initialized cls).before args s' = true := vx_ot_at hW0 hvm.symm (hgood _ (List.mem_cons_of_mem _ List.mem_cons_self)) hini
  have hU' : vx_Zq Bundle.tN "UNASSIGNED_STACK" Bundle.steD A s' s'.heap := by rw [hhp]; exact vx_Zq.moved hW0.alike (hU.kept hS.2.1)
  have hN' : vx_Zq Bundle.tN "SUPPRESSED_SENTINEL" Bundle.listD A s' s'.heap := by rw [hhp]; exact vx_Zq.moved hW0.alike (hN.kept hS.2.1)
  have h : ∀ w ∈ Bundle.ownAtoms0 own ic cls names, w.before args s' = true := vx_own hat' (vx_isRefq hU'.1) (vx_isRefq hN'.1) hU'.2.word hN'.2.word
  have hown' : s'.vm.findClass own = some m.cls := by rw [hvm]; exact hown
  have hins : (Cond.instantiable cls 6).before args s' = true := h _ (by simp [Bundle.ownAtoms0])
  obtain ⟨vm₁, cX, kX, hfX, hkX, -, -, X₁, st1⟩ := Y.newCold hexec (own := own) (C := cls) (index := ik) (n := 6) hown' hk' hins hini'
    (g := F0 m pc ls rest) rfl (by rw [hb]; exact d0) (Nat.le_refl _) (Nat.le_refl _)
  generalize hT1 : (T.setVm vm₁).pushCell { cls := cX, slots := kX.instanceTypes.map defaultValue, vm := .none } = T1 at X₁ st1
  have hcat : (Value.ref T.heap.size).category = 1 := rfl
  have hcellA : T1.heap[T.heap.size]? = some (freshCell cX kX) := by rw [← hT1]; exact State.heap_pushCell_size _ _
  have d3' : decode c.code (pc + 3) = .ok (.dup, 1) := by rw [hb]; exact d3
  obtain ⟨U, hsteps, hrun, hend, hW, hsame, ce, hce, hO⟩ := X₁.ctorThrow0 hexec htr (own := own) (cls := cls) (names := names) (ic := ic) hown' hcls hnames h (fun x hx => nomatch hx) hfX hkX hcellA (by rw [hhp, hT]; exact Nat.le_refl _)
    (g := { method := m, pc := pc + 4, locals := ls, stack := .ref T.heap.size :: .ref T.heap.size :: rest, locked := none }) rfl hsize rfl rfl (rest := rest) rfl
    (by rw [hb]; exact d4) (by rw [hb]; exact d7) hout hRframes (by simp only [List.map_cons, List.sum_cons, hcat]; omega) hlocks
  obtain ⟨f1, f2⟩ := vx_frame hsame
  rw [hhp] at f1 f2
  have hWs : s.WarmedH U.vm := State.WarmedH.trans hW0 hW
  have hcl : s.vm.findClass cls = some ce.cls := by
    have h9 := hO.cls
    rw [hvm] at h9
    exact h9
  have hall : s.sameButNew ({ U with vm := s.vm } : State) locs mc ms := by
    subst hA
    obtain ⟨e1, e2⟩ := hsame
    rw [State.setFrames_setFrames] at e1
    have h2 : (T.setVm s.vm).sameButNew ({ U with vm := s.vm } : State) [] (0 + 1) (0 + 6) := ⟨e1, e2⟩
    have h3 := X.same.trans h2
    rw [List.append_nil] at h3
    exact h3.mono hc hs
  refine ⟨U, ?_, .threw T.heap.size, hrun, hend, Or.inr ⟨T.heap.size, rfl, cls, ce, locs, hx U hWs.alike f1 (fun q hq => f2 q hq (fun z hz => nomatch hz)), hce, hO.vm, hcl, hWs, hall, hf⟩⟩
  refine st1 _ ?_
  show Steps p.tables e below (T1.setTop { method := m, pc := pc + 3, locals := ls, stack := .ref T.heap.size :: rest, locked := none }) _
  jvm_step X₁.here [X₁.here.top, hexec, d3', Value.category]
  exact hsteps
/-- 'throw new E("text")': new; dup; ldc; invokespecial; athrow -/
theorem vx_throwS {cc : ByteArray} {pc : Nat} (hexec : p.tables.exec = Jvm.exec) (hb : c.code = cc) (hl : l.stackTraces = false) {own cls text : String} {names : List String} {ik is ic mc ms sa : Nat} {A : Nat → Prop}
    (hown : s.vm.findClass own = some m.cls) (hcls : Bundle.fit cls = true) (hnames : ∀ n ∈ names, Bundle.fit n = true)
    (hk : (Cond.classLink own ik cls).before args s = true) (hini : (Cond.initialized cls).before args s = true) (hstr : vk_R own is text sa s) (hat : ∀ w ∈ vx_atS own ic cls names, w.before args s = true)
    (hgood : ∀ w ∈ Cond.classLink own ik cls :: Cond.initialized cls :: vx_atS own ic cls names, vx_ot w = true)
    (hU : vx_Zq Bundle.tN "UNASSIGNED_STACK" Bundle.steD A s s.heap) (hN : vx_Zq Bundle.tN "SUPPRESSED_SENTINEL" Bundle.listD A s s.heap) (hS : va_S A s.heap H locs) (hsize : ls.size = c.maxLocals)
    (d0 : decode cc pc = .ok (.new ik, 3)) (d3 : decode cc (pc + 3) = .ok (.dup, 1)) (d4 : decode cc (pc + 4) = .ok (.ldc is, 2)) (d6 : decode cc (pc + 6) = .ok (.invokespecial ic, 3)) (d9 : decode cc (pc + 9) = .ok (.athrow, 1))
    (hout : ∀ x ∈ c.exceptionTable.toList, covers x (pc + 9) = false)
    (hRframes : names.length + 3 < R.frames) (hRlocals : (rest.map fun v => v.category).sum + (13 * (names.length + 1) + 43) ≤ R.locals) (hRcells : cells + 1 ≤ R.cells) (hRslots : slots + 6 ≤ R.slots) (hlocks : meth.locks = false)
    (hx : ∀ t : State, s.vm.Alike t.vm → H.size ≤ t.heap.size → (∀ q : Nat, q < H.size → t.heap[q]? = H[q]?) → XC cls s t)
    (hf : ∀ z ∈ locs, free z.base) (hc : cells + 1 ≤ mc) (hs : slots + 6 ≤ ms) :
    W p l e R s m args below meth c H locs cells slots (vx_MQ below Qc XC args s mc ms free) (F0 m pc ls rest) := by
  intro T hT X
  have htr : e.platform.stackTraces = false := (show e.platform.stackTraces = l.stackTraces by rw [X.admits.platform]).trans hl
  have Y := vx_rebase X (R' := { frames := R.frames, locals := R.locals, cells := 1, slots := 6 }) (Nat.le_refl _) (Nat.le_refl _) hRcells hRslots
  obtain ⟨s', hA⟩ : ∃ z, z = (T.setVm s.vm).setFrames (.invoking m args :: below) := ⟨_, rfl⟩
  rw [← hA] at Y
  have hvm : s'.vm = s.vm := by rw [hA]; rfl
  have hhp : s'.heap = H := by rw [hA]; exact hT
  have hW0 : s.WarmedH s'.vm := by rw [hvm]; exact State.WarmedH.refl s
  have hat' : ∀ w ∈ vx_atS own ic cls names, w.before args s' = true := fun w hw => vx_ot_at hW0 hvm.symm (hgood w (List.mem_cons_of_mem _ (List.mem_cons_of_mem _ hw))) (hat w hw)
  have hk' : (Cond.classLink own ik cls).before args s' = true := vx_ot_at hW0 hvm.symm (hgood _ List.mem_cons_self) hk
  have hini' : (Cond.initialized cls).before args s' = true := vx_ot_at hW0 hvm.symm (hgood _ (List.mem_cons_of_mem _ List.mem_cons_self)) hini
  have hU' : vx_Zq Bundle.tN "UNASSIGNED_STACK" Bundle.steD A s' s'.heap := by rw [hhp]; exact vx_Zq.moved hW0.alike (hU.kept hS.2.1)
  have hN' : vx_Zq Bundle.tN "SUPPRESSED_SENTINEL" Bundle.listD A s' s'.heap := by rw [hhp]; exact vx_Zq.moved hW0.alike (hN.kept hS.2.1)
  have h : ∀ w ∈ Bundle.ownAtoms own ic cls names, w.before args s' = true := vx_own hat' (vx_isRefq hU'.1) (vx_isRefq hN'.1) hU'.2.word hN'.2.word
  have hown' : s'.vm.findClass own = some m.cls := by rw [hvm]; exact hown
  have hins : (Cond.instantiable cls 6).before args s' = true := h _ (by simp [Bundle.ownAtoms])
  obtain ⟨vm₁, cX, kX, hfX, hkX, -, -, X₁, st1⟩ := Y.newCold hexec (own := own) (C := cls) (index := ik) (n := 6) hown' hk' hins hini'
    (g := F0 m pc ls rest) rfl (by rw [hb]; exact d0) (Nat.le_refl _) (Nat.le_refl _)
  generalize hT1 : (T.setVm vm₁).pushCell { cls := cX, slots := kX.instanceTypes.map defaultValue, vm := .none } = T1 at X₁ st1
  have hcat : (Value.ref T.heap.size).category = 1 := rfl
  have hcellA : T1.heap[T.heap.size]? = some (freshCell cX kX) := by rw [← hT1]; exact State.heap_pushCell_size _ _
  have d3' : decode c.code (pc + 3) = .ok (.dup, 1) := by rw [hb]; exact d3
  have d4' : decode c.code (pc + 4) = .ok (.ldc is, 2) := by rw [hb]; exact d4
  have hstr' : vk_R own is text sa s' := vk_R.warm hW0 hstr
  obtain ⟨U, hsteps, hrun, hend, hW, hsame, ce, hce, hO⟩ := X₁.ctorThrowS hexec htr (own := own) (cls := cls) (names := names) (ic := ic) hown' hcls hnames h (fun x hx => nomatch hx) hfX hkX hcellA (by rw [hhp, hT]; exact Nat.le_refl _) (msg := .ref sa) rfl
    (g := { method := m, pc := pc + 6, locals := ls, stack := .ref sa :: .ref T.heap.size :: .ref T.heap.size :: rest, locked := none }) rfl hsize rfl rfl (rest := rest) rfl
    (by rw [hb]; exact d6) (by rw [hb]; exact d9) hout hRframes (by simp only [List.map_cons, List.sum_cons, hcat]; omega) hlocks
  obtain ⟨f1, f2⟩ := vx_frame hsame
  rw [hhp] at f1 f2
  have hWs : s.WarmedH U.vm := State.WarmedH.trans hW0 hW
  have hcl : s.vm.findClass cls = some ce.cls := by
    have h9 := hO.cls
    rw [hvm] at h9
    exact h9
  have hall : s.sameButNew ({ U with vm := s.vm } : State) locs mc ms := by
    subst hA
    obtain ⟨e1, e2⟩ := hsame
    rw [State.setFrames_setFrames] at e1
    have h2 : (T.setVm s.vm).sameButNew ({ U with vm := s.vm } : State) [] (0 + 1) (0 + 6) := ⟨e1, e2⟩
    have h3 := X.same.trans h2
    rw [List.append_nil] at h3
    exact h3.mono hc hs
  refine ⟨U, ?_, .threw T.heap.size, hrun, hend, Or.inr ⟨T.heap.size, rfl, cls, ce, locs, hx U hWs.alike f1 (fun q hq => f2 q hq (fun z hz => nomatch hz)), hce, hO.vm, hcl, hWs, hall, hf⟩⟩
  refine st1 _ ?_
  show Steps p.tables e below (T1.setTop { method := m, pc := pc + 3, locals := ls, stack := .ref T.heap.size :: rest, locked := none }) _
  jvm_step X₁.here [X₁.here.top, hexec, d3', Value.category]
  exact X₁.ldcString hexec (own := own) (text := text) (index := is) (a := sa) hown' hstr'.1 hstr'.2
    (g := { method := m, pc := pc + 4, locals := ls, stack := .ref T.heap.size :: .ref T.heap.size :: rest, locked := none }) rfl d4' _ hsteps
/-- 'throw new E("text")', the text by a wide index -/
theorem vx_throwSW {cc : ByteArray} {pc : Nat} (hexec : p.tables.exec = Jvm.exec) (hb : c.code = cc) (hl : l.stackTraces = false) {own cls text : String} {names : List String} {ik is ic mc ms sa : Nat} {A : Nat → Prop}
    (hown : s.vm.findClass own = some m.cls) (hcls : Bundle.fit cls = true) (hnames : ∀ n ∈ names, Bundle.fit n = true)
    (hk : (Cond.classLink own ik cls).before args s = true) (hini : (Cond.initialized cls).before args s = true) (hstr : vk_R own is text sa s) (hat : ∀ w ∈ vx_atS own ic cls names, w.before args s = true)
    (hgood : ∀ w ∈ Cond.classLink own ik cls :: Cond.initialized cls :: vx_atS own ic cls names, vx_ot w = true)
    (hU : vx_Zq Bundle.tN "UNASSIGNED_STACK" Bundle.steD A s s.heap) (hN : vx_Zq Bundle.tN "SUPPRESSED_SENTINEL" Bundle.listD A s s.heap) (hS : va_S A s.heap H locs) (hsize : ls.size = c.maxLocals)
    (d0 : decode cc pc = .ok (.new ik, 3)) (d3 : decode cc (pc + 3) = .ok (.dup, 1)) (d4 : decode cc (pc + 4) = .ok (.ldc_w is, 3)) (d7 : decode cc (pc + 7) = .ok (.invokespecial ic, 3)) (d10 : decode cc (pc + 10) = .ok (.athrow, 1))
    (hout : ∀ x ∈ c.exceptionTable.toList, covers x (pc + 10) = false)
    (hRframes : names.length + 3 < R.frames) (hRlocals : (rest.map fun v => v.category).sum + (13 * (names.length + 1) + 43) ≤ R.locals) (hRcells : cells + 1 ≤ R.cells) (hRslots : slots + 6 ≤ R.slots) (hlocks : meth.locks = false)
    (hx : ∀ t : State, s.vm.Alike t.vm → H.size ≤ t.heap.size → (∀ q : Nat, q < H.size → t.heap[q]? = H[q]?) → XC cls s t)
    (hf : ∀ z ∈ locs, free z.base) (hc : cells + 1 ≤ mc) (hs : slots + 6 ≤ ms) :
    W p l e R s m args below meth c H locs cells slots (vx_MQ below Qc XC args s mc ms free) (F0 m pc ls rest) := by
  intro T hT X
  have htr : e.platform.stackTraces = false := (show e.platform.stackTraces = l.stackTraces by rw [X.admits.platform]).trans hl
  have Y := vx_rebase X (R' := { frames := R.frames, locals := R.locals, cells := 1, slots := 6 }) (Nat.le_refl _) (Nat.le_refl _) hRcells hRslots
  obtain ⟨s', hA⟩ : ∃ z, z = (T.setVm s.vm).setFrames (.invoking m args :: below) := ⟨_, rfl⟩
  rw [← hA] at Y
  have hvm : s'.vm = s.vm := by rw [hA]; rfl
  have hhp : s'.heap = H := by rw [hA]; exact hT
  have hW0 : s.WarmedH s'.vm := by rw [hvm]; exact State.WarmedH.refl s
  have hat' : ∀ w ∈ vx_atS own ic cls names, w.before args s' = true := fun w hw => vx_ot_at hW0 hvm.symm (hgood w (List.mem_cons_of_mem _ (List.mem_cons_of_mem _ hw))) (hat w hw)
  have hk' : (Cond.classLink own ik cls).before args s' = true := vx_ot_at hW0 hvm.symm (hgood _ List.mem_cons_self) hk
  have hini' : (Cond.initialized cls).before args s' = true := vx_ot_at hW0 hvm.symm (hgood _ (List.mem_cons_of_mem _ List.mem_cons_self)) hini
  have hU' : vx_Zq Bundle.tN "UNASSIGNED_STACK" Bundle.steD A s' s'.heap := by rw [hhp]; exact vx_Zq.moved hW0.alike (hU.kept hS.2.1)
  have hN' : vx_Zq Bundle.tN "SUPPRESSED_SENTINEL" Bundle.listD A s' s'.heap := by rw [hhp]; exact vx_Zq.moved hW0.alike (hN.kept hS.2.1)
  have h : ∀ w ∈ Bundle.ownAtoms own ic cls names, w.before args s' = true := vx_own hat' (vx_isRefq hU'.1) (vx_isRefq hN'.1) hU'.2.word hN'.2.word
  have hown' : s'.vm.findClass own = some m.cls := by rw [hvm]; exact hown
  have hins : (Cond.instantiable cls 6).before args s' = true := h _ (by simp [Bundle.ownAtoms])
  obtain ⟨vm₁, cX, kX, hfX, hkX, -, -, X₁, st1⟩ := Y.newCold hexec (own := own) (C := cls) (index := ik) (n := 6) hown' hk' hins hini'
    (g := F0 m pc ls rest) rfl (by rw [hb]; exact d0) (Nat.le_refl _) (Nat.le_refl _)
  generalize hT1 : (T.setVm vm₁).pushCell { cls := cX, slots := kX.instanceTypes.map defaultValue, vm := .none } = T1 at X₁ st1
  have hcat : (Value.ref T.heap.size).category = 1 := rfl
  have hcellA : T1.heap[T.heap.size]? = some (freshCell cX kX) := by rw [← hT1]; exact State.heap_pushCell_size _ _
  have d3' : decode c.code (pc + 3) = .ok (.dup, 1) := by rw [hb]; exact d3
  have d4' : decode c.code (pc + 4) = .ok (.ldc_w is, 3) := by rw [hb]; exact d4
  have hstr' : vk_R own is text sa s' := vk_R.warm hW0 hstr
  obtain ⟨U, hsteps, hrun, hend, hW, hsame, ce, hce, hO⟩ := X₁.ctorThrowS hexec htr (own := own) (cls := cls) (names := names) (ic := ic) hown' hcls hnames h (fun x hx => nomatch hx) hfX hkX hcellA (by rw [hhp, hT]; exact Nat.le_refl _) (msg := .ref sa) rfl
    (g := { method := m, pc := pc + 7, locals := ls, stack := .ref sa :: .ref T.heap.size :: .ref T.heap.size :: rest, locked := none }) rfl hsize rfl rfl (rest := rest) rfl
    (by rw [hb]; exact d7) (by rw [hb]; exact d10) hout hRframes (by simp only [List.map_cons, List.sum_cons, hcat]; omega) hlocks
  obtain ⟨f1, f2⟩ := vx_frame hsame
  rw [hhp] at f1 f2
  have hWs : s.WarmedH U.vm := State.WarmedH.trans hW0 hW
  have hcl : s.vm.findClass cls = some ce.cls := by
    have h9 := hO.cls
    rw [hvm] at h9
    exact h9
  have hall : s.sameButNew ({ U with vm := s.vm } : State) locs mc ms := by
    subst hA
    obtain ⟨e1, e2⟩ := hsame
    rw [State.setFrames_setFrames] at e1
    have h2 : (T.setVm s.vm).sameButNew ({ U with vm := s.vm } : State) [] (0 + 1) (0 + 6) := ⟨e1, e2⟩
    have h3 := X.same.trans h2
    rw [List.append_nil] at h3
    exact h3.mono hc hs
  refine ⟨U, ?_, .threw T.heap.size, hrun, hend, Or.inr ⟨T.heap.size, rfl, cls, ce, locs, hx U hWs.alike f1 (fun q hq => f2 q hq (fun z hz => nomatch hz)), hce, hO.vm, hcl, hWs, hall, hf⟩⟩
  refine st1 _ ?_
  show Steps p.tables e below (T1.setTop { method := m, pc := pc + 3, locals := ls, stack := .ref T.heap.size :: rest, locked := none }) _
  jvm_step X₁.here [X₁.here.top, hexec, d3', Value.category]
  exact X₁.ldcStringW hexec (own := own) (text := text) (index := is) (a := sa) hown' hstr'.1 hstr'.2
    (g := { method := m, pc := pc + 4, locals := ls, stack := .ref T.heap.size :: .ref T.heap.size :: rest, locked := none }) rfl d4' _ hsteps
end Ends
section Bodies
variable {l : Launch}
theorem vx_ofW {y : MethodName} {ws ws' : List Cond} {rm : Room} {Pc : Array Value → State → Prop} {Qc : Array Value → State → Outcome → State → Prop} {XC : String → State → State → Prop} {mc ms : Nat} {free : Addr → Prop} {cc : ByteArray} {maxL : Nat} {ret : Option FieldType}
    (hy : plainName y.cls = true) (hw : ws = Cond.code y cc maxL ret :: ws')
    (body : ∀ p e s m args below meth c s₁, BodyLoose p l y (headSpec ws rm) cc maxL ret e s m args below meth c s₁ → c.maxLocals = maxL → (∀ x ∈ c.exceptionTable.toList, False) → Pc args s →
      W p l e (headSpec ws rm).room s m args below meth c s.heap [] 0 0 (vx_MQ below Qc XC args s mc ms free) (entryFrame m args maxL)) : vx_Met l y ws rm Pc Qc XC mc ms free := by
  refine MetFree.of_bodyS (code := cc) (maxLocals := maxL) (ret := ret) hy ?_ ?_
  · intro args s m h hn
    obtain ⟨meth, c, h1, h2, h3, h4, h5, h6, -, -⟩ := Cond.code_spec hn (atoms_spec (ws := ws) h _ (by rw [hw]; exact List.mem_cons_self))
    exact ⟨meth, c, h1, h2, h3, h4, h5, h6⟩
  · intro p e s m args below meth c s₁ B hml hP _
    have hh0 : s₁.heap = s.heap := by rw [B.state]; rfl
    have ht : ∀ x ∈ c.exceptionTable.toList, False := by
      obtain ⟨meth9, c9, h1, h2, -, -, -, -, h7, -⟩ := Cond.code_spec B.named (atoms_spec (ws := ws) B.pre _ (by rw [hw]; exact List.mem_cons_self))
      cases Option.some.inj (h1.symm.trans B.method)
      cases Option.some.inj (h2.symm.trans (Stand.of_body B).code)
      intro x hx
      rw [Array.isEmpty_iff.mp h7] at hx
      cases hx
    obtain ⟨t, a1, o, b1, b2, b3⟩ := body p e s m args below meth c s₁ B hml ht hP s₁ hh0 (Stand.of_body B)
    exact ⟨t, o, a1, b1, b2, b3⟩
/-- the table of a body with handlers -/
theorem vx_table {p : Program} {x y : MethodName} {S : Spec} {cc bytes : ByteArray} {maxL maxL' : Nat} {ret ret' : Option FieldType} {e : Env} {s s₁ : State} {m : MethodId} {args : Array Value} {below : List Frame} {meth : Method} {c : Code} {hh : List (Nat × Nat × Nat × Nat)}
    (B : BodyLoose p l y S cc maxL ret e s m args below meth c s₁) (h : (Cond.codeWith y bytes maxL' ret' hh).before args s = true) : c.exceptionTable.toList = tableOf hh := by
  obtain ⟨m9, meth9, c9, hn9, h1, h2, -, -, h6, -⟩ := Cond.codeWith_spec h
  cases Option.some.inj (hn9.symm.trans B.named)
  cases Option.some.inj (h1.symm.trans B.method)
  cases Option.some.inj (h2.symm.trans (Stand.of_body B).code)
  rw [← h6, table_eq]
end Bodies
end VXA
/-! ===== END ===== -/
/-! ===== BEGIN a static call of a method with an exception table ===== -/
section VXS
variable {p : Program} {l : Launch} {e : Env} {R : Room} {s : State} {m : MethodId} {args : Array Value} {below : List Frame} {meth : Method} {c : Code} {T : State} {H : Heap} {locs : List Loc} {cells slots : Nat}
abbrev vx_CSW (R : Room) (s : State) (args : Array Value) (own : String) (index : Nat) (y : MethodName) (bytes : ByteArray) (maxL : Nat) (ret : Option FieldType) (hh : List (Nat × Nat × Nat × Nat)) (ws : List Cond) (rm : Room) (mc ms n : Nat) : Prop :=
  (rm.cells = mc ∧ rm.slots = ms ∧ rm.frames + 1 ≤ R.frames ∧ 8 + (maxL + 11) + rm.locals ≤ R.locals ∧ (∀ w ∈ ws, ∀ (a' : Array Value) (U : State), s.WarmedH U.vm → w.before a' U = true) ∧ Cond.codeWith y bytes maxL ret hh ∈ ws) ∧
  (Cond.codeWith y bytes maxL ret hh).before args s = true ∧ (Cond.initialized y.cls).before args s = true ∧ (y.cls ≠ "java/lang/invoke/MethodHandle" ∧ y.cls ≠ "java/lang/invoke/VarHandle") ∧
  (∀ sig, parseMethodDescriptor y.desc = some sig → n = sig.parameters.length) ∧ (Cond.methodLink own index y).before args s = true ∧ (Cond.static y).before args s = true
theorem vx_cwSW {own : String} {index maxL mc ms : Nat} {y : MethodName} {bytes : ByteArray} {ret : Option FieldType} {hh : List (Nat × Nat × Nat × Nat)} {Ts ws ws' : List Cond} {rm : Room} (n : Nat) (ht : ∀ w ∈ Ts, w.before args s = true) (hT : GoodIn Ts (va_wsS own index y ws)) (hw : ws = Cond.codeWith y bytes maxL ret hh :: ws') (hrc : rm.cells = mc) (hrs : rm.slots = ms)
    (hd : y.cls ≠ "java/lang/invoke/MethodHandle" ∧ y.cls ≠ "java/lang/invoke/VarHandle" ∧ (parseMethodDescriptor y.desc).map (fun d => d.parameters.length) = some n) (hR : rm.frames + 1 ≤ R.frames ∧ 8 + (maxL + 11) + rm.locals ≤ R.locals) :
    vx_CSW R s args own index y bytes maxL ret hh ws rm mc ms n := by
  have ok : ∀ w ∈ va_wsS own index y ws, w.before args s = true := fun w h => ht w (hT w h).1
  have hG : GoodIn Ts ws := fun w h => hT w (by unfold va_wsS; exact List.mem_append_right _ h)
  have hc : Cond.codeWith y bytes maxL ret hh ∈ ws := by rw [hw]; exact List.mem_cons_self
  refine ⟨⟨hrc, hrs, hR.1, hR.2, pay_in ht hG, hc⟩, ht _ (hG _ hc).1, ok _ (by simp [va_wsS]), ⟨hd.1, hd.2.1⟩, fun sig h => ?_, ok _ (by simp [va_wsS]), ok _ (by simp [va_wsS])⟩
  have h2 := hd.2.2
  rw [h] at h2
  exact (Option.some.inj h2).symm
theorem vx_callSW (X : Stand p l e R s m args below meth c T locs cells slots) (hexec : p.tables.exec = Jvm.exec) {own : String} {index : Nat} {y : MethodName} {bytes : ByteArray} {maxL : Nat} {ret : Option FieldType} {hh : List (Nat × Nat × Nat × Nat)}
    (hown : s.vm.findClass own = some m.cls) (hlink : (Cond.methodLink own index y).before args s = true) (hstat : (Cond.static y).before args s = true) (hinit : (Cond.initialized y.cls).before args s = true)
    (hcode : (Cond.codeWith y bytes maxL ret hh).before args s = true) (hy : y.cls ≠ "java/lang/invoke/MethodHandle" ∧ y.cls ≠ "java/lang/invoke/VarHandle")
    {W9 : Nat} {Pre : Pt → Array Value → Prop} {Post : Pt → Array Value → Option Value → Pt → Prop} (hK : Back l R p e below s args y 3 W9 Pre Post)
    {g : JFrame} (hg : g.method = m) (hsize : g.locals.size = c.maxLocals) {argsL rest : List Value} (hlen : ∀ sig, parseMethodDescriptor y.desc = some sig → argsL.length = sig.parameters.length)
    (hstack : g.stack = argsL.reverse ++ rest) (hW : 2 * g.monitorRoom + (rest.map fun v => v.category).sum ≤ W9) (hdg : decode c.code g.pc = .ok (.invokestatic index, 3))
    (hpre : ∀ vm₁, s.WarmedH vm₁ → Pre ⟨T.setVm vm₁, locs, cells, slots⟩ argsL.toArray) :
    ∃ (v : Option Value) (vm₁ : Vm) (B : Pt), s.WarmedH vm₁ ∧ Stand p l e R s m args below meth c B.U B.locs B.cells B.slots ∧ Post ⟨T.setVm vm₁, locs, cells, slots⟩ argsL.toArray v B ∧
      ∀ target, Steps p.tables e below (B.U.setTop { g with pc := g.pc + 3, stack := v.toList ++ rest }) target → Steps p.tables e below (T.setTop g) target := by
  obtain ⟨mk, methM, cM, hnamed, hmethM, -, -, -, -, -, -, hsigM⟩ := Cond.codeWith_spec hcode
  have hstatic : methM.isStatic = true := Cond.static_spec hnamed hmethM hstat
  obtain ⟨kP, hkP, -⟩ := className_of_methodNamed hnamed
  have hinitP : kP.init = .initialized := Cond.initialized_spec (findClass_of_methodNamed hnamed) hkP hinit
  obtain ⟨vm₁, X₁, hstep₁⟩ := X.invokestatic hexec hown hlink hnamed hmethM hstatic hkP hinitP hy (g := g) hg (argsL := argsL) (rest := rest) (hlen _ hsigM) hstack hdg
  obtain ⟨v, B, X', hpost, hsteps⟩ := hK m meth c ⟨T.setVm vm₁, locs, cells, slots⟩ { g with stack := rest } (.invokestatic index) mk argsL.toArray X₁ hg hsize hdg hW (X₁.named hnamed) (hpre vm₁ X₁.warmed)
  exact ⟨v, vm₁, B, X₁.warmed, X', hpost, fun target h => hstep₁ _ fun acts => by rw [doInvoke_state]; exact hsteps.trans h⟩
theorem vx_runSW {y : MethodName} {bytes cc : ByteArray} {maxL nL mc ms n index : Nat} {ret : Option FieldType} {hh : List (Nat × Nat × Nat × Nat)} {ws : List Cond} {rm : Room} {Pc : Array Value → State → Prop} {Qc : Array Value → State → Outcome → State → Prop} {free : Addr → Prop} {Ts : List Cond} {own : String} {As rest : List Value} {g : JFrame}
    (S : CallFix p m c cc nL s args Ts own) (hM : Met l y ws rm Pc Qc mc ms free) (cw : vx_CSW R s args own index y bytes maxL ret hh ws rm mc ms n) (hp : PreS s H Pc As)
    (hg : g.method = m) (hn : As.length = n) (hsize : g.locals.size = nL) (hstack : g.stack = As.reverse ++ rest) (hW : 2 * g.monitorRoom + (rest.map fun v => v.category).sum ≤ 8) (hdg : decode cc g.pc = .ok (.invokestatic index, 3)) (hf : cells + mc ≤ R.cells ∧ slots + ms ≤ R.slots) :
    va_Run p l e R s m args below meth c H locs cells slots mc ms g rest (Qc As.toArray) (free) := by
  obtain ⟨⟨hrc, hrs, hfr, hlo, hws, hcw⟩, hcode, hini, hy, hlen, hl, hstt⟩ := cw
  have hK : Back l R p e below s args y 3 8 (PreOf R mc ms Pc) (PostOf Qc mc ms free) := va_backW (hh := hh) (bytes := bytes) (maxL := maxL) (ret := ret) hM hp.1 hrc hrs hfr hlo hws hcw (fun a' U hW => word_at hW (Or.inl (by first | rfl | simp [Cond.onTables, Cond.keeps, Cond.steady])) hini)
  obtain ⟨hx, hb, hml, ho, -⟩ := S
  intro T hT X
  obtain ⟨v, vm₁, ⟨U', l2, c2, s2⟩, hW₁, X', ⟨g', mk, t, L, e1, e2, hq, h1, hL, h2, h3⟩, st⟩ := vx_callSW X hx (hh := hh) (bytes := bytes) (maxL := maxL) (ret := ret) ho hl hstt hini hcode hy hK hg (hsize.trans hml.symm) (argsL := As) (rest := rest) (fun sig h => hn.trans (hlen sig h)) hstack hW (by rw [hb]; exact hdg)
    (fun vm₁ hW₁ => ⟨hf.1, hf.2, hp.2 (T.setVm vm₁) hT hW₁⟩)
  dsimp only [Pt.U, Pt.locs, Pt.cells, Pt.slots] at X' e1 e2 h1 h2 h3 st
  subst h1; subst h2; subst h3
  exact ⟨v, (T.setVm vm₁).calling g' mk As.toArray, t, U', L, hT, X', hL, e1, e2, hq, st⟩
/-- not caught here, past rows that name other classes: it goes on to the caller -/
theorem vx_outP {p : Program} {l : Launch} {e : Env} {R : Room} {s : State} {m : MethodId} {args : Array Value} {below : List Frame} {meth : Method} {c : Code} {H : Heap} {locs : List Loc} {cells slots : Nat} {free : Addr → Prop} {ls : Array Slot} {rest : List Value} {Qc : Array Value → State → Outcome → State → Prop} {XC : String → State → State → Prop}
    {pc : Nat} {own E : String} {ce : Cell} {q : Addr} {mc ms : Nat} (hown : s.vm.findClass own = some m.cls) (hlocks : meth.locks = false)
    (hpass : ∀ z ∈ c.exceptionTable.toList, covers z pc = false ∨ (z.catchType ≠ 0 ∧ ∃ nm : String, (Cond.classLink own z.catchType nm).before args s = true ∧ va_Nc E nm s)) (hcell : H[q]? = some ce) (hv : ce.vm = .none) (hcl : s.vm.findClass E = some ce.cls)
    (hx : ∀ t : State, t.heap = H → s.vm.Alike t.vm → XC E s t) (hf : ∀ z ∈ locs, free z.base) (hc : cells ≤ mc) (hs : slots ≤ ms) :
    vx_W p l e R s m args below meth c H locs cells slots (vx_MQ below Qc XC args s mc ms free) (F0 m pc ls rest) q := by
  intro T hT X
  have hpl : e.platform.magicAccessors = ({} : Platform).magicAccessors := by rw [X.admits.platform]
  obtain ⟨vm', hW', X', st⟩ := X.outThrough hlocks q (g := F0 m pc ls rest) rfl rfl rfl (cell := ce) (by rw [hT]; exact hcell) (by rw [hv]; rfl)
    (by obtain ⟨k9, h9, -⟩ := Vm.findClass_spec hcl; exact ⟨k9, h9⟩) (fun z hz => by
      rcases hpass z hz with h | ⟨hz0, nm, hl1, hn1⟩
      · exact Or.inl h
      · obtain ⟨c6, hc6, hcl6⟩ := Cond.classLink_spec hown hl1 e.platform hpl
        obtain ⟨a8, b8, h1, h2, h3⟩ := hn1
        cases Option.some.inj (h1.symm.trans hcl)
        cases Option.some.inj (h2.symm.trans hc6)
        exact Or.inr ⟨hz0, _, hcl6, h3⟩)
  obtain ⟨g₀, hfr⟩ := X'.frames_eq
  have hcell9 : ((T.setVm vm').setFrames (.throwing q :: below)).heap[q]? = some ce := by
    show T.heap[q]? = some ce
    rw [hT]; exact hcell
  have hend : Ended ((T.setVm vm').setFrames (.throwing q :: below)) below (.threw q) := State.frames_setFrames _ (State.cur_lt_of_frames hfr)
  refine ⟨(T.setVm vm').setFrames (.throwing q :: below), ?_, .threw q, X'.here.running, hend, Or.inr ⟨q, rfl, E, ce, locs, hx _ hT (X'.ends _).1.alike, hcell9, hv, hcl, (X'.ends _).1, (X'.ends _).2.mono hc hs, hf⟩⟩
  rw [X.pushThrowing_eq]
  exact st
/-- a thing of a world lies in the heap -/
theorem vx_lt {D : va_G} {cl : List vw_C} {ws : va_W} {H1 : Heap} (h : va_P D cl ws H1) {k : Nat} {q : Nat × va_E} (hk : ws[k]? = some q) : q.1 < H1.size := (h k q hk).lt
end VXS
/-! ===== END ===== -/
/-! ===== BEGIN methods with a table of their own: called by a name, returning or throwing ===== -/
section VXH
/-! vx_backW, vx_callVX, vx_callSX, vx_callVW, vx_runVW, vx_runVX, vx_runSX, vx_ofWH follow the same proofs as their sisters above (Free/Laws.lean, Shelf42/LK1.lean); vx_outP calls Shelf42/NT130.lean (outThrough). -/
section
variable {l : Launch} {R : Room} {p : Program} {e : Env} {below : List Frame} {s : State} {sargs : Array Value} {y : MethodName} {len W9 : Nat}
theorem vx_backW {ws : List Cond} {rm : Room} {Pc : Array Value → State → Prop} {Qc : Array Value → State → Outcome → State → Prop} {XC : String → State → State → Prop} {mc ms : Nat} {free : Addr → Prop} {bytes : ByteArray} {maxL : Nat} {ret : Option FieldType} {hh : List (Nat × Nat × Nat × Nat)}
    (hM : vx_Met l y ws rm Pc Qc XC mc ms free) (hblind : FrameBlind Pc) (hrc : rm.cells = mc) (hrs : rm.slots = ms)
    (hframes : rm.frames + 1 ≤ R.frames) (hlocals : W9 + (maxL + 11) + rm.locals ≤ R.locals)
    (hws : ∀ w ∈ ws, ∀ a' U, s.WarmedH U.vm → w.before a' U = true) (hcode : Cond.codeWith y bytes maxL ret hh ∈ ws) (hinit : ∀ a' U, s.WarmedH U.vm → (Cond.initialized y.cls).before a' U = true) :
    vx_Back l R p e below s sargs y len W9 (PreOf R mc ms Pc) (PostOf Qc mc ms free) (vx_Post XC mc ms free) := by
  intro m meth c A g ig mk a X hg hsize hdg hW hn hp
  have h1 : (headSpec ws rm).pre.before a A.U = true := atoms_intro fun w hw => hws w hw _ _ X.warmed
  have h2 : (Cond.codeWith y bytes maxL ret hh).before a A.U = true := hws _ hcode _ _ X.warmed
  have h3 : (Cond.initialized y.cls).before a A.U = true := hinit _ _ X.warmed
  have h4 : A.cells + (headSpec ws rm).room.cells ≤ R.cells := by rw [show (headSpec ws rm).room.cells = mc from hrc]; exact hp.1
  have h5 : A.slots + (headSpec ws rm).room.slots ≤ R.slots := by rw [show (headSpec ws rm).room.slots = ms from hrs]; exact hp.2.1
  have hPc : Pc a (A.U.calling g mk a) := hblind _ _ _ _ hp.2.2
  obtain ⟨U, Ls, c0, s0⟩ := A
  dsimp only [Pt.U, Pt.locs, Pt.cells, Pt.slots] at h1 h2 h3 h4 h5 X hn hPc ⊢
  obtain ⟨m9, methY, cY, hn9, hmY, hcY, -, hlY, -⟩ := Cond.codeWith_spec h2
  cases Option.some.inj (hn9.symm.trans hn)
  obtain ⟨kY, hkY, -⟩ := className_of_methodNamed hn
  have hinitY : kY.init = .initialized := Cond.initialized_spec (findClass_of_methodNamed hn) hkY h3
  have h : At U g.method c below := by rw [hg]; exact X.here
  have hlocals9 : W9 + (maxL + 11) + (headSpec ws rm).room.locals ≤ R.locals := hlocals
  have happ : (headSpec ws rm).appliesLoose y e.platform (U.calling g mk a) = true :=
    Spec.appliesLoose_calling (g := g) h hdg hn hkY hinitY
      (X.room_calling (g := g) (R' := (headSpec ws rm).room) hsize hmY hcY hframes (by rw [hlY]; omega) h4 h5) h1
  obtain ⟨mid, hmid⟩ := h.above
  have hfr : (U.setTop g).frames = (.java g :: mid) ++ below := by rw [State.frames_setTop' g h.top, hmid]; rfl
  obtain ⟨o, s₂, hsteps, -, hend, hq⟩ := Steps.callFree hM p X.admits X.cas X.clock (acts := []) hfr happ hPc trivial
  have hq' : vx_Q Qc XC mc ms free a (U.calling g mk a) o s₂ := hq
  rw [State.frames_setTop' g h.top] at hend
  obtain ⟨g₀, hg0⟩ := Option.isSome_iff_exists.mp h.top
  obtain ⟨r, hr⟩ := State.topJava?_eq_some.mp hg0
  have hr' : (({ U with heap := s₂.heap, slotsUsed := s₂.slotsUsed } : State).setVm s₂.vm).frames = .java g₀ :: r := hr
  rcases hq' with ⟨hqc, L, hfe, hL⟩ | ⟨q, rfl, E, ce, L, hx, hce, hcv, hcl, hW₂, hsm, hL⟩
  · obtain ⟨⟨v, rfl⟩, hW₂, e2, q2, q3, q4, q5, q6⟩ := id hfe
    have e3 : s₂ = ({ (U.calling g mk a).setFrames s₂.frames with heap := s₂.heap, slotsUsed := s₂.slotsUsed } : State).setVm s₂.vm := by
      have : s₂ = ({ s₂ with vm := (U.calling g mk a).vm } : State).setVm s₂.vm := rfl
      rw [e2] at this
      exact this
    obtain ⟨c₂, i₂, len₂, hc₂, hd₂, hf₂⟩ := hend
    have hW' : U.WarmedH s₂.vm := hW₂
    have hcc : c₂ = c := by
      have h1 : s₂.code? g.method = U.code? g.method := by
        rw [State.code?_eq, State.code?_eq, hW'.alike.method?]
      exact Option.some.inj (hc₂.symm.trans (h1.trans h.code))
    subst hcc
    have hlen : len₂ = len := by rw [hdg] at hd₂; cases hd₂; rfl
    subst hlen
    have hs₂ : s₂ = (({ U with heap := s₂.heap, slotsUsed := s₂.slotsUsed } : State).setVm s₂.vm).setTop { g with pc := g.pc + len₂, stack := v.toList ++ g.stack } := by
      refine e3.trans ?_
      rw [hf₂, State.calling_eq h.top, State.setFrames_setFrames, State.setTop_of_frames _ hr', hr]
      rfl
    have hsame : U.sameButNew ({ U with heap := s₂.heap, slotsUsed := s₂.slotsUsed } : State) L mc ms := by
      refine ⟨?_, q2, q3, q4, q5, q6⟩
      obtain ⟨t, ht, -⟩ := State.frames_cons hr
      show ({ U with heap := s₂.heap, slotsUsed := s₂.slotsUsed } : State) = { U.setFrames U.frames with heap := s₂.heap, slotsUsed := s₂.slotsUsed }
      rw [State.setFrames_self ht]
    subst hg
    refine Or.inl ⟨v, ⟨(({ U with heap := s₂.heap, slotsUsed := s₂.slotsUsed } : State).setVm s₂.vm), Ls ++ L, c0 + mc, s0 + ms⟩,
      ⟨X.admits, X.cas, X.clock, X.frames, X.room, X.hears, X.method, X.code, (X.here.setHeapUsed s₂.heap s₂.slotsUsed).setVm hW'.alike, X.tail, State.WarmedH.trans X.warmed hW', X.limits, X.bytes, X.same.trans (hsame.setVm s.vm)⟩,
      ⟨g, mk, s₂, L, rfl, rfl, hqc, rfl, hL, rfl, rfl⟩, ?_⟩
    show Steps p.tables e below _ ((({ U with heap := s₂.heap, slotsUsed := s₂.slotsUsed } : State).setVm s₂.vm).setTop { g with pc := g.pc + len₂, stack := v.toList ++ g.stack })
    rw [← hs₂]
    exact hsteps
  · obtain ⟨e2, q2, q3, q4, q5, q6⟩ := id hsm
    have e3 : s₂ = ({ (U.calling g mk a).setFrames s₂.frames with heap := s₂.heap, slotsUsed := s₂.slotsUsed } : State).setVm s₂.vm := by
      have : s₂ = ({ s₂ with vm := (U.calling g mk a).vm } : State).setVm s₂.vm := rfl
      rw [e2] at this
      exact this
    have hf₂ : s₂.frames = .throwing q :: .java g :: U.frames.tail := hend
    have hW' : U.WarmedH s₂.vm := hW₂
    have hs₂ : s₂ = ((({ U with heap := s₂.heap, slotsUsed := s₂.slotsUsed } : State).setVm s₂.vm).setTop g).pushFrame (.throwing q) := by
      refine e3.trans ?_
      rw [hf₂, State.calling_eq h.top, State.setFrames_setFrames, State.pushFrame, State.frames_setTop _ hr', State.setTop_of_frames _ hr', State.setFrames_setFrames, hr]
      rfl
    have hsame : U.sameButNew ({ U with heap := s₂.heap, slotsUsed := s₂.slotsUsed } : State) L mc ms := by
      refine ⟨?_, q2, q3, q4, q5, q6⟩
      obtain ⟨t, ht, -⟩ := State.frames_cons hr
      show ({ U with heap := s₂.heap, slotsUsed := s₂.slotsUsed } : State) = { U.setFrames U.frames with heap := s₂.heap, slotsUsed := s₂.slotsUsed }
      rw [State.setFrames_self ht]
    subst hg
    refine Or.inr ⟨q, ⟨(({ U with heap := s₂.heap, slotsUsed := s₂.slotsUsed } : State).setVm s₂.vm), Ls ++ L, c0 + mc, s0 + ms⟩,
      ⟨X.admits, X.cas, X.clock, X.frames, X.room, X.hears, X.method, X.code, (X.here.setHeapUsed s₂.heap s₂.slotsUsed).setVm hW'.alike, X.tail, State.WarmedH.trans X.warmed hW', X.limits, X.bytes, X.same.trans (hsame.setVm s.vm)⟩,
      ⟨g, mk, s₂, L, E, ce, rfl, rfl, hx, hce, hcv, hcl, rfl, hL, rfl, rfl⟩, ?_⟩
    show Steps p.tables e below _ (((({ U with heap := s₂.heap, slotsUsed := s₂.slotsUsed } : State).setVm s₂.vm).setTop g).pushFrame (.throwing q))
    rw [← hs₂]
    exact hsteps
end
variable {p : Program} {l : Launch} {e : Env} {R : Room} {s : State} {m : MethodId} {args : Array Value} {below : List Frame} {meth : Method} {c : Code} {T : State} {H : Heap} {locs : List Loc} {cells slots : Nat}
theorem vx_callVX (X : Stand p l e R s m args below meth c T locs cells slots) (hexec : p.tables.exec = Jvm.exec) {own C : String} {index : Nat} {y : MethodName} {bytes : ByteArray} {maxL : Nat} {ret : Option FieldType} {hh : List (Nat × Nat × Nat × Nat)}
    (hown : s.vm.findClass own = some m.cls) (hlink : (Cond.methodLink own index y).before args s = true) (hinst : (Cond.instanceMethod y).before args s = true) (hsel : (Cond.selects C y y).before args s = true)
    (hcode : (Cond.codeWith y bytes maxL ret hh).before args s = true) (hy : y.cls ≠ "java/lang/invoke/MethodHandle" ∧ y.cls ≠ "java/lang/invoke/VarHandle")
    {W9 : Nat} {Pre : Pt → Array Value → Prop} {Post : Pt → Array Value → Option Value → Pt → Prop} {PostX : Pt → Array Value → Addr → Pt → Prop} (hK : vx_Back l R p e below s args y 3 W9 Pre Post PostX)
    {b : Addr} {cellB : Cell} (hcell : T.heap[b]? = some cellB) (hobj : cellB.vm.isStatics = false) (hcls : s.vm.findClass C = some cellB.cls)
    {g : JFrame} (hg : g.method = m) (hsize : g.locals.size = c.maxLocals) {argsL rest : List Value} (hlen : ∀ sig, parseMethodDescriptor y.desc = some sig → argsL.length = sig.parameters.length)
    (hstack : g.stack = argsL.reverse ++ .ref b :: rest) (hW : 2 * g.monitorRoom + (rest.map fun v => v.category).sum ≤ W9) (hdg : decode c.code g.pc = .ok (.invokevirtual index, 3))
    (hpre : ∀ vm₁, s.WarmedH vm₁ → Pre ⟨T.setVm vm₁, locs, cells, slots⟩ (Value.ref b :: argsL).toArray) :
    (∃ (v : Option Value) (vm₁ : Vm) (B : Pt), s.WarmedH vm₁ ∧ Stand p l e R s m args below meth c B.U B.locs B.cells B.slots ∧ Post ⟨T.setVm vm₁, locs, cells, slots⟩ (Value.ref b :: argsL).toArray v B ∧
      ∀ target, Steps p.tables e below (B.U.setTop { g with pc := g.pc + 3, stack := v.toList ++ rest }) target → Steps p.tables e below (T.setTop g) target) ∨
    (∃ (q : Addr) (vm₁ : Vm) (B : Pt), s.WarmedH vm₁ ∧ Stand p l e R s m args below meth c B.U B.locs B.cells B.slots ∧ PostX ⟨T.setVm vm₁, locs, cells, slots⟩ (Value.ref b :: argsL).toArray q B ∧
      Steps p.tables e below (T.setTop g) ((B.U.setTop { g with stack := rest }).pushFrame (.throwing q))) := by
  obtain ⟨mk, methM, hnamed, hmethM, hstM, habM⟩ := Cond.instanceMethod_spec hinst
  obtain ⟨m8, methM', cM, hn8, hmethM', -, -, -, -, -, -, hsigM⟩ := Cond.codeWith_spec hcode
  cases Option.some.inj (hn8.symm.trans hnamed)
  cases hmethM.symm.trans hmethM'
  obtain ⟨c2, r2, m2, q1, q2, q3, q4, kP, hkP, hkPi⟩ := Cond.selects_spec hsel
  cases hcls.symm.trans q1
  cases (State.methodFound?_of_named hnamed hy).symm.trans q2
  cases hnamed.symm.trans q3
  have hselP : selectMethod e.platform s.vm cellB.cls mk = .method mk := by rw [Launch.admits_selectMethod X.admits]; exact q4
  obtain ⟨vm₁, X₁, hstep₁⟩ := X.invokevirtual hexec hown hlink hnamed hmethM hstM hkP hkPi hy (a := b) (cell := cellB) hcell
    (fun z h => by rw [h] at hobj; cases hobj) hselP hmethM habM hkP hkPi (g := g) hg (argsL := argsL) (rest := rest) (hlen _ hsigM) hstack hdg
  rcases hK m meth c ⟨T.setVm vm₁, locs, cells, slots⟩ { g with stack := rest } (.invokevirtual index) mk (Value.ref b :: argsL).toArray X₁ hg hsize hdg hW (X₁.named hnamed) (hpre vm₁ X₁.warmed) with ⟨v, B, X', hpost, hsteps⟩ | ⟨q, B, X', hpost, hsteps⟩
  · exact Or.inl ⟨v, vm₁, B, X₁.warmed, X', hpost, fun target h => hstep₁ _ fun acts => by rw [doInvoke_state]; exact hsteps.trans h⟩
  · exact Or.inr ⟨q, vm₁, B, X₁.warmed, X', hpost, hstep₁ _ fun acts => by rw [doInvoke_state]; exact hsteps⟩
theorem vx_callSX (X : Stand p l e R s m args below meth c T locs cells slots) (hexec : p.tables.exec = Jvm.exec) {own : String} {index : Nat} {y : MethodName} {bytes : ByteArray} {maxL : Nat} {ret : Option FieldType} {hh : List (Nat × Nat × Nat × Nat)}
    (hown : s.vm.findClass own = some m.cls) (hlink : (Cond.methodLink own index y).before args s = true) (hstat : (Cond.static y).before args s = true) (hinit : (Cond.initialized y.cls).before args s = true)
    (hcode : (Cond.codeWith y bytes maxL ret hh).before args s = true) (hy : y.cls ≠ "java/lang/invoke/MethodHandle" ∧ y.cls ≠ "java/lang/invoke/VarHandle")
    {W9 : Nat} {Pre : Pt → Array Value → Prop} {Post : Pt → Array Value → Option Value → Pt → Prop} {PostX : Pt → Array Value → Addr → Pt → Prop} (hK : vx_Back l R p e below s args y 3 W9 Pre Post PostX)
    {g : JFrame} (hg : g.method = m) (hsize : g.locals.size = c.maxLocals) {argsL rest : List Value} (hlen : ∀ sig, parseMethodDescriptor y.desc = some sig → argsL.length = sig.parameters.length)
    (hstack : g.stack = argsL.reverse ++ rest) (hW : 2 * g.monitorRoom + (rest.map fun v => v.category).sum ≤ W9) (hdg : decode c.code g.pc = .ok (.invokestatic index, 3))
    (hpre : ∀ vm₁, s.WarmedH vm₁ → Pre ⟨T.setVm vm₁, locs, cells, slots⟩ argsL.toArray) :
    (∃ (v : Option Value) (vm₁ : Vm) (B : Pt), s.WarmedH vm₁ ∧ Stand p l e R s m args below meth c B.U B.locs B.cells B.slots ∧ Post ⟨T.setVm vm₁, locs, cells, slots⟩ argsL.toArray v B ∧
      ∀ target, Steps p.tables e below (B.U.setTop { g with pc := g.pc + 3, stack := v.toList ++ rest }) target → Steps p.tables e below (T.setTop g) target) ∨
    (∃ (q : Addr) (vm₁ : Vm) (B : Pt), s.WarmedH vm₁ ∧ Stand p l e R s m args below meth c B.U B.locs B.cells B.slots ∧ PostX ⟨T.setVm vm₁, locs, cells, slots⟩ argsL.toArray q B ∧
      Steps p.tables e below (T.setTop g) ((B.U.setTop { g with stack := rest }).pushFrame (.throwing q))) := by
  obtain ⟨mk, methM, cM, hnamed, hmethM, -, -, -, -, -, -, hsigM⟩ := Cond.codeWith_spec hcode
  have hstatic : methM.isStatic = true := Cond.static_spec hnamed hmethM hstat
  obtain ⟨kP, hkP, -⟩ := className_of_methodNamed hnamed
  have hinitP : kP.init = .initialized := Cond.initialized_spec (findClass_of_methodNamed hnamed) hkP hinit
  obtain ⟨vm₁, X₁, hstep₁⟩ := X.invokestatic hexec hown hlink hnamed hmethM hstatic hkP hinitP hy (g := g) hg (argsL := argsL) (rest := rest) (hlen _ hsigM) hstack hdg
  rcases hK m meth c ⟨T.setVm vm₁, locs, cells, slots⟩ { g with stack := rest } (.invokestatic index) mk argsL.toArray X₁ hg hsize hdg hW (X₁.named hnamed) (hpre vm₁ X₁.warmed) with ⟨v, B, X', hpost, hsteps⟩ | ⟨q, B, X', hpost, hsteps⟩
  · exact Or.inl ⟨v, vm₁, B, X₁.warmed, X', hpost, fun target h => hstep₁ _ fun acts => by rw [doInvoke_state]; exact hsteps.trans h⟩
  · exact Or.inr ⟨q, vm₁, B, X₁.warmed, X', hpost, hstep₁ _ fun acts => by rw [doInvoke_state]; exact hsteps⟩
theorem vx_callVW (X : Stand p l e R s m args below meth c T locs cells slots) (hexec : p.tables.exec = Jvm.exec) {own C : String} {index : Nat} {y : MethodName} {bytes : ByteArray} {maxL : Nat} {ret : Option FieldType} {hh : List (Nat × Nat × Nat × Nat)}
    (hown : s.vm.findClass own = some m.cls) (hlink : (Cond.methodLink own index y).before args s = true) (hinst : (Cond.instanceMethod y).before args s = true) (hsel : (Cond.selects C y y).before args s = true)
    (hcode : (Cond.codeWith y bytes maxL ret hh).before args s = true) (hy : y.cls ≠ "java/lang/invoke/MethodHandle" ∧ y.cls ≠ "java/lang/invoke/VarHandle")
    {W9 : Nat} {Pre : Pt → Array Value → Prop} {Post : Pt → Array Value → Option Value → Pt → Prop} (hK : Back l R p e below s args y 3 W9 Pre Post)
    {b : Addr} {cellB : Cell} (hcell : T.heap[b]? = some cellB) (hobj : cellB.vm.isStatics = false) (hcls : s.vm.findClass C = some cellB.cls)
    {g : JFrame} (hg : g.method = m) (hsize : g.locals.size = c.maxLocals) {argsL rest : List Value} (hlen : ∀ sig, parseMethodDescriptor y.desc = some sig → argsL.length = sig.parameters.length)
    (hstack : g.stack = argsL.reverse ++ .ref b :: rest) (hW : 2 * g.monitorRoom + (rest.map fun v => v.category).sum ≤ W9) (hdg : decode c.code g.pc = .ok (.invokevirtual index, 3))
    (hpre : ∀ vm₁, s.WarmedH vm₁ → Pre ⟨T.setVm vm₁, locs, cells, slots⟩ (Value.ref b :: argsL).toArray) :
    ∃ (v : Option Value) (vm₁ : Vm) (B : Pt), s.WarmedH vm₁ ∧ Stand p l e R s m args below meth c B.U B.locs B.cells B.slots ∧ Post ⟨T.setVm vm₁, locs, cells, slots⟩ (Value.ref b :: argsL).toArray v B ∧
      ∀ target, Steps p.tables e below (B.U.setTop { g with pc := g.pc + 3, stack := v.toList ++ rest }) target → Steps p.tables e below (T.setTop g) target := by
  obtain ⟨mk, methM, hnamed, hmethM, hstM, habM⟩ := Cond.instanceMethod_spec hinst
  obtain ⟨m8, methM', cM, hn8, hmethM', -, -, -, -, -, -, hsigM⟩ := Cond.codeWith_spec hcode
  cases Option.some.inj (hn8.symm.trans hnamed)
  cases hmethM.symm.trans hmethM'
  obtain ⟨c2, r2, m2, q1, q2, q3, q4, kP, hkP, hkPi⟩ := Cond.selects_spec hsel
  cases hcls.symm.trans q1
  cases (State.methodFound?_of_named hnamed hy).symm.trans q2
  cases hnamed.symm.trans q3
  have hselP : selectMethod e.platform s.vm cellB.cls mk = .method mk := by rw [Launch.admits_selectMethod X.admits]; exact q4
  obtain ⟨vm₁, X₁, hstep₁⟩ := X.invokevirtual hexec hown hlink hnamed hmethM hstM hkP hkPi hy (a := b) (cell := cellB) hcell
    (fun z h => by rw [h] at hobj; cases hobj) hselP hmethM habM hkP hkPi (g := g) hg (argsL := argsL) (rest := rest) (hlen _ hsigM) hstack hdg
  obtain ⟨v, B, X', hpost, hsteps⟩ := hK m meth c ⟨T.setVm vm₁, locs, cells, slots⟩ { g with stack := rest } (.invokevirtual index) mk (Value.ref b :: argsL).toArray X₁ hg hsize hdg hW (X₁.named hnamed) (hpre vm₁ X₁.warmed)
  exact ⟨v, vm₁, B, X₁.warmed, X', hpost, fun target h => hstep₁ _ fun acts => by rw [doInvoke_state]; exact hsteps.trans h⟩
abbrev vx_CVW (R : Room) (s : State) (args : Array Value) (own C : String) (index : Nat) (y : MethodName) (bytes : ByteArray) (maxL : Nat) (ret : Option FieldType) (hh : List (Nat × Nat × Nat × Nat)) (ws : List Cond) (rm : Room) (mc ms n : Nat) : Prop :=
  (rm.cells = mc ∧ rm.slots = ms ∧ rm.frames + 1 ≤ R.frames ∧ 8 + (maxL + 11) + rm.locals ≤ R.locals ∧ (∀ w ∈ ws, ∀ (a' : Array Value) (U : State), s.WarmedH U.vm → w.before a' U = true) ∧ Cond.codeWith y bytes maxL ret hh ∈ ws) ∧
  (Cond.codeWith y bytes maxL ret hh).before args s = true ∧ (Cond.initialized y.cls).before args s = true ∧ (y.cls ≠ "java/lang/invoke/MethodHandle" ∧ y.cls ≠ "java/lang/invoke/VarHandle") ∧
  (∀ sig, parseMethodDescriptor y.desc = some sig → n = sig.parameters.length) ∧ (Cond.methodLink own index y).before args s = true ∧ (Cond.instanceMethod y).before args s = true ∧ (Cond.selects C y y).before args s = true
theorem vx_cwVW {own C : String} {index maxL mc ms : Nat} {y : MethodName} {bytes : ByteArray} {ret : Option FieldType} {hh : List (Nat × Nat × Nat × Nat)} {Ts ws ws' : List Cond} {rm : Room} (n : Nat) (ht : ∀ w ∈ Ts, w.before args s = true) (hT : GoodIn Ts (wsV own index C y ws)) (hw : ws = Cond.codeWith y bytes maxL ret hh :: ws') (hrc : rm.cells = mc) (hrs : rm.slots = ms)
    (hd : y.cls = C ∧ y.cls ≠ "java/lang/invoke/MethodHandle" ∧ y.cls ≠ "java/lang/invoke/VarHandle" ∧ (parseMethodDescriptor y.desc).map (fun d => d.parameters.length) = some n) (hR : rm.frames + 1 ≤ R.frames ∧ 8 + (maxL + 11) + rm.locals ≤ R.locals) :
    vx_CVW R s args own C index y bytes maxL ret hh ws rm mc ms n := by
  obtain ⟨hC, hd⟩ := hd
  subst hC
  have ok : ∀ w ∈ wsV own index y.cls y ws, w.before args s = true := fun w h => ht w (hT w h).1
  have hG : GoodIn Ts ws := fun w h => hT w (by unfold wsV; exact List.mem_append_right _ h)
  have hc : Cond.codeWith y bytes maxL ret hh ∈ ws := by rw [hw]; exact List.mem_cons_self
  refine ⟨⟨hrc, hrs, hR.1, hR.2, pay_in ht hG, hc⟩, ht _ (hG _ hc).1, ok _ (by simp [wsV]), ⟨hd.1, hd.2.1⟩, fun sig h => ?_, ok _ (by simp [wsV]), ok _ (by simp [wsV]), ok _ (by simp [wsV])⟩
  have h2 := hd.2.2
  rw [h] at h2
  exact (Option.some.inj h2).symm
theorem vx_runVW {y : MethodName} {bytes cc : ByteArray} {maxL nL mc ms n index : Nat} {ret : Option FieldType} {hh : List (Nat × Nat × Nat × Nat)} {ws : List Cond} {rm : Room} {Pc : Array Value → State → Prop} {Qc : Array Value → State → Outcome → State → Prop} {free : Addr → Prop} {Ts : List Cond} {own C : String} {b : Addr} {As rest : List Value} {g : JFrame}
    (S : CallFix p m c cc nL s args Ts own) (hM : Met l y ws rm Pc Qc mc ms free) (cw : vx_CVW R s args own C index y bytes maxL ret hh ws rm mc ms n) (hp : PreV s H C b Pc As)
    (hg : g.method = m) (hn : As.length = n) (hsize : g.locals.size = nL) (hstack : g.stack = As.reverse ++ .ref b :: rest) (hW : 2 * g.monitorRoom + (rest.map fun v => v.category).sum ≤ 8) (hdg : decode cc g.pc = .ok (.invokevirtual index, 3)) (hf : cells + mc ≤ R.cells ∧ slots + ms ≤ R.slots) :
    va_Run p l e R s m args below meth c H locs cells slots mc ms g rest (Qc (Value.ref b :: As).toArray) free := by
  obtain ⟨⟨hrc, hrs, hfr, hlo, hws, hcw⟩, hcode, hini, hy, hlen, hl, hin, hse⟩ := cw
  have hK : Back l R p e below s args y 3 8 (PreOf R mc ms Pc) (PostOf Qc mc ms free) := va_backW (hh := hh) (bytes := bytes) (maxL := maxL) (ret := ret) hM hp.1 hrc hrs hfr hlo hws hcw (fun a' U hW => word_at hW (Or.inl (by first | rfl | simp [Cond.onTables, Cond.keeps, Cond.steady])) hini)
  obtain ⟨hx, hb, hml, ho, -⟩ := S
  obtain ⟨-, ⟨cellB, hcB, hoB, hclB⟩, hPc⟩ := hp
  intro T hT X
  obtain ⟨v, vm₁, ⟨U', l2, c2, s2⟩, hW₁, X', ⟨g', mk, t, L, e1, e2, hq, h1, hL, h2, h3⟩, st⟩ := vx_callVW X hx (C := C) (hh := hh) (bytes := bytes) (maxL := maxL) (ret := ret) ho hl hin hse hcode hy hK (by rw [hT]; exact hcB) hoB hclB hg (hsize.trans hml.symm) (argsL := As) (rest := rest) (fun sig h => hn.trans (hlen sig h)) hstack hW (by rw [hb]; exact hdg)
    (fun vm₁ hW₁ => ⟨hf.1, hf.2, hPc (T.setVm vm₁) hT hW₁⟩)
  dsimp only [Pt.U, Pt.locs, Pt.cells, Pt.slots] at X' e1 e2 h1 h2 h3 st
  subst h1; subst h2; subst h3
  exact ⟨v, (T.setVm vm₁).calling g' mk (Value.ref b :: As).toArray, t, U', L, hT, X', hL, e1, e2, hq, st⟩
section
variable {y : MethodName} {bytes cc : ByteArray} {maxL nL mc ms n index : Nat} {ret : Option FieldType} {ws : List Cond} {rm : Room} {Pc : Array Value → State → Prop} {Qc : Array Value → State → Outcome → State → Prop} {XC : String → State → State → Prop} {free : Addr → Prop} {Ts : List Cond} {own C : String} {b : Addr} {As rest : List Value} {g : JFrame}
theorem vx_runVX {hh : List (Nat × Nat × Nat × Nat)} (S : CallFix p m c cc nL s args Ts own) (hM : vx_Met l y ws rm Pc Qc XC mc ms free) (cw : vx_CVW R s args own C index y bytes maxL ret hh ws rm mc ms n) (hp : PreV s H C b Pc As)
    (hg : g.method = m) (hn : As.length = n) (hsize : g.locals.size = nL) (hstack : g.stack = As.reverse ++ .ref b :: rest) (hW : 2 * g.monitorRoom + (rest.map fun v => v.category).sum ≤ 8) (hdg : decode cc g.pc = .ok (.invokevirtual index, 3)) (hf : cells + mc ≤ R.cells ∧ slots + ms ≤ R.slots) :
    vx_Run p l e R s m args below meth c H locs cells slots mc ms g rest (Qc (Value.ref b :: As).toArray) XC free := by
  obtain ⟨⟨hrc, hrs, hfr, hlo, hws, hcw⟩, hcode, hini, hy, hlen, hl, hin, hse⟩ := cw
  have hK : vx_Back l R p e below s args y 3 8 (PreOf R mc ms Pc) (PostOf Qc mc ms free) (vx_Post XC mc ms free) := vx_backW (hh := hh) (bytes := bytes) (maxL := maxL) (ret := ret) hM hp.1 hrc hrs hfr hlo hws hcw (fun a' U hW => word_at hW (Or.inl (by first | rfl | simp [Cond.onTables, Cond.keeps, Cond.steady])) hini)
  obtain ⟨hx, hb, hml, ho, -⟩ := S
  obtain ⟨-, ⟨cellB, hcB, hoB, hclB⟩, hPc⟩ := hp
  intro T hT X
  rcases vx_callVX X hx (C := C) (hh := hh) (bytes := bytes) (maxL := maxL) (ret := ret) ho hl hin hse hcode hy hK (by rw [hT]; exact hcB) hoB hclB hg (hsize.trans hml.symm) (argsL := As) (rest := rest) (fun sig h => hn.trans (hlen sig h)) hstack hW (by rw [hb]; exact hdg)
    (fun vm₁ hW₁ => ⟨hf.1, hf.2, hPc (T.setVm vm₁) hT hW₁⟩) with ⟨v, vm₁, ⟨U', l2, c2, s2⟩, hW₁, X', ⟨g', mk, t, L, e1, e2, hq, h1, hL, h2, h3⟩, st⟩ | ⟨q, vm₁, ⟨U', l2, c2, s2⟩, hW₁, X', ⟨g', mk, t, L, E, ce, e1, e2, hq, hce, hcv, hcl, h1, hL, h2, h3⟩, st⟩
  · dsimp only [Pt.U, Pt.locs, Pt.cells, Pt.slots] at X' e1 e2 h1 h2 h3 st
    subst h1; subst h2; subst h3
    exact Or.inl ⟨v, (T.setVm vm₁).calling g' mk (Value.ref b :: As).toArray, t, U', L, hT, X', hL, e1, e2, hq, st⟩
  · dsimp only [Pt.U, Pt.locs, Pt.cells, Pt.slots] at X' e1 e2 h1 h2 h3 st hcl
    subst h1; subst h2; subst h3
    exact Or.inr ⟨q, (T.setVm vm₁).calling g' mk (Value.ref b :: As).toArray, t, U', L, E, ce, hT, X', hL, e1, e2, hq, hce, hcv, vx_cls hW₁ hcl, st⟩
theorem vx_runSX {hh : List (Nat × Nat × Nat × Nat)} (S : CallFix p m c cc nL s args Ts own) (hM : vx_Met l y ws rm Pc Qc XC mc ms free) (cw : vx_CSW R s args own index y bytes maxL ret hh ws rm mc ms n) (hp : PreS s H Pc As)
    (hg : g.method = m) (hn : As.length = n) (hsize : g.locals.size = nL) (hstack : g.stack = As.reverse ++ rest) (hW : 2 * g.monitorRoom + (rest.map fun v => v.category).sum ≤ 8) (hdg : decode cc g.pc = .ok (.invokestatic index, 3)) (hf : cells + mc ≤ R.cells ∧ slots + ms ≤ R.slots) :
    vx_Run p l e R s m args below meth c H locs cells slots mc ms g rest (Qc As.toArray) XC free := by
  obtain ⟨⟨hrc, hrs, hfr, hlo, hws, hcw⟩, hcode, hini, hy, hlen, hl, hstt⟩ := cw
  have hK : vx_Back l R p e below s args y 3 8 (PreOf R mc ms Pc) (PostOf Qc mc ms free) (vx_Post XC mc ms free) := vx_backW (hh := hh) (bytes := bytes) (maxL := maxL) (ret := ret) hM hp.1 hrc hrs hfr hlo hws hcw (fun a' U hW => word_at hW (Or.inl (by first | rfl | simp [Cond.onTables, Cond.keeps, Cond.steady])) hini)
  obtain ⟨hx, hb, hml, ho, -⟩ := S
  intro T hT X
  rcases vx_callSX X hx (hh := hh) (bytes := bytes) (maxL := maxL) (ret := ret) ho hl hstt hini hcode hy hK hg (hsize.trans hml.symm) (argsL := As) (rest := rest) (fun sig h => hn.trans (hlen sig h)) hstack hW (by rw [hb]; exact hdg)
    (fun vm₁ hW₁ => ⟨hf.1, hf.2, hp.2 (T.setVm vm₁) hT hW₁⟩) with ⟨v, vm₁, ⟨U', l2, c2, s2⟩, hW₁, X', ⟨g', mk, t, L, e1, e2, hq, h1, hL, h2, h3⟩, st⟩ | ⟨q, vm₁, ⟨U', l2, c2, s2⟩, hW₁, X', ⟨g', mk, t, L, E, ce, e1, e2, hq, hce, hcv, hcl, h1, hL, h2, h3⟩, st⟩
  · dsimp only [Pt.U, Pt.locs, Pt.cells, Pt.slots] at X' e1 e2 h1 h2 h3 st
    subst h1; subst h2; subst h3
    exact Or.inl ⟨v, (T.setVm vm₁).calling g' mk As.toArray, t, U', L, hT, X', hL, e1, e2, hq, st⟩
  · dsimp only [Pt.U, Pt.locs, Pt.cells, Pt.slots] at X' e1 e2 h1 h2 h3 st hcl
    subst h1; subst h2; subst h3
    exact Or.inr ⟨q, (T.setVm vm₁).calling g' mk As.toArray, t, U', L, E, ce, hT, X', hL, e1, e2, hq, hce, hcv, vx_cls hW₁ hcl, st⟩
end
end VXH
theorem vx_ofWH {l : Launch} {y : MethodName} {ws ws' : List Cond} {rm : Room} {Pc : Array Value → State → Prop} {Qc : Array Value → State → Outcome → State → Prop} {XC : String → State → State → Prop} {mc ms : Nat} {free : Addr → Prop} {cc : ByteArray} {maxL : Nat} {ret : Option FieldType} {hh : List (Nat × Nat × Nat × Nat)}
    (hy : plainName y.cls = true) (hw : ws = Cond.codeWith y cc maxL ret hh :: ws')
    (body : ∀ p e s m args below meth c s₁, BodyLoose p l y (headSpec ws rm) cc maxL ret e s m args below meth c s₁ → c.maxLocals = maxL → Pc args s →
      W p l e (headSpec ws rm).room s m args below meth c s.heap [] 0 0 (vx_MQ below Qc XC args s mc ms free) (entryFrame m args maxL)) : vx_Met l y ws rm Pc Qc XC mc ms free := by
  refine MetFree.of_bodyS (code := cc) (maxLocals := maxL) (ret := ret) hy ?_ ?_
  · intro args s m h hn
    obtain ⟨m9, meth, c, hn9, h1, h2, h3, h4, -, h5, h6, -⟩ := Cond.codeWith_spec (atoms_spec (ws := ws) h _ (by rw [hw]; exact List.mem_cons_self))
    cases hn.symm.trans hn9
    exact ⟨meth, c, h1, h2, h3, h4, h5, h6⟩
  · intro p e s m args below meth c s₁ B hml hP _
    have hh0 : s₁.heap = s.heap := by rw [B.state]; rfl
    obtain ⟨t, a1, o, b1, b2, b3⟩ := body p e s m args below meth c s₁ B hml hP s₁ hh0 (Stand.of_body B)
    exact ⟨t, o, a1, b1, b2, b3⟩
/-! ===== END ===== -/
end
section
/-! ===== BEGIN printed: names, fields, word lists, decode rows ===== -/
def RX0 : String := "ExactShares"
def TX0 : u_T := fun k => match k with
  | 0 => ("ExactShares", "above", "[J", true)
  | 1 => ("ExactShares", "below", "[J", true)
  | 2 => ("ExactShares", "numbers", "I", false)
  | 3 => ("ExactShares", "grown", "I", false)
  | 4 => ("ExactShares", "values", "[[J", true)
  | 5 => ("ExactShares", "sizes", "[I", true)
  | 6 => ("ExactShares", "seatsGiven", "[I", true)
  | 7 => ("ExactShares", "remainders", "[J", true)
  | 8 => ("ExactShares", "seatsGivenTo", "I", false)
  | 9 => ("ExactShares", "things", "[J", true)
  | 10 => ("ExactShares", "waysNotBelow", "I", false)
  | 11 => ("ExactShares", "waysInAll", "I", false)
  | _ => ("ExactShares", "waysWithJustThat", "I", false)
def tyX0 : Nat → FieldType := fun k => match k with
  | 0 => .array .long
  | 1 => .array .long
  | 2 => .int
  | 3 => .int
  | 4 => .array (.array .long)
  | 5 => .array .int
  | 6 => .array .int
  | 7 => .array .long
  | 8 => .int
  | 9 => .array .long
  | 10 => .int
  | 11 => .int
  | _ => .int
abbrev wsX00 : List Cond := u_ws RX0 TX0 13
theorem nmX0 : ∀ a, a < 13 → ∀ b, b < 13 → a ≠ b → (TX0 a).2.1 ≠ (TX0 b).2.1 := by decide +kernel
theorem tyX0_ok : ∀ k, k < 13 → parseFieldDescriptor (TX0 k).2.2.1 = some (tyX0 k) := by decide +kernel
abbrev cX0_init : ByteArray := prog_1_method_1_code
def yX0_init : MethodName := ⟨RX0, "<init>", "()V"⟩
abbrev cX0_value : ByteArray := prog_1_method_2_code
def yX0_value : MethodName := ⟨RX0, "value", "(JJ)I"⟩
abbrev cX0_act : ByteArray := prog_1_method_3_code
def yX0_act : MethodName := ⟨RX0, "act", "(III)I"⟩
abbrev cX0_over : ByteArray := prog_1_method_4_code
def yX0_over : MethodName := ⟨RX0, "over", "(II)I"⟩
abbrev cX0_drop : ByteArray := prog_1_method_5_code
def yX0_drop : MethodName := ⟨RX0, "drop", "()I"⟩
abbrev cX0_order : ByteArray := prog_1_method_6_code
def yX0_order : MethodName := ⟨RX0, "order", "(II)I"⟩
abbrev cX0_part : ByteArray := prog_1_method_7_code
def yX0_part : MethodName := ⟨RX0, "part", "(II)J"⟩
abbrev cX0_simplest : ByteArray := prog_1_method_8_code
def yX0_simplest : MethodName := ⟨RX0, "simplest", "(II)I"⟩
abbrev cX0_near : ByteArray := prog_1_method_9_code
def yX0_near : MethodName := ⟨RX0, "near", "(II)I"⟩
abbrev cX0_cut : ByteArray := prog_1_method_10_code
def yX0_cut : MethodName := ⟨RX0, "cut", "(IIZ)J"⟩
abbrev cX0_into : ByteArray := prog_1_method_11_code
def yX0_into : MethodName := ⟨RX0, "into", "(IJ)I"⟩
abbrev cX0_empty : ByteArray := prog_1_method_12_code
def yX0_empty : MethodName := ⟨RX0, "empty", "(I)I"⟩
abbrev cX0_at : ByteArray := prog_1_method_13_code
def yX0_at : MethodName := ⟨RX0, "at", "(II)J"⟩
abbrev cX0_share : ByteArray := prog_1_method_14_code
def yX0_share : MethodName := ⟨RX0, "share", "(II)I"⟩
abbrev cX0_seats : ByteArray := prog_1_method_15_code
def yX0_seats : MethodName := ⟨RX0, "seats", "(III)I"⟩
abbrev cX0_given : ByteArray := prog_1_method_16_code
def yX0_given : MethodName := ⟨RX0, "given", "(I)I"⟩
abbrev cX0_tail : ByteArray := prog_1_method_17_code
def yX0_tail : MethodName := ⟨RX0, "tail", "(III)I"⟩
abbrev cX0_urn : ByteArray := prog_1_method_18_code
def yX0_urn : MethodName := ⟨RX0, "urn", "(IIII)I"⟩
abbrev cX0_test : ByteArray := prog_1_method_19_code
def yX0_test : MethodName := ⟨RX0, "test", "(II)I"⟩
abbrev cX0_ways : ByteArray := prog_1_method_20_code
def yX0_ways : MethodName := ⟨RX0, "ways", "(I)I"⟩
abbrev cX0_count : ByteArray := prog_1_method_21_code
def yX0_count : MethodName := ⟨RX0, "count", "(I)I"⟩
abbrev cX0_isNumber : ByteArray := prog_1_method_22_code
def yX0_isNumber : MethodName := ⟨RX0, "isNumber", "(I)Z"⟩
abbrev cX0_isFull : ByteArray := prog_1_method_23_code
def yX0_isFull : MethodName := ⟨RX0, "isFull", "()Z"⟩
abbrev cX0_keep : ByteArray := prog_1_method_24_code
def yX0_keep : MethodName := ⟨RX0, "keep", "(JJ)I"⟩
abbrev cX0_keepUnlessWide : ByteArray := prog_1_method_25_code
def yX0_keepUnlessWide : MethodName := ⟨RX0, "keepUnlessWide", "(JJ)I"⟩
abbrev cX0_keepSum : ByteArray := prog_1_method_26_code
def yX0_keepSum : MethodName := ⟨RX0, "keepSum", "(JJJJ)I"⟩
abbrev cX0_keepProduct : ByteArray := prog_1_method_27_code
def yX0_keepProduct : MethodName := ⟨RX0, "keepProduct", "(JJJJ)I"⟩
abbrev cX0_keepQuotient : ByteArray := prog_1_method_28_code
def yX0_keepQuotient : MethodName := ⟨RX0, "keepQuotient", "(II)I"⟩
abbrev cX0_keepSimplest : ByteArray := prog_1_method_29_code
def yX0_keepSimplest : MethodName := ⟨RX0, "keepSimplest", "(JJJJI)I"⟩
abbrev cX0_keepNearest : ByteArray := prog_1_method_30_code
def yX0_keepNearest : MethodName := ⟨RX0, "keepNearest", "(JJI)I"⟩
abbrev cX0_stepsOf : ByteArray := prog_1_method_31_code
def yX0_stepsOf : MethodName := ⟨RX0, "stepsOf", "(JJJJ)J"⟩
abbrev cX0_isRow : ByteArray := prog_1_method_32_code
def yX0_isRow : MethodName := ⟨RX0, "isRow", "(I)Z"⟩
abbrev cX0_isValue : ByteArray := prog_1_method_33_code
def yX0_isValue : MethodName := ⟨RX0, "isValue", "(II)Z"⟩
abbrev cX0_sumOf : ByteArray := prog_1_method_34_code
def yX0_sumOf : MethodName := ⟨RX0, "sumOf", "(I)J"⟩
abbrev cX0_giveByRemainders : ByteArray := prog_1_method_35_code
def yX0_giveByRemainders : MethodName := ⟨RX0, "giveByRemainders", "([JIJ)V"⟩
abbrev cX0_firstGreatestRemainder : ByteArray := prog_1_method_36_code
def yX0_firstGreatestRemainder : MethodName := ⟨RX0, "firstGreatestRemainder", "()I"⟩
abbrev cX0_giveOneByOne : ByteArray := prog_1_method_37_code
def yX0_giveOneByOne : MethodName := ⟨RX0, "giveOneByOne", "([JII)V"⟩
abbrev cX0_countSeated : ByteArray := prog_1_method_38_code
def yX0_countSeated : MethodName := ⟨RX0, "countSeated", "()I"⟩
abbrev cX0_waysToReach : ByteArray := prog_1_method_39_code
def yX0_waysToReach : MethodName := ⟨RX0, "waysToReach", "(JI[JII)I"⟩
abbrev cX0_choose : ByteArray := prog_1_method_40_code
def yX0_choose : MethodName := ⟨RX0, "choose", "(II)J"⟩
abbrev cX0_times : ByteArray := prog_1_method_41_code
def yX0_times : MethodName := ⟨RX0, "times", "(JJ)J"⟩
abbrev cX0_plus : ByteArray := prog_1_method_42_code
def yX0_plus : MethodName := ⟨RX0, "plus", "(JJ)J"⟩
abbrev cX0_power : ByteArray := prog_1_method_43_code
def yX0_power : MethodName := ⟨RX0, "power", "(JI)J"⟩
abbrev cX0_greatestDivisor : ByteArray := prog_1_method_44_code
def yX0_greatestDivisor : MethodName := ⟨RX0, "greatestDivisor", "(JJ)J"⟩
abbrev cX0_compared : ByteArray := prog_1_method_45_code
def yX0_compared : MethodName := ⟨RX0, "compared", "(JJJJ)I"⟩
def RX1 : String := "ExactSharesModel"
def TX1 : u_T := fun k => match k with
  | 0 => ("ExactSharesModel", "upper", "[J", true)
  | 1 => ("ExactSharesModel", "lower", "[J", true)
  | 2 => ("ExactSharesModel", "numbers", "I", false)
  | 3 => ("ExactSharesModel", "grown", "I", false)
  | 4 => ("ExactSharesModel", "thrown", "I", false)
  | 5 => ("ExactSharesModel", "isWide", "Z", false)
  | 6 => ("ExactSharesModel", "value", "[J", true)
  | 7 => ("ExactSharesModel", "many", "[I", true)
  | 8 => ("ExactSharesModel", "seated", "I", false)
  | 9 => ("ExactSharesModel", "seat", "[I", true)
  | 10 => ("ExactSharesModel", "left", "[J", true)
  | 11 => ("ExactSharesModel", "isTested", "Z", false)
  | 12 => ("ExactSharesModel", "notBelow", "I", false)
  | 13 => ("ExactSharesModel", "all", "I", false)
  | 14 => ("ExactSharesModel", "just", "I", false)
  | 15 => ("ExactSharesModel", "one", "[J", true)
  | _ => ("ExactSharesModel", "two", "[J", true)
def tyX1 : Nat → FieldType := fun k => match k with
  | 0 => .array .long
  | 1 => .array .long
  | 2 => .int
  | 3 => .int
  | 4 => .int
  | 5 => .boolean
  | 6 => .array .long
  | 7 => .array .int
  | 8 => .int
  | 9 => .array .int
  | 10 => .array .long
  | 11 => .boolean
  | 12 => .int
  | 13 => .int
  | 14 => .int
  | 15 => .array .long
  | _ => .array .long
abbrev wsX10 : List Cond := u_ws RX1 TX1 17
theorem nmX1 : ∀ a, a < 17 → ∀ b, b < 17 → a ≠ b → (TX1 a).2.1 ≠ (TX1 b).2.1 := by decide +kernel
theorem tyX1_ok : ∀ k, k < 17 → parseFieldDescriptor (TX1 k).2.2.1 = some (tyX1 k) := by decide +kernel
abbrev cX1_init : ByteArray := prog_3_method_1_code
def yX1_init : MethodName := ⟨RX1, "<init>", "()V"⟩
abbrev cX1_thrown : ByteArray := prog_3_method_2_code
def yX1_thrown : MethodName := ⟨RX1, "thrown", "()I"⟩
abbrev cX1_isIn : ByteArray := prog_3_method_3_code
def yX1_isIn : MethodName := ⟨RX1, "isIn", "(JJJ)Z"⟩
abbrev cX1_sizeOf : ByteArray := prog_3_method_4_code
def yX1_sizeOf : MethodName := ⟨RX1, "sizeOf", "(J)J"⟩
abbrev cX1_divisor : ByteArray := prog_3_method_5_code
def yX1_divisor : MethodName := ⟨RX1, "divisor", "(JJ)J"⟩
abbrev cX1_times : ByteArray := prog_3_method_6_code
def yX1_times : MethodName := ⟨RX1, "times", "(JJ)J"⟩
abbrev cX1_plus : ByteArray := prog_3_method_7_code
def yX1_plus : MethodName := ⟨RX1, "plus", "(JJ)J"⟩
abbrev cX1_compared : ByteArray := prog_3_method_8_code
def yX1_compared : MethodName := ⟨RX1, "compared", "(JJJJ)I"⟩
abbrev cX1_floor : ByteArray := prog_3_method_9_code
def yX1_floor : MethodName := ⟨RX1, "floor", "(JJ)J"⟩
abbrev cX1_isNumber : ByteArray := prog_3_method_10_code
def yX1_isNumber : MethodName := ⟨RX1, "isNumber", "(I)Z"⟩
abbrev cX1_kept : ByteArray := prog_3_method_11_code
def yX1_kept : MethodName := ⟨RX1, "kept", "(JJ)I"⟩
abbrev cX1_value : ByteArray := prog_3_method_12_code
def yX1_value : MethodName := ⟨RX1, "value", "(JJ)I"⟩
abbrev cX1_summed : ByteArray := prog_3_method_13_code
def yX1_summed : MethodName := ⟨RX1, "summed", "(JJJJ)I"⟩
abbrev cX1_multiplied : ByteArray := prog_3_method_14_code
def yX1_multiplied : MethodName := ⟨RX1, "multiplied", "(JJJJ)I"⟩
abbrev cX1_divided : ByteArray := prog_3_method_15_code
def yX1_divided : MethodName := ⟨RX1, "divided", "(II)I"⟩
abbrev cX1_grew : ByteArray := prog_3_method_16_code
def yX1_grew : MethodName := ⟨RX1, "grew", "()I"⟩
abbrev cX1_act : ByteArray := prog_3_method_17_code
def yX1_act : MethodName := ⟨RX1, "act", "(III)I"⟩
abbrev cX1_over : ByteArray := prog_3_method_18_code
def yX1_over : MethodName := ⟨RX1, "over", "(II)I"⟩
abbrev cX1_drop : ByteArray := prog_3_method_19_code
def yX1_drop : MethodName := ⟨RX1, "drop", "()I"⟩
abbrev cX1_ordered : ByteArray := prog_3_method_20_code
def yX1_ordered : MethodName := ⟨RX1, "ordered", "(II)I"⟩
abbrev cX1_order : ByteArray := prog_3_method_21_code
def yX1_order : MethodName := ⟨RX1, "order", "(II)I"⟩
abbrev cX1_part : ByteArray := prog_3_method_22_code
def yX1_part : MethodName := ⟨RX1, "part", "(II)J"⟩
abbrev cX1_simplest : ByteArray := prog_3_method_23_code
def yX1_simplest : MethodName := ⟨RX1, "simplest", "(II)I"⟩
abbrev cX1_between : ByteArray := prog_3_method_24_code
def yX1_between : MethodName := ⟨RX1, "between", "(IIZ)I"⟩
abbrev cX1_near : ByteArray := prog_3_method_25_code
def yX1_near : MethodName := ⟨RX1, "near", "(II)I"⟩
abbrev cX1_cut : ByteArray := prog_3_method_26_code
def yX1_cut : MethodName := ⟨RX1, "cut", "(IIZ)J"⟩
abbrev cX1_isRow : ByteArray := prog_3_method_27_code
def yX1_isRow : MethodName := ⟨RX1, "isRow", "(I)Z"⟩
abbrev cX1_into : ByteArray := prog_3_method_28_code
def yX1_into : MethodName := ⟨RX1, "into", "(IJ)I"⟩
abbrev cX1_empty : ByteArray := prog_3_method_29_code
def yX1_empty : MethodName := ⟨RX1, "empty", "(I)I"⟩
abbrev cX1_at : ByteArray := prog_3_method_30_code
def yX1_at : MethodName := ⟨RX1, "at", "(II)J"⟩
abbrev cX1_sumOf : ByteArray := prog_3_method_31_code
def yX1_sumOf : MethodName := ⟨RX1, "sumOf", "(I)J"⟩
abbrev cX1_share : ByteArray := prog_3_method_32_code
def yX1_share : MethodName := ⟨RX1, "share", "(II)I"⟩
abbrev cX1_seats : ByteArray := prog_3_method_33_code
def yX1_seats : MethodName := ⟨RX1, "seats", "(III)I"⟩
abbrev cX1_given : ByteArray := prog_3_method_34_code
def yX1_given : MethodName := ⟨RX1, "given", "(I)I"⟩
abbrev cX1_choose : ByteArray := prog_3_method_35_code
def yX1_choose : MethodName := ⟨RX1, "choose", "(II)J"⟩
abbrev cX1_power : ByteArray := prog_3_method_36_code
def yX1_power : MethodName := ⟨RX1, "power", "(JI)J"⟩
abbrev cX1_tail : ByteArray := prog_3_method_37_code
def yX1_tail : MethodName := ⟨RX1, "tail", "(III)I"⟩
abbrev cX1_urn : ByteArray := prog_3_method_38_code
def yX1_urn : MethodName := ⟨RX1, "urn", "(IIII)I"⟩
abbrev cX1_test : ByteArray := prog_3_method_39_code
def yX1_test : MethodName := ⟨RX1, "test", "(II)I"⟩
abbrev cX1_ways : ByteArray := prog_3_method_40_code
def yX1_ways : MethodName := ⟨RX1, "ways", "(I)I"⟩
abbrev cX1_count : ByteArray := prog_3_method_41_code
def yX1_count : MethodName := ⟨RX1, "count", "(I)I"⟩
def RJ9 : String := "java/lang/Math"
def TJ9 : u_T := fun k => match k with
  | _ => ("", "", "", false)
def tyJ9 : Nat → FieldType := fun k => match k with
  | _ => .int
abbrev wsJ90 : List Cond := u_ws RJ9 TJ9 0
theorem nmJ9 : ∀ a, a < 0 → ∀ b, b < 0 → a ≠ b → (TJ9 a).2.1 ≠ (TJ9 b).2.1 := by decide +kernel
theorem tyJ9_ok : ∀ k, k < 0 → parseFieldDescriptor (TJ9 k).2.2.1 = some (tyJ9 k) := by decide +kernel
abbrev cJ9_floorDiv_f86c9 : ByteArray := prog_6_method_49_code
def yJ9_floorDiv_f86c9 : MethodName := ⟨RJ9, "floorDiv", "(JJ)J"⟩
abbrev cJ9_abs_067f4 : ByteArray := prog_6_method_61_code
def yJ9_abs_067f4 : MethodName := ⟨RJ9, "abs", "(J)J"⟩
abbrev cJ9_max_7cf53 : ByteArray := prog_6_method_65_code
def yJ9_max_7cf53 : MethodName := ⟨RJ9, "max", "(II)I"⟩
abbrev cJ9_max_f86c9 : ByteArray := prog_6_method_66_code
def yJ9_max_f86c9 : MethodName := ⟨RJ9, "max", "(JJ)J"⟩
abbrev cJ9_min_f86c9 : ByteArray := prog_6_method_70_code
def yJ9_min_f86c9 : MethodName := ⟨RJ9, "min", "(JJ)J"⟩
def RJ0 : String := "java/lang/String"
def TJ0 : u_T := fun k => match k with
  | _ => ("", "", "", false)
def tyJ0 : Nat → FieldType := fun k => match k with
  | _ => .int
abbrev wsJ00 : List Cond := u_ws RJ0 TJ0 0
theorem nmJ0 : ∀ a, a < 0 → ∀ b, b < 0 → a ≠ b → (TJ0 a).2.1 ≠ (TJ0 b).2.1 := by decide +kernel
theorem tyJ0_ok : ∀ k, k < 0 → parseFieldDescriptor (TJ0 k).2.2.1 = some (tyJ0 k) := by decide +kernel
def RJ10 : String := "java/lang/System"
def TJ10 : u_T := fun k => match k with
  | _ => ("", "", "", false)
def tyJ10 : Nat → FieldType := fun k => match k with
  | _ => .int
abbrev wsJ100 : List Cond := u_ws RJ10 TJ10 0
theorem nmJ10 : ∀ a, a < 0 → ∀ b, b < 0 → a ≠ b → (TJ10 a).2.1 ≠ (TJ10 b).2.1 := by decide +kernel
theorem tyJ10_ok : ∀ k, k < 0 → parseFieldDescriptor (TJ10 k).2.2.1 = some (tyJ10 k) := by decide +kernel
def RL : String := "ExactSharesLaw"
abbrev cL_over : ByteArray := method_3_code
def yL_over : MethodName := ⟨RL, "over", "(LExactShares;II[J)I"⟩
abbrev cL_share : ByteArray := method_4_code
def yL_share : MethodName := ⟨RL, "share", "(LExactShares;II[J)I"⟩
abbrev cL_law : ByteArray := code
def yL_law : MethodName := ⟨RL, "law", "([I)Z"⟩
def wsX0_init : List Cond := .code yX0_init cX0_init 1 none :: ([.methodLink RX0 3 objectInit, .instanceMethod objectInit, .code objectInit ⟨#[0xb1]⟩ 1 none, .arrayClass .long, .fieldLink RX0 11 "ExactShares" "above" "[J", .fieldLink RX0 15 "ExactShares" "below" "[J", .classLink RX0 18 "[[J", .fieldLink RX0 20 "ExactShares" "values" "[[J", .arrayClass .int, .fieldLink RX0 23 "ExactShares" "sizes" "[I", .fieldLink RX0 27 "ExactShares" "seatsGiven" "[I", .fieldLink RX0 30 "ExactShares" "remainders" "[J", .fieldLink RX0 33 "ExactShares" "things" "[J"] ++ wsX00)
def wsX0_isFull : List Cond := .code yX0_isFull cX0_isFull 1 (some .boolean) :: ([.fieldLink RX0 68 "ExactShares" "numbers" "I"] ++ wsX00)
def wsX0_greatestDivisor : List Cond := .code yX0_greatestDivisor cX0_greatestDivisor 11 (some .long) :: ([.methodLink RX0 179 Lib.MathLoose.abs_long.x, .static Lib.MathLoose.abs_long.x, .initialized "java/lang/Math", .code Lib.MathLoose.abs_long.x Lib.MathLoose.abs_long.code 2 (some .long), .methodLink RX0 185 Lib.MathLoose.max_long.x, .static Lib.MathLoose.max_long.x, .code Lib.MathLoose.max_long.x Lib.MathLoose.max_long.code 4 (some .long)])
def wsX0_keep : List Cond := .code yX0_keep cX0_keep 7 (some .int) :: ([.fieldLink RX0 11 "ExactShares" "above" "[J", .fieldLink RX0 68 "ExactShares" "numbers" "I", .fieldLink RX0 15 "ExactShares" "below" "[J", .methodLink RX0 46 yX0_isFull, .instanceMethod yX0_isFull, .selects RX0 yX0_isFull yX0_isFull, .initialized RX0, .code yX0_isFull cX0_isFull 1 (some .boolean), .methodLink RX0 160 yX0_greatestDivisor, .static yX0_greatestDivisor, .code yX0_greatestDivisor cX0_greatestDivisor 11 (some .long), .methodLink RX0 179 Lib.MathLoose.abs_long.x, .static Lib.MathLoose.abs_long.x, .initialized "java/lang/Math", .code Lib.MathLoose.abs_long.x Lib.MathLoose.abs_long.code 2 (some .long), .methodLink RX0 185 Lib.MathLoose.max_long.x, .static Lib.MathLoose.max_long.x, .code Lib.MathLoose.max_long.x Lib.MathLoose.max_long.code 4 (some .long)] ++ wsX00)
def wsX0_value : List Cond := .code yX0_value cX0_value 5 (some .int) :: ([.constantLong RX0 36 (-9223372036854775808), .methodLink RX0 38 yX0_keep, .instanceMethod yX0_keep, .selects RX0 yX0_keep yX0_keep, .initialized RX0, .code yX0_keep cX0_keep 7 (some .int), .fieldLink RX0 11 "ExactShares" "above" "[J", .fieldLink RX0 68 "ExactShares" "numbers" "I", .fieldLink RX0 15 "ExactShares" "below" "[J", .methodLink RX0 46 yX0_isFull, .instanceMethod yX0_isFull, .selects RX0 yX0_isFull yX0_isFull, .code yX0_isFull cX0_isFull 1 (some .boolean), .methodLink RX0 160 yX0_greatestDivisor, .static yX0_greatestDivisor, .code yX0_greatestDivisor cX0_greatestDivisor 11 (some .long), .methodLink RX0 179 Lib.MathLoose.abs_long.x, .static Lib.MathLoose.abs_long.x, .initialized "java/lang/Math", .code Lib.MathLoose.abs_long.x Lib.MathLoose.abs_long.code 2 (some .long), .methodLink RX0 185 Lib.MathLoose.max_long.x, .static Lib.MathLoose.max_long.x, .code Lib.MathLoose.max_long.x Lib.MathLoose.max_long.code 4 (some .long)] ++ wsX00)
def wsX0_isNumber : List Cond := .code yX0_isNumber cX0_isNumber 2 (some .boolean) :: ([.fieldLink RX0 68 "ExactShares" "numbers" "I"] ++ wsX00)
def wsX0_times : List Cond := .code yX0_times cX0_times 4 (some .long) :: ([.constantLong RX0 36 (-9223372036854775808), .methodLink RX0 179 Lib.MathLoose.abs_long.x, .static Lib.MathLoose.abs_long.x, .initialized "java/lang/Math", .code Lib.MathLoose.abs_long.x Lib.MathLoose.abs_long.code 2 (some .long), .constantLong RX0 183 (9223372036854775807)])
def wsX0_plus : List Cond := .code yX0_plus cX0_plus 7 (some .long) :: ([.constantLong RX0 36 (-9223372036854775808)])
def wsX0_keepUnlessWide : List Cond := .code yX0_keepUnlessWide cX0_keepUnlessWide 5 (some .int) :: ([.constantLong RX0 36 (-9223372036854775808), .fieldLink RX0 157 "ExactShares" "grown" "I", .methodLink RX0 38 yX0_keep, .instanceMethod yX0_keep, .selects RX0 yX0_keep yX0_keep, .initialized RX0, .code yX0_keep cX0_keep 7 (some .int), .fieldLink RX0 11 "ExactShares" "above" "[J", .fieldLink RX0 68 "ExactShares" "numbers" "I", .fieldLink RX0 15 "ExactShares" "below" "[J", .methodLink RX0 46 yX0_isFull, .instanceMethod yX0_isFull, .selects RX0 yX0_isFull yX0_isFull, .code yX0_isFull cX0_isFull 1 (some .boolean), .methodLink RX0 160 yX0_greatestDivisor, .static yX0_greatestDivisor, .code yX0_greatestDivisor cX0_greatestDivisor 11 (some .long), .methodLink RX0 179 Lib.MathLoose.abs_long.x, .static Lib.MathLoose.abs_long.x, .initialized "java/lang/Math", .code Lib.MathLoose.abs_long.x Lib.MathLoose.abs_long.code 2 (some .long), .methodLink RX0 185 Lib.MathLoose.max_long.x, .static Lib.MathLoose.max_long.x, .code Lib.MathLoose.max_long.x Lib.MathLoose.max_long.code 4 (some .long)] ++ wsX00)
def wsX0_keepSum_r1 : List Cond := [Cond.methodLink RX0 160 yX0_greatestDivisor, Cond.static yX0_greatestDivisor, Cond.initialized RX0, Cond.code yX0_greatestDivisor cX0_greatestDivisor 11 (some .long), Cond.methodLink RX0 179 Lib.MathLoose.abs_long.x, Cond.static Lib.MathLoose.abs_long.x, Cond.initialized "java/lang/Math", Cond.code Lib.MathLoose.abs_long.x Lib.MathLoose.abs_long.code 2 (some .long), Cond.methodLink RX0 185 Lib.MathLoose.max_long.x, Cond.static Lib.MathLoose.max_long.x, Cond.code Lib.MathLoose.max_long.x Lib.MathLoose.max_long.code 4 (some .long), Cond.methodLink RX0 90 yX0_times, Cond.static yX0_times, Cond.code yX0_times cX0_times 4 (some .long), Cond.constantLong RX0 36 (-9223372036854775808), Cond.constantLong RX0 183 (9223372036854775807), Cond.methodLink RX0 163 yX0_plus, Cond.static yX0_plus, Cond.code yX0_plus cX0_plus 7 (some .long), Cond.methodLink RX0 166 yX0_keepUnlessWide, Cond.instanceMethod yX0_keepUnlessWide, Cond.selects RX0 yX0_keepUnlessWide yX0_keepUnlessWide, Cond.code yX0_keepUnlessWide cX0_keepUnlessWide 5 (some .int), Cond.fieldLink RX0 157 "ExactShares" "grown" "I"]
def wsX0_keepSum_r2 : List Cond := [Cond.methodLink RX0 38 yX0_keep, Cond.instanceMethod yX0_keep, Cond.selects RX0 yX0_keep yX0_keep, Cond.code yX0_keep cX0_keep 7 (some .int), Cond.fieldLink RX0 11 "ExactShares" "above" "[J", Cond.fieldLink RX0 68 "ExactShares" "numbers" "I", Cond.fieldLink RX0 15 "ExactShares" "below" "[J", Cond.methodLink RX0 46 yX0_isFull, Cond.instanceMethod yX0_isFull, Cond.selects RX0 yX0_isFull yX0_isFull, Cond.code yX0_isFull cX0_isFull 1 (some .boolean)]
def wsX0_keepSum : List Cond := .code yX0_keepSum cX0_keepSum 13 (some .int) :: ((wsX0_keepSum_r1 ++ wsX0_keepSum_r2) ++ wsX00)
def wsX0_keepProduct_r1 : List Cond := [Cond.methodLink RX0 160 yX0_greatestDivisor, Cond.static yX0_greatestDivisor, Cond.initialized RX0, Cond.code yX0_greatestDivisor cX0_greatestDivisor 11 (some .long), Cond.methodLink RX0 179 Lib.MathLoose.abs_long.x, Cond.static Lib.MathLoose.abs_long.x, Cond.initialized "java/lang/Math", Cond.code Lib.MathLoose.abs_long.x Lib.MathLoose.abs_long.code 2 (some .long), Cond.methodLink RX0 185 Lib.MathLoose.max_long.x, Cond.static Lib.MathLoose.max_long.x, Cond.code Lib.MathLoose.max_long.x Lib.MathLoose.max_long.code 4 (some .long), Cond.methodLink RX0 90 yX0_times, Cond.static yX0_times, Cond.code yX0_times cX0_times 4 (some .long), Cond.constantLong RX0 36 (-9223372036854775808), Cond.constantLong RX0 183 (9223372036854775807), Cond.methodLink RX0 166 yX0_keepUnlessWide, Cond.instanceMethod yX0_keepUnlessWide, Cond.selects RX0 yX0_keepUnlessWide yX0_keepUnlessWide, Cond.code yX0_keepUnlessWide cX0_keepUnlessWide 5 (some .int), Cond.fieldLink RX0 157 "ExactShares" "grown" "I", Cond.methodLink RX0 38 yX0_keep, Cond.instanceMethod yX0_keep, Cond.selects RX0 yX0_keep yX0_keep]
def wsX0_keepProduct_r2 : List Cond := [Cond.code yX0_keep cX0_keep 7 (some .int), Cond.fieldLink RX0 11 "ExactShares" "above" "[J", Cond.fieldLink RX0 68 "ExactShares" "numbers" "I", Cond.fieldLink RX0 15 "ExactShares" "below" "[J", Cond.methodLink RX0 46 yX0_isFull, Cond.instanceMethod yX0_isFull, Cond.selects RX0 yX0_isFull yX0_isFull, Cond.code yX0_isFull cX0_isFull 1 (some .boolean)]
def wsX0_keepProduct : List Cond := .code yX0_keepProduct cX0_keepProduct 13 (some .int) :: ((wsX0_keepProduct_r1 ++ wsX0_keepProduct_r2) ++ wsX00)
def wsX0_keepQuotient_r1 : List Cond := [Cond.fieldLink RX0 11 "ExactShares" "above" "[J", Cond.fieldLink RX0 15 "ExactShares" "below" "[J", Cond.methodLink RX0 54 yX0_keepProduct, Cond.instanceMethod yX0_keepProduct, Cond.selects RX0 yX0_keepProduct yX0_keepProduct, Cond.initialized RX0, Cond.code yX0_keepProduct cX0_keepProduct 13 (some .int), Cond.methodLink RX0 160 yX0_greatestDivisor, Cond.static yX0_greatestDivisor, Cond.code yX0_greatestDivisor cX0_greatestDivisor 11 (some .long), Cond.methodLink RX0 179 Lib.MathLoose.abs_long.x, Cond.static Lib.MathLoose.abs_long.x, Cond.initialized "java/lang/Math", Cond.code Lib.MathLoose.abs_long.x Lib.MathLoose.abs_long.code 2 (some .long), Cond.methodLink RX0 185 Lib.MathLoose.max_long.x, Cond.static Lib.MathLoose.max_long.x, Cond.code Lib.MathLoose.max_long.x Lib.MathLoose.max_long.code 4 (some .long), Cond.methodLink RX0 90 yX0_times, Cond.static yX0_times, Cond.code yX0_times cX0_times 4 (some .long), Cond.constantLong RX0 36 (-9223372036854775808), Cond.constantLong RX0 183 (9223372036854775807), Cond.methodLink RX0 166 yX0_keepUnlessWide, Cond.instanceMethod yX0_keepUnlessWide]
def wsX0_keepQuotient_r2 : List Cond := [Cond.selects RX0 yX0_keepUnlessWide yX0_keepUnlessWide, Cond.code yX0_keepUnlessWide cX0_keepUnlessWide 5 (some .int), Cond.fieldLink RX0 157 "ExactShares" "grown" "I", Cond.methodLink RX0 38 yX0_keep, Cond.instanceMethod yX0_keep, Cond.selects RX0 yX0_keep yX0_keep, Cond.code yX0_keep cX0_keep 7 (some .int), Cond.fieldLink RX0 68 "ExactShares" "numbers" "I", Cond.methodLink RX0 46 yX0_isFull, Cond.instanceMethod yX0_isFull, Cond.selects RX0 yX0_isFull yX0_isFull, Cond.code yX0_isFull cX0_isFull 1 (some .boolean)]
def wsX0_keepQuotient : List Cond := .code yX0_keepQuotient cX0_keepQuotient 3 (some .int) :: ((wsX0_keepQuotient_r1 ++ wsX0_keepQuotient_r2) ++ wsX00)
def wsX0_act_r1 : List Cond := [Cond.fieldLink RX0 11 "ExactShares" "above" "[J", Cond.fieldLink RX0 15 "ExactShares" "below" "[J", Cond.methodLink RX0 42 yX0_isNumber, Cond.instanceMethod yX0_isNumber, Cond.selects RX0 yX0_isNumber yX0_isNumber, Cond.initialized RX0, Cond.code yX0_isNumber cX0_isNumber 2 (some .boolean), Cond.fieldLink RX0 68 "ExactShares" "numbers" "I", Cond.methodLink RX0 46 yX0_isFull, Cond.instanceMethod yX0_isFull, Cond.selects RX0 yX0_isFull yX0_isFull, Cond.code yX0_isFull cX0_isFull 1 (some .boolean), Cond.methodLink RX0 50 yX0_keepSum, Cond.instanceMethod yX0_keepSum, Cond.selects RX0 yX0_keepSum yX0_keepSum, Cond.code yX0_keepSum cX0_keepSum 13 (some .int), Cond.methodLink RX0 160 yX0_greatestDivisor, Cond.static yX0_greatestDivisor, Cond.code yX0_greatestDivisor cX0_greatestDivisor 11 (some .long), Cond.methodLink RX0 179 Lib.MathLoose.abs_long.x, Cond.static Lib.MathLoose.abs_long.x, Cond.initialized "java/lang/Math", Cond.code Lib.MathLoose.abs_long.x Lib.MathLoose.abs_long.code 2 (some .long), Cond.methodLink RX0 185 Lib.MathLoose.max_long.x]
def wsX0_act_r2 : List Cond := [Cond.static Lib.MathLoose.max_long.x, Cond.code Lib.MathLoose.max_long.x Lib.MathLoose.max_long.code 4 (some .long), Cond.methodLink RX0 90 yX0_times, Cond.static yX0_times, Cond.code yX0_times cX0_times 4 (some .long), Cond.constantLong RX0 36 (-9223372036854775808), Cond.constantLong RX0 183 (9223372036854775807), Cond.methodLink RX0 163 yX0_plus, Cond.static yX0_plus, Cond.code yX0_plus cX0_plus 7 (some .long), Cond.methodLink RX0 166 yX0_keepUnlessWide, Cond.instanceMethod yX0_keepUnlessWide, Cond.selects RX0 yX0_keepUnlessWide yX0_keepUnlessWide, Cond.code yX0_keepUnlessWide cX0_keepUnlessWide 5 (some .int), Cond.fieldLink RX0 157 "ExactShares" "grown" "I", Cond.methodLink RX0 38 yX0_keep, Cond.instanceMethod yX0_keep, Cond.selects RX0 yX0_keep yX0_keep, Cond.code yX0_keep cX0_keep 7 (some .int), Cond.methodLink RX0 54 yX0_keepProduct, Cond.instanceMethod yX0_keepProduct, Cond.selects RX0 yX0_keepProduct yX0_keepProduct, Cond.code yX0_keepProduct cX0_keepProduct 13 (some .int), Cond.methodLink RX0 57 yX0_keepQuotient]
def wsX0_act_r3 : List Cond := [Cond.instanceMethod yX0_keepQuotient, Cond.selects RX0 yX0_keepQuotient yX0_keepQuotient, Cond.code yX0_keepQuotient cX0_keepQuotient 3 (some .int)]
def wsX0_act : List Cond := .code yX0_act cX0_act 4 (some .int) :: ((wsX0_act_r1 ++ (wsX0_act_r2 ++ wsX0_act_r3)) ++ wsX00)
def wsX0_over_r1 : List Cond := [Cond.classLink RX0 61 "java/lang/ArithmeticException", Cond.initialized "java/lang/ArithmeticException", Cond.fieldLink RX0 11 "ExactShares" "above" "[J", Cond.methodLink RX0 42 yX0_isNumber, Cond.instanceMethod yX0_isNumber, Cond.selects RX0 yX0_isNumber yX0_isNumber, Cond.initialized RX0, Cond.code yX0_isNumber cX0_isNumber 2 (some .boolean), Cond.fieldLink RX0 68 "ExactShares" "numbers" "I", Cond.methodLink RX0 46 yX0_isFull, Cond.instanceMethod yX0_isFull, Cond.selects RX0 yX0_isFull yX0_isFull, Cond.code yX0_isFull cX0_isFull 1 (some .boolean), Cond.methodLink RX0 57 yX0_keepQuotient, Cond.instanceMethod yX0_keepQuotient, Cond.selects RX0 yX0_keepQuotient yX0_keepQuotient, Cond.code yX0_keepQuotient cX0_keepQuotient 3 (some .int), Cond.fieldLink RX0 15 "ExactShares" "below" "[J", Cond.methodLink RX0 54 yX0_keepProduct, Cond.instanceMethod yX0_keepProduct, Cond.selects RX0 yX0_keepProduct yX0_keepProduct, Cond.code yX0_keepProduct cX0_keepProduct 13 (some .int), Cond.methodLink RX0 160 yX0_greatestDivisor, Cond.static yX0_greatestDivisor]
def wsX0_over_r2 : List Cond := [Cond.code yX0_greatestDivisor cX0_greatestDivisor 11 (some .long), Cond.methodLink RX0 179 Lib.MathLoose.abs_long.x, Cond.static Lib.MathLoose.abs_long.x, Cond.initialized "java/lang/Math", Cond.code Lib.MathLoose.abs_long.x Lib.MathLoose.abs_long.code 2 (some .long), Cond.methodLink RX0 185 Lib.MathLoose.max_long.x, Cond.static Lib.MathLoose.max_long.x, Cond.code Lib.MathLoose.max_long.x Lib.MathLoose.max_long.code 4 (some .long), Cond.methodLink RX0 90 yX0_times, Cond.static yX0_times, Cond.code yX0_times cX0_times 4 (some .long), Cond.constantLong RX0 36 (-9223372036854775808), Cond.constantLong RX0 183 (9223372036854775807), Cond.methodLink RX0 166 yX0_keepUnlessWide, Cond.instanceMethod yX0_keepUnlessWide, Cond.selects RX0 yX0_keepUnlessWide yX0_keepUnlessWide, Cond.code yX0_keepUnlessWide cX0_keepUnlessWide 5 (some .int), Cond.fieldLink RX0 157 "ExactShares" "grown" "I", Cond.methodLink RX0 38 yX0_keep, Cond.instanceMethod yX0_keep, Cond.selects RX0 yX0_keep yX0_keep, Cond.code yX0_keep cX0_keep 7 (some .int)]
def wsX0_over : List Cond := .code yX0_over cX0_over 3 (some .int) :: ((wsX0_over_r1 ++ wsX0_over_r2) ++ wsX00 ++ (vx_atS RX0 65 "java/lang/ArithmeticException" ["java/lang/RuntimeException", "java/lang/Exception"]).filter goodWord)
def wsX0_drop : List Cond := .code yX0_drop cX0_drop 1 (some .int) :: ([.fieldLink RX0 68 "ExactShares" "numbers" "I"] ++ wsX00)
def wsJ9_floorDiv_f86c9 : List Cond := .code yJ9_floorDiv_f86c9 cJ9_floorDiv_f86c9 6 (some .long) :: ([])
def wsX0_compared : List Cond := .code yX0_compared cX0_compared 18 (some .int) :: ([.methodLink RX0 94 yJ9_floorDiv_f86c9, .static yJ9_floorDiv_f86c9, .initialized RJ9, .code yJ9_floorDiv_f86c9 cJ9_floorDiv_f86c9 6 (some .long)])
def wsX0_order : List Cond := .code yX0_order cX0_order 3 (some .int) :: ([.fieldLink RX0 11 "ExactShares" "above" "[J", .fieldLink RX0 15 "ExactShares" "below" "[J", .methodLink RX0 42 yX0_isNumber, .instanceMethod yX0_isNumber, .selects RX0 yX0_isNumber yX0_isNumber, .initialized RX0, .code yX0_isNumber cX0_isNumber 2 (some .boolean), .fieldLink RX0 68 "ExactShares" "numbers" "I", .methodLink RX0 72 yX0_compared, .static yX0_compared, .code yX0_compared cX0_compared 18 (some .int), .methodLink RX0 94 yJ9_floorDiv_f86c9, .static yJ9_floorDiv_f86c9, .initialized RJ9, .code yJ9_floorDiv_f86c9 cJ9_floorDiv_f86c9 6 (some .long)] ++ wsX00)
def wsX0_part : List Cond := .code yX0_part cX0_part 3 (some .long) :: ([.constantLong RX0 36 (-9223372036854775808), .fieldLink RX0 11 "ExactShares" "above" "[J", .fieldLink RX0 15 "ExactShares" "below" "[J", .methodLink RX0 42 yX0_isNumber, .instanceMethod yX0_isNumber, .selects RX0 yX0_isNumber yX0_isNumber, .initialized RX0, .code yX0_isNumber cX0_isNumber 2 (some .boolean), .fieldLink RX0 68 "ExactShares" "numbers" "I"] ++ wsX00)
def wsX0_keepSimplest : List Cond := .code yX0_keepSimplest cX0_keepSimplest 32 (some .int) :: ([.methodLink RX0 38 yX0_keep, .instanceMethod yX0_keep, .selects RX0 yX0_keep yX0_keep, .initialized RX0, .code yX0_keep cX0_keep 7 (some .int), .fieldLink RX0 11 "ExactShares" "above" "[J", .fieldLink RX0 68 "ExactShares" "numbers" "I", .fieldLink RX0 15 "ExactShares" "below" "[J", .methodLink RX0 46 yX0_isFull, .instanceMethod yX0_isFull, .selects RX0 yX0_isFull yX0_isFull, .code yX0_isFull cX0_isFull 1 (some .boolean), .methodLink RX0 160 yX0_greatestDivisor, .static yX0_greatestDivisor, .code yX0_greatestDivisor cX0_greatestDivisor 11 (some .long), .methodLink RX0 179 Lib.MathLoose.abs_long.x, .static Lib.MathLoose.abs_long.x, .initialized "java/lang/Math", .code Lib.MathLoose.abs_long.x Lib.MathLoose.abs_long.code 2 (some .long), .methodLink RX0 185 Lib.MathLoose.max_long.x, .static Lib.MathLoose.max_long.x, .code Lib.MathLoose.max_long.x Lib.MathLoose.max_long.code 4 (some .long)] ++ wsX00)
def wsX0_simplest_r1 : List Cond := [Cond.fieldLink RX0 11 "ExactShares" "above" "[J", Cond.fieldLink RX0 15 "ExactShares" "below" "[J", Cond.methodLink RX0 42 yX0_isNumber, Cond.instanceMethod yX0_isNumber, Cond.selects RX0 yX0_isNumber yX0_isNumber, Cond.initialized RX0, Cond.code yX0_isNumber cX0_isNumber 2 (some .boolean), Cond.fieldLink RX0 68 "ExactShares" "numbers" "I", Cond.methodLink RX0 72 yX0_compared, Cond.static yX0_compared, Cond.code yX0_compared cX0_compared 18 (some .int), Cond.methodLink RX0 94 yJ9_floorDiv_f86c9, Cond.static yJ9_floorDiv_f86c9, Cond.initialized RJ9, Cond.code yJ9_floorDiv_f86c9 cJ9_floorDiv_f86c9 6 (some .long), Cond.methodLink RX0 75 yX0_keepSimplest, Cond.instanceMethod yX0_keepSimplest, Cond.selects RX0 yX0_keepSimplest yX0_keepSimplest, Cond.code yX0_keepSimplest cX0_keepSimplest 32 (some .int), Cond.methodLink RX0 38 yX0_keep, Cond.instanceMethod yX0_keep, Cond.selects RX0 yX0_keep yX0_keep, Cond.code yX0_keep cX0_keep 7 (some .int), Cond.methodLink RX0 46 yX0_isFull]
def wsX0_simplest_r2 : List Cond := [Cond.instanceMethod yX0_isFull, Cond.selects RX0 yX0_isFull yX0_isFull, Cond.code yX0_isFull cX0_isFull 1 (some .boolean), Cond.methodLink RX0 160 yX0_greatestDivisor, Cond.static yX0_greatestDivisor, Cond.code yX0_greatestDivisor cX0_greatestDivisor 11 (some .long), Cond.methodLink RX0 179 Lib.MathLoose.abs_long.x, Cond.static Lib.MathLoose.abs_long.x, Cond.initialized "java/lang/Math", Cond.code Lib.MathLoose.abs_long.x Lib.MathLoose.abs_long.code 2 (some .long), Cond.methodLink RX0 185 Lib.MathLoose.max_long.x, Cond.static Lib.MathLoose.max_long.x, Cond.code Lib.MathLoose.max_long.x Lib.MathLoose.max_long.code 4 (some .long)]
def wsX0_simplest : List Cond := .code yX0_simplest cX0_simplest 6 (some .int) :: ((wsX0_simplest_r1 ++ wsX0_simplest_r2) ++ wsX00)
def wsX0_stepsOf : List Cond := .code yX0_stepsOf cX0_stepsOf 8 (some .long) :: ([.methodLink RX0 173 Lib.MathLoose.min_long.x, .static Lib.MathLoose.min_long.x, .initialized "java/lang/Math", .code Lib.MathLoose.min_long.x Lib.MathLoose.min_long.code 4 (some .long)])
def wsX0_keepNearest_r1 : List Cond := [Cond.methodLink RX0 94 yJ9_floorDiv_f86c9, Cond.static yJ9_floorDiv_f86c9, Cond.initialized RJ9, Cond.code yJ9_floorDiv_f86c9 cJ9_floorDiv_f86c9 6 (some .long), Cond.methodLink RX0 169 yX0_stepsOf, Cond.static yX0_stepsOf, Cond.initialized RX0, Cond.code yX0_stepsOf cX0_stepsOf 8 (some .long), Cond.methodLink RX0 173 Lib.MathLoose.min_long.x, Cond.static Lib.MathLoose.min_long.x, Cond.initialized "java/lang/Math", Cond.code Lib.MathLoose.min_long.x Lib.MathLoose.min_long.code 4 (some .long), Cond.methodLink RX0 38 yX0_keep, Cond.instanceMethod yX0_keep, Cond.selects RX0 yX0_keep yX0_keep, Cond.code yX0_keep cX0_keep 7 (some .int), Cond.fieldLink RX0 11 "ExactShares" "above" "[J", Cond.fieldLink RX0 68 "ExactShares" "numbers" "I", Cond.fieldLink RX0 15 "ExactShares" "below" "[J", Cond.methodLink RX0 46 yX0_isFull, Cond.instanceMethod yX0_isFull, Cond.selects RX0 yX0_isFull yX0_isFull, Cond.code yX0_isFull cX0_isFull 1 (some .boolean), Cond.methodLink RX0 160 yX0_greatestDivisor]
def wsX0_keepNearest_r2 : List Cond := [Cond.static yX0_greatestDivisor, Cond.code yX0_greatestDivisor cX0_greatestDivisor 11 (some .long), Cond.methodLink RX0 179 Lib.MathLoose.abs_long.x, Cond.static Lib.MathLoose.abs_long.x, Cond.code Lib.MathLoose.abs_long.x Lib.MathLoose.abs_long.code 2 (some .long), Cond.methodLink RX0 185 Lib.MathLoose.max_long.x, Cond.static Lib.MathLoose.max_long.x, Cond.code Lib.MathLoose.max_long.x Lib.MathLoose.max_long.code 4 (some .long)]
def wsX0_keepNearest : List Cond := .code yX0_keepNearest cX0_keepNearest 25 (some .int) :: ((wsX0_keepNearest_r1 ++ wsX0_keepNearest_r2) ++ wsX00)
def wsX0_near_r1 : List Cond := [Cond.constant RX0 79 (1000000), Cond.fieldLink RX0 15 "ExactShares" "below" "[J", Cond.fieldLink RX0 11 "ExactShares" "above" "[J", Cond.methodLink RX0 42 yX0_isNumber, Cond.instanceMethod yX0_isNumber, Cond.selects RX0 yX0_isNumber yX0_isNumber, Cond.initialized RX0, Cond.code yX0_isNumber cX0_isNumber 2 (some .boolean), Cond.fieldLink RX0 68 "ExactShares" "numbers" "I", Cond.methodLink RX0 38 yX0_keep, Cond.instanceMethod yX0_keep, Cond.selects RX0 yX0_keep yX0_keep, Cond.code yX0_keep cX0_keep 7 (some .int), Cond.methodLink RX0 46 yX0_isFull, Cond.instanceMethod yX0_isFull, Cond.selects RX0 yX0_isFull yX0_isFull, Cond.code yX0_isFull cX0_isFull 1 (some .boolean), Cond.methodLink RX0 160 yX0_greatestDivisor, Cond.static yX0_greatestDivisor, Cond.code yX0_greatestDivisor cX0_greatestDivisor 11 (some .long), Cond.methodLink RX0 179 Lib.MathLoose.abs_long.x, Cond.static Lib.MathLoose.abs_long.x, Cond.initialized "java/lang/Math", Cond.code Lib.MathLoose.abs_long.x Lib.MathLoose.abs_long.code 2 (some .long)]
def wsX0_near_r2 : List Cond := [Cond.methodLink RX0 185 Lib.MathLoose.max_long.x, Cond.static Lib.MathLoose.max_long.x, Cond.code Lib.MathLoose.max_long.x Lib.MathLoose.max_long.code 4 (some .long), Cond.methodLink RX0 80 yX0_keepNearest, Cond.instanceMethod yX0_keepNearest, Cond.selects RX0 yX0_keepNearest yX0_keepNearest, Cond.code yX0_keepNearest cX0_keepNearest 25 (some .int), Cond.methodLink RX0 94 yJ9_floorDiv_f86c9, Cond.static yJ9_floorDiv_f86c9, Cond.initialized RJ9, Cond.code yJ9_floorDiv_f86c9 cJ9_floorDiv_f86c9 6 (some .long), Cond.methodLink RX0 169 yX0_stepsOf, Cond.static yX0_stepsOf, Cond.code yX0_stepsOf cX0_stepsOf 8 (some .long), Cond.methodLink RX0 173 Lib.MathLoose.min_long.x, Cond.static Lib.MathLoose.min_long.x, Cond.code Lib.MathLoose.min_long.x Lib.MathLoose.min_long.code 4 (some .long)]
def wsX0_near : List Cond := .code yX0_near cX0_near 3 (some .int) :: ((wsX0_near_r1 ++ wsX0_near_r2) ++ wsX00)
def wsX0_power : List Cond := .code yX0_power cX0_power 6 (some .long) :: ([.methodLink RX0 90 yX0_times, .static yX0_times, .initialized RX0, .code yX0_times cX0_times 4 (some .long), .constantLong RX0 36 (-9223372036854775808), .methodLink RX0 179 Lib.MathLoose.abs_long.x, .static Lib.MathLoose.abs_long.x, .initialized "java/lang/Math", .code Lib.MathLoose.abs_long.x Lib.MathLoose.abs_long.code 2 (some .long), .constantLong RX0 183 (9223372036854775807)])
def wsX0_cut_r1 : List Cond := [Cond.constantLong RX0 36 (-9223372036854775808), Cond.fieldLink RX0 11 "ExactShares" "above" "[J", Cond.constantLong RX0 84 (10), Cond.fieldLink RX0 15 "ExactShares" "below" "[J", Cond.methodLink RX0 42 yX0_isNumber, Cond.instanceMethod yX0_isNumber, Cond.selects RX0 yX0_isNumber yX0_isNumber, Cond.initialized RX0, Cond.code yX0_isNumber cX0_isNumber 2 (some .boolean), Cond.fieldLink RX0 68 "ExactShares" "numbers" "I", Cond.methodLink RX0 86 yX0_power, Cond.static yX0_power, Cond.code yX0_power cX0_power 6 (some .long), Cond.methodLink RX0 90 yX0_times, Cond.static yX0_times, Cond.code yX0_times cX0_times 4 (some .long), Cond.methodLink RX0 179 Lib.MathLoose.abs_long.x, Cond.static Lib.MathLoose.abs_long.x, Cond.initialized "java/lang/Math", Cond.code Lib.MathLoose.abs_long.x Lib.MathLoose.abs_long.code 2 (some .long), Cond.constantLong RX0 183 (9223372036854775807), Cond.methodLink RX0 94 yJ9_floorDiv_f86c9, Cond.static yJ9_floorDiv_f86c9, Cond.initialized RJ9]
def wsX0_cut_r2 : List Cond := [Cond.code yJ9_floorDiv_f86c9 cJ9_floorDiv_f86c9 6 (some .long)]
def wsX0_cut : List Cond := .code yX0_cut cX0_cut 6 (some .long) :: ((wsX0_cut_r1 ++ wsX0_cut_r2) ++ wsX00)
def wsX0_isRow : List Cond := .code yX0_isRow cX0_isRow 1 (some .boolean) :: ([])
def wsX0_into : List Cond := .code yX0_into cX0_into 4 (some .int) :: ([.constantLong RX0 102 (1000000), .fieldLink RX0 23 "ExactShares" "sizes" "[I", .fieldLink RX0 20 "ExactShares" "values" "[[J", .methodLink RX0 99 yX0_isRow, .static yX0_isRow, .initialized RX0, .code yX0_isRow cX0_isRow 1 (some .boolean)] ++ wsX00)
def wsX0_empty : List Cond := .code yX0_empty cX0_empty 3 (some .int) :: ([.fieldLink RX0 23 "ExactShares" "sizes" "[I", .methodLink RX0 99 yX0_isRow, .static yX0_isRow, .initialized RX0, .code yX0_isRow cX0_isRow 1 (some .boolean)] ++ wsX00)
def wsX0_isValue : List Cond := .code yX0_isValue cX0_isValue 3 (some .boolean) :: ([.fieldLink RX0 23 "ExactShares" "sizes" "[I", .methodLink RX0 99 yX0_isRow, .static yX0_isRow, .initialized RX0, .code yX0_isRow cX0_isRow 1 (some .boolean)] ++ wsX00)
def wsX0_at : List Cond := .code yX0_at cX0_at 3 (some .long) :: ([.fieldLink RX0 20 "ExactShares" "values" "[[J", .constantLong RX0 108 (-1), .methodLink RX0 104 yX0_isValue, .instanceMethod yX0_isValue, .selects RX0 yX0_isValue yX0_isValue, .initialized RX0, .code yX0_isValue cX0_isValue 3 (some .boolean), .fieldLink RX0 23 "ExactShares" "sizes" "[I", .methodLink RX0 99 yX0_isRow, .static yX0_isRow, .code yX0_isRow cX0_isRow 1 (some .boolean)] ++ wsX00)
def wsX0_sumOf : List Cond := .code yX0_sumOf cX0_sumOf 5 (some .long) :: ([.fieldLink RX0 23 "ExactShares" "sizes" "[I", .fieldLink RX0 20 "ExactShares" "values" "[[J"] ++ wsX00)
def wsX0_share_r1 : List Cond := [Cond.classLink RX0 61 "java/lang/ArithmeticException", Cond.initialized "java/lang/ArithmeticException", Cond.fieldLink RX0 20 "ExactShares" "values" "[[J", Cond.methodLink RX0 104 yX0_isValue, Cond.instanceMethod yX0_isValue, Cond.selects RX0 yX0_isValue yX0_isValue, Cond.initialized RX0, Cond.code yX0_isValue cX0_isValue 3 (some .boolean), Cond.fieldLink RX0 23 "ExactShares" "sizes" "[I", Cond.methodLink RX0 99 yX0_isRow, Cond.static yX0_isRow, Cond.code yX0_isRow cX0_isRow 1 (some .boolean), Cond.methodLink RX0 46 yX0_isFull, Cond.instanceMethod yX0_isFull, Cond.selects RX0 yX0_isFull yX0_isFull, Cond.code yX0_isFull cX0_isFull 1 (some .boolean), Cond.fieldLink RX0 68 "ExactShares" "numbers" "I", Cond.methodLink RX0 110 yX0_sumOf, Cond.instanceMethod yX0_sumOf, Cond.selects RX0 yX0_sumOf yX0_sumOf, Cond.code yX0_sumOf cX0_sumOf 5 (some .long), Cond.methodLink RX0 38 yX0_keep, Cond.instanceMethod yX0_keep, Cond.selects RX0 yX0_keep yX0_keep]
def wsX0_share_r2 : List Cond := [Cond.code yX0_keep cX0_keep 7 (some .int), Cond.fieldLink RX0 11 "ExactShares" "above" "[J", Cond.fieldLink RX0 15 "ExactShares" "below" "[J", Cond.methodLink RX0 160 yX0_greatestDivisor, Cond.static yX0_greatestDivisor, Cond.code yX0_greatestDivisor cX0_greatestDivisor 11 (some .long), Cond.methodLink RX0 179 Lib.MathLoose.abs_long.x, Cond.static Lib.MathLoose.abs_long.x, Cond.initialized "java/lang/Math", Cond.code Lib.MathLoose.abs_long.x Lib.MathLoose.abs_long.code 2 (some .long), Cond.methodLink RX0 185 Lib.MathLoose.max_long.x, Cond.static Lib.MathLoose.max_long.x, Cond.code Lib.MathLoose.max_long.x Lib.MathLoose.max_long.code 4 (some .long)]
def wsX0_share : List Cond := .code yX0_share cX0_share 5 (some .int) :: ((wsX0_share_r1 ++ wsX0_share_r2) ++ wsX00 ++ (vx_atS RX0 65 "java/lang/ArithmeticException" ["java/lang/RuntimeException", "java/lang/Exception"]).filter goodWord)
def wsX0_firstGreatestRemainder : List Cond := .code yX0_firstGreatestRemainder cX0_firstGreatestRemainder 3 (some .int) :: ([.fieldLink RX0 116 "ExactShares" "seatsGivenTo" "I", .fieldLink RX0 30 "ExactShares" "remainders" "[J"] ++ wsX00)
def wsX0_giveByRemainders : List Cond := .code yX0_giveByRemainders cX0_giveByRemainders 8 none :: ([.fieldLink RX0 116 "ExactShares" "seatsGivenTo" "I", .fieldLink RX0 27 "ExactShares" "seatsGiven" "[I", .fieldLink RX0 30 "ExactShares" "remainders" "[J", .constantLong RX0 108 (-1), .methodLink RX0 176 yX0_firstGreatestRemainder, .instanceMethod yX0_firstGreatestRemainder, .selects RX0 yX0_firstGreatestRemainder yX0_firstGreatestRemainder, .initialized RX0, .code yX0_firstGreatestRemainder cX0_firstGreatestRemainder 3 (some .int)] ++ wsX00)
def wsX0_giveOneByOne : List Cond := .code yX0_giveOneByOne cX0_giveOneByOne 11 none :: ([.fieldLink RX0 116 "ExactShares" "seatsGivenTo" "I", .fieldLink RX0 27 "ExactShares" "seatsGiven" "[I"] ++ wsX00)
def wsX0_countSeated : List Cond := .code yX0_countSeated cX0_countSeated 3 (some .int) :: ([.fieldLink RX0 116 "ExactShares" "seatsGivenTo" "I", .fieldLink RX0 27 "ExactShares" "seatsGiven" "[I"] ++ wsX00)
def wsX0_seats_r1 : List Cond := [Cond.fieldLink RX0 23 "ExactShares" "sizes" "[I", Cond.fieldLink RX0 116 "ExactShares" "seatsGivenTo" "I", Cond.fieldLink RX0 20 "ExactShares" "values" "[[J", Cond.methodLink RX0 99 yX0_isRow, Cond.static yX0_isRow, Cond.initialized RX0, Cond.code yX0_isRow cX0_isRow 1 (some .boolean), Cond.methodLink RX0 110 yX0_sumOf, Cond.instanceMethod yX0_sumOf, Cond.selects RX0 yX0_sumOf yX0_sumOf, Cond.code yX0_sumOf cX0_sumOf 5 (some .long), Cond.methodLink RX0 119 yX0_giveByRemainders, Cond.instanceMethod yX0_giveByRemainders, Cond.selects RX0 yX0_giveByRemainders yX0_giveByRemainders, Cond.code yX0_giveByRemainders cX0_giveByRemainders 8 none, Cond.fieldLink RX0 27 "ExactShares" "seatsGiven" "[I", Cond.fieldLink RX0 30 "ExactShares" "remainders" "[J", Cond.constantLong RX0 108 (-1), Cond.methodLink RX0 176 yX0_firstGreatestRemainder, Cond.instanceMethod yX0_firstGreatestRemainder, Cond.selects RX0 yX0_firstGreatestRemainder yX0_firstGreatestRemainder, Cond.code yX0_firstGreatestRemainder cX0_firstGreatestRemainder 3 (some .int), Cond.methodLink RX0 123 yX0_giveOneByOne, Cond.instanceMethod yX0_giveOneByOne]
def wsX0_seats_r2 : List Cond := [Cond.selects RX0 yX0_giveOneByOne yX0_giveOneByOne, Cond.code yX0_giveOneByOne cX0_giveOneByOne 11 none, Cond.methodLink RX0 127 yX0_countSeated, Cond.instanceMethod yX0_countSeated, Cond.selects RX0 yX0_countSeated yX0_countSeated, Cond.code yX0_countSeated cX0_countSeated 3 (some .int)]
def wsX0_seats : List Cond := .code yX0_seats cX0_seats 6 (some .int) :: ((wsX0_seats_r1 ++ wsX0_seats_r2) ++ wsX00)
def wsX0_given : List Cond := .code yX0_given cX0_given 2 (some .int) :: ([.fieldLink RX0 116 "ExactShares" "seatsGivenTo" "I", .fieldLink RX0 27 "ExactShares" "seatsGiven" "[I"] ++ wsX00)
def wsX0_choose : List Cond := .code yX0_choose cX0_choose 5 (some .long) :: ([])
def wsX0_tail_r1 : List Cond := [Cond.fieldLink RX0 11 "ExactShares" "above" "[J", Cond.fieldLink RX0 15 "ExactShares" "below" "[J", Cond.constantLong RX0 36 (-9223372036854775808), Cond.methodLink RX0 131 Lib.Math.max.name, Cond.static Lib.Math.max.name, Cond.initialized "java/lang/Math", Cond.code Lib.Math.max.name Lib.Math.max.code 2 (some .int), Cond.methodLink RX0 42 yX0_isNumber, Cond.instanceMethod yX0_isNumber, Cond.selects RX0 yX0_isNumber yX0_isNumber, Cond.initialized RX0, Cond.code yX0_isNumber cX0_isNumber 2 (some .boolean), Cond.fieldLink RX0 68 "ExactShares" "numbers" "I", Cond.methodLink RX0 46 yX0_isFull, Cond.instanceMethod yX0_isFull, Cond.selects RX0 yX0_isFull yX0_isFull, Cond.code yX0_isFull cX0_isFull 1 (some .boolean), Cond.methodLink RX0 86 yX0_power, Cond.static yX0_power, Cond.code yX0_power cX0_power 6 (some .long), Cond.methodLink RX0 90 yX0_times, Cond.static yX0_times, Cond.code yX0_times cX0_times 4 (some .long), Cond.methodLink RX0 179 Lib.MathLoose.abs_long.x]
def wsX0_tail_r2 : List Cond := [Cond.static Lib.MathLoose.abs_long.x, Cond.code Lib.MathLoose.abs_long.x Lib.MathLoose.abs_long.code 2 (some .long), Cond.constantLong RX0 183 (9223372036854775807), Cond.methodLink RX0 134 yX0_choose, Cond.static yX0_choose, Cond.code yX0_choose cX0_choose 5 (some .long), Cond.methodLink RX0 38 yX0_keep, Cond.instanceMethod yX0_keep, Cond.selects RX0 yX0_keep yX0_keep, Cond.code yX0_keep cX0_keep 7 (some .int), Cond.methodLink RX0 160 yX0_greatestDivisor, Cond.static yX0_greatestDivisor, Cond.code yX0_greatestDivisor cX0_greatestDivisor 11 (some .long), Cond.methodLink RX0 185 Lib.MathLoose.max_long.x, Cond.static Lib.MathLoose.max_long.x, Cond.code Lib.MathLoose.max_long.x Lib.MathLoose.max_long.code 4 (some .long)]
def wsX0_tail : List Cond := .code yX0_tail cX0_tail 9 (some .int) :: ((wsX0_tail_r1 ++ wsX0_tail_r2) ++ wsX00)
def wsX0_urn_r1 : List Cond := [Cond.methodLink RX0 134 yX0_choose, Cond.static yX0_choose, Cond.initialized RX0, Cond.code yX0_choose cX0_choose 5 (some .long), Cond.methodLink RX0 38 yX0_keep, Cond.instanceMethod yX0_keep, Cond.selects RX0 yX0_keep yX0_keep, Cond.code yX0_keep cX0_keep 7 (some .int), Cond.fieldLink RX0 11 "ExactShares" "above" "[J", Cond.fieldLink RX0 68 "ExactShares" "numbers" "I", Cond.fieldLink RX0 15 "ExactShares" "below" "[J", Cond.methodLink RX0 46 yX0_isFull, Cond.instanceMethod yX0_isFull, Cond.selects RX0 yX0_isFull yX0_isFull, Cond.code yX0_isFull cX0_isFull 1 (some .boolean), Cond.methodLink RX0 160 yX0_greatestDivisor, Cond.static yX0_greatestDivisor, Cond.code yX0_greatestDivisor cX0_greatestDivisor 11 (some .long), Cond.methodLink RX0 179 Lib.MathLoose.abs_long.x, Cond.static Lib.MathLoose.abs_long.x, Cond.initialized "java/lang/Math", Cond.code Lib.MathLoose.abs_long.x Lib.MathLoose.abs_long.code 2 (some .long), Cond.methodLink RX0 185 Lib.MathLoose.max_long.x, Cond.static Lib.MathLoose.max_long.x]
def wsX0_urn_r2 : List Cond := [Cond.code Lib.MathLoose.max_long.x Lib.MathLoose.max_long.code 4 (some .long)]
def wsX0_urn : List Cond := .code yX0_urn cX0_urn 5 (some .int) :: ((wsX0_urn_r1 ++ wsX0_urn_r2) ++ wsX00)
def wsX0_waysToReach : List Cond := .code yX0_waysToReach cX0_waysToReach 6 (some .int) :: ([.methodLink RX0 144 yX0_waysToReach, .static yX0_waysToReach, .initialized RX0])
def wsX0_test_r1 : List Cond := [Cond.fieldLink RX0 23 "ExactShares" "sizes" "[I", Cond.fieldLink RX0 20 "ExactShares" "values" "[[J", Cond.fieldLink RX0 33 "ExactShares" "things" "[J", Cond.methodLink RX0 138 arraycopyName, Cond.native arraycopyName, Cond.static arraycopyName, Cond.initialized "java/lang/System", Cond.fieldLink RX0 148 "ExactShares" "waysNotBelow" "I", Cond.fieldLink RX0 151 "ExactShares" "waysWithJustThat" "I", Cond.fieldLink RX0 154 "ExactShares" "waysInAll" "I", Cond.methodLink RX0 99 yX0_isRow, Cond.static yX0_isRow, Cond.initialized RX0, Cond.code yX0_isRow cX0_isRow 1 (some .boolean), Cond.methodLink RX0 46 yX0_isFull, Cond.instanceMethod yX0_isFull, Cond.selects RX0 yX0_isFull yX0_isFull, Cond.code yX0_isFull cX0_isFull 1 (some .boolean), Cond.fieldLink RX0 68 "ExactShares" "numbers" "I", Cond.methodLink RX0 110 yX0_sumOf, Cond.instanceMethod yX0_sumOf, Cond.selects RX0 yX0_sumOf yX0_sumOf, Cond.code yX0_sumOf cX0_sumOf 5 (some .long), Cond.methodLink RX0 144 yX0_waysToReach]
def wsX0_test_r2 : List Cond := [Cond.static yX0_waysToReach, Cond.code yX0_waysToReach cX0_waysToReach 6 (some .int), Cond.methodLink RX0 134 yX0_choose, Cond.static yX0_choose, Cond.code yX0_choose cX0_choose 5 (some .long), Cond.methodLink RX0 38 yX0_keep, Cond.instanceMethod yX0_keep, Cond.selects RX0 yX0_keep yX0_keep, Cond.code yX0_keep cX0_keep 7 (some .int), Cond.fieldLink RX0 11 "ExactShares" "above" "[J", Cond.fieldLink RX0 15 "ExactShares" "below" "[J", Cond.methodLink RX0 160 yX0_greatestDivisor, Cond.static yX0_greatestDivisor, Cond.code yX0_greatestDivisor cX0_greatestDivisor 11 (some .long), Cond.methodLink RX0 179 Lib.MathLoose.abs_long.x, Cond.static Lib.MathLoose.abs_long.x, Cond.initialized "java/lang/Math", Cond.code Lib.MathLoose.abs_long.x Lib.MathLoose.abs_long.code 2 (some .long), Cond.methodLink RX0 185 Lib.MathLoose.max_long.x, Cond.static Lib.MathLoose.max_long.x, Cond.code Lib.MathLoose.max_long.x Lib.MathLoose.max_long.code 4 (some .long)]
def wsX0_test : List Cond := .code yX0_test cX0_test 6 (some .int) :: ((wsX0_test_r1 ++ wsX0_test_r2) ++ wsX00)
def wsX0_ways : List Cond := .code yX0_ways cX0_ways 2 (some .int) :: ([.fieldLink RX0 154 "ExactShares" "waysInAll" "I", .fieldLink RX0 148 "ExactShares" "waysNotBelow" "I", .fieldLink RX0 151 "ExactShares" "waysWithJustThat" "I"] ++ wsX00)
def wsX0_count : List Cond := .code yX0_count cX0_count 2 (some .int) :: ([.fieldLink RX0 68 "ExactShares" "numbers" "I", .fieldLink RX0 157 "ExactShares" "grown" "I", .fieldLink RX0 23 "ExactShares" "sizes" "[I"] ++ wsX00)
def wsX1_init : List Cond := .code yX1_init cX1_init 1 none :: ([.methodLink RX1 1 objectInit, .instanceMethod objectInit, .code objectInit ⟨#[0xb1]⟩ 1 none, .arrayClass .long, .fieldLink RX1 7 "ExactSharesModel" "upper" "[J", .fieldLink RX1 13 "ExactSharesModel" "lower" "[J", .fieldLink RX1 16 "ExactSharesModel" "value" "[J", .arrayClass .int, .fieldLink RX1 19 "ExactSharesModel" "many" "[I", .fieldLink RX1 23 "ExactSharesModel" "seated" "I", .fieldLink RX1 27 "ExactSharesModel" "seat" "[I", .fieldLink RX1 30 "ExactSharesModel" "left" "[J", .fieldLink RX1 33 "ExactSharesModel" "one" "[J", .fieldLink RX1 36 "ExactSharesModel" "two" "[J", .fieldLink RX1 39 "ExactSharesModel" "isWide" "Z"] ++ wsX10)
def wsX1_thrown : List Cond := .code yX1_thrown cX1_thrown 1 (some .int) :: ([.fieldLink RX1 43 "ExactSharesModel" "thrown" "I"] ++ wsX10)
def wsX1_isIn : List Cond := .code yX1_isIn cX1_isIn 6 (some .boolean) :: ([])
def wsX1_sizeOf : List Cond := .code yX1_sizeOf cX1_sizeOf 2 (some .long) :: ([])
def wsX1_divisor : List Cond := .code yX1_divisor cX1_divisor 10 (some .long) :: ([.methodLink RX1 46 yX1_sizeOf, .static yX1_sizeOf, .initialized RX1, .code yX1_sizeOf cX1_sizeOf 2 (some .long)])
def wsX1_times : List Cond := .code yX1_times cX1_times 5 (some .long) :: ([.constantLong RX1 50 (9223372036854775807), .fieldLink RX1 39 "ExactSharesModel" "isWide" "Z", .methodLink RX1 46 yX1_sizeOf, .static yX1_sizeOf, .initialized RX1, .code yX1_sizeOf cX1_sizeOf 2 (some .long)] ++ wsX10)
def wsX1_plus : List Cond := .code yX1_plus cX1_plus 5 (some .long) :: ([.constantLong RX1 50 (9223372036854775807), .constantLong RX1 52 (-9223372036854775807), .fieldLink RX1 39 "ExactSharesModel" "isWide" "Z"] ++ wsX10)
def wsX1_compared : List Cond := .code yX1_compared cX1_compared 11 (some .int) :: ([.fieldLink RX1 33 "ExactSharesModel" "one" "[J", .fieldLink RX1 36 "ExactSharesModel" "two" "[J", .constantLong RX1 54 (2097151)] ++ wsX10)
def wsX1_floor : List Cond := .code yX1_floor cX1_floor 6 (some .long) :: ([])
def wsX1_isNumber : List Cond := .code yX1_isNumber cX1_isNumber 2 (some .boolean) :: ([.fieldLink RX1 56 "ExactSharesModel" "numbers" "I", .methodLink RX1 59 yX1_isIn, .static yX1_isIn, .initialized RX1, .code yX1_isIn cX1_isIn 6 (some .boolean)] ++ wsX10)
def wsX1_kept : List Cond := .code yX1_kept cX1_kept 9 (some .int) :: ([.constantLong RX1 67 (-1), .fieldLink RX1 7 "ExactSharesModel" "upper" "[J", .fieldLink RX1 56 "ExactSharesModel" "numbers" "I", .fieldLink RX1 13 "ExactSharesModel" "lower" "[J", .methodLink RX1 63 yX1_divisor, .static yX1_divisor, .initialized RX1, .code yX1_divisor cX1_divisor 10 (some .long), .methodLink RX1 46 yX1_sizeOf, .static yX1_sizeOf, .code yX1_sizeOf cX1_sizeOf 2 (some .long)] ++ wsX10)
def wsX1_value : List Cond := .code yX1_value cX1_value 5 (some .int) :: ([.fieldLink RX1 43 "ExactSharesModel" "thrown" "I", .constantLong RX1 69 (-9223372036854775808), .fieldLink RX1 56 "ExactSharesModel" "numbers" "I", .methodLink RX1 71 yX1_kept, .instanceMethod yX1_kept, .selects RX1 yX1_kept yX1_kept, .initialized RX1, .code yX1_kept cX1_kept 9 (some .int), .constantLong RX1 67 (-1), .fieldLink RX1 7 "ExactSharesModel" "upper" "[J", .fieldLink RX1 13 "ExactSharesModel" "lower" "[J", .methodLink RX1 63 yX1_divisor, .static yX1_divisor, .code yX1_divisor cX1_divisor 10 (some .long), .methodLink RX1 46 yX1_sizeOf, .static yX1_sizeOf, .code yX1_sizeOf cX1_sizeOf 2 (some .long)] ++ wsX10)
def wsX1_grew : List Cond := .code yX1_grew cX1_grew 1 (some .int) :: ([.fieldLink RX1 89 "ExactSharesModel" "grown" "I"] ++ wsX10)
def wsX1_summed_r1 : List Cond := [Cond.fieldLink RX1 39 "ExactSharesModel" "isWide" "Z", Cond.methodLink RX1 63 yX1_divisor, Cond.static yX1_divisor, Cond.initialized RX1, Cond.code yX1_divisor cX1_divisor 10 (some .long), Cond.methodLink RX1 46 yX1_sizeOf, Cond.static yX1_sizeOf, Cond.code yX1_sizeOf cX1_sizeOf 2 (some .long), Cond.methodLink RX1 75 yX1_times, Cond.instanceMethod yX1_times, Cond.selects RX1 yX1_times yX1_times, Cond.code yX1_times cX1_times 5 (some .long), Cond.constantLong RX1 50 (9223372036854775807), Cond.methodLink RX1 78 yX1_plus, Cond.instanceMethod yX1_plus, Cond.selects RX1 yX1_plus yX1_plus, Cond.code yX1_plus cX1_plus 5 (some .long), Cond.constantLong RX1 52 (-9223372036854775807), Cond.methodLink RX1 81 yX1_grew, Cond.instanceMethod yX1_grew, Cond.selects RX1 yX1_grew yX1_grew, Cond.code yX1_grew cX1_grew 1 (some .int), Cond.fieldLink RX1 89 "ExactSharesModel" "grown" "I", Cond.methodLink RX1 71 yX1_kept]
def wsX1_summed_r2 : List Cond := [Cond.instanceMethod yX1_kept, Cond.selects RX1 yX1_kept yX1_kept, Cond.code yX1_kept cX1_kept 9 (some .int), Cond.constantLong RX1 67 (-1), Cond.fieldLink RX1 7 "ExactSharesModel" "upper" "[J", Cond.fieldLink RX1 56 "ExactSharesModel" "numbers" "I", Cond.fieldLink RX1 13 "ExactSharesModel" "lower" "[J"]
def wsX1_summed : List Cond := .code yX1_summed cX1_summed 19 (some .int) :: ((wsX1_summed_r1 ++ wsX1_summed_r2) ++ wsX10)
def wsX1_multiplied_r1 : List Cond := [Cond.fieldLink RX1 39 "ExactSharesModel" "isWide" "Z", Cond.methodLink RX1 63 yX1_divisor, Cond.static yX1_divisor, Cond.initialized RX1, Cond.code yX1_divisor cX1_divisor 10 (some .long), Cond.methodLink RX1 46 yX1_sizeOf, Cond.static yX1_sizeOf, Cond.code yX1_sizeOf cX1_sizeOf 2 (some .long), Cond.methodLink RX1 75 yX1_times, Cond.instanceMethod yX1_times, Cond.selects RX1 yX1_times yX1_times, Cond.code yX1_times cX1_times 5 (some .long), Cond.constantLong RX1 50 (9223372036854775807), Cond.methodLink RX1 81 yX1_grew, Cond.instanceMethod yX1_grew, Cond.selects RX1 yX1_grew yX1_grew, Cond.code yX1_grew cX1_grew 1 (some .int), Cond.fieldLink RX1 89 "ExactSharesModel" "grown" "I", Cond.methodLink RX1 71 yX1_kept, Cond.instanceMethod yX1_kept, Cond.selects RX1 yX1_kept yX1_kept, Cond.code yX1_kept cX1_kept 9 (some .int), Cond.constantLong RX1 67 (-1), Cond.fieldLink RX1 7 "ExactSharesModel" "upper" "[J"]
def wsX1_multiplied_r2 : List Cond := [Cond.fieldLink RX1 56 "ExactSharesModel" "numbers" "I", Cond.fieldLink RX1 13 "ExactSharesModel" "lower" "[J"]
def wsX1_multiplied : List Cond := .code yX1_multiplied cX1_multiplied 17 (some .int) :: ((wsX1_multiplied_r1 ++ wsX1_multiplied_r2) ++ wsX10)
def wsX1_divided_r1 : List Cond := [Cond.fieldLink RX1 7 "ExactSharesModel" "upper" "[J", Cond.fieldLink RX1 13 "ExactSharesModel" "lower" "[J", Cond.methodLink RX1 85 yX1_multiplied, Cond.instanceMethod yX1_multiplied, Cond.selects RX1 yX1_multiplied yX1_multiplied, Cond.initialized RX1, Cond.code yX1_multiplied cX1_multiplied 17 (some .int), Cond.fieldLink RX1 39 "ExactSharesModel" "isWide" "Z", Cond.methodLink RX1 63 yX1_divisor, Cond.static yX1_divisor, Cond.code yX1_divisor cX1_divisor 10 (some .long), Cond.methodLink RX1 46 yX1_sizeOf, Cond.static yX1_sizeOf, Cond.code yX1_sizeOf cX1_sizeOf 2 (some .long), Cond.methodLink RX1 75 yX1_times, Cond.instanceMethod yX1_times, Cond.selects RX1 yX1_times yX1_times, Cond.code yX1_times cX1_times 5 (some .long), Cond.constantLong RX1 50 (9223372036854775807), Cond.methodLink RX1 81 yX1_grew, Cond.instanceMethod yX1_grew, Cond.selects RX1 yX1_grew yX1_grew, Cond.code yX1_grew cX1_grew 1 (some .int), Cond.fieldLink RX1 89 "ExactSharesModel" "grown" "I"]
def wsX1_divided_r2 : List Cond := [Cond.methodLink RX1 71 yX1_kept, Cond.instanceMethod yX1_kept, Cond.selects RX1 yX1_kept yX1_kept, Cond.code yX1_kept cX1_kept 9 (some .int), Cond.constantLong RX1 67 (-1), Cond.fieldLink RX1 56 "ExactSharesModel" "numbers" "I"]
def wsX1_divided : List Cond := .code yX1_divided cX1_divided 4 (some .int) :: ((wsX1_divided_r1 ++ wsX1_divided_r2) ++ wsX10)
def wsX1_act_r1 : List Cond := [Cond.fieldLink RX1 43 "ExactSharesModel" "thrown" "I", Cond.constantLong RX1 92 (3), Cond.fieldLink RX1 56 "ExactSharesModel" "numbers" "I", Cond.fieldLink RX1 7 "ExactSharesModel" "upper" "[J", Cond.fieldLink RX1 39 "ExactSharesModel" "isWide" "Z", Cond.fieldLink RX1 13 "ExactSharesModel" "lower" "[J", Cond.methodLink RX1 59 yX1_isIn, Cond.static yX1_isIn, Cond.initialized RX1, Cond.code yX1_isIn cX1_isIn 6 (some .boolean), Cond.methodLink RX1 94 yX1_isNumber, Cond.instanceMethod yX1_isNumber, Cond.selects RX1 yX1_isNumber yX1_isNumber, Cond.code yX1_isNumber cX1_isNumber 2 (some .boolean), Cond.methodLink RX1 98 yX1_divided, Cond.instanceMethod yX1_divided, Cond.selects RX1 yX1_divided yX1_divided, Cond.code yX1_divided cX1_divided 4 (some .int), Cond.methodLink RX1 85 yX1_multiplied, Cond.instanceMethod yX1_multiplied, Cond.selects RX1 yX1_multiplied yX1_multiplied, Cond.code yX1_multiplied cX1_multiplied 17 (some .int), Cond.methodLink RX1 63 yX1_divisor, Cond.static yX1_divisor]
def wsX1_act_r2 : List Cond := [Cond.code yX1_divisor cX1_divisor 10 (some .long), Cond.methodLink RX1 46 yX1_sizeOf, Cond.static yX1_sizeOf, Cond.code yX1_sizeOf cX1_sizeOf 2 (some .long), Cond.methodLink RX1 75 yX1_times, Cond.instanceMethod yX1_times, Cond.selects RX1 yX1_times yX1_times, Cond.code yX1_times cX1_times 5 (some .long), Cond.constantLong RX1 50 (9223372036854775807), Cond.methodLink RX1 81 yX1_grew, Cond.instanceMethod yX1_grew, Cond.selects RX1 yX1_grew yX1_grew, Cond.code yX1_grew cX1_grew 1 (some .int), Cond.fieldLink RX1 89 "ExactSharesModel" "grown" "I", Cond.methodLink RX1 71 yX1_kept, Cond.instanceMethod yX1_kept, Cond.selects RX1 yX1_kept yX1_kept, Cond.code yX1_kept cX1_kept 9 (some .int), Cond.constantLong RX1 67 (-1), Cond.methodLink RX1 102 yX1_summed, Cond.instanceMethod yX1_summed, Cond.selects RX1 yX1_summed yX1_summed, Cond.code yX1_summed cX1_summed 19 (some .int), Cond.methodLink RX1 78 yX1_plus]
def wsX1_act_r3 : List Cond := [Cond.instanceMethod yX1_plus, Cond.selects RX1 yX1_plus yX1_plus, Cond.code yX1_plus cX1_plus 5 (some .long), Cond.constantLong RX1 52 (-9223372036854775807)]
def wsX1_act : List Cond := .code yX1_act cX1_act 4 (some .int) :: ((wsX1_act_r1 ++ (wsX1_act_r2 ++ wsX1_act_r3)) ++ wsX10)
def wsX1_over_r1 : List Cond := [Cond.fieldLink RX1 43 "ExactSharesModel" "thrown" "I", Cond.fieldLink RX1 56 "ExactSharesModel" "numbers" "I", Cond.fieldLink RX1 7 "ExactSharesModel" "upper" "[J", Cond.fieldLink RX1 39 "ExactSharesModel" "isWide" "Z", Cond.methodLink RX1 94 yX1_isNumber, Cond.instanceMethod yX1_isNumber, Cond.selects RX1 yX1_isNumber yX1_isNumber, Cond.initialized RX1, Cond.code yX1_isNumber cX1_isNumber 2 (some .boolean), Cond.methodLink RX1 59 yX1_isIn, Cond.static yX1_isIn, Cond.code yX1_isIn cX1_isIn 6 (some .boolean), Cond.methodLink RX1 98 yX1_divided, Cond.instanceMethod yX1_divided, Cond.selects RX1 yX1_divided yX1_divided, Cond.code yX1_divided cX1_divided 4 (some .int), Cond.fieldLink RX1 13 "ExactSharesModel" "lower" "[J", Cond.methodLink RX1 85 yX1_multiplied, Cond.instanceMethod yX1_multiplied, Cond.selects RX1 yX1_multiplied yX1_multiplied, Cond.code yX1_multiplied cX1_multiplied 17 (some .int), Cond.methodLink RX1 63 yX1_divisor, Cond.static yX1_divisor, Cond.code yX1_divisor cX1_divisor 10 (some .long)]
def wsX1_over_r2 : List Cond := [Cond.methodLink RX1 46 yX1_sizeOf, Cond.static yX1_sizeOf, Cond.code yX1_sizeOf cX1_sizeOf 2 (some .long), Cond.methodLink RX1 75 yX1_times, Cond.instanceMethod yX1_times, Cond.selects RX1 yX1_times yX1_times, Cond.code yX1_times cX1_times 5 (some .long), Cond.constantLong RX1 50 (9223372036854775807), Cond.methodLink RX1 81 yX1_grew, Cond.instanceMethod yX1_grew, Cond.selects RX1 yX1_grew yX1_grew, Cond.code yX1_grew cX1_grew 1 (some .int), Cond.fieldLink RX1 89 "ExactSharesModel" "grown" "I", Cond.methodLink RX1 71 yX1_kept, Cond.instanceMethod yX1_kept, Cond.selects RX1 yX1_kept yX1_kept, Cond.code yX1_kept cX1_kept 9 (some .int), Cond.constantLong RX1 67 (-1)]
def wsX1_over : List Cond := .code yX1_over cX1_over 3 (some .int) :: ((wsX1_over_r1 ++ wsX1_over_r2) ++ wsX10)
def wsX1_drop : List Cond := .code yX1_drop cX1_drop 1 (some .int) :: ([.fieldLink RX1 43 "ExactSharesModel" "thrown" "I", .fieldLink RX1 56 "ExactSharesModel" "numbers" "I"] ++ wsX10)
def wsX1_ordered : List Cond := .code yX1_ordered cX1_ordered 6 (some .int) :: ([.fieldLink RX1 7 "ExactSharesModel" "upper" "[J", .fieldLink RX1 13 "ExactSharesModel" "lower" "[J", .methodLink RX1 46 yX1_sizeOf, .static yX1_sizeOf, .initialized RX1, .code yX1_sizeOf cX1_sizeOf 2 (some .long), .methodLink RX1 105 yX1_compared, .instanceMethod yX1_compared, .selects RX1 yX1_compared yX1_compared, .code yX1_compared cX1_compared 11 (some .int), .fieldLink RX1 33 "ExactSharesModel" "one" "[J", .fieldLink RX1 36 "ExactSharesModel" "two" "[J", .constantLong RX1 54 (2097151)] ++ wsX10)
def wsX1_order_r1 : List Cond := [Cond.fieldLink RX1 43 "ExactSharesModel" "thrown" "I", Cond.methodLink RX1 94 yX1_isNumber, Cond.instanceMethod yX1_isNumber, Cond.selects RX1 yX1_isNumber yX1_isNumber, Cond.initialized RX1, Cond.code yX1_isNumber cX1_isNumber 2 (some .boolean), Cond.fieldLink RX1 56 "ExactSharesModel" "numbers" "I", Cond.methodLink RX1 59 yX1_isIn, Cond.static yX1_isIn, Cond.code yX1_isIn cX1_isIn 6 (some .boolean), Cond.methodLink RX1 108 yX1_ordered, Cond.instanceMethod yX1_ordered, Cond.selects RX1 yX1_ordered yX1_ordered, Cond.code yX1_ordered cX1_ordered 6 (some .int), Cond.fieldLink RX1 7 "ExactSharesModel" "upper" "[J", Cond.fieldLink RX1 13 "ExactSharesModel" "lower" "[J", Cond.methodLink RX1 46 yX1_sizeOf, Cond.static yX1_sizeOf, Cond.code yX1_sizeOf cX1_sizeOf 2 (some .long), Cond.methodLink RX1 105 yX1_compared, Cond.instanceMethod yX1_compared, Cond.selects RX1 yX1_compared yX1_compared, Cond.code yX1_compared cX1_compared 11 (some .int), Cond.fieldLink RX1 33 "ExactSharesModel" "one" "[J"]
def wsX1_order_r2 : List Cond := [Cond.fieldLink RX1 36 "ExactSharesModel" "two" "[J", Cond.constantLong RX1 54 (2097151)]
def wsX1_order : List Cond := .code yX1_order cX1_order 3 (some .int) :: ((wsX1_order_r1 ++ wsX1_order_r2) ++ wsX10)
def wsX1_part : List Cond := .code yX1_part cX1_part 3 (some .long) :: ([.fieldLink RX1 43 "ExactSharesModel" "thrown" "I", .constantLong RX1 69 (-9223372036854775808), .fieldLink RX1 7 "ExactSharesModel" "upper" "[J", .fieldLink RX1 13 "ExactSharesModel" "lower" "[J", .methodLink RX1 94 yX1_isNumber, .instanceMethod yX1_isNumber, .selects RX1 yX1_isNumber yX1_isNumber, .initialized RX1, .code yX1_isNumber cX1_isNumber 2 (some .boolean), .fieldLink RX1 56 "ExactSharesModel" "numbers" "I", .methodLink RX1 59 yX1_isIn, .static yX1_isIn, .code yX1_isIn cX1_isIn 6 (some .boolean)] ++ wsX10)
def wsX1_between : List Cond := .code yX1_between cX1_between 31 (some .int) :: ([.fieldLink RX1 7 "ExactSharesModel" "upper" "[J", .fieldLink RX1 13 "ExactSharesModel" "lower" "[J", .methodLink RX1 46 yX1_sizeOf, .static yX1_sizeOf, .initialized RX1, .code yX1_sizeOf cX1_sizeOf 2 (some .long), .methodLink RX1 71 yX1_kept, .instanceMethod yX1_kept, .selects RX1 yX1_kept yX1_kept, .code yX1_kept cX1_kept 9 (some .int), .constantLong RX1 67 (-1), .fieldLink RX1 56 "ExactSharesModel" "numbers" "I", .methodLink RX1 63 yX1_divisor, .static yX1_divisor, .code yX1_divisor cX1_divisor 10 (some .long)] ++ wsX10)
def wsX1_simplest_r1 : List Cond := [Cond.fieldLink RX1 43 "ExactSharesModel" "thrown" "I", Cond.fieldLink RX1 56 "ExactSharesModel" "numbers" "I", Cond.fieldLink RX1 7 "ExactSharesModel" "upper" "[J", Cond.methodLink RX1 94 yX1_isNumber, Cond.instanceMethod yX1_isNumber, Cond.selects RX1 yX1_isNumber yX1_isNumber, Cond.initialized RX1, Cond.code yX1_isNumber cX1_isNumber 2 (some .boolean), Cond.methodLink RX1 59 yX1_isIn, Cond.static yX1_isIn, Cond.code yX1_isIn cX1_isIn 6 (some .boolean), Cond.methodLink RX1 108 yX1_ordered, Cond.instanceMethod yX1_ordered, Cond.selects RX1 yX1_ordered yX1_ordered, Cond.code yX1_ordered cX1_ordered 6 (some .int), Cond.fieldLink RX1 13 "ExactSharesModel" "lower" "[J", Cond.methodLink RX1 46 yX1_sizeOf, Cond.static yX1_sizeOf, Cond.code yX1_sizeOf cX1_sizeOf 2 (some .long), Cond.methodLink RX1 105 yX1_compared, Cond.instanceMethod yX1_compared, Cond.selects RX1 yX1_compared yX1_compared, Cond.code yX1_compared cX1_compared 11 (some .int), Cond.fieldLink RX1 33 "ExactSharesModel" "one" "[J"]
def wsX1_simplest_r2 : List Cond := [Cond.fieldLink RX1 36 "ExactSharesModel" "two" "[J", Cond.constantLong RX1 54 (2097151), Cond.methodLink RX1 71 yX1_kept, Cond.instanceMethod yX1_kept, Cond.selects RX1 yX1_kept yX1_kept, Cond.code yX1_kept cX1_kept 9 (some .int), Cond.constantLong RX1 67 (-1), Cond.methodLink RX1 63 yX1_divisor, Cond.static yX1_divisor, Cond.code yX1_divisor cX1_divisor 10 (some .long), Cond.methodLink RX1 111 yX1_between, Cond.instanceMethod yX1_between, Cond.selects RX1 yX1_between yX1_between, Cond.code yX1_between cX1_between 31 (some .int)]
def wsX1_simplest : List Cond := .code yX1_simplest cX1_simplest 7 (some .int) :: ((wsX1_simplest_r1 ++ wsX1_simplest_r2) ++ wsX10)
def wsX1_near_r1 : List Cond := [Cond.fieldLink RX1 43 "ExactSharesModel" "thrown" "I", Cond.constantLong RX1 115 (1000000), Cond.fieldLink RX1 56 "ExactSharesModel" "numbers" "I", Cond.fieldLink RX1 13 "ExactSharesModel" "lower" "[J", Cond.fieldLink RX1 7 "ExactSharesModel" "upper" "[J", Cond.methodLink RX1 94 yX1_isNumber, Cond.instanceMethod yX1_isNumber, Cond.selects RX1 yX1_isNumber yX1_isNumber, Cond.initialized RX1, Cond.code yX1_isNumber cX1_isNumber 2 (some .boolean), Cond.methodLink RX1 59 yX1_isIn, Cond.static yX1_isIn, Cond.code yX1_isIn cX1_isIn 6 (some .boolean), Cond.methodLink RX1 71 yX1_kept, Cond.instanceMethod yX1_kept, Cond.selects RX1 yX1_kept yX1_kept, Cond.code yX1_kept cX1_kept 9 (some .int), Cond.constantLong RX1 67 (-1), Cond.methodLink RX1 63 yX1_divisor, Cond.static yX1_divisor, Cond.code yX1_divisor cX1_divisor 10 (some .long), Cond.methodLink RX1 46 yX1_sizeOf, Cond.static yX1_sizeOf, Cond.code yX1_sizeOf cX1_sizeOf 2 (some .long)]
def wsX1_near_r2 : List Cond := [Cond.methodLink RX1 117 yX1_floor, Cond.static yX1_floor, Cond.code yX1_floor cX1_floor 6 (some .long), Cond.methodLink RX1 105 yX1_compared, Cond.instanceMethod yX1_compared, Cond.selects RX1 yX1_compared yX1_compared, Cond.code yX1_compared cX1_compared 11 (some .int), Cond.fieldLink RX1 33 "ExactSharesModel" "one" "[J", Cond.fieldLink RX1 36 "ExactSharesModel" "two" "[J", Cond.constantLong RX1 54 (2097151)]
def wsX1_near : List Cond := .code yX1_near cX1_near 21 (some .int) :: ((wsX1_near_r1 ++ wsX1_near_r2) ++ wsX10)
def wsX1_cut_r1 : List Cond := [Cond.fieldLink RX1 43 "ExactSharesModel" "thrown" "I", Cond.constantLong RX1 120 (15), Cond.constantLong RX1 69 (-9223372036854775808), Cond.fieldLink RX1 39 "ExactSharesModel" "isWide" "Z", Cond.fieldLink RX1 7 "ExactSharesModel" "upper" "[J", Cond.constantLong RX1 122 (10), Cond.fieldLink RX1 13 "ExactSharesModel" "lower" "[J", Cond.methodLink RX1 94 yX1_isNumber, Cond.instanceMethod yX1_isNumber, Cond.selects RX1 yX1_isNumber yX1_isNumber, Cond.initialized RX1, Cond.code yX1_isNumber cX1_isNumber 2 (some .boolean), Cond.fieldLink RX1 56 "ExactSharesModel" "numbers" "I", Cond.methodLink RX1 59 yX1_isIn, Cond.static yX1_isIn, Cond.code yX1_isIn cX1_isIn 6 (some .boolean), Cond.methodLink RX1 75 yX1_times, Cond.instanceMethod yX1_times, Cond.selects RX1 yX1_times yX1_times, Cond.code yX1_times cX1_times 5 (some .long), Cond.constantLong RX1 50 (9223372036854775807), Cond.methodLink RX1 46 yX1_sizeOf, Cond.static yX1_sizeOf, Cond.code yX1_sizeOf cX1_sizeOf 2 (some .long)]
def wsX1_cut_r2 : List Cond := [Cond.methodLink RX1 117 yX1_floor, Cond.static yX1_floor, Cond.code yX1_floor cX1_floor 6 (some .long)]
def wsX1_cut : List Cond := .code yX1_cut cX1_cut 8 (some .long) :: ((wsX1_cut_r1 ++ wsX1_cut_r2) ++ wsX10)
def wsX1_isRow : List Cond := .code yX1_isRow cX1_isRow 1 (some .boolean) :: ([.constantLong RX1 92 (3), .methodLink RX1 59 yX1_isIn, .static yX1_isIn, .initialized RX1, .code yX1_isIn cX1_isIn 6 (some .boolean)])
def wsX1_into : List Cond := .code yX1_into cX1_into 4 (some .int) :: ([.fieldLink RX1 43 "ExactSharesModel" "thrown" "I", .constantLong RX1 115 (1000000), .fieldLink RX1 19 "ExactSharesModel" "many" "[I", .fieldLink RX1 16 "ExactSharesModel" "value" "[J", .methodLink RX1 124 yX1_isRow, .static yX1_isRow, .initialized RX1, .code yX1_isRow cX1_isRow 1 (some .boolean), .constantLong RX1 92 (3), .methodLink RX1 59 yX1_isIn, .static yX1_isIn, .code yX1_isIn cX1_isIn 6 (some .boolean)] ++ wsX10)
def wsX1_empty : List Cond := .code yX1_empty cX1_empty 3 (some .int) :: ([.fieldLink RX1 43 "ExactSharesModel" "thrown" "I", .fieldLink RX1 19 "ExactSharesModel" "many" "[I", .methodLink RX1 124 yX1_isRow, .static yX1_isRow, .initialized RX1, .code yX1_isRow cX1_isRow 1 (some .boolean), .constantLong RX1 92 (3), .methodLink RX1 59 yX1_isIn, .static yX1_isIn, .code yX1_isIn cX1_isIn 6 (some .boolean)] ++ wsX10)
def wsX1_at : List Cond := .code yX1_at cX1_at 3 (some .long) :: ([.fieldLink RX1 43 "ExactSharesModel" "thrown" "I", .fieldLink RX1 19 "ExactSharesModel" "many" "[I", .fieldLink RX1 16 "ExactSharesModel" "value" "[J", .constantLong RX1 67 (-1), .methodLink RX1 124 yX1_isRow, .static yX1_isRow, .initialized RX1, .code yX1_isRow cX1_isRow 1 (some .boolean), .constantLong RX1 92 (3), .methodLink RX1 59 yX1_isIn, .static yX1_isIn, .code yX1_isIn cX1_isIn 6 (some .boolean)] ++ wsX10)
def wsX1_sumOf : List Cond := .code yX1_sumOf cX1_sumOf 5 (some .long) :: ([.fieldLink RX1 19 "ExactSharesModel" "many" "[I", .fieldLink RX1 16 "ExactSharesModel" "value" "[J"] ++ wsX10)
def wsX1_share_r1 : List Cond := [Cond.fieldLink RX1 43 "ExactSharesModel" "thrown" "I", Cond.fieldLink RX1 19 "ExactSharesModel" "many" "[I", Cond.fieldLink RX1 56 "ExactSharesModel" "numbers" "I", Cond.fieldLink RX1 16 "ExactSharesModel" "value" "[J", Cond.methodLink RX1 124 yX1_isRow, Cond.static yX1_isRow, Cond.initialized RX1, Cond.code yX1_isRow cX1_isRow 1 (some .boolean), Cond.constantLong RX1 92 (3), Cond.methodLink RX1 59 yX1_isIn, Cond.static yX1_isIn, Cond.code yX1_isIn cX1_isIn 6 (some .boolean), Cond.methodLink RX1 127 yX1_sumOf, Cond.instanceMethod yX1_sumOf, Cond.selects RX1 yX1_sumOf yX1_sumOf, Cond.code yX1_sumOf cX1_sumOf 5 (some .long), Cond.methodLink RX1 71 yX1_kept, Cond.instanceMethod yX1_kept, Cond.selects RX1 yX1_kept yX1_kept, Cond.code yX1_kept cX1_kept 9 (some .int), Cond.constantLong RX1 67 (-1), Cond.fieldLink RX1 7 "ExactSharesModel" "upper" "[J", Cond.fieldLink RX1 13 "ExactSharesModel" "lower" "[J", Cond.methodLink RX1 63 yX1_divisor]
def wsX1_share_r2 : List Cond := [Cond.static yX1_divisor, Cond.code yX1_divisor cX1_divisor 10 (some .long), Cond.methodLink RX1 46 yX1_sizeOf, Cond.static yX1_sizeOf, Cond.code yX1_sizeOf cX1_sizeOf 2 (some .long)]
def wsX1_share : List Cond := .code yX1_share cX1_share 5 (some .int) :: ((wsX1_share_r1 ++ wsX1_share_r2) ++ wsX10)
def wsX1_seats : List Cond := .code yX1_seats cX1_seats 14 (some .int) :: ([.fieldLink RX1 43 "ExactSharesModel" "thrown" "I", .constantLong RX1 131 (2000), .constantLong RX1 133 (2), .fieldLink RX1 19 "ExactSharesModel" "many" "[I", .fieldLink RX1 23 "ExactSharesModel" "seated" "I", .fieldLink RX1 27 "ExactSharesModel" "seat" "[I", .fieldLink RX1 16 "ExactSharesModel" "value" "[J", .fieldLink RX1 30 "ExactSharesModel" "left" "[J", .constantLong RX1 67 (-1), .methodLink RX1 124 yX1_isRow, .static yX1_isRow, .initialized RX1, .code yX1_isRow cX1_isRow 1 (some .boolean), .constantLong RX1 92 (3), .methodLink RX1 59 yX1_isIn, .static yX1_isIn, .code yX1_isIn cX1_isIn 6 (some .boolean), .methodLink RX1 127 yX1_sumOf, .instanceMethod yX1_sumOf, .selects RX1 yX1_sumOf yX1_sumOf, .code yX1_sumOf cX1_sumOf 5 (some .long)] ++ wsX10)
def wsX1_given : List Cond := .code yX1_given cX1_given 2 (some .int) :: ([.fieldLink RX1 43 "ExactSharesModel" "thrown" "I", .fieldLink RX1 23 "ExactSharesModel" "seated" "I", .fieldLink RX1 27 "ExactSharesModel" "seat" "[I", .methodLink RX1 59 yX1_isIn, .static yX1_isIn, .initialized RX1, .code yX1_isIn cX1_isIn 6 (some .boolean)] ++ wsX10)
def wsX1_choose : List Cond := .code yX1_choose cX1_choose 9 (some .long) :: ([.methodLink RX1 63 yX1_divisor, .static yX1_divisor, .initialized RX1, .code yX1_divisor cX1_divisor 10 (some .long), .methodLink RX1 46 yX1_sizeOf, .static yX1_sizeOf, .code yX1_sizeOf cX1_sizeOf 2 (some .long)])
def wsX1_power : List Cond := .code yX1_power cX1_power 7 (some .long) :: ([.methodLink RX1 75 yX1_times, .instanceMethod yX1_times, .selects RX1 yX1_times yX1_times, .initialized RX1, .code yX1_times cX1_times 5 (some .long), .constantLong RX1 50 (9223372036854775807), .fieldLink RX1 39 "ExactSharesModel" "isWide" "Z", .methodLink RX1 46 yX1_sizeOf, .static yX1_sizeOf, .code yX1_sizeOf cX1_sizeOf 2 (some .long)] ++ wsX10)
def wsX1_tail_r1 : List Cond := [Cond.fieldLink RX1 43 "ExactSharesModel" "thrown" "I", Cond.constantLong RX1 135 (60), Cond.fieldLink RX1 7 "ExactSharesModel" "upper" "[J", Cond.fieldLink RX1 13 "ExactSharesModel" "lower" "[J", Cond.fieldLink RX1 56 "ExactSharesModel" "numbers" "I", Cond.fieldLink RX1 39 "ExactSharesModel" "isWide" "Z", Cond.methodLink RX1 59 yX1_isIn, Cond.static yX1_isIn, Cond.initialized RX1, Cond.code yX1_isIn cX1_isIn 6 (some .boolean), Cond.methodLink RX1 94 yX1_isNumber, Cond.instanceMethod yX1_isNumber, Cond.selects RX1 yX1_isNumber yX1_isNumber, Cond.code yX1_isNumber cX1_isNumber 2 (some .boolean), Cond.methodLink RX1 137 yX1_power, Cond.instanceMethod yX1_power, Cond.selects RX1 yX1_power yX1_power, Cond.code yX1_power cX1_power 7 (some .long), Cond.methodLink RX1 75 yX1_times, Cond.instanceMethod yX1_times, Cond.selects RX1 yX1_times yX1_times, Cond.code yX1_times cX1_times 5 (some .long), Cond.constantLong RX1 50 (9223372036854775807), Cond.methodLink RX1 46 yX1_sizeOf]
def wsX1_tail_r2 : List Cond := [Cond.static yX1_sizeOf, Cond.code yX1_sizeOf cX1_sizeOf 2 (some .long), Cond.methodLink RX1 141 yX1_choose, Cond.static yX1_choose, Cond.code yX1_choose cX1_choose 9 (some .long), Cond.methodLink RX1 63 yX1_divisor, Cond.static yX1_divisor, Cond.code yX1_divisor cX1_divisor 10 (some .long), Cond.methodLink RX1 71 yX1_kept, Cond.instanceMethod yX1_kept, Cond.selects RX1 yX1_kept yX1_kept, Cond.code yX1_kept cX1_kept 9 (some .int), Cond.constantLong RX1 67 (-1)]
def wsX1_tail : List Cond := .code yX1_tail cX1_tail 9 (some .int) :: ((wsX1_tail_r1 ++ wsX1_tail_r2) ++ wsX10)
def wsX1_urn : List Cond := .code yX1_urn cX1_urn 7 (some .int) :: ([.fieldLink RX1 43 "ExactSharesModel" "thrown" "I", .constantLong RX1 135 (60), .fieldLink RX1 56 "ExactSharesModel" "numbers" "I", .methodLink RX1 59 yX1_isIn, .static yX1_isIn, .initialized RX1, .code yX1_isIn cX1_isIn 6 (some .boolean), .methodLink RX1 141 yX1_choose, .static yX1_choose, .code yX1_choose cX1_choose 9 (some .long), .methodLink RX1 63 yX1_divisor, .static yX1_divisor, .code yX1_divisor cX1_divisor 10 (some .long), .methodLink RX1 46 yX1_sizeOf, .static yX1_sizeOf, .code yX1_sizeOf cX1_sizeOf 2 (some .long), .methodLink RX1 71 yX1_kept, .instanceMethod yX1_kept, .selects RX1 yX1_kept yX1_kept, .code yX1_kept cX1_kept 9 (some .int), .constantLong RX1 67 (-1), .fieldLink RX1 7 "ExactSharesModel" "upper" "[J", .fieldLink RX1 13 "ExactSharesModel" "lower" "[J"] ++ wsX10)
def wsX1_test_r1 : List Cond := [Cond.fieldLink RX1 43 "ExactSharesModel" "thrown" "I", Cond.fieldLink RX1 19 "ExactSharesModel" "many" "[I", Cond.fieldLink RX1 56 "ExactSharesModel" "numbers" "I", Cond.fieldLink RX1 145 "ExactSharesModel" "notBelow" "I", Cond.fieldLink RX1 148 "ExactSharesModel" "all" "I", Cond.fieldLink RX1 151 "ExactSharesModel" "just" "I", Cond.fieldLink RX1 16 "ExactSharesModel" "value" "[J", Cond.fieldLink RX1 154 "ExactSharesModel" "isTested" "Z", Cond.methodLink RX1 124 yX1_isRow, Cond.static yX1_isRow, Cond.initialized RX1, Cond.code yX1_isRow cX1_isRow 1 (some .boolean), Cond.constantLong RX1 92 (3), Cond.methodLink RX1 59 yX1_isIn, Cond.static yX1_isIn, Cond.code yX1_isIn cX1_isIn 6 (some .boolean), Cond.methodLink RX1 127 yX1_sumOf, Cond.instanceMethod yX1_sumOf, Cond.selects RX1 yX1_sumOf yX1_sumOf, Cond.code yX1_sumOf cX1_sumOf 5 (some .long), Cond.methodLink RX1 71 yX1_kept, Cond.instanceMethod yX1_kept, Cond.selects RX1 yX1_kept yX1_kept, Cond.code yX1_kept cX1_kept 9 (some .int)]
def wsX1_test_r2 : List Cond := [Cond.constantLong RX1 67 (-1), Cond.fieldLink RX1 7 "ExactSharesModel" "upper" "[J", Cond.fieldLink RX1 13 "ExactSharesModel" "lower" "[J", Cond.methodLink RX1 63 yX1_divisor, Cond.static yX1_divisor, Cond.code yX1_divisor cX1_divisor 10 (some .long), Cond.methodLink RX1 46 yX1_sizeOf, Cond.static yX1_sizeOf, Cond.code yX1_sizeOf cX1_sizeOf 2 (some .long)]
def wsX1_test : List Cond := .code yX1_test cX1_test 11 (some .int) :: ((wsX1_test_r1 ++ wsX1_test_r2) ++ wsX10)
def wsX1_ways : List Cond := .code yX1_ways cX1_ways 2 (some .int) :: ([.fieldLink RX1 43 "ExactSharesModel" "thrown" "I", .fieldLink RX1 154 "ExactSharesModel" "isTested" "Z", .fieldLink RX1 145 "ExactSharesModel" "notBelow" "I", .fieldLink RX1 148 "ExactSharesModel" "all" "I", .fieldLink RX1 151 "ExactSharesModel" "just" "I"] ++ wsX10)
def wsX1_count : List Cond := .code yX1_count cX1_count 2 (some .int) :: ([.fieldLink RX1 43 "ExactSharesModel" "thrown" "I", .fieldLink RX1 56 "ExactSharesModel" "numbers" "I", .constantLong RX1 157 (4), .fieldLink RX1 19 "ExactSharesModel" "many" "[I", .fieldLink RX1 89 "ExactSharesModel" "grown" "I", .methodLink RX1 59 yX1_isIn, .static yX1_isIn, .initialized RX1, .code yX1_isIn cX1_isIn 6 (some .boolean)] ++ wsX10)
def wsJ9_abs_067f4 : List Cond := .code yJ9_abs_067f4 cJ9_abs_067f4 2 (some .long) :: ([])
def wsJ9_max_7cf53 : List Cond := .code yJ9_max_7cf53 cJ9_max_7cf53 2 (some .int) :: ([])
def wsJ9_max_f86c9 : List Cond := .code yJ9_max_f86c9 cJ9_max_f86c9 4 (some .long) :: ([])
def wsJ9_min_f86c9 : List Cond := .code yJ9_min_f86c9 cJ9_min_f86c9 4 (some .long) :: ([])
def wsL_over_r1 : List Cond := [Cond.classLink RL 13 "java/lang/ArithmeticException", Cond.methodLink RL 7 yX0_over, Cond.instanceMethod yX0_over, Cond.selects RX0 yX0_over yX0_over, Cond.initialized RX0, Cond.code yX0_over cX0_over 3 (some .int), Cond.classLink RX0 61 "java/lang/ArithmeticException", Cond.initialized "java/lang/ArithmeticException", Cond.fieldLink RX0 11 "ExactShares" "above" "[J", Cond.methodLink RX0 42 yX0_isNumber, Cond.instanceMethod yX0_isNumber, Cond.selects RX0 yX0_isNumber yX0_isNumber, Cond.code yX0_isNumber cX0_isNumber 2 (some .boolean), Cond.fieldLink RX0 68 "ExactShares" "numbers" "I", Cond.methodLink RX0 46 yX0_isFull, Cond.instanceMethod yX0_isFull, Cond.selects RX0 yX0_isFull yX0_isFull, Cond.code yX0_isFull cX0_isFull 1 (some .boolean), Cond.methodLink RX0 57 yX0_keepQuotient, Cond.instanceMethod yX0_keepQuotient, Cond.selects RX0 yX0_keepQuotient yX0_keepQuotient, Cond.code yX0_keepQuotient cX0_keepQuotient 3 (some .int), Cond.fieldLink RX0 15 "ExactShares" "below" "[J", Cond.methodLink RX0 54 yX0_keepProduct]
def wsL_over_r2 : List Cond := [Cond.instanceMethod yX0_keepProduct, Cond.selects RX0 yX0_keepProduct yX0_keepProduct, Cond.code yX0_keepProduct cX0_keepProduct 13 (some .int), Cond.methodLink RX0 160 yX0_greatestDivisor, Cond.static yX0_greatestDivisor, Cond.code yX0_greatestDivisor cX0_greatestDivisor 11 (some .long), Cond.methodLink RX0 179 Lib.MathLoose.abs_long.x, Cond.static Lib.MathLoose.abs_long.x, Cond.initialized "java/lang/Math", Cond.code Lib.MathLoose.abs_long.x Lib.MathLoose.abs_long.code 2 (some .long), Cond.methodLink RX0 185 Lib.MathLoose.max_long.x, Cond.static Lib.MathLoose.max_long.x, Cond.code Lib.MathLoose.max_long.x Lib.MathLoose.max_long.code 4 (some .long), Cond.methodLink RX0 90 yX0_times, Cond.static yX0_times, Cond.code yX0_times cX0_times 4 (some .long), Cond.constantLong RX0 36 (-9223372036854775808), Cond.constantLong RX0 183 (9223372036854775807), Cond.methodLink RX0 166 yX0_keepUnlessWide, Cond.instanceMethod yX0_keepUnlessWide, Cond.selects RX0 yX0_keepUnlessWide yX0_keepUnlessWide, Cond.code yX0_keepUnlessWide cX0_keepUnlessWide 5 (some .int), Cond.fieldLink RX0 157 "ExactShares" "grown" "I", Cond.methodLink RX0 38 yX0_keep]
def wsL_over_r3 : List Cond := [Cond.instanceMethod yX0_keep, Cond.selects RX0 yX0_keep yX0_keep, Cond.code yX0_keep cX0_keep 7 (some .int)]
def wsL_over : List Cond := .codeWith yL_over cL_over 5 (some .int) [(0, 10, 13, 13)] :: ((wsL_over_r1 ++ (wsL_over_r2 ++ wsL_over_r3)) ++ wsX00 ++ (vx_atS RX0 65 "java/lang/ArithmeticException" ["java/lang/RuntimeException", "java/lang/Exception"]).filter goodWord)
def wsL_share_r1 : List Cond := [Cond.classLink RL 13 "java/lang/ArithmeticException", Cond.methodLink RL 15 yX0_share, Cond.instanceMethod yX0_share, Cond.selects RX0 yX0_share yX0_share, Cond.initialized RX0, Cond.code yX0_share cX0_share 5 (some .int), Cond.classLink RX0 61 "java/lang/ArithmeticException", Cond.initialized "java/lang/ArithmeticException", Cond.fieldLink RX0 20 "ExactShares" "values" "[[J", Cond.methodLink RX0 104 yX0_isValue, Cond.instanceMethod yX0_isValue, Cond.selects RX0 yX0_isValue yX0_isValue, Cond.code yX0_isValue cX0_isValue 3 (some .boolean), Cond.fieldLink RX0 23 "ExactShares" "sizes" "[I", Cond.methodLink RX0 99 yX0_isRow, Cond.static yX0_isRow, Cond.code yX0_isRow cX0_isRow 1 (some .boolean), Cond.methodLink RX0 46 yX0_isFull, Cond.instanceMethod yX0_isFull, Cond.selects RX0 yX0_isFull yX0_isFull, Cond.code yX0_isFull cX0_isFull 1 (some .boolean), Cond.fieldLink RX0 68 "ExactShares" "numbers" "I", Cond.methodLink RX0 110 yX0_sumOf, Cond.instanceMethod yX0_sumOf]
def wsL_share_r2 : List Cond := [Cond.selects RX0 yX0_sumOf yX0_sumOf, Cond.code yX0_sumOf cX0_sumOf 5 (some .long), Cond.methodLink RX0 38 yX0_keep, Cond.instanceMethod yX0_keep, Cond.selects RX0 yX0_keep yX0_keep, Cond.code yX0_keep cX0_keep 7 (some .int), Cond.fieldLink RX0 11 "ExactShares" "above" "[J", Cond.fieldLink RX0 15 "ExactShares" "below" "[J", Cond.methodLink RX0 160 yX0_greatestDivisor, Cond.static yX0_greatestDivisor, Cond.code yX0_greatestDivisor cX0_greatestDivisor 11 (some .long), Cond.methodLink RX0 179 Lib.MathLoose.abs_long.x, Cond.static Lib.MathLoose.abs_long.x, Cond.initialized "java/lang/Math", Cond.code Lib.MathLoose.abs_long.x Lib.MathLoose.abs_long.code 2 (some .long), Cond.methodLink RX0 185 Lib.MathLoose.max_long.x, Cond.static Lib.MathLoose.max_long.x, Cond.code Lib.MathLoose.max_long.x Lib.MathLoose.max_long.code 4 (some .long)]
def wsL_share : List Cond := .codeWith yL_share cL_share 5 (some .int) [(0, 10, 13, 13)] :: ((wsL_share_r1 ++ wsL_share_r2) ++ wsX00 ++ (vx_atS RX0 65 "java/lang/ArithmeticException" ["java/lang/RuntimeException", "java/lang/Exception"]).filter goodWord)
def wsL_law0_r1 : List Cond := [Cond.classLink RL 8 RX0, Cond.instantiable RX0 13, Cond.initialized RX0, Cond.classLink RL 19 RX1, Cond.instantiable RX1 17, Cond.initialized RX1, Cond.arrayClass .long, Cond.constantLong RL 22 (4294967295), Cond.methodLink RL 18 yX0_init, Cond.instanceMethod yX0_init, Cond.code yX0_init cX0_init 1 none, Cond.methodLink RX0 3 objectInit, Cond.instanceMethod objectInit, Cond.code objectInit ⟨#[0xb1]⟩ 1 none, Cond.fieldLink RX0 11 "ExactShares" "above" "[J", Cond.fieldLink RX0 15 "ExactShares" "below" "[J", Cond.classLink RX0 18 "[[J", Cond.fieldLink RX0 20 "ExactShares" "values" "[[J", Cond.arrayClass .int, Cond.fieldLink RX0 23 "ExactShares" "sizes" "[I", Cond.fieldLink RX0 27 "ExactShares" "seatsGiven" "[I", Cond.fieldLink RX0 30 "ExactShares" "remainders" "[J", Cond.fieldLink RX0 33 "ExactShares" "things" "[J", Cond.methodLink RL 21 yX1_init]
def wsL_law0_r2 : List Cond := [Cond.instanceMethod yX1_init, Cond.code yX1_init cX1_init 1 none, Cond.methodLink RX1 1 objectInit, Cond.fieldLink RX1 7 "ExactSharesModel" "upper" "[J", Cond.fieldLink RX1 13 "ExactSharesModel" "lower" "[J", Cond.fieldLink RX1 16 "ExactSharesModel" "value" "[J", Cond.fieldLink RX1 19 "ExactSharesModel" "many" "[I", Cond.fieldLink RX1 23 "ExactSharesModel" "seated" "I", Cond.fieldLink RX1 27 "ExactSharesModel" "seat" "[I", Cond.fieldLink RX1 30 "ExactSharesModel" "left" "[J", Cond.fieldLink RX1 33 "ExactSharesModel" "one" "[J", Cond.fieldLink RX1 36 "ExactSharesModel" "two" "[J", Cond.fieldLink RX1 39 "ExactSharesModel" "isWide" "Z", Cond.methodLink RL 24 yX0_value, Cond.instanceMethod yX0_value, Cond.selects RX0 yX0_value yX0_value, Cond.code yX0_value cX0_value 5 (some .int), Cond.constantLong RX0 36 (-9223372036854775808), Cond.methodLink RX0 38 yX0_keep, Cond.instanceMethod yX0_keep, Cond.selects RX0 yX0_keep yX0_keep, Cond.code yX0_keep cX0_keep 7 (some .int), Cond.fieldLink RX0 68 "ExactShares" "numbers" "I", Cond.methodLink RX0 46 yX0_isFull]
def wsL_law0_r3 : List Cond := [Cond.instanceMethod yX0_isFull, Cond.selects RX0 yX0_isFull yX0_isFull, Cond.code yX0_isFull cX0_isFull 1 (some .boolean), Cond.methodLink RX0 160 yX0_greatestDivisor, Cond.static yX0_greatestDivisor, Cond.code yX0_greatestDivisor cX0_greatestDivisor 11 (some .long), Cond.methodLink RX0 179 Lib.MathLoose.abs_long.x, Cond.static Lib.MathLoose.abs_long.x, Cond.initialized "java/lang/Math", Cond.code Lib.MathLoose.abs_long.x Lib.MathLoose.abs_long.code 2 (some .long), Cond.methodLink RX0 185 Lib.MathLoose.max_long.x, Cond.static Lib.MathLoose.max_long.x, Cond.code Lib.MathLoose.max_long.x Lib.MathLoose.max_long.code 4 (some .long), Cond.methodLink RL 28 yX1_value, Cond.instanceMethod yX1_value, Cond.selects RX1 yX1_value yX1_value, Cond.code yX1_value cX1_value 5 (some .int), Cond.fieldLink RX1 43 "ExactSharesModel" "thrown" "I", Cond.constantLong RX1 69 (-9223372036854775808), Cond.fieldLink RX1 56 "ExactSharesModel" "numbers" "I", Cond.methodLink RX1 71 yX1_kept, Cond.instanceMethod yX1_kept, Cond.selects RX1 yX1_kept yX1_kept, Cond.code yX1_kept cX1_kept 9 (some .int)]
def wsL_law0_r4 : List Cond := [Cond.constantLong RX1 67 (-1), Cond.methodLink RX1 63 yX1_divisor, Cond.static yX1_divisor, Cond.code yX1_divisor cX1_divisor 10 (some .long), Cond.methodLink RX1 46 yX1_sizeOf, Cond.static yX1_sizeOf, Cond.code yX1_sizeOf cX1_sizeOf 2 (some .long), Cond.methodLink RL 29 yX0_act, Cond.instanceMethod yX0_act, Cond.selects RX0 yX0_act yX0_act, Cond.code yX0_act cX0_act 4 (some .int), Cond.methodLink RX0 42 yX0_isNumber, Cond.instanceMethod yX0_isNumber, Cond.selects RX0 yX0_isNumber yX0_isNumber, Cond.code yX0_isNumber cX0_isNumber 2 (some .boolean), Cond.methodLink RX0 50 yX0_keepSum, Cond.instanceMethod yX0_keepSum, Cond.selects RX0 yX0_keepSum yX0_keepSum, Cond.code yX0_keepSum cX0_keepSum 13 (some .int), Cond.methodLink RX0 90 yX0_times, Cond.static yX0_times, Cond.code yX0_times cX0_times 4 (some .long), Cond.constantLong RX0 183 (9223372036854775807), Cond.methodLink RX0 163 yX0_plus]
def wsL_law0_r5 : List Cond := [Cond.static yX0_plus, Cond.code yX0_plus cX0_plus 7 (some .long), Cond.methodLink RX0 166 yX0_keepUnlessWide, Cond.instanceMethod yX0_keepUnlessWide, Cond.selects RX0 yX0_keepUnlessWide yX0_keepUnlessWide, Cond.code yX0_keepUnlessWide cX0_keepUnlessWide 5 (some .int), Cond.fieldLink RX0 157 "ExactShares" "grown" "I", Cond.methodLink RX0 54 yX0_keepProduct, Cond.instanceMethod yX0_keepProduct, Cond.selects RX0 yX0_keepProduct yX0_keepProduct, Cond.code yX0_keepProduct cX0_keepProduct 13 (some .int), Cond.methodLink RX0 57 yX0_keepQuotient, Cond.instanceMethod yX0_keepQuotient, Cond.selects RX0 yX0_keepQuotient yX0_keepQuotient, Cond.code yX0_keepQuotient cX0_keepQuotient 3 (some .int), Cond.methodLink RL 33 yX1_act, Cond.instanceMethod yX1_act, Cond.selects RX1 yX1_act yX1_act, Cond.code yX1_act cX1_act 4 (some .int), Cond.constantLong RX1 92 (3), Cond.methodLink RX1 59 yX1_isIn, Cond.static yX1_isIn, Cond.code yX1_isIn cX1_isIn 6 (some .boolean), Cond.methodLink RX1 94 yX1_isNumber]
def wsL_law0_r6 : List Cond := [Cond.instanceMethod yX1_isNumber, Cond.selects RX1 yX1_isNumber yX1_isNumber, Cond.code yX1_isNumber cX1_isNumber 2 (some .boolean), Cond.methodLink RX1 98 yX1_divided, Cond.instanceMethod yX1_divided, Cond.selects RX1 yX1_divided yX1_divided, Cond.code yX1_divided cX1_divided 4 (some .int), Cond.methodLink RX1 85 yX1_multiplied, Cond.instanceMethod yX1_multiplied, Cond.selects RX1 yX1_multiplied yX1_multiplied, Cond.code yX1_multiplied cX1_multiplied 17 (some .int), Cond.methodLink RX1 75 yX1_times, Cond.instanceMethod yX1_times, Cond.selects RX1 yX1_times yX1_times, Cond.code yX1_times cX1_times 5 (some .long), Cond.constantLong RX1 50 (9223372036854775807), Cond.methodLink RX1 81 yX1_grew, Cond.instanceMethod yX1_grew, Cond.selects RX1 yX1_grew yX1_grew, Cond.code yX1_grew cX1_grew 1 (some .int), Cond.fieldLink RX1 89 "ExactSharesModel" "grown" "I", Cond.methodLink RX1 102 yX1_summed, Cond.instanceMethod yX1_summed, Cond.selects RX1 yX1_summed yX1_summed]
def wsL_law0_r7 : List Cond := [Cond.code yX1_summed cX1_summed 19 (some .int), Cond.methodLink RX1 78 yX1_plus, Cond.instanceMethod yX1_plus, Cond.selects RX1 yX1_plus yX1_plus, Cond.code yX1_plus cX1_plus 5 (some .long), Cond.constantLong RX1 52 (-9223372036854775807), Cond.methodLink RL 34 yL_over, Cond.static yL_over, Cond.initialized RL, Cond.codeWith yL_over cL_over 5 (some .int) [(0, 10, 13, 13)], Cond.classLink RL 13 "java/lang/ArithmeticException", Cond.methodLink RL 7 yX0_over, Cond.instanceMethod yX0_over, Cond.selects RX0 yX0_over yX0_over, Cond.code yX0_over cX0_over 3 (some .int), Cond.classLink RX0 61 "java/lang/ArithmeticException", Cond.initialized "java/lang/ArithmeticException", Cond.methodLink RL 39 yX1_over, Cond.instanceMethod yX1_over, Cond.selects RX1 yX1_over yX1_over, Cond.code yX1_over cX1_over 3 (some .int), Cond.methodLink RL 40 yX1_thrown, Cond.instanceMethod yX1_thrown, Cond.selects RX1 yX1_thrown yX1_thrown]
def wsL_law0_r8 : List Cond := [Cond.code yX1_thrown cX1_thrown 1 (some .int), Cond.methodLink RL 44 yX0_drop, Cond.instanceMethod yX0_drop, Cond.selects RX0 yX0_drop yX0_drop, Cond.code yX0_drop cX0_drop 1 (some .int), Cond.methodLink RL 47 yX1_drop, Cond.instanceMethod yX1_drop, Cond.selects RX1 yX1_drop yX1_drop, Cond.code yX1_drop cX1_drop 1 (some .int), Cond.methodLink RL 48 yX0_order, Cond.instanceMethod yX0_order, Cond.selects RX0 yX0_order yX0_order, Cond.code yX0_order cX0_order 3 (some .int), Cond.methodLink RX0 72 yX0_compared, Cond.static yX0_compared, Cond.code yX0_compared cX0_compared 18 (some .int), Cond.methodLink RX0 94 yJ9_floorDiv_f86c9, Cond.static yJ9_floorDiv_f86c9, Cond.initialized RJ9, Cond.code yJ9_floorDiv_f86c9 cJ9_floorDiv_f86c9 6 (some .long), Cond.methodLink RL 51 yX1_order, Cond.instanceMethod yX1_order, Cond.selects RX1 yX1_order yX1_order, Cond.code yX1_order cX1_order 3 (some .int)]
def wsL_law0_r9 : List Cond := [Cond.methodLink RX1 108 yX1_ordered, Cond.instanceMethod yX1_ordered, Cond.selects RX1 yX1_ordered yX1_ordered, Cond.code yX1_ordered cX1_ordered 6 (some .int), Cond.methodLink RX1 105 yX1_compared, Cond.instanceMethod yX1_compared, Cond.selects RX1 yX1_compared yX1_compared, Cond.code yX1_compared cX1_compared 11 (some .int), Cond.constantLong RX1 54 (2097151), Cond.methodLink RL 52 yX0_part, Cond.instanceMethod yX0_part, Cond.selects RX0 yX0_part yX0_part, Cond.code yX0_part cX0_part 3 (some .long), Cond.methodLink RL 56 yX1_part, Cond.instanceMethod yX1_part, Cond.selects RX1 yX1_part yX1_part, Cond.code yX1_part cX1_part 3 (some .long), Cond.methodLink RL 57 yX0_simplest, Cond.instanceMethod yX0_simplest, Cond.selects RX0 yX0_simplest yX0_simplest, Cond.code yX0_simplest cX0_simplest 6 (some .int), Cond.methodLink RX0 75 yX0_keepSimplest, Cond.instanceMethod yX0_keepSimplest, Cond.selects RX0 yX0_keepSimplest yX0_keepSimplest]
def wsL_law0_r10 : List Cond := [Cond.code yX0_keepSimplest cX0_keepSimplest 32 (some .int), Cond.methodLink RL 60 yX1_simplest, Cond.instanceMethod yX1_simplest, Cond.selects RX1 yX1_simplest yX1_simplest, Cond.code yX1_simplest cX1_simplest 7 (some .int), Cond.methodLink RX1 111 yX1_between, Cond.instanceMethod yX1_between, Cond.selects RX1 yX1_between yX1_between, Cond.code yX1_between cX1_between 31 (some .int), Cond.methodLink RL 61 yX0_near, Cond.instanceMethod yX0_near, Cond.selects RX0 yX0_near yX0_near, Cond.code yX0_near cX0_near 3 (some .int), Cond.constant RX0 79 (1000000), Cond.methodLink RX0 80 yX0_keepNearest, Cond.instanceMethod yX0_keepNearest, Cond.selects RX0 yX0_keepNearest yX0_keepNearest, Cond.code yX0_keepNearest cX0_keepNearest 25 (some .int), Cond.methodLink RX0 169 yX0_stepsOf, Cond.static yX0_stepsOf, Cond.code yX0_stepsOf cX0_stepsOf 8 (some .long), Cond.methodLink RX0 173 Lib.MathLoose.min_long.x, Cond.static Lib.MathLoose.min_long.x, Cond.code Lib.MathLoose.min_long.x Lib.MathLoose.min_long.code 4 (some .long)]
def wsL_law0_r11 : List Cond := [Cond.methodLink RL 64 yX1_near, Cond.instanceMethod yX1_near, Cond.selects RX1 yX1_near yX1_near, Cond.code yX1_near cX1_near 21 (some .int), Cond.constantLong RX1 115 (1000000), Cond.methodLink RX1 117 yX1_floor, Cond.static yX1_floor, Cond.code yX1_floor cX1_floor 6 (some .long), Cond.methodLink RL 65 yX0_cut, Cond.instanceMethod yX0_cut, Cond.selects RX0 yX0_cut yX0_cut, Cond.code yX0_cut cX0_cut 6 (some .long), Cond.constantLong RX0 84 (10), Cond.methodLink RX0 86 yX0_power, Cond.static yX0_power, Cond.code yX0_power cX0_power 6 (some .long), Cond.methodLink RL 69 yX1_cut, Cond.instanceMethod yX1_cut, Cond.selects RX1 yX1_cut yX1_cut, Cond.code yX1_cut cX1_cut 8 (some .long), Cond.constantLong RX1 120 (15), Cond.constantLong RX1 122 (10), Cond.methodLink RL 70 yX0_into, Cond.instanceMethod yX0_into]
def wsL_law0_r12 : List Cond := [Cond.selects RX0 yX0_into yX0_into, Cond.code yX0_into cX0_into 4 (some .int), Cond.constantLong RX0 102 (1000000), Cond.methodLink RX0 99 yX0_isRow, Cond.static yX0_isRow, Cond.code yX0_isRow cX0_isRow 1 (some .boolean), Cond.methodLink RL 74 yX1_into, Cond.instanceMethod yX1_into, Cond.selects RX1 yX1_into yX1_into, Cond.code yX1_into cX1_into 4 (some .int), Cond.methodLink RX1 124 yX1_isRow, Cond.static yX1_isRow, Cond.code yX1_isRow cX1_isRow 1 (some .boolean), Cond.methodLink RL 75 yX0_empty, Cond.instanceMethod yX0_empty, Cond.selects RX0 yX0_empty yX0_empty, Cond.code yX0_empty cX0_empty 3 (some .int), Cond.methodLink RL 79 yX1_empty, Cond.instanceMethod yX1_empty, Cond.selects RX1 yX1_empty yX1_empty, Cond.code yX1_empty cX1_empty 3 (some .int), Cond.methodLink RL 80 yX0_at, Cond.instanceMethod yX0_at, Cond.selects RX0 yX0_at yX0_at]
def wsL_law0_r13 : List Cond := [Cond.code yX0_at cX0_at 3 (some .long), Cond.constantLong RX0 108 (-1), Cond.methodLink RX0 104 yX0_isValue, Cond.instanceMethod yX0_isValue, Cond.selects RX0 yX0_isValue yX0_isValue, Cond.code yX0_isValue cX0_isValue 3 (some .boolean), Cond.methodLink RL 83 yX1_at, Cond.instanceMethod yX1_at, Cond.selects RX1 yX1_at yX1_at, Cond.code yX1_at cX1_at 3 (some .long), Cond.methodLink RL 84 yL_share, Cond.static yL_share, Cond.codeWith yL_share cL_share 5 (some .int) [(0, 10, 13, 13)], Cond.methodLink RL 15 yX0_share, Cond.instanceMethod yX0_share, Cond.selects RX0 yX0_share yX0_share, Cond.code yX0_share cX0_share 5 (some .int), Cond.methodLink RX0 110 yX0_sumOf, Cond.instanceMethod yX0_sumOf, Cond.selects RX0 yX0_sumOf yX0_sumOf, Cond.code yX0_sumOf cX0_sumOf 5 (some .long), Cond.methodLink RL 86 yX1_share, Cond.instanceMethod yX1_share, Cond.selects RX1 yX1_share yX1_share]
def wsL_law0_r14 : List Cond := [Cond.code yX1_share cX1_share 5 (some .int), Cond.methodLink RX1 127 yX1_sumOf, Cond.instanceMethod yX1_sumOf, Cond.selects RX1 yX1_sumOf yX1_sumOf, Cond.code yX1_sumOf cX1_sumOf 5 (some .long), Cond.methodLink RL 87 yX0_seats, Cond.instanceMethod yX0_seats, Cond.selects RX0 yX0_seats yX0_seats, Cond.code yX0_seats cX0_seats 6 (some .int), Cond.fieldLink RX0 116 "ExactShares" "seatsGivenTo" "I", Cond.methodLink RX0 119 yX0_giveByRemainders, Cond.instanceMethod yX0_giveByRemainders, Cond.selects RX0 yX0_giveByRemainders yX0_giveByRemainders, Cond.code yX0_giveByRemainders cX0_giveByRemainders 8 none, Cond.methodLink RX0 176 yX0_firstGreatestRemainder, Cond.instanceMethod yX0_firstGreatestRemainder, Cond.selects RX0 yX0_firstGreatestRemainder yX0_firstGreatestRemainder, Cond.code yX0_firstGreatestRemainder cX0_firstGreatestRemainder 3 (some .int), Cond.methodLink RX0 123 yX0_giveOneByOne, Cond.instanceMethod yX0_giveOneByOne, Cond.selects RX0 yX0_giveOneByOne yX0_giveOneByOne, Cond.code yX0_giveOneByOne cX0_giveOneByOne 11 none, Cond.methodLink RX0 127 yX0_countSeated, Cond.instanceMethod yX0_countSeated]
def wsL_law0_r15 : List Cond := [Cond.selects RX0 yX0_countSeated yX0_countSeated, Cond.code yX0_countSeated cX0_countSeated 3 (some .int), Cond.methodLink RL 90 yX1_seats, Cond.instanceMethod yX1_seats, Cond.selects RX1 yX1_seats yX1_seats, Cond.code yX1_seats cX1_seats 14 (some .int), Cond.constantLong RX1 131 (2000), Cond.constantLong RX1 133 (2), Cond.methodLink RL 91 yX0_given, Cond.instanceMethod yX0_given, Cond.selects RX0 yX0_given yX0_given, Cond.code yX0_given cX0_given 2 (some .int), Cond.methodLink RL 94 yX1_given, Cond.instanceMethod yX1_given, Cond.selects RX1 yX1_given yX1_given, Cond.code yX1_given cX1_given 2 (some .int), Cond.methodLink RL 95 yX0_tail, Cond.instanceMethod yX0_tail, Cond.selects RX0 yX0_tail yX0_tail, Cond.code yX0_tail cX0_tail 9 (some .int), Cond.methodLink RX0 131 Lib.Math.max.name, Cond.static Lib.Math.max.name, Cond.code Lib.Math.max.name Lib.Math.max.code 2 (some .int), Cond.methodLink RX0 134 yX0_choose]
def wsL_law0_r16 : List Cond := [Cond.static yX0_choose, Cond.code yX0_choose cX0_choose 5 (some .long), Cond.methodLink RL 98 yX1_tail, Cond.instanceMethod yX1_tail, Cond.selects RX1 yX1_tail yX1_tail, Cond.code yX1_tail cX1_tail 9 (some .int), Cond.constantLong RX1 135 (60), Cond.methodLink RX1 137 yX1_power, Cond.instanceMethod yX1_power, Cond.selects RX1 yX1_power yX1_power, Cond.code yX1_power cX1_power 7 (some .long), Cond.methodLink RX1 141 yX1_choose, Cond.static yX1_choose, Cond.code yX1_choose cX1_choose 9 (some .long), Cond.methodLink RL 99 yX0_urn, Cond.instanceMethod yX0_urn, Cond.selects RX0 yX0_urn yX0_urn, Cond.code yX0_urn cX0_urn 5 (some .int), Cond.methodLink RL 103 yX1_urn, Cond.instanceMethod yX1_urn, Cond.selects RX1 yX1_urn yX1_urn, Cond.code yX1_urn cX1_urn 7 (some .int), Cond.methodLink RL 104 yX0_test, Cond.instanceMethod yX0_test]
def wsL_law0_r17 : List Cond := [Cond.selects RX0 yX0_test yX0_test, Cond.code yX0_test cX0_test 6 (some .int), Cond.methodLink RX0 138 arraycopyName, Cond.native arraycopyName, Cond.static arraycopyName, Cond.initialized "java/lang/System", Cond.fieldLink RX0 148 "ExactShares" "waysNotBelow" "I", Cond.fieldLink RX0 151 "ExactShares" "waysWithJustThat" "I", Cond.fieldLink RX0 154 "ExactShares" "waysInAll" "I", Cond.methodLink RX0 144 yX0_waysToReach, Cond.static yX0_waysToReach, Cond.code yX0_waysToReach cX0_waysToReach 6 (some .int), Cond.methodLink RL 107 yX1_test, Cond.instanceMethod yX1_test, Cond.selects RX1 yX1_test yX1_test, Cond.code yX1_test cX1_test 11 (some .int), Cond.fieldLink RX1 145 "ExactSharesModel" "notBelow" "I", Cond.fieldLink RX1 148 "ExactSharesModel" "all" "I", Cond.fieldLink RX1 151 "ExactSharesModel" "just" "I", Cond.fieldLink RX1 154 "ExactSharesModel" "isTested" "Z", Cond.methodLink RL 108 yX0_ways, Cond.instanceMethod yX0_ways, Cond.selects RX0 yX0_ways yX0_ways, Cond.code yX0_ways cX0_ways 2 (some .int)]
def wsL_law0_r18 : List Cond := [Cond.methodLink RL 111 yX1_ways, Cond.instanceMethod yX1_ways, Cond.selects RX1 yX1_ways yX1_ways, Cond.code yX1_ways cX1_ways 2 (some .int), Cond.methodLink RL 112 yX0_count, Cond.instanceMethod yX0_count, Cond.selects RX0 yX0_count yX0_count, Cond.code yX0_count cX0_count 2 (some .int), Cond.methodLink RL 115 yX1_count, Cond.instanceMethod yX1_count, Cond.selects RX1 yX1_count yX1_count, Cond.code yX1_count cX1_count 2 (some .int), Cond.constantLong RX1 157 (4)]
def wsL_law0 : List Cond := (wsL_law0_r1 ++ (wsL_law0_r2 ++ (wsL_law0_r3 ++ (wsL_law0_r4 ++ (wsL_law0_r5 ++ (wsL_law0_r6 ++ (wsL_law0_r7 ++ (wsL_law0_r8 ++ (wsL_law0_r9 ++ (wsL_law0_r10 ++ (wsL_law0_r11 ++ (wsL_law0_r12 ++ (wsL_law0_r13 ++ (wsL_law0_r14 ++ (wsL_law0_r15 ++ (wsL_law0_r16 ++ (wsL_law0_r17 ++ wsL_law0_r18))))))))))))))))) ++ wsX00 ++ wsX10 ++ ([] : List Cond)
def wsL_law : List Cond := wsL_law0 ++ (vx_atS RX0 65 "java/lang/ArithmeticException" ["java/lang/RuntimeException", "java/lang/Exception"]).filter goodWord
abbrev vwCl : List vw_C := [(RX0, TX0, 13), (RX1, TX1, 17)]
end
section
theorem dJ9_floorDiv_f86c9_0 : decode cJ9_floorDiv_f86c9 0 = .ok (.lload_n 0, 1) := by decide +kernel
theorem dJ9_floorDiv_f86c9_1 : decode cJ9_floorDiv_f86c9 1 = .ok (.lload_n 2, 1) := by decide +kernel
theorem dJ9_floorDiv_f86c9_2 : decode cJ9_floorDiv_f86c9 2 = .ok (.ldiv, 1) := by decide +kernel
theorem dJ9_floorDiv_f86c9_3 : decode cJ9_floorDiv_f86c9 3 = .ok (.lstore 4, 2) := by decide +kernel
theorem dJ9_floorDiv_f86c9_5 : decode cJ9_floorDiv_f86c9 5 = .ok (.lload_n 0, 1) := by decide +kernel
theorem dJ9_floorDiv_f86c9_6 : decode cJ9_floorDiv_f86c9 6 = .ok (.lload_n 2, 1) := by decide +kernel
theorem dJ9_floorDiv_f86c9_7 : decode cJ9_floorDiv_f86c9 7 = .ok (.lxor, 1) := by decide +kernel
theorem dJ9_floorDiv_f86c9_8 : decode cJ9_floorDiv_f86c9 8 = .ok (.lconst 0, 1) := by decide +kernel
theorem dJ9_floorDiv_f86c9_9 : decode cJ9_floorDiv_f86c9 9 = .ok (.lcmp, 1) := by decide +kernel
theorem dJ9_floorDiv_f86c9_10 : decode cJ9_floorDiv_f86c9 10 = .ok (.ifCond .ge 17, 3) := by decide +kernel
theorem dJ9_floorDiv_f86c9_13 : decode cJ9_floorDiv_f86c9 13 = .ok (.lload 4, 2) := by decide +kernel
theorem dJ9_floorDiv_f86c9_15 : decode cJ9_floorDiv_f86c9 15 = .ok (.lload_n 2, 1) := by decide +kernel
theorem dJ9_floorDiv_f86c9_16 : decode cJ9_floorDiv_f86c9 16 = .ok (.lmul, 1) := by decide +kernel
theorem dJ9_floorDiv_f86c9_17 : decode cJ9_floorDiv_f86c9 17 = .ok (.lload_n 0, 1) := by decide +kernel
theorem dJ9_floorDiv_f86c9_18 : decode cJ9_floorDiv_f86c9 18 = .ok (.lcmp, 1) := by decide +kernel
theorem dJ9_floorDiv_f86c9_19 : decode cJ9_floorDiv_f86c9 19 = .ok (.ifCond .eq 8, 3) := by decide +kernel
theorem dJ9_floorDiv_f86c9_22 : decode cJ9_floorDiv_f86c9 22 = .ok (.lload 4, 2) := by decide +kernel
theorem dJ9_floorDiv_f86c9_24 : decode cJ9_floorDiv_f86c9 24 = .ok (.lconst 1, 1) := by decide +kernel
theorem dJ9_floorDiv_f86c9_25 : decode cJ9_floorDiv_f86c9 25 = .ok (.lsub, 1) := by decide +kernel
theorem dJ9_floorDiv_f86c9_26 : decode cJ9_floorDiv_f86c9 26 = .ok (.lreturn, 1) := by decide +kernel
theorem dJ9_floorDiv_f86c9_27 : decode cJ9_floorDiv_f86c9 27 = .ok (.lload 4, 2) := by decide +kernel
theorem dJ9_floorDiv_f86c9_29 : decode cJ9_floorDiv_f86c9 29 = .ok (.lreturn, 1) := by decide +kernel
theorem dJ9_abs_067f4_0 : decode cJ9_abs_067f4 0 = .ok (.lload_n 0, 1) := by decide +kernel
theorem dJ9_abs_067f4_1 : decode cJ9_abs_067f4 1 = .ok (.lconst 0, 1) := by decide +kernel
theorem dJ9_abs_067f4_2 : decode cJ9_abs_067f4 2 = .ok (.lcmp, 1) := by decide +kernel
theorem dJ9_abs_067f4_3 : decode cJ9_abs_067f4 3 = .ok (.ifCond .ge 8, 3) := by decide +kernel
theorem dJ9_abs_067f4_6 : decode cJ9_abs_067f4 6 = .ok (.lload_n 0, 1) := by decide +kernel
theorem dJ9_abs_067f4_7 : decode cJ9_abs_067f4 7 = .ok (.lneg, 1) := by decide +kernel
theorem dJ9_abs_067f4_8 : decode cJ9_abs_067f4 8 = .ok (.goto 4, 3) := by decide +kernel
theorem dJ9_abs_067f4_11 : decode cJ9_abs_067f4 11 = .ok (.lload_n 0, 1) := by decide +kernel
theorem dJ9_abs_067f4_12 : decode cJ9_abs_067f4 12 = .ok (.lreturn, 1) := by decide +kernel
theorem dJ9_max_7cf53_0 : decode cJ9_max_7cf53 0 = .ok (.iload_n 0, 1) := by decide +kernel
theorem dJ9_max_7cf53_1 : decode cJ9_max_7cf53 1 = .ok (.iload_n 1, 1) := by decide +kernel
theorem dJ9_max_7cf53_2 : decode cJ9_max_7cf53 2 = .ok (.if_icmp .lt 7, 3) := by decide +kernel
theorem dJ9_max_7cf53_5 : decode cJ9_max_7cf53 5 = .ok (.iload_n 0, 1) := by decide +kernel
theorem dJ9_max_7cf53_6 : decode cJ9_max_7cf53 6 = .ok (.goto 4, 3) := by decide +kernel
theorem dJ9_max_7cf53_9 : decode cJ9_max_7cf53 9 = .ok (.iload_n 1, 1) := by decide +kernel
theorem dJ9_max_7cf53_10 : decode cJ9_max_7cf53 10 = .ok (.ireturn, 1) := by decide +kernel
theorem dJ9_max_f86c9_0 : decode cJ9_max_f86c9 0 = .ok (.lload_n 0, 1) := by decide +kernel
theorem dJ9_max_f86c9_1 : decode cJ9_max_f86c9 1 = .ok (.lload_n 2, 1) := by decide +kernel
theorem dJ9_max_f86c9_2 : decode cJ9_max_f86c9 2 = .ok (.lcmp, 1) := by decide +kernel
theorem dJ9_max_f86c9_3 : decode cJ9_max_f86c9 3 = .ok (.ifCond .lt 7, 3) := by decide +kernel
theorem dJ9_max_f86c9_6 : decode cJ9_max_f86c9 6 = .ok (.lload_n 0, 1) := by decide +kernel
theorem dJ9_max_f86c9_7 : decode cJ9_max_f86c9 7 = .ok (.goto 4, 3) := by decide +kernel
theorem dJ9_max_f86c9_10 : decode cJ9_max_f86c9 10 = .ok (.lload_n 2, 1) := by decide +kernel
theorem dJ9_max_f86c9_11 : decode cJ9_max_f86c9 11 = .ok (.lreturn, 1) := by decide +kernel
theorem dJ9_min_f86c9_0 : decode cJ9_min_f86c9 0 = .ok (.lload_n 0, 1) := by decide +kernel
theorem dJ9_min_f86c9_1 : decode cJ9_min_f86c9 1 = .ok (.lload_n 2, 1) := by decide +kernel
theorem dJ9_min_f86c9_2 : decode cJ9_min_f86c9 2 = .ok (.lcmp, 1) := by decide +kernel
theorem dJ9_min_f86c9_3 : decode cJ9_min_f86c9 3 = .ok (.ifCond .gt 7, 3) := by decide +kernel
theorem dJ9_min_f86c9_6 : decode cJ9_min_f86c9 6 = .ok (.lload_n 0, 1) := by decide +kernel
theorem dJ9_min_f86c9_7 : decode cJ9_min_f86c9 7 = .ok (.goto 4, 3) := by decide +kernel
theorem dJ9_min_f86c9_10 : decode cJ9_min_f86c9 10 = .ok (.lload_n 2, 1) := by decide +kernel
theorem dJ9_min_f86c9_11 : decode cJ9_min_f86c9 11 = .ok (.lreturn, 1) := by decide +kernel
end
section
theorem dX0_init_0 : decode cX0_init 0 = .ok (.aload_n 0, 1) := by decide +kernel
theorem dX0_init_1 : decode cX0_init 1 = .ok (.invokespecial 3, 3) := by decide +kernel
theorem dX0_init_4 : decode cX0_init 4 = .ok (.aload_n 0, 1) := by decide +kernel
theorem dX0_init_5 : decode cX0_init 5 = .ok (.bipush 40, 2) := by decide +kernel
theorem dX0_init_7 : decode cX0_init 7 = .ok (.newarray .long, 2) := by decide +kernel
theorem dX0_init_9 : decode cX0_init 9 = .ok (.putfield 11, 3) := by decide +kernel
theorem dX0_init_12 : decode cX0_init 12 = .ok (.aload_n 0, 1) := by decide +kernel
theorem dX0_init_13 : decode cX0_init 13 = .ok (.bipush 40, 2) := by decide +kernel
theorem dX0_init_15 : decode cX0_init 15 = .ok (.newarray .long, 2) := by decide +kernel
theorem dX0_init_17 : decode cX0_init 17 = .ok (.putfield 15, 3) := by decide +kernel
theorem dX0_init_20 : decode cX0_init 20 = .ok (.aload_n 0, 1) := by decide +kernel
theorem dX0_init_21 : decode cX0_init 21 = .ok (.iconst 4, 1) := by decide +kernel
theorem dX0_init_22 : decode cX0_init 22 = .ok (.bipush 8, 2) := by decide +kernel
theorem dX0_init_24 : decode cX0_init 24 = .ok (.multianewarray 18 2, 4) := by decide +kernel
theorem dX0_init_28 : decode cX0_init 28 = .ok (.putfield 20, 3) := by decide +kernel
theorem dX0_init_31 : decode cX0_init 31 = .ok (.aload_n 0, 1) := by decide +kernel
theorem dX0_init_32 : decode cX0_init 32 = .ok (.iconst 4, 1) := by decide +kernel
theorem dX0_init_33 : decode cX0_init 33 = .ok (.newarray .int, 2) := by decide +kernel
theorem dX0_init_35 : decode cX0_init 35 = .ok (.putfield 23, 3) := by decide +kernel
theorem dX0_init_38 : decode cX0_init 38 = .ok (.aload_n 0, 1) := by decide +kernel
theorem dX0_init_39 : decode cX0_init 39 = .ok (.bipush 8, 2) := by decide +kernel
theorem dX0_init_41 : decode cX0_init 41 = .ok (.newarray .int, 2) := by decide +kernel
theorem dX0_init_43 : decode cX0_init 43 = .ok (.putfield 27, 3) := by decide +kernel
theorem dX0_init_46 : decode cX0_init 46 = .ok (.aload_n 0, 1) := by decide +kernel
theorem dX0_init_47 : decode cX0_init 47 = .ok (.bipush 8, 2) := by decide +kernel
theorem dX0_init_49 : decode cX0_init 49 = .ok (.newarray .long, 2) := by decide +kernel
theorem dX0_init_51 : decode cX0_init 51 = .ok (.putfield 30, 3) := by decide +kernel
theorem dX0_init_54 : decode cX0_init 54 = .ok (.aload_n 0, 1) := by decide +kernel
theorem dX0_init_55 : decode cX0_init 55 = .ok (.bipush 16, 2) := by decide +kernel
theorem dX0_init_57 : decode cX0_init 57 = .ok (.newarray .long, 2) := by decide +kernel
theorem dX0_init_59 : decode cX0_init 59 = .ok (.putfield 33, 3) := by decide +kernel
theorem dX0_init_62 : decode cX0_init 62 = .ok (.return_, 1) := by decide +kernel
set_option maxRecDepth 20000 in
theorem ggX0_value_X0_keep : GoodIn wsX0_value wsX0_keep := goodIn_r _ [6, 7, 8, 9, 10, 11, 12, 5, 13, 14, 15, 16, 17, 18, 19, 20, 21, 22, 23, 24, 25, 26, 27, 28, 29, 30, 31, 32, 33, 34, 35, 36] (by decide +kernel) (by decide +kernel)
set_option maxRecDepth 20000 in
theorem gX0_value_X0_keep : GoodIn wsX0_value (wsV RX0 38 RX0 yX0_keep wsX0_keep) := goodIn_app (goodIn_of _ (by decide +kernel)) ggX0_value_X0_keep
theorem dX0_value_0 : decode cX0_value 0 = .ok (.lload_n 3, 1) := by decide +kernel
theorem dX0_value_1 : decode cX0_value 1 = .ok (.lconst 0, 1) := by decide +kernel
theorem dX0_value_2 : decode cX0_value 2 = .ok (.lcmp, 1) := by decide +kernel
theorem dX0_value_3 : decode cX0_value 3 = .ok (.ifCond .ne 6, 3) := by decide +kernel
theorem dX0_value_6 : decode cX0_value 6 = .ok (.bipush (-2), 2) := by decide +kernel
theorem dX0_value_8 : decode cX0_value 8 = .ok (.ireturn, 1) := by decide +kernel
theorem dX0_value_9 : decode cX0_value 9 = .ok (.lload_n 1, 1) := by decide +kernel
theorem dX0_value_10 : decode cX0_value 10 = .ok (.ldc2_w 36, 3) := by decide +kernel
theorem dX0_value_13 : decode cX0_value 13 = .ok (.lcmp, 1) := by decide +kernel
theorem dX0_value_14 : decode cX0_value 14 = .ok (.ifCond .eq 11, 3) := by decide +kernel
theorem dX0_value_17 : decode cX0_value 17 = .ok (.lload_n 3, 1) := by decide +kernel
theorem dX0_value_18 : decode cX0_value 18 = .ok (.ldc2_w 36, 3) := by decide +kernel
theorem dX0_value_21 : decode cX0_value 21 = .ok (.lcmp, 1) := by decide +kernel
theorem dX0_value_22 : decode cX0_value 22 = .ok (.ifCond .ne 6, 3) := by decide +kernel
theorem dX0_value_25 : decode cX0_value 25 = .ok (.bipush (-3), 2) := by decide +kernel
theorem dX0_value_27 : decode cX0_value 27 = .ok (.ireturn, 1) := by decide +kernel
theorem dX0_value_28 : decode cX0_value 28 = .ok (.lload_n 3, 1) := by decide +kernel
theorem dX0_value_29 : decode cX0_value 29 = .ok (.lconst 0, 1) := by decide +kernel
theorem dX0_value_30 : decode cX0_value 30 = .ok (.lcmp, 1) := by decide +kernel
theorem dX0_value_31 : decode cX0_value 31 = .ok (.ifCond .ge 14, 3) := by decide +kernel
theorem dX0_value_34 : decode cX0_value 34 = .ok (.aload_n 0, 1) := by decide +kernel
theorem dX0_value_35 : decode cX0_value 35 = .ok (.lload_n 1, 1) := by decide +kernel
theorem dX0_value_36 : decode cX0_value 36 = .ok (.lneg, 1) := by decide +kernel
theorem dX0_value_37 : decode cX0_value 37 = .ok (.lload_n 3, 1) := by decide +kernel
theorem dX0_value_38 : decode cX0_value 38 = .ok (.lneg, 1) := by decide +kernel
theorem dX0_value_39 : decode cX0_value 39 = .ok (.invokevirtual 38, 3) := by decide +kernel
theorem dX0_value_42 : decode cX0_value 42 = .ok (.goto 9, 3) := by decide +kernel
theorem dX0_value_45 : decode cX0_value 45 = .ok (.aload_n 0, 1) := by decide +kernel
theorem dX0_value_46 : decode cX0_value 46 = .ok (.lload_n 1, 1) := by decide +kernel
theorem dX0_value_47 : decode cX0_value 47 = .ok (.lload_n 3, 1) := by decide +kernel
theorem dX0_value_48 : decode cX0_value 48 = .ok (.invokevirtual 38, 3) := by decide +kernel
theorem dX0_value_51 : decode cX0_value 51 = .ok (.ireturn, 1) := by decide +kernel
set_option maxRecDepth 20000 in
theorem ggX0_act_X0_isNumber : GoodIn wsX0_act wsX0_isNumber := goodIn_r _ [7, 8, 52, 53, 54, 55, 56, 57, 58, 59, 60, 61, 62, 63, 64] (by decide +kernel) (by decide +kernel)
set_option maxRecDepth 20000 in
theorem gX0_act_X0_isNumber : GoodIn wsX0_act (wsV RX0 42 RX0 yX0_isNumber wsX0_isNumber) := goodIn_app (goodIn_of _ (by decide +kernel)) ggX0_act_X0_isNumber
set_option maxRecDepth 20000 in
theorem ggX0_act_X0_isFull : GoodIn wsX0_act wsX0_isFull := goodIn_r _ [12, 8, 52, 53, 54, 55, 56, 57, 58, 59, 60, 61, 62, 63, 64] (by decide +kernel) (by decide +kernel)
set_option maxRecDepth 20000 in
theorem gX0_act_X0_isFull : GoodIn wsX0_act (wsV RX0 46 RX0 yX0_isFull wsX0_isFull) := goodIn_app (goodIn_of _ (by decide +kernel)) ggX0_act_X0_isFull
set_option maxRecDepth 20000 in
theorem ggX0_act_X0_keepSum : GoodIn wsX0_act wsX0_keepSum := goodIn_r _ [16, 17, 18, 6, 19, 20, 21, 22, 23, 24, 25, 26, 27, 28, 29, 30, 31, 32, 33, 34, 35, 36, 37, 38, 39, 40, 41, 42, 43, 1, 8, 2, 9, 10, 11, 12, 52, 53, 54, 55, 56, 57, 58, 59, 60, 61, 62, 63, 64] (by decide +kernel) (by decide +kernel)
set_option maxRecDepth 20000 in
theorem gX0_act_X0_keepSum : GoodIn wsX0_act (wsV RX0 50 RX0 yX0_keepSum wsX0_keepSum) := goodIn_app (goodIn_of _ (by decide +kernel)) ggX0_act_X0_keepSum
set_option maxRecDepth 20000 in
theorem ggX0_act_X0_keepProduct : GoodIn wsX0_act wsX0_keepProduct := goodIn_r _ [47, 17, 18, 6, 19, 20, 21, 22, 23, 24, 25, 26, 27, 28, 29, 30, 31, 35, 36, 37, 38, 39, 40, 41, 42, 43, 1, 8, 2, 9, 10, 11, 12, 52, 53, 54, 55, 56, 57, 58, 59, 60, 61, 62, 63, 64] (by decide +kernel) (by decide +kernel)
set_option maxRecDepth 20000 in
theorem gX0_act_X0_keepProduct : GoodIn wsX0_act (wsV RX0 54 RX0 yX0_keepProduct wsX0_keepProduct) := goodIn_app (goodIn_of _ (by decide +kernel)) ggX0_act_X0_keepProduct
set_option maxRecDepth 20000 in
theorem ggX0_act_X0_keepQuotient : GoodIn wsX0_act wsX0_keepQuotient := goodIn_r _ [51, 1, 2, 44, 45, 46, 6, 47, 17, 18, 19, 20, 21, 22, 23, 24, 25, 26, 27, 28, 29, 30, 31, 35, 36, 37, 38, 39, 40, 41, 42, 43, 8, 9, 10, 11, 12, 52, 53, 54, 55, 56, 57, 58, 59, 60, 61, 62, 63, 64] (by decide +kernel) (by decide +kernel)
set_option maxRecDepth 20000 in
theorem gX0_act_X0_keepQuotient : GoodIn wsX0_act (wsV RX0 57 RX0 yX0_keepQuotient wsX0_keepQuotient) := goodIn_app (goodIn_of _ (by decide +kernel)) ggX0_act_X0_keepQuotient
theorem dX0_act_0 : decode cX0_act 0 = .ok (.iload_n 1, 1) := by decide +kernel
theorem dX0_act_1 : decode cX0_act 1 = .ok (.ifCond .lt 24, 3) := by decide +kernel
theorem dX0_act_4 : decode cX0_act 4 = .ok (.iload_n 1, 1) := by decide +kernel
theorem dX0_act_5 : decode cX0_act 5 = .ok (.iconst 3, 1) := by decide +kernel
theorem dX0_act_6 : decode cX0_act 6 = .ok (.if_icmp .gt 19, 3) := by decide +kernel
theorem dX0_act_9 : decode cX0_act 9 = .ok (.aload_n 0, 1) := by decide +kernel
theorem dX0_act_10 : decode cX0_act 10 = .ok (.iload_n 2, 1) := by decide +kernel
theorem dX0_act_11 : decode cX0_act 11 = .ok (.invokevirtual 42, 3) := by decide +kernel
theorem dX0_act_14 : decode cX0_act 14 = .ok (.ifCond .eq 11, 3) := by decide +kernel
theorem dX0_act_17 : decode cX0_act 17 = .ok (.aload_n 0, 1) := by decide +kernel
theorem dX0_act_18 : decode cX0_act 18 = .ok (.iload_n 3, 1) := by decide +kernel
theorem dX0_act_19 : decode cX0_act 19 = .ok (.invokevirtual 42, 3) := by decide +kernel
theorem dX0_act_22 : decode cX0_act 22 = .ok (.ifCond .ne 5, 3) := by decide +kernel
theorem dX0_act_25 : decode cX0_act 25 = .ok (.iconst (-1), 1) := by decide +kernel
theorem dX0_act_26 : decode cX0_act 26 = .ok (.ireturn, 1) := by decide +kernel
theorem dX0_act_27 : decode cX0_act 27 = .ok (.aload_n 0, 1) := by decide +kernel
theorem dX0_act_28 : decode cX0_act 28 = .ok (.invokevirtual 46, 3) := by decide +kernel
theorem dX0_act_31 : decode cX0_act 31 = .ok (.ifCond .eq 6, 3) := by decide +kernel
theorem dX0_act_34 : decode cX0_act 34 = .ok (.bipush (-4), 2) := by decide +kernel
theorem dX0_act_36 : decode cX0_act 36 = .ok (.ireturn, 1) := by decide +kernel
theorem dX0_act_37 : decode cX0_act 37 = .ok (.iload_n 1, 1) := by decide +kernel
theorem dX0_act_38 : decode cX0_act 38 = .ok (.tableswitch 114 0 2 #[26, 55, 85], 26) := by decide +kernel
theorem dX0_act_64 : decode cX0_act 64 = .ok (.aload_n 0, 1) := by decide +kernel
theorem dX0_act_65 : decode cX0_act 65 = .ok (.aload_n 0, 1) := by decide +kernel
theorem dX0_act_66 : decode cX0_act 66 = .ok (.getfield 11, 3) := by decide +kernel
theorem dX0_act_69 : decode cX0_act 69 = .ok (.iload_n 2, 1) := by decide +kernel
theorem dX0_act_70 : decode cX0_act 70 = .ok (.laload, 1) := by decide +kernel
theorem dX0_act_71 : decode cX0_act 71 = .ok (.aload_n 0, 1) := by decide +kernel
theorem dX0_act_72 : decode cX0_act 72 = .ok (.getfield 15, 3) := by decide +kernel
theorem dX0_act_75 : decode cX0_act 75 = .ok (.iload_n 2, 1) := by decide +kernel
theorem dX0_act_76 : decode cX0_act 76 = .ok (.laload, 1) := by decide +kernel
theorem dX0_act_77 : decode cX0_act 77 = .ok (.aload_n 0, 1) := by decide +kernel
theorem dX0_act_78 : decode cX0_act 78 = .ok (.getfield 11, 3) := by decide +kernel
theorem dX0_act_81 : decode cX0_act 81 = .ok (.iload_n 3, 1) := by decide +kernel
theorem dX0_act_82 : decode cX0_act 82 = .ok (.laload, 1) := by decide +kernel
theorem dX0_act_83 : decode cX0_act 83 = .ok (.aload_n 0, 1) := by decide +kernel
theorem dX0_act_84 : decode cX0_act 84 = .ok (.getfield 15, 3) := by decide +kernel
theorem dX0_act_87 : decode cX0_act 87 = .ok (.iload_n 3, 1) := by decide +kernel
theorem dX0_act_88 : decode cX0_act 88 = .ok (.laload, 1) := by decide +kernel
theorem dX0_act_89 : decode cX0_act 89 = .ok (.invokevirtual 50, 3) := by decide +kernel
theorem dX0_act_92 : decode cX0_act 92 = .ok (.ireturn, 1) := by decide +kernel
theorem dX0_act_93 : decode cX0_act 93 = .ok (.aload_n 0, 1) := by decide +kernel
theorem dX0_act_94 : decode cX0_act 94 = .ok (.aload_n 0, 1) := by decide +kernel
theorem dX0_act_95 : decode cX0_act 95 = .ok (.getfield 11, 3) := by decide +kernel
theorem dX0_act_98 : decode cX0_act 98 = .ok (.iload_n 2, 1) := by decide +kernel
theorem dX0_act_99 : decode cX0_act 99 = .ok (.laload, 1) := by decide +kernel
theorem dX0_act_100 : decode cX0_act 100 = .ok (.aload_n 0, 1) := by decide +kernel
theorem dX0_act_101 : decode cX0_act 101 = .ok (.getfield 15, 3) := by decide +kernel
theorem dX0_act_104 : decode cX0_act 104 = .ok (.iload_n 2, 1) := by decide +kernel
theorem dX0_act_105 : decode cX0_act 105 = .ok (.laload, 1) := by decide +kernel
theorem dX0_act_106 : decode cX0_act 106 = .ok (.aload_n 0, 1) := by decide +kernel
theorem dX0_act_107 : decode cX0_act 107 = .ok (.getfield 11, 3) := by decide +kernel
theorem dX0_act_110 : decode cX0_act 110 = .ok (.iload_n 3, 1) := by decide +kernel
theorem dX0_act_111 : decode cX0_act 111 = .ok (.laload, 1) := by decide +kernel
theorem dX0_act_112 : decode cX0_act 112 = .ok (.lneg, 1) := by decide +kernel
theorem dX0_act_113 : decode cX0_act 113 = .ok (.aload_n 0, 1) := by decide +kernel
theorem dX0_act_114 : decode cX0_act 114 = .ok (.getfield 15, 3) := by decide +kernel
theorem dX0_act_117 : decode cX0_act 117 = .ok (.iload_n 3, 1) := by decide +kernel
theorem dX0_act_118 : decode cX0_act 118 = .ok (.laload, 1) := by decide +kernel
theorem dX0_act_119 : decode cX0_act 119 = .ok (.invokevirtual 50, 3) := by decide +kernel
theorem dX0_act_122 : decode cX0_act 122 = .ok (.ireturn, 1) := by decide +kernel
theorem dX0_act_123 : decode cX0_act 123 = .ok (.aload_n 0, 1) := by decide +kernel
theorem dX0_act_124 : decode cX0_act 124 = .ok (.aload_n 0, 1) := by decide +kernel
theorem dX0_act_125 : decode cX0_act 125 = .ok (.getfield 11, 3) := by decide +kernel
theorem dX0_act_128 : decode cX0_act 128 = .ok (.iload_n 2, 1) := by decide +kernel
theorem dX0_act_129 : decode cX0_act 129 = .ok (.laload, 1) := by decide +kernel
theorem dX0_act_130 : decode cX0_act 130 = .ok (.aload_n 0, 1) := by decide +kernel
theorem dX0_act_131 : decode cX0_act 131 = .ok (.getfield 15, 3) := by decide +kernel
theorem dX0_act_134 : decode cX0_act 134 = .ok (.iload_n 2, 1) := by decide +kernel
theorem dX0_act_135 : decode cX0_act 135 = .ok (.laload, 1) := by decide +kernel
theorem dX0_act_136 : decode cX0_act 136 = .ok (.aload_n 0, 1) := by decide +kernel
theorem dX0_act_137 : decode cX0_act 137 = .ok (.getfield 11, 3) := by decide +kernel
theorem dX0_act_140 : decode cX0_act 140 = .ok (.iload_n 3, 1) := by decide +kernel
theorem dX0_act_141 : decode cX0_act 141 = .ok (.laload, 1) := by decide +kernel
theorem dX0_act_142 : decode cX0_act 142 = .ok (.aload_n 0, 1) := by decide +kernel
theorem dX0_act_143 : decode cX0_act 143 = .ok (.getfield 15, 3) := by decide +kernel
theorem dX0_act_146 : decode cX0_act 146 = .ok (.iload_n 3, 1) := by decide +kernel
theorem dX0_act_147 : decode cX0_act 147 = .ok (.laload, 1) := by decide +kernel
theorem dX0_act_148 : decode cX0_act 148 = .ok (.invokevirtual 54, 3) := by decide +kernel
theorem dX0_act_151 : decode cX0_act 151 = .ok (.ireturn, 1) := by decide +kernel
theorem dX0_act_152 : decode cX0_act 152 = .ok (.aload_n 0, 1) := by decide +kernel
theorem dX0_act_153 : decode cX0_act 153 = .ok (.getfield 11, 3) := by decide +kernel
theorem dX0_act_156 : decode cX0_act 156 = .ok (.iload_n 3, 1) := by decide +kernel
theorem dX0_act_157 : decode cX0_act 157 = .ok (.laload, 1) := by decide +kernel
theorem dX0_act_158 : decode cX0_act 158 = .ok (.lconst 0, 1) := by decide +kernel
theorem dX0_act_159 : decode cX0_act 159 = .ok (.lcmp, 1) := by decide +kernel
theorem dX0_act_160 : decode cX0_act 160 = .ok (.ifCond .ne 8, 3) := by decide +kernel
theorem dX0_act_163 : decode cX0_act 163 = .ok (.bipush (-2), 2) := by decide +kernel
theorem dX0_act_165 : decode cX0_act 165 = .ok (.goto 9, 3) := by decide +kernel
theorem dX0_act_168 : decode cX0_act 168 = .ok (.aload_n 0, 1) := by decide +kernel
theorem dX0_act_169 : decode cX0_act 169 = .ok (.iload_n 2, 1) := by decide +kernel
theorem dX0_act_170 : decode cX0_act 170 = .ok (.iload_n 3, 1) := by decide +kernel
theorem dX0_act_171 : decode cX0_act 171 = .ok (.invokevirtual 57, 3) := by decide +kernel
theorem dX0_act_174 : decode cX0_act 174 = .ok (.ireturn, 1) := by decide +kernel
set_option maxRecDepth 20000 in
theorem ggX0_over_X0_isNumber : GoodIn wsX0_over wsX0_isNumber := goodIn_r _ [8, 9, 47, 48, 49, 50, 51, 52, 53, 54, 55, 56, 57, 58, 59] (by decide +kernel) (by decide +kernel)
set_option maxRecDepth 20000 in
theorem gX0_over_X0_isNumber : GoodIn wsX0_over (wsV RX0 42 RX0 yX0_isNumber wsX0_isNumber) := goodIn_app (goodIn_of _ (by decide +kernel)) ggX0_over_X0_isNumber
set_option maxRecDepth 20000 in
theorem ggX0_over_X0_isFull : GoodIn wsX0_over wsX0_isFull := goodIn_r _ [13, 9, 47, 48, 49, 50, 51, 52, 53, 54, 55, 56, 57, 58, 59] (by decide +kernel) (by decide +kernel)
set_option maxRecDepth 20000 in
theorem gX0_over_X0_isFull : GoodIn wsX0_over (wsV RX0 46 RX0 yX0_isFull wsX0_isFull) := goodIn_app (goodIn_of _ (by decide +kernel)) ggX0_over_X0_isFull
set_option maxRecDepth 20000 in
theorem ggX0_over_X0_keepQuotient : GoodIn wsX0_over wsX0_keepQuotient := goodIn_r _ [17, 3, 18, 19, 20, 21, 7, 22, 23, 24, 25, 26, 27, 28, 29, 30, 31, 32, 33, 34, 35, 36, 37, 38, 39, 40, 41, 42, 43, 44, 45, 46, 9, 10, 11, 12, 13, 47, 48, 49, 50, 51, 52, 53, 54, 55, 56, 57, 58, 59] (by decide +kernel) (by decide +kernel)
set_option maxRecDepth 20000 in
theorem gX0_over_X0_keepQuotient : GoodIn wsX0_over (wsV RX0 57 RX0 yX0_keepQuotient wsX0_keepQuotient) := goodIn_app (goodIn_of _ (by decide +kernel)) ggX0_over_X0_keepQuotient
theorem dX0_over_0 : decode cX0_over 0 = .ok (.aload_n 0, 1) := by decide +kernel
theorem dX0_over_1 : decode cX0_over 1 = .ok (.iload_n 1, 1) := by decide +kernel
theorem dX0_over_2 : decode cX0_over 2 = .ok (.invokevirtual 42, 3) := by decide +kernel
theorem dX0_over_5 : decode cX0_over 5 = .ok (.ifCond .eq 11, 3) := by decide +kernel
theorem dX0_over_8 : decode cX0_over 8 = .ok (.aload_n 0, 1) := by decide +kernel
theorem dX0_over_9 : decode cX0_over 9 = .ok (.iload_n 2, 1) := by decide +kernel
theorem dX0_over_10 : decode cX0_over 10 = .ok (.invokevirtual 42, 3) := by decide +kernel
theorem dX0_over_13 : decode cX0_over 13 = .ok (.ifCond .ne 5, 3) := by decide +kernel
theorem dX0_over_16 : decode cX0_over 16 = .ok (.iconst (-1), 1) := by decide +kernel
theorem dX0_over_17 : decode cX0_over 17 = .ok (.ireturn, 1) := by decide +kernel
theorem dX0_over_18 : decode cX0_over 18 = .ok (.aload_n 0, 1) := by decide +kernel
theorem dX0_over_19 : decode cX0_over 19 = .ok (.invokevirtual 46, 3) := by decide +kernel
theorem dX0_over_22 : decode cX0_over 22 = .ok (.ifCond .eq 6, 3) := by decide +kernel
theorem dX0_over_25 : decode cX0_over 25 = .ok (.bipush (-4), 2) := by decide +kernel
theorem dX0_over_27 : decode cX0_over 27 = .ok (.ireturn, 1) := by decide +kernel
theorem dX0_over_28 : decode cX0_over 28 = .ok (.aload_n 0, 1) := by decide +kernel
theorem dX0_over_29 : decode cX0_over 29 = .ok (.getfield 11, 3) := by decide +kernel
theorem dX0_over_32 : decode cX0_over 32 = .ok (.iload_n 2, 1) := by decide +kernel
theorem dX0_over_33 : decode cX0_over 33 = .ok (.laload, 1) := by decide +kernel
theorem dX0_over_34 : decode cX0_over 34 = .ok (.lconst 0, 1) := by decide +kernel
theorem dX0_over_35 : decode cX0_over 35 = .ok (.lcmp, 1) := by decide +kernel
theorem dX0_over_36 : decode cX0_over 36 = .ok (.ifCond .ne 13, 3) := by decide +kernel
theorem dX0_over_39 : decode cX0_over 39 = .ok (.new 61, 3) := by decide +kernel
theorem dX0_over_42 : decode cX0_over 42 = .ok (.dup, 1) := by decide +kernel
theorem dX0_over_43 : decode cX0_over 43 = .ok (.ldc 63, 2) := by decide +kernel
theorem dX0_over_45 : decode cX0_over 45 = .ok (.invokespecial 65, 3) := by decide +kernel
theorem dX0_over_48 : decode cX0_over 48 = .ok (.athrow, 1) := by decide +kernel
theorem dX0_over_49 : decode cX0_over 49 = .ok (.aload_n 0, 1) := by decide +kernel
theorem dX0_over_50 : decode cX0_over 50 = .ok (.iload_n 1, 1) := by decide +kernel
theorem dX0_over_51 : decode cX0_over 51 = .ok (.iload_n 2, 1) := by decide +kernel
theorem dX0_over_52 : decode cX0_over 52 = .ok (.invokevirtual 57, 3) := by decide +kernel
theorem dX0_over_55 : decode cX0_over 55 = .ok (.ireturn, 1) := by decide +kernel
theorem dX0_drop_0 : decode cX0_drop 0 = .ok (.aload_n 0, 1) := by decide +kernel
theorem dX0_drop_1 : decode cX0_drop 1 = .ok (.getfield 68, 3) := by decide +kernel
theorem dX0_drop_4 : decode cX0_drop 4 = .ok (.ifCond .ne 6, 3) := by decide +kernel
theorem dX0_drop_7 : decode cX0_drop 7 = .ok (.bipush (-5), 2) := by decide +kernel
theorem dX0_drop_9 : decode cX0_drop 9 = .ok (.ireturn, 1) := by decide +kernel
theorem dX0_drop_10 : decode cX0_drop 10 = .ok (.aload_n 0, 1) := by decide +kernel
theorem dX0_drop_11 : decode cX0_drop 11 = .ok (.dup, 1) := by decide +kernel
theorem dX0_drop_12 : decode cX0_drop 12 = .ok (.getfield 68, 3) := by decide +kernel
theorem dX0_drop_15 : decode cX0_drop 15 = .ok (.iconst 1, 1) := by decide +kernel
theorem dX0_drop_16 : decode cX0_drop 16 = .ok (.isub, 1) := by decide +kernel
theorem dX0_drop_17 : decode cX0_drop 17 = .ok (.putfield 68, 3) := by decide +kernel
theorem dX0_drop_20 : decode cX0_drop 20 = .ok (.aload_n 0, 1) := by decide +kernel
theorem dX0_drop_21 : decode cX0_drop 21 = .ok (.getfield 68, 3) := by decide +kernel
theorem dX0_drop_24 : decode cX0_drop 24 = .ok (.ireturn, 1) := by decide +kernel
set_option maxRecDepth 20000 in
theorem ggX0_order_X0_isNumber : GoodIn wsX0_order wsX0_isNumber := goodIn_r _ [7, 8, 16, 17, 18, 19, 20, 21, 22, 23, 24, 25, 26, 27, 28] (by decide +kernel) (by decide +kernel)
set_option maxRecDepth 20000 in
theorem gX0_order_X0_isNumber : GoodIn wsX0_order (wsV RX0 42 RX0 yX0_isNumber wsX0_isNumber) := goodIn_app (goodIn_of _ (by decide +kernel)) ggX0_order_X0_isNumber
set_option maxRecDepth 20000 in
theorem ggX0_order_X0_compared : GoodIn wsX0_order wsX0_compared := goodIn_r _ [11, 12, 13, 14, 15] (by decide +kernel) (by decide +kernel)
set_option maxRecDepth 20000 in
theorem gX0_order_X0_compared : GoodIn wsX0_order (va_wsS RX0 72 yX0_compared wsX0_compared) := goodIn_app (goodIn_of _ (by decide +kernel)) ggX0_order_X0_compared
theorem dX0_order_0 : decode cX0_order 0 = .ok (.aload_n 0, 1) := by decide +kernel
theorem dX0_order_1 : decode cX0_order 1 = .ok (.iload_n 1, 1) := by decide +kernel
theorem dX0_order_2 : decode cX0_order 2 = .ok (.invokevirtual 42, 3) := by decide +kernel
theorem dX0_order_5 : decode cX0_order 5 = .ok (.ifCond .eq 11, 3) := by decide +kernel
theorem dX0_order_8 : decode cX0_order 8 = .ok (.aload_n 0, 1) := by decide +kernel
theorem dX0_order_9 : decode cX0_order 9 = .ok (.iload_n 2, 1) := by decide +kernel
theorem dX0_order_10 : decode cX0_order 10 = .ok (.invokevirtual 42, 3) := by decide +kernel
theorem dX0_order_13 : decode cX0_order 13 = .ok (.ifCond .ne 6, 3) := by decide +kernel
theorem dX0_order_16 : decode cX0_order 16 = .ok (.bipush (-2), 2) := by decide +kernel
theorem dX0_order_18 : decode cX0_order 18 = .ok (.ireturn, 1) := by decide +kernel
theorem dX0_order_19 : decode cX0_order 19 = .ok (.aload_n 0, 1) := by decide +kernel
theorem dX0_order_20 : decode cX0_order 20 = .ok (.getfield 11, 3) := by decide +kernel
theorem dX0_order_23 : decode cX0_order 23 = .ok (.iload_n 1, 1) := by decide +kernel
theorem dX0_order_24 : decode cX0_order 24 = .ok (.laload, 1) := by decide +kernel
theorem dX0_order_25 : decode cX0_order 25 = .ok (.aload_n 0, 1) := by decide +kernel
theorem dX0_order_26 : decode cX0_order 26 = .ok (.getfield 15, 3) := by decide +kernel
theorem dX0_order_29 : decode cX0_order 29 = .ok (.iload_n 1, 1) := by decide +kernel
theorem dX0_order_30 : decode cX0_order 30 = .ok (.laload, 1) := by decide +kernel
theorem dX0_order_31 : decode cX0_order 31 = .ok (.aload_n 0, 1) := by decide +kernel
theorem dX0_order_32 : decode cX0_order 32 = .ok (.getfield 11, 3) := by decide +kernel
theorem dX0_order_35 : decode cX0_order 35 = .ok (.iload_n 2, 1) := by decide +kernel
theorem dX0_order_36 : decode cX0_order 36 = .ok (.laload, 1) := by decide +kernel
theorem dX0_order_37 : decode cX0_order 37 = .ok (.aload_n 0, 1) := by decide +kernel
theorem dX0_order_38 : decode cX0_order 38 = .ok (.getfield 15, 3) := by decide +kernel
theorem dX0_order_41 : decode cX0_order 41 = .ok (.iload_n 2, 1) := by decide +kernel
theorem dX0_order_42 : decode cX0_order 42 = .ok (.laload, 1) := by decide +kernel
theorem dX0_order_43 : decode cX0_order 43 = .ok (.invokestatic 72, 3) := by decide +kernel
theorem dX0_order_46 : decode cX0_order 46 = .ok (.ireturn, 1) := by decide +kernel
set_option maxRecDepth 20000 in
theorem ggX0_part_X0_isNumber : GoodIn wsX0_part wsX0_isNumber := goodIn_r _ [8, 9, 10, 11, 12, 13, 14, 15, 16, 17, 18, 19, 20, 21, 22] (by decide +kernel) (by decide +kernel)
set_option maxRecDepth 20000 in
theorem gX0_part_X0_isNumber : GoodIn wsX0_part (wsV RX0 42 RX0 yX0_isNumber wsX0_isNumber) := goodIn_app (goodIn_of _ (by decide +kernel)) ggX0_part_X0_isNumber
theorem dX0_part_0 : decode cX0_part 0 = .ok (.aload_n 0, 1) := by decide +kernel
theorem dX0_part_1 : decode cX0_part 1 = .ok (.iload_n 1, 1) := by decide +kernel
theorem dX0_part_2 : decode cX0_part 2 = .ok (.invokevirtual 42, 3) := by decide +kernel
theorem dX0_part_5 : decode cX0_part 5 = .ok (.ifCond .eq 12, 3) := by decide +kernel
theorem dX0_part_8 : decode cX0_part 8 = .ok (.iload_n 2, 1) := by decide +kernel
theorem dX0_part_9 : decode cX0_part 9 = .ok (.ifCond .lt 8, 3) := by decide +kernel
theorem dX0_part_12 : decode cX0_part 12 = .ok (.iload_n 2, 1) := by decide +kernel
theorem dX0_part_13 : decode cX0_part 13 = .ok (.iconst 1, 1) := by decide +kernel
theorem dX0_part_14 : decode cX0_part 14 = .ok (.if_icmp .le 7, 3) := by decide +kernel
theorem dX0_part_17 : decode cX0_part 17 = .ok (.ldc2_w 36, 3) := by decide +kernel
theorem dX0_part_20 : decode cX0_part 20 = .ok (.lreturn, 1) := by decide +kernel
theorem dX0_part_21 : decode cX0_part 21 = .ok (.iload_n 2, 1) := by decide +kernel
theorem dX0_part_22 : decode cX0_part 22 = .ok (.ifCond .ne 12, 3) := by decide +kernel
theorem dX0_part_25 : decode cX0_part 25 = .ok (.aload_n 0, 1) := by decide +kernel
theorem dX0_part_26 : decode cX0_part 26 = .ok (.getfield 11, 3) := by decide +kernel
theorem dX0_part_29 : decode cX0_part 29 = .ok (.iload_n 1, 1) := by decide +kernel
theorem dX0_part_30 : decode cX0_part 30 = .ok (.laload, 1) := by decide +kernel
theorem dX0_part_31 : decode cX0_part 31 = .ok (.goto 9, 3) := by decide +kernel
theorem dX0_part_34 : decode cX0_part 34 = .ok (.aload_n 0, 1) := by decide +kernel
theorem dX0_part_35 : decode cX0_part 35 = .ok (.getfield 15, 3) := by decide +kernel
theorem dX0_part_38 : decode cX0_part 38 = .ok (.iload_n 1, 1) := by decide +kernel
theorem dX0_part_39 : decode cX0_part 39 = .ok (.laload, 1) := by decide +kernel
theorem dX0_part_40 : decode cX0_part 40 = .ok (.lreturn, 1) := by decide +kernel
set_option maxRecDepth 20000 in
theorem ggX0_simplest_X0_isNumber : GoodIn wsX0_simplest wsX0_isNumber := goodIn_r _ [7, 8, 38, 39, 40, 41, 42, 43, 44, 45, 46, 47, 48, 49, 50] (by decide +kernel) (by decide +kernel)
set_option maxRecDepth 20000 in
theorem gX0_simplest_X0_isNumber : GoodIn wsX0_simplest (wsV RX0 42 RX0 yX0_isNumber wsX0_isNumber) := goodIn_app (goodIn_of _ (by decide +kernel)) ggX0_simplest_X0_isNumber
set_option maxRecDepth 20000 in
theorem ggX0_simplest_X0_compared : GoodIn wsX0_simplest wsX0_compared := goodIn_r _ [11, 12, 13, 14, 15] (by decide +kernel) (by decide +kernel)
set_option maxRecDepth 20000 in
theorem gX0_simplest_X0_compared : GoodIn wsX0_simplest (va_wsS RX0 72 yX0_compared wsX0_compared) := goodIn_app (goodIn_of _ (by decide +kernel)) ggX0_simplest_X0_compared
set_option maxRecDepth 20000 in
theorem ggX0_simplest_X0_keepSimplest : GoodIn wsX0_simplest wsX0_keepSimplest := goodIn_r _ [19, 20, 21, 22, 6, 23, 1, 8, 2, 24, 25, 26, 27, 28, 29, 30, 31, 32, 33, 34, 35, 36, 37, 38, 39, 40, 41, 42, 43, 44, 45, 46, 47, 48, 49, 50] (by decide +kernel) (by decide +kernel)
set_option maxRecDepth 20000 in
theorem gX0_simplest_X0_keepSimplest : GoodIn wsX0_simplest (wsV RX0 75 RX0 yX0_keepSimplest wsX0_keepSimplest) := goodIn_app (goodIn_of _ (by decide +kernel)) ggX0_simplest_X0_keepSimplest
set_option maxRecDepth 20000 in
theorem ggX0_simplest_X0_keep : GoodIn wsX0_simplest wsX0_keep := goodIn_r _ [23, 1, 8, 2, 24, 25, 26, 6, 27, 28, 29, 30, 31, 32, 33, 34, 35, 36, 37, 38, 39, 40, 41, 42, 43, 44, 45, 46, 47, 48, 49, 50] (by decide +kernel) (by decide +kernel)
set_option maxRecDepth 20000 in
theorem gX0_simplest_X0_keep : GoodIn wsX0_simplest (wsV RX0 38 RX0 yX0_keep wsX0_keep) := goodIn_app (goodIn_of _ (by decide +kernel)) ggX0_simplest_X0_keep
theorem dX0_simplest_0 : decode cX0_simplest 0 = .ok (.aload_n 0, 1) := by decide +kernel
theorem dX0_simplest_1 : decode cX0_simplest 1 = .ok (.iload_n 1, 1) := by decide +kernel
theorem dX0_simplest_2 : decode cX0_simplest 2 = .ok (.invokevirtual 42, 3) := by decide +kernel
theorem dX0_simplest_5 : decode cX0_simplest 5 = .ok (.ifCond .eq 11, 3) := by decide +kernel
theorem dX0_simplest_8 : decode cX0_simplest 8 = .ok (.aload_n 0, 1) := by decide +kernel
theorem dX0_simplest_9 : decode cX0_simplest 9 = .ok (.iload_n 2, 1) := by decide +kernel
theorem dX0_simplest_10 : decode cX0_simplest 10 = .ok (.invokevirtual 42, 3) := by decide +kernel
theorem dX0_simplest_13 : decode cX0_simplest 13 = .ok (.ifCond .ne 5, 3) := by decide +kernel
theorem dX0_simplest_16 : decode cX0_simplest 16 = .ok (.iconst (-1), 1) := by decide +kernel
theorem dX0_simplest_17 : decode cX0_simplest 17 = .ok (.ireturn, 1) := by decide +kernel
theorem dX0_simplest_18 : decode cX0_simplest 18 = .ok (.aload_n 0, 1) := by decide +kernel
theorem dX0_simplest_19 : decode cX0_simplest 19 = .ok (.getfield 11, 3) := by decide +kernel
theorem dX0_simplest_22 : decode cX0_simplest 22 = .ok (.iload_n 1, 1) := by decide +kernel
theorem dX0_simplest_23 : decode cX0_simplest 23 = .ok (.laload, 1) := by decide +kernel
theorem dX0_simplest_24 : decode cX0_simplest 24 = .ok (.aload_n 0, 1) := by decide +kernel
theorem dX0_simplest_25 : decode cX0_simplest 25 = .ok (.getfield 15, 3) := by decide +kernel
theorem dX0_simplest_28 : decode cX0_simplest 28 = .ok (.iload_n 1, 1) := by decide +kernel
theorem dX0_simplest_29 : decode cX0_simplest 29 = .ok (.laload, 1) := by decide +kernel
theorem dX0_simplest_30 : decode cX0_simplest 30 = .ok (.aload_n 0, 1) := by decide +kernel
theorem dX0_simplest_31 : decode cX0_simplest 31 = .ok (.getfield 11, 3) := by decide +kernel
theorem dX0_simplest_34 : decode cX0_simplest 34 = .ok (.iload_n 2, 1) := by decide +kernel
theorem dX0_simplest_35 : decode cX0_simplest 35 = .ok (.laload, 1) := by decide +kernel
theorem dX0_simplest_36 : decode cX0_simplest 36 = .ok (.aload_n 0, 1) := by decide +kernel
theorem dX0_simplest_37 : decode cX0_simplest 37 = .ok (.getfield 15, 3) := by decide +kernel
theorem dX0_simplest_40 : decode cX0_simplest 40 = .ok (.iload_n 2, 1) := by decide +kernel
theorem dX0_simplest_41 : decode cX0_simplest 41 = .ok (.laload, 1) := by decide +kernel
theorem dX0_simplest_42 : decode cX0_simplest 42 = .ok (.invokestatic 72, 3) := by decide +kernel
theorem dX0_simplest_45 : decode cX0_simplest 45 = .ok (.ifCond .gt 7, 3) := by decide +kernel
theorem dX0_simplest_48 : decode cX0_simplest 48 = .ok (.iconst 1, 1) := by decide +kernel
theorem dX0_simplest_49 : decode cX0_simplest 49 = .ok (.goto 4, 3) := by decide +kernel
theorem dX0_simplest_52 : decode cX0_simplest 52 = .ok (.iconst 0, 1) := by decide +kernel
theorem dX0_simplest_53 : decode cX0_simplest 53 = .ok (.istore_n 3, 1) := by decide +kernel
theorem dX0_simplest_54 : decode cX0_simplest 54 = .ok (.iload_n 3, 1) := by decide +kernel
theorem dX0_simplest_55 : decode cX0_simplest 55 = .ok (.ifCond .eq 7, 3) := by decide +kernel
theorem dX0_simplest_58 : decode cX0_simplest 58 = .ok (.iload_n 1, 1) := by decide +kernel
theorem dX0_simplest_59 : decode cX0_simplest 59 = .ok (.goto 4, 3) := by decide +kernel
theorem dX0_simplest_62 : decode cX0_simplest 62 = .ok (.iload_n 2, 1) := by decide +kernel
theorem dX0_simplest_63 : decode cX0_simplest 63 = .ok (.istore 4, 2) := by decide +kernel
theorem dX0_simplest_65 : decode cX0_simplest 65 = .ok (.iload_n 3, 1) := by decide +kernel
theorem dX0_simplest_66 : decode cX0_simplest 66 = .ok (.ifCond .eq 7, 3) := by decide +kernel
theorem dX0_simplest_69 : decode cX0_simplest 69 = .ok (.iload_n 2, 1) := by decide +kernel
theorem dX0_simplest_70 : decode cX0_simplest 70 = .ok (.goto 4, 3) := by decide +kernel
theorem dX0_simplest_73 : decode cX0_simplest 73 = .ok (.iload_n 1, 1) := by decide +kernel
theorem dX0_simplest_74 : decode cX0_simplest 74 = .ok (.istore 5, 2) := by decide +kernel
theorem dX0_simplest_76 : decode cX0_simplest 76 = .ok (.aload_n 0, 1) := by decide +kernel
theorem dX0_simplest_77 : decode cX0_simplest 77 = .ok (.getfield 11, 3) := by decide +kernel
theorem dX0_simplest_80 : decode cX0_simplest 80 = .ok (.iload 4, 2) := by decide +kernel
theorem dX0_simplest_82 : decode cX0_simplest 82 = .ok (.laload, 1) := by decide +kernel
theorem dX0_simplest_83 : decode cX0_simplest 83 = .ok (.lconst 0, 1) := by decide +kernel
theorem dX0_simplest_84 : decode cX0_simplest 84 = .ok (.lcmp, 1) := by decide +kernel
theorem dX0_simplest_85 : decode cX0_simplest 85 = .ok (.ifCond .le 37, 3) := by decide +kernel
theorem dX0_simplest_88 : decode cX0_simplest 88 = .ok (.aload_n 0, 1) := by decide +kernel
theorem dX0_simplest_89 : decode cX0_simplest 89 = .ok (.aload_n 0, 1) := by decide +kernel
theorem dX0_simplest_90 : decode cX0_simplest 90 = .ok (.getfield 11, 3) := by decide +kernel
theorem dX0_simplest_93 : decode cX0_simplest 93 = .ok (.iload 4, 2) := by decide +kernel
theorem dX0_simplest_95 : decode cX0_simplest 95 = .ok (.laload, 1) := by decide +kernel
theorem dX0_simplest_96 : decode cX0_simplest 96 = .ok (.aload_n 0, 1) := by decide +kernel
theorem dX0_simplest_97 : decode cX0_simplest 97 = .ok (.getfield 15, 3) := by decide +kernel
theorem dX0_simplest_100 : decode cX0_simplest 100 = .ok (.iload 4, 2) := by decide +kernel
theorem dX0_simplest_102 : decode cX0_simplest 102 = .ok (.laload, 1) := by decide +kernel
theorem dX0_simplest_103 : decode cX0_simplest 103 = .ok (.aload_n 0, 1) := by decide +kernel
theorem dX0_simplest_104 : decode cX0_simplest 104 = .ok (.getfield 11, 3) := by decide +kernel
theorem dX0_simplest_107 : decode cX0_simplest 107 = .ok (.iload 5, 2) := by decide +kernel
theorem dX0_simplest_109 : decode cX0_simplest 109 = .ok (.laload, 1) := by decide +kernel
theorem dX0_simplest_110 : decode cX0_simplest 110 = .ok (.aload_n 0, 1) := by decide +kernel
theorem dX0_simplest_111 : decode cX0_simplest 111 = .ok (.getfield 15, 3) := by decide +kernel
theorem dX0_simplest_114 : decode cX0_simplest 114 = .ok (.iload 5, 2) := by decide +kernel
theorem dX0_simplest_116 : decode cX0_simplest 116 = .ok (.laload, 1) := by decide +kernel
theorem dX0_simplest_117 : decode cX0_simplest 117 = .ok (.iconst 1, 1) := by decide +kernel
theorem dX0_simplest_118 : decode cX0_simplest 118 = .ok (.invokevirtual 75, 3) := by decide +kernel
theorem dX0_simplest_121 : decode cX0_simplest 121 = .ok (.ireturn, 1) := by decide +kernel
theorem dX0_simplest_122 : decode cX0_simplest 122 = .ok (.aload_n 0, 1) := by decide +kernel
theorem dX0_simplest_123 : decode cX0_simplest 123 = .ok (.getfield 11, 3) := by decide +kernel
theorem dX0_simplest_126 : decode cX0_simplest 126 = .ok (.iload 5, 2) := by decide +kernel
theorem dX0_simplest_128 : decode cX0_simplest 128 = .ok (.laload, 1) := by decide +kernel
theorem dX0_simplest_129 : decode cX0_simplest 129 = .ok (.lconst 0, 1) := by decide +kernel
theorem dX0_simplest_130 : decode cX0_simplest 130 = .ok (.lcmp, 1) := by decide +kernel
theorem dX0_simplest_131 : decode cX0_simplest 131 = .ok (.ifCond .ge 39, 3) := by decide +kernel
theorem dX0_simplest_134 : decode cX0_simplest 134 = .ok (.aload_n 0, 1) := by decide +kernel
theorem dX0_simplest_135 : decode cX0_simplest 135 = .ok (.aload_n 0, 1) := by decide +kernel
theorem dX0_simplest_136 : decode cX0_simplest 136 = .ok (.getfield 11, 3) := by decide +kernel
theorem dX0_simplest_139 : decode cX0_simplest 139 = .ok (.iload 5, 2) := by decide +kernel
theorem dX0_simplest_141 : decode cX0_simplest 141 = .ok (.laload, 1) := by decide +kernel
theorem dX0_simplest_142 : decode cX0_simplest 142 = .ok (.lneg, 1) := by decide +kernel
theorem dX0_simplest_143 : decode cX0_simplest 143 = .ok (.aload_n 0, 1) := by decide +kernel
theorem dX0_simplest_144 : decode cX0_simplest 144 = .ok (.getfield 15, 3) := by decide +kernel
theorem dX0_simplest_147 : decode cX0_simplest 147 = .ok (.iload 5, 2) := by decide +kernel
theorem dX0_simplest_149 : decode cX0_simplest 149 = .ok (.laload, 1) := by decide +kernel
theorem dX0_simplest_150 : decode cX0_simplest 150 = .ok (.aload_n 0, 1) := by decide +kernel
theorem dX0_simplest_151 : decode cX0_simplest 151 = .ok (.getfield 11, 3) := by decide +kernel
theorem dX0_simplest_154 : decode cX0_simplest 154 = .ok (.iload 4, 2) := by decide +kernel
theorem dX0_simplest_156 : decode cX0_simplest 156 = .ok (.laload, 1) := by decide +kernel
theorem dX0_simplest_157 : decode cX0_simplest 157 = .ok (.lneg, 1) := by decide +kernel
theorem dX0_simplest_158 : decode cX0_simplest 158 = .ok (.aload_n 0, 1) := by decide +kernel
theorem dX0_simplest_159 : decode cX0_simplest 159 = .ok (.getfield 15, 3) := by decide +kernel
theorem dX0_simplest_162 : decode cX0_simplest 162 = .ok (.iload 4, 2) := by decide +kernel
theorem dX0_simplest_164 : decode cX0_simplest 164 = .ok (.laload, 1) := by decide +kernel
theorem dX0_simplest_165 : decode cX0_simplest 165 = .ok (.iconst (-1), 1) := by decide +kernel
theorem dX0_simplest_166 : decode cX0_simplest 166 = .ok (.invokevirtual 75, 3) := by decide +kernel
theorem dX0_simplest_169 : decode cX0_simplest 169 = .ok (.ireturn, 1) := by decide +kernel
theorem dX0_simplest_170 : decode cX0_simplest 170 = .ok (.aload_n 0, 1) := by decide +kernel
theorem dX0_simplest_171 : decode cX0_simplest 171 = .ok (.lconst 0, 1) := by decide +kernel
theorem dX0_simplest_172 : decode cX0_simplest 172 = .ok (.lconst 1, 1) := by decide +kernel
theorem dX0_simplest_173 : decode cX0_simplest 173 = .ok (.invokevirtual 38, 3) := by decide +kernel
theorem dX0_simplest_176 : decode cX0_simplest 176 = .ok (.ireturn, 1) := by decide +kernel
set_option maxRecDepth 20000 in
theorem ggX0_near_X0_isNumber : GoodIn wsX0_near wsX0_isNumber := goodIn_r _ [8, 9, 42, 43, 44, 45, 46, 47, 48, 49, 50, 51, 52, 53, 54] (by decide +kernel) (by decide +kernel)
set_option maxRecDepth 20000 in
theorem gX0_near_X0_isNumber : GoodIn wsX0_near (wsV RX0 42 RX0 yX0_isNumber wsX0_isNumber) := goodIn_app (goodIn_of _ (by decide +kernel)) ggX0_near_X0_isNumber
set_option maxRecDepth 20000 in
theorem ggX0_near_X0_keep : GoodIn wsX0_near wsX0_keep := goodIn_r _ [13, 3, 9, 2, 14, 15, 16, 7, 17, 18, 19, 20, 21, 22, 23, 24, 25, 26, 27, 42, 43, 44, 45, 46, 47, 48, 49, 50, 51, 52, 53, 54] (by decide +kernel) (by decide +kernel)
set_option maxRecDepth 20000 in
theorem gX0_near_X0_keep : GoodIn wsX0_near (wsV RX0 38 RX0 yX0_keep wsX0_keep) := goodIn_app (goodIn_of _ (by decide +kernel)) ggX0_near_X0_keep
set_option maxRecDepth 20000 in
theorem ggX0_near_X0_keepNearest : GoodIn wsX0_near wsX0_keepNearest := goodIn_r _ [31, 32, 33, 34, 35, 36, 37, 7, 38, 39, 40, 23, 41, 10, 11, 12, 13, 3, 9, 2, 14, 15, 16, 17, 18, 19, 20, 21, 22, 24, 25, 26, 27, 42, 43, 44, 45, 46, 47, 48, 49, 50, 51, 52, 53, 54] (by decide +kernel) (by decide +kernel)
set_option maxRecDepth 20000 in
theorem gX0_near_X0_keepNearest : GoodIn wsX0_near (wsV RX0 80 RX0 yX0_keepNearest wsX0_keepNearest) := goodIn_app (goodIn_of _ (by decide +kernel)) ggX0_near_X0_keepNearest
theorem dX0_near_0 : decode cX0_near 0 = .ok (.aload_n 0, 1) := by decide +kernel
theorem dX0_near_1 : decode cX0_near 1 = .ok (.iload_n 1, 1) := by decide +kernel
theorem dX0_near_2 : decode cX0_near 2 = .ok (.invokevirtual 42, 3) := by decide +kernel
theorem dX0_near_5 : decode cX0_near 5 = .ok (.ifCond .eq 14, 3) := by decide +kernel
theorem dX0_near_8 : decode cX0_near 8 = .ok (.iload_n 2, 1) := by decide +kernel
theorem dX0_near_9 : decode cX0_near 9 = .ok (.iconst 1, 1) := by decide +kernel
theorem dX0_near_10 : decode cX0_near 10 = .ok (.if_icmp .lt 9, 3) := by decide +kernel
theorem dX0_near_13 : decode cX0_near 13 = .ok (.iload_n 2, 1) := by decide +kernel
theorem dX0_near_14 : decode cX0_near 14 = .ok (.ldc 79, 2) := by decide +kernel
theorem dX0_near_16 : decode cX0_near 16 = .ok (.if_icmp .le 5, 3) := by decide +kernel
theorem dX0_near_19 : decode cX0_near 19 = .ok (.iconst (-1), 1) := by decide +kernel
theorem dX0_near_20 : decode cX0_near 20 = .ok (.ireturn, 1) := by decide +kernel
theorem dX0_near_21 : decode cX0_near 21 = .ok (.aload_n 0, 1) := by decide +kernel
theorem dX0_near_22 : decode cX0_near 22 = .ok (.getfield 15, 3) := by decide +kernel
theorem dX0_near_25 : decode cX0_near 25 = .ok (.iload_n 1, 1) := by decide +kernel
theorem dX0_near_26 : decode cX0_near 26 = .ok (.laload, 1) := by decide +kernel
theorem dX0_near_27 : decode cX0_near 27 = .ok (.iload_n 2, 1) := by decide +kernel
theorem dX0_near_28 : decode cX0_near 28 = .ok (.i2l, 1) := by decide +kernel
theorem dX0_near_29 : decode cX0_near 29 = .ok (.lcmp, 1) := by decide +kernel
theorem dX0_near_30 : decode cX0_near 30 = .ok (.ifCond .gt 20, 3) := by decide +kernel
theorem dX0_near_33 : decode cX0_near 33 = .ok (.aload_n 0, 1) := by decide +kernel
theorem dX0_near_34 : decode cX0_near 34 = .ok (.aload_n 0, 1) := by decide +kernel
theorem dX0_near_35 : decode cX0_near 35 = .ok (.getfield 11, 3) := by decide +kernel
theorem dX0_near_38 : decode cX0_near 38 = .ok (.iload_n 1, 1) := by decide +kernel
theorem dX0_near_39 : decode cX0_near 39 = .ok (.laload, 1) := by decide +kernel
theorem dX0_near_40 : decode cX0_near 40 = .ok (.aload_n 0, 1) := by decide +kernel
theorem dX0_near_41 : decode cX0_near 41 = .ok (.getfield 15, 3) := by decide +kernel
theorem dX0_near_44 : decode cX0_near 44 = .ok (.iload_n 1, 1) := by decide +kernel
theorem dX0_near_45 : decode cX0_near 45 = .ok (.laload, 1) := by decide +kernel
theorem dX0_near_46 : decode cX0_near 46 = .ok (.invokevirtual 38, 3) := by decide +kernel
theorem dX0_near_49 : decode cX0_near 49 = .ok (.ireturn, 1) := by decide +kernel
theorem dX0_near_50 : decode cX0_near 50 = .ok (.aload_n 0, 1) := by decide +kernel
theorem dX0_near_51 : decode cX0_near 51 = .ok (.aload_n 0, 1) := by decide +kernel
theorem dX0_near_52 : decode cX0_near 52 = .ok (.getfield 11, 3) := by decide +kernel
theorem dX0_near_55 : decode cX0_near 55 = .ok (.iload_n 1, 1) := by decide +kernel
theorem dX0_near_56 : decode cX0_near 56 = .ok (.laload, 1) := by decide +kernel
theorem dX0_near_57 : decode cX0_near 57 = .ok (.aload_n 0, 1) := by decide +kernel
theorem dX0_near_58 : decode cX0_near 58 = .ok (.getfield 15, 3) := by decide +kernel
theorem dX0_near_61 : decode cX0_near 61 = .ok (.iload_n 1, 1) := by decide +kernel
theorem dX0_near_62 : decode cX0_near 62 = .ok (.laload, 1) := by decide +kernel
theorem dX0_near_63 : decode cX0_near 63 = .ok (.iload_n 2, 1) := by decide +kernel
theorem dX0_near_64 : decode cX0_near 64 = .ok (.invokevirtual 80, 3) := by decide +kernel
theorem dX0_near_67 : decode cX0_near 67 = .ok (.ireturn, 1) := by decide +kernel
set_option maxRecDepth 20000 in
theorem ggX0_cut_X0_isNumber : GoodIn wsX0_cut wsX0_isNumber := goodIn_r _ [9, 10, 26, 27, 28, 29, 30, 31, 32, 33, 34, 35, 36, 37, 38] (by decide +kernel) (by decide +kernel)
set_option maxRecDepth 20000 in
theorem gX0_cut_X0_isNumber : GoodIn wsX0_cut (wsV RX0 42 RX0 yX0_isNumber wsX0_isNumber) := goodIn_app (goodIn_of _ (by decide +kernel)) ggX0_cut_X0_isNumber
set_option maxRecDepth 20000 in
theorem ggX0_cut_X0_power : GoodIn wsX0_cut wsX0_power := goodIn_r _ [13, 14, 15, 8, 16, 1, 17, 18, 19, 20, 21] (by decide +kernel) (by decide +kernel)
set_option maxRecDepth 20000 in
theorem gX0_cut_X0_power : GoodIn wsX0_cut (va_wsS RX0 86 yX0_power wsX0_power) := goodIn_app (goodIn_of _ (by decide +kernel)) ggX0_cut_X0_power
set_option maxRecDepth 20000 in
theorem ggX0_cut_X0_times : GoodIn wsX0_cut wsX0_times := goodIn_r _ [16, 1, 17, 18, 19, 20, 21] (by decide +kernel) (by decide +kernel)
set_option maxRecDepth 20000 in
theorem gX0_cut_X0_times : GoodIn wsX0_cut (va_wsS RX0 90 yX0_times wsX0_times) := goodIn_app (goodIn_of _ (by decide +kernel)) ggX0_cut_X0_times
set_option maxRecDepth 20000 in
theorem ggX0_cut_J9_floorDiv_f86c9 : GoodIn wsX0_cut wsJ9_floorDiv_f86c9 := goodIn_r _ [25] (by decide +kernel) (by decide +kernel)
set_option maxRecDepth 20000 in
theorem gX0_cut_J9_floorDiv_f86c9 : GoodIn wsX0_cut (va_wsS RX0 94 yJ9_floorDiv_f86c9 wsJ9_floorDiv_f86c9) := goodIn_app (goodIn_of _ (by decide +kernel)) ggX0_cut_J9_floorDiv_f86c9
theorem dX0_cut_0 : decode cX0_cut 0 = .ok (.aload_n 0, 1) := by decide +kernel
theorem dX0_cut_1 : decode cX0_cut 1 = .ok (.iload_n 1, 1) := by decide +kernel
theorem dX0_cut_2 : decode cX0_cut 2 = .ok (.invokevirtual 42, 3) := by decide +kernel
theorem dX0_cut_5 : decode cX0_cut 5 = .ok (.ifCond .eq 13, 3) := by decide +kernel
theorem dX0_cut_8 : decode cX0_cut 8 = .ok (.iload_n 2, 1) := by decide +kernel
theorem dX0_cut_9 : decode cX0_cut 9 = .ok (.ifCond .lt 9, 3) := by decide +kernel
theorem dX0_cut_12 : decode cX0_cut 12 = .ok (.iload_n 2, 1) := by decide +kernel
theorem dX0_cut_13 : decode cX0_cut 13 = .ok (.bipush 15, 2) := by decide +kernel
theorem dX0_cut_15 : decode cX0_cut 15 = .ok (.if_icmp .le 7, 3) := by decide +kernel
theorem dX0_cut_18 : decode cX0_cut 18 = .ok (.ldc2_w 36, 3) := by decide +kernel
theorem dX0_cut_21 : decode cX0_cut 21 = .ok (.lreturn, 1) := by decide +kernel
theorem dX0_cut_22 : decode cX0_cut 22 = .ok (.aload_n 0, 1) := by decide +kernel
theorem dX0_cut_23 : decode cX0_cut 23 = .ok (.getfield 11, 3) := by decide +kernel
theorem dX0_cut_26 : decode cX0_cut 26 = .ok (.iload_n 1, 1) := by decide +kernel
theorem dX0_cut_27 : decode cX0_cut 27 = .ok (.laload, 1) := by decide +kernel
theorem dX0_cut_28 : decode cX0_cut 28 = .ok (.ldc2_w 84, 3) := by decide +kernel
theorem dX0_cut_31 : decode cX0_cut 31 = .ok (.iload_n 2, 1) := by decide +kernel
theorem dX0_cut_32 : decode cX0_cut 32 = .ok (.invokestatic 86, 3) := by decide +kernel
theorem dX0_cut_35 : decode cX0_cut 35 = .ok (.invokestatic 90, 3) := by decide +kernel
theorem dX0_cut_38 : decode cX0_cut 38 = .ok (.lstore 4, 2) := by decide +kernel
theorem dX0_cut_40 : decode cX0_cut 40 = .ok (.lload 4, 2) := by decide +kernel
theorem dX0_cut_42 : decode cX0_cut 42 = .ok (.ldc2_w 36, 3) := by decide +kernel
theorem dX0_cut_45 : decode cX0_cut 45 = .ok (.lcmp, 1) := by decide +kernel
theorem dX0_cut_46 : decode cX0_cut 46 = .ok (.ifCond .eq 14, 3) := by decide +kernel
theorem dX0_cut_49 : decode cX0_cut 49 = .ok (.aload_n 0, 1) := by decide +kernel
theorem dX0_cut_50 : decode cX0_cut 50 = .ok (.getfield 15, 3) := by decide +kernel
theorem dX0_cut_53 : decode cX0_cut 53 = .ok (.iload_n 1, 1) := by decide +kernel
theorem dX0_cut_54 : decode cX0_cut 54 = .ok (.laload, 1) := by decide +kernel
theorem dX0_cut_55 : decode cX0_cut 55 = .ok (.lconst 1, 1) := by decide +kernel
theorem dX0_cut_56 : decode cX0_cut 56 = .ok (.lcmp, 1) := by decide +kernel
theorem dX0_cut_57 : decode cX0_cut 57 = .ok (.ifCond .ge 7, 3) := by decide +kernel
theorem dX0_cut_60 : decode cX0_cut 60 = .ok (.ldc2_w 36, 3) := by decide +kernel
theorem dX0_cut_63 : decode cX0_cut 63 = .ok (.lreturn, 1) := by decide +kernel
theorem dX0_cut_64 : decode cX0_cut 64 = .ok (.iload_n 3, 1) := by decide +kernel
theorem dX0_cut_65 : decode cX0_cut 65 = .ok (.ifCond .eq 19, 3) := by decide +kernel
theorem dX0_cut_68 : decode cX0_cut 68 = .ok (.lload 4, 2) := by decide +kernel
theorem dX0_cut_70 : decode cX0_cut 70 = .ok (.lneg, 1) := by decide +kernel
theorem dX0_cut_71 : decode cX0_cut 71 = .ok (.aload_n 0, 1) := by decide +kernel
theorem dX0_cut_72 : decode cX0_cut 72 = .ok (.getfield 15, 3) := by decide +kernel
theorem dX0_cut_75 : decode cX0_cut 75 = .ok (.iload_n 1, 1) := by decide +kernel
theorem dX0_cut_76 : decode cX0_cut 76 = .ok (.laload, 1) := by decide +kernel
theorem dX0_cut_77 : decode cX0_cut 77 = .ok (.invokestatic 94, 3) := by decide +kernel
theorem dX0_cut_80 : decode cX0_cut 80 = .ok (.lneg, 1) := by decide +kernel
theorem dX0_cut_81 : decode cX0_cut 81 = .ok (.goto 14, 3) := by decide +kernel
theorem dX0_cut_84 : decode cX0_cut 84 = .ok (.lload 4, 2) := by decide +kernel
theorem dX0_cut_86 : decode cX0_cut 86 = .ok (.aload_n 0, 1) := by decide +kernel
theorem dX0_cut_87 : decode cX0_cut 87 = .ok (.getfield 15, 3) := by decide +kernel
theorem dX0_cut_90 : decode cX0_cut 90 = .ok (.iload_n 1, 1) := by decide +kernel
theorem dX0_cut_91 : decode cX0_cut 91 = .ok (.laload, 1) := by decide +kernel
theorem dX0_cut_92 : decode cX0_cut 92 = .ok (.invokestatic 94, 3) := by decide +kernel
theorem dX0_cut_95 : decode cX0_cut 95 = .ok (.lreturn, 1) := by decide +kernel
set_option maxRecDepth 20000 in
theorem ggX0_into_X0_isRow : GoodIn wsX0_into wsX0_isRow := goodIn_r _ [7] (by decide +kernel) (by decide +kernel)
set_option maxRecDepth 20000 in
theorem gX0_into_X0_isRow : GoodIn wsX0_into (va_wsS RX0 99 yX0_isRow wsX0_isRow) := goodIn_app (goodIn_of _ (by decide +kernel)) ggX0_into_X0_isRow
theorem dX0_into_0 : decode cX0_into 0 = .ok (.iload_n 1, 1) := by decide +kernel
theorem dX0_into_1 : decode cX0_into 1 = .ok (.invokestatic 99, 3) := by decide +kernel
theorem dX0_into_4 : decode cX0_into 4 = .ok (.ifCond .eq 17, 3) := by decide +kernel
theorem dX0_into_7 : decode cX0_into 7 = .ok (.lload_n 2, 1) := by decide +kernel
theorem dX0_into_8 : decode cX0_into 8 = .ok (.lconst 0, 1) := by decide +kernel
theorem dX0_into_9 : decode cX0_into 9 = .ok (.lcmp, 1) := by decide +kernel
theorem dX0_into_10 : decode cX0_into 10 = .ok (.ifCond .lt 11, 3) := by decide +kernel
theorem dX0_into_13 : decode cX0_into 13 = .ok (.lload_n 2, 1) := by decide +kernel
theorem dX0_into_14 : decode cX0_into 14 = .ok (.ldc2_w 102, 3) := by decide +kernel
theorem dX0_into_17 : decode cX0_into 17 = .ok (.lcmp, 1) := by decide +kernel
theorem dX0_into_18 : decode cX0_into 18 = .ok (.ifCond .le 5, 3) := by decide +kernel
theorem dX0_into_21 : decode cX0_into 21 = .ok (.iconst (-1), 1) := by decide +kernel
theorem dX0_into_22 : decode cX0_into 22 = .ok (.ireturn, 1) := by decide +kernel
theorem dX0_into_23 : decode cX0_into 23 = .ok (.aload_n 0, 1) := by decide +kernel
theorem dX0_into_24 : decode cX0_into 24 = .ok (.getfield 23, 3) := by decide +kernel
theorem dX0_into_27 : decode cX0_into 27 = .ok (.iload_n 1, 1) := by decide +kernel
theorem dX0_into_28 : decode cX0_into 28 = .ok (.iaload, 1) := by decide +kernel
theorem dX0_into_29 : decode cX0_into 29 = .ok (.bipush 8, 2) := by decide +kernel
theorem dX0_into_31 : decode cX0_into 31 = .ok (.if_icmp .lt 6, 3) := by decide +kernel
theorem dX0_into_34 : decode cX0_into 34 = .ok (.bipush (-4), 2) := by decide +kernel
theorem dX0_into_36 : decode cX0_into 36 = .ok (.ireturn, 1) := by decide +kernel
theorem dX0_into_37 : decode cX0_into 37 = .ok (.aload_n 0, 1) := by decide +kernel
theorem dX0_into_38 : decode cX0_into 38 = .ok (.getfield 20, 3) := by decide +kernel
theorem dX0_into_41 : decode cX0_into 41 = .ok (.iload_n 1, 1) := by decide +kernel
theorem dX0_into_42 : decode cX0_into 42 = .ok (.aaload, 1) := by decide +kernel
theorem dX0_into_43 : decode cX0_into 43 = .ok (.aload_n 0, 1) := by decide +kernel
theorem dX0_into_44 : decode cX0_into 44 = .ok (.getfield 23, 3) := by decide +kernel
theorem dX0_into_47 : decode cX0_into 47 = .ok (.iload_n 1, 1) := by decide +kernel
theorem dX0_into_48 : decode cX0_into 48 = .ok (.iaload, 1) := by decide +kernel
theorem dX0_into_49 : decode cX0_into 49 = .ok (.lload_n 2, 1) := by decide +kernel
theorem dX0_into_50 : decode cX0_into 50 = .ok (.lastore, 1) := by decide +kernel
theorem dX0_into_51 : decode cX0_into 51 = .ok (.aload_n 0, 1) := by decide +kernel
theorem dX0_into_52 : decode cX0_into 52 = .ok (.getfield 23, 3) := by decide +kernel
theorem dX0_into_55 : decode cX0_into 55 = .ok (.iload_n 1, 1) := by decide +kernel
theorem dX0_into_56 : decode cX0_into 56 = .ok (.dup2, 1) := by decide +kernel
theorem dX0_into_57 : decode cX0_into 57 = .ok (.iaload, 1) := by decide +kernel
theorem dX0_into_58 : decode cX0_into 58 = .ok (.iconst 1, 1) := by decide +kernel
theorem dX0_into_59 : decode cX0_into 59 = .ok (.iadd, 1) := by decide +kernel
theorem dX0_into_60 : decode cX0_into 60 = .ok (.iastore, 1) := by decide +kernel
theorem dX0_into_61 : decode cX0_into 61 = .ok (.aload_n 0, 1) := by decide +kernel
theorem dX0_into_62 : decode cX0_into 62 = .ok (.getfield 23, 3) := by decide +kernel
theorem dX0_into_65 : decode cX0_into 65 = .ok (.iload_n 1, 1) := by decide +kernel
theorem dX0_into_66 : decode cX0_into 66 = .ok (.iaload, 1) := by decide +kernel
theorem dX0_into_67 : decode cX0_into 67 = .ok (.ireturn, 1) := by decide +kernel
set_option maxRecDepth 20000 in
theorem ggX0_empty_X0_isRow : GoodIn wsX0_empty wsX0_isRow := goodIn_r _ [5] (by decide +kernel) (by decide +kernel)
set_option maxRecDepth 20000 in
theorem gX0_empty_X0_isRow : GoodIn wsX0_empty (va_wsS RX0 99 yX0_isRow wsX0_isRow) := goodIn_app (goodIn_of _ (by decide +kernel)) ggX0_empty_X0_isRow
theorem dX0_empty_0 : decode cX0_empty 0 = .ok (.iload_n 1, 1) := by decide +kernel
theorem dX0_empty_1 : decode cX0_empty 1 = .ok (.invokestatic 99, 3) := by decide +kernel
theorem dX0_empty_4 : decode cX0_empty 4 = .ok (.ifCond .ne 5, 3) := by decide +kernel
theorem dX0_empty_7 : decode cX0_empty 7 = .ok (.iconst (-1), 1) := by decide +kernel
theorem dX0_empty_8 : decode cX0_empty 8 = .ok (.ireturn, 1) := by decide +kernel
theorem dX0_empty_9 : decode cX0_empty 9 = .ok (.aload_n 0, 1) := by decide +kernel
theorem dX0_empty_10 : decode cX0_empty 10 = .ok (.getfield 23, 3) := by decide +kernel
theorem dX0_empty_13 : decode cX0_empty 13 = .ok (.iload_n 1, 1) := by decide +kernel
theorem dX0_empty_14 : decode cX0_empty 14 = .ok (.iaload, 1) := by decide +kernel
theorem dX0_empty_15 : decode cX0_empty 15 = .ok (.istore_n 2, 1) := by decide +kernel
theorem dX0_empty_16 : decode cX0_empty 16 = .ok (.aload_n 0, 1) := by decide +kernel
theorem dX0_empty_17 : decode cX0_empty 17 = .ok (.getfield 23, 3) := by decide +kernel
theorem dX0_empty_20 : decode cX0_empty 20 = .ok (.iload_n 1, 1) := by decide +kernel
theorem dX0_empty_21 : decode cX0_empty 21 = .ok (.iconst 0, 1) := by decide +kernel
theorem dX0_empty_22 : decode cX0_empty 22 = .ok (.iastore, 1) := by decide +kernel
theorem dX0_empty_23 : decode cX0_empty 23 = .ok (.iload_n 2, 1) := by decide +kernel
theorem dX0_empty_24 : decode cX0_empty 24 = .ok (.ireturn, 1) := by decide +kernel
set_option maxRecDepth 20000 in
theorem ggX0_at_X0_isValue : GoodIn wsX0_at wsX0_isValue := goodIn_r _ [7, 8, 9, 10, 6, 11, 12, 13, 14, 15, 16, 17, 18, 19, 20, 21, 22, 23, 24] (by decide +kernel) (by decide +kernel)
set_option maxRecDepth 20000 in
theorem gX0_at_X0_isValue : GoodIn wsX0_at (wsV RX0 104 RX0 yX0_isValue wsX0_isValue) := goodIn_app (goodIn_of _ (by decide +kernel)) ggX0_at_X0_isValue
theorem dX0_at_0 : decode cX0_at 0 = .ok (.aload_n 0, 1) := by decide +kernel
theorem dX0_at_1 : decode cX0_at 1 = .ok (.iload_n 1, 1) := by decide +kernel
theorem dX0_at_2 : decode cX0_at 2 = .ok (.iload_n 2, 1) := by decide +kernel
theorem dX0_at_3 : decode cX0_at 3 = .ok (.invokevirtual 104, 3) := by decide +kernel
theorem dX0_at_6 : decode cX0_at 6 = .ok (.ifCond .eq 14, 3) := by decide +kernel
theorem dX0_at_9 : decode cX0_at 9 = .ok (.aload_n 0, 1) := by decide +kernel
theorem dX0_at_10 : decode cX0_at 10 = .ok (.getfield 20, 3) := by decide +kernel
theorem dX0_at_13 : decode cX0_at 13 = .ok (.iload_n 1, 1) := by decide +kernel
theorem dX0_at_14 : decode cX0_at 14 = .ok (.aaload, 1) := by decide +kernel
theorem dX0_at_15 : decode cX0_at 15 = .ok (.iload_n 2, 1) := by decide +kernel
theorem dX0_at_16 : decode cX0_at 16 = .ok (.laload, 1) := by decide +kernel
theorem dX0_at_17 : decode cX0_at 17 = .ok (.goto 6, 3) := by decide +kernel
theorem dX0_at_20 : decode cX0_at 20 = .ok (.ldc2_w 108, 3) := by decide +kernel
theorem dX0_at_23 : decode cX0_at 23 = .ok (.lreturn, 1) := by decide +kernel
set_option maxRecDepth 20000 in
theorem ggX0_share_X0_isValue : GoodIn wsX0_share wsX0_isValue := goodIn_r _ [8, 9, 10, 11, 7, 12, 38, 39, 40, 41, 42, 43, 44, 45, 46, 47, 48, 49, 50] (by decide +kernel) (by decide +kernel)
set_option maxRecDepth 20000 in
theorem gX0_share_X0_isValue : GoodIn wsX0_share (wsV RX0 104 RX0 yX0_isValue wsX0_isValue) := goodIn_app (goodIn_of _ (by decide +kernel)) ggX0_share_X0_isValue
set_option maxRecDepth 20000 in
theorem ggX0_share_X0_isFull : GoodIn wsX0_share wsX0_isFull := goodIn_r _ [16, 17, 38, 39, 40, 41, 42, 43, 44, 45, 46, 47, 48, 49, 50] (by decide +kernel) (by decide +kernel)
set_option maxRecDepth 20000 in
theorem gX0_share_X0_isFull : GoodIn wsX0_share (wsV RX0 46 RX0 yX0_isFull wsX0_isFull) := goodIn_app (goodIn_of _ (by decide +kernel)) ggX0_share_X0_isFull
set_option maxRecDepth 20000 in
theorem ggX0_share_X0_sumOf : GoodIn wsX0_share wsX0_sumOf := goodIn_r _ [21, 9, 3, 38, 39, 40, 41, 42, 43, 44, 45, 46, 47, 48, 49, 50] (by decide +kernel) (by decide +kernel)
set_option maxRecDepth 20000 in
theorem gX0_share_X0_sumOf : GoodIn wsX0_share (wsV RX0 110 RX0 yX0_sumOf wsX0_sumOf) := goodIn_app (goodIn_of _ (by decide +kernel)) ggX0_share_X0_sumOf
set_option maxRecDepth 20000 in
theorem ggX0_share_X0_keep : GoodIn wsX0_share wsX0_keep := goodIn_r _ [25, 26, 17, 27, 13, 14, 15, 7, 16, 28, 29, 30, 31, 32, 33, 34, 35, 36, 37, 38, 39, 40, 41, 42, 43, 44, 45, 46, 47, 48, 49, 50] (by decide +kernel) (by decide +kernel)
set_option maxRecDepth 20000 in
theorem gX0_share_X0_keep : GoodIn wsX0_share (wsV RX0 38 RX0 yX0_keep wsX0_keep) := goodIn_app (goodIn_of _ (by decide +kernel)) ggX0_share_X0_keep
theorem dX0_share_0 : decode cX0_share 0 = .ok (.aload_n 0, 1) := by decide +kernel
theorem dX0_share_1 : decode cX0_share 1 = .ok (.iload_n 1, 1) := by decide +kernel
theorem dX0_share_2 : decode cX0_share 2 = .ok (.iload_n 2, 1) := by decide +kernel
theorem dX0_share_3 : decode cX0_share 3 = .ok (.invokevirtual 104, 3) := by decide +kernel
theorem dX0_share_6 : decode cX0_share 6 = .ok (.ifCond .ne 5, 3) := by decide +kernel
theorem dX0_share_9 : decode cX0_share 9 = .ok (.iconst (-1), 1) := by decide +kernel
theorem dX0_share_10 : decode cX0_share 10 = .ok (.ireturn, 1) := by decide +kernel
theorem dX0_share_11 : decode cX0_share 11 = .ok (.aload_n 0, 1) := by decide +kernel
theorem dX0_share_12 : decode cX0_share 12 = .ok (.invokevirtual 46, 3) := by decide +kernel
theorem dX0_share_15 : decode cX0_share 15 = .ok (.ifCond .eq 6, 3) := by decide +kernel
theorem dX0_share_18 : decode cX0_share 18 = .ok (.bipush (-4), 2) := by decide +kernel
theorem dX0_share_20 : decode cX0_share 20 = .ok (.ireturn, 1) := by decide +kernel
theorem dX0_share_21 : decode cX0_share 21 = .ok (.aload_n 0, 1) := by decide +kernel
theorem dX0_share_22 : decode cX0_share 22 = .ok (.iload_n 1, 1) := by decide +kernel
theorem dX0_share_23 : decode cX0_share 23 = .ok (.invokevirtual 110, 3) := by decide +kernel
theorem dX0_share_26 : decode cX0_share 26 = .ok (.lstore_n 3, 1) := by decide +kernel
theorem dX0_share_27 : decode cX0_share 27 = .ok (.lload_n 3, 1) := by decide +kernel
theorem dX0_share_28 : decode cX0_share 28 = .ok (.lconst 0, 1) := by decide +kernel
theorem dX0_share_29 : decode cX0_share 29 = .ok (.lcmp, 1) := by decide +kernel
theorem dX0_share_30 : decode cX0_share 30 = .ok (.ifCond .ne 13, 3) := by decide +kernel
theorem dX0_share_33 : decode cX0_share 33 = .ok (.new 61, 3) := by decide +kernel
theorem dX0_share_36 : decode cX0_share 36 = .ok (.dup, 1) := by decide +kernel
theorem dX0_share_37 : decode cX0_share 37 = .ok (.ldc 114, 2) := by decide +kernel
theorem dX0_share_39 : decode cX0_share 39 = .ok (.invokespecial 65, 3) := by decide +kernel
theorem dX0_share_42 : decode cX0_share 42 = .ok (.athrow, 1) := by decide +kernel
theorem dX0_share_43 : decode cX0_share 43 = .ok (.aload_n 0, 1) := by decide +kernel
theorem dX0_share_44 : decode cX0_share 44 = .ok (.aload_n 0, 1) := by decide +kernel
theorem dX0_share_45 : decode cX0_share 45 = .ok (.getfield 20, 3) := by decide +kernel
theorem dX0_share_48 : decode cX0_share 48 = .ok (.iload_n 1, 1) := by decide +kernel
theorem dX0_share_49 : decode cX0_share 49 = .ok (.aaload, 1) := by decide +kernel
theorem dX0_share_50 : decode cX0_share 50 = .ok (.iload_n 2, 1) := by decide +kernel
theorem dX0_share_51 : decode cX0_share 51 = .ok (.laload, 1) := by decide +kernel
theorem dX0_share_52 : decode cX0_share 52 = .ok (.lload_n 3, 1) := by decide +kernel
theorem dX0_share_53 : decode cX0_share 53 = .ok (.invokevirtual 38, 3) := by decide +kernel
theorem dX0_share_56 : decode cX0_share 56 = .ok (.ireturn, 1) := by decide +kernel
set_option maxRecDepth 20000 in
theorem ggX0_seats_X0_isRow : GoodIn wsX0_seats wsX0_isRow := goodIn_r _ [7] (by decide +kernel) (by decide +kernel)
set_option maxRecDepth 20000 in
theorem gX0_seats_X0_isRow : GoodIn wsX0_seats (va_wsS RX0 99 yX0_isRow wsX0_isRow) := goodIn_app (goodIn_of _ (by decide +kernel)) ggX0_seats_X0_isRow
set_option maxRecDepth 20000 in
theorem ggX0_seats_X0_sumOf : GoodIn wsX0_seats wsX0_sumOf := goodIn_r _ [11, 1, 3, 31, 32, 33, 34, 35, 36, 37, 38, 39, 40, 41, 42, 43] (by decide +kernel) (by decide +kernel)
set_option maxRecDepth 20000 in
theorem gX0_seats_X0_sumOf : GoodIn wsX0_seats (wsV RX0 110 RX0 yX0_sumOf wsX0_sumOf) := goodIn_app (goodIn_of _ (by decide +kernel)) ggX0_seats_X0_sumOf
set_option maxRecDepth 20000 in
theorem ggX0_seats_X0_giveByRemainders : GoodIn wsX0_seats wsX0_giveByRemainders := goodIn_r _ [15, 2, 16, 17, 18, 19, 20, 21, 6, 22, 31, 32, 33, 34, 35, 36, 37, 38, 39, 40, 41, 42, 43] (by decide +kernel) (by decide +kernel)
set_option maxRecDepth 20000 in
theorem gX0_seats_X0_giveByRemainders : GoodIn wsX0_seats (wsV RX0 119 RX0 yX0_giveByRemainders wsX0_giveByRemainders) := goodIn_app (goodIn_of _ (by decide +kernel)) ggX0_seats_X0_giveByRemainders
set_option maxRecDepth 20000 in
theorem ggX0_seats_X0_giveOneByOne : GoodIn wsX0_seats wsX0_giveOneByOne := goodIn_r _ [26, 2, 16, 31, 32, 33, 34, 35, 36, 37, 38, 39, 40, 41, 42, 43] (by decide +kernel) (by decide +kernel)
set_option maxRecDepth 20000 in
theorem gX0_seats_X0_giveOneByOne : GoodIn wsX0_seats (wsV RX0 123 RX0 yX0_giveOneByOne wsX0_giveOneByOne) := goodIn_app (goodIn_of _ (by decide +kernel)) ggX0_seats_X0_giveOneByOne
set_option maxRecDepth 20000 in
theorem ggX0_seats_X0_countSeated : GoodIn wsX0_seats wsX0_countSeated := goodIn_r _ [30, 2, 16, 31, 32, 33, 34, 35, 36, 37, 38, 39, 40, 41, 42, 43] (by decide +kernel) (by decide +kernel)
set_option maxRecDepth 20000 in
theorem gX0_seats_X0_countSeated : GoodIn wsX0_seats (wsV RX0 127 RX0 yX0_countSeated wsX0_countSeated) := goodIn_app (goodIn_of _ (by decide +kernel)) ggX0_seats_X0_countSeated
theorem dX0_seats_0 : decode cX0_seats 0 = .ok (.iload_n 1, 1) := by decide +kernel
theorem dX0_seats_1 : decode cX0_seats 1 = .ok (.invokestatic 99, 3) := by decide +kernel
theorem dX0_seats_4 : decode cX0_seats 4 = .ok (.ifCond .eq 23, 3) := by decide +kernel
theorem dX0_seats_7 : decode cX0_seats 7 = .ok (.iload_n 2, 1) := by decide +kernel
theorem dX0_seats_8 : decode cX0_seats 8 = .ok (.ifCond .lt 19, 3) := by decide +kernel
theorem dX0_seats_11 : decode cX0_seats 11 = .ok (.iload_n 2, 1) := by decide +kernel
theorem dX0_seats_12 : decode cX0_seats 12 = .ok (.sipush 2000, 3) := by decide +kernel
theorem dX0_seats_15 : decode cX0_seats 15 = .ok (.if_icmp .gt 12, 3) := by decide +kernel
theorem dX0_seats_18 : decode cX0_seats 18 = .ok (.iload_n 3, 1) := by decide +kernel
theorem dX0_seats_19 : decode cX0_seats 19 = .ok (.ifCond .lt 8, 3) := by decide +kernel
theorem dX0_seats_22 : decode cX0_seats 22 = .ok (.iload_n 3, 1) := by decide +kernel
theorem dX0_seats_23 : decode cX0_seats 23 = .ok (.iconst 2, 1) := by decide +kernel
theorem dX0_seats_24 : decode cX0_seats 24 = .ok (.if_icmp .le 5, 3) := by decide +kernel
theorem dX0_seats_27 : decode cX0_seats 27 = .ok (.iconst (-1), 1) := by decide +kernel
theorem dX0_seats_28 : decode cX0_seats 28 = .ok (.ireturn, 1) := by decide +kernel
theorem dX0_seats_29 : decode cX0_seats 29 = .ok (.aload_n 0, 1) := by decide +kernel
theorem dX0_seats_30 : decode cX0_seats 30 = .ok (.iload_n 1, 1) := by decide +kernel
theorem dX0_seats_31 : decode cX0_seats 31 = .ok (.invokevirtual 110, 3) := by decide +kernel
theorem dX0_seats_34 : decode cX0_seats 34 = .ok (.lstore 4, 2) := by decide +kernel
theorem dX0_seats_36 : decode cX0_seats 36 = .ok (.lload 4, 2) := by decide +kernel
theorem dX0_seats_38 : decode cX0_seats 38 = .ok (.lconst 0, 1) := by decide +kernel
theorem dX0_seats_39 : decode cX0_seats 39 = .ok (.lcmp, 1) := by decide +kernel
theorem dX0_seats_40 : decode cX0_seats 40 = .ok (.ifCond .ne 6, 3) := by decide +kernel
theorem dX0_seats_43 : decode cX0_seats 43 = .ok (.bipush (-2), 2) := by decide +kernel
theorem dX0_seats_45 : decode cX0_seats 45 = .ok (.ireturn, 1) := by decide +kernel
theorem dX0_seats_46 : decode cX0_seats 46 = .ok (.aload_n 0, 1) := by decide +kernel
theorem dX0_seats_47 : decode cX0_seats 47 = .ok (.aload_n 0, 1) := by decide +kernel
theorem dX0_seats_48 : decode cX0_seats 48 = .ok (.getfield 23, 3) := by decide +kernel
theorem dX0_seats_51 : decode cX0_seats 51 = .ok (.iload_n 1, 1) := by decide +kernel
theorem dX0_seats_52 : decode cX0_seats 52 = .ok (.iaload, 1) := by decide +kernel
theorem dX0_seats_53 : decode cX0_seats 53 = .ok (.putfield 116, 3) := by decide +kernel
theorem dX0_seats_56 : decode cX0_seats 56 = .ok (.iload_n 3, 1) := by decide +kernel
theorem dX0_seats_57 : decode cX0_seats 57 = .ok (.ifCond .ne 19, 3) := by decide +kernel
theorem dX0_seats_60 : decode cX0_seats 60 = .ok (.aload_n 0, 1) := by decide +kernel
theorem dX0_seats_61 : decode cX0_seats 61 = .ok (.aload_n 0, 1) := by decide +kernel
theorem dX0_seats_62 : decode cX0_seats 62 = .ok (.getfield 20, 3) := by decide +kernel
theorem dX0_seats_65 : decode cX0_seats 65 = .ok (.iload_n 1, 1) := by decide +kernel
theorem dX0_seats_66 : decode cX0_seats 66 = .ok (.aaload, 1) := by decide +kernel
theorem dX0_seats_67 : decode cX0_seats 67 = .ok (.iload_n 2, 1) := by decide +kernel
theorem dX0_seats_68 : decode cX0_seats 68 = .ok (.lload 4, 2) := by decide +kernel
theorem dX0_seats_70 : decode cX0_seats 70 = .ok (.invokevirtual 119, 3) := by decide +kernel
theorem dX0_seats_73 : decode cX0_seats 73 = .ok (.goto 15, 3) := by decide +kernel
theorem dX0_seats_76 : decode cX0_seats 76 = .ok (.aload_n 0, 1) := by decide +kernel
theorem dX0_seats_77 : decode cX0_seats 77 = .ok (.aload_n 0, 1) := by decide +kernel
theorem dX0_seats_78 : decode cX0_seats 78 = .ok (.getfield 20, 3) := by decide +kernel
theorem dX0_seats_81 : decode cX0_seats 81 = .ok (.iload_n 1, 1) := by decide +kernel
theorem dX0_seats_82 : decode cX0_seats 82 = .ok (.aaload, 1) := by decide +kernel
theorem dX0_seats_83 : decode cX0_seats 83 = .ok (.iload_n 2, 1) := by decide +kernel
theorem dX0_seats_84 : decode cX0_seats 84 = .ok (.iload_n 3, 1) := by decide +kernel
theorem dX0_seats_85 : decode cX0_seats 85 = .ok (.invokevirtual 123, 3) := by decide +kernel
theorem dX0_seats_88 : decode cX0_seats 88 = .ok (.aload_n 0, 1) := by decide +kernel
theorem dX0_seats_89 : decode cX0_seats 89 = .ok (.invokevirtual 127, 3) := by decide +kernel
theorem dX0_seats_92 : decode cX0_seats 92 = .ok (.ireturn, 1) := by decide +kernel
theorem dX0_given_0 : decode cX0_given 0 = .ok (.iload_n 1, 1) := by decide +kernel
theorem dX0_given_1 : decode cX0_given 1 = .ok (.ifCond .lt 11, 3) := by decide +kernel
theorem dX0_given_4 : decode cX0_given 4 = .ok (.iload_n 1, 1) := by decide +kernel
theorem dX0_given_5 : decode cX0_given 5 = .ok (.aload_n 0, 1) := by decide +kernel
theorem dX0_given_6 : decode cX0_given 6 = .ok (.getfield 116, 3) := by decide +kernel
theorem dX0_given_9 : decode cX0_given 9 = .ok (.if_icmp .lt 8, 3) := by decide +kernel
theorem dX0_given_12 : decode cX0_given 12 = .ok (.bipush (-5), 2) := by decide +kernel
theorem dX0_given_14 : decode cX0_given 14 = .ok (.goto 9, 3) := by decide +kernel
theorem dX0_given_17 : decode cX0_given 17 = .ok (.aload_n 0, 1) := by decide +kernel
theorem dX0_given_18 : decode cX0_given 18 = .ok (.getfield 27, 3) := by decide +kernel
theorem dX0_given_21 : decode cX0_given 21 = .ok (.iload_n 1, 1) := by decide +kernel
theorem dX0_given_22 : decode cX0_given 22 = .ok (.iaload, 1) := by decide +kernel
theorem dX0_given_23 : decode cX0_given 23 = .ok (.ireturn, 1) := by decide +kernel
set_option maxRecDepth 20000 in
theorem ggX0_tail_X0_isNumber : GoodIn wsX0_tail wsX0_isNumber := goodIn_r _ [12, 13, 41, 42, 43, 44, 45, 46, 47, 48, 49, 50, 51, 52, 53] (by decide +kernel) (by decide +kernel)
set_option maxRecDepth 20000 in
theorem gX0_tail_X0_isNumber : GoodIn wsX0_tail (wsV RX0 42 RX0 yX0_isNumber wsX0_isNumber) := goodIn_app (goodIn_of _ (by decide +kernel)) ggX0_tail_X0_isNumber
set_option maxRecDepth 20000 in
theorem ggX0_tail_X0_isFull : GoodIn wsX0_tail wsX0_isFull := goodIn_r _ [17, 13, 41, 42, 43, 44, 45, 46, 47, 48, 49, 50, 51, 52, 53] (by decide +kernel) (by decide +kernel)
set_option maxRecDepth 20000 in
theorem gX0_tail_X0_isFull : GoodIn wsX0_tail (wsV RX0 46 RX0 yX0_isFull wsX0_isFull) := goodIn_app (goodIn_of _ (by decide +kernel)) ggX0_tail_X0_isFull
set_option maxRecDepth 20000 in
theorem ggX0_tail_X0_power : GoodIn wsX0_tail wsX0_power := goodIn_r _ [20, 21, 22, 11, 23, 3, 24, 25, 6, 26, 27] (by decide +kernel) (by decide +kernel)
set_option maxRecDepth 20000 in
theorem gX0_tail_X0_power : GoodIn wsX0_tail (va_wsS RX0 86 yX0_power wsX0_power) := goodIn_app (goodIn_of _ (by decide +kernel)) ggX0_tail_X0_power
set_option maxRecDepth 20000 in
theorem ggX0_tail_X0_choose : GoodIn wsX0_tail wsX0_choose := goodIn_r _ [30] (by decide +kernel) (by decide +kernel)
set_option maxRecDepth 20000 in
theorem gX0_tail_X0_choose : GoodIn wsX0_tail (va_wsS RX0 134 yX0_choose wsX0_choose) := goodIn_app (goodIn_of _ (by decide +kernel)) ggX0_tail_X0_choose
set_option maxRecDepth 20000 in
theorem ggX0_tail_X0_keep : GoodIn wsX0_tail wsX0_keep := goodIn_r _ [34, 1, 13, 2, 14, 15, 16, 11, 17, 35, 36, 37, 24, 25, 6, 26, 38, 39, 40, 41, 42, 43, 44, 45, 46, 47, 48, 49, 50, 51, 52, 53] (by decide +kernel) (by decide +kernel)
set_option maxRecDepth 20000 in
theorem gX0_tail_X0_keep : GoodIn wsX0_tail (wsV RX0 38 RX0 yX0_keep wsX0_keep) := goodIn_app (goodIn_of _ (by decide +kernel)) ggX0_tail_X0_keep
theorem dX0_tail_0 : decode cX0_tail 0 = .ok (.iload_n 1, 1) := by decide +kernel
theorem dX0_tail_1 : decode cX0_tail 1 = .ok (.ifCond .lt 17, 3) := by decide +kernel
theorem dX0_tail_4 : decode cX0_tail 4 = .ok (.iload_n 1, 1) := by decide +kernel
theorem dX0_tail_5 : decode cX0_tail 5 = .ok (.bipush 60, 2) := by decide +kernel
theorem dX0_tail_7 : decode cX0_tail 7 = .ok (.if_icmp .gt 11, 3) := by decide +kernel
theorem dX0_tail_10 : decode cX0_tail 10 = .ok (.aload_n 0, 1) := by decide +kernel
theorem dX0_tail_11 : decode cX0_tail 11 = .ok (.iload_n 3, 1) := by decide +kernel
theorem dX0_tail_12 : decode cX0_tail 12 = .ok (.invokevirtual 42, 3) := by decide +kernel
theorem dX0_tail_15 : decode cX0_tail 15 = .ok (.ifCond .ne 5, 3) := by decide +kernel
theorem dX0_tail_18 : decode cX0_tail 18 = .ok (.iconst (-1), 1) := by decide +kernel
theorem dX0_tail_19 : decode cX0_tail 19 = .ok (.ireturn, 1) := by decide +kernel
theorem dX0_tail_20 : decode cX0_tail 20 = .ok (.aload_n 0, 1) := by decide +kernel
theorem dX0_tail_21 : decode cX0_tail 21 = .ok (.getfield 11, 3) := by decide +kernel
theorem dX0_tail_24 : decode cX0_tail 24 = .ok (.iload_n 3, 1) := by decide +kernel
theorem dX0_tail_25 : decode cX0_tail 25 = .ok (.laload, 1) := by decide +kernel
theorem dX0_tail_26 : decode cX0_tail 26 = .ok (.lconst 0, 1) := by decide +kernel
theorem dX0_tail_27 : decode cX0_tail 27 = .ok (.lcmp, 1) := by decide +kernel
theorem dX0_tail_28 : decode cX0_tail 28 = .ok (.ifCond .lt 19, 3) := by decide +kernel
theorem dX0_tail_31 : decode cX0_tail 31 = .ok (.aload_n 0, 1) := by decide +kernel
theorem dX0_tail_32 : decode cX0_tail 32 = .ok (.getfield 11, 3) := by decide +kernel
theorem dX0_tail_35 : decode cX0_tail 35 = .ok (.iload_n 3, 1) := by decide +kernel
theorem dX0_tail_36 : decode cX0_tail 36 = .ok (.laload, 1) := by decide +kernel
theorem dX0_tail_37 : decode cX0_tail 37 = .ok (.aload_n 0, 1) := by decide +kernel
theorem dX0_tail_38 : decode cX0_tail 38 = .ok (.getfield 15, 3) := by decide +kernel
theorem dX0_tail_41 : decode cX0_tail 41 = .ok (.iload_n 3, 1) := by decide +kernel
theorem dX0_tail_42 : decode cX0_tail 42 = .ok (.laload, 1) := by decide +kernel
theorem dX0_tail_43 : decode cX0_tail 43 = .ok (.lcmp, 1) := by decide +kernel
theorem dX0_tail_44 : decode cX0_tail 44 = .ok (.ifCond .le 6, 3) := by decide +kernel
theorem dX0_tail_47 : decode cX0_tail 47 = .ok (.bipush (-5), 2) := by decide +kernel
theorem dX0_tail_49 : decode cX0_tail 49 = .ok (.ireturn, 1) := by decide +kernel
theorem dX0_tail_50 : decode cX0_tail 50 = .ok (.aload_n 0, 1) := by decide +kernel
theorem dX0_tail_51 : decode cX0_tail 51 = .ok (.invokevirtual 46, 3) := by decide +kernel
theorem dX0_tail_54 : decode cX0_tail 54 = .ok (.ifCond .eq 6, 3) := by decide +kernel
theorem dX0_tail_57 : decode cX0_tail 57 = .ok (.bipush (-4), 2) := by decide +kernel
theorem dX0_tail_59 : decode cX0_tail 59 = .ok (.ireturn, 1) := by decide +kernel
theorem dX0_tail_60 : decode cX0_tail 60 = .ok (.aload_n 0, 1) := by decide +kernel
theorem dX0_tail_61 : decode cX0_tail 61 = .ok (.getfield 15, 3) := by decide +kernel
theorem dX0_tail_64 : decode cX0_tail 64 = .ok (.iload_n 3, 1) := by decide +kernel
theorem dX0_tail_65 : decode cX0_tail 65 = .ok (.laload, 1) := by decide +kernel
theorem dX0_tail_66 : decode cX0_tail 66 = .ok (.iload_n 1, 1) := by decide +kernel
theorem dX0_tail_67 : decode cX0_tail 67 = .ok (.invokestatic 86, 3) := by decide +kernel
theorem dX0_tail_70 : decode cX0_tail 70 = .ok (.lstore 4, 2) := by decide +kernel
theorem dX0_tail_72 : decode cX0_tail 72 = .ok (.lload 4, 2) := by decide +kernel
theorem dX0_tail_74 : decode cX0_tail 74 = .ok (.ldc2_w 36, 3) := by decide +kernel
theorem dX0_tail_77 : decode cX0_tail 77 = .ok (.lcmp, 1) := by decide +kernel
theorem dX0_tail_78 : decode cX0_tail 78 = .ok (.ifCond .ne 6, 3) := by decide +kernel
theorem dX0_tail_81 : decode cX0_tail 81 = .ok (.bipush (-3), 2) := by decide +kernel
theorem dX0_tail_83 : decode cX0_tail 83 = .ok (.ireturn, 1) := by decide +kernel
theorem dX0_tail_84 : decode cX0_tail 84 = .ok (.lconst 0, 1) := by decide +kernel
theorem dX0_tail_85 : decode cX0_tail 85 = .ok (.lstore 6, 2) := by decide +kernel
theorem dX0_tail_87 : decode cX0_tail 87 = .ok (.iconst 0, 1) := by decide +kernel
theorem dX0_tail_88 : decode cX0_tail 88 = .ok (.iload_n 2, 1) := by decide +kernel
theorem dX0_tail_89 : decode cX0_tail 89 = .ok (.invokestatic 131, 3) := by decide +kernel
theorem dX0_tail_92 : decode cX0_tail 92 = .ok (.istore 8, 2) := by decide +kernel
theorem dX0_tail_94 : decode cX0_tail 94 = .ok (.iload 8, 2) := by decide +kernel
theorem dX0_tail_96 : decode cX0_tail 96 = .ok (.iload_n 1, 1) := by decide +kernel
theorem dX0_tail_97 : decode cX0_tail 97 = .ok (.if_icmp .gt 53, 3) := by decide +kernel
theorem dX0_tail_100 : decode cX0_tail 100 = .ok (.lload 6, 2) := by decide +kernel
theorem dX0_tail_102 : decode cX0_tail 102 = .ok (.iload_n 1, 1) := by decide +kernel
theorem dX0_tail_103 : decode cX0_tail 103 = .ok (.iload 8, 2) := by decide +kernel
theorem dX0_tail_105 : decode cX0_tail 105 = .ok (.invokestatic 134, 3) := by decide +kernel
theorem dX0_tail_108 : decode cX0_tail 108 = .ok (.aload_n 0, 1) := by decide +kernel
theorem dX0_tail_109 : decode cX0_tail 109 = .ok (.getfield 11, 3) := by decide +kernel
theorem dX0_tail_112 : decode cX0_tail 112 = .ok (.iload_n 3, 1) := by decide +kernel
theorem dX0_tail_113 : decode cX0_tail 113 = .ok (.laload, 1) := by decide +kernel
theorem dX0_tail_114 : decode cX0_tail 114 = .ok (.iload 8, 2) := by decide +kernel
theorem dX0_tail_116 : decode cX0_tail 116 = .ok (.invokestatic 86, 3) := by decide +kernel
theorem dX0_tail_119 : decode cX0_tail 119 = .ok (.lmul, 1) := by decide +kernel
theorem dX0_tail_120 : decode cX0_tail 120 = .ok (.aload_n 0, 1) := by decide +kernel
theorem dX0_tail_121 : decode cX0_tail 121 = .ok (.getfield 15, 3) := by decide +kernel
theorem dX0_tail_124 : decode cX0_tail 124 = .ok (.iload_n 3, 1) := by decide +kernel
theorem dX0_tail_125 : decode cX0_tail 125 = .ok (.laload, 1) := by decide +kernel
theorem dX0_tail_126 : decode cX0_tail 126 = .ok (.aload_n 0, 1) := by decide +kernel
theorem dX0_tail_127 : decode cX0_tail 127 = .ok (.getfield 11, 3) := by decide +kernel
theorem dX0_tail_130 : decode cX0_tail 130 = .ok (.iload_n 3, 1) := by decide +kernel
theorem dX0_tail_131 : decode cX0_tail 131 = .ok (.laload, 1) := by decide +kernel
theorem dX0_tail_132 : decode cX0_tail 132 = .ok (.lsub, 1) := by decide +kernel
theorem dX0_tail_133 : decode cX0_tail 133 = .ok (.iload_n 1, 1) := by decide +kernel
theorem dX0_tail_134 : decode cX0_tail 134 = .ok (.iload 8, 2) := by decide +kernel
theorem dX0_tail_136 : decode cX0_tail 136 = .ok (.isub, 1) := by decide +kernel
theorem dX0_tail_137 : decode cX0_tail 137 = .ok (.invokestatic 86, 3) := by decide +kernel
theorem dX0_tail_140 : decode cX0_tail 140 = .ok (.lmul, 1) := by decide +kernel
theorem dX0_tail_141 : decode cX0_tail 141 = .ok (.ladd, 1) := by decide +kernel
theorem dX0_tail_142 : decode cX0_tail 142 = .ok (.lstore 6, 2) := by decide +kernel
theorem dX0_tail_144 : decode cX0_tail 144 = .ok (.iinc 8 1, 3) := by decide +kernel
theorem dX0_tail_147 : decode cX0_tail 147 = .ok (.goto (-53), 3) := by decide +kernel
theorem dX0_tail_150 : decode cX0_tail 150 = .ok (.aload_n 0, 1) := by decide +kernel
theorem dX0_tail_151 : decode cX0_tail 151 = .ok (.lload 6, 2) := by decide +kernel
theorem dX0_tail_153 : decode cX0_tail 153 = .ok (.lload 4, 2) := by decide +kernel
theorem dX0_tail_155 : decode cX0_tail 155 = .ok (.invokevirtual 38, 3) := by decide +kernel
end
section
theorem dX0_tail_158 : decode cX0_tail 158 = .ok (.ireturn, 1) := by decide +kernel
set_option maxRecDepth 20000 in
theorem ggX0_urn_X0_choose : GoodIn wsX0_urn wsX0_choose := goodIn_r _ [4] (by decide +kernel) (by decide +kernel)
set_option maxRecDepth 20000 in
theorem gX0_urn_X0_choose : GoodIn wsX0_urn (va_wsS RX0 134 yX0_choose wsX0_choose) := goodIn_app (goodIn_of _ (by decide +kernel)) ggX0_urn_X0_choose
set_option maxRecDepth 20000 in
theorem ggX0_urn_X0_keep : GoodIn wsX0_urn wsX0_keep := goodIn_r _ [8, 9, 10, 11, 12, 13, 14, 3, 15, 16, 17, 18, 19, 20, 21, 22, 23, 24, 25, 26, 27, 28, 29, 30, 31, 32, 33, 34, 35, 36, 37, 38] (by decide +kernel) (by decide +kernel)
set_option maxRecDepth 20000 in
theorem gX0_urn_X0_keep : GoodIn wsX0_urn (wsV RX0 38 RX0 yX0_keep wsX0_keep) := goodIn_app (goodIn_of _ (by decide +kernel)) ggX0_urn_X0_keep
theorem dX0_urn_0 : decode cX0_urn 0 = .ok (.iload_n 1, 1) := by decide +kernel
theorem dX0_urn_1 : decode cX0_urn 1 = .ok (.ifCond .lt 27, 3) := by decide +kernel
theorem dX0_urn_4 : decode cX0_urn 4 = .ok (.iload_n 1, 1) := by decide +kernel
theorem dX0_urn_5 : decode cX0_urn 5 = .ok (.bipush 60, 2) := by decide +kernel
theorem dX0_urn_7 : decode cX0_urn 7 = .ok (.if_icmp .gt 21, 3) := by decide +kernel
theorem dX0_urn_10 : decode cX0_urn 10 = .ok (.iload_n 2, 1) := by decide +kernel
theorem dX0_urn_11 : decode cX0_urn 11 = .ok (.ifCond .lt 17, 3) := by decide +kernel
theorem dX0_urn_14 : decode cX0_urn 14 = .ok (.iload_n 2, 1) := by decide +kernel
theorem dX0_urn_15 : decode cX0_urn 15 = .ok (.iload_n 1, 1) := by decide +kernel
theorem dX0_urn_16 : decode cX0_urn 16 = .ok (.if_icmp .gt 12, 3) := by decide +kernel
theorem dX0_urn_19 : decode cX0_urn 19 = .ok (.iload_n 3, 1) := by decide +kernel
theorem dX0_urn_20 : decode cX0_urn 20 = .ok (.ifCond .lt 8, 3) := by decide +kernel
theorem dX0_urn_23 : decode cX0_urn 23 = .ok (.iload_n 3, 1) := by decide +kernel
theorem dX0_urn_24 : decode cX0_urn 24 = .ok (.iload_n 1, 1) := by decide +kernel
theorem dX0_urn_25 : decode cX0_urn 25 = .ok (.if_icmp .le 5, 3) := by decide +kernel
theorem dX0_urn_28 : decode cX0_urn 28 = .ok (.iconst (-1), 1) := by decide +kernel
theorem dX0_urn_29 : decode cX0_urn 29 = .ok (.ireturn, 1) := by decide +kernel
theorem dX0_urn_30 : decode cX0_urn 30 = .ok (.aload_n 0, 1) := by decide +kernel
theorem dX0_urn_31 : decode cX0_urn 31 = .ok (.iload_n 2, 1) := by decide +kernel
theorem dX0_urn_32 : decode cX0_urn 32 = .ok (.iload 4, 2) := by decide +kernel
theorem dX0_urn_34 : decode cX0_urn 34 = .ok (.invokestatic 134, 3) := by decide +kernel
theorem dX0_urn_37 : decode cX0_urn 37 = .ok (.iload_n 1, 1) := by decide +kernel
theorem dX0_urn_38 : decode cX0_urn 38 = .ok (.iload_n 2, 1) := by decide +kernel
theorem dX0_urn_39 : decode cX0_urn 39 = .ok (.isub, 1) := by decide +kernel
theorem dX0_urn_40 : decode cX0_urn 40 = .ok (.iload_n 3, 1) := by decide +kernel
theorem dX0_urn_41 : decode cX0_urn 41 = .ok (.iload 4, 2) := by decide +kernel
theorem dX0_urn_43 : decode cX0_urn 43 = .ok (.isub, 1) := by decide +kernel
theorem dX0_urn_44 : decode cX0_urn 44 = .ok (.invokestatic 134, 3) := by decide +kernel
theorem dX0_urn_47 : decode cX0_urn 47 = .ok (.lmul, 1) := by decide +kernel
theorem dX0_urn_48 : decode cX0_urn 48 = .ok (.iload_n 1, 1) := by decide +kernel
theorem dX0_urn_49 : decode cX0_urn 49 = .ok (.iload_n 3, 1) := by decide +kernel
theorem dX0_urn_50 : decode cX0_urn 50 = .ok (.invokestatic 134, 3) := by decide +kernel
theorem dX0_urn_53 : decode cX0_urn 53 = .ok (.invokevirtual 38, 3) := by decide +kernel
theorem dX0_urn_56 : decode cX0_urn 56 = .ok (.ireturn, 1) := by decide +kernel
set_option maxRecDepth 20000 in
theorem ggX0_test_X0_isRow : GoodIn wsX0_test wsX0_isRow := goodIn_r _ [14] (by decide +kernel) (by decide +kernel)
set_option maxRecDepth 20000 in
theorem gX0_test_X0_isRow : GoodIn wsX0_test (va_wsS RX0 99 yX0_isRow wsX0_isRow) := goodIn_app (goodIn_of _ (by decide +kernel)) ggX0_test_X0_isRow
set_option maxRecDepth 20000 in
theorem ggX0_test_X0_isFull : GoodIn wsX0_test wsX0_isFull := goodIn_r _ [18, 19, 46, 47, 48, 49, 50, 51, 52, 53, 54, 55, 56, 57, 58] (by decide +kernel) (by decide +kernel)
set_option maxRecDepth 20000 in
theorem gX0_test_X0_isFull : GoodIn wsX0_test (wsV RX0 46 RX0 yX0_isFull wsX0_isFull) := goodIn_app (goodIn_of _ (by decide +kernel)) ggX0_test_X0_isFull
set_option maxRecDepth 20000 in
theorem ggX0_test_X0_sumOf : GoodIn wsX0_test wsX0_sumOf := goodIn_r _ [23, 1, 2, 46, 47, 48, 49, 50, 51, 52, 53, 54, 55, 56, 57, 58] (by decide +kernel) (by decide +kernel)
set_option maxRecDepth 20000 in
theorem gX0_test_X0_sumOf : GoodIn wsX0_test (wsV RX0 110 RX0 yX0_sumOf wsX0_sumOf) := goodIn_app (goodIn_of _ (by decide +kernel)) ggX0_test_X0_sumOf
set_option maxRecDepth 20000 in
theorem ggX0_test_X0_waysToReach : GoodIn wsX0_test wsX0_waysToReach := goodIn_r _ [26, 24, 25, 13] (by decide +kernel) (by decide +kernel)
set_option maxRecDepth 20000 in
theorem gX0_test_X0_waysToReach : GoodIn wsX0_test (va_wsS RX0 144 yX0_waysToReach wsX0_waysToReach) := goodIn_app (goodIn_of _ (by decide +kernel)) ggX0_test_X0_waysToReach
set_option maxRecDepth 20000 in
theorem ggX0_test_X0_choose : GoodIn wsX0_test wsX0_choose := goodIn_r _ [29] (by decide +kernel) (by decide +kernel)
set_option maxRecDepth 20000 in
theorem gX0_test_X0_choose : GoodIn wsX0_test (va_wsS RX0 134 yX0_choose wsX0_choose) := goodIn_app (goodIn_of _ (by decide +kernel)) ggX0_test_X0_choose
set_option maxRecDepth 20000 in
theorem ggX0_test_X0_keep : GoodIn wsX0_test wsX0_keep := goodIn_r _ [33, 34, 19, 35, 15, 16, 17, 13, 18, 36, 37, 38, 39, 40, 41, 42, 43, 44, 45, 46, 47, 48, 49, 50, 51, 52, 53, 54, 55, 56, 57, 58] (by decide +kernel) (by decide +kernel)
set_option maxRecDepth 20000 in
theorem gX0_test_X0_keep : GoodIn wsX0_test (wsV RX0 38 RX0 yX0_keep wsX0_keep) := goodIn_app (goodIn_of _ (by decide +kernel)) ggX0_test_X0_keep
theorem dX0_test_0 : decode cX0_test 0 = .ok (.iload_n 1, 1) := by decide +kernel
theorem dX0_test_1 : decode cX0_test 1 = .ok (.invokestatic 99, 3) := by decide +kernel
theorem dX0_test_4 : decode cX0_test 4 = .ok (.ifCond .eq 15, 3) := by decide +kernel
theorem dX0_test_7 : decode cX0_test 7 = .ok (.iload_n 2, 1) := by decide +kernel
theorem dX0_test_8 : decode cX0_test 8 = .ok (.invokestatic 99, 3) := by decide +kernel
theorem dX0_test_11 : decode cX0_test 11 = .ok (.ifCond .eq 8, 3) := by decide +kernel
theorem dX0_test_14 : decode cX0_test 14 = .ok (.iload_n 1, 1) := by decide +kernel
theorem dX0_test_15 : decode cX0_test 15 = .ok (.iload_n 2, 1) := by decide +kernel
theorem dX0_test_16 : decode cX0_test 16 = .ok (.if_icmp .ne 5, 3) := by decide +kernel
theorem dX0_test_19 : decode cX0_test 19 = .ok (.iconst (-1), 1) := by decide +kernel
theorem dX0_test_20 : decode cX0_test 20 = .ok (.ireturn, 1) := by decide +kernel
theorem dX0_test_21 : decode cX0_test 21 = .ok (.aload_n 0, 1) := by decide +kernel
theorem dX0_test_22 : decode cX0_test 22 = .ok (.getfield 23, 3) := by decide +kernel
theorem dX0_test_25 : decode cX0_test 25 = .ok (.iload_n 1, 1) := by decide +kernel
theorem dX0_test_26 : decode cX0_test 26 = .ok (.iaload, 1) := by decide +kernel
theorem dX0_test_27 : decode cX0_test 27 = .ok (.ifCond .eq 12, 3) := by decide +kernel
theorem dX0_test_30 : decode cX0_test 30 = .ok (.aload_n 0, 1) := by decide +kernel
theorem dX0_test_31 : decode cX0_test 31 = .ok (.getfield 23, 3) := by decide +kernel
theorem dX0_test_34 : decode cX0_test 34 = .ok (.iload_n 2, 1) := by decide +kernel
theorem dX0_test_35 : decode cX0_test 35 = .ok (.iaload, 1) := by decide +kernel
theorem dX0_test_36 : decode cX0_test 36 = .ok (.ifCond .ne 6, 3) := by decide +kernel
theorem dX0_test_39 : decode cX0_test 39 = .ok (.bipush (-5), 2) := by decide +kernel
theorem dX0_test_41 : decode cX0_test 41 = .ok (.ireturn, 1) := by decide +kernel
theorem dX0_test_42 : decode cX0_test 42 = .ok (.aload_n 0, 1) := by decide +kernel
theorem dX0_test_43 : decode cX0_test 43 = .ok (.invokevirtual 46, 3) := by decide +kernel
theorem dX0_test_46 : decode cX0_test 46 = .ok (.ifCond .eq 6, 3) := by decide +kernel
theorem dX0_test_49 : decode cX0_test 49 = .ok (.bipush (-4), 2) := by decide +kernel
theorem dX0_test_51 : decode cX0_test 51 = .ok (.ireturn, 1) := by decide +kernel
theorem dX0_test_52 : decode cX0_test 52 = .ok (.aload_n 0, 1) := by decide +kernel
theorem dX0_test_53 : decode cX0_test 53 = .ok (.getfield 20, 3) := by decide +kernel
theorem dX0_test_56 : decode cX0_test 56 = .ok (.iload_n 1, 1) := by decide +kernel
theorem dX0_test_57 : decode cX0_test 57 = .ok (.aaload, 1) := by decide +kernel
theorem dX0_test_58 : decode cX0_test 58 = .ok (.iconst 0, 1) := by decide +kernel
theorem dX0_test_59 : decode cX0_test 59 = .ok (.aload_n 0, 1) := by decide +kernel
theorem dX0_test_60 : decode cX0_test 60 = .ok (.getfield 33, 3) := by decide +kernel
theorem dX0_test_63 : decode cX0_test 63 = .ok (.iconst 0, 1) := by decide +kernel
theorem dX0_test_64 : decode cX0_test 64 = .ok (.aload_n 0, 1) := by decide +kernel
theorem dX0_test_65 : decode cX0_test 65 = .ok (.getfield 23, 3) := by decide +kernel
theorem dX0_test_68 : decode cX0_test 68 = .ok (.iload_n 1, 1) := by decide +kernel
theorem dX0_test_69 : decode cX0_test 69 = .ok (.iaload, 1) := by decide +kernel
theorem dX0_test_70 : decode cX0_test 70 = .ok (.invokestatic 138, 3) := by decide +kernel
theorem dX0_test_73 : decode cX0_test 73 = .ok (.aload_n 0, 1) := by decide +kernel
theorem dX0_test_74 : decode cX0_test 74 = .ok (.getfield 20, 3) := by decide +kernel
theorem dX0_test_77 : decode cX0_test 77 = .ok (.iload_n 2, 1) := by decide +kernel
theorem dX0_test_78 : decode cX0_test 78 = .ok (.aaload, 1) := by decide +kernel
theorem dX0_test_79 : decode cX0_test 79 = .ok (.iconst 0, 1) := by decide +kernel
theorem dX0_test_80 : decode cX0_test 80 = .ok (.aload_n 0, 1) := by decide +kernel
theorem dX0_test_81 : decode cX0_test 81 = .ok (.getfield 33, 3) := by decide +kernel
theorem dX0_test_84 : decode cX0_test 84 = .ok (.aload_n 0, 1) := by decide +kernel
theorem dX0_test_85 : decode cX0_test 85 = .ok (.getfield 23, 3) := by decide +kernel
theorem dX0_test_88 : decode cX0_test 88 = .ok (.iload_n 1, 1) := by decide +kernel
theorem dX0_test_89 : decode cX0_test 89 = .ok (.iaload, 1) := by decide +kernel
theorem dX0_test_90 : decode cX0_test 90 = .ok (.aload_n 0, 1) := by decide +kernel
theorem dX0_test_91 : decode cX0_test 91 = .ok (.getfield 23, 3) := by decide +kernel
theorem dX0_test_94 : decode cX0_test 94 = .ok (.iload_n 2, 1) := by decide +kernel
theorem dX0_test_95 : decode cX0_test 95 = .ok (.iaload, 1) := by decide +kernel
theorem dX0_test_96 : decode cX0_test 96 = .ok (.invokestatic 138, 3) := by decide +kernel
theorem dX0_test_99 : decode cX0_test 99 = .ok (.aload_n 0, 1) := by decide +kernel
theorem dX0_test_100 : decode cX0_test 100 = .ok (.getfield 23, 3) := by decide +kernel
theorem dX0_test_103 : decode cX0_test 103 = .ok (.iload_n 1, 1) := by decide +kernel
theorem dX0_test_104 : decode cX0_test 104 = .ok (.iaload, 1) := by decide +kernel
theorem dX0_test_105 : decode cX0_test 105 = .ok (.aload_n 0, 1) := by decide +kernel
theorem dX0_test_106 : decode cX0_test 106 = .ok (.getfield 23, 3) := by decide +kernel
theorem dX0_test_109 : decode cX0_test 109 = .ok (.iload_n 2, 1) := by decide +kernel
theorem dX0_test_110 : decode cX0_test 110 = .ok (.iaload, 1) := by decide +kernel
theorem dX0_test_111 : decode cX0_test 111 = .ok (.iadd, 1) := by decide +kernel
theorem dX0_test_112 : decode cX0_test 112 = .ok (.istore_n 3, 1) := by decide +kernel
theorem dX0_test_113 : decode cX0_test 113 = .ok (.aload_n 0, 1) := by decide +kernel
theorem dX0_test_114 : decode cX0_test 114 = .ok (.iload_n 1, 1) := by decide +kernel
theorem dX0_test_115 : decode cX0_test 115 = .ok (.invokevirtual 110, 3) := by decide +kernel
theorem dX0_test_118 : decode cX0_test 118 = .ok (.lstore 4, 2) := by decide +kernel
theorem dX0_test_120 : decode cX0_test 120 = .ok (.aload_n 0, 1) := by decide +kernel
theorem dX0_test_121 : decode cX0_test 121 = .ok (.lload 4, 2) := by decide +kernel
theorem dX0_test_123 : decode cX0_test 123 = .ok (.aload_n 0, 1) := by decide +kernel
theorem dX0_test_124 : decode cX0_test 124 = .ok (.getfield 23, 3) := by decide +kernel
theorem dX0_test_127 : decode cX0_test 127 = .ok (.iload_n 1, 1) := by decide +kernel
theorem dX0_test_128 : decode cX0_test 128 = .ok (.iaload, 1) := by decide +kernel
theorem dX0_test_129 : decode cX0_test 129 = .ok (.aload_n 0, 1) := by decide +kernel
theorem dX0_test_130 : decode cX0_test 130 = .ok (.getfield 33, 3) := by decide +kernel
theorem dX0_test_133 : decode cX0_test 133 = .ok (.iconst 0, 1) := by decide +kernel
theorem dX0_test_134 : decode cX0_test 134 = .ok (.iload_n 3, 1) := by decide +kernel
theorem dX0_test_135 : decode cX0_test 135 = .ok (.invokestatic 144, 3) := by decide +kernel
theorem dX0_test_138 : decode cX0_test 138 = .ok (.putfield 148, 3) := by decide +kernel
theorem dX0_test_141 : decode cX0_test 141 = .ok (.aload_n 0, 1) := by decide +kernel
theorem dX0_test_142 : decode cX0_test 142 = .ok (.aload_n 0, 1) := by decide +kernel
theorem dX0_test_143 : decode cX0_test 143 = .ok (.getfield 148, 3) := by decide +kernel
theorem dX0_test_146 : decode cX0_test 146 = .ok (.lload 4, 2) := by decide +kernel
theorem dX0_test_148 : decode cX0_test 148 = .ok (.lconst 1, 1) := by decide +kernel
theorem dX0_test_149 : decode cX0_test 149 = .ok (.ladd, 1) := by decide +kernel
theorem dX0_test_150 : decode cX0_test 150 = .ok (.aload_n 0, 1) := by decide +kernel
theorem dX0_test_151 : decode cX0_test 151 = .ok (.getfield 23, 3) := by decide +kernel
theorem dX0_test_154 : decode cX0_test 154 = .ok (.iload_n 1, 1) := by decide +kernel
theorem dX0_test_155 : decode cX0_test 155 = .ok (.iaload, 1) := by decide +kernel
theorem dX0_test_156 : decode cX0_test 156 = .ok (.aload_n 0, 1) := by decide +kernel
theorem dX0_test_157 : decode cX0_test 157 = .ok (.getfield 33, 3) := by decide +kernel
theorem dX0_test_160 : decode cX0_test 160 = .ok (.iconst 0, 1) := by decide +kernel
theorem dX0_test_161 : decode cX0_test 161 = .ok (.iload_n 3, 1) := by decide +kernel
theorem dX0_test_162 : decode cX0_test 162 = .ok (.invokestatic 144, 3) := by decide +kernel
theorem dX0_test_165 : decode cX0_test 165 = .ok (.isub, 1) := by decide +kernel
theorem dX0_test_166 : decode cX0_test 166 = .ok (.putfield 151, 3) := by decide +kernel
theorem dX0_test_169 : decode cX0_test 169 = .ok (.aload_n 0, 1) := by decide +kernel
theorem dX0_test_170 : decode cX0_test 170 = .ok (.iload_n 3, 1) := by decide +kernel
theorem dX0_test_171 : decode cX0_test 171 = .ok (.aload_n 0, 1) := by decide +kernel
theorem dX0_test_172 : decode cX0_test 172 = .ok (.getfield 23, 3) := by decide +kernel
theorem dX0_test_175 : decode cX0_test 175 = .ok (.iload_n 1, 1) := by decide +kernel
theorem dX0_test_176 : decode cX0_test 176 = .ok (.iaload, 1) := by decide +kernel
theorem dX0_test_177 : decode cX0_test 177 = .ok (.invokestatic 134, 3) := by decide +kernel
theorem dX0_test_180 : decode cX0_test 180 = .ok (.l2i, 1) := by decide +kernel
theorem dX0_test_181 : decode cX0_test 181 = .ok (.putfield 154, 3) := by decide +kernel
theorem dX0_test_184 : decode cX0_test 184 = .ok (.aload_n 0, 1) := by decide +kernel
theorem dX0_test_185 : decode cX0_test 185 = .ok (.aload_n 0, 1) := by decide +kernel
theorem dX0_test_186 : decode cX0_test 186 = .ok (.getfield 148, 3) := by decide +kernel
theorem dX0_test_189 : decode cX0_test 189 = .ok (.i2l, 1) := by decide +kernel
theorem dX0_test_190 : decode cX0_test 190 = .ok (.aload_n 0, 1) := by decide +kernel
theorem dX0_test_191 : decode cX0_test 191 = .ok (.getfield 154, 3) := by decide +kernel
theorem dX0_test_194 : decode cX0_test 194 = .ok (.i2l, 1) := by decide +kernel
theorem dX0_test_195 : decode cX0_test 195 = .ok (.invokevirtual 38, 3) := by decide +kernel
theorem dX0_test_198 : decode cX0_test 198 = .ok (.ireturn, 1) := by decide +kernel
theorem dX0_ways_0 : decode cX0_ways 0 = .ok (.aload_n 0, 1) := by decide +kernel
theorem dX0_ways_1 : decode cX0_ways 1 = .ok (.getfield 154, 3) := by decide +kernel
theorem dX0_ways_4 : decode cX0_ways 4 = .ok (.ifCond .ne 6, 3) := by decide +kernel
theorem dX0_ways_7 : decode cX0_ways 7 = .ok (.bipush (-5), 2) := by decide +kernel
theorem dX0_ways_9 : decode cX0_ways 9 = .ok (.ireturn, 1) := by decide +kernel
theorem dX0_ways_10 : decode cX0_ways 10 = .ok (.iload_n 1, 1) := by decide +kernel
theorem dX0_ways_11 : decode cX0_ways 11 = .ok (.tableswitch 40 0 2 #[25, 30, 35], 25) := by decide +kernel
theorem dX0_ways_36 : decode cX0_ways 36 = .ok (.aload_n 0, 1) := by decide +kernel
theorem dX0_ways_37 : decode cX0_ways 37 = .ok (.getfield 148, 3) := by decide +kernel
theorem dX0_ways_40 : decode cX0_ways 40 = .ok (.ireturn, 1) := by decide +kernel
theorem dX0_ways_41 : decode cX0_ways 41 = .ok (.aload_n 0, 1) := by decide +kernel
theorem dX0_ways_42 : decode cX0_ways 42 = .ok (.getfield 154, 3) := by decide +kernel
theorem dX0_ways_45 : decode cX0_ways 45 = .ok (.ireturn, 1) := by decide +kernel
theorem dX0_ways_46 : decode cX0_ways 46 = .ok (.aload_n 0, 1) := by decide +kernel
theorem dX0_ways_47 : decode cX0_ways 47 = .ok (.getfield 151, 3) := by decide +kernel
theorem dX0_ways_50 : decode cX0_ways 50 = .ok (.ireturn, 1) := by decide +kernel
theorem dX0_ways_51 : decode cX0_ways 51 = .ok (.iconst (-1), 1) := by decide +kernel
theorem dX0_ways_52 : decode cX0_ways 52 = .ok (.ireturn, 1) := by decide +kernel
theorem dX0_count_0 : decode cX0_count 0 = .ok (.iload_n 1, 1) := by decide +kernel
theorem dX0_count_1 : decode cX0_count 1 = .ok (.ifCond .ne 8, 3) := by decide +kernel
theorem dX0_count_4 : decode cX0_count 4 = .ok (.aload_n 0, 1) := by decide +kernel
theorem dX0_count_5 : decode cX0_count 5 = .ok (.getfield 68, 3) := by decide +kernel
theorem dX0_count_8 : decode cX0_count 8 = .ok (.ireturn, 1) := by decide +kernel
theorem dX0_count_9 : decode cX0_count 9 = .ok (.iload_n 1, 1) := by decide +kernel
theorem dX0_count_10 : decode cX0_count 10 = .ok (.iconst 5, 1) := by decide +kernel
theorem dX0_count_11 : decode cX0_count 11 = .ok (.if_icmp .ne 8, 3) := by decide +kernel
theorem dX0_count_14 : decode cX0_count 14 = .ok (.aload_n 0, 1) := by decide +kernel
theorem dX0_count_15 : decode cX0_count 15 = .ok (.getfield 157, 3) := by decide +kernel
theorem dX0_count_18 : decode cX0_count 18 = .ok (.ireturn, 1) := by decide +kernel
theorem dX0_count_19 : decode cX0_count 19 = .ok (.iload_n 1, 1) := by decide +kernel
theorem dX0_count_20 : decode cX0_count 20 = .ok (.iconst 1, 1) := by decide +kernel
theorem dX0_count_21 : decode cX0_count 21 = .ok (.if_icmp .lt 8, 3) := by decide +kernel
theorem dX0_count_24 : decode cX0_count 24 = .ok (.iload_n 1, 1) := by decide +kernel
theorem dX0_count_25 : decode cX0_count 25 = .ok (.iconst 4, 1) := by decide +kernel
theorem dX0_count_26 : decode cX0_count 26 = .ok (.if_icmp .le 7, 3) := by decide +kernel
theorem dX0_count_29 : decode cX0_count 29 = .ok (.iconst (-1), 1) := by decide +kernel
theorem dX0_count_30 : decode cX0_count 30 = .ok (.goto 11, 3) := by decide +kernel
theorem dX0_count_33 : decode cX0_count 33 = .ok (.aload_n 0, 1) := by decide +kernel
theorem dX0_count_34 : decode cX0_count 34 = .ok (.getfield 23, 3) := by decide +kernel
theorem dX0_count_37 : decode cX0_count 37 = .ok (.iload_n 1, 1) := by decide +kernel
theorem dX0_count_38 : decode cX0_count 38 = .ok (.iconst 1, 1) := by decide +kernel
theorem dX0_count_39 : decode cX0_count 39 = .ok (.isub, 1) := by decide +kernel
theorem dX0_count_40 : decode cX0_count 40 = .ok (.iaload, 1) := by decide +kernel
theorem dX0_count_41 : decode cX0_count 41 = .ok (.ireturn, 1) := by decide +kernel
theorem dX0_isNumber_0 : decode cX0_isNumber 0 = .ok (.iload_n 1, 1) := by decide +kernel
theorem dX0_isNumber_1 : decode cX0_isNumber 1 = .ok (.ifCond .lt 15, 3) := by decide +kernel
theorem dX0_isNumber_4 : decode cX0_isNumber 4 = .ok (.iload_n 1, 1) := by decide +kernel
theorem dX0_isNumber_5 : decode cX0_isNumber 5 = .ok (.aload_n 0, 1) := by decide +kernel
theorem dX0_isNumber_6 : decode cX0_isNumber 6 = .ok (.getfield 68, 3) := by decide +kernel
theorem dX0_isNumber_9 : decode cX0_isNumber 9 = .ok (.if_icmp .ge 7, 3) := by decide +kernel
theorem dX0_isNumber_12 : decode cX0_isNumber 12 = .ok (.iconst 1, 1) := by decide +kernel
theorem dX0_isNumber_13 : decode cX0_isNumber 13 = .ok (.goto 4, 3) := by decide +kernel
theorem dX0_isNumber_16 : decode cX0_isNumber 16 = .ok (.iconst 0, 1) := by decide +kernel
theorem dX0_isNumber_17 : decode cX0_isNumber 17 = .ok (.ireturn, 1) := by decide +kernel
theorem dX0_isFull_0 : decode cX0_isFull 0 = .ok (.aload_n 0, 1) := by decide +kernel
theorem dX0_isFull_1 : decode cX0_isFull 1 = .ok (.getfield 68, 3) := by decide +kernel
theorem dX0_isFull_4 : decode cX0_isFull 4 = .ok (.bipush 40, 2) := by decide +kernel
theorem dX0_isFull_6 : decode cX0_isFull 6 = .ok (.if_icmp .lt 7, 3) := by decide +kernel
theorem dX0_isFull_9 : decode cX0_isFull 9 = .ok (.iconst 1, 1) := by decide +kernel
theorem dX0_isFull_10 : decode cX0_isFull 10 = .ok (.goto 4, 3) := by decide +kernel
theorem dX0_isFull_13 : decode cX0_isFull 13 = .ok (.iconst 0, 1) := by decide +kernel
theorem dX0_isFull_14 : decode cX0_isFull 14 = .ok (.ireturn, 1) := by decide +kernel
set_option maxRecDepth 20000 in
theorem ggX0_keep_X0_isFull : GoodIn wsX0_keep wsX0_isFull := goodIn_r _ [8, 2, 19, 20, 21, 22, 23, 24, 25, 26, 27, 28, 29, 30, 31] (by decide +kernel) (by decide +kernel)
set_option maxRecDepth 20000 in
theorem gX0_keep_X0_isFull : GoodIn wsX0_keep (wsV RX0 46 RX0 yX0_isFull wsX0_isFull) := goodIn_app (goodIn_of _ (by decide +kernel)) ggX0_keep_X0_isFull
set_option maxRecDepth 20000 in
theorem ggX0_keep_X0_greatestDivisor : GoodIn wsX0_keep wsX0_greatestDivisor := goodIn_r _ [11, 12, 13, 14, 15, 16, 17, 18] (by decide +kernel) (by decide +kernel)
set_option maxRecDepth 20000 in
theorem gX0_keep_X0_greatestDivisor : GoodIn wsX0_keep (va_wsS RX0 160 yX0_greatestDivisor wsX0_greatestDivisor) := goodIn_app (goodIn_of _ (by decide +kernel)) ggX0_keep_X0_greatestDivisor
theorem dX0_keep_0 : decode cX0_keep 0 = .ok (.aload_n 0, 1) := by decide +kernel
theorem dX0_keep_1 : decode cX0_keep 1 = .ok (.invokevirtual 46, 3) := by decide +kernel
theorem dX0_keep_4 : decode cX0_keep 4 = .ok (.ifCond .eq 6, 3) := by decide +kernel
theorem dX0_keep_7 : decode cX0_keep 7 = .ok (.bipush (-4), 2) := by decide +kernel
theorem dX0_keep_9 : decode cX0_keep 9 = .ok (.ireturn, 1) := by decide +kernel
theorem dX0_keep_10 : decode cX0_keep 10 = .ok (.lload_n 1, 1) := by decide +kernel
theorem dX0_keep_11 : decode cX0_keep 11 = .ok (.lload_n 3, 1) := by decide +kernel
theorem dX0_keep_12 : decode cX0_keep 12 = .ok (.invokestatic 160, 3) := by decide +kernel
theorem dX0_keep_15 : decode cX0_keep 15 = .ok (.lstore 5, 2) := by decide +kernel
theorem dX0_keep_17 : decode cX0_keep 17 = .ok (.aload_n 0, 1) := by decide +kernel
theorem dX0_keep_18 : decode cX0_keep 18 = .ok (.getfield 11, 3) := by decide +kernel
theorem dX0_keep_21 : decode cX0_keep 21 = .ok (.aload_n 0, 1) := by decide +kernel
theorem dX0_keep_22 : decode cX0_keep 22 = .ok (.getfield 68, 3) := by decide +kernel
theorem dX0_keep_25 : decode cX0_keep 25 = .ok (.lload_n 1, 1) := by decide +kernel
theorem dX0_keep_26 : decode cX0_keep 26 = .ok (.lload 5, 2) := by decide +kernel
theorem dX0_keep_28 : decode cX0_keep 28 = .ok (.ldiv, 1) := by decide +kernel
theorem dX0_keep_29 : decode cX0_keep 29 = .ok (.lastore, 1) := by decide +kernel
theorem dX0_keep_30 : decode cX0_keep 30 = .ok (.aload_n 0, 1) := by decide +kernel
theorem dX0_keep_31 : decode cX0_keep 31 = .ok (.getfield 15, 3) := by decide +kernel
theorem dX0_keep_34 : decode cX0_keep 34 = .ok (.aload_n 0, 1) := by decide +kernel
theorem dX0_keep_35 : decode cX0_keep 35 = .ok (.getfield 68, 3) := by decide +kernel
theorem dX0_keep_38 : decode cX0_keep 38 = .ok (.lload_n 3, 1) := by decide +kernel
theorem dX0_keep_39 : decode cX0_keep 39 = .ok (.lload 5, 2) := by decide +kernel
theorem dX0_keep_41 : decode cX0_keep 41 = .ok (.ldiv, 1) := by decide +kernel
theorem dX0_keep_42 : decode cX0_keep 42 = .ok (.lastore, 1) := by decide +kernel
theorem dX0_keep_43 : decode cX0_keep 43 = .ok (.aload_n 0, 1) := by decide +kernel
theorem dX0_keep_44 : decode cX0_keep 44 = .ok (.dup, 1) := by decide +kernel
theorem dX0_keep_45 : decode cX0_keep 45 = .ok (.getfield 68, 3) := by decide +kernel
theorem dX0_keep_48 : decode cX0_keep 48 = .ok (.iconst 1, 1) := by decide +kernel
theorem dX0_keep_49 : decode cX0_keep 49 = .ok (.iadd, 1) := by decide +kernel
theorem dX0_keep_50 : decode cX0_keep 50 = .ok (.putfield 68, 3) := by decide +kernel
theorem dX0_keep_53 : decode cX0_keep 53 = .ok (.aload_n 0, 1) := by decide +kernel
theorem dX0_keep_54 : decode cX0_keep 54 = .ok (.getfield 68, 3) := by decide +kernel
theorem dX0_keep_57 : decode cX0_keep 57 = .ok (.iconst 1, 1) := by decide +kernel
theorem dX0_keep_58 : decode cX0_keep 58 = .ok (.isub, 1) := by decide +kernel
theorem dX0_keep_59 : decode cX0_keep 59 = .ok (.ireturn, 1) := by decide +kernel
set_option maxRecDepth 20000 in
theorem ggX0_keepUnlessWide_X0_keep : GoodIn wsX0_keepUnlessWide wsX0_keep := goodIn_r _ [7, 8, 9, 10, 11, 12, 13, 6, 14, 15, 16, 17, 18, 19, 20, 21, 22, 23, 24, 25, 26, 27, 28, 29, 30, 31, 32, 33, 34, 35, 36, 37] (by decide +kernel) (by decide +kernel)
set_option maxRecDepth 20000 in
theorem gX0_keepUnlessWide_X0_keep : GoodIn wsX0_keepUnlessWide (wsV RX0 38 RX0 yX0_keep wsX0_keep) := goodIn_app (goodIn_of _ (by decide +kernel)) ggX0_keepUnlessWide_X0_keep
theorem dX0_keepUnlessWide_0 : decode cX0_keepUnlessWide 0 = .ok (.lload_n 1, 1) := by decide +kernel
theorem dX0_keepUnlessWide_1 : decode cX0_keepUnlessWide 1 = .ok (.ldc2_w 36, 3) := by decide +kernel
theorem dX0_keepUnlessWide_4 : decode cX0_keepUnlessWide 4 = .ok (.lcmp, 1) := by decide +kernel
theorem dX0_keepUnlessWide_5 : decode cX0_keepUnlessWide 5 = .ok (.ifCond .eq 11, 3) := by decide +kernel
theorem dX0_keepUnlessWide_8 : decode cX0_keepUnlessWide 8 = .ok (.lload_n 3, 1) := by decide +kernel
theorem dX0_keepUnlessWide_9 : decode cX0_keepUnlessWide 9 = .ok (.ldc2_w 36, 3) := by decide +kernel
theorem dX0_keepUnlessWide_12 : decode cX0_keepUnlessWide 12 = .ok (.lcmp, 1) := by decide +kernel
theorem dX0_keepUnlessWide_13 : decode cX0_keepUnlessWide 13 = .ok (.ifCond .ne 16, 3) := by decide +kernel
theorem dX0_keepUnlessWide_16 : decode cX0_keepUnlessWide 16 = .ok (.aload_n 0, 1) := by decide +kernel
theorem dX0_keepUnlessWide_17 : decode cX0_keepUnlessWide 17 = .ok (.dup, 1) := by decide +kernel
theorem dX0_keepUnlessWide_18 : decode cX0_keepUnlessWide 18 = .ok (.getfield 157, 3) := by decide +kernel
theorem dX0_keepUnlessWide_21 : decode cX0_keepUnlessWide 21 = .ok (.iconst 1, 1) := by decide +kernel
theorem dX0_keepUnlessWide_22 : decode cX0_keepUnlessWide 22 = .ok (.iadd, 1) := by decide +kernel
theorem dX0_keepUnlessWide_23 : decode cX0_keepUnlessWide 23 = .ok (.putfield 157, 3) := by decide +kernel
theorem dX0_keepUnlessWide_26 : decode cX0_keepUnlessWide 26 = .ok (.bipush (-3), 2) := by decide +kernel
theorem dX0_keepUnlessWide_28 : decode cX0_keepUnlessWide 28 = .ok (.ireturn, 1) := by decide +kernel
theorem dX0_keepUnlessWide_29 : decode cX0_keepUnlessWide 29 = .ok (.aload_n 0, 1) := by decide +kernel
theorem dX0_keepUnlessWide_30 : decode cX0_keepUnlessWide 30 = .ok (.lload_n 1, 1) := by decide +kernel
theorem dX0_keepUnlessWide_31 : decode cX0_keepUnlessWide 31 = .ok (.lload_n 3, 1) := by decide +kernel
theorem dX0_keepUnlessWide_32 : decode cX0_keepUnlessWide 32 = .ok (.invokevirtual 38, 3) := by decide +kernel
theorem dX0_keepUnlessWide_35 : decode cX0_keepUnlessWide 35 = .ok (.ireturn, 1) := by decide +kernel
set_option maxRecDepth 20000 in
theorem ggX0_keepSum_X0_greatestDivisor : GoodIn wsX0_keepSum wsX0_greatestDivisor := goodIn_r _ [4, 5, 6, 7, 8, 9, 10, 11] (by decide +kernel) (by decide +kernel)
set_option maxRecDepth 20000 in
theorem gX0_keepSum_X0_greatestDivisor : GoodIn wsX0_keepSum (va_wsS RX0 160 yX0_greatestDivisor wsX0_greatestDivisor) := goodIn_app (goodIn_of _ (by decide +kernel)) ggX0_keepSum_X0_greatestDivisor
set_option maxRecDepth 20000 in
theorem ggX0_keepSum_X0_times : GoodIn wsX0_keepSum wsX0_times := goodIn_r _ [14, 15, 5, 6, 7, 8, 16] (by decide +kernel) (by decide +kernel)
set_option maxRecDepth 20000 in
theorem gX0_keepSum_X0_times : GoodIn wsX0_keepSum (va_wsS RX0 90 yX0_times wsX0_times) := goodIn_app (goodIn_of _ (by decide +kernel)) ggX0_keepSum_X0_times
set_option maxRecDepth 20000 in
theorem ggX0_keepSum_X0_plus : GoodIn wsX0_keepSum wsX0_plus := goodIn_r _ [19, 15] (by decide +kernel) (by decide +kernel)
set_option maxRecDepth 20000 in
theorem gX0_keepSum_X0_plus : GoodIn wsX0_keepSum (va_wsS RX0 163 yX0_plus wsX0_plus) := goodIn_app (goodIn_of _ (by decide +kernel)) ggX0_keepSum_X0_plus
set_option maxRecDepth 20000 in
theorem ggX0_keepSum_X0_keepUnlessWide : GoodIn wsX0_keepSum wsX0_keepUnlessWide := goodIn_r _ [23, 15, 24, 25, 26, 27, 3, 28, 29, 30, 31, 32, 33, 34, 35, 1, 2, 4, 5, 6, 7, 8, 9, 10, 11, 36, 37, 38, 39, 40, 41, 42, 43, 44, 45, 46, 47, 48] (by decide +kernel) (by decide +kernel)
set_option maxRecDepth 20000 in
theorem gX0_keepSum_X0_keepUnlessWide : GoodIn wsX0_keepSum (wsV RX0 166 RX0 yX0_keepUnlessWide wsX0_keepUnlessWide) := goodIn_app (goodIn_of _ (by decide +kernel)) ggX0_keepSum_X0_keepUnlessWide
theorem dX0_keepSum_0 : decode cX0_keepSum 0 = .ok (.lload_n 3, 1) := by decide +kernel
theorem dX0_keepSum_1 : decode cX0_keepSum 1 = .ok (.lload 7, 2) := by decide +kernel
theorem dX0_keepSum_3 : decode cX0_keepSum 3 = .ok (.invokestatic 160, 3) := by decide +kernel
theorem dX0_keepSum_6 : decode cX0_keepSum 6 = .ok (.lstore 9, 2) := by decide +kernel
theorem dX0_keepSum_8 : decode cX0_keepSum 8 = .ok (.lload_n 1, 1) := by decide +kernel
theorem dX0_keepSum_9 : decode cX0_keepSum 9 = .ok (.lload 7, 2) := by decide +kernel
theorem dX0_keepSum_11 : decode cX0_keepSum 11 = .ok (.lload 9, 2) := by decide +kernel
theorem dX0_keepSum_13 : decode cX0_keepSum 13 = .ok (.ldiv, 1) := by decide +kernel
theorem dX0_keepSum_14 : decode cX0_keepSum 14 = .ok (.invokestatic 90, 3) := by decide +kernel
theorem dX0_keepSum_17 : decode cX0_keepSum 17 = .ok (.lload 5, 2) := by decide +kernel
theorem dX0_keepSum_19 : decode cX0_keepSum 19 = .ok (.lload_n 3, 1) := by decide +kernel
theorem dX0_keepSum_20 : decode cX0_keepSum 20 = .ok (.lload 9, 2) := by decide +kernel
theorem dX0_keepSum_22 : decode cX0_keepSum 22 = .ok (.ldiv, 1) := by decide +kernel
theorem dX0_keepSum_23 : decode cX0_keepSum 23 = .ok (.invokestatic 90, 3) := by decide +kernel
theorem dX0_keepSum_26 : decode cX0_keepSum 26 = .ok (.invokestatic 163, 3) := by decide +kernel
theorem dX0_keepSum_29 : decode cX0_keepSum 29 = .ok (.lstore 11, 2) := by decide +kernel
theorem dX0_keepSum_31 : decode cX0_keepSum 31 = .ok (.aload_n 0, 1) := by decide +kernel
theorem dX0_keepSum_32 : decode cX0_keepSum 32 = .ok (.lload 11, 2) := by decide +kernel
theorem dX0_keepSum_34 : decode cX0_keepSum 34 = .ok (.lload_n 3, 1) := by decide +kernel
theorem dX0_keepSum_35 : decode cX0_keepSum 35 = .ok (.lload 7, 2) := by decide +kernel
theorem dX0_keepSum_37 : decode cX0_keepSum 37 = .ok (.lload 9, 2) := by decide +kernel
theorem dX0_keepSum_39 : decode cX0_keepSum 39 = .ok (.ldiv, 1) := by decide +kernel
theorem dX0_keepSum_40 : decode cX0_keepSum 40 = .ok (.invokestatic 90, 3) := by decide +kernel
theorem dX0_keepSum_43 : decode cX0_keepSum 43 = .ok (.invokevirtual 166, 3) := by decide +kernel
theorem dX0_keepSum_46 : decode cX0_keepSum 46 = .ok (.ireturn, 1) := by decide +kernel
set_option maxRecDepth 20000 in
theorem ggX0_keepProduct_X0_greatestDivisor : GoodIn wsX0_keepProduct wsX0_greatestDivisor := goodIn_r _ [4, 5, 6, 7, 8, 9, 10, 11] (by decide +kernel) (by decide +kernel)
set_option maxRecDepth 20000 in
theorem gX0_keepProduct_X0_greatestDivisor : GoodIn wsX0_keepProduct (va_wsS RX0 160 yX0_greatestDivisor wsX0_greatestDivisor) := goodIn_app (goodIn_of _ (by decide +kernel)) ggX0_keepProduct_X0_greatestDivisor
set_option maxRecDepth 20000 in
theorem ggX0_keepProduct_X0_times : GoodIn wsX0_keepProduct wsX0_times := goodIn_r _ [14, 15, 5, 6, 7, 8, 16] (by decide +kernel) (by decide +kernel)
set_option maxRecDepth 20000 in
theorem gX0_keepProduct_X0_times : GoodIn wsX0_keepProduct (va_wsS RX0 90 yX0_times wsX0_times) := goodIn_app (goodIn_of _ (by decide +kernel)) ggX0_keepProduct_X0_times
set_option maxRecDepth 20000 in
theorem ggX0_keepProduct_X0_keepUnlessWide : GoodIn wsX0_keepProduct wsX0_keepUnlessWide := goodIn_r _ [20, 15, 21, 22, 23, 24, 3, 25, 26, 27, 28, 29, 30, 31, 32, 1, 2, 4, 5, 6, 7, 8, 9, 10, 11, 33, 34, 35, 36, 37, 38, 39, 40, 41, 42, 43, 44, 45] (by decide +kernel) (by decide +kernel)
set_option maxRecDepth 20000 in
theorem gX0_keepProduct_X0_keepUnlessWide : GoodIn wsX0_keepProduct (wsV RX0 166 RX0 yX0_keepUnlessWide wsX0_keepUnlessWide) := goodIn_app (goodIn_of _ (by decide +kernel)) ggX0_keepProduct_X0_keepUnlessWide
theorem dX0_keepProduct_0 : decode cX0_keepProduct 0 = .ok (.lload_n 1, 1) := by decide +kernel
theorem dX0_keepProduct_1 : decode cX0_keepProduct 1 = .ok (.lload 7, 2) := by decide +kernel
theorem dX0_keepProduct_3 : decode cX0_keepProduct 3 = .ok (.invokestatic 160, 3) := by decide +kernel
theorem dX0_keepProduct_6 : decode cX0_keepProduct 6 = .ok (.lstore 9, 2) := by decide +kernel
theorem dX0_keepProduct_8 : decode cX0_keepProduct 8 = .ok (.lload 5, 2) := by decide +kernel
theorem dX0_keepProduct_10 : decode cX0_keepProduct 10 = .ok (.lload_n 3, 1) := by decide +kernel
theorem dX0_keepProduct_11 : decode cX0_keepProduct 11 = .ok (.invokestatic 160, 3) := by decide +kernel
theorem dX0_keepProduct_14 : decode cX0_keepProduct 14 = .ok (.lstore 11, 2) := by decide +kernel
theorem dX0_keepProduct_16 : decode cX0_keepProduct 16 = .ok (.aload_n 0, 1) := by decide +kernel
theorem dX0_keepProduct_17 : decode cX0_keepProduct 17 = .ok (.lload_n 1, 1) := by decide +kernel
theorem dX0_keepProduct_18 : decode cX0_keepProduct 18 = .ok (.lload 9, 2) := by decide +kernel
theorem dX0_keepProduct_20 : decode cX0_keepProduct 20 = .ok (.ldiv, 1) := by decide +kernel
theorem dX0_keepProduct_21 : decode cX0_keepProduct 21 = .ok (.lload 5, 2) := by decide +kernel
theorem dX0_keepProduct_23 : decode cX0_keepProduct 23 = .ok (.lload 11, 2) := by decide +kernel
theorem dX0_keepProduct_25 : decode cX0_keepProduct 25 = .ok (.ldiv, 1) := by decide +kernel
theorem dX0_keepProduct_26 : decode cX0_keepProduct 26 = .ok (.invokestatic 90, 3) := by decide +kernel
theorem dX0_keepProduct_29 : decode cX0_keepProduct 29 = .ok (.lload_n 3, 1) := by decide +kernel
theorem dX0_keepProduct_30 : decode cX0_keepProduct 30 = .ok (.lload 11, 2) := by decide +kernel
theorem dX0_keepProduct_32 : decode cX0_keepProduct 32 = .ok (.ldiv, 1) := by decide +kernel
theorem dX0_keepProduct_33 : decode cX0_keepProduct 33 = .ok (.lload 7, 2) := by decide +kernel
theorem dX0_keepProduct_35 : decode cX0_keepProduct 35 = .ok (.lload 9, 2) := by decide +kernel
theorem dX0_keepProduct_37 : decode cX0_keepProduct 37 = .ok (.ldiv, 1) := by decide +kernel
theorem dX0_keepProduct_38 : decode cX0_keepProduct 38 = .ok (.invokestatic 90, 3) := by decide +kernel
theorem dX0_keepProduct_41 : decode cX0_keepProduct 41 = .ok (.invokevirtual 166, 3) := by decide +kernel
theorem dX0_keepProduct_44 : decode cX0_keepProduct 44 = .ok (.ireturn, 1) := by decide +kernel
set_option maxRecDepth 20000 in
theorem ggX0_keepQuotient_X0_keepProduct : GoodIn wsX0_keepQuotient wsX0_keepProduct := goodIn_r _ [7, 8, 9, 6, 10, 11, 12, 13, 14, 15, 16, 17, 18, 19, 20, 21, 22, 23, 24, 25, 26, 27, 28, 29, 30, 31, 1, 32, 2, 33, 34, 35, 36, 37, 38, 39, 40, 41, 42, 43, 44, 45, 46, 47, 48, 49] (by decide +kernel) (by decide +kernel)
set_option maxRecDepth 20000 in
theorem gX0_keepQuotient_X0_keepProduct : GoodIn wsX0_keepQuotient (wsV RX0 54 RX0 yX0_keepProduct wsX0_keepProduct) := goodIn_app (goodIn_of _ (by decide +kernel)) ggX0_keepQuotient_X0_keepProduct
theorem dX0_keepQuotient_0 : decode cX0_keepQuotient 0 = .ok (.aload_n 0, 1) := by decide +kernel
theorem dX0_keepQuotient_1 : decode cX0_keepQuotient 1 = .ok (.getfield 11, 3) := by decide +kernel
theorem dX0_keepQuotient_4 : decode cX0_keepQuotient 4 = .ok (.iload_n 2, 1) := by decide +kernel
theorem dX0_keepQuotient_5 : decode cX0_keepQuotient 5 = .ok (.laload, 1) := by decide +kernel
theorem dX0_keepQuotient_6 : decode cX0_keepQuotient 6 = .ok (.lconst 0, 1) := by decide +kernel
theorem dX0_keepQuotient_7 : decode cX0_keepQuotient 7 = .ok (.lcmp, 1) := by decide +kernel
theorem dX0_keepQuotient_8 : decode cX0_keepQuotient 8 = .ok (.ifCond .ge 34, 3) := by decide +kernel
theorem dX0_keepQuotient_11 : decode cX0_keepQuotient 11 = .ok (.aload_n 0, 1) := by decide +kernel
theorem dX0_keepQuotient_12 : decode cX0_keepQuotient 12 = .ok (.aload_n 0, 1) := by decide +kernel
theorem dX0_keepQuotient_13 : decode cX0_keepQuotient 13 = .ok (.getfield 11, 3) := by decide +kernel
theorem dX0_keepQuotient_16 : decode cX0_keepQuotient 16 = .ok (.iload_n 1, 1) := by decide +kernel
theorem dX0_keepQuotient_17 : decode cX0_keepQuotient 17 = .ok (.laload, 1) := by decide +kernel
theorem dX0_keepQuotient_18 : decode cX0_keepQuotient 18 = .ok (.aload_n 0, 1) := by decide +kernel
theorem dX0_keepQuotient_19 : decode cX0_keepQuotient 19 = .ok (.getfield 15, 3) := by decide +kernel
theorem dX0_keepQuotient_22 : decode cX0_keepQuotient 22 = .ok (.iload_n 1, 1) := by decide +kernel
theorem dX0_keepQuotient_23 : decode cX0_keepQuotient 23 = .ok (.laload, 1) := by decide +kernel
theorem dX0_keepQuotient_24 : decode cX0_keepQuotient 24 = .ok (.aload_n 0, 1) := by decide +kernel
theorem dX0_keepQuotient_25 : decode cX0_keepQuotient 25 = .ok (.getfield 15, 3) := by decide +kernel
theorem dX0_keepQuotient_28 : decode cX0_keepQuotient 28 = .ok (.iload_n 2, 1) := by decide +kernel
theorem dX0_keepQuotient_29 : decode cX0_keepQuotient 29 = .ok (.laload, 1) := by decide +kernel
theorem dX0_keepQuotient_30 : decode cX0_keepQuotient 30 = .ok (.lneg, 1) := by decide +kernel
theorem dX0_keepQuotient_31 : decode cX0_keepQuotient 31 = .ok (.aload_n 0, 1) := by decide +kernel
theorem dX0_keepQuotient_32 : decode cX0_keepQuotient 32 = .ok (.getfield 11, 3) := by decide +kernel
theorem dX0_keepQuotient_35 : decode cX0_keepQuotient 35 = .ok (.iload_n 2, 1) := by decide +kernel
theorem dX0_keepQuotient_36 : decode cX0_keepQuotient 36 = .ok (.laload, 1) := by decide +kernel
theorem dX0_keepQuotient_37 : decode cX0_keepQuotient 37 = .ok (.lneg, 1) := by decide +kernel
theorem dX0_keepQuotient_38 : decode cX0_keepQuotient 38 = .ok (.invokevirtual 54, 3) := by decide +kernel
theorem dX0_keepQuotient_41 : decode cX0_keepQuotient 41 = .ok (.ireturn, 1) := by decide +kernel
theorem dX0_keepQuotient_42 : decode cX0_keepQuotient 42 = .ok (.aload_n 0, 1) := by decide +kernel
theorem dX0_keepQuotient_43 : decode cX0_keepQuotient 43 = .ok (.aload_n 0, 1) := by decide +kernel
theorem dX0_keepQuotient_44 : decode cX0_keepQuotient 44 = .ok (.getfield 11, 3) := by decide +kernel
theorem dX0_keepQuotient_47 : decode cX0_keepQuotient 47 = .ok (.iload_n 1, 1) := by decide +kernel
theorem dX0_keepQuotient_48 : decode cX0_keepQuotient 48 = .ok (.laload, 1) := by decide +kernel
theorem dX0_keepQuotient_49 : decode cX0_keepQuotient 49 = .ok (.aload_n 0, 1) := by decide +kernel
theorem dX0_keepQuotient_50 : decode cX0_keepQuotient 50 = .ok (.getfield 15, 3) := by decide +kernel
theorem dX0_keepQuotient_53 : decode cX0_keepQuotient 53 = .ok (.iload_n 1, 1) := by decide +kernel
theorem dX0_keepQuotient_54 : decode cX0_keepQuotient 54 = .ok (.laload, 1) := by decide +kernel
theorem dX0_keepQuotient_55 : decode cX0_keepQuotient 55 = .ok (.aload_n 0, 1) := by decide +kernel
theorem dX0_keepQuotient_56 : decode cX0_keepQuotient 56 = .ok (.getfield 15, 3) := by decide +kernel
theorem dX0_keepQuotient_59 : decode cX0_keepQuotient 59 = .ok (.iload_n 2, 1) := by decide +kernel
theorem dX0_keepQuotient_60 : decode cX0_keepQuotient 60 = .ok (.laload, 1) := by decide +kernel
theorem dX0_keepQuotient_61 : decode cX0_keepQuotient 61 = .ok (.aload_n 0, 1) := by decide +kernel
theorem dX0_keepQuotient_62 : decode cX0_keepQuotient 62 = .ok (.getfield 11, 3) := by decide +kernel
theorem dX0_keepQuotient_65 : decode cX0_keepQuotient 65 = .ok (.iload_n 2, 1) := by decide +kernel
theorem dX0_keepQuotient_66 : decode cX0_keepQuotient 66 = .ok (.laload, 1) := by decide +kernel
theorem dX0_keepQuotient_67 : decode cX0_keepQuotient 67 = .ok (.invokevirtual 54, 3) := by decide +kernel
theorem dX0_keepQuotient_70 : decode cX0_keepQuotient 70 = .ok (.ireturn, 1) := by decide +kernel
set_option maxRecDepth 20000 in
theorem ggX0_keepSimplest_X0_keep : GoodIn wsX0_keepSimplest wsX0_keep := goodIn_r _ [5, 6, 7, 8, 9, 10, 11, 4, 12, 13, 14, 15, 16, 17, 18, 19, 20, 21, 22, 23, 24, 25, 26, 27, 28, 29, 30, 31, 32, 33, 34, 35] (by decide +kernel) (by decide +kernel)
set_option maxRecDepth 20000 in
theorem gX0_keepSimplest_X0_keep : GoodIn wsX0_keepSimplest (wsV RX0 38 RX0 yX0_keep wsX0_keep) := goodIn_app (goodIn_of _ (by decide +kernel)) ggX0_keepSimplest_X0_keep
theorem dX0_keepSimplest_0 : decode cX0_keepSimplest 0 = .ok (.lconst 0, 1) := by decide +kernel
theorem dX0_keepSimplest_1 : decode cX0_keepSimplest 1 = .ok (.lstore 10, 2) := by decide +kernel
theorem dX0_keepSimplest_3 : decode cX0_keepSimplest 3 = .ok (.lconst 1, 1) := by decide +kernel
theorem dX0_keepSimplest_4 : decode cX0_keepSimplest 4 = .ok (.lstore 12, 2) := by decide +kernel
theorem dX0_keepSimplest_6 : decode cX0_keepSimplest 6 = .ok (.lconst 1, 1) := by decide +kernel
theorem dX0_keepSimplest_7 : decode cX0_keepSimplest 7 = .ok (.lstore 14, 2) := by decide +kernel
theorem dX0_keepSimplest_9 : decode cX0_keepSimplest 9 = .ok (.lconst 0, 1) := by decide +kernel
theorem dX0_keepSimplest_10 : decode cX0_keepSimplest 10 = .ok (.lstore 16, 2) := by decide +kernel
theorem dX0_keepSimplest_12 : decode cX0_keepSimplest 12 = .ok (.iconst 0, 1) := by decide +kernel
theorem dX0_keepSimplest_13 : decode cX0_keepSimplest 13 = .ok (.istore 18, 2) := by decide +kernel
theorem dX0_keepSimplest_15 : decode cX0_keepSimplest 15 = .ok (.iconst 0, 1) := by decide +kernel
theorem dX0_keepSimplest_16 : decode cX0_keepSimplest 16 = .ok (.istore 19, 2) := by decide +kernel
theorem dX0_keepSimplest_18 : decode cX0_keepSimplest 18 = .ok (.iload 19, 2) := by decide +kernel
theorem dX0_keepSimplest_20 : decode cX0_keepSimplest 20 = .ok (.sipush 200, 3) := by decide +kernel
theorem dX0_keepSimplest_23 : decode cX0_keepSimplest 23 = .ok (.if_icmp .ge 141, 3) := by decide +kernel
theorem dX0_keepSimplest_26 : decode cX0_keepSimplest 26 = .ok (.iload 18, 2) := by decide +kernel
theorem dX0_keepSimplest_28 : decode cX0_keepSimplest 28 = .ok (.ifCond .ne 136, 3) := by decide +kernel
theorem dX0_keepSimplest_31 : decode cX0_keepSimplest 31 = .ok (.lload_n 3, 1) := by decide +kernel
theorem dX0_keepSimplest_32 : decode cX0_keepSimplest 32 = .ok (.lconst 0, 1) := by decide +kernel
theorem dX0_keepSimplest_33 : decode cX0_keepSimplest 33 = .ok (.lcmp, 1) := by decide +kernel
theorem dX0_keepSimplest_34 : decode cX0_keepSimplest 34 = .ok (.ifCond .le 130, 3) := by decide +kernel
theorem dX0_keepSimplest_37 : decode cX0_keepSimplest 37 = .ok (.lload 7, 2) := by decide +kernel
theorem dX0_keepSimplest_39 : decode cX0_keepSimplest 39 = .ok (.lconst 0, 1) := by decide +kernel
theorem dX0_keepSimplest_40 : decode cX0_keepSimplest 40 = .ok (.lcmp, 1) := by decide +kernel
theorem dX0_keepSimplest_41 : decode cX0_keepSimplest 41 = .ok (.ifCond .le 123, 3) := by decide +kernel
theorem dX0_keepSimplest_44 : decode cX0_keepSimplest 44 = .ok (.lload_n 1, 1) := by decide +kernel
theorem dX0_keepSimplest_45 : decode cX0_keepSimplest 45 = .ok (.lload_n 3, 1) := by decide +kernel
theorem dX0_keepSimplest_46 : decode cX0_keepSimplest 46 = .ok (.ldiv, 1) := by decide +kernel
theorem dX0_keepSimplest_47 : decode cX0_keepSimplest 47 = .ok (.lstore 20, 2) := by decide +kernel
theorem dX0_keepSimplest_49 : decode cX0_keepSimplest 49 = .ok (.lload_n 1, 1) := by decide +kernel
theorem dX0_keepSimplest_50 : decode cX0_keepSimplest 50 = .ok (.lload_n 3, 1) := by decide +kernel
theorem dX0_keepSimplest_51 : decode cX0_keepSimplest 51 = .ok (.lrem, 1) := by decide +kernel
theorem dX0_keepSimplest_52 : decode cX0_keepSimplest 52 = .ok (.lstore 22, 2) := by decide +kernel
theorem dX0_keepSimplest_54 : decode cX0_keepSimplest 54 = .ok (.lload 5, 2) := by decide +kernel
theorem dX0_keepSimplest_56 : decode cX0_keepSimplest 56 = .ok (.lload 20, 2) := by decide +kernel
theorem dX0_keepSimplest_58 : decode cX0_keepSimplest 58 = .ok (.lload 7, 2) := by decide +kernel
theorem dX0_keepSimplest_60 : decode cX0_keepSimplest 60 = .ok (.lmul, 1) := by decide +kernel
theorem dX0_keepSimplest_61 : decode cX0_keepSimplest 61 = .ok (.lsub, 1) := by decide +kernel
theorem dX0_keepSimplest_62 : decode cX0_keepSimplest 62 = .ok (.lstore 24, 2) := by decide +kernel
theorem dX0_keepSimplest_64 : decode cX0_keepSimplest 64 = .ok (.lload 22, 2) := by decide +kernel
theorem dX0_keepSimplest_66 : decode cX0_keepSimplest 66 = .ok (.lconst 0, 1) := by decide +kernel
theorem dX0_keepSimplest_67 : decode cX0_keepSimplest 67 = .ok (.lcmp, 1) := by decide +kernel
theorem dX0_keepSimplest_68 : decode cX0_keepSimplest 68 = .ok (.ifCond .eq 11, 3) := by decide +kernel
theorem dX0_keepSimplest_71 : decode cX0_keepSimplest 71 = .ok (.lload 24, 2) := by decide +kernel
theorem dX0_keepSimplest_73 : decode cX0_keepSimplest 73 = .ok (.lload 7, 2) := by decide +kernel
theorem dX0_keepSimplest_75 : decode cX0_keepSimplest 75 = .ok (.lcmp, 1) := by decide +kernel
theorem dX0_keepSimplest_76 : decode cX0_keepSimplest 76 = .ok (.ifCond .lt 7, 3) := by decide +kernel
theorem dX0_keepSimplest_79 : decode cX0_keepSimplest 79 = .ok (.iconst 1, 1) := by decide +kernel
theorem dX0_keepSimplest_80 : decode cX0_keepSimplest 80 = .ok (.goto 4, 3) := by decide +kernel
theorem dX0_keepSimplest_83 : decode cX0_keepSimplest 83 = .ok (.iconst 0, 1) := by decide +kernel
theorem dX0_keepSimplest_84 : decode cX0_keepSimplest 84 = .ok (.istore 18, 2) := by decide +kernel
theorem dX0_keepSimplest_86 : decode cX0_keepSimplest 86 = .ok (.lload 22, 2) := by decide +kernel
theorem dX0_keepSimplest_88 : decode cX0_keepSimplest 88 = .ok (.lconst 0, 1) := by decide +kernel
theorem dX0_keepSimplest_89 : decode cX0_keepSimplest 89 = .ok (.lcmp, 1) := by decide +kernel
theorem dX0_keepSimplest_90 : decode cX0_keepSimplest 90 = .ok (.ifCond .eq 8, 3) := by decide +kernel
theorem dX0_keepSimplest_93 : decode cX0_keepSimplest 93 = .ok (.iload 18, 2) := by decide +kernel
theorem dX0_keepSimplest_95 : decode cX0_keepSimplest 95 = .ok (.ifCond .ne 8, 3) := by decide +kernel
theorem dX0_keepSimplest_98 : decode cX0_keepSimplest 98 = .ok (.lload 20, 2) := by decide +kernel
theorem dX0_keepSimplest_100 : decode cX0_keepSimplest 100 = .ok (.goto 7, 3) := by decide +kernel
theorem dX0_keepSimplest_103 : decode cX0_keepSimplest 103 = .ok (.lload 20, 2) := by decide +kernel
theorem dX0_keepSimplest_105 : decode cX0_keepSimplest 105 = .ok (.lconst 1, 1) := by decide +kernel
theorem dX0_keepSimplest_106 : decode cX0_keepSimplest 106 = .ok (.ladd, 1) := by decide +kernel
theorem dX0_keepSimplest_107 : decode cX0_keepSimplest 107 = .ok (.lstore 26, 2) := by decide +kernel
theorem dX0_keepSimplest_109 : decode cX0_keepSimplest 109 = .ok (.lload 26, 2) := by decide +kernel
theorem dX0_keepSimplest_111 : decode cX0_keepSimplest 111 = .ok (.lload 14, 2) := by decide +kernel
theorem dX0_keepSimplest_113 : decode cX0_keepSimplest 113 = .ok (.lmul, 1) := by decide +kernel
theorem dX0_keepSimplest_114 : decode cX0_keepSimplest 114 = .ok (.lload 10, 2) := by decide +kernel
theorem dX0_keepSimplest_116 : decode cX0_keepSimplest 116 = .ok (.ladd, 1) := by decide +kernel
theorem dX0_keepSimplest_117 : decode cX0_keepSimplest 117 = .ok (.lstore 28, 2) := by decide +kernel
theorem dX0_keepSimplest_119 : decode cX0_keepSimplest 119 = .ok (.lload 26, 2) := by decide +kernel
theorem dX0_keepSimplest_121 : decode cX0_keepSimplest 121 = .ok (.lload 16, 2) := by decide +kernel
theorem dX0_keepSimplest_123 : decode cX0_keepSimplest 123 = .ok (.lmul, 1) := by decide +kernel
theorem dX0_keepSimplest_124 : decode cX0_keepSimplest 124 = .ok (.lload 12, 2) := by decide +kernel
theorem dX0_keepSimplest_126 : decode cX0_keepSimplest 126 = .ok (.ladd, 1) := by decide +kernel
theorem dX0_keepSimplest_127 : decode cX0_keepSimplest 127 = .ok (.lstore 30, 2) := by decide +kernel
theorem dX0_keepSimplest_129 : decode cX0_keepSimplest 129 = .ok (.lload 14, 2) := by decide +kernel
theorem dX0_keepSimplest_131 : decode cX0_keepSimplest 131 = .ok (.lstore 10, 2) := by decide +kernel
theorem dX0_keepSimplest_133 : decode cX0_keepSimplest 133 = .ok (.lload 16, 2) := by decide +kernel
theorem dX0_keepSimplest_135 : decode cX0_keepSimplest 135 = .ok (.lstore 12, 2) := by decide +kernel
theorem dX0_keepSimplest_137 : decode cX0_keepSimplest 137 = .ok (.lload 28, 2) := by decide +kernel
theorem dX0_keepSimplest_139 : decode cX0_keepSimplest 139 = .ok (.lstore 14, 2) := by decide +kernel
theorem dX0_keepSimplest_141 : decode cX0_keepSimplest 141 = .ok (.lload 30, 2) := by decide +kernel
theorem dX0_keepSimplest_143 : decode cX0_keepSimplest 143 = .ok (.lstore 16, 2) := by decide +kernel
theorem dX0_keepSimplest_145 : decode cX0_keepSimplest 145 = .ok (.lload 7, 2) := by decide +kernel
theorem dX0_keepSimplest_147 : decode cX0_keepSimplest 147 = .ok (.lstore_n 1, 1) := by decide +kernel
theorem dX0_keepSimplest_148 : decode cX0_keepSimplest 148 = .ok (.lload_n 3, 1) := by decide +kernel
theorem dX0_keepSimplest_149 : decode cX0_keepSimplest 149 = .ok (.lstore 5, 2) := by decide +kernel
theorem dX0_keepSimplest_151 : decode cX0_keepSimplest 151 = .ok (.lload 24, 2) := by decide +kernel
theorem dX0_keepSimplest_153 : decode cX0_keepSimplest 153 = .ok (.lstore_n 3, 1) := by decide +kernel
theorem dX0_keepSimplest_154 : decode cX0_keepSimplest 154 = .ok (.lload 22, 2) := by decide +kernel
theorem dX0_keepSimplest_156 : decode cX0_keepSimplest 156 = .ok (.lstore 7, 2) := by decide +kernel
theorem dX0_keepSimplest_158 : decode cX0_keepSimplest 158 = .ok (.iinc 19 1, 3) := by decide +kernel
theorem dX0_keepSimplest_161 : decode cX0_keepSimplest 161 = .ok (.goto (-143), 3) := by decide +kernel
theorem dX0_keepSimplest_164 : decode cX0_keepSimplest 164 = .ok (.aload_n 0, 1) := by decide +kernel
theorem dX0_keepSimplest_165 : decode cX0_keepSimplest 165 = .ok (.iload 9, 2) := by decide +kernel
theorem dX0_keepSimplest_167 : decode cX0_keepSimplest 167 = .ok (.i2l, 1) := by decide +kernel
theorem dX0_keepSimplest_168 : decode cX0_keepSimplest 168 = .ok (.lload 14, 2) := by decide +kernel
theorem dX0_keepSimplest_170 : decode cX0_keepSimplest 170 = .ok (.lmul, 1) := by decide +kernel
theorem dX0_keepSimplest_171 : decode cX0_keepSimplest 171 = .ok (.lload 16, 2) := by decide +kernel
theorem dX0_keepSimplest_173 : decode cX0_keepSimplest 173 = .ok (.invokevirtual 38, 3) := by decide +kernel
theorem dX0_keepSimplest_176 : decode cX0_keepSimplest 176 = .ok (.ireturn, 1) := by decide +kernel
set_option maxRecDepth 20000 in
theorem ggX0_keepNearest_J9_floorDiv_f86c9 : GoodIn wsX0_keepNearest wsJ9_floorDiv_f86c9 := goodIn_r _ [4] (by decide +kernel) (by decide +kernel)
set_option maxRecDepth 20000 in
theorem gX0_keepNearest_J9_floorDiv_f86c9 : GoodIn wsX0_keepNearest (va_wsS RX0 94 yJ9_floorDiv_f86c9 wsJ9_floorDiv_f86c9) := goodIn_app (goodIn_of _ (by decide +kernel)) ggX0_keepNearest_J9_floorDiv_f86c9
set_option maxRecDepth 20000 in
theorem ggX0_keepNearest_X0_stepsOf : GoodIn wsX0_keepNearest wsX0_stepsOf := goodIn_r _ [8, 9, 10, 11, 12] (by decide +kernel) (by decide +kernel)
set_option maxRecDepth 20000 in
theorem gX0_keepNearest_X0_stepsOf : GoodIn wsX0_keepNearest (va_wsS RX0 169 yX0_stepsOf wsX0_stepsOf) := goodIn_app (goodIn_of _ (by decide +kernel)) ggX0_keepNearest_X0_stepsOf
set_option maxRecDepth 20000 in
theorem ggX0_keepNearest_X0_keep : GoodIn wsX0_keepNearest wsX0_keep := goodIn_r _ [16, 17, 18, 19, 20, 21, 22, 7, 23, 24, 25, 26, 27, 28, 11, 29, 30, 31, 32, 33, 34, 35, 36, 37, 38, 39, 40, 41, 42, 43, 44, 45] (by decide +kernel) (by decide +kernel)
set_option maxRecDepth 20000 in
theorem gX0_keepNearest_X0_keep : GoodIn wsX0_keepNearest (wsV RX0 38 RX0 yX0_keep wsX0_keep) := goodIn_app (goodIn_of _ (by decide +kernel)) ggX0_keepNearest_X0_keep
theorem dX0_keepNearest_0 : decode cX0_keepNearest 0 = .ok (.lload_n 3, 1) := by decide +kernel
theorem dX0_keepNearest_1 : decode cX0_keepNearest 1 = .ok (.lconst 0, 1) := by decide +kernel
theorem dX0_keepNearest_2 : decode cX0_keepNearest 2 = .ok (.lcmp, 1) := by decide +kernel
theorem dX0_keepNearest_3 : decode cX0_keepNearest 3 = .ok (.ifCond .le 11, 3) := by decide +kernel
theorem dX0_keepNearest_6 : decode cX0_keepNearest 6 = .ok (.lload_n 1, 1) := by decide +kernel
theorem dX0_keepNearest_7 : decode cX0_keepNearest 7 = .ok (.lload_n 3, 1) := by decide +kernel
theorem dX0_keepNearest_8 : decode cX0_keepNearest 8 = .ok (.invokestatic 94, 3) := by decide +kernel
theorem dX0_keepNearest_11 : decode cX0_keepNearest 11 = .ok (.goto 4, 3) := by decide +kernel
theorem dX0_keepNearest_14 : decode cX0_keepNearest 14 = .ok (.lconst 0, 1) := by decide +kernel
theorem dX0_keepNearest_15 : decode cX0_keepNearest 15 = .ok (.lstore 6, 2) := by decide +kernel
theorem dX0_keepNearest_17 : decode cX0_keepNearest 17 = .ok (.lload 6, 2) := by decide +kernel
theorem dX0_keepNearest_19 : decode cX0_keepNearest 19 = .ok (.lstore 8, 2) := by decide +kernel
theorem dX0_keepNearest_21 : decode cX0_keepNearest 21 = .ok (.lconst 1, 1) := by decide +kernel
theorem dX0_keepNearest_22 : decode cX0_keepNearest 22 = .ok (.lstore 10, 2) := by decide +kernel
theorem dX0_keepNearest_24 : decode cX0_keepNearest 24 = .ok (.lload_n 1, 1) := by decide +kernel
theorem dX0_keepNearest_25 : decode cX0_keepNearest 25 = .ok (.lload 6, 2) := by decide +kernel
theorem dX0_keepNearest_27 : decode cX0_keepNearest 27 = .ok (.lload_n 3, 1) := by decide +kernel
theorem dX0_keepNearest_28 : decode cX0_keepNearest 28 = .ok (.lmul, 1) := by decide +kernel
theorem dX0_keepNearest_29 : decode cX0_keepNearest 29 = .ok (.lsub, 1) := by decide +kernel
theorem dX0_keepNearest_30 : decode cX0_keepNearest 30 = .ok (.lstore 12, 2) := by decide +kernel
theorem dX0_keepNearest_32 : decode cX0_keepNearest 32 = .ok (.lload 6, 2) := by decide +kernel
theorem dX0_keepNearest_34 : decode cX0_keepNearest 34 = .ok (.lconst 1, 1) := by decide +kernel
theorem dX0_keepNearest_35 : decode cX0_keepNearest 35 = .ok (.ladd, 1) := by decide +kernel
theorem dX0_keepNearest_36 : decode cX0_keepNearest 36 = .ok (.lstore 14, 2) := by decide +kernel
theorem dX0_keepNearest_38 : decode cX0_keepNearest 38 = .ok (.lconst 1, 1) := by decide +kernel
theorem dX0_keepNearest_39 : decode cX0_keepNearest 39 = .ok (.lstore 16, 2) := by decide +kernel
theorem dX0_keepNearest_41 : decode cX0_keepNearest 41 = .ok (.lload_n 3, 1) := by decide +kernel
theorem dX0_keepNearest_42 : decode cX0_keepNearest 42 = .ok (.lload 12, 2) := by decide +kernel
theorem dX0_keepNearest_44 : decode cX0_keepNearest 44 = .ok (.lsub, 1) := by decide +kernel
theorem dX0_keepNearest_45 : decode cX0_keepNearest 45 = .ok (.lstore 18, 2) := by decide +kernel
theorem dX0_keepNearest_47 : decode cX0_keepNearest 47 = .ok (.iconst 0, 1) := by decide +kernel
theorem dX0_keepNearest_48 : decode cX0_keepNearest 48 = .ok (.istore 20, 2) := by decide +kernel
theorem dX0_keepNearest_50 : decode cX0_keepNearest 50 = .ok (.iload 20, 2) := by decide +kernel
theorem dX0_keepNearest_52 : decode cX0_keepNearest 52 = .ok (.sipush 200, 3) := by decide +kernel
theorem dX0_keepNearest_55 : decode cX0_keepNearest 55 = .ok (.if_icmp .ge 140, 3) := by decide +kernel
theorem dX0_keepNearest_58 : decode cX0_keepNearest 58 = .ok (.lload 10, 2) := by decide +kernel
theorem dX0_keepNearest_60 : decode cX0_keepNearest 60 = .ok (.lload 16, 2) := by decide +kernel
theorem dX0_keepNearest_62 : decode cX0_keepNearest 62 = .ok (.ladd, 1) := by decide +kernel
theorem dX0_keepNearest_63 : decode cX0_keepNearest 63 = .ok (.iload 5, 2) := by decide +kernel
theorem dX0_keepNearest_65 : decode cX0_keepNearest 65 = .ok (.i2l, 1) := by decide +kernel
theorem dX0_keepNearest_66 : decode cX0_keepNearest 66 = .ok (.lcmp, 1) := by decide +kernel
theorem dX0_keepNearest_67 : decode cX0_keepNearest 67 = .ok (.ifCond .gt 128, 3) := by decide +kernel
theorem dX0_keepNearest_70 : decode cX0_keepNearest 70 = .ok (.lload 12, 2) := by decide +kernel
theorem dX0_keepNearest_72 : decode cX0_keepNearest 72 = .ok (.lconst 0, 1) := by decide +kernel
theorem dX0_keepNearest_73 : decode cX0_keepNearest 73 = .ok (.lcmp, 1) := by decide +kernel
theorem dX0_keepNearest_74 : decode cX0_keepNearest 74 = .ok (.ifCond .le 121, 3) := by decide +kernel
theorem dX0_keepNearest_77 : decode cX0_keepNearest 77 = .ok (.lload 18, 2) := by decide +kernel
theorem dX0_keepNearest_79 : decode cX0_keepNearest 79 = .ok (.lconst 0, 1) := by decide +kernel
theorem dX0_keepNearest_80 : decode cX0_keepNearest 80 = .ok (.lcmp, 1) := by decide +kernel
theorem dX0_keepNearest_81 : decode cX0_keepNearest 81 = .ok (.ifCond .le 114, 3) := by decide +kernel
theorem dX0_keepNearest_84 : decode cX0_keepNearest 84 = .ok (.lload 12, 2) := by decide +kernel
theorem dX0_keepNearest_86 : decode cX0_keepNearest 86 = .ok (.lload 18, 2) := by decide +kernel
theorem dX0_keepNearest_88 : decode cX0_keepNearest 88 = .ok (.lcmp, 1) := by decide +kernel
theorem dX0_keepNearest_89 : decode cX0_keepNearest 89 = .ok (.ifCond .le 53, 3) := by decide +kernel
theorem dX0_keepNearest_92 : decode cX0_keepNearest 92 = .ok (.lload 12, 2) := by decide +kernel
theorem dX0_keepNearest_94 : decode cX0_keepNearest 94 = .ok (.lload 18, 2) := by decide +kernel
theorem dX0_keepNearest_96 : decode cX0_keepNearest 96 = .ok (.iload 5, 2) := by decide +kernel
theorem dX0_keepNearest_98 : decode cX0_keepNearest 98 = .ok (.i2l, 1) := by decide +kernel
theorem dX0_keepNearest_99 : decode cX0_keepNearest 99 = .ok (.lload 10, 2) := by decide +kernel
theorem dX0_keepNearest_101 : decode cX0_keepNearest 101 = .ok (.lsub, 1) := by decide +kernel
theorem dX0_keepNearest_102 : decode cX0_keepNearest 102 = .ok (.lload 16, 2) := by decide +kernel
theorem dX0_keepNearest_104 : decode cX0_keepNearest 104 = .ok (.invokestatic 169, 3) := by decide +kernel
theorem dX0_keepNearest_107 : decode cX0_keepNearest 107 = .ok (.lstore 21, 2) := by decide +kernel
theorem dX0_keepNearest_109 : decode cX0_keepNearest 109 = .ok (.lload 8, 2) := by decide +kernel
theorem dX0_keepNearest_111 : decode cX0_keepNearest 111 = .ok (.lload 21, 2) := by decide +kernel
theorem dX0_keepNearest_113 : decode cX0_keepNearest 113 = .ok (.lload 14, 2) := by decide +kernel
theorem dX0_keepNearest_115 : decode cX0_keepNearest 115 = .ok (.lmul, 1) := by decide +kernel
theorem dX0_keepNearest_116 : decode cX0_keepNearest 116 = .ok (.ladd, 1) := by decide +kernel
theorem dX0_keepNearest_117 : decode cX0_keepNearest 117 = .ok (.lstore 8, 2) := by decide +kernel
theorem dX0_keepNearest_119 : decode cX0_keepNearest 119 = .ok (.lload 10, 2) := by decide +kernel
theorem dX0_keepNearest_121 : decode cX0_keepNearest 121 = .ok (.lload 21, 2) := by decide +kernel
theorem dX0_keepNearest_123 : decode cX0_keepNearest 123 = .ok (.lload 16, 2) := by decide +kernel
theorem dX0_keepNearest_125 : decode cX0_keepNearest 125 = .ok (.lmul, 1) := by decide +kernel
theorem dX0_keepNearest_126 : decode cX0_keepNearest 126 = .ok (.ladd, 1) := by decide +kernel
theorem dX0_keepNearest_127 : decode cX0_keepNearest 127 = .ok (.lstore 10, 2) := by decide +kernel
theorem dX0_keepNearest_129 : decode cX0_keepNearest 129 = .ok (.lload 12, 2) := by decide +kernel
theorem dX0_keepNearest_131 : decode cX0_keepNearest 131 = .ok (.lload 21, 2) := by decide +kernel
theorem dX0_keepNearest_133 : decode cX0_keepNearest 133 = .ok (.lload 18, 2) := by decide +kernel
theorem dX0_keepNearest_135 : decode cX0_keepNearest 135 = .ok (.lmul, 1) := by decide +kernel
theorem dX0_keepNearest_136 : decode cX0_keepNearest 136 = .ok (.lsub, 1) := by decide +kernel
theorem dX0_keepNearest_137 : decode cX0_keepNearest 137 = .ok (.lstore 12, 2) := by decide +kernel
theorem dX0_keepNearest_139 : decode cX0_keepNearest 139 = .ok (.goto 50, 3) := by decide +kernel
theorem dX0_keepNearest_142 : decode cX0_keepNearest 142 = .ok (.lload 18, 2) := by decide +kernel
theorem dX0_keepNearest_144 : decode cX0_keepNearest 144 = .ok (.lload 12, 2) := by decide +kernel
theorem dX0_keepNearest_146 : decode cX0_keepNearest 146 = .ok (.iload 5, 2) := by decide +kernel
theorem dX0_keepNearest_148 : decode cX0_keepNearest 148 = .ok (.i2l, 1) := by decide +kernel
theorem dX0_keepNearest_149 : decode cX0_keepNearest 149 = .ok (.lload 16, 2) := by decide +kernel
theorem dX0_keepNearest_151 : decode cX0_keepNearest 151 = .ok (.lsub, 1) := by decide +kernel
theorem dX0_keepNearest_152 : decode cX0_keepNearest 152 = .ok (.lload 10, 2) := by decide +kernel
theorem dX0_keepNearest_154 : decode cX0_keepNearest 154 = .ok (.invokestatic 169, 3) := by decide +kernel
theorem dX0_keepNearest_157 : decode cX0_keepNearest 157 = .ok (.lstore 21, 2) := by decide +kernel
theorem dX0_keepNearest_159 : decode cX0_keepNearest 159 = .ok (.lload 14, 2) := by decide +kernel
theorem dX0_keepNearest_161 : decode cX0_keepNearest 161 = .ok (.lload 21, 2) := by decide +kernel
theorem dX0_keepNearest_163 : decode cX0_keepNearest 163 = .ok (.lload 8, 2) := by decide +kernel
theorem dX0_keepNearest_165 : decode cX0_keepNearest 165 = .ok (.lmul, 1) := by decide +kernel
theorem dX0_keepNearest_166 : decode cX0_keepNearest 166 = .ok (.ladd, 1) := by decide +kernel
theorem dX0_keepNearest_167 : decode cX0_keepNearest 167 = .ok (.lstore 14, 2) := by decide +kernel
theorem dX0_keepNearest_169 : decode cX0_keepNearest 169 = .ok (.lload 16, 2) := by decide +kernel
theorem dX0_keepNearest_171 : decode cX0_keepNearest 171 = .ok (.lload 21, 2) := by decide +kernel
theorem dX0_keepNearest_173 : decode cX0_keepNearest 173 = .ok (.lload 10, 2) := by decide +kernel
theorem dX0_keepNearest_175 : decode cX0_keepNearest 175 = .ok (.lmul, 1) := by decide +kernel
theorem dX0_keepNearest_176 : decode cX0_keepNearest 176 = .ok (.ladd, 1) := by decide +kernel
theorem dX0_keepNearest_177 : decode cX0_keepNearest 177 = .ok (.lstore 16, 2) := by decide +kernel
theorem dX0_keepNearest_179 : decode cX0_keepNearest 179 = .ok (.lload 18, 2) := by decide +kernel
theorem dX0_keepNearest_181 : decode cX0_keepNearest 181 = .ok (.lload 21, 2) := by decide +kernel
theorem dX0_keepNearest_183 : decode cX0_keepNearest 183 = .ok (.lload 12, 2) := by decide +kernel
theorem dX0_keepNearest_185 : decode cX0_keepNearest 185 = .ok (.lmul, 1) := by decide +kernel
theorem dX0_keepNearest_186 : decode cX0_keepNearest 186 = .ok (.lsub, 1) := by decide +kernel
theorem dX0_keepNearest_187 : decode cX0_keepNearest 187 = .ok (.lstore 18, 2) := by decide +kernel
theorem dX0_keepNearest_189 : decode cX0_keepNearest 189 = .ok (.iinc 20 1, 3) := by decide +kernel
theorem dX0_keepNearest_192 : decode cX0_keepNearest 192 = .ok (.goto (-142), 3) := by decide +kernel
theorem dX0_keepNearest_195 : decode cX0_keepNearest 195 = .ok (.lload 12, 2) := by decide +kernel
theorem dX0_keepNearest_197 : decode cX0_keepNearest 197 = .ok (.lload 16, 2) := by decide +kernel
theorem dX0_keepNearest_199 : decode cX0_keepNearest 199 = .ok (.lmul, 1) := by decide +kernel
theorem dX0_keepNearest_200 : decode cX0_keepNearest 200 = .ok (.lstore 20, 2) := by decide +kernel
theorem dX0_keepNearest_202 : decode cX0_keepNearest 202 = .ok (.lload 18, 2) := by decide +kernel
theorem dX0_keepNearest_204 : decode cX0_keepNearest 204 = .ok (.lload 10, 2) := by decide +kernel
theorem dX0_keepNearest_206 : decode cX0_keepNearest 206 = .ok (.lmul, 1) := by decide +kernel
theorem dX0_keepNearest_207 : decode cX0_keepNearest 207 = .ok (.lstore 22, 2) := by decide +kernel
theorem dX0_keepNearest_209 : decode cX0_keepNearest 209 = .ok (.lload 20, 2) := by decide +kernel
theorem dX0_keepNearest_211 : decode cX0_keepNearest 211 = .ok (.lload 22, 2) := by decide +kernel
theorem dX0_keepNearest_213 : decode cX0_keepNearest 213 = .ok (.lcmp, 1) := by decide +kernel
theorem dX0_keepNearest_214 : decode cX0_keepNearest 214 = .ok (.ifCond .lt 19, 3) := by decide +kernel
theorem dX0_keepNearest_217 : decode cX0_keepNearest 217 = .ok (.lload 20, 2) := by decide +kernel
theorem dX0_keepNearest_219 : decode cX0_keepNearest 219 = .ok (.lload 22, 2) := by decide +kernel
theorem dX0_keepNearest_221 : decode cX0_keepNearest 221 = .ok (.lcmp, 1) := by decide +kernel
theorem dX0_keepNearest_222 : decode cX0_keepNearest 222 = .ok (.ifCond .ne 15, 3) := by decide +kernel
theorem dX0_keepNearest_225 : decode cX0_keepNearest 225 = .ok (.lload 10, 2) := by decide +kernel
theorem dX0_keepNearest_227 : decode cX0_keepNearest 227 = .ok (.lload 16, 2) := by decide +kernel
theorem dX0_keepNearest_229 : decode cX0_keepNearest 229 = .ok (.lcmp, 1) := by decide +kernel
theorem dX0_keepNearest_230 : decode cX0_keepNearest 230 = .ok (.ifCond .gt 7, 3) := by decide +kernel
theorem dX0_keepNearest_233 : decode cX0_keepNearest 233 = .ok (.iconst 1, 1) := by decide +kernel
theorem dX0_keepNearest_234 : decode cX0_keepNearest 234 = .ok (.goto 4, 3) := by decide +kernel
theorem dX0_keepNearest_237 : decode cX0_keepNearest 237 = .ok (.iconst 0, 1) := by decide +kernel
theorem dX0_keepNearest_238 : decode cX0_keepNearest 238 = .ok (.istore 24, 2) := by decide +kernel
theorem dX0_keepNearest_240 : decode cX0_keepNearest 240 = .ok (.iload 24, 2) := by decide +kernel
theorem dX0_keepNearest_242 : decode cX0_keepNearest 242 = .ok (.ifCond .eq 14, 3) := by decide +kernel
theorem dX0_keepNearest_245 : decode cX0_keepNearest 245 = .ok (.aload_n 0, 1) := by decide +kernel
theorem dX0_keepNearest_246 : decode cX0_keepNearest 246 = .ok (.lload 8, 2) := by decide +kernel
theorem dX0_keepNearest_248 : decode cX0_keepNearest 248 = .ok (.lload 10, 2) := by decide +kernel
theorem dX0_keepNearest_250 : decode cX0_keepNearest 250 = .ok (.invokevirtual 38, 3) := by decide +kernel
theorem dX0_keepNearest_253 : decode cX0_keepNearest 253 = .ok (.goto 11, 3) := by decide +kernel
theorem dX0_keepNearest_256 : decode cX0_keepNearest 256 = .ok (.aload_n 0, 1) := by decide +kernel
theorem dX0_keepNearest_257 : decode cX0_keepNearest 257 = .ok (.lload 14, 2) := by decide +kernel
theorem dX0_keepNearest_259 : decode cX0_keepNearest 259 = .ok (.lload 16, 2) := by decide +kernel
theorem dX0_keepNearest_261 : decode cX0_keepNearest 261 = .ok (.invokevirtual 38, 3) := by decide +kernel
theorem dX0_keepNearest_264 : decode cX0_keepNearest 264 = .ok (.ireturn, 1) := by decide +kernel
theorem dX0_stepsOf_0 : decode cX0_stepsOf 0 = .ok (.lload_n 2, 1) := by decide +kernel
theorem dX0_stepsOf_1 : decode cX0_stepsOf 1 = .ok (.lconst 1, 1) := by decide +kernel
theorem dX0_stepsOf_2 : decode cX0_stepsOf 2 = .ok (.lcmp, 1) := by decide +kernel
theorem dX0_stepsOf_3 : decode cX0_stepsOf 3 = .ok (.ifCond .lt 10, 3) := by decide +kernel
theorem dX0_stepsOf_6 : decode cX0_stepsOf 6 = .ok (.lload 6, 2) := by decide +kernel
theorem dX0_stepsOf_8 : decode cX0_stepsOf 8 = .ok (.lconst 1, 1) := by decide +kernel
theorem dX0_stepsOf_9 : decode cX0_stepsOf 9 = .ok (.lcmp, 1) := by decide +kernel
theorem dX0_stepsOf_10 : decode cX0_stepsOf 10 = .ok (.ifCond .ge 7, 3) := by decide +kernel
theorem dX0_stepsOf_13 : decode cX0_stepsOf 13 = .ok (.lconst 0, 1) := by decide +kernel
theorem dX0_stepsOf_14 : decode cX0_stepsOf 14 = .ok (.goto 14, 3) := by decide +kernel
theorem dX0_stepsOf_17 : decode cX0_stepsOf 17 = .ok (.lload_n 0, 1) := by decide +kernel
theorem dX0_stepsOf_18 : decode cX0_stepsOf 18 = .ok (.lload_n 2, 1) := by decide +kernel
theorem dX0_stepsOf_19 : decode cX0_stepsOf 19 = .ok (.ldiv, 1) := by decide +kernel
theorem dX0_stepsOf_20 : decode cX0_stepsOf 20 = .ok (.lload 4, 2) := by decide +kernel
theorem dX0_stepsOf_22 : decode cX0_stepsOf 22 = .ok (.lload 6, 2) := by decide +kernel
theorem dX0_stepsOf_24 : decode cX0_stepsOf 24 = .ok (.ldiv, 1) := by decide +kernel
theorem dX0_stepsOf_25 : decode cX0_stepsOf 25 = .ok (.invokestatic 173, 3) := by decide +kernel
theorem dX0_stepsOf_28 : decode cX0_stepsOf 28 = .ok (.lreturn, 1) := by decide +kernel
theorem dX0_isRow_0 : decode cX0_isRow 0 = .ok (.iload_n 0, 1) := by decide +kernel
theorem dX0_isRow_1 : decode cX0_isRow 1 = .ok (.ifCond .lt 12, 3) := by decide +kernel
theorem dX0_isRow_4 : decode cX0_isRow 4 = .ok (.iload_n 0, 1) := by decide +kernel
theorem dX0_isRow_5 : decode cX0_isRow 5 = .ok (.iconst 4, 1) := by decide +kernel
theorem dX0_isRow_6 : decode cX0_isRow 6 = .ok (.if_icmp .ge 7, 3) := by decide +kernel
theorem dX0_isRow_9 : decode cX0_isRow 9 = .ok (.iconst 1, 1) := by decide +kernel
theorem dX0_isRow_10 : decode cX0_isRow 10 = .ok (.goto 4, 3) := by decide +kernel
theorem dX0_isRow_13 : decode cX0_isRow 13 = .ok (.iconst 0, 1) := by decide +kernel
theorem dX0_isRow_14 : decode cX0_isRow 14 = .ok (.ireturn, 1) := by decide +kernel
set_option maxRecDepth 20000 in
theorem ggX0_isValue_X0_isRow : GoodIn wsX0_isValue wsX0_isRow := goodIn_r _ [5] (by decide +kernel) (by decide +kernel)
set_option maxRecDepth 20000 in
theorem gX0_isValue_X0_isRow : GoodIn wsX0_isValue (va_wsS RX0 99 yX0_isRow wsX0_isRow) := goodIn_app (goodIn_of _ (by decide +kernel)) ggX0_isValue_X0_isRow
theorem dX0_isValue_0 : decode cX0_isValue 0 = .ok (.iload_n 1, 1) := by decide +kernel
theorem dX0_isValue_1 : decode cX0_isValue 1 = .ok (.invokestatic 99, 3) := by decide +kernel
theorem dX0_isValue_4 : decode cX0_isValue 4 = .ok (.ifCond .eq 21, 3) := by decide +kernel
theorem dX0_isValue_7 : decode cX0_isValue 7 = .ok (.iload_n 2, 1) := by decide +kernel
theorem dX0_isValue_8 : decode cX0_isValue 8 = .ok (.ifCond .lt 17, 3) := by decide +kernel
theorem dX0_isValue_11 : decode cX0_isValue 11 = .ok (.iload_n 2, 1) := by decide +kernel
theorem dX0_isValue_12 : decode cX0_isValue 12 = .ok (.aload_n 0, 1) := by decide +kernel
theorem dX0_isValue_13 : decode cX0_isValue 13 = .ok (.getfield 23, 3) := by decide +kernel
theorem dX0_isValue_16 : decode cX0_isValue 16 = .ok (.iload_n 1, 1) := by decide +kernel
theorem dX0_isValue_17 : decode cX0_isValue 17 = .ok (.iaload, 1) := by decide +kernel
theorem dX0_isValue_18 : decode cX0_isValue 18 = .ok (.if_icmp .ge 7, 3) := by decide +kernel
theorem dX0_isValue_21 : decode cX0_isValue 21 = .ok (.iconst 1, 1) := by decide +kernel
theorem dX0_isValue_22 : decode cX0_isValue 22 = .ok (.goto 4, 3) := by decide +kernel
theorem dX0_isValue_25 : decode cX0_isValue 25 = .ok (.iconst 0, 1) := by decide +kernel
theorem dX0_isValue_26 : decode cX0_isValue 26 = .ok (.ireturn, 1) := by decide +kernel
theorem dX0_sumOf_0 : decode cX0_sumOf 0 = .ok (.lconst 0, 1) := by decide +kernel
theorem dX0_sumOf_1 : decode cX0_sumOf 1 = .ok (.lstore_n 2, 1) := by decide +kernel
theorem dX0_sumOf_2 : decode cX0_sumOf 2 = .ok (.iconst 0, 1) := by decide +kernel
theorem dX0_sumOf_3 : decode cX0_sumOf 3 = .ok (.istore 4, 2) := by decide +kernel
theorem dX0_sumOf_5 : decode cX0_sumOf 5 = .ok (.iload 4, 2) := by decide +kernel
theorem dX0_sumOf_7 : decode cX0_sumOf 7 = .ok (.aload_n 0, 1) := by decide +kernel
theorem dX0_sumOf_8 : decode cX0_sumOf 8 = .ok (.getfield 23, 3) := by decide +kernel
theorem dX0_sumOf_11 : decode cX0_sumOf 11 = .ok (.iload_n 1, 1) := by decide +kernel
theorem dX0_sumOf_12 : decode cX0_sumOf 12 = .ok (.iaload, 1) := by decide +kernel
theorem dX0_sumOf_13 : decode cX0_sumOf 13 = .ok (.if_icmp .ge 21, 3) := by decide +kernel
theorem dX0_sumOf_16 : decode cX0_sumOf 16 = .ok (.lload_n 2, 1) := by decide +kernel
theorem dX0_sumOf_17 : decode cX0_sumOf 17 = .ok (.aload_n 0, 1) := by decide +kernel
theorem dX0_sumOf_18 : decode cX0_sumOf 18 = .ok (.getfield 20, 3) := by decide +kernel
theorem dX0_sumOf_21 : decode cX0_sumOf 21 = .ok (.iload_n 1, 1) := by decide +kernel
theorem dX0_sumOf_22 : decode cX0_sumOf 22 = .ok (.aaload, 1) := by decide +kernel
theorem dX0_sumOf_23 : decode cX0_sumOf 23 = .ok (.iload 4, 2) := by decide +kernel
theorem dX0_sumOf_25 : decode cX0_sumOf 25 = .ok (.laload, 1) := by decide +kernel
theorem dX0_sumOf_26 : decode cX0_sumOf 26 = .ok (.ladd, 1) := by decide +kernel
theorem dX0_sumOf_27 : decode cX0_sumOf 27 = .ok (.lstore_n 2, 1) := by decide +kernel
theorem dX0_sumOf_28 : decode cX0_sumOf 28 = .ok (.iinc 4 1, 3) := by decide +kernel
theorem dX0_sumOf_31 : decode cX0_sumOf 31 = .ok (.goto (-26), 3) := by decide +kernel
theorem dX0_sumOf_34 : decode cX0_sumOf 34 = .ok (.lload_n 2, 1) := by decide +kernel
theorem dX0_sumOf_35 : decode cX0_sumOf 35 = .ok (.lreturn, 1) := by decide +kernel
set_option maxRecDepth 20000 in
theorem ggX0_giveByRemainders_X0_firstGreatestRemainder : GoodIn wsX0_giveByRemainders wsX0_firstGreatestRemainder := goodIn_r _ [9, 1, 3, 10, 11, 12, 13, 14, 15, 16, 17, 18, 19, 20, 21, 22] (by decide +kernel) (by decide +kernel)
set_option maxRecDepth 20000 in
theorem gX0_giveByRemainders_X0_firstGreatestRemainder : GoodIn wsX0_giveByRemainders (wsV RX0 176 RX0 yX0_firstGreatestRemainder wsX0_firstGreatestRemainder) := goodIn_app (goodIn_of _ (by decide +kernel)) ggX0_giveByRemainders_X0_firstGreatestRemainder
theorem dX0_giveByRemainders_0 : decode cX0_giveByRemainders 0 = .ok (.lload_n 3, 1) := by decide +kernel
theorem dX0_giveByRemainders_1 : decode cX0_giveByRemainders 1 = .ok (.lconst 1, 1) := by decide +kernel
theorem dX0_giveByRemainders_2 : decode cX0_giveByRemainders 2 = .ok (.lcmp, 1) := by decide +kernel
theorem dX0_giveByRemainders_3 : decode cX0_giveByRemainders 3 = .ok (.ifCond .ge 4, 3) := by decide +kernel
theorem dX0_giveByRemainders_6 : decode cX0_giveByRemainders 6 = .ok (.return_, 1) := by decide +kernel
theorem dX0_giveByRemainders_7 : decode cX0_giveByRemainders 7 = .ok (.iload_n 2, 1) := by decide +kernel
theorem dX0_giveByRemainders_8 : decode cX0_giveByRemainders 8 = .ok (.istore 5, 2) := by decide +kernel
theorem dX0_giveByRemainders_10 : decode cX0_giveByRemainders 10 = .ok (.iconst 0, 1) := by decide +kernel
theorem dX0_giveByRemainders_11 : decode cX0_giveByRemainders 11 = .ok (.istore 6, 2) := by decide +kernel
theorem dX0_giveByRemainders_13 : decode cX0_giveByRemainders 13 = .ok (.iload 6, 2) := by decide +kernel
theorem dX0_giveByRemainders_15 : decode cX0_giveByRemainders 15 = .ok (.aload_n 0, 1) := by decide +kernel
theorem dX0_giveByRemainders_16 : decode cX0_giveByRemainders 16 = .ok (.getfield 116, 3) := by decide +kernel
theorem dX0_giveByRemainders_19 : decode cX0_giveByRemainders 19 = .ok (.if_icmp .ge 54, 3) := by decide +kernel
theorem dX0_giveByRemainders_22 : decode cX0_giveByRemainders 22 = .ok (.aload_n 0, 1) := by decide +kernel
theorem dX0_giveByRemainders_23 : decode cX0_giveByRemainders 23 = .ok (.getfield 27, 3) := by decide +kernel
theorem dX0_giveByRemainders_26 : decode cX0_giveByRemainders 26 = .ok (.iload 6, 2) := by decide +kernel
theorem dX0_giveByRemainders_28 : decode cX0_giveByRemainders 28 = .ok (.iload_n 2, 1) := by decide +kernel
theorem dX0_giveByRemainders_29 : decode cX0_giveByRemainders 29 = .ok (.i2l, 1) := by decide +kernel
theorem dX0_giveByRemainders_30 : decode cX0_giveByRemainders 30 = .ok (.aload_n 1, 1) := by decide +kernel
theorem dX0_giveByRemainders_31 : decode cX0_giveByRemainders 31 = .ok (.iload 6, 2) := by decide +kernel
theorem dX0_giveByRemainders_33 : decode cX0_giveByRemainders 33 = .ok (.laload, 1) := by decide +kernel
theorem dX0_giveByRemainders_34 : decode cX0_giveByRemainders 34 = .ok (.lmul, 1) := by decide +kernel
theorem dX0_giveByRemainders_35 : decode cX0_giveByRemainders 35 = .ok (.lload_n 3, 1) := by decide +kernel
theorem dX0_giveByRemainders_36 : decode cX0_giveByRemainders 36 = .ok (.ldiv, 1) := by decide +kernel
theorem dX0_giveByRemainders_37 : decode cX0_giveByRemainders 37 = .ok (.l2i, 1) := by decide +kernel
theorem dX0_giveByRemainders_38 : decode cX0_giveByRemainders 38 = .ok (.iastore, 1) := by decide +kernel
theorem dX0_giveByRemainders_39 : decode cX0_giveByRemainders 39 = .ok (.aload_n 0, 1) := by decide +kernel
theorem dX0_giveByRemainders_40 : decode cX0_giveByRemainders 40 = .ok (.getfield 30, 3) := by decide +kernel
theorem dX0_giveByRemainders_43 : decode cX0_giveByRemainders 43 = .ok (.iload 6, 2) := by decide +kernel
theorem dX0_giveByRemainders_45 : decode cX0_giveByRemainders 45 = .ok (.iload_n 2, 1) := by decide +kernel
theorem dX0_giveByRemainders_46 : decode cX0_giveByRemainders 46 = .ok (.i2l, 1) := by decide +kernel
theorem dX0_giveByRemainders_47 : decode cX0_giveByRemainders 47 = .ok (.aload_n 1, 1) := by decide +kernel
theorem dX0_giveByRemainders_48 : decode cX0_giveByRemainders 48 = .ok (.iload 6, 2) := by decide +kernel
theorem dX0_giveByRemainders_50 : decode cX0_giveByRemainders 50 = .ok (.laload, 1) := by decide +kernel
theorem dX0_giveByRemainders_51 : decode cX0_giveByRemainders 51 = .ok (.lmul, 1) := by decide +kernel
theorem dX0_giveByRemainders_52 : decode cX0_giveByRemainders 52 = .ok (.lload_n 3, 1) := by decide +kernel
theorem dX0_giveByRemainders_53 : decode cX0_giveByRemainders 53 = .ok (.lrem, 1) := by decide +kernel
theorem dX0_giveByRemainders_54 : decode cX0_giveByRemainders 54 = .ok (.lastore, 1) := by decide +kernel
theorem dX0_giveByRemainders_55 : decode cX0_giveByRemainders 55 = .ok (.iload 5, 2) := by decide +kernel
theorem dX0_giveByRemainders_57 : decode cX0_giveByRemainders 57 = .ok (.aload_n 0, 1) := by decide +kernel
theorem dX0_giveByRemainders_58 : decode cX0_giveByRemainders 58 = .ok (.getfield 27, 3) := by decide +kernel
theorem dX0_giveByRemainders_61 : decode cX0_giveByRemainders 61 = .ok (.iload 6, 2) := by decide +kernel
theorem dX0_giveByRemainders_63 : decode cX0_giveByRemainders 63 = .ok (.iaload, 1) := by decide +kernel
theorem dX0_giveByRemainders_64 : decode cX0_giveByRemainders 64 = .ok (.isub, 1) := by decide +kernel
theorem dX0_giveByRemainders_65 : decode cX0_giveByRemainders 65 = .ok (.istore 5, 2) := by decide +kernel
theorem dX0_giveByRemainders_67 : decode cX0_giveByRemainders 67 = .ok (.iinc 6 1, 3) := by decide +kernel
theorem dX0_giveByRemainders_70 : decode cX0_giveByRemainders 70 = .ok (.goto (-57), 3) := by decide +kernel
theorem dX0_giveByRemainders_73 : decode cX0_giveByRemainders 73 = .ok (.iconst 0, 1) := by decide +kernel
theorem dX0_giveByRemainders_74 : decode cX0_giveByRemainders 74 = .ok (.istore 6, 2) := by decide +kernel
theorem dX0_giveByRemainders_76 : decode cX0_giveByRemainders 76 = .ok (.iload 6, 2) := by decide +kernel
theorem dX0_giveByRemainders_78 : decode cX0_giveByRemainders 78 = .ok (.iload 5, 2) := by decide +kernel
theorem dX0_giveByRemainders_80 : decode cX0_giveByRemainders 80 = .ok (.if_icmp .ge 36, 3) := by decide +kernel
theorem dX0_giveByRemainders_83 : decode cX0_giveByRemainders 83 = .ok (.aload_n 0, 1) := by decide +kernel
theorem dX0_giveByRemainders_84 : decode cX0_giveByRemainders 84 = .ok (.invokevirtual 176, 3) := by decide +kernel
theorem dX0_giveByRemainders_87 : decode cX0_giveByRemainders 87 = .ok (.istore 7, 2) := by decide +kernel
theorem dX0_giveByRemainders_89 : decode cX0_giveByRemainders 89 = .ok (.aload_n 0, 1) := by decide +kernel
theorem dX0_giveByRemainders_90 : decode cX0_giveByRemainders 90 = .ok (.getfield 27, 3) := by decide +kernel
theorem dX0_giveByRemainders_93 : decode cX0_giveByRemainders 93 = .ok (.iload 7, 2) := by decide +kernel
theorem dX0_giveByRemainders_95 : decode cX0_giveByRemainders 95 = .ok (.dup2, 1) := by decide +kernel
theorem dX0_giveByRemainders_96 : decode cX0_giveByRemainders 96 = .ok (.iaload, 1) := by decide +kernel
theorem dX0_giveByRemainders_97 : decode cX0_giveByRemainders 97 = .ok (.iconst 1, 1) := by decide +kernel
theorem dX0_giveByRemainders_98 : decode cX0_giveByRemainders 98 = .ok (.iadd, 1) := by decide +kernel
theorem dX0_giveByRemainders_99 : decode cX0_giveByRemainders 99 = .ok (.iastore, 1) := by decide +kernel
theorem dX0_giveByRemainders_100 : decode cX0_giveByRemainders 100 = .ok (.aload_n 0, 1) := by decide +kernel
theorem dX0_giveByRemainders_101 : decode cX0_giveByRemainders 101 = .ok (.getfield 30, 3) := by decide +kernel
theorem dX0_giveByRemainders_104 : decode cX0_giveByRemainders 104 = .ok (.iload 7, 2) := by decide +kernel
theorem dX0_giveByRemainders_106 : decode cX0_giveByRemainders 106 = .ok (.ldc2_w 108, 3) := by decide +kernel
theorem dX0_giveByRemainders_109 : decode cX0_giveByRemainders 109 = .ok (.lastore, 1) := by decide +kernel
end
section
theorem dX0_giveByRemainders_110 : decode cX0_giveByRemainders 110 = .ok (.iinc 6 1, 3) := by decide +kernel
theorem dX0_giveByRemainders_113 : decode cX0_giveByRemainders 113 = .ok (.goto (-37), 3) := by decide +kernel
theorem dX0_giveByRemainders_116 : decode cX0_giveByRemainders 116 = .ok (.return_, 1) := by decide +kernel
theorem dX0_firstGreatestRemainder_0 : decode cX0_firstGreatestRemainder 0 = .ok (.iconst 0, 1) := by decide +kernel
theorem dX0_firstGreatestRemainder_1 : decode cX0_firstGreatestRemainder 1 = .ok (.istore_n 1, 1) := by decide +kernel
theorem dX0_firstGreatestRemainder_2 : decode cX0_firstGreatestRemainder 2 = .ok (.iconst 1, 1) := by decide +kernel
theorem dX0_firstGreatestRemainder_3 : decode cX0_firstGreatestRemainder 3 = .ok (.istore_n 2, 1) := by decide +kernel
theorem dX0_firstGreatestRemainder_4 : decode cX0_firstGreatestRemainder 4 = .ok (.iload_n 2, 1) := by decide +kernel
theorem dX0_firstGreatestRemainder_5 : decode cX0_firstGreatestRemainder 5 = .ok (.aload_n 0, 1) := by decide +kernel
theorem dX0_firstGreatestRemainder_6 : decode cX0_firstGreatestRemainder 6 = .ok (.getfield 116, 3) := by decide +kernel
theorem dX0_firstGreatestRemainder_9 : decode cX0_firstGreatestRemainder 9 = .ok (.if_icmp .ge 27, 3) := by decide +kernel
theorem dX0_firstGreatestRemainder_12 : decode cX0_firstGreatestRemainder 12 = .ok (.aload_n 0, 1) := by decide +kernel
theorem dX0_firstGreatestRemainder_13 : decode cX0_firstGreatestRemainder 13 = .ok (.getfield 30, 3) := by decide +kernel
theorem dX0_firstGreatestRemainder_16 : decode cX0_firstGreatestRemainder 16 = .ok (.iload_n 2, 1) := by decide +kernel
theorem dX0_firstGreatestRemainder_17 : decode cX0_firstGreatestRemainder 17 = .ok (.laload, 1) := by decide +kernel
theorem dX0_firstGreatestRemainder_18 : decode cX0_firstGreatestRemainder 18 = .ok (.aload_n 0, 1) := by decide +kernel
theorem dX0_firstGreatestRemainder_19 : decode cX0_firstGreatestRemainder 19 = .ok (.getfield 30, 3) := by decide +kernel
theorem dX0_firstGreatestRemainder_22 : decode cX0_firstGreatestRemainder 22 = .ok (.iload_n 1, 1) := by decide +kernel
theorem dX0_firstGreatestRemainder_23 : decode cX0_firstGreatestRemainder 23 = .ok (.laload, 1) := by decide +kernel
theorem dX0_firstGreatestRemainder_24 : decode cX0_firstGreatestRemainder 24 = .ok (.lcmp, 1) := by decide +kernel
theorem dX0_firstGreatestRemainder_25 : decode cX0_firstGreatestRemainder 25 = .ok (.ifCond .le 5, 3) := by decide +kernel
theorem dX0_firstGreatestRemainder_28 : decode cX0_firstGreatestRemainder 28 = .ok (.iload_n 2, 1) := by decide +kernel
theorem dX0_firstGreatestRemainder_29 : decode cX0_firstGreatestRemainder 29 = .ok (.istore_n 1, 1) := by decide +kernel
theorem dX0_firstGreatestRemainder_30 : decode cX0_firstGreatestRemainder 30 = .ok (.iinc 2 1, 3) := by decide +kernel
theorem dX0_firstGreatestRemainder_33 : decode cX0_firstGreatestRemainder 33 = .ok (.goto (-29), 3) := by decide +kernel
theorem dX0_firstGreatestRemainder_36 : decode cX0_firstGreatestRemainder 36 = .ok (.iload_n 1, 1) := by decide +kernel
theorem dX0_firstGreatestRemainder_37 : decode cX0_firstGreatestRemainder 37 = .ok (.ireturn, 1) := by decide +kernel
theorem dX0_giveOneByOne_0 : decode cX0_giveOneByOne 0 = .ok (.iconst 0, 1) := by decide +kernel
theorem dX0_giveOneByOne_1 : decode cX0_giveOneByOne 1 = .ok (.istore 4, 2) := by decide +kernel
theorem dX0_giveOneByOne_3 : decode cX0_giveOneByOne 3 = .ok (.iload 4, 2) := by decide +kernel
theorem dX0_giveOneByOne_5 : decode cX0_giveOneByOne 5 = .ok (.aload_n 0, 1) := by decide +kernel
theorem dX0_giveOneByOne_6 : decode cX0_giveOneByOne 6 = .ok (.getfield 116, 3) := by decide +kernel
theorem dX0_giveOneByOne_9 : decode cX0_giveOneByOne 9 = .ok (.if_icmp .ge 17, 3) := by decide +kernel
theorem dX0_giveOneByOne_12 : decode cX0_giveOneByOne 12 = .ok (.aload_n 0, 1) := by decide +kernel
theorem dX0_giveOneByOne_13 : decode cX0_giveOneByOne 13 = .ok (.getfield 27, 3) := by decide +kernel
theorem dX0_giveOneByOne_16 : decode cX0_giveOneByOne 16 = .ok (.iload 4, 2) := by decide +kernel
theorem dX0_giveOneByOne_18 : decode cX0_giveOneByOne 18 = .ok (.iconst 0, 1) := by decide +kernel
theorem dX0_giveOneByOne_19 : decode cX0_giveOneByOne 19 = .ok (.iastore, 1) := by decide +kernel
theorem dX0_giveOneByOne_20 : decode cX0_giveOneByOne 20 = .ok (.iinc 4 1, 3) := by decide +kernel
theorem dX0_giveOneByOne_23 : decode cX0_giveOneByOne 23 = .ok (.goto (-20), 3) := by decide +kernel
theorem dX0_giveOneByOne_26 : decode cX0_giveOneByOne 26 = .ok (.iconst 0, 1) := by decide +kernel
theorem dX0_giveOneByOne_27 : decode cX0_giveOneByOne 27 = .ok (.istore 4, 2) := by decide +kernel
theorem dX0_giveOneByOne_29 : decode cX0_giveOneByOne 29 = .ok (.iload 4, 2) := by decide +kernel
theorem dX0_giveOneByOne_31 : decode cX0_giveOneByOne 31 = .ok (.iload_n 2, 1) := by decide +kernel
theorem dX0_giveOneByOne_32 : decode cX0_giveOneByOne 32 = .ok (.if_icmp .ge 91, 3) := by decide +kernel
theorem dX0_giveOneByOne_35 : decode cX0_giveOneByOne 35 = .ok (.iconst 0, 1) := by decide +kernel
theorem dX0_giveOneByOne_36 : decode cX0_giveOneByOne 36 = .ok (.istore 5, 2) := by decide +kernel
theorem dX0_giveOneByOne_38 : decode cX0_giveOneByOne 38 = .ok (.iconst 1, 1) := by decide +kernel
theorem dX0_giveOneByOne_39 : decode cX0_giveOneByOne 39 = .ok (.istore 6, 2) := by decide +kernel
theorem dX0_giveOneByOne_41 : decode cX0_giveOneByOne 41 = .ok (.iload 6, 2) := by decide +kernel
theorem dX0_giveOneByOne_43 : decode cX0_giveOneByOne 43 = .ok (.aload_n 0, 1) := by decide +kernel
theorem dX0_giveOneByOne_44 : decode cX0_giveOneByOne 44 = .ok (.getfield 116, 3) := by decide +kernel
theorem dX0_giveOneByOne_47 : decode cX0_giveOneByOne 47 = .ok (.if_icmp .ge 59, 3) := by decide +kernel
theorem dX0_giveOneByOne_50 : decode cX0_giveOneByOne 50 = .ok (.iload_n 3, 1) := by decide +kernel
theorem dX0_giveOneByOne_51 : decode cX0_giveOneByOne 51 = .ok (.aload_n 0, 1) := by decide +kernel
theorem dX0_giveOneByOne_52 : decode cX0_giveOneByOne 52 = .ok (.getfield 27, 3) := by decide +kernel
theorem dX0_giveOneByOne_55 : decode cX0_giveOneByOne 55 = .ok (.iload 6, 2) := by decide +kernel
theorem dX0_giveOneByOne_57 : decode cX0_giveOneByOne 57 = .ok (.iaload, 1) := by decide +kernel
theorem dX0_giveOneByOne_58 : decode cX0_giveOneByOne 58 = .ok (.imul, 1) := by decide +kernel
theorem dX0_giveOneByOne_59 : decode cX0_giveOneByOne 59 = .ok (.iconst 1, 1) := by decide +kernel
theorem dX0_giveOneByOne_60 : decode cX0_giveOneByOne 60 = .ok (.iadd, 1) := by decide +kernel
theorem dX0_giveOneByOne_61 : decode cX0_giveOneByOne 61 = .ok (.i2l, 1) := by decide +kernel
theorem dX0_giveOneByOne_62 : decode cX0_giveOneByOne 62 = .ok (.lstore 7, 2) := by decide +kernel
theorem dX0_giveOneByOne_64 : decode cX0_giveOneByOne 64 = .ok (.iload_n 3, 1) := by decide +kernel
theorem dX0_giveOneByOne_65 : decode cX0_giveOneByOne 65 = .ok (.aload_n 0, 1) := by decide +kernel
theorem dX0_giveOneByOne_66 : decode cX0_giveOneByOne 66 = .ok (.getfield 27, 3) := by decide +kernel
theorem dX0_giveOneByOne_69 : decode cX0_giveOneByOne 69 = .ok (.iload 5, 2) := by decide +kernel
theorem dX0_giveOneByOne_71 : decode cX0_giveOneByOne 71 = .ok (.iaload, 1) := by decide +kernel
theorem dX0_giveOneByOne_72 : decode cX0_giveOneByOne 72 = .ok (.imul, 1) := by decide +kernel
theorem dX0_giveOneByOne_73 : decode cX0_giveOneByOne 73 = .ok (.iconst 1, 1) := by decide +kernel
theorem dX0_giveOneByOne_74 : decode cX0_giveOneByOne 74 = .ok (.iadd, 1) := by decide +kernel
theorem dX0_giveOneByOne_75 : decode cX0_giveOneByOne 75 = .ok (.i2l, 1) := by decide +kernel
theorem dX0_giveOneByOne_76 : decode cX0_giveOneByOne 76 = .ok (.lstore 9, 2) := by decide +kernel
theorem dX0_giveOneByOne_78 : decode cX0_giveOneByOne 78 = .ok (.aload_n 1, 1) := by decide +kernel
theorem dX0_giveOneByOne_79 : decode cX0_giveOneByOne 79 = .ok (.iload 6, 2) := by decide +kernel
theorem dX0_giveOneByOne_81 : decode cX0_giveOneByOne 81 = .ok (.laload, 1) := by decide +kernel
theorem dX0_giveOneByOne_82 : decode cX0_giveOneByOne 82 = .ok (.lload 9, 2) := by decide +kernel
theorem dX0_giveOneByOne_84 : decode cX0_giveOneByOne 84 = .ok (.lmul, 1) := by decide +kernel
theorem dX0_giveOneByOne_85 : decode cX0_giveOneByOne 85 = .ok (.aload_n 1, 1) := by decide +kernel
theorem dX0_giveOneByOne_86 : decode cX0_giveOneByOne 86 = .ok (.iload 5, 2) := by decide +kernel
theorem dX0_giveOneByOne_88 : decode cX0_giveOneByOne 88 = .ok (.laload, 1) := by decide +kernel
theorem dX0_giveOneByOne_89 : decode cX0_giveOneByOne 89 = .ok (.lload 7, 2) := by decide +kernel
theorem dX0_giveOneByOne_91 : decode cX0_giveOneByOne 91 = .ok (.lmul, 1) := by decide +kernel
theorem dX0_giveOneByOne_92 : decode cX0_giveOneByOne 92 = .ok (.lcmp, 1) := by decide +kernel
theorem dX0_giveOneByOne_93 : decode cX0_giveOneByOne 93 = .ok (.ifCond .le 7, 3) := by decide +kernel
theorem dX0_giveOneByOne_96 : decode cX0_giveOneByOne 96 = .ok (.iload 6, 2) := by decide +kernel
theorem dX0_giveOneByOne_98 : decode cX0_giveOneByOne 98 = .ok (.istore 5, 2) := by decide +kernel
theorem dX0_giveOneByOne_100 : decode cX0_giveOneByOne 100 = .ok (.iinc 6 1, 3) := by decide +kernel
theorem dX0_giveOneByOne_103 : decode cX0_giveOneByOne 103 = .ok (.goto (-62), 3) := by decide +kernel
theorem dX0_giveOneByOne_106 : decode cX0_giveOneByOne 106 = .ok (.aload_n 0, 1) := by decide +kernel
theorem dX0_giveOneByOne_107 : decode cX0_giveOneByOne 107 = .ok (.getfield 27, 3) := by decide +kernel
theorem dX0_giveOneByOne_110 : decode cX0_giveOneByOne 110 = .ok (.iload 5, 2) := by decide +kernel
theorem dX0_giveOneByOne_112 : decode cX0_giveOneByOne 112 = .ok (.dup2, 1) := by decide +kernel
theorem dX0_giveOneByOne_113 : decode cX0_giveOneByOne 113 = .ok (.iaload, 1) := by decide +kernel
theorem dX0_giveOneByOne_114 : decode cX0_giveOneByOne 114 = .ok (.iconst 1, 1) := by decide +kernel
theorem dX0_giveOneByOne_115 : decode cX0_giveOneByOne 115 = .ok (.iadd, 1) := by decide +kernel
theorem dX0_giveOneByOne_116 : decode cX0_giveOneByOne 116 = .ok (.iastore, 1) := by decide +kernel
theorem dX0_giveOneByOne_117 : decode cX0_giveOneByOne 117 = .ok (.iinc 4 1, 3) := by decide +kernel
theorem dX0_giveOneByOne_120 : decode cX0_giveOneByOne 120 = .ok (.goto (-91), 3) := by decide +kernel
theorem dX0_giveOneByOne_123 : decode cX0_giveOneByOne 123 = .ok (.return_, 1) := by decide +kernel
theorem dX0_countSeated_0 : decode cX0_countSeated 0 = .ok (.iconst 0, 1) := by decide +kernel
theorem dX0_countSeated_1 : decode cX0_countSeated 1 = .ok (.istore_n 1, 1) := by decide +kernel
theorem dX0_countSeated_2 : decode cX0_countSeated 2 = .ok (.iconst 0, 1) := by decide +kernel
theorem dX0_countSeated_3 : decode cX0_countSeated 3 = .ok (.istore_n 2, 1) := by decide +kernel
theorem dX0_countSeated_4 : decode cX0_countSeated 4 = .ok (.iload_n 2, 1) := by decide +kernel
theorem dX0_countSeated_5 : decode cX0_countSeated 5 = .ok (.aload_n 0, 1) := by decide +kernel
theorem dX0_countSeated_6 : decode cX0_countSeated 6 = .ok (.getfield 116, 3) := by decide +kernel
theorem dX0_countSeated_9 : decode cX0_countSeated 9 = .ok (.if_icmp .ge 21, 3) := by decide +kernel
theorem dX0_countSeated_12 : decode cX0_countSeated 12 = .ok (.aload_n 0, 1) := by decide +kernel
theorem dX0_countSeated_13 : decode cX0_countSeated 13 = .ok (.getfield 27, 3) := by decide +kernel
theorem dX0_countSeated_16 : decode cX0_countSeated 16 = .ok (.iload_n 2, 1) := by decide +kernel
theorem dX0_countSeated_17 : decode cX0_countSeated 17 = .ok (.iaload, 1) := by decide +kernel
theorem dX0_countSeated_18 : decode cX0_countSeated 18 = .ok (.ifCond .le 6, 3) := by decide +kernel
theorem dX0_countSeated_21 : decode cX0_countSeated 21 = .ok (.iinc 1 1, 3) := by decide +kernel
theorem dX0_countSeated_24 : decode cX0_countSeated 24 = .ok (.iinc 2 1, 3) := by decide +kernel
theorem dX0_countSeated_27 : decode cX0_countSeated 27 = .ok (.goto (-23), 3) := by decide +kernel
theorem dX0_countSeated_30 : decode cX0_countSeated 30 = .ok (.iload_n 1, 1) := by decide +kernel
theorem dX0_countSeated_31 : decode cX0_countSeated 31 = .ok (.ireturn, 1) := by decide +kernel
set_option maxRecDepth 20000 in
theorem ggX0_waysToReach_X0_waysToReach : GoodIn wsX0_waysToReach wsX0_waysToReach := goodIn_r _ [0, 1, 2, 3] (by decide +kernel) (by decide +kernel)
set_option maxRecDepth 20000 in
theorem gX0_waysToReach_X0_waysToReach : GoodIn wsX0_waysToReach (va_wsS RX0 144 yX0_waysToReach wsX0_waysToReach) := goodIn_app (goodIn_of _ (by decide +kernel)) ggX0_waysToReach_X0_waysToReach
theorem dX0_waysToReach_0 : decode cX0_waysToReach 0 = .ok (.iload_n 2, 1) := by decide +kernel
theorem dX0_waysToReach_1 : decode cX0_waysToReach 1 = .ok (.iconst 1, 1) := by decide +kernel
theorem dX0_waysToReach_2 : decode cX0_waysToReach 2 = .ok (.if_icmp .ge 15, 3) := by decide +kernel
theorem dX0_waysToReach_5 : decode cX0_waysToReach 5 = .ok (.lload_n 0, 1) := by decide +kernel
theorem dX0_waysToReach_6 : decode cX0_waysToReach 6 = .ok (.lconst 0, 1) := by decide +kernel
theorem dX0_waysToReach_7 : decode cX0_waysToReach 7 = .ok (.lcmp, 1) := by decide +kernel
theorem dX0_waysToReach_8 : decode cX0_waysToReach 8 = .ok (.ifCond .gt 7, 3) := by decide +kernel
theorem dX0_waysToReach_11 : decode cX0_waysToReach 11 = .ok (.iconst 1, 1) := by decide +kernel
theorem dX0_waysToReach_12 : decode cX0_waysToReach 12 = .ok (.goto 4, 3) := by decide +kernel
theorem dX0_waysToReach_15 : decode cX0_waysToReach 15 = .ok (.iconst 0, 1) := by decide +kernel
theorem dX0_waysToReach_16 : decode cX0_waysToReach 16 = .ok (.ireturn, 1) := by decide +kernel
theorem dX0_waysToReach_17 : decode cX0_waysToReach 17 = .ok (.iload_n 2, 1) := by decide +kernel
theorem dX0_waysToReach_18 : decode cX0_waysToReach 18 = .ok (.iload 5, 2) := by decide +kernel
theorem dX0_waysToReach_20 : decode cX0_waysToReach 20 = .ok (.iload 4, 2) := by decide +kernel
theorem dX0_waysToReach_22 : decode cX0_waysToReach 22 = .ok (.isub, 1) := by decide +kernel
theorem dX0_waysToReach_23 : decode cX0_waysToReach 23 = .ok (.if_icmp .gt 10, 3) := by decide +kernel
theorem dX0_waysToReach_26 : decode cX0_waysToReach 26 = .ok (.iload 4, 2) := by decide +kernel
theorem dX0_waysToReach_28 : decode cX0_waysToReach 28 = .ok (.aload_n 3, 1) := by decide +kernel
theorem dX0_waysToReach_29 : decode cX0_waysToReach 29 = .ok (.arraylength, 1) := by decide +kernel
theorem dX0_waysToReach_30 : decode cX0_waysToReach 30 = .ok (.if_icmp .lt 5, 3) := by decide +kernel
theorem dX0_waysToReach_33 : decode cX0_waysToReach 33 = .ok (.iconst 0, 1) := by decide +kernel
theorem dX0_waysToReach_34 : decode cX0_waysToReach 34 = .ok (.ireturn, 1) := by decide +kernel
theorem dX0_waysToReach_35 : decode cX0_waysToReach 35 = .ok (.lload_n 0, 1) := by decide +kernel
theorem dX0_waysToReach_36 : decode cX0_waysToReach 36 = .ok (.aload_n 3, 1) := by decide +kernel
theorem dX0_waysToReach_37 : decode cX0_waysToReach 37 = .ok (.iload 4, 2) := by decide +kernel
theorem dX0_waysToReach_39 : decode cX0_waysToReach 39 = .ok (.laload, 1) := by decide +kernel
theorem dX0_waysToReach_40 : decode cX0_waysToReach 40 = .ok (.lsub, 1) := by decide +kernel
theorem dX0_waysToReach_41 : decode cX0_waysToReach 41 = .ok (.iload_n 2, 1) := by decide +kernel
theorem dX0_waysToReach_42 : decode cX0_waysToReach 42 = .ok (.iconst 1, 1) := by decide +kernel
theorem dX0_waysToReach_43 : decode cX0_waysToReach 43 = .ok (.isub, 1) := by decide +kernel
theorem dX0_waysToReach_44 : decode cX0_waysToReach 44 = .ok (.aload_n 3, 1) := by decide +kernel
theorem dX0_waysToReach_45 : decode cX0_waysToReach 45 = .ok (.iload 4, 2) := by decide +kernel
theorem dX0_waysToReach_47 : decode cX0_waysToReach 47 = .ok (.iconst 1, 1) := by decide +kernel
theorem dX0_waysToReach_48 : decode cX0_waysToReach 48 = .ok (.iadd, 1) := by decide +kernel
theorem dX0_waysToReach_49 : decode cX0_waysToReach 49 = .ok (.iload 5, 2) := by decide +kernel
theorem dX0_waysToReach_51 : decode cX0_waysToReach 51 = .ok (.invokestatic 144, 3) := by decide +kernel
theorem dX0_waysToReach_54 : decode cX0_waysToReach 54 = .ok (.lload_n 0, 1) := by decide +kernel
theorem dX0_waysToReach_55 : decode cX0_waysToReach 55 = .ok (.iload_n 2, 1) := by decide +kernel
theorem dX0_waysToReach_56 : decode cX0_waysToReach 56 = .ok (.aload_n 3, 1) := by decide +kernel
theorem dX0_waysToReach_57 : decode cX0_waysToReach 57 = .ok (.iload 4, 2) := by decide +kernel
theorem dX0_waysToReach_59 : decode cX0_waysToReach 59 = .ok (.iconst 1, 1) := by decide +kernel
theorem dX0_waysToReach_60 : decode cX0_waysToReach 60 = .ok (.iadd, 1) := by decide +kernel
theorem dX0_waysToReach_61 : decode cX0_waysToReach 61 = .ok (.iload 5, 2) := by decide +kernel
theorem dX0_waysToReach_63 : decode cX0_waysToReach 63 = .ok (.invokestatic 144, 3) := by decide +kernel
theorem dX0_waysToReach_66 : decode cX0_waysToReach 66 = .ok (.iadd, 1) := by decide +kernel
theorem dX0_waysToReach_67 : decode cX0_waysToReach 67 = .ok (.ireturn, 1) := by decide +kernel
theorem dX0_choose_0 : decode cX0_choose 0 = .ok (.iload_n 1, 1) := by decide +kernel
theorem dX0_choose_1 : decode cX0_choose 1 = .ok (.ifCond .lt 8, 3) := by decide +kernel
theorem dX0_choose_4 : decode cX0_choose 4 = .ok (.iload_n 1, 1) := by decide +kernel
theorem dX0_choose_5 : decode cX0_choose 5 = .ok (.iload_n 0, 1) := by decide +kernel
theorem dX0_choose_6 : decode cX0_choose 6 = .ok (.if_icmp .le 5, 3) := by decide +kernel
theorem dX0_choose_9 : decode cX0_choose 9 = .ok (.lconst 0, 1) := by decide +kernel
theorem dX0_choose_10 : decode cX0_choose 10 = .ok (.lreturn, 1) := by decide +kernel
theorem dX0_choose_11 : decode cX0_choose 11 = .ok (.lconst 1, 1) := by decide +kernel
theorem dX0_choose_12 : decode cX0_choose 12 = .ok (.lstore_n 2, 1) := by decide +kernel
theorem dX0_choose_13 : decode cX0_choose 13 = .ok (.iconst 0, 1) := by decide +kernel
theorem dX0_choose_14 : decode cX0_choose 14 = .ok (.istore 4, 2) := by decide +kernel
theorem dX0_choose_16 : decode cX0_choose 16 = .ok (.iload 4, 2) := by decide +kernel
theorem dX0_choose_18 : decode cX0_choose 18 = .ok (.iload_n 1, 1) := by decide +kernel
theorem dX0_choose_19 : decode cX0_choose 19 = .ok (.if_icmp .ge 23, 3) := by decide +kernel
theorem dX0_choose_22 : decode cX0_choose 22 = .ok (.lload_n 2, 1) := by decide +kernel
theorem dX0_choose_23 : decode cX0_choose 23 = .ok (.iload_n 0, 1) := by decide +kernel
theorem dX0_choose_24 : decode cX0_choose 24 = .ok (.iload 4, 2) := by decide +kernel
theorem dX0_choose_26 : decode cX0_choose 26 = .ok (.isub, 1) := by decide +kernel
theorem dX0_choose_27 : decode cX0_choose 27 = .ok (.i2l, 1) := by decide +kernel
theorem dX0_choose_28 : decode cX0_choose 28 = .ok (.lmul, 1) := by decide +kernel
theorem dX0_choose_29 : decode cX0_choose 29 = .ok (.iload 4, 2) := by decide +kernel
theorem dX0_choose_31 : decode cX0_choose 31 = .ok (.iconst 1, 1) := by decide +kernel
theorem dX0_choose_32 : decode cX0_choose 32 = .ok (.iadd, 1) := by decide +kernel
theorem dX0_choose_33 : decode cX0_choose 33 = .ok (.i2l, 1) := by decide +kernel
theorem dX0_choose_34 : decode cX0_choose 34 = .ok (.ldiv, 1) := by decide +kernel
theorem dX0_choose_35 : decode cX0_choose 35 = .ok (.lstore_n 2, 1) := by decide +kernel
theorem dX0_choose_36 : decode cX0_choose 36 = .ok (.iinc 4 1, 3) := by decide +kernel
theorem dX0_choose_39 : decode cX0_choose 39 = .ok (.goto (-23), 3) := by decide +kernel
theorem dX0_choose_42 : decode cX0_choose 42 = .ok (.lload_n 2, 1) := by decide +kernel
theorem dX0_choose_43 : decode cX0_choose 43 = .ok (.lreturn, 1) := by decide +kernel
theorem dX0_times_0 : decode cX0_times 0 = .ok (.lload_n 0, 1) := by decide +kernel
theorem dX0_times_1 : decode cX0_times 1 = .ok (.ldc2_w 36, 3) := by decide +kernel
theorem dX0_times_4 : decode cX0_times 4 = .ok (.lcmp, 1) := by decide +kernel
theorem dX0_times_5 : decode cX0_times 5 = .ok (.ifCond .eq 11, 3) := by decide +kernel
theorem dX0_times_8 : decode cX0_times 8 = .ok (.lload_n 2, 1) := by decide +kernel
theorem dX0_times_9 : decode cX0_times 9 = .ok (.ldc2_w 36, 3) := by decide +kernel
theorem dX0_times_12 : decode cX0_times 12 = .ok (.lcmp, 1) := by decide +kernel
theorem dX0_times_13 : decode cX0_times 13 = .ok (.ifCond .ne 7, 3) := by decide +kernel
theorem dX0_times_16 : decode cX0_times 16 = .ok (.ldc2_w 36, 3) := by decide +kernel
theorem dX0_times_19 : decode cX0_times 19 = .ok (.lreturn, 1) := by decide +kernel
theorem dX0_times_20 : decode cX0_times 20 = .ok (.lload_n 2, 1) := by decide +kernel
theorem dX0_times_21 : decode cX0_times 21 = .ok (.lconst 0, 1) := by decide +kernel
theorem dX0_times_22 : decode cX0_times 22 = .ok (.lcmp, 1) := by decide +kernel
theorem dX0_times_23 : decode cX0_times 23 = .ok (.ifCond .eq 25, 3) := by decide +kernel
theorem dX0_times_26 : decode cX0_times 26 = .ok (.lload_n 0, 1) := by decide +kernel
theorem dX0_times_27 : decode cX0_times 27 = .ok (.invokestatic 179, 3) := by decide +kernel
theorem dX0_times_30 : decode cX0_times 30 = .ok (.ldc2_w 183, 3) := by decide +kernel
theorem dX0_times_33 : decode cX0_times 33 = .ok (.lload_n 2, 1) := by decide +kernel
theorem dX0_times_34 : decode cX0_times 34 = .ok (.invokestatic 179, 3) := by decide +kernel
theorem dX0_times_37 : decode cX0_times 37 = .ok (.ldiv, 1) := by decide +kernel
theorem dX0_times_38 : decode cX0_times 38 = .ok (.lcmp, 1) := by decide +kernel
theorem dX0_times_39 : decode cX0_times 39 = .ok (.ifCond .le 9, 3) := by decide +kernel
theorem dX0_times_42 : decode cX0_times 42 = .ok (.ldc2_w 36, 3) := by decide +kernel
theorem dX0_times_45 : decode cX0_times 45 = .ok (.goto 6, 3) := by decide +kernel
theorem dX0_times_48 : decode cX0_times 48 = .ok (.lload_n 0, 1) := by decide +kernel
theorem dX0_times_49 : decode cX0_times 49 = .ok (.lload_n 2, 1) := by decide +kernel
theorem dX0_times_50 : decode cX0_times 50 = .ok (.lmul, 1) := by decide +kernel
theorem dX0_times_51 : decode cX0_times 51 = .ok (.lreturn, 1) := by decide +kernel
theorem dX0_plus_0 : decode cX0_plus 0 = .ok (.lload_n 0, 1) := by decide +kernel
theorem dX0_plus_1 : decode cX0_plus 1 = .ok (.ldc2_w 36, 3) := by decide +kernel
theorem dX0_plus_4 : decode cX0_plus 4 = .ok (.lcmp, 1) := by decide +kernel
theorem dX0_plus_5 : decode cX0_plus 5 = .ok (.ifCond .eq 11, 3) := by decide +kernel
theorem dX0_plus_8 : decode cX0_plus 8 = .ok (.lload_n 2, 1) := by decide +kernel
theorem dX0_plus_9 : decode cX0_plus 9 = .ok (.ldc2_w 36, 3) := by decide +kernel
theorem dX0_plus_12 : decode cX0_plus 12 = .ok (.lcmp, 1) := by decide +kernel
theorem dX0_plus_13 : decode cX0_plus 13 = .ok (.ifCond .ne 7, 3) := by decide +kernel
theorem dX0_plus_16 : decode cX0_plus 16 = .ok (.ldc2_w 36, 3) := by decide +kernel
theorem dX0_plus_19 : decode cX0_plus 19 = .ok (.lreturn, 1) := by decide +kernel
theorem dX0_plus_20 : decode cX0_plus 20 = .ok (.lload_n 0, 1) := by decide +kernel
theorem dX0_plus_21 : decode cX0_plus 21 = .ok (.lload_n 2, 1) := by decide +kernel
theorem dX0_plus_22 : decode cX0_plus 22 = .ok (.ladd, 1) := by decide +kernel
theorem dX0_plus_23 : decode cX0_plus 23 = .ok (.lstore 4, 2) := by decide +kernel
theorem dX0_plus_25 : decode cX0_plus 25 = .ok (.lload_n 0, 1) := by decide +kernel
theorem dX0_plus_26 : decode cX0_plus 26 = .ok (.lconst 0, 1) := by decide +kernel
theorem dX0_plus_27 : decode cX0_plus 27 = .ok (.lcmp, 1) := by decide +kernel
theorem dX0_plus_28 : decode cX0_plus 28 = .ok (.ifCond .le 16, 3) := by decide +kernel
theorem dX0_plus_31 : decode cX0_plus 31 = .ok (.lload_n 2, 1) := by decide +kernel
theorem dX0_plus_32 : decode cX0_plus 32 = .ok (.lconst 0, 1) := by decide +kernel
theorem dX0_plus_33 : decode cX0_plus 33 = .ok (.lcmp, 1) := by decide +kernel
theorem dX0_plus_34 : decode cX0_plus 34 = .ok (.ifCond .le 10, 3) := by decide +kernel
theorem dX0_plus_37 : decode cX0_plus 37 = .ok (.lload 4, 2) := by decide +kernel
theorem dX0_plus_39 : decode cX0_plus 39 = .ok (.lconst 0, 1) := by decide +kernel
theorem dX0_plus_40 : decode cX0_plus 40 = .ok (.lcmp, 1) := by decide +kernel
theorem dX0_plus_41 : decode cX0_plus 41 = .ok (.ifCond .lt 22, 3) := by decide +kernel
theorem dX0_plus_44 : decode cX0_plus 44 = .ok (.lload_n 0, 1) := by decide +kernel
theorem dX0_plus_45 : decode cX0_plus 45 = .ok (.lconst 0, 1) := by decide +kernel
theorem dX0_plus_46 : decode cX0_plus 46 = .ok (.lcmp, 1) := by decide +kernel
theorem dX0_plus_47 : decode cX0_plus 47 = .ok (.ifCond .ge 20, 3) := by decide +kernel
theorem dX0_plus_50 : decode cX0_plus 50 = .ok (.lload_n 2, 1) := by decide +kernel
theorem dX0_plus_51 : decode cX0_plus 51 = .ok (.lconst 0, 1) := by decide +kernel
theorem dX0_plus_52 : decode cX0_plus 52 = .ok (.lcmp, 1) := by decide +kernel
theorem dX0_plus_53 : decode cX0_plus 53 = .ok (.ifCond .ge 14, 3) := by decide +kernel
theorem dX0_plus_56 : decode cX0_plus 56 = .ok (.lload 4, 2) := by decide +kernel
theorem dX0_plus_58 : decode cX0_plus 58 = .ok (.lconst 0, 1) := by decide +kernel
theorem dX0_plus_59 : decode cX0_plus 59 = .ok (.lcmp, 1) := by decide +kernel
theorem dX0_plus_60 : decode cX0_plus 60 = .ok (.ifCond .lt 7, 3) := by decide +kernel
theorem dX0_plus_63 : decode cX0_plus 63 = .ok (.iconst 1, 1) := by decide +kernel
theorem dX0_plus_64 : decode cX0_plus 64 = .ok (.goto 4, 3) := by decide +kernel
theorem dX0_plus_67 : decode cX0_plus 67 = .ok (.iconst 0, 1) := by decide +kernel
theorem dX0_plus_68 : decode cX0_plus 68 = .ok (.istore 6, 2) := by decide +kernel
theorem dX0_plus_70 : decode cX0_plus 70 = .ok (.iload 6, 2) := by decide +kernel
theorem dX0_plus_72 : decode cX0_plus 72 = .ok (.ifCond .eq 9, 3) := by decide +kernel
theorem dX0_plus_75 : decode cX0_plus 75 = .ok (.ldc2_w 36, 3) := by decide +kernel
theorem dX0_plus_78 : decode cX0_plus 78 = .ok (.goto 5, 3) := by decide +kernel
theorem dX0_plus_81 : decode cX0_plus 81 = .ok (.lload 4, 2) := by decide +kernel
theorem dX0_plus_83 : decode cX0_plus 83 = .ok (.lreturn, 1) := by decide +kernel
set_option maxRecDepth 20000 in
theorem ggX0_power_X0_times : GoodIn wsX0_power wsX0_times := goodIn_r _ [4, 5, 6, 7, 8, 9, 10] (by decide +kernel) (by decide +kernel)
set_option maxRecDepth 20000 in
theorem gX0_power_X0_times : GoodIn wsX0_power (va_wsS RX0 90 yX0_times wsX0_times) := goodIn_app (goodIn_of _ (by decide +kernel)) ggX0_power_X0_times
theorem dX0_power_0 : decode cX0_power 0 = .ok (.lconst 1, 1) := by decide +kernel
theorem dX0_power_1 : decode cX0_power 1 = .ok (.lstore_n 3, 1) := by decide +kernel
theorem dX0_power_2 : decode cX0_power 2 = .ok (.iconst 0, 1) := by decide +kernel
theorem dX0_power_3 : decode cX0_power 3 = .ok (.istore 5, 2) := by decide +kernel
theorem dX0_power_5 : decode cX0_power 5 = .ok (.iload 5, 2) := by decide +kernel
theorem dX0_power_7 : decode cX0_power 7 = .ok (.iload_n 2, 1) := by decide +kernel
theorem dX0_power_8 : decode cX0_power 8 = .ok (.if_icmp .ge 15, 3) := by decide +kernel
theorem dX0_power_11 : decode cX0_power 11 = .ok (.lload_n 3, 1) := by decide +kernel
theorem dX0_power_12 : decode cX0_power 12 = .ok (.lload_n 0, 1) := by decide +kernel
theorem dX0_power_13 : decode cX0_power 13 = .ok (.invokestatic 90, 3) := by decide +kernel
theorem dX0_power_16 : decode cX0_power 16 = .ok (.lstore_n 3, 1) := by decide +kernel
theorem dX0_power_17 : decode cX0_power 17 = .ok (.iinc 5 1, 3) := by decide +kernel
theorem dX0_power_20 : decode cX0_power 20 = .ok (.goto (-15), 3) := by decide +kernel
theorem dX0_power_23 : decode cX0_power 23 = .ok (.lload_n 3, 1) := by decide +kernel
theorem dX0_power_24 : decode cX0_power 24 = .ok (.lreturn, 1) := by decide +kernel
theorem dX0_greatestDivisor_0 : decode cX0_greatestDivisor 0 = .ok (.lload_n 0, 1) := by decide +kernel
theorem dX0_greatestDivisor_1 : decode cX0_greatestDivisor 1 = .ok (.invokestatic 179, 3) := by decide +kernel
theorem dX0_greatestDivisor_4 : decode cX0_greatestDivisor 4 = .ok (.lstore 4, 2) := by decide +kernel
theorem dX0_greatestDivisor_6 : decode cX0_greatestDivisor 6 = .ok (.lload_n 2, 1) := by decide +kernel
theorem dX0_greatestDivisor_7 : decode cX0_greatestDivisor 7 = .ok (.invokestatic 179, 3) := by decide +kernel
theorem dX0_greatestDivisor_10 : decode cX0_greatestDivisor 10 = .ok (.lstore 6, 2) := by decide +kernel
theorem dX0_greatestDivisor_12 : decode cX0_greatestDivisor 12 = .ok (.iconst 0, 1) := by decide +kernel
theorem dX0_greatestDivisor_13 : decode cX0_greatestDivisor 13 = .ok (.istore 8, 2) := by decide +kernel
theorem dX0_greatestDivisor_15 : decode cX0_greatestDivisor 15 = .ok (.iload 8, 2) := by decide +kernel
theorem dX0_greatestDivisor_17 : decode cX0_greatestDivisor 17 = .ok (.sipush 200, 3) := by decide +kernel
theorem dX0_greatestDivisor_20 : decode cX0_greatestDivisor 20 = .ok (.if_icmp .ge 31, 3) := by decide +kernel
theorem dX0_greatestDivisor_23 : decode cX0_greatestDivisor 23 = .ok (.lload 6, 2) := by decide +kernel
theorem dX0_greatestDivisor_25 : decode cX0_greatestDivisor 25 = .ok (.lconst 0, 1) := by decide +kernel
theorem dX0_greatestDivisor_26 : decode cX0_greatestDivisor 26 = .ok (.lcmp, 1) := by decide +kernel
theorem dX0_greatestDivisor_27 : decode cX0_greatestDivisor 27 = .ok (.ifCond .eq 24, 3) := by decide +kernel
theorem dX0_greatestDivisor_30 : decode cX0_greatestDivisor 30 = .ok (.lload 4, 2) := by decide +kernel
theorem dX0_greatestDivisor_32 : decode cX0_greatestDivisor 32 = .ok (.lload 6, 2) := by decide +kernel
theorem dX0_greatestDivisor_34 : decode cX0_greatestDivisor 34 = .ok (.lrem, 1) := by decide +kernel
theorem dX0_greatestDivisor_35 : decode cX0_greatestDivisor 35 = .ok (.lstore 9, 2) := by decide +kernel
theorem dX0_greatestDivisor_37 : decode cX0_greatestDivisor 37 = .ok (.lload 6, 2) := by decide +kernel
theorem dX0_greatestDivisor_39 : decode cX0_greatestDivisor 39 = .ok (.lstore 4, 2) := by decide +kernel
theorem dX0_greatestDivisor_41 : decode cX0_greatestDivisor 41 = .ok (.lload 9, 2) := by decide +kernel
theorem dX0_greatestDivisor_43 : decode cX0_greatestDivisor 43 = .ok (.lstore 6, 2) := by decide +kernel
theorem dX0_greatestDivisor_45 : decode cX0_greatestDivisor 45 = .ok (.iinc 8 1, 3) := by decide +kernel
theorem dX0_greatestDivisor_48 : decode cX0_greatestDivisor 48 = .ok (.goto (-33), 3) := by decide +kernel
theorem dX0_greatestDivisor_51 : decode cX0_greatestDivisor 51 = .ok (.lconst 1, 1) := by decide +kernel
theorem dX0_greatestDivisor_52 : decode cX0_greatestDivisor 52 = .ok (.lload 4, 2) := by decide +kernel
theorem dX0_greatestDivisor_54 : decode cX0_greatestDivisor 54 = .ok (.invokestatic 185, 3) := by decide +kernel
theorem dX0_greatestDivisor_57 : decode cX0_greatestDivisor 57 = .ok (.lreturn, 1) := by decide +kernel
set_option maxRecDepth 20000 in
theorem ggX0_compared_J9_floorDiv_f86c9 : GoodIn wsX0_compared wsJ9_floorDiv_f86c9 := goodIn_r _ [4] (by decide +kernel) (by decide +kernel)
set_option maxRecDepth 20000 in
theorem gX0_compared_J9_floorDiv_f86c9 : GoodIn wsX0_compared (va_wsS RX0 94 yJ9_floorDiv_f86c9 wsJ9_floorDiv_f86c9) := goodIn_app (goodIn_of _ (by decide +kernel)) ggX0_compared_J9_floorDiv_f86c9
theorem dX0_compared_0 : decode cX0_compared 0 = .ok (.iconst 1, 1) := by decide +kernel
theorem dX0_compared_1 : decode cX0_compared 1 = .ok (.istore 8, 2) := by decide +kernel
theorem dX0_compared_3 : decode cX0_compared 3 = .ok (.iconst 0, 1) := by decide +kernel
theorem dX0_compared_4 : decode cX0_compared 4 = .ok (.istore 9, 2) := by decide +kernel
theorem dX0_compared_6 : decode cX0_compared 6 = .ok (.iload 9, 2) := by decide +kernel
theorem dX0_compared_8 : decode cX0_compared 8 = .ok (.sipush 200, 3) := by decide +kernel
theorem dX0_compared_11 : decode cX0_compared 11 = .ok (.if_icmp .ge 142, 3) := by decide +kernel
theorem dX0_compared_14 : decode cX0_compared 14 = .ok (.lload_n 2, 1) := by decide +kernel
theorem dX0_compared_15 : decode cX0_compared 15 = .ok (.lconst 0, 1) := by decide +kernel
theorem dX0_compared_16 : decode cX0_compared 16 = .ok (.lcmp, 1) := by decide +kernel
theorem dX0_compared_17 : decode cX0_compared 17 = .ok (.ifCond .le 136, 3) := by decide +kernel
theorem dX0_compared_20 : decode cX0_compared 20 = .ok (.lload 6, 2) := by decide +kernel
theorem dX0_compared_22 : decode cX0_compared 22 = .ok (.lconst 0, 1) := by decide +kernel
theorem dX0_compared_23 : decode cX0_compared 23 = .ok (.lcmp, 1) := by decide +kernel
theorem dX0_compared_24 : decode cX0_compared 24 = .ok (.ifCond .le 129, 3) := by decide +kernel
theorem dX0_compared_27 : decode cX0_compared 27 = .ok (.lload_n 0, 1) := by decide +kernel
theorem dX0_compared_28 : decode cX0_compared 28 = .ok (.lload_n 2, 1) := by decide +kernel
theorem dX0_compared_29 : decode cX0_compared 29 = .ok (.invokestatic 94, 3) := by decide +kernel
theorem dX0_compared_32 : decode cX0_compared 32 = .ok (.lstore 10, 2) := by decide +kernel
theorem dX0_compared_34 : decode cX0_compared 34 = .ok (.lload 4, 2) := by decide +kernel
theorem dX0_compared_36 : decode cX0_compared 36 = .ok (.lload 6, 2) := by decide +kernel
theorem dX0_compared_38 : decode cX0_compared 38 = .ok (.invokestatic 94, 3) := by decide +kernel
theorem dX0_compared_41 : decode cX0_compared 41 = .ok (.lstore 12, 2) := by decide +kernel
theorem dX0_compared_43 : decode cX0_compared 43 = .ok (.lload 10, 2) := by decide +kernel
theorem dX0_compared_45 : decode cX0_compared 45 = .ok (.lload 12, 2) := by decide +kernel
theorem dX0_compared_47 : decode cX0_compared 47 = .ok (.lcmp, 1) := by decide +kernel
theorem dX0_compared_48 : decode cX0_compared 48 = .ok (.ifCond .eq 20, 3) := by decide +kernel
theorem dX0_compared_51 : decode cX0_compared 51 = .ok (.lload 10, 2) := by decide +kernel
theorem dX0_compared_53 : decode cX0_compared 53 = .ok (.lload 12, 2) := by decide +kernel
theorem dX0_compared_55 : decode cX0_compared 55 = .ok (.lcmp, 1) := by decide +kernel
theorem dX0_compared_56 : decode cX0_compared 56 = .ok (.ifCond .ge 9, 3) := by decide +kernel
theorem dX0_compared_59 : decode cX0_compared 59 = .ok (.iload 8, 2) := by decide +kernel
theorem dX0_compared_61 : decode cX0_compared 61 = .ok (.ineg, 1) := by decide +kernel
theorem dX0_compared_62 : decode cX0_compared 62 = .ok (.goto 5, 3) := by decide +kernel
theorem dX0_compared_65 : decode cX0_compared 65 = .ok (.iload 8, 2) := by decide +kernel
theorem dX0_compared_67 : decode cX0_compared 67 = .ok (.ireturn, 1) := by decide +kernel
theorem dX0_compared_68 : decode cX0_compared 68 = .ok (.lload_n 0, 1) := by decide +kernel
theorem dX0_compared_69 : decode cX0_compared 69 = .ok (.lload 10, 2) := by decide +kernel
theorem dX0_compared_71 : decode cX0_compared 71 = .ok (.lload_n 2, 1) := by decide +kernel
theorem dX0_compared_72 : decode cX0_compared 72 = .ok (.lmul, 1) := by decide +kernel
theorem dX0_compared_73 : decode cX0_compared 73 = .ok (.lsub, 1) := by decide +kernel
theorem dX0_compared_74 : decode cX0_compared 74 = .ok (.lstore 14, 2) := by decide +kernel
theorem dX0_compared_76 : decode cX0_compared 76 = .ok (.lload 4, 2) := by decide +kernel
theorem dX0_compared_78 : decode cX0_compared 78 = .ok (.lload 12, 2) := by decide +kernel
theorem dX0_compared_80 : decode cX0_compared 80 = .ok (.lload 6, 2) := by decide +kernel
theorem dX0_compared_82 : decode cX0_compared 82 = .ok (.lmul, 1) := by decide +kernel
theorem dX0_compared_83 : decode cX0_compared 83 = .ok (.lsub, 1) := by decide +kernel
theorem dX0_compared_84 : decode cX0_compared 84 = .ok (.lstore 16, 2) := by decide +kernel
theorem dX0_compared_86 : decode cX0_compared 86 = .ok (.lload 14, 2) := by decide +kernel
theorem dX0_compared_88 : decode cX0_compared 88 = .ok (.lconst 0, 1) := by decide +kernel
theorem dX0_compared_89 : decode cX0_compared 89 = .ok (.lcmp, 1) := by decide +kernel
theorem dX0_compared_90 : decode cX0_compared 90 = .ok (.ifCond .eq 10, 3) := by decide +kernel
theorem dX0_compared_93 : decode cX0_compared 93 = .ok (.lload 16, 2) := by decide +kernel
theorem dX0_compared_95 : decode cX0_compared 95 = .ok (.lconst 0, 1) := by decide +kernel
theorem dX0_compared_96 : decode cX0_compared 96 = .ok (.lcmp, 1) := by decide +kernel
theorem dX0_compared_97 : decode cX0_compared 97 = .ok (.ifCond .ne 32, 3) := by decide +kernel
theorem dX0_compared_100 : decode cX0_compared 100 = .ok (.lload 14, 2) := by decide +kernel
theorem dX0_compared_102 : decode cX0_compared 102 = .ok (.lload 16, 2) := by decide +kernel
theorem dX0_compared_104 : decode cX0_compared 104 = .ok (.lcmp, 1) := by decide +kernel
theorem dX0_compared_105 : decode cX0_compared 105 = .ok (.ifCond .ge 9, 3) := by decide +kernel
theorem dX0_compared_108 : decode cX0_compared 108 = .ok (.iload 8, 2) := by decide +kernel
theorem dX0_compared_110 : decode cX0_compared 110 = .ok (.ineg, 1) := by decide +kernel
theorem dX0_compared_111 : decode cX0_compared 111 = .ok (.goto 17, 3) := by decide +kernel
theorem dX0_compared_114 : decode cX0_compared 114 = .ok (.lload 14, 2) := by decide +kernel
theorem dX0_compared_116 : decode cX0_compared 116 = .ok (.lload 16, 2) := by decide +kernel
theorem dX0_compared_118 : decode cX0_compared 118 = .ok (.lcmp, 1) := by decide +kernel
theorem dX0_compared_119 : decode cX0_compared 119 = .ok (.ifCond .le 8, 3) := by decide +kernel
theorem dX0_compared_122 : decode cX0_compared 122 = .ok (.iload 8, 2) := by decide +kernel
theorem dX0_compared_124 : decode cX0_compared 124 = .ok (.goto 4, 3) := by decide +kernel
theorem dX0_compared_127 : decode cX0_compared 127 = .ok (.iconst 0, 1) := by decide +kernel
theorem dX0_compared_128 : decode cX0_compared 128 = .ok (.ireturn, 1) := by decide +kernel
theorem dX0_compared_129 : decode cX0_compared 129 = .ok (.lload_n 2, 1) := by decide +kernel
theorem dX0_compared_130 : decode cX0_compared 130 = .ok (.lstore_n 0, 1) := by decide +kernel
theorem dX0_compared_131 : decode cX0_compared 131 = .ok (.lload 14, 2) := by decide +kernel
theorem dX0_compared_133 : decode cX0_compared 133 = .ok (.lstore_n 2, 1) := by decide +kernel
theorem dX0_compared_134 : decode cX0_compared 134 = .ok (.lload 6, 2) := by decide +kernel
theorem dX0_compared_136 : decode cX0_compared 136 = .ok (.lstore 4, 2) := by decide +kernel
theorem dX0_compared_138 : decode cX0_compared 138 = .ok (.lload 16, 2) := by decide +kernel
theorem dX0_compared_140 : decode cX0_compared 140 = .ok (.lstore 6, 2) := by decide +kernel
theorem dX0_compared_142 : decode cX0_compared 142 = .ok (.iload 8, 2) := by decide +kernel
theorem dX0_compared_144 : decode cX0_compared 144 = .ok (.ineg, 1) := by decide +kernel
theorem dX0_compared_145 : decode cX0_compared 145 = .ok (.istore 8, 2) := by decide +kernel
theorem dX0_compared_147 : decode cX0_compared 147 = .ok (.iinc 9 1, 3) := by decide +kernel
theorem dX0_compared_150 : decode cX0_compared 150 = .ok (.goto (-144), 3) := by decide +kernel
theorem dX0_compared_153 : decode cX0_compared 153 = .ok (.iconst 0, 1) := by decide +kernel
theorem dX0_compared_154 : decode cX0_compared 154 = .ok (.ireturn, 1) := by decide +kernel
end
section
theorem dX1_init_0 : decode cX1_init 0 = .ok (.aload_n 0, 1) := by decide +kernel
theorem dX1_init_1 : decode cX1_init 1 = .ok (.invokespecial 1, 3) := by decide +kernel
theorem dX1_init_4 : decode cX1_init 4 = .ok (.aload_n 0, 1) := by decide +kernel
theorem dX1_init_5 : decode cX1_init 5 = .ok (.bipush 41, 2) := by decide +kernel
theorem dX1_init_7 : decode cX1_init 7 = .ok (.newarray .long, 2) := by decide +kernel
theorem dX1_init_9 : decode cX1_init 9 = .ok (.putfield 7, 3) := by decide +kernel
theorem dX1_init_12 : decode cX1_init 12 = .ok (.aload_n 0, 1) := by decide +kernel
theorem dX1_init_13 : decode cX1_init 13 = .ok (.bipush 41, 2) := by decide +kernel
theorem dX1_init_15 : decode cX1_init 15 = .ok (.newarray .long, 2) := by decide +kernel
theorem dX1_init_17 : decode cX1_init 17 = .ok (.putfield 13, 3) := by decide +kernel
theorem dX1_init_20 : decode cX1_init 20 = .ok (.aload_n 0, 1) := by decide +kernel
theorem dX1_init_21 : decode cX1_init 21 = .ok (.bipush 32, 2) := by decide +kernel
theorem dX1_init_23 : decode cX1_init 23 = .ok (.newarray .long, 2) := by decide +kernel
theorem dX1_init_25 : decode cX1_init 25 = .ok (.putfield 16, 3) := by decide +kernel
theorem dX1_init_28 : decode cX1_init 28 = .ok (.aload_n 0, 1) := by decide +kernel
theorem dX1_init_29 : decode cX1_init 29 = .ok (.iconst 4, 1) := by decide +kernel
theorem dX1_init_30 : decode cX1_init 30 = .ok (.newarray .int, 2) := by decide +kernel
theorem dX1_init_32 : decode cX1_init 32 = .ok (.putfield 19, 3) := by decide +kernel
theorem dX1_init_35 : decode cX1_init 35 = .ok (.aload_n 0, 1) := by decide +kernel
theorem dX1_init_36 : decode cX1_init 36 = .ok (.bipush (-5), 2) := by decide +kernel
theorem dX1_init_38 : decode cX1_init 38 = .ok (.putfield 23, 3) := by decide +kernel
theorem dX1_init_41 : decode cX1_init 41 = .ok (.aload_n 0, 1) := by decide +kernel
theorem dX1_init_42 : decode cX1_init 42 = .ok (.bipush 8, 2) := by decide +kernel
theorem dX1_init_44 : decode cX1_init 44 = .ok (.newarray .int, 2) := by decide +kernel
theorem dX1_init_46 : decode cX1_init 46 = .ok (.putfield 27, 3) := by decide +kernel
theorem dX1_init_49 : decode cX1_init 49 = .ok (.aload_n 0, 1) := by decide +kernel
theorem dX1_init_50 : decode cX1_init 50 = .ok (.bipush 8, 2) := by decide +kernel
theorem dX1_init_52 : decode cX1_init 52 = .ok (.newarray .long, 2) := by decide +kernel
theorem dX1_init_54 : decode cX1_init 54 = .ok (.putfield 30, 3) := by decide +kernel
theorem dX1_init_57 : decode cX1_init 57 = .ok (.aload_n 0, 1) := by decide +kernel
theorem dX1_init_58 : decode cX1_init 58 = .ok (.bipush 7, 2) := by decide +kernel
theorem dX1_init_60 : decode cX1_init 60 = .ok (.newarray .long, 2) := by decide +kernel
theorem dX1_init_62 : decode cX1_init 62 = .ok (.putfield 33, 3) := by decide +kernel
theorem dX1_init_65 : decode cX1_init 65 = .ok (.aload_n 0, 1) := by decide +kernel
theorem dX1_init_66 : decode cX1_init 66 = .ok (.bipush 7, 2) := by decide +kernel
theorem dX1_init_68 : decode cX1_init 68 = .ok (.newarray .long, 2) := by decide +kernel
theorem dX1_init_70 : decode cX1_init 70 = .ok (.putfield 36, 3) := by decide +kernel
theorem dX1_init_73 : decode cX1_init 73 = .ok (.aload_n 0, 1) := by decide +kernel
theorem dX1_init_74 : decode cX1_init 74 = .ok (.iconst 0, 1) := by decide +kernel
theorem dX1_init_75 : decode cX1_init 75 = .ok (.putfield 39, 3) := by decide +kernel
theorem dX1_init_78 : decode cX1_init 78 = .ok (.return_, 1) := by decide +kernel
theorem dX1_thrown_0 : decode cX1_thrown 0 = .ok (.aload_n 0, 1) := by decide +kernel
theorem dX1_thrown_1 : decode cX1_thrown 1 = .ok (.getfield 43, 3) := by decide +kernel
theorem dX1_thrown_4 : decode cX1_thrown 4 = .ok (.ireturn, 1) := by decide +kernel
theorem dX1_isIn_0 : decode cX1_isIn 0 = .ok (.lload_n 0, 1) := by decide +kernel
theorem dX1_isIn_1 : decode cX1_isIn 1 = .ok (.lload_n 2, 1) := by decide +kernel
theorem dX1_isIn_2 : decode cX1_isIn 2 = .ok (.lcmp, 1) := by decide +kernel
theorem dX1_isIn_3 : decode cX1_isIn 3 = .ok (.ifCond .lt 14, 3) := by decide +kernel
theorem dX1_isIn_6 : decode cX1_isIn 6 = .ok (.lload_n 0, 1) := by decide +kernel
theorem dX1_isIn_7 : decode cX1_isIn 7 = .ok (.lload 4, 2) := by decide +kernel
theorem dX1_isIn_9 : decode cX1_isIn 9 = .ok (.lcmp, 1) := by decide +kernel
theorem dX1_isIn_10 : decode cX1_isIn 10 = .ok (.ifCond .gt 7, 3) := by decide +kernel
theorem dX1_isIn_13 : decode cX1_isIn 13 = .ok (.iconst 1, 1) := by decide +kernel
theorem dX1_isIn_14 : decode cX1_isIn 14 = .ok (.goto 4, 3) := by decide +kernel
theorem dX1_isIn_17 : decode cX1_isIn 17 = .ok (.iconst 0, 1) := by decide +kernel
theorem dX1_isIn_18 : decode cX1_isIn 18 = .ok (.ireturn, 1) := by decide +kernel
theorem dX1_sizeOf_0 : decode cX1_sizeOf 0 = .ok (.lload_n 0, 1) := by decide +kernel
theorem dX1_sizeOf_1 : decode cX1_sizeOf 1 = .ok (.lconst 0, 1) := by decide +kernel
theorem dX1_sizeOf_2 : decode cX1_sizeOf 2 = .ok (.lcmp, 1) := by decide +kernel
theorem dX1_sizeOf_3 : decode cX1_sizeOf 3 = .ok (.ifCond .ge 8, 3) := by decide +kernel
theorem dX1_sizeOf_6 : decode cX1_sizeOf 6 = .ok (.lload_n 0, 1) := by decide +kernel
theorem dX1_sizeOf_7 : decode cX1_sizeOf 7 = .ok (.lneg, 1) := by decide +kernel
theorem dX1_sizeOf_8 : decode cX1_sizeOf 8 = .ok (.goto 4, 3) := by decide +kernel
theorem dX1_sizeOf_11 : decode cX1_sizeOf 11 = .ok (.lload_n 0, 1) := by decide +kernel
theorem dX1_sizeOf_12 : decode cX1_sizeOf 12 = .ok (.lreturn, 1) := by decide +kernel
set_option maxRecDepth 20000 in
theorem ggX1_divisor_X1_sizeOf : GoodIn wsX1_divisor wsX1_sizeOf := goodIn_r _ [4] (by decide +kernel) (by decide +kernel)
set_option maxRecDepth 20000 in
theorem gX1_divisor_X1_sizeOf : GoodIn wsX1_divisor (va_wsS RX1 46 yX1_sizeOf wsX1_sizeOf) := goodIn_app (goodIn_of _ (by decide +kernel)) ggX1_divisor_X1_sizeOf
theorem dX1_divisor_0 : decode cX1_divisor 0 = .ok (.lload_n 0, 1) := by decide +kernel
theorem dX1_divisor_1 : decode cX1_divisor 1 = .ok (.invokestatic 46, 3) := by decide +kernel
theorem dX1_divisor_4 : decode cX1_divisor 4 = .ok (.lstore 4, 2) := by decide +kernel
theorem dX1_divisor_6 : decode cX1_divisor 6 = .ok (.lload_n 2, 1) := by decide +kernel
theorem dX1_divisor_7 : decode cX1_divisor 7 = .ok (.invokestatic 46, 3) := by decide +kernel
theorem dX1_divisor_10 : decode cX1_divisor 10 = .ok (.lstore 6, 2) := by decide +kernel
theorem dX1_divisor_12 : decode cX1_divisor 12 = .ok (.lload 6, 2) := by decide +kernel
theorem dX1_divisor_14 : decode cX1_divisor 14 = .ok (.lconst 0, 1) := by decide +kernel
theorem dX1_divisor_15 : decode cX1_divisor 15 = .ok (.lcmp, 1) := by decide +kernel
theorem dX1_divisor_16 : decode cX1_divisor 16 = .ok (.ifCond .eq 21, 3) := by decide +kernel
theorem dX1_divisor_19 : decode cX1_divisor 19 = .ok (.lload 4, 2) := by decide +kernel
theorem dX1_divisor_21 : decode cX1_divisor 21 = .ok (.lload 6, 2) := by decide +kernel
theorem dX1_divisor_23 : decode cX1_divisor 23 = .ok (.lrem, 1) := by decide +kernel
theorem dX1_divisor_24 : decode cX1_divisor 24 = .ok (.lstore 8, 2) := by decide +kernel
theorem dX1_divisor_26 : decode cX1_divisor 26 = .ok (.lload 6, 2) := by decide +kernel
theorem dX1_divisor_28 : decode cX1_divisor 28 = .ok (.lstore 4, 2) := by decide +kernel
theorem dX1_divisor_30 : decode cX1_divisor 30 = .ok (.lload 8, 2) := by decide +kernel
theorem dX1_divisor_32 : decode cX1_divisor 32 = .ok (.lstore 6, 2) := by decide +kernel
theorem dX1_divisor_34 : decode cX1_divisor 34 = .ok (.goto (-22), 3) := by decide +kernel
theorem dX1_divisor_37 : decode cX1_divisor 37 = .ok (.lload 4, 2) := by decide +kernel
theorem dX1_divisor_39 : decode cX1_divisor 39 = .ok (.lreturn, 1) := by decide +kernel
set_option maxRecDepth 20000 in
theorem ggX1_times_X1_sizeOf : GoodIn wsX1_times wsX1_sizeOf := goodIn_r _ [6] (by decide +kernel) (by decide +kernel)
set_option maxRecDepth 20000 in
theorem gX1_times_X1_sizeOf : GoodIn wsX1_times (va_wsS RX1 46 yX1_sizeOf wsX1_sizeOf) := goodIn_app (goodIn_of _ (by decide +kernel)) ggX1_times_X1_sizeOf
theorem dX1_times_0 : decode cX1_times 0 = .ok (.lload_n 1, 1) := by decide +kernel
theorem dX1_times_1 : decode cX1_times 1 = .ok (.lconst 0, 1) := by decide +kernel
theorem dX1_times_2 : decode cX1_times 2 = .ok (.lcmp, 1) := by decide +kernel
theorem dX1_times_3 : decode cX1_times 3 = .ok (.ifCond .eq 9, 3) := by decide +kernel
theorem dX1_times_6 : decode cX1_times 6 = .ok (.lload_n 3, 1) := by decide +kernel
theorem dX1_times_7 : decode cX1_times 7 = .ok (.lconst 0, 1) := by decide +kernel
theorem dX1_times_8 : decode cX1_times 8 = .ok (.lcmp, 1) := by decide +kernel
theorem dX1_times_9 : decode cX1_times 9 = .ok (.ifCond .ne 5, 3) := by decide +kernel
theorem dX1_times_12 : decode cX1_times 12 = .ok (.lconst 0, 1) := by decide +kernel
theorem dX1_times_13 : decode cX1_times 13 = .ok (.lreturn, 1) := by decide +kernel
theorem dX1_times_14 : decode cX1_times 14 = .ok (.lload_n 1, 1) := by decide +kernel
theorem dX1_times_15 : decode cX1_times 15 = .ok (.invokestatic 46, 3) := by decide +kernel
theorem dX1_times_18 : decode cX1_times 18 = .ok (.ldc2_w 50, 3) := by decide +kernel
theorem dX1_times_21 : decode cX1_times 21 = .ok (.lload_n 3, 1) := by decide +kernel
theorem dX1_times_22 : decode cX1_times 22 = .ok (.invokestatic 46, 3) := by decide +kernel
theorem dX1_times_25 : decode cX1_times 25 = .ok (.ldiv, 1) := by decide +kernel
theorem dX1_times_26 : decode cX1_times 26 = .ok (.lcmp, 1) := by decide +kernel
theorem dX1_times_27 : decode cX1_times 27 = .ok (.ifCond .le 10, 3) := by decide +kernel
theorem dX1_times_30 : decode cX1_times 30 = .ok (.aload_n 0, 1) := by decide +kernel
theorem dX1_times_31 : decode cX1_times 31 = .ok (.iconst 1, 1) := by decide +kernel
theorem dX1_times_32 : decode cX1_times 32 = .ok (.putfield 39, 3) := by decide +kernel
theorem dX1_times_35 : decode cX1_times 35 = .ok (.lconst 0, 1) := by decide +kernel
theorem dX1_times_36 : decode cX1_times 36 = .ok (.lreturn, 1) := by decide +kernel
theorem dX1_times_37 : decode cX1_times 37 = .ok (.lload_n 1, 1) := by decide +kernel
theorem dX1_times_38 : decode cX1_times 38 = .ok (.lload_n 3, 1) := by decide +kernel
theorem dX1_times_39 : decode cX1_times 39 = .ok (.lmul, 1) := by decide +kernel
theorem dX1_times_40 : decode cX1_times 40 = .ok (.lreturn, 1) := by decide +kernel
theorem dX1_plus_0 : decode cX1_plus 0 = .ok (.lload_n 1, 1) := by decide +kernel
theorem dX1_plus_1 : decode cX1_plus 1 = .ok (.lconst 0, 1) := by decide +kernel
theorem dX1_plus_2 : decode cX1_plus 2 = .ok (.lcmp, 1) := by decide +kernel
theorem dX1_plus_3 : decode cX1_plus 3 = .ok (.ifCond .le 13, 3) := by decide +kernel
theorem dX1_plus_6 : decode cX1_plus 6 = .ok (.lload_n 3, 1) := by decide +kernel
theorem dX1_plus_7 : decode cX1_plus 7 = .ok (.ldc2_w 50, 3) := by decide +kernel
theorem dX1_plus_10 : decode cX1_plus 10 = .ok (.lload_n 1, 1) := by decide +kernel
theorem dX1_plus_11 : decode cX1_plus 11 = .ok (.lsub, 1) := by decide +kernel
theorem dX1_plus_12 : decode cX1_plus 12 = .ok (.lcmp, 1) := by decide +kernel
theorem dX1_plus_13 : decode cX1_plus 13 = .ok (.ifCond .gt 19, 3) := by decide +kernel
theorem dX1_plus_16 : decode cX1_plus 16 = .ok (.lload_n 1, 1) := by decide +kernel
theorem dX1_plus_17 : decode cX1_plus 17 = .ok (.lconst 0, 1) := by decide +kernel
theorem dX1_plus_18 : decode cX1_plus 18 = .ok (.lcmp, 1) := by decide +kernel
theorem dX1_plus_19 : decode cX1_plus 19 = .ok (.ifCond .ge 20, 3) := by decide +kernel
theorem dX1_plus_22 : decode cX1_plus 22 = .ok (.lload_n 3, 1) := by decide +kernel
theorem dX1_plus_23 : decode cX1_plus 23 = .ok (.ldc2_w 52, 3) := by decide +kernel
theorem dX1_plus_26 : decode cX1_plus 26 = .ok (.lload_n 1, 1) := by decide +kernel
theorem dX1_plus_27 : decode cX1_plus 27 = .ok (.lsub, 1) := by decide +kernel
theorem dX1_plus_28 : decode cX1_plus 28 = .ok (.lcmp, 1) := by decide +kernel
theorem dX1_plus_29 : decode cX1_plus 29 = .ok (.ifCond .ge 10, 3) := by decide +kernel
theorem dX1_plus_32 : decode cX1_plus 32 = .ok (.aload_n 0, 1) := by decide +kernel
theorem dX1_plus_33 : decode cX1_plus 33 = .ok (.iconst 1, 1) := by decide +kernel
theorem dX1_plus_34 : decode cX1_plus 34 = .ok (.putfield 39, 3) := by decide +kernel
theorem dX1_plus_37 : decode cX1_plus 37 = .ok (.lconst 0, 1) := by decide +kernel
theorem dX1_plus_38 : decode cX1_plus 38 = .ok (.lreturn, 1) := by decide +kernel
theorem dX1_plus_39 : decode cX1_plus 39 = .ok (.lload_n 1, 1) := by decide +kernel
theorem dX1_plus_40 : decode cX1_plus 40 = .ok (.lload_n 3, 1) := by decide +kernel
theorem dX1_plus_41 : decode cX1_plus 41 = .ok (.ladd, 1) := by decide +kernel
theorem dX1_plus_42 : decode cX1_plus 42 = .ok (.lreturn, 1) := by decide +kernel
theorem dX1_compared_0 : decode cX1_compared 0 = .ok (.iconst 0, 1) := by decide +kernel
theorem dX1_compared_1 : decode cX1_compared 1 = .ok (.istore 9, 2) := by decide +kernel
theorem dX1_compared_3 : decode cX1_compared 3 = .ok (.iload 9, 2) := by decide +kernel
theorem dX1_compared_5 : decode cX1_compared 5 = .ok (.bipush 7, 2) := by decide +kernel
theorem dX1_compared_7 : decode cX1_compared 7 = .ok (.if_icmp .ge 25, 3) := by decide +kernel
theorem dX1_compared_10 : decode cX1_compared 10 = .ok (.aload_n 0, 1) := by decide +kernel
theorem dX1_compared_11 : decode cX1_compared 11 = .ok (.getfield 33, 3) := by decide +kernel
theorem dX1_compared_14 : decode cX1_compared 14 = .ok (.iload 9, 2) := by decide +kernel
theorem dX1_compared_16 : decode cX1_compared 16 = .ok (.lconst 0, 1) := by decide +kernel
theorem dX1_compared_17 : decode cX1_compared 17 = .ok (.lastore, 1) := by decide +kernel
theorem dX1_compared_18 : decode cX1_compared 18 = .ok (.aload_n 0, 1) := by decide +kernel
theorem dX1_compared_19 : decode cX1_compared 19 = .ok (.getfield 36, 3) := by decide +kernel
theorem dX1_compared_22 : decode cX1_compared 22 = .ok (.iload 9, 2) := by decide +kernel
theorem dX1_compared_24 : decode cX1_compared 24 = .ok (.lconst 0, 1) := by decide +kernel
theorem dX1_compared_25 : decode cX1_compared 25 = .ok (.lastore, 1) := by decide +kernel
theorem dX1_compared_26 : decode cX1_compared 26 = .ok (.iinc 9 1, 3) := by decide +kernel
theorem dX1_compared_29 : decode cX1_compared 29 = .ok (.goto (-26), 3) := by decide +kernel
theorem dX1_compared_32 : decode cX1_compared 32 = .ok (.iconst 0, 1) := by decide +kernel
theorem dX1_compared_33 : decode cX1_compared 33 = .ok (.istore 9, 2) := by decide +kernel
theorem dX1_compared_35 : decode cX1_compared 35 = .ok (.iload 9, 2) := by decide +kernel
theorem dX1_compared_37 : decode cX1_compared 37 = .ok (.iconst 3, 1) := by decide +kernel
theorem dX1_compared_38 : decode cX1_compared 38 = .ok (.if_icmp .ge 98, 3) := by decide +kernel
theorem dX1_compared_41 : decode cX1_compared 41 = .ok (.iconst 0, 1) := by decide +kernel
theorem dX1_compared_42 : decode cX1_compared 42 = .ok (.istore 10, 2) := by decide +kernel
theorem dX1_compared_44 : decode cX1_compared 44 = .ok (.iload 10, 2) := by decide +kernel
theorem dX1_compared_46 : decode cX1_compared 46 = .ok (.iconst 3, 1) := by decide +kernel
theorem dX1_compared_47 : decode cX1_compared 47 = .ok (.if_icmp .ge 83, 3) := by decide +kernel
theorem dX1_compared_50 : decode cX1_compared 50 = .ok (.aload_n 0, 1) := by decide +kernel
theorem dX1_compared_51 : decode cX1_compared 51 = .ok (.getfield 33, 3) := by decide +kernel
theorem dX1_compared_54 : decode cX1_compared 54 = .ok (.iload 9, 2) := by decide +kernel
theorem dX1_compared_56 : decode cX1_compared 56 = .ok (.iload 10, 2) := by decide +kernel
theorem dX1_compared_58 : decode cX1_compared 58 = .ok (.iadd, 1) := by decide +kernel
theorem dX1_compared_59 : decode cX1_compared 59 = .ok (.dup2, 1) := by decide +kernel
theorem dX1_compared_60 : decode cX1_compared 60 = .ok (.laload, 1) := by decide +kernel
theorem dX1_compared_61 : decode cX1_compared 61 = .ok (.lload_n 1, 1) := by decide +kernel
theorem dX1_compared_62 : decode cX1_compared 62 = .ok (.bipush 21, 2) := by decide +kernel
theorem dX1_compared_64 : decode cX1_compared 64 = .ok (.iload 9, 2) := by decide +kernel
theorem dX1_compared_66 : decode cX1_compared 66 = .ok (.imul, 1) := by decide +kernel
theorem dX1_compared_67 : decode cX1_compared 67 = .ok (.lshr, 1) := by decide +kernel
theorem dX1_compared_68 : decode cX1_compared 68 = .ok (.ldc2_w 54, 3) := by decide +kernel
theorem dX1_compared_71 : decode cX1_compared 71 = .ok (.land, 1) := by decide +kernel
theorem dX1_compared_72 : decode cX1_compared 72 = .ok (.lload_n 3, 1) := by decide +kernel
theorem dX1_compared_73 : decode cX1_compared 73 = .ok (.bipush 21, 2) := by decide +kernel
theorem dX1_compared_75 : decode cX1_compared 75 = .ok (.iload 10, 2) := by decide +kernel
theorem dX1_compared_77 : decode cX1_compared 77 = .ok (.imul, 1) := by decide +kernel
theorem dX1_compared_78 : decode cX1_compared 78 = .ok (.lshr, 1) := by decide +kernel
theorem dX1_compared_79 : decode cX1_compared 79 = .ok (.ldc2_w 54, 3) := by decide +kernel
theorem dX1_compared_82 : decode cX1_compared 82 = .ok (.land, 1) := by decide +kernel
theorem dX1_compared_83 : decode cX1_compared 83 = .ok (.lmul, 1) := by decide +kernel
theorem dX1_compared_84 : decode cX1_compared 84 = .ok (.ladd, 1) := by decide +kernel
theorem dX1_compared_85 : decode cX1_compared 85 = .ok (.lastore, 1) := by decide +kernel
theorem dX1_compared_86 : decode cX1_compared 86 = .ok (.aload_n 0, 1) := by decide +kernel
theorem dX1_compared_87 : decode cX1_compared 87 = .ok (.getfield 36, 3) := by decide +kernel
theorem dX1_compared_90 : decode cX1_compared 90 = .ok (.iload 9, 2) := by decide +kernel
theorem dX1_compared_92 : decode cX1_compared 92 = .ok (.iload 10, 2) := by decide +kernel
theorem dX1_compared_94 : decode cX1_compared 94 = .ok (.iadd, 1) := by decide +kernel
theorem dX1_compared_95 : decode cX1_compared 95 = .ok (.dup2, 1) := by decide +kernel
theorem dX1_compared_96 : decode cX1_compared 96 = .ok (.laload, 1) := by decide +kernel
theorem dX1_compared_97 : decode cX1_compared 97 = .ok (.lload 5, 2) := by decide +kernel
theorem dX1_compared_99 : decode cX1_compared 99 = .ok (.bipush 21, 2) := by decide +kernel
theorem dX1_compared_101 : decode cX1_compared 101 = .ok (.iload 9, 2) := by decide +kernel
theorem dX1_compared_103 : decode cX1_compared 103 = .ok (.imul, 1) := by decide +kernel
theorem dX1_compared_104 : decode cX1_compared 104 = .ok (.lshr, 1) := by decide +kernel
theorem dX1_compared_105 : decode cX1_compared 105 = .ok (.ldc2_w 54, 3) := by decide +kernel
theorem dX1_compared_108 : decode cX1_compared 108 = .ok (.land, 1) := by decide +kernel
theorem dX1_compared_109 : decode cX1_compared 109 = .ok (.lload 7, 2) := by decide +kernel
theorem dX1_compared_111 : decode cX1_compared 111 = .ok (.bipush 21, 2) := by decide +kernel
theorem dX1_compared_113 : decode cX1_compared 113 = .ok (.iload 10, 2) := by decide +kernel
theorem dX1_compared_115 : decode cX1_compared 115 = .ok (.imul, 1) := by decide +kernel
theorem dX1_compared_116 : decode cX1_compared 116 = .ok (.lshr, 1) := by decide +kernel
theorem dX1_compared_117 : decode cX1_compared 117 = .ok (.ldc2_w 54, 3) := by decide +kernel
theorem dX1_compared_120 : decode cX1_compared 120 = .ok (.land, 1) := by decide +kernel
theorem dX1_compared_121 : decode cX1_compared 121 = .ok (.lmul, 1) := by decide +kernel
theorem dX1_compared_122 : decode cX1_compared 122 = .ok (.ladd, 1) := by decide +kernel
theorem dX1_compared_123 : decode cX1_compared 123 = .ok (.lastore, 1) := by decide +kernel
theorem dX1_compared_124 : decode cX1_compared 124 = .ok (.iinc 10 1, 3) := by decide +kernel
theorem dX1_compared_127 : decode cX1_compared 127 = .ok (.goto (-83), 3) := by decide +kernel
theorem dX1_compared_130 : decode cX1_compared 130 = .ok (.iinc 9 1, 3) := by decide +kernel
theorem dX1_compared_133 : decode cX1_compared 133 = .ok (.goto (-98), 3) := by decide +kernel
theorem dX1_compared_136 : decode cX1_compared 136 = .ok (.iconst 0, 1) := by decide +kernel
theorem dX1_compared_137 : decode cX1_compared 137 = .ok (.istore 9, 2) := by decide +kernel
theorem dX1_compared_139 : decode cX1_compared 139 = .ok (.iload 9, 2) := by decide +kernel
theorem dX1_compared_141 : decode cX1_compared 141 = .ok (.bipush 6, 2) := by decide +kernel
theorem dX1_compared_143 : decode cX1_compared 143 = .ok (.if_icmp .ge 79, 3) := by decide +kernel
theorem dX1_compared_146 : decode cX1_compared 146 = .ok (.aload_n 0, 1) := by decide +kernel
theorem dX1_compared_147 : decode cX1_compared 147 = .ok (.getfield 33, 3) := by decide +kernel
theorem dX1_compared_150 : decode cX1_compared 150 = .ok (.iload 9, 2) := by decide +kernel
theorem dX1_compared_152 : decode cX1_compared 152 = .ok (.iconst 1, 1) := by decide +kernel
theorem dX1_compared_153 : decode cX1_compared 153 = .ok (.iadd, 1) := by decide +kernel
theorem dX1_compared_154 : decode cX1_compared 154 = .ok (.dup2, 1) := by decide +kernel
theorem dX1_compared_155 : decode cX1_compared 155 = .ok (.laload, 1) := by decide +kernel
theorem dX1_compared_156 : decode cX1_compared 156 = .ok (.aload_n 0, 1) := by decide +kernel
theorem dX1_compared_157 : decode cX1_compared 157 = .ok (.getfield 33, 3) := by decide +kernel
theorem dX1_compared_160 : decode cX1_compared 160 = .ok (.iload 9, 2) := by decide +kernel
theorem dX1_compared_162 : decode cX1_compared 162 = .ok (.laload, 1) := by decide +kernel
theorem dX1_compared_163 : decode cX1_compared 163 = .ok (.bipush 21, 2) := by decide +kernel
theorem dX1_compared_165 : decode cX1_compared 165 = .ok (.lshr, 1) := by decide +kernel
theorem dX1_compared_166 : decode cX1_compared 166 = .ok (.ladd, 1) := by decide +kernel
theorem dX1_compared_167 : decode cX1_compared 167 = .ok (.lastore, 1) := by decide +kernel
theorem dX1_compared_168 : decode cX1_compared 168 = .ok (.aload_n 0, 1) := by decide +kernel
theorem dX1_compared_169 : decode cX1_compared 169 = .ok (.getfield 33, 3) := by decide +kernel
theorem dX1_compared_172 : decode cX1_compared 172 = .ok (.iload 9, 2) := by decide +kernel
theorem dX1_compared_174 : decode cX1_compared 174 = .ok (.dup2, 1) := by decide +kernel
theorem dX1_compared_175 : decode cX1_compared 175 = .ok (.laload, 1) := by decide +kernel
theorem dX1_compared_176 : decode cX1_compared 176 = .ok (.ldc2_w 54, 3) := by decide +kernel
theorem dX1_compared_179 : decode cX1_compared 179 = .ok (.land, 1) := by decide +kernel
theorem dX1_compared_180 : decode cX1_compared 180 = .ok (.lastore, 1) := by decide +kernel
theorem dX1_compared_181 : decode cX1_compared 181 = .ok (.aload_n 0, 1) := by decide +kernel
theorem dX1_compared_182 : decode cX1_compared 182 = .ok (.getfield 36, 3) := by decide +kernel
theorem dX1_compared_185 : decode cX1_compared 185 = .ok (.iload 9, 2) := by decide +kernel
theorem dX1_compared_187 : decode cX1_compared 187 = .ok (.iconst 1, 1) := by decide +kernel
theorem dX1_compared_188 : decode cX1_compared 188 = .ok (.iadd, 1) := by decide +kernel
theorem dX1_compared_189 : decode cX1_compared 189 = .ok (.dup2, 1) := by decide +kernel
theorem dX1_compared_190 : decode cX1_compared 190 = .ok (.laload, 1) := by decide +kernel
theorem dX1_compared_191 : decode cX1_compared 191 = .ok (.aload_n 0, 1) := by decide +kernel
theorem dX1_compared_192 : decode cX1_compared 192 = .ok (.getfield 36, 3) := by decide +kernel
theorem dX1_compared_195 : decode cX1_compared 195 = .ok (.iload 9, 2) := by decide +kernel
theorem dX1_compared_197 : decode cX1_compared 197 = .ok (.laload, 1) := by decide +kernel
theorem dX1_compared_198 : decode cX1_compared 198 = .ok (.bipush 21, 2) := by decide +kernel
theorem dX1_compared_200 : decode cX1_compared 200 = .ok (.lshr, 1) := by decide +kernel
theorem dX1_compared_201 : decode cX1_compared 201 = .ok (.ladd, 1) := by decide +kernel
theorem dX1_compared_202 : decode cX1_compared 202 = .ok (.lastore, 1) := by decide +kernel
theorem dX1_compared_203 : decode cX1_compared 203 = .ok (.aload_n 0, 1) := by decide +kernel
theorem dX1_compared_204 : decode cX1_compared 204 = .ok (.getfield 36, 3) := by decide +kernel
theorem dX1_compared_207 : decode cX1_compared 207 = .ok (.iload 9, 2) := by decide +kernel
theorem dX1_compared_209 : decode cX1_compared 209 = .ok (.dup2, 1) := by decide +kernel
theorem dX1_compared_210 : decode cX1_compared 210 = .ok (.laload, 1) := by decide +kernel
theorem dX1_compared_211 : decode cX1_compared 211 = .ok (.ldc2_w 54, 3) := by decide +kernel
theorem dX1_compared_214 : decode cX1_compared 214 = .ok (.land, 1) := by decide +kernel
theorem dX1_compared_215 : decode cX1_compared 215 = .ok (.lastore, 1) := by decide +kernel
theorem dX1_compared_216 : decode cX1_compared 216 = .ok (.iinc 9 1, 3) := by decide +kernel
theorem dX1_compared_219 : decode cX1_compared 219 = .ok (.goto (-80), 3) := by decide +kernel
theorem dX1_compared_222 : decode cX1_compared 222 = .ok (.bipush 6, 2) := by decide +kernel
theorem dX1_compared_224 : decode cX1_compared 224 = .ok (.istore 9, 2) := by decide +kernel
theorem dX1_compared_226 : decode cX1_compared 226 = .ok (.iload 9, 2) := by decide +kernel
theorem dX1_compared_228 : decode cX1_compared 228 = .ok (.ifCond .le 27, 3) := by decide +kernel
theorem dX1_compared_231 : decode cX1_compared 231 = .ok (.aload_n 0, 1) := by decide +kernel
theorem dX1_compared_232 : decode cX1_compared 232 = .ok (.getfield 33, 3) := by decide +kernel
theorem dX1_compared_235 : decode cX1_compared 235 = .ok (.iload 9, 2) := by decide +kernel
theorem dX1_compared_237 : decode cX1_compared 237 = .ok (.laload, 1) := by decide +kernel
theorem dX1_compared_238 : decode cX1_compared 238 = .ok (.aload_n 0, 1) := by decide +kernel
theorem dX1_compared_239 : decode cX1_compared 239 = .ok (.getfield 36, 3) := by decide +kernel
theorem dX1_compared_242 : decode cX1_compared 242 = .ok (.iload 9, 2) := by decide +kernel
theorem dX1_compared_244 : decode cX1_compared 244 = .ok (.laload, 1) := by decide +kernel
theorem dX1_compared_245 : decode cX1_compared 245 = .ok (.lcmp, 1) := by decide +kernel
theorem dX1_compared_246 : decode cX1_compared 246 = .ok (.ifCond .ne 9, 3) := by decide +kernel
theorem dX1_compared_249 : decode cX1_compared 249 = .ok (.iinc 9 (-1), 3) := by decide +kernel
theorem dX1_compared_252 : decode cX1_compared 252 = .ok (.goto (-26), 3) := by decide +kernel
theorem dX1_compared_255 : decode cX1_compared 255 = .ok (.aload_n 0, 1) := by decide +kernel
theorem dX1_compared_256 : decode cX1_compared 256 = .ok (.getfield 33, 3) := by decide +kernel
theorem dX1_compared_259 : decode cX1_compared 259 = .ok (.iload 9, 2) := by decide +kernel
theorem dX1_compared_261 : decode cX1_compared 261 = .ok (.laload, 1) := by decide +kernel
theorem dX1_compared_262 : decode cX1_compared 262 = .ok (.aload_n 0, 1) := by decide +kernel
theorem dX1_compared_263 : decode cX1_compared 263 = .ok (.getfield 36, 3) := by decide +kernel
theorem dX1_compared_266 : decode cX1_compared 266 = .ok (.iload 9, 2) := by decide +kernel
theorem dX1_compared_268 : decode cX1_compared 268 = .ok (.laload, 1) := by decide +kernel
theorem dX1_compared_269 : decode cX1_compared 269 = .ok (.lcmp, 1) := by decide +kernel
theorem dX1_compared_270 : decode cX1_compared 270 = .ok (.ifCond .ge 7, 3) := by decide +kernel
theorem dX1_compared_273 : decode cX1_compared 273 = .ok (.iconst (-1), 1) := by decide +kernel
theorem dX1_compared_274 : decode cX1_compared 274 = .ok (.goto 26, 3) := by decide +kernel
theorem dX1_compared_277 : decode cX1_compared 277 = .ok (.aload_n 0, 1) := by decide +kernel
theorem dX1_compared_278 : decode cX1_compared 278 = .ok (.getfield 33, 3) := by decide +kernel
theorem dX1_compared_281 : decode cX1_compared 281 = .ok (.iload 9, 2) := by decide +kernel
theorem dX1_compared_283 : decode cX1_compared 283 = .ok (.laload, 1) := by decide +kernel
theorem dX1_compared_284 : decode cX1_compared 284 = .ok (.aload_n 0, 1) := by decide +kernel
theorem dX1_compared_285 : decode cX1_compared 285 = .ok (.getfield 36, 3) := by decide +kernel
theorem dX1_compared_288 : decode cX1_compared 288 = .ok (.iload 9, 2) := by decide +kernel
theorem dX1_compared_290 : decode cX1_compared 290 = .ok (.laload, 1) := by decide +kernel
theorem dX1_compared_291 : decode cX1_compared 291 = .ok (.lcmp, 1) := by decide +kernel
theorem dX1_compared_292 : decode cX1_compared 292 = .ok (.ifCond .le 7, 3) := by decide +kernel
theorem dX1_compared_295 : decode cX1_compared 295 = .ok (.iconst 1, 1) := by decide +kernel
theorem dX1_compared_296 : decode cX1_compared 296 = .ok (.goto 4, 3) := by decide +kernel
theorem dX1_compared_299 : decode cX1_compared 299 = .ok (.iconst 0, 1) := by decide +kernel
theorem dX1_compared_300 : decode cX1_compared 300 = .ok (.ireturn, 1) := by decide +kernel
theorem dX1_floor_0 : decode cX1_floor 0 = .ok (.lload_n 0, 1) := by decide +kernel
theorem dX1_floor_1 : decode cX1_floor 1 = .ok (.lload_n 2, 1) := by decide +kernel
theorem dX1_floor_2 : decode cX1_floor 2 = .ok (.ldiv, 1) := by decide +kernel
theorem dX1_floor_3 : decode cX1_floor 3 = .ok (.lstore 4, 2) := by decide +kernel
theorem dX1_floor_5 : decode cX1_floor 5 = .ok (.lload_n 0, 1) := by decide +kernel
theorem dX1_floor_6 : decode cX1_floor 6 = .ok (.lload_n 2, 1) := by decide +kernel
theorem dX1_floor_7 : decode cX1_floor 7 = .ok (.lrem, 1) := by decide +kernel
theorem dX1_floor_8 : decode cX1_floor 8 = .ok (.lconst 0, 1) := by decide +kernel
theorem dX1_floor_9 : decode cX1_floor 9 = .ok (.lcmp, 1) := by decide +kernel
theorem dX1_floor_10 : decode cX1_floor 10 = .ok (.ifCond .ge 10, 3) := by decide +kernel
theorem dX1_floor_13 : decode cX1_floor 13 = .ok (.lload 4, 2) := by decide +kernel
theorem dX1_floor_15 : decode cX1_floor 15 = .ok (.lconst 1, 1) := by decide +kernel
theorem dX1_floor_16 : decode cX1_floor 16 = .ok (.lsub, 1) := by decide +kernel
theorem dX1_floor_17 : decode cX1_floor 17 = .ok (.goto 5, 3) := by decide +kernel
theorem dX1_floor_20 : decode cX1_floor 20 = .ok (.lload 4, 2) := by decide +kernel
theorem dX1_floor_22 : decode cX1_floor 22 = .ok (.lreturn, 1) := by decide +kernel
set_option maxRecDepth 20000 in
theorem ggX1_isNumber_X1_isIn : GoodIn wsX1_isNumber wsX1_isIn := goodIn_r _ [5] (by decide +kernel) (by decide +kernel)
set_option maxRecDepth 20000 in
theorem gX1_isNumber_X1_isIn : GoodIn wsX1_isNumber (va_wsS RX1 59 yX1_isIn wsX1_isIn) := goodIn_app (goodIn_of _ (by decide +kernel)) ggX1_isNumber_X1_isIn
theorem dX1_isNumber_0 : decode cX1_isNumber 0 = .ok (.iload_n 1, 1) := by decide +kernel
theorem dX1_isNumber_1 : decode cX1_isNumber 1 = .ok (.i2l, 1) := by decide +kernel
theorem dX1_isNumber_2 : decode cX1_isNumber 2 = .ok (.lconst 0, 1) := by decide +kernel
theorem dX1_isNumber_3 : decode cX1_isNumber 3 = .ok (.aload_n 0, 1) := by decide +kernel
theorem dX1_isNumber_4 : decode cX1_isNumber 4 = .ok (.getfield 56, 3) := by decide +kernel
theorem dX1_isNumber_7 : decode cX1_isNumber 7 = .ok (.iconst 1, 1) := by decide +kernel
theorem dX1_isNumber_8 : decode cX1_isNumber 8 = .ok (.isub, 1) := by decide +kernel
theorem dX1_isNumber_9 : decode cX1_isNumber 9 = .ok (.i2l, 1) := by decide +kernel
theorem dX1_isNumber_10 : decode cX1_isNumber 10 = .ok (.invokestatic 59, 3) := by decide +kernel
theorem dX1_isNumber_13 : decode cX1_isNumber 13 = .ok (.ireturn, 1) := by decide +kernel
set_option maxRecDepth 20000 in
theorem ggX1_kept_X1_divisor : GoodIn wsX1_kept wsX1_divisor := goodIn_r _ [8, 9, 10, 7, 11] (by decide +kernel) (by decide +kernel)
set_option maxRecDepth 20000 in
theorem gX1_kept_X1_divisor : GoodIn wsX1_kept (va_wsS RX1 63 yX1_divisor wsX1_divisor) := goodIn_app (goodIn_of _ (by decide +kernel)) ggX1_kept_X1_divisor
theorem dX1_kept_0 : decode cX1_kept 0 = .ok (.lload_n 1, 1) := by decide +kernel
theorem dX1_kept_1 : decode cX1_kept 1 = .ok (.lload_n 3, 1) := by decide +kernel
theorem dX1_kept_2 : decode cX1_kept 2 = .ok (.invokestatic 63, 3) := by decide +kernel
theorem dX1_kept_5 : decode cX1_kept 5 = .ok (.lstore 5, 2) := by decide +kernel
theorem dX1_kept_7 : decode cX1_kept 7 = .ok (.lload_n 3, 1) := by decide +kernel
theorem dX1_kept_8 : decode cX1_kept 8 = .ok (.lconst 0, 1) := by decide +kernel
theorem dX1_kept_9 : decode cX1_kept 9 = .ok (.lcmp, 1) := by decide +kernel
theorem dX1_kept_10 : decode cX1_kept 10 = .ok (.ifCond .ge 9, 3) := by decide +kernel
theorem dX1_kept_13 : decode cX1_kept 13 = .ok (.ldc2_w 67, 3) := by decide +kernel
theorem dX1_kept_16 : decode cX1_kept 16 = .ok (.goto 4, 3) := by decide +kernel
theorem dX1_kept_19 : decode cX1_kept 19 = .ok (.lconst 1, 1) := by decide +kernel
theorem dX1_kept_20 : decode cX1_kept 20 = .ok (.lstore 7, 2) := by decide +kernel
theorem dX1_kept_22 : decode cX1_kept 22 = .ok (.aload_n 0, 1) := by decide +kernel
theorem dX1_kept_23 : decode cX1_kept 23 = .ok (.getfield 7, 3) := by decide +kernel
theorem dX1_kept_26 : decode cX1_kept 26 = .ok (.aload_n 0, 1) := by decide +kernel
theorem dX1_kept_27 : decode cX1_kept 27 = .ok (.getfield 56, 3) := by decide +kernel
theorem dX1_kept_30 : decode cX1_kept 30 = .ok (.lload 7, 2) := by decide +kernel
theorem dX1_kept_32 : decode cX1_kept 32 = .ok (.lload_n 1, 1) := by decide +kernel
theorem dX1_kept_33 : decode cX1_kept 33 = .ok (.lload 5, 2) := by decide +kernel
theorem dX1_kept_35 : decode cX1_kept 35 = .ok (.ldiv, 1) := by decide +kernel
theorem dX1_kept_36 : decode cX1_kept 36 = .ok (.lmul, 1) := by decide +kernel
theorem dX1_kept_37 : decode cX1_kept 37 = .ok (.lastore, 1) := by decide +kernel
theorem dX1_kept_38 : decode cX1_kept 38 = .ok (.aload_n 0, 1) := by decide +kernel
theorem dX1_kept_39 : decode cX1_kept 39 = .ok (.getfield 13, 3) := by decide +kernel
theorem dX1_kept_42 : decode cX1_kept 42 = .ok (.aload_n 0, 1) := by decide +kernel
theorem dX1_kept_43 : decode cX1_kept 43 = .ok (.getfield 56, 3) := by decide +kernel
theorem dX1_kept_46 : decode cX1_kept 46 = .ok (.lload 7, 2) := by decide +kernel
theorem dX1_kept_48 : decode cX1_kept 48 = .ok (.lload_n 3, 1) := by decide +kernel
theorem dX1_kept_49 : decode cX1_kept 49 = .ok (.lload 5, 2) := by decide +kernel
theorem dX1_kept_51 : decode cX1_kept 51 = .ok (.ldiv, 1) := by decide +kernel
theorem dX1_kept_52 : decode cX1_kept 52 = .ok (.lmul, 1) := by decide +kernel
theorem dX1_kept_53 : decode cX1_kept 53 = .ok (.lastore, 1) := by decide +kernel
theorem dX1_kept_54 : decode cX1_kept 54 = .ok (.aload_n 0, 1) := by decide +kernel
theorem dX1_kept_55 : decode cX1_kept 55 = .ok (.dup, 1) := by decide +kernel
theorem dX1_kept_56 : decode cX1_kept 56 = .ok (.getfield 56, 3) := by decide +kernel
theorem dX1_kept_59 : decode cX1_kept 59 = .ok (.iconst 1, 1) := by decide +kernel
theorem dX1_kept_60 : decode cX1_kept 60 = .ok (.iadd, 1) := by decide +kernel
theorem dX1_kept_61 : decode cX1_kept 61 = .ok (.putfield 56, 3) := by decide +kernel
theorem dX1_kept_64 : decode cX1_kept 64 = .ok (.aload_n 0, 1) := by decide +kernel
theorem dX1_kept_65 : decode cX1_kept 65 = .ok (.getfield 56, 3) := by decide +kernel
theorem dX1_kept_68 : decode cX1_kept 68 = .ok (.iconst 1, 1) := by decide +kernel
theorem dX1_kept_69 : decode cX1_kept 69 = .ok (.isub, 1) := by decide +kernel
theorem dX1_kept_70 : decode cX1_kept 70 = .ok (.ireturn, 1) := by decide +kernel
set_option maxRecDepth 20000 in
theorem ggX1_value_X1_kept : GoodIn wsX1_value wsX1_kept := goodIn_r _ [8, 9, 10, 3, 11, 12, 13, 7, 14, 15, 16, 17, 18, 19, 20, 21, 22, 23, 24, 25, 26, 27, 28, 29, 30, 31, 32, 33, 34] (by decide +kernel) (by decide +kernel)
set_option maxRecDepth 20000 in
theorem gX1_value_X1_kept : GoodIn wsX1_value (wsV RX1 71 RX1 yX1_kept wsX1_kept) := goodIn_app (goodIn_of _ (by decide +kernel)) ggX1_value_X1_kept
theorem dX1_value_0 : decode cX1_value 0 = .ok (.aload_n 0, 1) := by decide +kernel
theorem dX1_value_1 : decode cX1_value 1 = .ok (.iconst 0, 1) := by decide +kernel
theorem dX1_value_2 : decode cX1_value 2 = .ok (.putfield 43, 3) := by decide +kernel
theorem dX1_value_5 : decode cX1_value 5 = .ok (.lload_n 3, 1) := by decide +kernel
theorem dX1_value_6 : decode cX1_value 6 = .ok (.lconst 0, 1) := by decide +kernel
theorem dX1_value_7 : decode cX1_value 7 = .ok (.lcmp, 1) := by decide +kernel
theorem dX1_value_8 : decode cX1_value 8 = .ok (.ifCond .ne 6, 3) := by decide +kernel
theorem dX1_value_11 : decode cX1_value 11 = .ok (.bipush (-2), 2) := by decide +kernel
theorem dX1_value_13 : decode cX1_value 13 = .ok (.ireturn, 1) := by decide +kernel
theorem dX1_value_14 : decode cX1_value 14 = .ok (.lload_n 1, 1) := by decide +kernel
theorem dX1_value_15 : decode cX1_value 15 = .ok (.ldc2_w 69, 3) := by decide +kernel
theorem dX1_value_18 : decode cX1_value 18 = .ok (.lcmp, 1) := by decide +kernel
theorem dX1_value_19 : decode cX1_value 19 = .ok (.ifCond .eq 11, 3) := by decide +kernel
theorem dX1_value_22 : decode cX1_value 22 = .ok (.lload_n 3, 1) := by decide +kernel
theorem dX1_value_23 : decode cX1_value 23 = .ok (.ldc2_w 69, 3) := by decide +kernel
theorem dX1_value_26 : decode cX1_value 26 = .ok (.lcmp, 1) := by decide +kernel
theorem dX1_value_27 : decode cX1_value 27 = .ok (.ifCond .ne 6, 3) := by decide +kernel
theorem dX1_value_30 : decode cX1_value 30 = .ok (.bipush (-3), 2) := by decide +kernel
theorem dX1_value_32 : decode cX1_value 32 = .ok (.ireturn, 1) := by decide +kernel
theorem dX1_value_33 : decode cX1_value 33 = .ok (.aload_n 0, 1) := by decide +kernel
theorem dX1_value_34 : decode cX1_value 34 = .ok (.getfield 56, 3) := by decide +kernel
theorem dX1_value_37 : decode cX1_value 37 = .ok (.bipush 40, 2) := by decide +kernel
theorem dX1_value_39 : decode cX1_value 39 = .ok (.if_icmp .ne 8, 3) := by decide +kernel
theorem dX1_value_42 : decode cX1_value 42 = .ok (.bipush (-4), 2) := by decide +kernel
theorem dX1_value_44 : decode cX1_value 44 = .ok (.goto 9, 3) := by decide +kernel
theorem dX1_value_47 : decode cX1_value 47 = .ok (.aload_n 0, 1) := by decide +kernel
theorem dX1_value_48 : decode cX1_value 48 = .ok (.lload_n 1, 1) := by decide +kernel
theorem dX1_value_49 : decode cX1_value 49 = .ok (.lload_n 3, 1) := by decide +kernel
theorem dX1_value_50 : decode cX1_value 50 = .ok (.invokevirtual 71, 3) := by decide +kernel
theorem dX1_value_53 : decode cX1_value 53 = .ok (.ireturn, 1) := by decide +kernel
set_option maxRecDepth 20000 in
theorem ggX1_summed_X1_divisor : GoodIn wsX1_summed wsX1_divisor := goodIn_r _ [5, 6, 7, 4, 8] (by decide +kernel) (by decide +kernel)
set_option maxRecDepth 20000 in
theorem gX1_summed_X1_divisor : GoodIn wsX1_summed (va_wsS RX1 63 yX1_divisor wsX1_divisor) := goodIn_app (goodIn_of _ (by decide +kernel)) ggX1_summed_X1_divisor
set_option maxRecDepth 20000 in
theorem ggX1_summed_X1_times : GoodIn wsX1_summed wsX1_times := goodIn_r _ [12, 13, 1, 6, 7, 4, 8, 32, 33, 34, 35, 36, 37, 38, 39, 40, 41, 42, 43, 44, 45, 46, 47, 48] (by decide +kernel) (by decide +kernel)
set_option maxRecDepth 20000 in
theorem gX1_summed_X1_times : GoodIn wsX1_summed (wsV RX1 75 RX1 yX1_times wsX1_times) := goodIn_app (goodIn_of _ (by decide +kernel)) ggX1_summed_X1_times
set_option maxRecDepth 20000 in
theorem ggX1_summed_X1_plus : GoodIn wsX1_summed wsX1_plus := goodIn_r _ [17, 13, 18, 1, 32, 33, 34, 35, 36, 37, 38, 39, 40, 41, 42, 43, 44, 45, 46, 47, 48] (by decide +kernel) (by decide +kernel)
set_option maxRecDepth 20000 in
theorem gX1_summed_X1_plus : GoodIn wsX1_summed (wsV RX1 78 RX1 yX1_plus wsX1_plus) := goodIn_app (goodIn_of _ (by decide +kernel)) ggX1_summed_X1_plus
set_option maxRecDepth 20000 in
theorem ggX1_summed_X1_grew : GoodIn wsX1_summed wsX1_grew := goodIn_r _ [22, 23, 32, 33, 34, 35, 36, 37, 38, 39, 40, 41, 42, 43, 44, 45, 46, 47, 48] (by decide +kernel) (by decide +kernel)
set_option maxRecDepth 20000 in
theorem gX1_summed_X1_grew : GoodIn wsX1_summed (wsV RX1 81 RX1 yX1_grew wsX1_grew) := goodIn_app (goodIn_of _ (by decide +kernel)) ggX1_summed_X1_grew
set_option maxRecDepth 20000 in
theorem ggX1_summed_X1_kept : GoodIn wsX1_summed wsX1_kept := goodIn_r _ [27, 28, 29, 30, 31, 2, 3, 4, 5, 6, 7, 8, 32, 33, 34, 35, 36, 37, 38, 39, 40, 41, 42, 43, 44, 45, 46, 47, 48] (by decide +kernel) (by decide +kernel)
set_option maxRecDepth 20000 in
theorem gX1_summed_X1_kept : GoodIn wsX1_summed (wsV RX1 71 RX1 yX1_kept wsX1_kept) := goodIn_app (goodIn_of _ (by decide +kernel)) ggX1_summed_X1_kept
theorem dX1_summed_0 : decode cX1_summed 0 = .ok (.lload_n 3, 1) := by decide +kernel
theorem dX1_summed_1 : decode cX1_summed 1 = .ok (.lload 7, 2) := by decide +kernel
theorem dX1_summed_3 : decode cX1_summed 3 = .ok (.invokestatic 63, 3) := by decide +kernel
theorem dX1_summed_6 : decode cX1_summed 6 = .ok (.lstore 9, 2) := by decide +kernel
theorem dX1_summed_8 : decode cX1_summed 8 = .ok (.aload_n 0, 1) := by decide +kernel
theorem dX1_summed_9 : decode cX1_summed 9 = .ok (.lload_n 1, 1) := by decide +kernel
theorem dX1_summed_10 : decode cX1_summed 10 = .ok (.lload 7, 2) := by decide +kernel
theorem dX1_summed_12 : decode cX1_summed 12 = .ok (.lload 9, 2) := by decide +kernel
theorem dX1_summed_14 : decode cX1_summed 14 = .ok (.ldiv, 1) := by decide +kernel
theorem dX1_summed_15 : decode cX1_summed 15 = .ok (.invokevirtual 75, 3) := by decide +kernel
theorem dX1_summed_18 : decode cX1_summed 18 = .ok (.lstore 11, 2) := by decide +kernel
theorem dX1_summed_20 : decode cX1_summed 20 = .ok (.aload_n 0, 1) := by decide +kernel
theorem dX1_summed_21 : decode cX1_summed 21 = .ok (.lload 5, 2) := by decide +kernel
theorem dX1_summed_23 : decode cX1_summed 23 = .ok (.lload_n 3, 1) := by decide +kernel
theorem dX1_summed_24 : decode cX1_summed 24 = .ok (.lload 9, 2) := by decide +kernel
theorem dX1_summed_26 : decode cX1_summed 26 = .ok (.ldiv, 1) := by decide +kernel
theorem dX1_summed_27 : decode cX1_summed 27 = .ok (.invokevirtual 75, 3) := by decide +kernel
theorem dX1_summed_30 : decode cX1_summed 30 = .ok (.lstore 13, 2) := by decide +kernel
theorem dX1_summed_32 : decode cX1_summed 32 = .ok (.aload_n 0, 1) := by decide +kernel
theorem dX1_summed_33 : decode cX1_summed 33 = .ok (.lload 11, 2) := by decide +kernel
theorem dX1_summed_35 : decode cX1_summed 35 = .ok (.lload 13, 2) := by decide +kernel
theorem dX1_summed_37 : decode cX1_summed 37 = .ok (.invokevirtual 78, 3) := by decide +kernel
theorem dX1_summed_40 : decode cX1_summed 40 = .ok (.lstore 15, 2) := by decide +kernel
theorem dX1_summed_42 : decode cX1_summed 42 = .ok (.aload_n 0, 1) := by decide +kernel
theorem dX1_summed_43 : decode cX1_summed 43 = .ok (.lload_n 3, 1) := by decide +kernel
theorem dX1_summed_44 : decode cX1_summed 44 = .ok (.lload 7, 2) := by decide +kernel
theorem dX1_summed_46 : decode cX1_summed 46 = .ok (.lload 9, 2) := by decide +kernel
theorem dX1_summed_48 : decode cX1_summed 48 = .ok (.ldiv, 1) := by decide +kernel
theorem dX1_summed_49 : decode cX1_summed 49 = .ok (.invokevirtual 75, 3) := by decide +kernel
theorem dX1_summed_52 : decode cX1_summed 52 = .ok (.lstore 17, 2) := by decide +kernel
theorem dX1_summed_54 : decode cX1_summed 54 = .ok (.aload_n 0, 1) := by decide +kernel
theorem dX1_summed_55 : decode cX1_summed 55 = .ok (.getfield 39, 3) := by decide +kernel
theorem dX1_summed_58 : decode cX1_summed 58 = .ok (.ifCond .eq 10, 3) := by decide +kernel
theorem dX1_summed_61 : decode cX1_summed 61 = .ok (.aload_n 0, 1) := by decide +kernel
theorem dX1_summed_62 : decode cX1_summed 62 = .ok (.invokevirtual 81, 3) := by decide +kernel
theorem dX1_summed_65 : decode cX1_summed 65 = .ok (.goto 11, 3) := by decide +kernel
theorem dX1_summed_68 : decode cX1_summed 68 = .ok (.aload_n 0, 1) := by decide +kernel
theorem dX1_summed_69 : decode cX1_summed 69 = .ok (.lload 15, 2) := by decide +kernel
theorem dX1_summed_71 : decode cX1_summed 71 = .ok (.lload 17, 2) := by decide +kernel
theorem dX1_summed_73 : decode cX1_summed 73 = .ok (.invokevirtual 71, 3) := by decide +kernel
theorem dX1_summed_76 : decode cX1_summed 76 = .ok (.ireturn, 1) := by decide +kernel
set_option maxRecDepth 20000 in
theorem ggX1_multiplied_X1_divisor : GoodIn wsX1_multiplied wsX1_divisor := goodIn_r _ [5, 6, 7, 4, 8] (by decide +kernel) (by decide +kernel)
set_option maxRecDepth 20000 in
theorem gX1_multiplied_X1_divisor : GoodIn wsX1_multiplied (va_wsS RX1 63 yX1_divisor wsX1_divisor) := goodIn_app (goodIn_of _ (by decide +kernel)) ggX1_multiplied_X1_divisor
set_option maxRecDepth 20000 in
theorem ggX1_multiplied_X1_times : GoodIn wsX1_multiplied wsX1_times := goodIn_r _ [12, 13, 1, 6, 7, 4, 8, 27, 28, 29, 30, 31, 32, 33, 34, 35, 36, 37, 38, 39, 40, 41, 42, 43] (by decide +kernel) (by decide +kernel)
set_option maxRecDepth 20000 in
theorem gX1_multiplied_X1_times : GoodIn wsX1_multiplied (wsV RX1 75 RX1 yX1_times wsX1_times) := goodIn_app (goodIn_of _ (by decide +kernel)) ggX1_multiplied_X1_times
set_option maxRecDepth 20000 in
theorem ggX1_multiplied_X1_grew : GoodIn wsX1_multiplied wsX1_grew := goodIn_r _ [17, 18, 27, 28, 29, 30, 31, 32, 33, 34, 35, 36, 37, 38, 39, 40, 41, 42, 43] (by decide +kernel) (by decide +kernel)
set_option maxRecDepth 20000 in
theorem gX1_multiplied_X1_grew : GoodIn wsX1_multiplied (wsV RX1 81 RX1 yX1_grew wsX1_grew) := goodIn_app (goodIn_of _ (by decide +kernel)) ggX1_multiplied_X1_grew
set_option maxRecDepth 20000 in
theorem ggX1_multiplied_X1_kept : GoodIn wsX1_multiplied wsX1_kept := goodIn_r _ [22, 23, 24, 25, 26, 2, 3, 4, 5, 6, 7, 8, 27, 28, 29, 30, 31, 32, 33, 34, 35, 36, 37, 38, 39, 40, 41, 42, 43] (by decide +kernel) (by decide +kernel)
set_option maxRecDepth 20000 in
theorem gX1_multiplied_X1_kept : GoodIn wsX1_multiplied (wsV RX1 71 RX1 yX1_kept wsX1_kept) := goodIn_app (goodIn_of _ (by decide +kernel)) ggX1_multiplied_X1_kept
theorem dX1_multiplied_0 : decode cX1_multiplied 0 = .ok (.lload_n 1, 1) := by decide +kernel
theorem dX1_multiplied_1 : decode cX1_multiplied 1 = .ok (.lload 7, 2) := by decide +kernel
theorem dX1_multiplied_3 : decode cX1_multiplied 3 = .ok (.invokestatic 63, 3) := by decide +kernel
theorem dX1_multiplied_6 : decode cX1_multiplied 6 = .ok (.lstore 9, 2) := by decide +kernel
theorem dX1_multiplied_8 : decode cX1_multiplied 8 = .ok (.lload 5, 2) := by decide +kernel
theorem dX1_multiplied_10 : decode cX1_multiplied 10 = .ok (.lload_n 3, 1) := by decide +kernel
theorem dX1_multiplied_11 : decode cX1_multiplied 11 = .ok (.invokestatic 63, 3) := by decide +kernel
theorem dX1_multiplied_14 : decode cX1_multiplied 14 = .ok (.lstore 11, 2) := by decide +kernel
theorem dX1_multiplied_16 : decode cX1_multiplied 16 = .ok (.aload_n 0, 1) := by decide +kernel
theorem dX1_multiplied_17 : decode cX1_multiplied 17 = .ok (.lload_n 1, 1) := by decide +kernel
theorem dX1_multiplied_18 : decode cX1_multiplied 18 = .ok (.lload 9, 2) := by decide +kernel
theorem dX1_multiplied_20 : decode cX1_multiplied 20 = .ok (.ldiv, 1) := by decide +kernel
theorem dX1_multiplied_21 : decode cX1_multiplied 21 = .ok (.lload 5, 2) := by decide +kernel
theorem dX1_multiplied_23 : decode cX1_multiplied 23 = .ok (.lload 11, 2) := by decide +kernel
theorem dX1_multiplied_25 : decode cX1_multiplied 25 = .ok (.ldiv, 1) := by decide +kernel
theorem dX1_multiplied_26 : decode cX1_multiplied 26 = .ok (.invokevirtual 75, 3) := by decide +kernel
theorem dX1_multiplied_29 : decode cX1_multiplied 29 = .ok (.lstore 13, 2) := by decide +kernel
theorem dX1_multiplied_31 : decode cX1_multiplied 31 = .ok (.aload_n 0, 1) := by decide +kernel
theorem dX1_multiplied_32 : decode cX1_multiplied 32 = .ok (.lload_n 3, 1) := by decide +kernel
theorem dX1_multiplied_33 : decode cX1_multiplied 33 = .ok (.lload 11, 2) := by decide +kernel
theorem dX1_multiplied_35 : decode cX1_multiplied 35 = .ok (.ldiv, 1) := by decide +kernel
theorem dX1_multiplied_36 : decode cX1_multiplied 36 = .ok (.lload 7, 2) := by decide +kernel
theorem dX1_multiplied_38 : decode cX1_multiplied 38 = .ok (.lload 9, 2) := by decide +kernel
theorem dX1_multiplied_40 : decode cX1_multiplied 40 = .ok (.ldiv, 1) := by decide +kernel
theorem dX1_multiplied_41 : decode cX1_multiplied 41 = .ok (.invokevirtual 75, 3) := by decide +kernel
theorem dX1_multiplied_44 : decode cX1_multiplied 44 = .ok (.lstore 15, 2) := by decide +kernel
theorem dX1_multiplied_46 : decode cX1_multiplied 46 = .ok (.aload_n 0, 1) := by decide +kernel
theorem dX1_multiplied_47 : decode cX1_multiplied 47 = .ok (.getfield 39, 3) := by decide +kernel
theorem dX1_multiplied_50 : decode cX1_multiplied 50 = .ok (.ifCond .eq 10, 3) := by decide +kernel
theorem dX1_multiplied_53 : decode cX1_multiplied 53 = .ok (.aload_n 0, 1) := by decide +kernel
theorem dX1_multiplied_54 : decode cX1_multiplied 54 = .ok (.invokevirtual 81, 3) := by decide +kernel
theorem dX1_multiplied_57 : decode cX1_multiplied 57 = .ok (.goto 11, 3) := by decide +kernel
theorem dX1_multiplied_60 : decode cX1_multiplied 60 = .ok (.aload_n 0, 1) := by decide +kernel
theorem dX1_multiplied_61 : decode cX1_multiplied 61 = .ok (.lload 13, 2) := by decide +kernel
theorem dX1_multiplied_63 : decode cX1_multiplied 63 = .ok (.lload 15, 2) := by decide +kernel
theorem dX1_multiplied_65 : decode cX1_multiplied 65 = .ok (.invokevirtual 71, 3) := by decide +kernel
theorem dX1_multiplied_68 : decode cX1_multiplied 68 = .ok (.ireturn, 1) := by decide +kernel
set_option maxRecDepth 20000 in
theorem ggX1_divided_X1_multiplied : GoodIn wsX1_divided wsX1_multiplied := goodIn_r _ [7, 8, 9, 10, 6, 11, 12, 13, 14, 15, 16, 17, 18, 19, 20, 21, 22, 23, 24, 25, 26, 27, 28, 29, 1, 30, 2, 31, 32, 33, 34, 35, 36, 37, 38, 39, 40, 41, 42, 43, 44, 45, 46, 47] (by decide +kernel) (by decide +kernel)
set_option maxRecDepth 20000 in
theorem gX1_divided_X1_multiplied : GoodIn wsX1_divided (wsV RX1 85 RX1 yX1_multiplied wsX1_multiplied) := goodIn_app (goodIn_of _ (by decide +kernel)) ggX1_divided_X1_multiplied
theorem dX1_divided_0 : decode cX1_divided 0 = .ok (.aload_n 0, 1) := by decide +kernel
theorem dX1_divided_1 : decode cX1_divided 1 = .ok (.getfield 7, 3) := by decide +kernel
theorem dX1_divided_4 : decode cX1_divided 4 = .ok (.iload_n 2, 1) := by decide +kernel
theorem dX1_divided_5 : decode cX1_divided 5 = .ok (.laload, 1) := by decide +kernel
theorem dX1_divided_6 : decode cX1_divided 6 = .ok (.lconst 0, 1) := by decide +kernel
theorem dX1_divided_7 : decode cX1_divided 7 = .ok (.lcmp, 1) := by decide +kernel
theorem dX1_divided_8 : decode cX1_divided 8 = .ok (.ifCond .ge 7, 3) := by decide +kernel
theorem dX1_divided_11 : decode cX1_divided 11 = .ok (.iconst 1, 1) := by decide +kernel
theorem dX1_divided_12 : decode cX1_divided 12 = .ok (.goto 4, 3) := by decide +kernel
theorem dX1_divided_15 : decode cX1_divided 15 = .ok (.iconst 0, 1) := by decide +kernel
theorem dX1_divided_16 : decode cX1_divided 16 = .ok (.istore_n 3, 1) := by decide +kernel
theorem dX1_divided_17 : decode cX1_divided 17 = .ok (.aload_n 0, 1) := by decide +kernel
theorem dX1_divided_18 : decode cX1_divided 18 = .ok (.aload_n 0, 1) := by decide +kernel
theorem dX1_divided_19 : decode cX1_divided 19 = .ok (.getfield 7, 3) := by decide +kernel
theorem dX1_divided_22 : decode cX1_divided 22 = .ok (.iload_n 1, 1) := by decide +kernel
theorem dX1_divided_23 : decode cX1_divided 23 = .ok (.laload, 1) := by decide +kernel
theorem dX1_divided_24 : decode cX1_divided 24 = .ok (.aload_n 0, 1) := by decide +kernel
theorem dX1_divided_25 : decode cX1_divided 25 = .ok (.getfield 13, 3) := by decide +kernel
theorem dX1_divided_28 : decode cX1_divided 28 = .ok (.iload_n 1, 1) := by decide +kernel
theorem dX1_divided_29 : decode cX1_divided 29 = .ok (.laload, 1) := by decide +kernel
theorem dX1_divided_30 : decode cX1_divided 30 = .ok (.iload_n 3, 1) := by decide +kernel
theorem dX1_divided_31 : decode cX1_divided 31 = .ok (.ifCond .eq 13, 3) := by decide +kernel
theorem dX1_divided_34 : decode cX1_divided 34 = .ok (.aload_n 0, 1) := by decide +kernel
theorem dX1_divided_35 : decode cX1_divided 35 = .ok (.getfield 13, 3) := by decide +kernel
theorem dX1_divided_38 : decode cX1_divided 38 = .ok (.iload_n 2, 1) := by decide +kernel
theorem dX1_divided_39 : decode cX1_divided 39 = .ok (.laload, 1) := by decide +kernel
theorem dX1_divided_40 : decode cX1_divided 40 = .ok (.lneg, 1) := by decide +kernel
theorem dX1_divided_41 : decode cX1_divided 41 = .ok (.goto 9, 3) := by decide +kernel
theorem dX1_divided_44 : decode cX1_divided 44 = .ok (.aload_n 0, 1) := by decide +kernel
theorem dX1_divided_45 : decode cX1_divided 45 = .ok (.getfield 13, 3) := by decide +kernel
theorem dX1_divided_48 : decode cX1_divided 48 = .ok (.iload_n 2, 1) := by decide +kernel
theorem dX1_divided_49 : decode cX1_divided 49 = .ok (.laload, 1) := by decide +kernel
theorem dX1_divided_50 : decode cX1_divided 50 = .ok (.iload_n 3, 1) := by decide +kernel
theorem dX1_divided_51 : decode cX1_divided 51 = .ok (.ifCond .eq 13, 3) := by decide +kernel
theorem dX1_divided_54 : decode cX1_divided 54 = .ok (.aload_n 0, 1) := by decide +kernel
theorem dX1_divided_55 : decode cX1_divided 55 = .ok (.getfield 7, 3) := by decide +kernel
theorem dX1_divided_58 : decode cX1_divided 58 = .ok (.iload_n 2, 1) := by decide +kernel
theorem dX1_divided_59 : decode cX1_divided 59 = .ok (.laload, 1) := by decide +kernel
theorem dX1_divided_60 : decode cX1_divided 60 = .ok (.lneg, 1) := by decide +kernel
theorem dX1_divided_61 : decode cX1_divided 61 = .ok (.goto 9, 3) := by decide +kernel
theorem dX1_divided_64 : decode cX1_divided 64 = .ok (.aload_n 0, 1) := by decide +kernel
theorem dX1_divided_65 : decode cX1_divided 65 = .ok (.getfield 7, 3) := by decide +kernel
theorem dX1_divided_68 : decode cX1_divided 68 = .ok (.iload_n 2, 1) := by decide +kernel
theorem dX1_divided_69 : decode cX1_divided 69 = .ok (.laload, 1) := by decide +kernel
theorem dX1_divided_70 : decode cX1_divided 70 = .ok (.invokevirtual 85, 3) := by decide +kernel
theorem dX1_divided_73 : decode cX1_divided 73 = .ok (.ireturn, 1) := by decide +kernel
theorem dX1_grew_0 : decode cX1_grew 0 = .ok (.aload_n 0, 1) := by decide +kernel
theorem dX1_grew_1 : decode cX1_grew 1 = .ok (.dup, 1) := by decide +kernel
theorem dX1_grew_2 : decode cX1_grew 2 = .ok (.getfield 89, 3) := by decide +kernel
theorem dX1_grew_5 : decode cX1_grew 5 = .ok (.iconst 1, 1) := by decide +kernel
theorem dX1_grew_6 : decode cX1_grew 6 = .ok (.iadd, 1) := by decide +kernel
theorem dX1_grew_7 : decode cX1_grew 7 = .ok (.putfield 89, 3) := by decide +kernel
theorem dX1_grew_10 : decode cX1_grew 10 = .ok (.bipush (-3), 2) := by decide +kernel
theorem dX1_grew_12 : decode cX1_grew 12 = .ok (.ireturn, 1) := by decide +kernel
set_option maxRecDepth 20000 in
theorem ggX1_act_X1_isIn : GoodIn wsX1_act wsX1_isIn := goodIn_r _ [10] (by decide +kernel) (by decide +kernel)
set_option maxRecDepth 20000 in
theorem gX1_act_X1_isIn : GoodIn wsX1_act (va_wsS RX1 59 yX1_isIn wsX1_isIn) := goodIn_app (goodIn_of _ (by decide +kernel)) ggX1_act_X1_isIn
set_option maxRecDepth 20000 in
theorem ggX1_act_X1_isNumber : GoodIn wsX1_act wsX1_isNumber := goodIn_r _ [14, 3, 7, 8, 9, 10, 53, 54, 55, 56, 57, 58, 59, 60, 61, 62, 63, 64, 65, 66, 67, 68, 69] (by decide +kernel) (by decide +kernel)
set_option maxRecDepth 20000 in
theorem gX1_act_X1_isNumber : GoodIn wsX1_act (wsV RX1 94 RX1 yX1_isNumber wsX1_isNumber) := goodIn_app (goodIn_of _ (by decide +kernel)) ggX1_act_X1_isNumber
set_option maxRecDepth 20000 in
theorem ggX1_act_X1_divided : GoodIn wsX1_act wsX1_divided := goodIn_r _ [18, 4, 6, 19, 20, 21, 9, 22, 5, 23, 24, 25, 26, 27, 28, 29, 30, 31, 32, 33, 34, 35, 36, 37, 38, 39, 40, 41, 42, 43, 3, 53, 54, 55, 56, 57, 58, 59, 60, 61, 62, 63, 64, 65, 66, 67, 68, 69] (by decide +kernel) (by decide +kernel)
set_option maxRecDepth 20000 in
theorem gX1_act_X1_divided : GoodIn wsX1_act (wsV RX1 98 RX1 yX1_divided wsX1_divided) := goodIn_app (goodIn_of _ (by decide +kernel)) ggX1_act_X1_divided
set_option maxRecDepth 20000 in
theorem ggX1_act_X1_multiplied : GoodIn wsX1_act wsX1_multiplied := goodIn_r _ [22, 5, 23, 24, 9, 25, 26, 27, 28, 29, 30, 31, 32, 33, 34, 35, 36, 37, 38, 39, 40, 41, 42, 43, 4, 3, 6, 53, 54, 55, 56, 57, 58, 59, 60, 61, 62, 63, 64, 65, 66, 67, 68, 69] (by decide +kernel) (by decide +kernel)
set_option maxRecDepth 20000 in
theorem gX1_act_X1_multiplied : GoodIn wsX1_act (wsV RX1 85 RX1 yX1_multiplied wsX1_multiplied) := goodIn_app (goodIn_of _ (by decide +kernel)) ggX1_act_X1_multiplied
set_option maxRecDepth 20000 in
theorem ggX1_act_X1_summed : GoodIn wsX1_act wsX1_summed := goodIn_r _ [47, 5, 23, 24, 9, 25, 26, 27, 28, 29, 30, 31, 32, 33, 48, 49, 50, 51, 52, 34, 35, 36, 37, 38, 39, 40, 41, 42, 43, 4, 3, 6, 53, 54, 55, 56, 57, 58, 59, 60, 61, 62, 63, 64, 65, 66, 67, 68, 69] (by decide +kernel) (by decide +kernel)
set_option maxRecDepth 20000 in
theorem gX1_act_X1_summed : GoodIn wsX1_act (wsV RX1 102 RX1 yX1_summed wsX1_summed) := goodIn_app (goodIn_of _ (by decide +kernel)) ggX1_act_X1_summed
theorem dX1_act_0 : decode cX1_act 0 = .ok (.aload_n 0, 1) := by decide +kernel
theorem dX1_act_1 : decode cX1_act 1 = .ok (.iconst 0, 1) := by decide +kernel
theorem dX1_act_2 : decode cX1_act 2 = .ok (.putfield 43, 3) := by decide +kernel
theorem dX1_act_5 : decode cX1_act 5 = .ok (.iload_n 1, 1) := by decide +kernel
theorem dX1_act_6 : decode cX1_act 6 = .ok (.i2l, 1) := by decide +kernel
theorem dX1_act_7 : decode cX1_act 7 = .ok (.lconst 0, 1) := by decide +kernel
theorem dX1_act_8 : decode cX1_act 8 = .ok (.ldc2_w 92, 3) := by decide +kernel
theorem dX1_act_11 : decode cX1_act 11 = .ok (.invokestatic 59, 3) := by decide +kernel
theorem dX1_act_14 : decode cX1_act 14 = .ok (.ifCond .eq 19, 3) := by decide +kernel
theorem dX1_act_17 : decode cX1_act 17 = .ok (.aload_n 0, 1) := by decide +kernel
theorem dX1_act_18 : decode cX1_act 18 = .ok (.iload_n 2, 1) := by decide +kernel
theorem dX1_act_19 : decode cX1_act 19 = .ok (.invokevirtual 94, 3) := by decide +kernel
theorem dX1_act_22 : decode cX1_act 22 = .ok (.ifCond .eq 11, 3) := by decide +kernel
theorem dX1_act_25 : decode cX1_act 25 = .ok (.aload_n 0, 1) := by decide +kernel
theorem dX1_act_26 : decode cX1_act 26 = .ok (.iload_n 3, 1) := by decide +kernel
theorem dX1_act_27 : decode cX1_act 27 = .ok (.invokevirtual 94, 3) := by decide +kernel
theorem dX1_act_30 : decode cX1_act 30 = .ok (.ifCond .ne 5, 3) := by decide +kernel
theorem dX1_act_33 : decode cX1_act 33 = .ok (.iconst (-1), 1) := by decide +kernel
theorem dX1_act_34 : decode cX1_act 34 = .ok (.ireturn, 1) := by decide +kernel
theorem dX1_act_35 : decode cX1_act 35 = .ok (.aload_n 0, 1) := by decide +kernel
theorem dX1_act_36 : decode cX1_act 36 = .ok (.getfield 56, 3) := by decide +kernel
theorem dX1_act_39 : decode cX1_act 39 = .ok (.bipush 40, 2) := by decide +kernel
theorem dX1_act_41 : decode cX1_act 41 = .ok (.if_icmp .ne 6, 3) := by decide +kernel
theorem dX1_act_44 : decode cX1_act 44 = .ok (.bipush (-4), 2) := by decide +kernel
theorem dX1_act_46 : decode cX1_act 46 = .ok (.ireturn, 1) := by decide +kernel
theorem dX1_act_47 : decode cX1_act 47 = .ok (.iload_n 1, 1) := by decide +kernel
theorem dX1_act_48 : decode cX1_act 48 = .ok (.iconst 3, 1) := by decide +kernel
theorem dX1_act_49 : decode cX1_act 49 = .ok (.if_icmp .ne 17, 3) := by decide +kernel
theorem dX1_act_52 : decode cX1_act 52 = .ok (.aload_n 0, 1) := by decide +kernel
theorem dX1_act_53 : decode cX1_act 53 = .ok (.getfield 7, 3) := by decide +kernel
theorem dX1_act_56 : decode cX1_act 56 = .ok (.iload_n 3, 1) := by decide +kernel
theorem dX1_act_57 : decode cX1_act 57 = .ok (.laload, 1) := by decide +kernel
theorem dX1_act_58 : decode cX1_act 58 = .ok (.lconst 0, 1) := by decide +kernel
theorem dX1_act_59 : decode cX1_act 59 = .ok (.lcmp, 1) := by decide +kernel
theorem dX1_act_60 : decode cX1_act 60 = .ok (.ifCond .ne 6, 3) := by decide +kernel
theorem dX1_act_63 : decode cX1_act 63 = .ok (.bipush (-2), 2) := by decide +kernel
theorem dX1_act_65 : decode cX1_act 65 = .ok (.ireturn, 1) := by decide +kernel
theorem dX1_act_66 : decode cX1_act 66 = .ok (.aload_n 0, 1) := by decide +kernel
theorem dX1_act_67 : decode cX1_act 67 = .ok (.iconst 0, 1) := by decide +kernel
theorem dX1_act_68 : decode cX1_act 68 = .ok (.putfield 39, 3) := by decide +kernel
theorem dX1_act_71 : decode cX1_act 71 = .ok (.iload_n 1, 1) := by decide +kernel
theorem dX1_act_72 : decode cX1_act 72 = .ok (.iconst 3, 1) := by decide +kernel
theorem dX1_act_73 : decode cX1_act 73 = .ok (.if_icmp .ne 12, 3) := by decide +kernel
theorem dX1_act_76 : decode cX1_act 76 = .ok (.aload_n 0, 1) := by decide +kernel
theorem dX1_act_77 : decode cX1_act 77 = .ok (.iload_n 2, 1) := by decide +kernel
theorem dX1_act_78 : decode cX1_act 78 = .ok (.iload_n 3, 1) := by decide +kernel
theorem dX1_act_79 : decode cX1_act 79 = .ok (.invokevirtual 98, 3) := by decide +kernel
theorem dX1_act_82 : decode cX1_act 82 = .ok (.goto 81, 3) := by decide +kernel
theorem dX1_act_85 : decode cX1_act 85 = .ok (.iload_n 1, 1) := by decide +kernel
theorem dX1_act_86 : decode cX1_act 86 = .ok (.iconst 2, 1) := by decide +kernel
theorem dX1_act_87 : decode cX1_act 87 = .ok (.if_icmp .ne 34, 3) := by decide +kernel
theorem dX1_act_90 : decode cX1_act 90 = .ok (.aload_n 0, 1) := by decide +kernel
theorem dX1_act_91 : decode cX1_act 91 = .ok (.aload_n 0, 1) := by decide +kernel
theorem dX1_act_92 : decode cX1_act 92 = .ok (.getfield 7, 3) := by decide +kernel
theorem dX1_act_95 : decode cX1_act 95 = .ok (.iload_n 2, 1) := by decide +kernel
theorem dX1_act_96 : decode cX1_act 96 = .ok (.laload, 1) := by decide +kernel
theorem dX1_act_97 : decode cX1_act 97 = .ok (.aload_n 0, 1) := by decide +kernel
theorem dX1_act_98 : decode cX1_act 98 = .ok (.getfield 13, 3) := by decide +kernel
theorem dX1_act_101 : decode cX1_act 101 = .ok (.iload_n 2, 1) := by decide +kernel
theorem dX1_act_102 : decode cX1_act 102 = .ok (.laload, 1) := by decide +kernel
theorem dX1_act_103 : decode cX1_act 103 = .ok (.aload_n 0, 1) := by decide +kernel
theorem dX1_act_104 : decode cX1_act 104 = .ok (.getfield 7, 3) := by decide +kernel
theorem dX1_act_107 : decode cX1_act 107 = .ok (.iload_n 3, 1) := by decide +kernel
theorem dX1_act_108 : decode cX1_act 108 = .ok (.laload, 1) := by decide +kernel
theorem dX1_act_109 : decode cX1_act 109 = .ok (.aload_n 0, 1) := by decide +kernel
theorem dX1_act_110 : decode cX1_act 110 = .ok (.getfield 13, 3) := by decide +kernel
theorem dX1_act_113 : decode cX1_act 113 = .ok (.iload_n 3, 1) := by decide +kernel
theorem dX1_act_114 : decode cX1_act 114 = .ok (.laload, 1) := by decide +kernel
theorem dX1_act_115 : decode cX1_act 115 = .ok (.invokevirtual 85, 3) := by decide +kernel
theorem dX1_act_118 : decode cX1_act 118 = .ok (.goto 45, 3) := by decide +kernel
theorem dX1_act_121 : decode cX1_act 121 = .ok (.aload_n 0, 1) := by decide +kernel
theorem dX1_act_122 : decode cX1_act 122 = .ok (.aload_n 0, 1) := by decide +kernel
theorem dX1_act_123 : decode cX1_act 123 = .ok (.getfield 7, 3) := by decide +kernel
theorem dX1_act_126 : decode cX1_act 126 = .ok (.iload_n 2, 1) := by decide +kernel
theorem dX1_act_127 : decode cX1_act 127 = .ok (.laload, 1) := by decide +kernel
theorem dX1_act_128 : decode cX1_act 128 = .ok (.aload_n 0, 1) := by decide +kernel
theorem dX1_act_129 : decode cX1_act 129 = .ok (.getfield 13, 3) := by decide +kernel
theorem dX1_act_132 : decode cX1_act 132 = .ok (.iload_n 2, 1) := by decide +kernel
theorem dX1_act_133 : decode cX1_act 133 = .ok (.laload, 1) := by decide +kernel
theorem dX1_act_134 : decode cX1_act 134 = .ok (.iload_n 1, 1) := by decide +kernel
theorem dX1_act_135 : decode cX1_act 135 = .ok (.ifCond .ne 12, 3) := by decide +kernel
theorem dX1_act_138 : decode cX1_act 138 = .ok (.aload_n 0, 1) := by decide +kernel
theorem dX1_act_139 : decode cX1_act 139 = .ok (.getfield 7, 3) := by decide +kernel
theorem dX1_act_142 : decode cX1_act 142 = .ok (.iload_n 3, 1) := by decide +kernel
theorem dX1_act_143 : decode cX1_act 143 = .ok (.laload, 1) := by decide +kernel
theorem dX1_act_144 : decode cX1_act 144 = .ok (.goto 10, 3) := by decide +kernel
theorem dX1_act_147 : decode cX1_act 147 = .ok (.aload_n 0, 1) := by decide +kernel
theorem dX1_act_148 : decode cX1_act 148 = .ok (.getfield 7, 3) := by decide +kernel
theorem dX1_act_151 : decode cX1_act 151 = .ok (.iload_n 3, 1) := by decide +kernel
theorem dX1_act_152 : decode cX1_act 152 = .ok (.laload, 1) := by decide +kernel
theorem dX1_act_153 : decode cX1_act 153 = .ok (.lneg, 1) := by decide +kernel
theorem dX1_act_154 : decode cX1_act 154 = .ok (.aload_n 0, 1) := by decide +kernel
theorem dX1_act_155 : decode cX1_act 155 = .ok (.getfield 13, 3) := by decide +kernel
theorem dX1_act_158 : decode cX1_act 158 = .ok (.iload_n 3, 1) := by decide +kernel
theorem dX1_act_159 : decode cX1_act 159 = .ok (.laload, 1) := by decide +kernel
theorem dX1_act_160 : decode cX1_act 160 = .ok (.invokevirtual 102, 3) := by decide +kernel
theorem dX1_act_163 : decode cX1_act 163 = .ok (.ireturn, 1) := by decide +kernel
set_option maxRecDepth 20000 in
theorem ggX1_over_X1_isNumber : GoodIn wsX1_over wsX1_isNumber := goodIn_r _ [9, 2, 10, 11, 8, 12, 43, 44, 45, 46, 47, 48, 49, 50, 51, 52, 53, 54, 55, 56, 57, 58, 59] (by decide +kernel) (by decide +kernel)
set_option maxRecDepth 20000 in
theorem gX1_over_X1_isNumber : GoodIn wsX1_over (wsV RX1 94 RX1 yX1_isNumber wsX1_isNumber) := goodIn_app (goodIn_of _ (by decide +kernel)) ggX1_over_X1_isNumber
set_option maxRecDepth 20000 in
theorem ggX1_over_X1_divided : GoodIn wsX1_over wsX1_divided := goodIn_r _ [16, 3, 17, 18, 19, 20, 8, 21, 4, 22, 23, 24, 25, 26, 27, 28, 29, 30, 31, 32, 33, 34, 35, 36, 37, 38, 39, 40, 41, 42, 2, 43, 44, 45, 46, 47, 48, 49, 50, 51, 52, 53, 54, 55, 56, 57, 58, 59] (by decide +kernel) (by decide +kernel)
set_option maxRecDepth 20000 in
theorem gX1_over_X1_divided : GoodIn wsX1_over (wsV RX1 98 RX1 yX1_divided wsX1_divided) := goodIn_app (goodIn_of _ (by decide +kernel)) ggX1_over_X1_divided
theorem dX1_over_0 : decode cX1_over 0 = .ok (.aload_n 0, 1) := by decide +kernel
theorem dX1_over_1 : decode cX1_over 1 = .ok (.iconst 0, 1) := by decide +kernel
theorem dX1_over_2 : decode cX1_over 2 = .ok (.putfield 43, 3) := by decide +kernel
theorem dX1_over_5 : decode cX1_over 5 = .ok (.aload_n 0, 1) := by decide +kernel
theorem dX1_over_6 : decode cX1_over 6 = .ok (.iload_n 1, 1) := by decide +kernel
theorem dX1_over_7 : decode cX1_over 7 = .ok (.invokevirtual 94, 3) := by decide +kernel
theorem dX1_over_10 : decode cX1_over 10 = .ok (.ifCond .eq 11, 3) := by decide +kernel
theorem dX1_over_13 : decode cX1_over 13 = .ok (.aload_n 0, 1) := by decide +kernel
theorem dX1_over_14 : decode cX1_over 14 = .ok (.iload_n 2, 1) := by decide +kernel
theorem dX1_over_15 : decode cX1_over 15 = .ok (.invokevirtual 94, 3) := by decide +kernel
theorem dX1_over_18 : decode cX1_over 18 = .ok (.ifCond .ne 5, 3) := by decide +kernel
theorem dX1_over_21 : decode cX1_over 21 = .ok (.iconst (-1), 1) := by decide +kernel
theorem dX1_over_22 : decode cX1_over 22 = .ok (.ireturn, 1) := by decide +kernel
theorem dX1_over_23 : decode cX1_over 23 = .ok (.aload_n 0, 1) := by decide +kernel
theorem dX1_over_24 : decode cX1_over 24 = .ok (.getfield 56, 3) := by decide +kernel
theorem dX1_over_27 : decode cX1_over 27 = .ok (.bipush 40, 2) := by decide +kernel
theorem dX1_over_29 : decode cX1_over 29 = .ok (.if_icmp .ne 6, 3) := by decide +kernel
theorem dX1_over_32 : decode cX1_over 32 = .ok (.bipush (-4), 2) := by decide +kernel
theorem dX1_over_34 : decode cX1_over 34 = .ok (.ireturn, 1) := by decide +kernel
theorem dX1_over_35 : decode cX1_over 35 = .ok (.aload_n 0, 1) := by decide +kernel
theorem dX1_over_36 : decode cX1_over 36 = .ok (.getfield 7, 3) := by decide +kernel
theorem dX1_over_39 : decode cX1_over 39 = .ok (.iload_n 2, 1) := by decide +kernel
theorem dX1_over_40 : decode cX1_over 40 = .ok (.laload, 1) := by decide +kernel
theorem dX1_over_41 : decode cX1_over 41 = .ok (.lconst 0, 1) := by decide +kernel
theorem dX1_over_42 : decode cX1_over 42 = .ok (.lcmp, 1) := by decide +kernel
theorem dX1_over_43 : decode cX1_over 43 = .ok (.ifCond .ne 10, 3) := by decide +kernel
theorem dX1_over_46 : decode cX1_over 46 = .ok (.aload_n 0, 1) := by decide +kernel
theorem dX1_over_47 : decode cX1_over 47 = .ok (.iconst 1, 1) := by decide +kernel
theorem dX1_over_48 : decode cX1_over 48 = .ok (.putfield 43, 3) := by decide +kernel
theorem dX1_over_51 : decode cX1_over 51 = .ok (.iconst 0, 1) := by decide +kernel
theorem dX1_over_52 : decode cX1_over 52 = .ok (.ireturn, 1) := by decide +kernel
theorem dX1_over_53 : decode cX1_over 53 = .ok (.aload_n 0, 1) := by decide +kernel
theorem dX1_over_54 : decode cX1_over 54 = .ok (.iconst 0, 1) := by decide +kernel
theorem dX1_over_55 : decode cX1_over 55 = .ok (.putfield 39, 3) := by decide +kernel
theorem dX1_over_58 : decode cX1_over 58 = .ok (.aload_n 0, 1) := by decide +kernel
theorem dX1_over_59 : decode cX1_over 59 = .ok (.iload_n 1, 1) := by decide +kernel
theorem dX1_over_60 : decode cX1_over 60 = .ok (.iload_n 2, 1) := by decide +kernel
theorem dX1_over_61 : decode cX1_over 61 = .ok (.invokevirtual 98, 3) := by decide +kernel
theorem dX1_over_64 : decode cX1_over 64 = .ok (.ireturn, 1) := by decide +kernel
theorem dX1_drop_0 : decode cX1_drop 0 = .ok (.aload_n 0, 1) := by decide +kernel
theorem dX1_drop_1 : decode cX1_drop 1 = .ok (.iconst 0, 1) := by decide +kernel
theorem dX1_drop_2 : decode cX1_drop 2 = .ok (.putfield 43, 3) := by decide +kernel
theorem dX1_drop_5 : decode cX1_drop 5 = .ok (.aload_n 0, 1) := by decide +kernel
theorem dX1_drop_6 : decode cX1_drop 6 = .ok (.getfield 56, 3) := by decide +kernel
theorem dX1_drop_9 : decode cX1_drop 9 = .ok (.ifCond .ne 6, 3) := by decide +kernel
theorem dX1_drop_12 : decode cX1_drop 12 = .ok (.bipush (-5), 2) := by decide +kernel
theorem dX1_drop_14 : decode cX1_drop 14 = .ok (.ireturn, 1) := by decide +kernel
theorem dX1_drop_15 : decode cX1_drop 15 = .ok (.aload_n 0, 1) := by decide +kernel
theorem dX1_drop_16 : decode cX1_drop 16 = .ok (.dup, 1) := by decide +kernel
theorem dX1_drop_17 : decode cX1_drop 17 = .ok (.getfield 56, 3) := by decide +kernel
theorem dX1_drop_20 : decode cX1_drop 20 = .ok (.iconst 1, 1) := by decide +kernel
theorem dX1_drop_21 : decode cX1_drop 21 = .ok (.isub, 1) := by decide +kernel
theorem dX1_drop_22 : decode cX1_drop 22 = .ok (.putfield 56, 3) := by decide +kernel
theorem dX1_drop_25 : decode cX1_drop 25 = .ok (.aload_n 0, 1) := by decide +kernel
theorem dX1_drop_26 : decode cX1_drop 26 = .ok (.getfield 56, 3) := by decide +kernel
theorem dX1_drop_29 : decode cX1_drop 29 = .ok (.ireturn, 1) := by decide +kernel
set_option maxRecDepth 20000 in
theorem ggX1_ordered_X1_sizeOf : GoodIn wsX1_ordered wsX1_sizeOf := goodIn_r _ [6] (by decide +kernel) (by decide +kernel)
set_option maxRecDepth 20000 in
theorem gX1_ordered_X1_sizeOf : GoodIn wsX1_ordered (va_wsS RX1 46 yX1_sizeOf wsX1_sizeOf) := goodIn_app (goodIn_of _ (by decide +kernel)) ggX1_ordered_X1_sizeOf
set_option maxRecDepth 20000 in
theorem ggX1_ordered_X1_compared : GoodIn wsX1_ordered wsX1_compared := goodIn_r _ [10, 11, 12, 13, 14, 15, 16, 17, 18, 19, 20, 21, 22, 23, 24, 25, 26, 27, 28, 29, 30] (by decide +kernel) (by decide +kernel)
set_option maxRecDepth 20000 in
theorem gX1_ordered_X1_compared : GoodIn wsX1_ordered (wsV RX1 105 RX1 yX1_compared wsX1_compared) := goodIn_app (goodIn_of _ (by decide +kernel)) ggX1_ordered_X1_compared
theorem dX1_ordered_0 : decode cX1_ordered 0 = .ok (.aload_n 0, 1) := by decide +kernel
theorem dX1_ordered_1 : decode cX1_ordered 1 = .ok (.getfield 7, 3) := by decide +kernel
theorem dX1_ordered_4 : decode cX1_ordered 4 = .ok (.iload_n 1, 1) := by decide +kernel
theorem dX1_ordered_5 : decode cX1_ordered 5 = .ok (.laload, 1) := by decide +kernel
theorem dX1_ordered_6 : decode cX1_ordered 6 = .ok (.lconst 0, 1) := by decide +kernel
theorem dX1_ordered_7 : decode cX1_ordered 7 = .ok (.lcmp, 1) := by decide +kernel
theorem dX1_ordered_8 : decode cX1_ordered 8 = .ok (.ifCond .ge 7, 3) := by decide +kernel
theorem dX1_ordered_11 : decode cX1_ordered 11 = .ok (.iconst 1, 1) := by decide +kernel
theorem dX1_ordered_12 : decode cX1_ordered 12 = .ok (.goto 4, 3) := by decide +kernel
theorem dX1_ordered_15 : decode cX1_ordered 15 = .ok (.iconst 0, 1) := by decide +kernel
theorem dX1_ordered_16 : decode cX1_ordered 16 = .ok (.istore_n 3, 1) := by decide +kernel
theorem dX1_ordered_17 : decode cX1_ordered 17 = .ok (.aload_n 0, 1) := by decide +kernel
theorem dX1_ordered_18 : decode cX1_ordered 18 = .ok (.getfield 7, 3) := by decide +kernel
theorem dX1_ordered_21 : decode cX1_ordered 21 = .ok (.iload_n 2, 1) := by decide +kernel
theorem dX1_ordered_22 : decode cX1_ordered 22 = .ok (.laload, 1) := by decide +kernel
theorem dX1_ordered_23 : decode cX1_ordered 23 = .ok (.lconst 0, 1) := by decide +kernel
theorem dX1_ordered_24 : decode cX1_ordered 24 = .ok (.lcmp, 1) := by decide +kernel
theorem dX1_ordered_25 : decode cX1_ordered 25 = .ok (.ifCond .ge 7, 3) := by decide +kernel
theorem dX1_ordered_28 : decode cX1_ordered 28 = .ok (.iconst 1, 1) := by decide +kernel
theorem dX1_ordered_29 : decode cX1_ordered 29 = .ok (.goto 4, 3) := by decide +kernel
theorem dX1_ordered_32 : decode cX1_ordered 32 = .ok (.iconst 0, 1) := by decide +kernel
theorem dX1_ordered_33 : decode cX1_ordered 33 = .ok (.istore 4, 2) := by decide +kernel
theorem dX1_ordered_35 : decode cX1_ordered 35 = .ok (.iload_n 3, 1) := by decide +kernel
theorem dX1_ordered_36 : decode cX1_ordered 36 = .ok (.iload 4, 2) := by decide +kernel
theorem dX1_ordered_38 : decode cX1_ordered 38 = .ok (.if_icmp .eq 13, 3) := by decide +kernel
theorem dX1_ordered_41 : decode cX1_ordered 41 = .ok (.iload_n 3, 1) := by decide +kernel
theorem dX1_ordered_42 : decode cX1_ordered 42 = .ok (.ifCond .eq 7, 3) := by decide +kernel
theorem dX1_ordered_45 : decode cX1_ordered 45 = .ok (.iconst (-1), 1) := by decide +kernel
theorem dX1_ordered_46 : decode cX1_ordered 46 = .ok (.goto 4, 3) := by decide +kernel
theorem dX1_ordered_49 : decode cX1_ordered 49 = .ok (.iconst 1, 1) := by decide +kernel
theorem dX1_ordered_50 : decode cX1_ordered 50 = .ok (.ireturn, 1) := by decide +kernel
theorem dX1_ordered_51 : decode cX1_ordered 51 = .ok (.aload_n 0, 1) := by decide +kernel
theorem dX1_ordered_52 : decode cX1_ordered 52 = .ok (.aload_n 0, 1) := by decide +kernel
theorem dX1_ordered_53 : decode cX1_ordered 53 = .ok (.getfield 7, 3) := by decide +kernel
theorem dX1_ordered_56 : decode cX1_ordered 56 = .ok (.iload_n 1, 1) := by decide +kernel
theorem dX1_ordered_57 : decode cX1_ordered 57 = .ok (.laload, 1) := by decide +kernel
theorem dX1_ordered_58 : decode cX1_ordered 58 = .ok (.invokestatic 46, 3) := by decide +kernel
theorem dX1_ordered_61 : decode cX1_ordered 61 = .ok (.aload_n 0, 1) := by decide +kernel
theorem dX1_ordered_62 : decode cX1_ordered 62 = .ok (.getfield 13, 3) := by decide +kernel
theorem dX1_ordered_65 : decode cX1_ordered 65 = .ok (.iload_n 2, 1) := by decide +kernel
theorem dX1_ordered_66 : decode cX1_ordered 66 = .ok (.laload, 1) := by decide +kernel
theorem dX1_ordered_67 : decode cX1_ordered 67 = .ok (.aload_n 0, 1) := by decide +kernel
theorem dX1_ordered_68 : decode cX1_ordered 68 = .ok (.getfield 7, 3) := by decide +kernel
theorem dX1_ordered_71 : decode cX1_ordered 71 = .ok (.iload_n 2, 1) := by decide +kernel
theorem dX1_ordered_72 : decode cX1_ordered 72 = .ok (.laload, 1) := by decide +kernel
theorem dX1_ordered_73 : decode cX1_ordered 73 = .ok (.invokestatic 46, 3) := by decide +kernel
theorem dX1_ordered_76 : decode cX1_ordered 76 = .ok (.aload_n 0, 1) := by decide +kernel
theorem dX1_ordered_77 : decode cX1_ordered 77 = .ok (.getfield 13, 3) := by decide +kernel
theorem dX1_ordered_80 : decode cX1_ordered 80 = .ok (.iload_n 1, 1) := by decide +kernel
theorem dX1_ordered_81 : decode cX1_ordered 81 = .ok (.laload, 1) := by decide +kernel
theorem dX1_ordered_82 : decode cX1_ordered 82 = .ok (.invokevirtual 105, 3) := by decide +kernel
theorem dX1_ordered_85 : decode cX1_ordered 85 = .ok (.istore 5, 2) := by decide +kernel
end
section
theorem dX1_ordered_87 : decode cX1_ordered 87 = .ok (.iload_n 3, 1) := by decide +kernel
theorem dX1_ordered_88 : decode cX1_ordered 88 = .ok (.ifCond .eq 9, 3) := by decide +kernel
theorem dX1_ordered_91 : decode cX1_ordered 91 = .ok (.iload 5, 2) := by decide +kernel
theorem dX1_ordered_93 : decode cX1_ordered 93 = .ok (.ineg, 1) := by decide +kernel
theorem dX1_ordered_94 : decode cX1_ordered 94 = .ok (.goto 5, 3) := by decide +kernel
theorem dX1_ordered_97 : decode cX1_ordered 97 = .ok (.iload 5, 2) := by decide +kernel
theorem dX1_ordered_99 : decode cX1_ordered 99 = .ok (.ireturn, 1) := by decide +kernel
set_option maxRecDepth 20000 in
theorem ggX1_order_X1_isNumber : GoodIn wsX1_order wsX1_isNumber := goodIn_r _ [6, 7, 8, 9, 5, 10, 27, 28, 29, 30, 31, 32, 33, 34, 35, 36, 37, 38, 39, 40, 41, 42, 43] (by decide +kernel) (by decide +kernel)
set_option maxRecDepth 20000 in
theorem gX1_order_X1_isNumber : GoodIn wsX1_order (wsV RX1 94 RX1 yX1_isNumber wsX1_isNumber) := goodIn_app (goodIn_of _ (by decide +kernel)) ggX1_order_X1_isNumber
set_option maxRecDepth 20000 in
theorem ggX1_order_X1_ordered : GoodIn wsX1_order wsX1_ordered := goodIn_r _ [14, 15, 16, 17, 18, 5, 19, 20, 21, 22, 23, 24, 25, 26, 27, 28, 29, 30, 31, 32, 33, 34, 35, 36, 37, 38, 39, 40, 41, 42, 43] (by decide +kernel) (by decide +kernel)
set_option maxRecDepth 20000 in
theorem gX1_order_X1_ordered : GoodIn wsX1_order (wsV RX1 108 RX1 yX1_ordered wsX1_ordered) := goodIn_app (goodIn_of _ (by decide +kernel)) ggX1_order_X1_ordered
theorem dX1_order_0 : decode cX1_order 0 = .ok (.aload_n 0, 1) := by decide +kernel
theorem dX1_order_1 : decode cX1_order 1 = .ok (.iconst 0, 1) := by decide +kernel
theorem dX1_order_2 : decode cX1_order 2 = .ok (.putfield 43, 3) := by decide +kernel
theorem dX1_order_5 : decode cX1_order 5 = .ok (.aload_n 0, 1) := by decide +kernel
theorem dX1_order_6 : decode cX1_order 6 = .ok (.iload_n 1, 1) := by decide +kernel
theorem dX1_order_7 : decode cX1_order 7 = .ok (.invokevirtual 94, 3) := by decide +kernel
theorem dX1_order_10 : decode cX1_order 10 = .ok (.ifCond .eq 20, 3) := by decide +kernel
theorem dX1_order_13 : decode cX1_order 13 = .ok (.aload_n 0, 1) := by decide +kernel
theorem dX1_order_14 : decode cX1_order 14 = .ok (.iload_n 2, 1) := by decide +kernel
theorem dX1_order_15 : decode cX1_order 15 = .ok (.invokevirtual 94, 3) := by decide +kernel
theorem dX1_order_18 : decode cX1_order 18 = .ok (.ifCond .eq 12, 3) := by decide +kernel
theorem dX1_order_21 : decode cX1_order 21 = .ok (.aload_n 0, 1) := by decide +kernel
theorem dX1_order_22 : decode cX1_order 22 = .ok (.iload_n 1, 1) := by decide +kernel
theorem dX1_order_23 : decode cX1_order 23 = .ok (.iload_n 2, 1) := by decide +kernel
theorem dX1_order_24 : decode cX1_order 24 = .ok (.invokevirtual 108, 3) := by decide +kernel
theorem dX1_order_27 : decode cX1_order 27 = .ok (.goto 5, 3) := by decide +kernel
theorem dX1_order_30 : decode cX1_order 30 = .ok (.bipush (-2), 2) := by decide +kernel
theorem dX1_order_32 : decode cX1_order 32 = .ok (.ireturn, 1) := by decide +kernel
set_option maxRecDepth 20000 in
theorem ggX1_part_X1_isNumber : GoodIn wsX1_part wsX1_isNumber := goodIn_r _ [9, 10, 11, 12, 8, 13, 14, 15, 16, 17, 18, 19, 20, 21, 22, 23, 24, 25, 26, 27, 28, 29, 30] (by decide +kernel) (by decide +kernel)
set_option maxRecDepth 20000 in
theorem gX1_part_X1_isNumber : GoodIn wsX1_part (wsV RX1 94 RX1 yX1_isNumber wsX1_isNumber) := goodIn_app (goodIn_of _ (by decide +kernel)) ggX1_part_X1_isNumber
set_option maxRecDepth 20000 in
theorem ggX1_part_X1_isIn : GoodIn wsX1_part wsX1_isIn := goodIn_r _ [13] (by decide +kernel) (by decide +kernel)
set_option maxRecDepth 20000 in
theorem gX1_part_X1_isIn : GoodIn wsX1_part (va_wsS RX1 59 yX1_isIn wsX1_isIn) := goodIn_app (goodIn_of _ (by decide +kernel)) ggX1_part_X1_isIn
theorem dX1_part_0 : decode cX1_part 0 = .ok (.aload_n 0, 1) := by decide +kernel
theorem dX1_part_1 : decode cX1_part 1 = .ok (.iconst 0, 1) := by decide +kernel
theorem dX1_part_2 : decode cX1_part 2 = .ok (.putfield 43, 3) := by decide +kernel
theorem dX1_part_5 : decode cX1_part 5 = .ok (.aload_n 0, 1) := by decide +kernel
theorem dX1_part_6 : decode cX1_part 6 = .ok (.iload_n 1, 1) := by decide +kernel
theorem dX1_part_7 : decode cX1_part 7 = .ok (.invokevirtual 94, 3) := by decide +kernel
theorem dX1_part_10 : decode cX1_part 10 = .ok (.ifCond .eq 13, 3) := by decide +kernel
theorem dX1_part_13 : decode cX1_part 13 = .ok (.iload_n 2, 1) := by decide +kernel
theorem dX1_part_14 : decode cX1_part 14 = .ok (.i2l, 1) := by decide +kernel
theorem dX1_part_15 : decode cX1_part 15 = .ok (.lconst 0, 1) := by decide +kernel
theorem dX1_part_16 : decode cX1_part 16 = .ok (.lconst 1, 1) := by decide +kernel
theorem dX1_part_17 : decode cX1_part 17 = .ok (.invokestatic 59, 3) := by decide +kernel
theorem dX1_part_20 : decode cX1_part 20 = .ok (.ifCond .ne 9, 3) := by decide +kernel
theorem dX1_part_23 : decode cX1_part 23 = .ok (.ldc2_w 69, 3) := by decide +kernel
theorem dX1_part_26 : decode cX1_part 26 = .ok (.goto 22, 3) := by decide +kernel
theorem dX1_part_29 : decode cX1_part 29 = .ok (.iload_n 2, 1) := by decide +kernel
theorem dX1_part_30 : decode cX1_part 30 = .ok (.ifCond .ne 12, 3) := by decide +kernel
theorem dX1_part_33 : decode cX1_part 33 = .ok (.aload_n 0, 1) := by decide +kernel
theorem dX1_part_34 : decode cX1_part 34 = .ok (.getfield 7, 3) := by decide +kernel
theorem dX1_part_37 : decode cX1_part 37 = .ok (.iload_n 1, 1) := by decide +kernel
theorem dX1_part_38 : decode cX1_part 38 = .ok (.laload, 1) := by decide +kernel
theorem dX1_part_39 : decode cX1_part 39 = .ok (.goto 9, 3) := by decide +kernel
theorem dX1_part_42 : decode cX1_part 42 = .ok (.aload_n 0, 1) := by decide +kernel
theorem dX1_part_43 : decode cX1_part 43 = .ok (.getfield 13, 3) := by decide +kernel
theorem dX1_part_46 : decode cX1_part 46 = .ok (.iload_n 1, 1) := by decide +kernel
theorem dX1_part_47 : decode cX1_part 47 = .ok (.laload, 1) := by decide +kernel
theorem dX1_part_48 : decode cX1_part 48 = .ok (.lreturn, 1) := by decide +kernel
set_option maxRecDepth 20000 in
theorem ggX1_simplest_X1_isNumber : GoodIn wsX1_simplest wsX1_isNumber := goodIn_r _ [8, 2, 9, 10, 7, 11, 39, 40, 41, 42, 43, 44, 45, 46, 47, 48, 49, 50, 51, 52, 53, 54, 55] (by decide +kernel) (by decide +kernel)
set_option maxRecDepth 20000 in
theorem gX1_simplest_X1_isNumber : GoodIn wsX1_simplest (wsV RX1 94 RX1 yX1_isNumber wsX1_isNumber) := goodIn_app (goodIn_of _ (by decide +kernel)) ggX1_simplest_X1_isNumber
set_option maxRecDepth 20000 in
theorem ggX1_simplest_X1_ordered : GoodIn wsX1_simplest wsX1_ordered := goodIn_r _ [15, 3, 16, 17, 18, 7, 19, 20, 21, 22, 23, 24, 25, 26, 39, 40, 41, 42, 43, 44, 45, 46, 47, 48, 49, 50, 51, 52, 53, 54, 55] (by decide +kernel) (by decide +kernel)
set_option maxRecDepth 20000 in
theorem gX1_simplest_X1_ordered : GoodIn wsX1_simplest (wsV RX1 108 RX1 yX1_ordered wsX1_ordered) := goodIn_app (goodIn_of _ (by decide +kernel)) ggX1_simplest_X1_ordered
set_option maxRecDepth 20000 in
theorem ggX1_simplest_X1_kept : GoodIn wsX1_simplest wsX1_kept := goodIn_r _ [30, 31, 3, 2, 16, 32, 33, 7, 34, 17, 18, 19, 39, 40, 41, 42, 43, 44, 45, 46, 47, 48, 49, 50, 51, 52, 53, 54, 55] (by decide +kernel) (by decide +kernel)
set_option maxRecDepth 20000 in
theorem gX1_simplest_X1_kept : GoodIn wsX1_simplest (wsV RX1 71 RX1 yX1_kept wsX1_kept) := goodIn_app (goodIn_of _ (by decide +kernel)) ggX1_simplest_X1_kept
set_option maxRecDepth 20000 in
theorem ggX1_simplest_X1_between : GoodIn wsX1_simplest wsX1_between := goodIn_r _ [38, 3, 16, 17, 18, 7, 19, 27, 28, 29, 30, 31, 2, 32, 33, 34, 39, 40, 41, 42, 43, 44, 45, 46, 47, 48, 49, 50, 51, 52, 53, 54, 55] (by decide +kernel) (by decide +kernel)
set_option maxRecDepth 20000 in
theorem gX1_simplest_X1_between : GoodIn wsX1_simplest (wsV RX1 111 RX1 yX1_between wsX1_between) := goodIn_app (goodIn_of _ (by decide +kernel)) ggX1_simplest_X1_between
theorem dX1_simplest_0 : decode cX1_simplest 0 = .ok (.aload_n 0, 1) := by decide +kernel
theorem dX1_simplest_1 : decode cX1_simplest 1 = .ok (.iconst 0, 1) := by decide +kernel
theorem dX1_simplest_2 : decode cX1_simplest 2 = .ok (.putfield 43, 3) := by decide +kernel
theorem dX1_simplest_5 : decode cX1_simplest 5 = .ok (.aload_n 0, 1) := by decide +kernel
theorem dX1_simplest_6 : decode cX1_simplest 6 = .ok (.iload_n 1, 1) := by decide +kernel
theorem dX1_simplest_7 : decode cX1_simplest 7 = .ok (.invokevirtual 94, 3) := by decide +kernel
theorem dX1_simplest_10 : decode cX1_simplest 10 = .ok (.ifCond .eq 11, 3) := by decide +kernel
theorem dX1_simplest_13 : decode cX1_simplest 13 = .ok (.aload_n 0, 1) := by decide +kernel
theorem dX1_simplest_14 : decode cX1_simplest 14 = .ok (.iload_n 2, 1) := by decide +kernel
theorem dX1_simplest_15 : decode cX1_simplest 15 = .ok (.invokevirtual 94, 3) := by decide +kernel
theorem dX1_simplest_18 : decode cX1_simplest 18 = .ok (.ifCond .ne 5, 3) := by decide +kernel
theorem dX1_simplest_21 : decode cX1_simplest 21 = .ok (.iconst (-1), 1) := by decide +kernel
theorem dX1_simplest_22 : decode cX1_simplest 22 = .ok (.ireturn, 1) := by decide +kernel
theorem dX1_simplest_23 : decode cX1_simplest 23 = .ok (.aload_n 0, 1) := by decide +kernel
theorem dX1_simplest_24 : decode cX1_simplest 24 = .ok (.getfield 56, 3) := by decide +kernel
theorem dX1_simplest_27 : decode cX1_simplest 27 = .ok (.bipush 40, 2) := by decide +kernel
theorem dX1_simplest_29 : decode cX1_simplest 29 = .ok (.if_icmp .ne 6, 3) := by decide +kernel
theorem dX1_simplest_32 : decode cX1_simplest 32 = .ok (.bipush (-4), 2) := by decide +kernel
theorem dX1_simplest_34 : decode cX1_simplest 34 = .ok (.ireturn, 1) := by decide +kernel
theorem dX1_simplest_35 : decode cX1_simplest 35 = .ok (.aload_n 0, 1) := by decide +kernel
theorem dX1_simplest_36 : decode cX1_simplest 36 = .ok (.iload_n 1, 1) := by decide +kernel
theorem dX1_simplest_37 : decode cX1_simplest 37 = .ok (.iload_n 2, 1) := by decide +kernel
theorem dX1_simplest_38 : decode cX1_simplest 38 = .ok (.invokevirtual 108, 3) := by decide +kernel
theorem dX1_simplest_41 : decode cX1_simplest 41 = .ok (.ifCond .le 7, 3) := by decide +kernel
theorem dX1_simplest_44 : decode cX1_simplest 44 = .ok (.iconst 1, 1) := by decide +kernel
theorem dX1_simplest_45 : decode cX1_simplest 45 = .ok (.goto 4, 3) := by decide +kernel
theorem dX1_simplest_48 : decode cX1_simplest 48 = .ok (.iconst 0, 1) := by decide +kernel
theorem dX1_simplest_49 : decode cX1_simplest 49 = .ok (.istore_n 3, 1) := by decide +kernel
theorem dX1_simplest_50 : decode cX1_simplest 50 = .ok (.iload_n 3, 1) := by decide +kernel
theorem dX1_simplest_51 : decode cX1_simplest 51 = .ok (.ifCond .eq 7, 3) := by decide +kernel
theorem dX1_simplest_54 : decode cX1_simplest 54 = .ok (.iload_n 2, 1) := by decide +kernel
theorem dX1_simplest_55 : decode cX1_simplest 55 = .ok (.goto 4, 3) := by decide +kernel
theorem dX1_simplest_58 : decode cX1_simplest 58 = .ok (.iload_n 1, 1) := by decide +kernel
theorem dX1_simplest_59 : decode cX1_simplest 59 = .ok (.istore 4, 2) := by decide +kernel
theorem dX1_simplest_61 : decode cX1_simplest 61 = .ok (.iload_n 3, 1) := by decide +kernel
theorem dX1_simplest_62 : decode cX1_simplest 62 = .ok (.ifCond .eq 7, 3) := by decide +kernel
theorem dX1_simplest_65 : decode cX1_simplest 65 = .ok (.iload_n 1, 1) := by decide +kernel
theorem dX1_simplest_66 : decode cX1_simplest 66 = .ok (.goto 4, 3) := by decide +kernel
theorem dX1_simplest_69 : decode cX1_simplest 69 = .ok (.iload_n 2, 1) := by decide +kernel
theorem dX1_simplest_70 : decode cX1_simplest 70 = .ok (.istore 5, 2) := by decide +kernel
theorem dX1_simplest_72 : decode cX1_simplest 72 = .ok (.aload_n 0, 1) := by decide +kernel
theorem dX1_simplest_73 : decode cX1_simplest 73 = .ok (.getfield 7, 3) := by decide +kernel
theorem dX1_simplest_76 : decode cX1_simplest 76 = .ok (.iload 4, 2) := by decide +kernel
theorem dX1_simplest_78 : decode cX1_simplest 78 = .ok (.laload, 1) := by decide +kernel
theorem dX1_simplest_79 : decode cX1_simplest 79 = .ok (.lconst 0, 1) := by decide +kernel
theorem dX1_simplest_80 : decode cX1_simplest 80 = .ok (.lcmp, 1) := by decide +kernel
theorem dX1_simplest_81 : decode cX1_simplest 81 = .ok (.ifCond .gt 22, 3) := by decide +kernel
theorem dX1_simplest_84 : decode cX1_simplest 84 = .ok (.aload_n 0, 1) := by decide +kernel
theorem dX1_simplest_85 : decode cX1_simplest 85 = .ok (.getfield 7, 3) := by decide +kernel
theorem dX1_simplest_88 : decode cX1_simplest 88 = .ok (.iload 5, 2) := by decide +kernel
theorem dX1_simplest_90 : decode cX1_simplest 90 = .ok (.laload, 1) := by decide +kernel
theorem dX1_simplest_91 : decode cX1_simplest 91 = .ok (.lconst 0, 1) := by decide +kernel
theorem dX1_simplest_92 : decode cX1_simplest 92 = .ok (.lcmp, 1) := by decide +kernel
theorem dX1_simplest_93 : decode cX1_simplest 93 = .ok (.ifCond .lt 10, 3) := by decide +kernel
theorem dX1_simplest_96 : decode cX1_simplest 96 = .ok (.aload_n 0, 1) := by decide +kernel
theorem dX1_simplest_97 : decode cX1_simplest 97 = .ok (.lconst 0, 1) := by decide +kernel
theorem dX1_simplest_98 : decode cX1_simplest 98 = .ok (.lconst 1, 1) := by decide +kernel
theorem dX1_simplest_99 : decode cX1_simplest 99 = .ok (.invokevirtual 71, 3) := by decide +kernel
theorem dX1_simplest_102 : decode cX1_simplest 102 = .ok (.ireturn, 1) := by decide +kernel
theorem dX1_simplest_103 : decode cX1_simplest 103 = .ok (.aload_n 0, 1) := by decide +kernel
theorem dX1_simplest_104 : decode cX1_simplest 104 = .ok (.getfield 7, 3) := by decide +kernel
theorem dX1_simplest_107 : decode cX1_simplest 107 = .ok (.iload 5, 2) := by decide +kernel
theorem dX1_simplest_109 : decode cX1_simplest 109 = .ok (.laload, 1) := by decide +kernel
theorem dX1_simplest_110 : decode cX1_simplest 110 = .ok (.lconst 0, 1) := by decide +kernel
theorem dX1_simplest_111 : decode cX1_simplest 111 = .ok (.lcmp, 1) := by decide +kernel
theorem dX1_simplest_112 : decode cX1_simplest 112 = .ok (.ifCond .ge 7, 3) := by decide +kernel
theorem dX1_simplest_115 : decode cX1_simplest 115 = .ok (.iconst 1, 1) := by decide +kernel
theorem dX1_simplest_116 : decode cX1_simplest 116 = .ok (.goto 4, 3) := by decide +kernel
theorem dX1_simplest_119 : decode cX1_simplest 119 = .ok (.iconst 0, 1) := by decide +kernel
theorem dX1_simplest_120 : decode cX1_simplest 120 = .ok (.istore 6, 2) := by decide +kernel
theorem dX1_simplest_122 : decode cX1_simplest 122 = .ok (.aload_n 0, 1) := by decide +kernel
theorem dX1_simplest_123 : decode cX1_simplest 123 = .ok (.iload 6, 2) := by decide +kernel
theorem dX1_simplest_125 : decode cX1_simplest 125 = .ok (.ifCond .eq 8, 3) := by decide +kernel
theorem dX1_simplest_128 : decode cX1_simplest 128 = .ok (.iload 5, 2) := by decide +kernel
theorem dX1_simplest_130 : decode cX1_simplest 130 = .ok (.goto 5, 3) := by decide +kernel
theorem dX1_simplest_133 : decode cX1_simplest 133 = .ok (.iload 4, 2) := by decide +kernel
theorem dX1_simplest_135 : decode cX1_simplest 135 = .ok (.iload 6, 2) := by decide +kernel
theorem dX1_simplest_137 : decode cX1_simplest 137 = .ok (.ifCond .eq 8, 3) := by decide +kernel
theorem dX1_simplest_140 : decode cX1_simplest 140 = .ok (.iload 4, 2) := by decide +kernel
theorem dX1_simplest_142 : decode cX1_simplest 142 = .ok (.goto 5, 3) := by decide +kernel
theorem dX1_simplest_145 : decode cX1_simplest 145 = .ok (.iload 5, 2) := by decide +kernel
theorem dX1_simplest_147 : decode cX1_simplest 147 = .ok (.iload 6, 2) := by decide +kernel
theorem dX1_simplest_149 : decode cX1_simplest 149 = .ok (.invokevirtual 111, 3) := by decide +kernel
theorem dX1_simplest_152 : decode cX1_simplest 152 = .ok (.ireturn, 1) := by decide +kernel
set_option maxRecDepth 20000 in
theorem ggX1_between_X1_sizeOf : GoodIn wsX1_between wsX1_sizeOf := goodIn_r _ [6] (by decide +kernel) (by decide +kernel)
set_option maxRecDepth 20000 in
theorem gX1_between_X1_sizeOf : GoodIn wsX1_between (va_wsS RX1 46 yX1_sizeOf wsX1_sizeOf) := goodIn_app (goodIn_of _ (by decide +kernel)) ggX1_between_X1_sizeOf
set_option maxRecDepth 20000 in
theorem ggX1_between_X1_kept : GoodIn wsX1_between wsX1_kept := goodIn_r _ [10, 11, 1, 12, 2, 13, 14, 5, 15, 3, 4, 6, 16, 17, 18, 19, 20, 21, 22, 23, 24, 25, 26, 27, 28, 29, 30, 31, 32] (by decide +kernel) (by decide +kernel)
set_option maxRecDepth 20000 in
theorem gX1_between_X1_kept : GoodIn wsX1_between (wsV RX1 71 RX1 yX1_kept wsX1_kept) := goodIn_app (goodIn_of _ (by decide +kernel)) ggX1_between_X1_kept
theorem dX1_between_0 : decode cX1_between 0 = .ok (.aload_n 0, 1) := by decide +kernel
theorem dX1_between_1 : decode cX1_between 1 = .ok (.getfield 7, 3) := by decide +kernel
theorem dX1_between_4 : decode cX1_between 4 = .ok (.iload_n 1, 1) := by decide +kernel
theorem dX1_between_5 : decode cX1_between 5 = .ok (.laload, 1) := by decide +kernel
theorem dX1_between_6 : decode cX1_between 6 = .ok (.invokestatic 46, 3) := by decide +kernel
theorem dX1_between_9 : decode cX1_between 9 = .ok (.lstore 4, 2) := by decide +kernel
theorem dX1_between_11 : decode cX1_between 11 = .ok (.aload_n 0, 1) := by decide +kernel
theorem dX1_between_12 : decode cX1_between 12 = .ok (.getfield 13, 3) := by decide +kernel
theorem dX1_between_15 : decode cX1_between 15 = .ok (.iload_n 1, 1) := by decide +kernel
theorem dX1_between_16 : decode cX1_between 16 = .ok (.laload, 1) := by decide +kernel
theorem dX1_between_17 : decode cX1_between 17 = .ok (.lstore 6, 2) := by decide +kernel
theorem dX1_between_19 : decode cX1_between 19 = .ok (.aload_n 0, 1) := by decide +kernel
theorem dX1_between_20 : decode cX1_between 20 = .ok (.getfield 7, 3) := by decide +kernel
theorem dX1_between_23 : decode cX1_between 23 = .ok (.iload_n 2, 1) := by decide +kernel
theorem dX1_between_24 : decode cX1_between 24 = .ok (.laload, 1) := by decide +kernel
theorem dX1_between_25 : decode cX1_between 25 = .ok (.invokestatic 46, 3) := by decide +kernel
theorem dX1_between_28 : decode cX1_between 28 = .ok (.lstore 8, 2) := by decide +kernel
theorem dX1_between_30 : decode cX1_between 30 = .ok (.aload_n 0, 1) := by decide +kernel
theorem dX1_between_31 : decode cX1_between 31 = .ok (.getfield 13, 3) := by decide +kernel
theorem dX1_between_34 : decode cX1_between 34 = .ok (.iload_n 2, 1) := by decide +kernel
theorem dX1_between_35 : decode cX1_between 35 = .ok (.laload, 1) := by decide +kernel
theorem dX1_between_36 : decode cX1_between 36 = .ok (.lstore 10, 2) := by decide +kernel
theorem dX1_between_38 : decode cX1_between 38 = .ok (.lconst 0, 1) := by decide +kernel
theorem dX1_between_39 : decode cX1_between 39 = .ok (.lstore 12, 2) := by decide +kernel
theorem dX1_between_41 : decode cX1_between 41 = .ok (.lconst 1, 1) := by decide +kernel
theorem dX1_between_42 : decode cX1_between 42 = .ok (.lstore 14, 2) := by decide +kernel
theorem dX1_between_44 : decode cX1_between 44 = .ok (.lconst 1, 1) := by decide +kernel
theorem dX1_between_45 : decode cX1_between 45 = .ok (.lstore 16, 2) := by decide +kernel
theorem dX1_between_47 : decode cX1_between 47 = .ok (.lconst 0, 1) := by decide +kernel
theorem dX1_between_48 : decode cX1_between 48 = .ok (.lstore 18, 2) := by decide +kernel
theorem dX1_between_50 : decode cX1_between 50 = .ok (.iconst 1, 1) := by decide +kernel
theorem dX1_between_51 : decode cX1_between 51 = .ok (.istore 20, 2) := by decide +kernel
theorem dX1_between_53 : decode cX1_between 53 = .ok (.iload 20, 2) := by decide +kernel
theorem dX1_between_55 : decode cX1_between 55 = .ok (.ifCond .eq 133, 3) := by decide +kernel
theorem dX1_between_58 : decode cX1_between 58 = .ok (.lload 4, 2) := by decide +kernel
theorem dX1_between_60 : decode cX1_between 60 = .ok (.lload 6, 2) := by decide +kernel
theorem dX1_between_62 : decode cX1_between 62 = .ok (.ldiv, 1) := by decide +kernel
theorem dX1_between_63 : decode cX1_between 63 = .ok (.lstore 21, 2) := by decide +kernel
theorem dX1_between_65 : decode cX1_between 65 = .ok (.lload 4, 2) := by decide +kernel
theorem dX1_between_67 : decode cX1_between 67 = .ok (.lload 6, 2) := by decide +kernel
theorem dX1_between_69 : decode cX1_between 69 = .ok (.lrem, 1) := by decide +kernel
theorem dX1_between_70 : decode cX1_between 70 = .ok (.lconst 0, 1) := by decide +kernel
theorem dX1_between_71 : decode cX1_between 71 = .ok (.lcmp, 1) := by decide +kernel
theorem dX1_between_72 : decode cX1_between 72 = .ok (.ifCond .eq 18, 3) := by decide +kernel
theorem dX1_between_75 : decode cX1_between 75 = .ok (.lload 8, 2) := by decide +kernel
theorem dX1_between_77 : decode cX1_between 77 = .ok (.lload 10, 2) := by decide +kernel
theorem dX1_between_79 : decode cX1_between 79 = .ok (.ldiv, 1) := by decide +kernel
theorem dX1_between_80 : decode cX1_between 80 = .ok (.lload 21, 2) := by decide +kernel
theorem dX1_between_82 : decode cX1_between 82 = .ok (.lcmp, 1) := by decide +kernel
theorem dX1_between_83 : decode cX1_between 83 = .ok (.ifCond .ne 7, 3) := by decide +kernel
theorem dX1_between_86 : decode cX1_between 86 = .ok (.iconst 1, 1) := by decide +kernel
theorem dX1_between_87 : decode cX1_between 87 = .ok (.goto 4, 3) := by decide +kernel
theorem dX1_between_90 : decode cX1_between 90 = .ok (.iconst 0, 1) := by decide +kernel
theorem dX1_between_91 : decode cX1_between 91 = .ok (.istore 20, 2) := by decide +kernel
theorem dX1_between_93 : decode cX1_between 93 = .ok (.iload 20, 2) := by decide +kernel
theorem dX1_between_95 : decode cX1_between 95 = .ok (.ifCond .ne 19, 3) := by decide +kernel
theorem dX1_between_98 : decode cX1_between 98 = .ok (.lload 4, 2) := by decide +kernel
theorem dX1_between_100 : decode cX1_between 100 = .ok (.lload 6, 2) := by decide +kernel
theorem dX1_between_102 : decode cX1_between 102 = .ok (.lrem, 1) := by decide +kernel
theorem dX1_between_103 : decode cX1_between 103 = .ok (.lconst 0, 1) := by decide +kernel
theorem dX1_between_104 : decode cX1_between 104 = .ok (.lcmp, 1) := by decide +kernel
theorem dX1_between_105 : decode cX1_between 105 = .ok (.ifCond .eq 9, 3) := by decide +kernel
theorem dX1_between_108 : decode cX1_between 108 = .ok (.lload 21, 2) := by decide +kernel
theorem dX1_between_110 : decode cX1_between 110 = .ok (.lconst 1, 1) := by decide +kernel
theorem dX1_between_111 : decode cX1_between 111 = .ok (.ladd, 1) := by decide +kernel
theorem dX1_between_112 : decode cX1_between 112 = .ok (.lstore 21, 2) := by decide +kernel
theorem dX1_between_114 : decode cX1_between 114 = .ok (.lload 21, 2) := by decide +kernel
theorem dX1_between_116 : decode cX1_between 116 = .ok (.lload 16, 2) := by decide +kernel
theorem dX1_between_118 : decode cX1_between 118 = .ok (.lmul, 1) := by decide +kernel
theorem dX1_between_119 : decode cX1_between 119 = .ok (.lload 12, 2) := by decide +kernel
theorem dX1_between_121 : decode cX1_between 121 = .ok (.ladd, 1) := by decide +kernel
theorem dX1_between_122 : decode cX1_between 122 = .ok (.lstore 23, 2) := by decide +kernel
theorem dX1_between_124 : decode cX1_between 124 = .ok (.lload 21, 2) := by decide +kernel
theorem dX1_between_126 : decode cX1_between 126 = .ok (.lload 18, 2) := by decide +kernel
theorem dX1_between_128 : decode cX1_between 128 = .ok (.lmul, 1) := by decide +kernel
theorem dX1_between_129 : decode cX1_between 129 = .ok (.lload 14, 2) := by decide +kernel
theorem dX1_between_131 : decode cX1_between 131 = .ok (.ladd, 1) := by decide +kernel
theorem dX1_between_132 : decode cX1_between 132 = .ok (.lstore 25, 2) := by decide +kernel
theorem dX1_between_134 : decode cX1_between 134 = .ok (.lload 16, 2) := by decide +kernel
theorem dX1_between_136 : decode cX1_between 136 = .ok (.lstore 12, 2) := by decide +kernel
theorem dX1_between_138 : decode cX1_between 138 = .ok (.lload 18, 2) := by decide +kernel
theorem dX1_between_140 : decode cX1_between 140 = .ok (.lstore 14, 2) := by decide +kernel
theorem dX1_between_142 : decode cX1_between 142 = .ok (.lload 23, 2) := by decide +kernel
theorem dX1_between_144 : decode cX1_between 144 = .ok (.lstore 16, 2) := by decide +kernel
theorem dX1_between_146 : decode cX1_between 146 = .ok (.lload 25, 2) := by decide +kernel
theorem dX1_between_148 : decode cX1_between 148 = .ok (.lstore 18, 2) := by decide +kernel
theorem dX1_between_150 : decode cX1_between 150 = .ok (.iload 20, 2) := by decide +kernel
theorem dX1_between_152 : decode cX1_between 152 = .ok (.ifCond .eq 33, 3) := by decide +kernel
theorem dX1_between_155 : decode cX1_between 155 = .ok (.lload 4, 2) := by decide +kernel
theorem dX1_between_157 : decode cX1_between 157 = .ok (.lload 6, 2) := by decide +kernel
theorem dX1_between_159 : decode cX1_between 159 = .ok (.lrem, 1) := by decide +kernel
theorem dX1_between_160 : decode cX1_between 160 = .ok (.lstore 27, 2) := by decide +kernel
theorem dX1_between_162 : decode cX1_between 162 = .ok (.lload 8, 2) := by decide +kernel
theorem dX1_between_164 : decode cX1_between 164 = .ok (.lload 10, 2) := by decide +kernel
theorem dX1_between_166 : decode cX1_between 166 = .ok (.lrem, 1) := by decide +kernel
theorem dX1_between_167 : decode cX1_between 167 = .ok (.lstore 29, 2) := by decide +kernel
theorem dX1_between_169 : decode cX1_between 169 = .ok (.lload 10, 2) := by decide +kernel
theorem dX1_between_171 : decode cX1_between 171 = .ok (.lstore 4, 2) := by decide +kernel
theorem dX1_between_173 : decode cX1_between 173 = .ok (.lload 6, 2) := by decide +kernel
theorem dX1_between_175 : decode cX1_between 175 = .ok (.lstore 8, 2) := by decide +kernel
theorem dX1_between_177 : decode cX1_between 177 = .ok (.lload 29, 2) := by decide +kernel
theorem dX1_between_179 : decode cX1_between 179 = .ok (.lstore 6, 2) := by decide +kernel
theorem dX1_between_181 : decode cX1_between 181 = .ok (.lload 27, 2) := by decide +kernel
theorem dX1_between_183 : decode cX1_between 183 = .ok (.lstore 10, 2) := by decide +kernel
theorem dX1_between_185 : decode cX1_between 185 = .ok (.goto (-132), 3) := by decide +kernel
theorem dX1_between_188 : decode cX1_between 188 = .ok (.aload_n 0, 1) := by decide +kernel
theorem dX1_between_189 : decode cX1_between 189 = .ok (.iload_n 3, 1) := by decide +kernel
theorem dX1_between_190 : decode cX1_between 190 = .ok (.ifCond .eq 9, 3) := by decide +kernel
theorem dX1_between_193 : decode cX1_between 193 = .ok (.lload 16, 2) := by decide +kernel
theorem dX1_between_195 : decode cX1_between 195 = .ok (.lneg, 1) := by decide +kernel
theorem dX1_between_196 : decode cX1_between 196 = .ok (.goto 5, 3) := by decide +kernel
theorem dX1_between_199 : decode cX1_between 199 = .ok (.lload 16, 2) := by decide +kernel
theorem dX1_between_201 : decode cX1_between 201 = .ok (.lload 18, 2) := by decide +kernel
theorem dX1_between_203 : decode cX1_between 203 = .ok (.invokevirtual 71, 3) := by decide +kernel
theorem dX1_between_206 : decode cX1_between 206 = .ok (.ireturn, 1) := by decide +kernel
set_option maxRecDepth 20000 in
theorem ggX1_near_X1_isNumber : GoodIn wsX1_near wsX1_isNumber := goodIn_r _ [10, 3, 11, 12, 9, 13, 35, 36, 37, 38, 39, 40, 41, 42, 43, 44, 45, 46, 47, 48, 49, 50, 51] (by decide +kernel) (by decide +kernel)
set_option maxRecDepth 20000 in
theorem gX1_near_X1_isNumber : GoodIn wsX1_near (wsV RX1 94 RX1 yX1_isNumber wsX1_isNumber) := goodIn_app (goodIn_of _ (by decide +kernel)) ggX1_near_X1_isNumber
set_option maxRecDepth 20000 in
theorem ggX1_near_X1_isIn : GoodIn wsX1_near wsX1_isIn := goodIn_r _ [13] (by decide +kernel) (by decide +kernel)
set_option maxRecDepth 20000 in
theorem gX1_near_X1_isIn : GoodIn wsX1_near (va_wsS RX1 59 yX1_isIn wsX1_isIn) := goodIn_app (goodIn_of _ (by decide +kernel)) ggX1_near_X1_isIn
set_option maxRecDepth 20000 in
theorem ggX1_near_X1_kept : GoodIn wsX1_near wsX1_kept := goodIn_r _ [17, 18, 5, 3, 4, 19, 20, 9, 21, 22, 23, 24, 35, 36, 37, 38, 39, 40, 41, 42, 43, 44, 45, 46, 47, 48, 49, 50, 51] (by decide +kernel) (by decide +kernel)
set_option maxRecDepth 20000 in
theorem gX1_near_X1_kept : GoodIn wsX1_near (wsV RX1 71 RX1 yX1_kept wsX1_kept) := goodIn_app (goodIn_of _ (by decide +kernel)) ggX1_near_X1_kept
set_option maxRecDepth 20000 in
theorem ggX1_near_X1_floor : GoodIn wsX1_near wsX1_floor := goodIn_r _ [27] (by decide +kernel) (by decide +kernel)
set_option maxRecDepth 20000 in
theorem gX1_near_X1_floor : GoodIn wsX1_near (va_wsS RX1 117 yX1_floor wsX1_floor) := goodIn_app (goodIn_of _ (by decide +kernel)) ggX1_near_X1_floor
set_option maxRecDepth 20000 in
theorem ggX1_near_X1_compared : GoodIn wsX1_near wsX1_compared := goodIn_r _ [31, 32, 33, 34, 35, 36, 37, 38, 39, 40, 41, 42, 43, 44, 45, 46, 47, 48, 49, 50, 51] (by decide +kernel) (by decide +kernel)
set_option maxRecDepth 20000 in
theorem gX1_near_X1_compared : GoodIn wsX1_near (wsV RX1 105 RX1 yX1_compared wsX1_compared) := goodIn_app (goodIn_of _ (by decide +kernel)) ggX1_near_X1_compared
theorem dX1_near_0 : decode cX1_near 0 = .ok (.aload_n 0, 1) := by decide +kernel
theorem dX1_near_1 : decode cX1_near 1 = .ok (.iconst 0, 1) := by decide +kernel
theorem dX1_near_2 : decode cX1_near 2 = .ok (.putfield 43, 3) := by decide +kernel
theorem dX1_near_5 : decode cX1_near 5 = .ok (.aload_n 0, 1) := by decide +kernel
theorem dX1_near_6 : decode cX1_near 6 = .ok (.iload_n 1, 1) := by decide +kernel
theorem dX1_near_7 : decode cX1_near 7 = .ok (.invokevirtual 94, 3) := by decide +kernel
theorem dX1_near_10 : decode cX1_near 10 = .ok (.ifCond .eq 15, 3) := by decide +kernel
theorem dX1_near_13 : decode cX1_near 13 = .ok (.iload_n 2, 1) := by decide +kernel
theorem dX1_near_14 : decode cX1_near 14 = .ok (.i2l, 1) := by decide +kernel
theorem dX1_near_15 : decode cX1_near 15 = .ok (.lconst 1, 1) := by decide +kernel
theorem dX1_near_16 : decode cX1_near 16 = .ok (.ldc2_w 115, 3) := by decide +kernel
theorem dX1_near_19 : decode cX1_near 19 = .ok (.invokestatic 59, 3) := by decide +kernel
theorem dX1_near_22 : decode cX1_near 22 = .ok (.ifCond .ne 5, 3) := by decide +kernel
theorem dX1_near_25 : decode cX1_near 25 = .ok (.iconst (-1), 1) := by decide +kernel
theorem dX1_near_26 : decode cX1_near 26 = .ok (.ireturn, 1) := by decide +kernel
theorem dX1_near_27 : decode cX1_near 27 = .ok (.aload_n 0, 1) := by decide +kernel
theorem dX1_near_28 : decode cX1_near 28 = .ok (.getfield 56, 3) := by decide +kernel
theorem dX1_near_31 : decode cX1_near 31 = .ok (.bipush 40, 2) := by decide +kernel
theorem dX1_near_33 : decode cX1_near 33 = .ok (.if_icmp .ne 6, 3) := by decide +kernel
theorem dX1_near_36 : decode cX1_near 36 = .ok (.bipush (-4), 2) := by decide +kernel
theorem dX1_near_38 : decode cX1_near 38 = .ok (.ireturn, 1) := by decide +kernel
theorem dX1_near_39 : decode cX1_near 39 = .ok (.aload_n 0, 1) := by decide +kernel
theorem dX1_near_40 : decode cX1_near 40 = .ok (.getfield 13, 3) := by decide +kernel
theorem dX1_near_43 : decode cX1_near 43 = .ok (.iload_n 1, 1) := by decide +kernel
theorem dX1_near_44 : decode cX1_near 44 = .ok (.laload, 1) := by decide +kernel
theorem dX1_near_45 : decode cX1_near 45 = .ok (.iload_n 2, 1) := by decide +kernel
theorem dX1_near_46 : decode cX1_near 46 = .ok (.i2l, 1) := by decide +kernel
theorem dX1_near_47 : decode cX1_near 47 = .ok (.lcmp, 1) := by decide +kernel
theorem dX1_near_48 : decode cX1_near 48 = .ok (.ifCond .gt 20, 3) := by decide +kernel
theorem dX1_near_51 : decode cX1_near 51 = .ok (.aload_n 0, 1) := by decide +kernel
theorem dX1_near_52 : decode cX1_near 52 = .ok (.aload_n 0, 1) := by decide +kernel
theorem dX1_near_53 : decode cX1_near 53 = .ok (.getfield 7, 3) := by decide +kernel
theorem dX1_near_56 : decode cX1_near 56 = .ok (.iload_n 1, 1) := by decide +kernel
theorem dX1_near_57 : decode cX1_near 57 = .ok (.laload, 1) := by decide +kernel
theorem dX1_near_58 : decode cX1_near 58 = .ok (.aload_n 0, 1) := by decide +kernel
theorem dX1_near_59 : decode cX1_near 59 = .ok (.getfield 13, 3) := by decide +kernel
theorem dX1_near_62 : decode cX1_near 62 = .ok (.iload_n 1, 1) := by decide +kernel
theorem dX1_near_63 : decode cX1_near 63 = .ok (.laload, 1) := by decide +kernel
theorem dX1_near_64 : decode cX1_near 64 = .ok (.invokevirtual 71, 3) := by decide +kernel
theorem dX1_near_67 : decode cX1_near 67 = .ok (.ireturn, 1) := by decide +kernel
theorem dX1_near_68 : decode cX1_near 68 = .ok (.aload_n 0, 1) := by decide +kernel
theorem dX1_near_69 : decode cX1_near 69 = .ok (.getfield 7, 3) := by decide +kernel
theorem dX1_near_72 : decode cX1_near 72 = .ok (.iload_n 1, 1) := by decide +kernel
theorem dX1_near_73 : decode cX1_near 73 = .ok (.laload, 1) := by decide +kernel
theorem dX1_near_74 : decode cX1_near 74 = .ok (.aload_n 0, 1) := by decide +kernel
theorem dX1_near_75 : decode cX1_near 75 = .ok (.getfield 13, 3) := by decide +kernel
theorem dX1_near_78 : decode cX1_near 78 = .ok (.iload_n 1, 1) := by decide +kernel
theorem dX1_near_79 : decode cX1_near 79 = .ok (.laload, 1) := by decide +kernel
theorem dX1_near_80 : decode cX1_near 80 = .ok (.invokestatic 117, 3) := by decide +kernel
theorem dX1_near_83 : decode cX1_near 83 = .ok (.lstore_n 3, 1) := by decide +kernel
theorem dX1_near_84 : decode cX1_near 84 = .ok (.aload_n 0, 1) := by decide +kernel
theorem dX1_near_85 : decode cX1_near 85 = .ok (.getfield 7, 3) := by decide +kernel
theorem dX1_near_88 : decode cX1_near 88 = .ok (.iload_n 1, 1) := by decide +kernel
theorem dX1_near_89 : decode cX1_near 89 = .ok (.laload, 1) := by decide +kernel
theorem dX1_near_90 : decode cX1_near 90 = .ok (.lload_n 3, 1) := by decide +kernel
theorem dX1_near_91 : decode cX1_near 91 = .ok (.aload_n 0, 1) := by decide +kernel
theorem dX1_near_92 : decode cX1_near 92 = .ok (.getfield 13, 3) := by decide +kernel
theorem dX1_near_95 : decode cX1_near 95 = .ok (.iload_n 1, 1) := by decide +kernel
theorem dX1_near_96 : decode cX1_near 96 = .ok (.laload, 1) := by decide +kernel
theorem dX1_near_97 : decode cX1_near 97 = .ok (.lmul, 1) := by decide +kernel
theorem dX1_near_98 : decode cX1_near 98 = .ok (.lsub, 1) := by decide +kernel
theorem dX1_near_99 : decode cX1_near 99 = .ok (.lstore 5, 2) := by decide +kernel
theorem dX1_near_101 : decode cX1_near 101 = .ok (.aload_n 0, 1) := by decide +kernel
theorem dX1_near_102 : decode cX1_near 102 = .ok (.getfield 13, 3) := by decide +kernel
theorem dX1_near_105 : decode cX1_near 105 = .ok (.iload_n 1, 1) := by decide +kernel
theorem dX1_near_106 : decode cX1_near 106 = .ok (.laload, 1) := by decide +kernel
theorem dX1_near_107 : decode cX1_near 107 = .ok (.lload 5, 2) := by decide +kernel
theorem dX1_near_109 : decode cX1_near 109 = .ok (.lsub, 1) := by decide +kernel
theorem dX1_near_110 : decode cX1_near 110 = .ok (.lstore 7, 2) := by decide +kernel
theorem dX1_near_112 : decode cX1_near 112 = .ok (.lconst 0, 1) := by decide +kernel
theorem dX1_near_113 : decode cX1_near 113 = .ok (.lstore 9, 2) := by decide +kernel
theorem dX1_near_115 : decode cX1_near 115 = .ok (.lconst 1, 1) := by decide +kernel
theorem dX1_near_116 : decode cX1_near 116 = .ok (.lstore 11, 2) := by decide +kernel
theorem dX1_near_118 : decode cX1_near 118 = .ok (.lconst 1, 1) := by decide +kernel
theorem dX1_near_119 : decode cX1_near 119 = .ok (.lstore 13, 2) := by decide +kernel
theorem dX1_near_121 : decode cX1_near 121 = .ok (.lconst 1, 1) := by decide +kernel
theorem dX1_near_122 : decode cX1_near 122 = .ok (.lstore 15, 2) := by decide +kernel
theorem dX1_near_124 : decode cX1_near 124 = .ok (.lload 11, 2) := by decide +kernel
theorem dX1_near_126 : decode cX1_near 126 = .ok (.lload 15, 2) := by decide +kernel
theorem dX1_near_128 : decode cX1_near 128 = .ok (.ladd, 1) := by decide +kernel
theorem dX1_near_129 : decode cX1_near 129 = .ok (.iload_n 2, 1) := by decide +kernel
theorem dX1_near_130 : decode cX1_near 130 = .ok (.i2l, 1) := by decide +kernel
theorem dX1_near_131 : decode cX1_near 131 = .ok (.lcmp, 1) := by decide +kernel
theorem dX1_near_132 : decode cX1_near 132 = .ok (.ifCond .gt 145, 3) := by decide +kernel
theorem dX1_near_135 : decode cX1_near 135 = .ok (.lload 5, 2) := by decide +kernel
theorem dX1_near_137 : decode cX1_near 137 = .ok (.lload 7, 2) := by decide +kernel
theorem dX1_near_139 : decode cX1_near 139 = .ok (.lcmp, 1) := by decide +kernel
theorem dX1_near_140 : decode cX1_near 140 = .ok (.ifCond .lt 70, 3) := by decide +kernel
theorem dX1_near_143 : decode cX1_near 143 = .ok (.lload 5, 2) := by decide +kernel
theorem dX1_near_145 : decode cX1_near 145 = .ok (.lload 7, 2) := by decide +kernel
theorem dX1_near_147 : decode cX1_near 147 = .ok (.ldiv, 1) := by decide +kernel
theorem dX1_near_148 : decode cX1_near 148 = .ok (.lstore 17, 2) := by decide +kernel
theorem dX1_near_150 : decode cX1_near 150 = .ok (.iload_n 2, 1) := by decide +kernel
theorem dX1_near_151 : decode cX1_near 151 = .ok (.i2l, 1) := by decide +kernel
theorem dX1_near_152 : decode cX1_near 152 = .ok (.lload 11, 2) := by decide +kernel
theorem dX1_near_154 : decode cX1_near 154 = .ok (.lsub, 1) := by decide +kernel
theorem dX1_near_155 : decode cX1_near 155 = .ok (.lload 15, 2) := by decide +kernel
theorem dX1_near_157 : decode cX1_near 157 = .ok (.ldiv, 1) := by decide +kernel
theorem dX1_near_158 : decode cX1_near 158 = .ok (.lstore 19, 2) := by decide +kernel
theorem dX1_near_160 : decode cX1_near 160 = .ok (.lload 17, 2) := by decide +kernel
theorem dX1_near_162 : decode cX1_near 162 = .ok (.lload 19, 2) := by decide +kernel
theorem dX1_near_164 : decode cX1_near 164 = .ok (.lcmp, 1) := by decide +kernel
theorem dX1_near_165 : decode cX1_near 165 = .ok (.ifCond .ge 8, 3) := by decide +kernel
theorem dX1_near_168 : decode cX1_near 168 = .ok (.lload 17, 2) := by decide +kernel
theorem dX1_near_170 : decode cX1_near 170 = .ok (.goto 5, 3) := by decide +kernel
theorem dX1_near_173 : decode cX1_near 173 = .ok (.lload 19, 2) := by decide +kernel
theorem dX1_near_175 : decode cX1_near 175 = .ok (.lstore 17, 2) := by decide +kernel
theorem dX1_near_177 : decode cX1_near 177 = .ok (.lload 9, 2) := by decide +kernel
theorem dX1_near_179 : decode cX1_near 179 = .ok (.lload 17, 2) := by decide +kernel
theorem dX1_near_181 : decode cX1_near 181 = .ok (.lload 13, 2) := by decide +kernel
theorem dX1_near_183 : decode cX1_near 183 = .ok (.lmul, 1) := by decide +kernel
theorem dX1_near_184 : decode cX1_near 184 = .ok (.ladd, 1) := by decide +kernel
theorem dX1_near_185 : decode cX1_near 185 = .ok (.lstore 9, 2) := by decide +kernel
theorem dX1_near_187 : decode cX1_near 187 = .ok (.lload 11, 2) := by decide +kernel
theorem dX1_near_189 : decode cX1_near 189 = .ok (.lload 17, 2) := by decide +kernel
theorem dX1_near_191 : decode cX1_near 191 = .ok (.lload 15, 2) := by decide +kernel
theorem dX1_near_193 : decode cX1_near 193 = .ok (.lmul, 1) := by decide +kernel
theorem dX1_near_194 : decode cX1_near 194 = .ok (.ladd, 1) := by decide +kernel
theorem dX1_near_195 : decode cX1_near 195 = .ok (.lstore 11, 2) := by decide +kernel
theorem dX1_near_197 : decode cX1_near 197 = .ok (.lload 5, 2) := by decide +kernel
theorem dX1_near_199 : decode cX1_near 199 = .ok (.lload 17, 2) := by decide +kernel
theorem dX1_near_201 : decode cX1_near 201 = .ok (.lload 7, 2) := by decide +kernel
theorem dX1_near_203 : decode cX1_near 203 = .ok (.lmul, 1) := by decide +kernel
theorem dX1_near_204 : decode cX1_near 204 = .ok (.lsub, 1) := by decide +kernel
theorem dX1_near_205 : decode cX1_near 205 = .ok (.lstore 5, 2) := by decide +kernel
theorem dX1_near_207 : decode cX1_near 207 = .ok (.goto (-83), 3) := by decide +kernel
theorem dX1_near_210 : decode cX1_near 210 = .ok (.lload 7, 2) := by decide +kernel
theorem dX1_near_212 : decode cX1_near 212 = .ok (.lload 5, 2) := by decide +kernel
theorem dX1_near_214 : decode cX1_near 214 = .ok (.ldiv, 1) := by decide +kernel
theorem dX1_near_215 : decode cX1_near 215 = .ok (.lstore 17, 2) := by decide +kernel
theorem dX1_near_217 : decode cX1_near 217 = .ok (.iload_n 2, 1) := by decide +kernel
theorem dX1_near_218 : decode cX1_near 218 = .ok (.i2l, 1) := by decide +kernel
theorem dX1_near_219 : decode cX1_near 219 = .ok (.lload 15, 2) := by decide +kernel
theorem dX1_near_221 : decode cX1_near 221 = .ok (.lsub, 1) := by decide +kernel
theorem dX1_near_222 : decode cX1_near 222 = .ok (.lload 11, 2) := by decide +kernel
theorem dX1_near_224 : decode cX1_near 224 = .ok (.ldiv, 1) := by decide +kernel
theorem dX1_near_225 : decode cX1_near 225 = .ok (.lstore 19, 2) := by decide +kernel
theorem dX1_near_227 : decode cX1_near 227 = .ok (.lload 17, 2) := by decide +kernel
theorem dX1_near_229 : decode cX1_near 229 = .ok (.lload 19, 2) := by decide +kernel
theorem dX1_near_231 : decode cX1_near 231 = .ok (.lcmp, 1) := by decide +kernel
theorem dX1_near_232 : decode cX1_near 232 = .ok (.ifCond .ge 8, 3) := by decide +kernel
theorem dX1_near_235 : decode cX1_near 235 = .ok (.lload 17, 2) := by decide +kernel
theorem dX1_near_237 : decode cX1_near 237 = .ok (.goto 5, 3) := by decide +kernel
theorem dX1_near_240 : decode cX1_near 240 = .ok (.lload 19, 2) := by decide +kernel
theorem dX1_near_242 : decode cX1_near 242 = .ok (.lstore 17, 2) := by decide +kernel
theorem dX1_near_244 : decode cX1_near 244 = .ok (.lload 13, 2) := by decide +kernel
theorem dX1_near_246 : decode cX1_near 246 = .ok (.lload 17, 2) := by decide +kernel
theorem dX1_near_248 : decode cX1_near 248 = .ok (.lload 9, 2) := by decide +kernel
theorem dX1_near_250 : decode cX1_near 250 = .ok (.lmul, 1) := by decide +kernel
theorem dX1_near_251 : decode cX1_near 251 = .ok (.ladd, 1) := by decide +kernel
theorem dX1_near_252 : decode cX1_near 252 = .ok (.lstore 13, 2) := by decide +kernel
theorem dX1_near_254 : decode cX1_near 254 = .ok (.lload 15, 2) := by decide +kernel
theorem dX1_near_256 : decode cX1_near 256 = .ok (.lload 17, 2) := by decide +kernel
theorem dX1_near_258 : decode cX1_near 258 = .ok (.lload 11, 2) := by decide +kernel
theorem dX1_near_260 : decode cX1_near 260 = .ok (.lmul, 1) := by decide +kernel
theorem dX1_near_261 : decode cX1_near 261 = .ok (.ladd, 1) := by decide +kernel
theorem dX1_near_262 : decode cX1_near 262 = .ok (.lstore 15, 2) := by decide +kernel
theorem dX1_near_264 : decode cX1_near 264 = .ok (.lload 7, 2) := by decide +kernel
theorem dX1_near_266 : decode cX1_near 266 = .ok (.lload 17, 2) := by decide +kernel
theorem dX1_near_268 : decode cX1_near 268 = .ok (.lload 5, 2) := by decide +kernel
theorem dX1_near_270 : decode cX1_near 270 = .ok (.lmul, 1) := by decide +kernel
theorem dX1_near_271 : decode cX1_near 271 = .ok (.lsub, 1) := by decide +kernel
theorem dX1_near_272 : decode cX1_near 272 = .ok (.lstore 7, 2) := by decide +kernel
theorem dX1_near_274 : decode cX1_near 274 = .ok (.goto (-150), 3) := by decide +kernel
theorem dX1_near_277 : decode cX1_near 277 = .ok (.aload_n 0, 1) := by decide +kernel
theorem dX1_near_278 : decode cX1_near 278 = .ok (.lload 5, 2) := by decide +kernel
theorem dX1_near_280 : decode cX1_near 280 = .ok (.lload 15, 2) := by decide +kernel
theorem dX1_near_282 : decode cX1_near 282 = .ok (.lload 7, 2) := by decide +kernel
theorem dX1_near_284 : decode cX1_near 284 = .ok (.lload 11, 2) := by decide +kernel
theorem dX1_near_286 : decode cX1_near 286 = .ok (.invokevirtual 105, 3) := by decide +kernel
theorem dX1_near_289 : decode cX1_near 289 = .ok (.istore 17, 2) := by decide +kernel
theorem dX1_near_291 : decode cX1_near 291 = .ok (.iload 17, 2) := by decide +kernel
theorem dX1_near_293 : decode cX1_near 293 = .ok (.ifCond .lt 16, 3) := by decide +kernel
theorem dX1_near_296 : decode cX1_near 296 = .ok (.iload 17, 2) := by decide +kernel
theorem dX1_near_298 : decode cX1_near 298 = .ok (.ifCond .ne 15, 3) := by decide +kernel
theorem dX1_near_301 : decode cX1_near 301 = .ok (.lload 11, 2) := by decide +kernel
theorem dX1_near_303 : decode cX1_near 303 = .ok (.lload 15, 2) := by decide +kernel
theorem dX1_near_305 : decode cX1_near 305 = .ok (.lcmp, 1) := by decide +kernel
theorem dX1_near_306 : decode cX1_near 306 = .ok (.ifCond .gt 7, 3) := by decide +kernel
theorem dX1_near_309 : decode cX1_near 309 = .ok (.iconst 1, 1) := by decide +kernel
theorem dX1_near_310 : decode cX1_near 310 = .ok (.goto 4, 3) := by decide +kernel
theorem dX1_near_313 : decode cX1_near 313 = .ok (.iconst 0, 1) := by decide +kernel
theorem dX1_near_314 : decode cX1_near 314 = .ok (.istore 18, 2) := by decide +kernel
theorem dX1_near_316 : decode cX1_near 316 = .ok (.iload 18, 2) := by decide +kernel
theorem dX1_near_318 : decode cX1_near 318 = .ok (.ifCond .eq 19, 3) := by decide +kernel
theorem dX1_near_321 : decode cX1_near 321 = .ok (.aload_n 0, 1) := by decide +kernel
theorem dX1_near_322 : decode cX1_near 322 = .ok (.lload_n 3, 1) := by decide +kernel
theorem dX1_near_323 : decode cX1_near 323 = .ok (.lload 11, 2) := by decide +kernel
theorem dX1_near_325 : decode cX1_near 325 = .ok (.lmul, 1) := by decide +kernel
theorem dX1_near_326 : decode cX1_near 326 = .ok (.lload 9, 2) := by decide +kernel
theorem dX1_near_328 : decode cX1_near 328 = .ok (.ladd, 1) := by decide +kernel
theorem dX1_near_329 : decode cX1_near 329 = .ok (.lload 11, 2) := by decide +kernel
theorem dX1_near_331 : decode cX1_near 331 = .ok (.invokevirtual 71, 3) := by decide +kernel
theorem dX1_near_334 : decode cX1_near 334 = .ok (.goto 16, 3) := by decide +kernel
theorem dX1_near_337 : decode cX1_near 337 = .ok (.aload_n 0, 1) := by decide +kernel
theorem dX1_near_338 : decode cX1_near 338 = .ok (.lload_n 3, 1) := by decide +kernel
theorem dX1_near_339 : decode cX1_near 339 = .ok (.lload 15, 2) := by decide +kernel
theorem dX1_near_341 : decode cX1_near 341 = .ok (.lmul, 1) := by decide +kernel
theorem dX1_near_342 : decode cX1_near 342 = .ok (.lload 13, 2) := by decide +kernel
theorem dX1_near_344 : decode cX1_near 344 = .ok (.ladd, 1) := by decide +kernel
theorem dX1_near_345 : decode cX1_near 345 = .ok (.lload 15, 2) := by decide +kernel
theorem dX1_near_347 : decode cX1_near 347 = .ok (.invokevirtual 71, 3) := by decide +kernel
theorem dX1_near_350 : decode cX1_near 350 = .ok (.ireturn, 1) := by decide +kernel
set_option maxRecDepth 20000 in
theorem ggX1_cut_X1_isNumber : GoodIn wsX1_cut wsX1_isNumber := goodIn_r _ [12, 13, 14, 15, 11, 16, 28, 29, 30, 31, 32, 33, 34, 35, 36, 37, 38, 39, 40, 41, 42, 43, 44] (by decide +kernel) (by decide +kernel)
set_option maxRecDepth 20000 in
theorem gX1_cut_X1_isNumber : GoodIn wsX1_cut (wsV RX1 94 RX1 yX1_isNumber wsX1_isNumber) := goodIn_app (goodIn_of _ (by decide +kernel)) ggX1_cut_X1_isNumber
set_option maxRecDepth 20000 in
theorem ggX1_cut_X1_isIn : GoodIn wsX1_cut wsX1_isIn := goodIn_r _ [16] (by decide +kernel) (by decide +kernel)
set_option maxRecDepth 20000 in
theorem gX1_cut_X1_isIn : GoodIn wsX1_cut (va_wsS RX1 59 yX1_isIn wsX1_isIn) := goodIn_app (goodIn_of _ (by decide +kernel)) ggX1_cut_X1_isIn
set_option maxRecDepth 20000 in
theorem ggX1_cut_X1_times : GoodIn wsX1_cut wsX1_times := goodIn_r _ [20, 21, 4, 22, 23, 11, 24, 28, 29, 30, 31, 32, 33, 34, 35, 36, 37, 38, 39, 40, 41, 42, 43, 44] (by decide +kernel) (by decide +kernel)
set_option maxRecDepth 20000 in
theorem gX1_cut_X1_times : GoodIn wsX1_cut (wsV RX1 75 RX1 yX1_times wsX1_times) := goodIn_app (goodIn_of _ (by decide +kernel)) ggX1_cut_X1_times
set_option maxRecDepth 20000 in
theorem ggX1_cut_X1_floor : GoodIn wsX1_cut wsX1_floor := goodIn_r _ [27] (by decide +kernel) (by decide +kernel)
set_option maxRecDepth 20000 in
theorem gX1_cut_X1_floor : GoodIn wsX1_cut (va_wsS RX1 117 yX1_floor wsX1_floor) := goodIn_app (goodIn_of _ (by decide +kernel)) ggX1_cut_X1_floor
theorem dX1_cut_0 : decode cX1_cut 0 = .ok (.aload_n 0, 1) := by decide +kernel
theorem dX1_cut_1 : decode cX1_cut 1 = .ok (.iconst 0, 1) := by decide +kernel
theorem dX1_cut_2 : decode cX1_cut 2 = .ok (.putfield 43, 3) := by decide +kernel
theorem dX1_cut_5 : decode cX1_cut 5 = .ok (.aload_n 0, 1) := by decide +kernel
theorem dX1_cut_6 : decode cX1_cut 6 = .ok (.iload_n 1, 1) := by decide +kernel
theorem dX1_cut_7 : decode cX1_cut 7 = .ok (.invokevirtual 94, 3) := by decide +kernel
theorem dX1_cut_10 : decode cX1_cut 10 = .ok (.ifCond .eq 15, 3) := by decide +kernel
theorem dX1_cut_13 : decode cX1_cut 13 = .ok (.iload_n 2, 1) := by decide +kernel
theorem dX1_cut_14 : decode cX1_cut 14 = .ok (.i2l, 1) := by decide +kernel
theorem dX1_cut_15 : decode cX1_cut 15 = .ok (.lconst 0, 1) := by decide +kernel
theorem dX1_cut_16 : decode cX1_cut 16 = .ok (.ldc2_w 120, 3) := by decide +kernel
theorem dX1_cut_19 : decode cX1_cut 19 = .ok (.invokestatic 59, 3) := by decide +kernel
theorem dX1_cut_22 : decode cX1_cut 22 = .ok (.ifCond .ne 7, 3) := by decide +kernel
theorem dX1_cut_25 : decode cX1_cut 25 = .ok (.ldc2_w 69, 3) := by decide +kernel
theorem dX1_cut_28 : decode cX1_cut 28 = .ok (.lreturn, 1) := by decide +kernel
theorem dX1_cut_29 : decode cX1_cut 29 = .ok (.aload_n 0, 1) := by decide +kernel
theorem dX1_cut_30 : decode cX1_cut 30 = .ok (.iconst 0, 1) := by decide +kernel
theorem dX1_cut_31 : decode cX1_cut 31 = .ok (.putfield 39, 3) := by decide +kernel
theorem dX1_cut_34 : decode cX1_cut 34 = .ok (.aload_n 0, 1) := by decide +kernel
theorem dX1_cut_35 : decode cX1_cut 35 = .ok (.getfield 7, 3) := by decide +kernel
theorem dX1_cut_38 : decode cX1_cut 38 = .ok (.iload_n 1, 1) := by decide +kernel
theorem dX1_cut_39 : decode cX1_cut 39 = .ok (.laload, 1) := by decide +kernel
theorem dX1_cut_40 : decode cX1_cut 40 = .ok (.lstore 4, 2) := by decide +kernel
theorem dX1_cut_42 : decode cX1_cut 42 = .ok (.iconst 0, 1) := by decide +kernel
theorem dX1_cut_43 : decode cX1_cut 43 = .ok (.istore 6, 2) := by decide +kernel
theorem dX1_cut_45 : decode cX1_cut 45 = .ok (.iload 6, 2) := by decide +kernel
theorem dX1_cut_47 : decode cX1_cut 47 = .ok (.iload_n 2, 1) := by decide +kernel
theorem dX1_cut_48 : decode cX1_cut 48 = .ok (.if_icmp .ge 20, 3) := by decide +kernel
theorem dX1_cut_51 : decode cX1_cut 51 = .ok (.aload_n 0, 1) := by decide +kernel
theorem dX1_cut_52 : decode cX1_cut 52 = .ok (.lload 4, 2) := by decide +kernel
theorem dX1_cut_54 : decode cX1_cut 54 = .ok (.ldc2_w 122, 3) := by decide +kernel
theorem dX1_cut_57 : decode cX1_cut 57 = .ok (.invokevirtual 75, 3) := by decide +kernel
theorem dX1_cut_60 : decode cX1_cut 60 = .ok (.lstore 4, 2) := by decide +kernel
theorem dX1_cut_62 : decode cX1_cut 62 = .ok (.iinc 6 1, 3) := by decide +kernel
theorem dX1_cut_65 : decode cX1_cut 65 = .ok (.goto (-20), 3) := by decide +kernel
theorem dX1_cut_68 : decode cX1_cut 68 = .ok (.aload_n 0, 1) := by decide +kernel
theorem dX1_cut_69 : decode cX1_cut 69 = .ok (.getfield 39, 3) := by decide +kernel
theorem dX1_cut_72 : decode cX1_cut 72 = .ok (.ifCond .eq 7, 3) := by decide +kernel
theorem dX1_cut_75 : decode cX1_cut 75 = .ok (.ldc2_w 69, 3) := by decide +kernel
theorem dX1_cut_78 : decode cX1_cut 78 = .ok (.lreturn, 1) := by decide +kernel
theorem dX1_cut_79 : decode cX1_cut 79 = .ok (.lload 4, 2) := by decide +kernel
theorem dX1_cut_81 : decode cX1_cut 81 = .ok (.aload_n 0, 1) := by decide +kernel
theorem dX1_cut_82 : decode cX1_cut 82 = .ok (.getfield 13, 3) := by decide +kernel
theorem dX1_cut_85 : decode cX1_cut 85 = .ok (.iload_n 1, 1) := by decide +kernel
theorem dX1_cut_86 : decode cX1_cut 86 = .ok (.laload, 1) := by decide +kernel
theorem dX1_cut_87 : decode cX1_cut 87 = .ok (.invokestatic 117, 3) := by decide +kernel
theorem dX1_cut_90 : decode cX1_cut 90 = .ok (.lstore 6, 2) := by decide +kernel
theorem dX1_cut_92 : decode cX1_cut 92 = .ok (.iload_n 3, 1) := by decide +kernel
theorem dX1_cut_93 : decode cX1_cut 93 = .ok (.ifCond .eq 24, 3) := by decide +kernel
theorem dX1_cut_96 : decode cX1_cut 96 = .ok (.lload 4, 2) := by decide +kernel
theorem dX1_cut_98 : decode cX1_cut 98 = .ok (.aload_n 0, 1) := by decide +kernel
theorem dX1_cut_99 : decode cX1_cut 99 = .ok (.getfield 13, 3) := by decide +kernel
theorem dX1_cut_102 : decode cX1_cut 102 = .ok (.iload_n 1, 1) := by decide +kernel
theorem dX1_cut_103 : decode cX1_cut 103 = .ok (.laload, 1) := by decide +kernel
theorem dX1_cut_104 : decode cX1_cut 104 = .ok (.lrem, 1) := by decide +kernel
theorem dX1_cut_105 : decode cX1_cut 105 = .ok (.lconst 0, 1) := by decide +kernel
theorem dX1_cut_106 : decode cX1_cut 106 = .ok (.lcmp, 1) := by decide +kernel
theorem dX1_cut_107 : decode cX1_cut 107 = .ok (.ifCond .eq 10, 3) := by decide +kernel
theorem dX1_cut_110 : decode cX1_cut 110 = .ok (.lload 6, 2) := by decide +kernel
theorem dX1_cut_112 : decode cX1_cut 112 = .ok (.lconst 1, 1) := by decide +kernel
theorem dX1_cut_113 : decode cX1_cut 113 = .ok (.ladd, 1) := by decide +kernel
theorem dX1_cut_114 : decode cX1_cut 114 = .ok (.goto 5, 3) := by decide +kernel
theorem dX1_cut_117 : decode cX1_cut 117 = .ok (.lload 6, 2) := by decide +kernel
theorem dX1_cut_119 : decode cX1_cut 119 = .ok (.lreturn, 1) := by decide +kernel
set_option maxRecDepth 20000 in
theorem ggX1_isRow_X1_isIn : GoodIn wsX1_isRow wsX1_isIn := goodIn_r _ [5] (by decide +kernel) (by decide +kernel)
set_option maxRecDepth 20000 in
theorem gX1_isRow_X1_isIn : GoodIn wsX1_isRow (va_wsS RX1 59 yX1_isIn wsX1_isIn) := goodIn_app (goodIn_of _ (by decide +kernel)) ggX1_isRow_X1_isIn
theorem dX1_isRow_0 : decode cX1_isRow 0 = .ok (.iload_n 0, 1) := by decide +kernel
theorem dX1_isRow_1 : decode cX1_isRow 1 = .ok (.i2l, 1) := by decide +kernel
theorem dX1_isRow_2 : decode cX1_isRow 2 = .ok (.lconst 0, 1) := by decide +kernel
theorem dX1_isRow_3 : decode cX1_isRow 3 = .ok (.ldc2_w 92, 3) := by decide +kernel
theorem dX1_isRow_6 : decode cX1_isRow 6 = .ok (.invokestatic 59, 3) := by decide +kernel
theorem dX1_isRow_9 : decode cX1_isRow 9 = .ok (.ireturn, 1) := by decide +kernel
set_option maxRecDepth 20000 in
theorem ggX1_into_X1_isRow : GoodIn wsX1_into wsX1_isRow := goodIn_r _ [8, 9, 10, 11, 7, 12] (by decide +kernel) (by decide +kernel)
set_option maxRecDepth 20000 in
theorem gX1_into_X1_isRow : GoodIn wsX1_into (va_wsS RX1 124 yX1_isRow wsX1_isRow) := goodIn_app (goodIn_of _ (by decide +kernel)) ggX1_into_X1_isRow
set_option maxRecDepth 20000 in
theorem ggX1_into_X1_isIn : GoodIn wsX1_into wsX1_isIn := goodIn_r _ [12] (by decide +kernel) (by decide +kernel)
set_option maxRecDepth 20000 in
theorem gX1_into_X1_isIn : GoodIn wsX1_into (va_wsS RX1 59 yX1_isIn wsX1_isIn) := goodIn_app (goodIn_of _ (by decide +kernel)) ggX1_into_X1_isIn
theorem dX1_into_0 : decode cX1_into 0 = .ok (.aload_n 0, 1) := by decide +kernel
theorem dX1_into_1 : decode cX1_into 1 = .ok (.iconst 0, 1) := by decide +kernel
theorem dX1_into_2 : decode cX1_into 2 = .ok (.putfield 43, 3) := by decide +kernel
theorem dX1_into_5 : decode cX1_into 5 = .ok (.iload_n 1, 1) := by decide +kernel
theorem dX1_into_6 : decode cX1_into 6 = .ok (.invokestatic 124, 3) := by decide +kernel
theorem dX1_into_9 : decode cX1_into 9 = .ok (.ifCond .eq 14, 3) := by decide +kernel
theorem dX1_into_12 : decode cX1_into 12 = .ok (.lload_n 2, 1) := by decide +kernel
theorem dX1_into_13 : decode cX1_into 13 = .ok (.lconst 0, 1) := by decide +kernel
theorem dX1_into_14 : decode cX1_into 14 = .ok (.ldc2_w 115, 3) := by decide +kernel
theorem dX1_into_17 : decode cX1_into 17 = .ok (.invokestatic 59, 3) := by decide +kernel
theorem dX1_into_20 : decode cX1_into 20 = .ok (.ifCond .ne 5, 3) := by decide +kernel
theorem dX1_into_23 : decode cX1_into 23 = .ok (.iconst (-1), 1) := by decide +kernel
theorem dX1_into_24 : decode cX1_into 24 = .ok (.ireturn, 1) := by decide +kernel
theorem dX1_into_25 : decode cX1_into 25 = .ok (.aload_n 0, 1) := by decide +kernel
theorem dX1_into_26 : decode cX1_into 26 = .ok (.getfield 19, 3) := by decide +kernel
theorem dX1_into_29 : decode cX1_into 29 = .ok (.iload_n 1, 1) := by decide +kernel
theorem dX1_into_30 : decode cX1_into 30 = .ok (.iaload, 1) := by decide +kernel
theorem dX1_into_31 : decode cX1_into 31 = .ok (.bipush 8, 2) := by decide +kernel
theorem dX1_into_33 : decode cX1_into 33 = .ok (.if_icmp .ne 6, 3) := by decide +kernel
theorem dX1_into_36 : decode cX1_into 36 = .ok (.bipush (-4), 2) := by decide +kernel
theorem dX1_into_38 : decode cX1_into 38 = .ok (.ireturn, 1) := by decide +kernel
theorem dX1_into_39 : decode cX1_into 39 = .ok (.aload_n 0, 1) := by decide +kernel
theorem dX1_into_40 : decode cX1_into 40 = .ok (.getfield 16, 3) := by decide +kernel
theorem dX1_into_43 : decode cX1_into 43 = .ok (.bipush 8, 2) := by decide +kernel
theorem dX1_into_45 : decode cX1_into 45 = .ok (.iload_n 1, 1) := by decide +kernel
theorem dX1_into_46 : decode cX1_into 46 = .ok (.imul, 1) := by decide +kernel
theorem dX1_into_47 : decode cX1_into 47 = .ok (.aload_n 0, 1) := by decide +kernel
theorem dX1_into_48 : decode cX1_into 48 = .ok (.getfield 19, 3) := by decide +kernel
theorem dX1_into_51 : decode cX1_into 51 = .ok (.iload_n 1, 1) := by decide +kernel
theorem dX1_into_52 : decode cX1_into 52 = .ok (.iaload, 1) := by decide +kernel
theorem dX1_into_53 : decode cX1_into 53 = .ok (.iadd, 1) := by decide +kernel
theorem dX1_into_54 : decode cX1_into 54 = .ok (.lload_n 2, 1) := by decide +kernel
theorem dX1_into_55 : decode cX1_into 55 = .ok (.lastore, 1) := by decide +kernel
theorem dX1_into_56 : decode cX1_into 56 = .ok (.aload_n 0, 1) := by decide +kernel
theorem dX1_into_57 : decode cX1_into 57 = .ok (.getfield 19, 3) := by decide +kernel
theorem dX1_into_60 : decode cX1_into 60 = .ok (.iload_n 1, 1) := by decide +kernel
theorem dX1_into_61 : decode cX1_into 61 = .ok (.dup2, 1) := by decide +kernel
theorem dX1_into_62 : decode cX1_into 62 = .ok (.iaload, 1) := by decide +kernel
theorem dX1_into_63 : decode cX1_into 63 = .ok (.iconst 1, 1) := by decide +kernel
theorem dX1_into_64 : decode cX1_into 64 = .ok (.iadd, 1) := by decide +kernel
theorem dX1_into_65 : decode cX1_into 65 = .ok (.iastore, 1) := by decide +kernel
theorem dX1_into_66 : decode cX1_into 66 = .ok (.aload_n 0, 1) := by decide +kernel
theorem dX1_into_67 : decode cX1_into 67 = .ok (.getfield 19, 3) := by decide +kernel
theorem dX1_into_70 : decode cX1_into 70 = .ok (.iload_n 1, 1) := by decide +kernel
theorem dX1_into_71 : decode cX1_into 71 = .ok (.iaload, 1) := by decide +kernel
theorem dX1_into_72 : decode cX1_into 72 = .ok (.ireturn, 1) := by decide +kernel
set_option maxRecDepth 20000 in
theorem ggX1_empty_X1_isRow : GoodIn wsX1_empty wsX1_isRow := goodIn_r _ [6, 7, 8, 9, 5, 10] (by decide +kernel) (by decide +kernel)
set_option maxRecDepth 20000 in
theorem gX1_empty_X1_isRow : GoodIn wsX1_empty (va_wsS RX1 124 yX1_isRow wsX1_isRow) := goodIn_app (goodIn_of _ (by decide +kernel)) ggX1_empty_X1_isRow
theorem dX1_empty_0 : decode cX1_empty 0 = .ok (.aload_n 0, 1) := by decide +kernel
theorem dX1_empty_1 : decode cX1_empty 1 = .ok (.iconst 0, 1) := by decide +kernel
theorem dX1_empty_2 : decode cX1_empty 2 = .ok (.putfield 43, 3) := by decide +kernel
theorem dX1_empty_5 : decode cX1_empty 5 = .ok (.iload_n 1, 1) := by decide +kernel
theorem dX1_empty_6 : decode cX1_empty 6 = .ok (.invokestatic 124, 3) := by decide +kernel
theorem dX1_empty_9 : decode cX1_empty 9 = .ok (.ifCond .ne 5, 3) := by decide +kernel
theorem dX1_empty_12 : decode cX1_empty 12 = .ok (.iconst (-1), 1) := by decide +kernel
theorem dX1_empty_13 : decode cX1_empty 13 = .ok (.ireturn, 1) := by decide +kernel
theorem dX1_empty_14 : decode cX1_empty 14 = .ok (.aload_n 0, 1) := by decide +kernel
theorem dX1_empty_15 : decode cX1_empty 15 = .ok (.getfield 19, 3) := by decide +kernel
theorem dX1_empty_18 : decode cX1_empty 18 = .ok (.iload_n 1, 1) := by decide +kernel
theorem dX1_empty_19 : decode cX1_empty 19 = .ok (.iaload, 1) := by decide +kernel
theorem dX1_empty_20 : decode cX1_empty 20 = .ok (.istore_n 2, 1) := by decide +kernel
theorem dX1_empty_21 : decode cX1_empty 21 = .ok (.aload_n 0, 1) := by decide +kernel
theorem dX1_empty_22 : decode cX1_empty 22 = .ok (.getfield 19, 3) := by decide +kernel
theorem dX1_empty_25 : decode cX1_empty 25 = .ok (.iload_n 1, 1) := by decide +kernel
theorem dX1_empty_26 : decode cX1_empty 26 = .ok (.iconst 0, 1) := by decide +kernel
theorem dX1_empty_27 : decode cX1_empty 27 = .ok (.iastore, 1) := by decide +kernel
theorem dX1_empty_28 : decode cX1_empty 28 = .ok (.iload_n 2, 1) := by decide +kernel
theorem dX1_empty_29 : decode cX1_empty 29 = .ok (.ireturn, 1) := by decide +kernel
set_option maxRecDepth 20000 in
theorem ggX1_at_X1_isRow : GoodIn wsX1_at wsX1_isRow := goodIn_r _ [8, 9, 10, 11, 7, 12] (by decide +kernel) (by decide +kernel)
set_option maxRecDepth 20000 in
theorem gX1_at_X1_isRow : GoodIn wsX1_at (va_wsS RX1 124 yX1_isRow wsX1_isRow) := goodIn_app (goodIn_of _ (by decide +kernel)) ggX1_at_X1_isRow
set_option maxRecDepth 20000 in
theorem ggX1_at_X1_isIn : GoodIn wsX1_at wsX1_isIn := goodIn_r _ [12] (by decide +kernel) (by decide +kernel)
set_option maxRecDepth 20000 in
theorem gX1_at_X1_isIn : GoodIn wsX1_at (va_wsS RX1 59 yX1_isIn wsX1_isIn) := goodIn_app (goodIn_of _ (by decide +kernel)) ggX1_at_X1_isIn
theorem dX1_at_0 : decode cX1_at 0 = .ok (.aload_n 0, 1) := by decide +kernel
theorem dX1_at_1 : decode cX1_at 1 = .ok (.iconst 0, 1) := by decide +kernel
theorem dX1_at_2 : decode cX1_at 2 = .ok (.putfield 43, 3) := by decide +kernel
theorem dX1_at_5 : decode cX1_at 5 = .ok (.iload_n 1, 1) := by decide +kernel
theorem dX1_at_6 : decode cX1_at 6 = .ok (.invokestatic 124, 3) := by decide +kernel
theorem dX1_at_9 : decode cX1_at 9 = .ok (.ifCond .eq 35, 3) := by decide +kernel
theorem dX1_at_12 : decode cX1_at 12 = .ok (.iload_n 2, 1) := by decide +kernel
theorem dX1_at_13 : decode cX1_at 13 = .ok (.i2l, 1) := by decide +kernel
theorem dX1_at_14 : decode cX1_at 14 = .ok (.lconst 0, 1) := by decide +kernel
theorem dX1_at_15 : decode cX1_at 15 = .ok (.aload_n 0, 1) := by decide +kernel
theorem dX1_at_16 : decode cX1_at 16 = .ok (.getfield 19, 3) := by decide +kernel
theorem dX1_at_19 : decode cX1_at 19 = .ok (.iload_n 1, 1) := by decide +kernel
theorem dX1_at_20 : decode cX1_at 20 = .ok (.iaload, 1) := by decide +kernel
theorem dX1_at_21 : decode cX1_at 21 = .ok (.iconst 1, 1) := by decide +kernel
theorem dX1_at_22 : decode cX1_at 22 = .ok (.isub, 1) := by decide +kernel
theorem dX1_at_23 : decode cX1_at 23 = .ok (.i2l, 1) := by decide +kernel
theorem dX1_at_24 : decode cX1_at 24 = .ok (.invokestatic 59, 3) := by decide +kernel
theorem dX1_at_27 : decode cX1_at 27 = .ok (.ifCond .eq 17, 3) := by decide +kernel
theorem dX1_at_30 : decode cX1_at 30 = .ok (.aload_n 0, 1) := by decide +kernel
theorem dX1_at_31 : decode cX1_at 31 = .ok (.getfield 16, 3) := by decide +kernel
theorem dX1_at_34 : decode cX1_at 34 = .ok (.bipush 8, 2) := by decide +kernel
theorem dX1_at_36 : decode cX1_at 36 = .ok (.iload_n 1, 1) := by decide +kernel
theorem dX1_at_37 : decode cX1_at 37 = .ok (.imul, 1) := by decide +kernel
theorem dX1_at_38 : decode cX1_at 38 = .ok (.iload_n 2, 1) := by decide +kernel
theorem dX1_at_39 : decode cX1_at 39 = .ok (.iadd, 1) := by decide +kernel
theorem dX1_at_40 : decode cX1_at 40 = .ok (.laload, 1) := by decide +kernel
theorem dX1_at_41 : decode cX1_at 41 = .ok (.goto 6, 3) := by decide +kernel
theorem dX1_at_44 : decode cX1_at 44 = .ok (.ldc2_w 67, 3) := by decide +kernel
theorem dX1_at_47 : decode cX1_at 47 = .ok (.lreturn, 1) := by decide +kernel
theorem dX1_sumOf_0 : decode cX1_sumOf 0 = .ok (.lconst 0, 1) := by decide +kernel
theorem dX1_sumOf_1 : decode cX1_sumOf 1 = .ok (.lstore_n 2, 1) := by decide +kernel
theorem dX1_sumOf_2 : decode cX1_sumOf 2 = .ok (.iconst 0, 1) := by decide +kernel
theorem dX1_sumOf_3 : decode cX1_sumOf 3 = .ok (.istore 4, 2) := by decide +kernel
theorem dX1_sumOf_5 : decode cX1_sumOf 5 = .ok (.iload 4, 2) := by decide +kernel
theorem dX1_sumOf_7 : decode cX1_sumOf 7 = .ok (.aload_n 0, 1) := by decide +kernel
theorem dX1_sumOf_8 : decode cX1_sumOf 8 = .ok (.getfield 19, 3) := by decide +kernel
theorem dX1_sumOf_11 : decode cX1_sumOf 11 = .ok (.iload_n 1, 1) := by decide +kernel
theorem dX1_sumOf_12 : decode cX1_sumOf 12 = .ok (.iaload, 1) := by decide +kernel
theorem dX1_sumOf_13 : decode cX1_sumOf 13 = .ok (.if_icmp .ge 24, 3) := by decide +kernel
theorem dX1_sumOf_16 : decode cX1_sumOf 16 = .ok (.lload_n 2, 1) := by decide +kernel
theorem dX1_sumOf_17 : decode cX1_sumOf 17 = .ok (.aload_n 0, 1) := by decide +kernel
theorem dX1_sumOf_18 : decode cX1_sumOf 18 = .ok (.getfield 16, 3) := by decide +kernel
theorem dX1_sumOf_21 : decode cX1_sumOf 21 = .ok (.bipush 8, 2) := by decide +kernel
theorem dX1_sumOf_23 : decode cX1_sumOf 23 = .ok (.iload_n 1, 1) := by decide +kernel
theorem dX1_sumOf_24 : decode cX1_sumOf 24 = .ok (.imul, 1) := by decide +kernel
theorem dX1_sumOf_25 : decode cX1_sumOf 25 = .ok (.iload 4, 2) := by decide +kernel
theorem dX1_sumOf_27 : decode cX1_sumOf 27 = .ok (.iadd, 1) := by decide +kernel
theorem dX1_sumOf_28 : decode cX1_sumOf 28 = .ok (.laload, 1) := by decide +kernel
theorem dX1_sumOf_29 : decode cX1_sumOf 29 = .ok (.ladd, 1) := by decide +kernel
theorem dX1_sumOf_30 : decode cX1_sumOf 30 = .ok (.lstore_n 2, 1) := by decide +kernel
theorem dX1_sumOf_31 : decode cX1_sumOf 31 = .ok (.iinc 4 1, 3) := by decide +kernel
theorem dX1_sumOf_34 : decode cX1_sumOf 34 = .ok (.goto (-29), 3) := by decide +kernel
theorem dX1_sumOf_37 : decode cX1_sumOf 37 = .ok (.lload_n 2, 1) := by decide +kernel
theorem dX1_sumOf_38 : decode cX1_sumOf 38 = .ok (.lreturn, 1) := by decide +kernel
set_option maxRecDepth 20000 in
theorem ggX1_share_X1_isRow : GoodIn wsX1_share wsX1_isRow := goodIn_r _ [8, 9, 10, 11, 7, 12] (by decide +kernel) (by decide +kernel)
set_option maxRecDepth 20000 in
theorem gX1_share_X1_isRow : GoodIn wsX1_share (va_wsS RX1 124 yX1_isRow wsX1_isRow) := goodIn_app (goodIn_of _ (by decide +kernel)) ggX1_share_X1_isRow
set_option maxRecDepth 20000 in
theorem ggX1_share_X1_isIn : GoodIn wsX1_share wsX1_isIn := goodIn_r _ [12] (by decide +kernel) (by decide +kernel)
set_option maxRecDepth 20000 in
theorem gX1_share_X1_isIn : GoodIn wsX1_share (va_wsS RX1 59 yX1_isIn wsX1_isIn) := goodIn_app (goodIn_of _ (by decide +kernel)) ggX1_share_X1_isIn
set_option maxRecDepth 20000 in
theorem ggX1_share_X1_sumOf : GoodIn wsX1_share wsX1_sumOf := goodIn_r _ [16, 2, 4, 30, 31, 32, 33, 34, 35, 36, 37, 38, 39, 40, 41, 42, 43, 44, 45, 46] (by decide +kernel) (by decide +kernel)
set_option maxRecDepth 20000 in
theorem gX1_share_X1_sumOf : GoodIn wsX1_share (wsV RX1 127 RX1 yX1_sumOf wsX1_sumOf) := goodIn_app (goodIn_of _ (by decide +kernel)) ggX1_share_X1_sumOf
set_option maxRecDepth 20000 in
theorem ggX1_share_X1_kept : GoodIn wsX1_share wsX1_kept := goodIn_r _ [20, 21, 22, 3, 23, 24, 25, 7, 26, 27, 28, 29, 30, 31, 32, 33, 34, 35, 36, 37, 38, 39, 40, 41, 42, 43, 44, 45, 46] (by decide +kernel) (by decide +kernel)
set_option maxRecDepth 20000 in
theorem gX1_share_X1_kept : GoodIn wsX1_share (wsV RX1 71 RX1 yX1_kept wsX1_kept) := goodIn_app (goodIn_of _ (by decide +kernel)) ggX1_share_X1_kept
theorem dX1_share_0 : decode cX1_share 0 = .ok (.aload_n 0, 1) := by decide +kernel
theorem dX1_share_1 : decode cX1_share 1 = .ok (.iconst 0, 1) := by decide +kernel
theorem dX1_share_2 : decode cX1_share 2 = .ok (.putfield 43, 3) := by decide +kernel
theorem dX1_share_5 : decode cX1_share 5 = .ok (.iload_n 1, 1) := by decide +kernel
theorem dX1_share_6 : decode cX1_share 6 = .ok (.invokestatic 124, 3) := by decide +kernel
theorem dX1_share_9 : decode cX1_share 9 = .ok (.ifCond .eq 21, 3) := by decide +kernel
theorem dX1_share_12 : decode cX1_share 12 = .ok (.iload_n 2, 1) := by decide +kernel
theorem dX1_share_13 : decode cX1_share 13 = .ok (.i2l, 1) := by decide +kernel
theorem dX1_share_14 : decode cX1_share 14 = .ok (.lconst 0, 1) := by decide +kernel
theorem dX1_share_15 : decode cX1_share 15 = .ok (.aload_n 0, 1) := by decide +kernel
theorem dX1_share_16 : decode cX1_share 16 = .ok (.getfield 19, 3) := by decide +kernel
theorem dX1_share_19 : decode cX1_share 19 = .ok (.iload_n 1, 1) := by decide +kernel
theorem dX1_share_20 : decode cX1_share 20 = .ok (.iaload, 1) := by decide +kernel
theorem dX1_share_21 : decode cX1_share 21 = .ok (.iconst 1, 1) := by decide +kernel
theorem dX1_share_22 : decode cX1_share 22 = .ok (.isub, 1) := by decide +kernel
theorem dX1_share_23 : decode cX1_share 23 = .ok (.i2l, 1) := by decide +kernel
theorem dX1_share_24 : decode cX1_share 24 = .ok (.invokestatic 59, 3) := by decide +kernel
theorem dX1_share_27 : decode cX1_share 27 = .ok (.ifCond .ne 5, 3) := by decide +kernel
theorem dX1_share_30 : decode cX1_share 30 = .ok (.iconst (-1), 1) := by decide +kernel
theorem dX1_share_31 : decode cX1_share 31 = .ok (.ireturn, 1) := by decide +kernel
theorem dX1_share_32 : decode cX1_share 32 = .ok (.aload_n 0, 1) := by decide +kernel
theorem dX1_share_33 : decode cX1_share 33 = .ok (.getfield 56, 3) := by decide +kernel
theorem dX1_share_36 : decode cX1_share 36 = .ok (.bipush 40, 2) := by decide +kernel
theorem dX1_share_38 : decode cX1_share 38 = .ok (.if_icmp .ne 6, 3) := by decide +kernel
theorem dX1_share_41 : decode cX1_share 41 = .ok (.bipush (-4), 2) := by decide +kernel
theorem dX1_share_43 : decode cX1_share 43 = .ok (.ireturn, 1) := by decide +kernel
theorem dX1_share_44 : decode cX1_share 44 = .ok (.aload_n 0, 1) := by decide +kernel
theorem dX1_share_45 : decode cX1_share 45 = .ok (.iload_n 1, 1) := by decide +kernel
theorem dX1_share_46 : decode cX1_share 46 = .ok (.invokevirtual 127, 3) := by decide +kernel
theorem dX1_share_49 : decode cX1_share 49 = .ok (.lstore_n 3, 1) := by decide +kernel
theorem dX1_share_50 : decode cX1_share 50 = .ok (.lload_n 3, 1) := by decide +kernel
theorem dX1_share_51 : decode cX1_share 51 = .ok (.lconst 0, 1) := by decide +kernel
theorem dX1_share_52 : decode cX1_share 52 = .ok (.lcmp, 1) := by decide +kernel
theorem dX1_share_53 : decode cX1_share 53 = .ok (.ifCond .ne 10, 3) := by decide +kernel
theorem dX1_share_56 : decode cX1_share 56 = .ok (.aload_n 0, 1) := by decide +kernel
theorem dX1_share_57 : decode cX1_share 57 = .ok (.iconst 1, 1) := by decide +kernel
theorem dX1_share_58 : decode cX1_share 58 = .ok (.putfield 43, 3) := by decide +kernel
theorem dX1_share_61 : decode cX1_share 61 = .ok (.iconst 0, 1) := by decide +kernel
theorem dX1_share_62 : decode cX1_share 62 = .ok (.ireturn, 1) := by decide +kernel
theorem dX1_share_63 : decode cX1_share 63 = .ok (.aload_n 0, 1) := by decide +kernel
theorem dX1_share_64 : decode cX1_share 64 = .ok (.aload_n 0, 1) := by decide +kernel
theorem dX1_share_65 : decode cX1_share 65 = .ok (.getfield 16, 3) := by decide +kernel
theorem dX1_share_68 : decode cX1_share 68 = .ok (.bipush 8, 2) := by decide +kernel
theorem dX1_share_70 : decode cX1_share 70 = .ok (.iload_n 1, 1) := by decide +kernel
theorem dX1_share_71 : decode cX1_share 71 = .ok (.imul, 1) := by decide +kernel
theorem dX1_share_72 : decode cX1_share 72 = .ok (.iload_n 2, 1) := by decide +kernel
theorem dX1_share_73 : decode cX1_share 73 = .ok (.iadd, 1) := by decide +kernel
theorem dX1_share_74 : decode cX1_share 74 = .ok (.laload, 1) := by decide +kernel
theorem dX1_share_75 : decode cX1_share 75 = .ok (.lload_n 3, 1) := by decide +kernel
theorem dX1_share_76 : decode cX1_share 76 = .ok (.invokevirtual 71, 3) := by decide +kernel
theorem dX1_share_79 : decode cX1_share 79 = .ok (.ireturn, 1) := by decide +kernel
set_option maxRecDepth 20000 in
theorem ggX1_seats_X1_isRow : GoodIn wsX1_seats wsX1_isRow := goodIn_r _ [13, 14, 15, 16, 12, 17] (by decide +kernel) (by decide +kernel)
set_option maxRecDepth 20000 in
theorem gX1_seats_X1_isRow : GoodIn wsX1_seats (va_wsS RX1 124 yX1_isRow wsX1_isRow) := goodIn_app (goodIn_of _ (by decide +kernel)) ggX1_seats_X1_isRow
set_option maxRecDepth 20000 in
theorem ggX1_seats_X1_isIn : GoodIn wsX1_seats wsX1_isIn := goodIn_r _ [17] (by decide +kernel) (by decide +kernel)
set_option maxRecDepth 20000 in
theorem gX1_seats_X1_isIn : GoodIn wsX1_seats (va_wsS RX1 59 yX1_isIn wsX1_isIn) := goodIn_app (goodIn_of _ (by decide +kernel)) ggX1_seats_X1_isIn
set_option maxRecDepth 20000 in
theorem ggX1_seats_X1_sumOf : GoodIn wsX1_seats wsX1_sumOf := goodIn_r _ [21, 4, 7, 22, 23, 24, 25, 26, 27, 28, 29, 30, 31, 32, 33, 34, 35, 36, 37, 38] (by decide +kernel) (by decide +kernel)
set_option maxRecDepth 20000 in
theorem gX1_seats_X1_sumOf : GoodIn wsX1_seats (wsV RX1 127 RX1 yX1_sumOf wsX1_sumOf) := goodIn_app (goodIn_of _ (by decide +kernel)) ggX1_seats_X1_sumOf
theorem dX1_seats_0 : decode cX1_seats 0 = .ok (.aload_n 0, 1) := by decide +kernel
theorem dX1_seats_1 : decode cX1_seats 1 = .ok (.iconst 0, 1) := by decide +kernel
theorem dX1_seats_2 : decode cX1_seats 2 = .ok (.putfield 43, 3) := by decide +kernel
theorem dX1_seats_5 : decode cX1_seats 5 = .ok (.iload_n 1, 1) := by decide +kernel
theorem dX1_seats_6 : decode cX1_seats 6 = .ok (.invokestatic 124, 3) := by decide +kernel
theorem dX1_seats_9 : decode cX1_seats 9 = .ok (.ifCond .eq 27, 3) := by decide +kernel
theorem dX1_seats_12 : decode cX1_seats 12 = .ok (.iload_n 2, 1) := by decide +kernel
theorem dX1_seats_13 : decode cX1_seats 13 = .ok (.i2l, 1) := by decide +kernel
theorem dX1_seats_14 : decode cX1_seats 14 = .ok (.lconst 0, 1) := by decide +kernel
theorem dX1_seats_15 : decode cX1_seats 15 = .ok (.ldc2_w 131, 3) := by decide +kernel
theorem dX1_seats_18 : decode cX1_seats 18 = .ok (.invokestatic 59, 3) := by decide +kernel
theorem dX1_seats_21 : decode cX1_seats 21 = .ok (.ifCond .eq 15, 3) := by decide +kernel
theorem dX1_seats_24 : decode cX1_seats 24 = .ok (.iload_n 3, 1) := by decide +kernel
theorem dX1_seats_25 : decode cX1_seats 25 = .ok (.i2l, 1) := by decide +kernel
theorem dX1_seats_26 : decode cX1_seats 26 = .ok (.lconst 0, 1) := by decide +kernel
theorem dX1_seats_27 : decode cX1_seats 27 = .ok (.ldc2_w 133, 3) := by decide +kernel
theorem dX1_seats_30 : decode cX1_seats 30 = .ok (.invokestatic 59, 3) := by decide +kernel
theorem dX1_seats_33 : decode cX1_seats 33 = .ok (.ifCond .ne 5, 3) := by decide +kernel
theorem dX1_seats_36 : decode cX1_seats 36 = .ok (.iconst (-1), 1) := by decide +kernel
theorem dX1_seats_37 : decode cX1_seats 37 = .ok (.ireturn, 1) := by decide +kernel
theorem dX1_seats_38 : decode cX1_seats 38 = .ok (.aload_n 0, 1) := by decide +kernel
theorem dX1_seats_39 : decode cX1_seats 39 = .ok (.iload_n 1, 1) := by decide +kernel
theorem dX1_seats_40 : decode cX1_seats 40 = .ok (.invokevirtual 127, 3) := by decide +kernel
theorem dX1_seats_43 : decode cX1_seats 43 = .ok (.lstore 4, 2) := by decide +kernel
theorem dX1_seats_45 : decode cX1_seats 45 = .ok (.lload 4, 2) := by decide +kernel
theorem dX1_seats_47 : decode cX1_seats 47 = .ok (.lconst 0, 1) := by decide +kernel
theorem dX1_seats_48 : decode cX1_seats 48 = .ok (.lcmp, 1) := by decide +kernel
theorem dX1_seats_49 : decode cX1_seats 49 = .ok (.ifCond .ne 6, 3) := by decide +kernel
theorem dX1_seats_52 : decode cX1_seats 52 = .ok (.bipush (-2), 2) := by decide +kernel
theorem dX1_seats_54 : decode cX1_seats 54 = .ok (.ireturn, 1) := by decide +kernel
theorem dX1_seats_55 : decode cX1_seats 55 = .ok (.aload_n 0, 1) := by decide +kernel
theorem dX1_seats_56 : decode cX1_seats 56 = .ok (.aload_n 0, 1) := by decide +kernel
theorem dX1_seats_57 : decode cX1_seats 57 = .ok (.getfield 19, 3) := by decide +kernel
theorem dX1_seats_60 : decode cX1_seats 60 = .ok (.iload_n 1, 1) := by decide +kernel
theorem dX1_seats_61 : decode cX1_seats 61 = .ok (.iaload, 1) := by decide +kernel
theorem dX1_seats_62 : decode cX1_seats 62 = .ok (.putfield 23, 3) := by decide +kernel
theorem dX1_seats_65 : decode cX1_seats 65 = .ok (.iload_n 2, 1) := by decide +kernel
theorem dX1_seats_66 : decode cX1_seats 66 = .ok (.istore 6, 2) := by decide +kernel
theorem dX1_seats_68 : decode cX1_seats 68 = .ok (.iconst 0, 1) := by decide +kernel
theorem dX1_seats_69 : decode cX1_seats 69 = .ok (.istore 7, 2) := by decide +kernel
theorem dX1_seats_71 : decode cX1_seats 71 = .ok (.iload 7, 2) := by decide +kernel
end
section
theorem dX1_seats_73 : decode cX1_seats 73 = .ok (.aload_n 0, 1) := by decide +kernel
theorem dX1_seats_74 : decode cX1_seats 74 = .ok (.getfield 23, 3) := by decide +kernel
theorem dX1_seats_77 : decode cX1_seats 77 = .ok (.if_icmp .ge 88, 3) := by decide +kernel
theorem dX1_seats_80 : decode cX1_seats 80 = .ok (.aload_n 0, 1) := by decide +kernel
theorem dX1_seats_81 : decode cX1_seats 81 = .ok (.getfield 27, 3) := by decide +kernel
theorem dX1_seats_84 : decode cX1_seats 84 = .ok (.iload 7, 2) := by decide +kernel
theorem dX1_seats_86 : decode cX1_seats 86 = .ok (.iload_n 3, 1) := by decide +kernel
theorem dX1_seats_87 : decode cX1_seats 87 = .ok (.ifCond .ne 25, 3) := by decide +kernel
theorem dX1_seats_90 : decode cX1_seats 90 = .ok (.iload_n 2, 1) := by decide +kernel
theorem dX1_seats_91 : decode cX1_seats 91 = .ok (.i2l, 1) := by decide +kernel
theorem dX1_seats_92 : decode cX1_seats 92 = .ok (.aload_n 0, 1) := by decide +kernel
theorem dX1_seats_93 : decode cX1_seats 93 = .ok (.getfield 16, 3) := by decide +kernel
theorem dX1_seats_96 : decode cX1_seats 96 = .ok (.bipush 8, 2) := by decide +kernel
theorem dX1_seats_98 : decode cX1_seats 98 = .ok (.iload_n 1, 1) := by decide +kernel
theorem dX1_seats_99 : decode cX1_seats 99 = .ok (.imul, 1) := by decide +kernel
theorem dX1_seats_100 : decode cX1_seats 100 = .ok (.iload 7, 2) := by decide +kernel
theorem dX1_seats_102 : decode cX1_seats 102 = .ok (.iadd, 1) := by decide +kernel
theorem dX1_seats_103 : decode cX1_seats 103 = .ok (.laload, 1) := by decide +kernel
theorem dX1_seats_104 : decode cX1_seats 104 = .ok (.lmul, 1) := by decide +kernel
theorem dX1_seats_105 : decode cX1_seats 105 = .ok (.lload 4, 2) := by decide +kernel
theorem dX1_seats_107 : decode cX1_seats 107 = .ok (.ldiv, 1) := by decide +kernel
theorem dX1_seats_108 : decode cX1_seats 108 = .ok (.l2i, 1) := by decide +kernel
theorem dX1_seats_109 : decode cX1_seats 109 = .ok (.goto 4, 3) := by decide +kernel
theorem dX1_seats_112 : decode cX1_seats 112 = .ok (.iconst 0, 1) := by decide +kernel
theorem dX1_seats_113 : decode cX1_seats 113 = .ok (.iastore, 1) := by decide +kernel
theorem dX1_seats_114 : decode cX1_seats 114 = .ok (.aload_n 0, 1) := by decide +kernel
theorem dX1_seats_115 : decode cX1_seats 115 = .ok (.getfield 30, 3) := by decide +kernel
theorem dX1_seats_118 : decode cX1_seats 118 = .ok (.iload 7, 2) := by decide +kernel
theorem dX1_seats_120 : decode cX1_seats 120 = .ok (.iload_n 3, 1) := by decide +kernel
theorem dX1_seats_121 : decode cX1_seats 121 = .ok (.ifCond .ne 24, 3) := by decide +kernel
theorem dX1_seats_124 : decode cX1_seats 124 = .ok (.iload_n 2, 1) := by decide +kernel
theorem dX1_seats_125 : decode cX1_seats 125 = .ok (.i2l, 1) := by decide +kernel
theorem dX1_seats_126 : decode cX1_seats 126 = .ok (.aload_n 0, 1) := by decide +kernel
theorem dX1_seats_127 : decode cX1_seats 127 = .ok (.getfield 16, 3) := by decide +kernel
theorem dX1_seats_130 : decode cX1_seats 130 = .ok (.bipush 8, 2) := by decide +kernel
theorem dX1_seats_132 : decode cX1_seats 132 = .ok (.iload_n 1, 1) := by decide +kernel
theorem dX1_seats_133 : decode cX1_seats 133 = .ok (.imul, 1) := by decide +kernel
theorem dX1_seats_134 : decode cX1_seats 134 = .ok (.iload 7, 2) := by decide +kernel
theorem dX1_seats_136 : decode cX1_seats 136 = .ok (.iadd, 1) := by decide +kernel
theorem dX1_seats_137 : decode cX1_seats 137 = .ok (.laload, 1) := by decide +kernel
theorem dX1_seats_138 : decode cX1_seats 138 = .ok (.lmul, 1) := by decide +kernel
theorem dX1_seats_139 : decode cX1_seats 139 = .ok (.lload 4, 2) := by decide +kernel
theorem dX1_seats_141 : decode cX1_seats 141 = .ok (.lrem, 1) := by decide +kernel
theorem dX1_seats_142 : decode cX1_seats 142 = .ok (.goto 4, 3) := by decide +kernel
theorem dX1_seats_145 : decode cX1_seats 145 = .ok (.lconst 0, 1) := by decide +kernel
theorem dX1_seats_146 : decode cX1_seats 146 = .ok (.lastore, 1) := by decide +kernel
theorem dX1_seats_147 : decode cX1_seats 147 = .ok (.iload 6, 2) := by decide +kernel
theorem dX1_seats_149 : decode cX1_seats 149 = .ok (.aload_n 0, 1) := by decide +kernel
theorem dX1_seats_150 : decode cX1_seats 150 = .ok (.getfield 27, 3) := by decide +kernel
theorem dX1_seats_153 : decode cX1_seats 153 = .ok (.iload 7, 2) := by decide +kernel
theorem dX1_seats_155 : decode cX1_seats 155 = .ok (.iaload, 1) := by decide +kernel
theorem dX1_seats_156 : decode cX1_seats 156 = .ok (.isub, 1) := by decide +kernel
theorem dX1_seats_157 : decode cX1_seats 157 = .ok (.istore 6, 2) := by decide +kernel
theorem dX1_seats_159 : decode cX1_seats 159 = .ok (.iinc 7 1, 3) := by decide +kernel
theorem dX1_seats_162 : decode cX1_seats 162 = .ok (.goto (-91), 3) := by decide +kernel
theorem dX1_seats_165 : decode cX1_seats 165 = .ok (.iload 6, 2) := by decide +kernel
theorem dX1_seats_167 : decode cX1_seats 167 = .ok (.ifCond .le 204, 3) := by decide +kernel
theorem dX1_seats_170 : decode cX1_seats 170 = .ok (.iconst 0, 1) := by decide +kernel
theorem dX1_seats_171 : decode cX1_seats 171 = .ok (.istore 7, 2) := by decide +kernel
theorem dX1_seats_173 : decode cX1_seats 173 = .ok (.iconst 1, 1) := by decide +kernel
theorem dX1_seats_174 : decode cX1_seats 174 = .ok (.istore 8, 2) := by decide +kernel
theorem dX1_seats_176 : decode cX1_seats 176 = .ok (.iload 8, 2) := by decide +kernel
theorem dX1_seats_178 : decode cX1_seats 178 = .ok (.aload_n 0, 1) := by decide +kernel
theorem dX1_seats_179 : decode cX1_seats 179 = .ok (.getfield 23, 3) := by decide +kernel
theorem dX1_seats_182 : decode cX1_seats 182 = .ok (.if_icmp .ge 162, 3) := by decide +kernel
theorem dX1_seats_185 : decode cX1_seats 185 = .ok (.iload_n 3, 1) := by decide +kernel
theorem dX1_seats_186 : decode cX1_seats 186 = .ok (.iconst 1, 1) := by decide +kernel
theorem dX1_seats_187 : decode cX1_seats 187 = .ok (.if_icmp .ne 16, 3) := by decide +kernel
theorem dX1_seats_190 : decode cX1_seats 190 = .ok (.aload_n 0, 1) := by decide +kernel
theorem dX1_seats_191 : decode cX1_seats 191 = .ok (.getfield 27, 3) := by decide +kernel
theorem dX1_seats_194 : decode cX1_seats 194 = .ok (.iload 8, 2) := by decide +kernel
theorem dX1_seats_196 : decode cX1_seats 196 = .ok (.iaload, 1) := by decide +kernel
theorem dX1_seats_197 : decode cX1_seats 197 = .ok (.i2l, 1) := by decide +kernel
theorem dX1_seats_198 : decode cX1_seats 198 = .ok (.lconst 1, 1) := by decide +kernel
theorem dX1_seats_199 : decode cX1_seats 199 = .ok (.ladd, 1) := by decide +kernel
theorem dX1_seats_200 : decode cX1_seats 200 = .ok (.goto 17, 3) := by decide +kernel
theorem dX1_seats_203 : decode cX1_seats 203 = .ok (.ldc2_w 133, 3) := by decide +kernel
theorem dX1_seats_206 : decode cX1_seats 206 = .ok (.aload_n 0, 1) := by decide +kernel
theorem dX1_seats_207 : decode cX1_seats 207 = .ok (.getfield 27, 3) := by decide +kernel
theorem dX1_seats_210 : decode cX1_seats 210 = .ok (.iload 8, 2) := by decide +kernel
theorem dX1_seats_212 : decode cX1_seats 212 = .ok (.iaload, 1) := by decide +kernel
theorem dX1_seats_213 : decode cX1_seats 213 = .ok (.i2l, 1) := by decide +kernel
theorem dX1_seats_214 : decode cX1_seats 214 = .ok (.lmul, 1) := by decide +kernel
theorem dX1_seats_215 : decode cX1_seats 215 = .ok (.lconst 1, 1) := by decide +kernel
theorem dX1_seats_216 : decode cX1_seats 216 = .ok (.ladd, 1) := by decide +kernel
theorem dX1_seats_217 : decode cX1_seats 217 = .ok (.lstore 9, 2) := by decide +kernel
theorem dX1_seats_219 : decode cX1_seats 219 = .ok (.iload_n 3, 1) := by decide +kernel
theorem dX1_seats_220 : decode cX1_seats 220 = .ok (.iconst 1, 1) := by decide +kernel
theorem dX1_seats_221 : decode cX1_seats 221 = .ok (.if_icmp .ne 16, 3) := by decide +kernel
theorem dX1_seats_224 : decode cX1_seats 224 = .ok (.aload_n 0, 1) := by decide +kernel
theorem dX1_seats_225 : decode cX1_seats 225 = .ok (.getfield 27, 3) := by decide +kernel
theorem dX1_seats_228 : decode cX1_seats 228 = .ok (.iload 7, 2) := by decide +kernel
theorem dX1_seats_230 : decode cX1_seats 230 = .ok (.iaload, 1) := by decide +kernel
theorem dX1_seats_231 : decode cX1_seats 231 = .ok (.i2l, 1) := by decide +kernel
theorem dX1_seats_232 : decode cX1_seats 232 = .ok (.lconst 1, 1) := by decide +kernel
theorem dX1_seats_233 : decode cX1_seats 233 = .ok (.ladd, 1) := by decide +kernel
theorem dX1_seats_234 : decode cX1_seats 234 = .ok (.goto 17, 3) := by decide +kernel
theorem dX1_seats_237 : decode cX1_seats 237 = .ok (.ldc2_w 133, 3) := by decide +kernel
theorem dX1_seats_240 : decode cX1_seats 240 = .ok (.aload_n 0, 1) := by decide +kernel
theorem dX1_seats_241 : decode cX1_seats 241 = .ok (.getfield 27, 3) := by decide +kernel
theorem dX1_seats_244 : decode cX1_seats 244 = .ok (.iload 7, 2) := by decide +kernel
theorem dX1_seats_246 : decode cX1_seats 246 = .ok (.iaload, 1) := by decide +kernel
theorem dX1_seats_247 : decode cX1_seats 247 = .ok (.i2l, 1) := by decide +kernel
theorem dX1_seats_248 : decode cX1_seats 248 = .ok (.lmul, 1) := by decide +kernel
theorem dX1_seats_249 : decode cX1_seats 249 = .ok (.lconst 1, 1) := by decide +kernel
theorem dX1_seats_250 : decode cX1_seats 250 = .ok (.ladd, 1) := by decide +kernel
theorem dX1_seats_251 : decode cX1_seats 251 = .ok (.lstore 11, 2) := by decide +kernel
theorem dX1_seats_253 : decode cX1_seats 253 = .ok (.iload_n 3, 1) := by decide +kernel
theorem dX1_seats_254 : decode cX1_seats 254 = .ok (.ifCond .ne 29, 3) := by decide +kernel
theorem dX1_seats_257 : decode cX1_seats 257 = .ok (.aload_n 0, 1) := by decide +kernel
theorem dX1_seats_258 : decode cX1_seats 258 = .ok (.getfield 30, 3) := by decide +kernel
theorem dX1_seats_261 : decode cX1_seats 261 = .ok (.iload 8, 2) := by decide +kernel
theorem dX1_seats_263 : decode cX1_seats 263 = .ok (.laload, 1) := by decide +kernel
theorem dX1_seats_264 : decode cX1_seats 264 = .ok (.aload_n 0, 1) := by decide +kernel
theorem dX1_seats_265 : decode cX1_seats 265 = .ok (.getfield 30, 3) := by decide +kernel
theorem dX1_seats_268 : decode cX1_seats 268 = .ok (.iload 7, 2) := by decide +kernel
theorem dX1_seats_270 : decode cX1_seats 270 = .ok (.laload, 1) := by decide +kernel
theorem dX1_seats_271 : decode cX1_seats 271 = .ok (.lcmp, 1) := by decide +kernel
theorem dX1_seats_272 : decode cX1_seats 272 = .ok (.ifCond .le 7, 3) := by decide +kernel
theorem dX1_seats_275 : decode cX1_seats 275 = .ok (.iconst 1, 1) := by decide +kernel
theorem dX1_seats_276 : decode cX1_seats 276 = .ok (.goto 46, 3) := by decide +kernel
theorem dX1_seats_279 : decode cX1_seats 279 = .ok (.iconst 0, 1) := by decide +kernel
theorem dX1_seats_280 : decode cX1_seats 280 = .ok (.goto 42, 3) := by decide +kernel
theorem dX1_seats_283 : decode cX1_seats 283 = .ok (.aload_n 0, 1) := by decide +kernel
theorem dX1_seats_284 : decode cX1_seats 284 = .ok (.getfield 16, 3) := by decide +kernel
theorem dX1_seats_287 : decode cX1_seats 287 = .ok (.bipush 8, 2) := by decide +kernel
theorem dX1_seats_289 : decode cX1_seats 289 = .ok (.iload_n 1, 1) := by decide +kernel
theorem dX1_seats_290 : decode cX1_seats 290 = .ok (.imul, 1) := by decide +kernel
theorem dX1_seats_291 : decode cX1_seats 291 = .ok (.iload 8, 2) := by decide +kernel
theorem dX1_seats_293 : decode cX1_seats 293 = .ok (.iadd, 1) := by decide +kernel
theorem dX1_seats_294 : decode cX1_seats 294 = .ok (.laload, 1) := by decide +kernel
theorem dX1_seats_295 : decode cX1_seats 295 = .ok (.lload 11, 2) := by decide +kernel
theorem dX1_seats_297 : decode cX1_seats 297 = .ok (.lmul, 1) := by decide +kernel
theorem dX1_seats_298 : decode cX1_seats 298 = .ok (.aload_n 0, 1) := by decide +kernel
theorem dX1_seats_299 : decode cX1_seats 299 = .ok (.getfield 16, 3) := by decide +kernel
theorem dX1_seats_302 : decode cX1_seats 302 = .ok (.bipush 8, 2) := by decide +kernel
theorem dX1_seats_304 : decode cX1_seats 304 = .ok (.iload_n 1, 1) := by decide +kernel
theorem dX1_seats_305 : decode cX1_seats 305 = .ok (.imul, 1) := by decide +kernel
theorem dX1_seats_306 : decode cX1_seats 306 = .ok (.iload 7, 2) := by decide +kernel
theorem dX1_seats_308 : decode cX1_seats 308 = .ok (.iadd, 1) := by decide +kernel
theorem dX1_seats_309 : decode cX1_seats 309 = .ok (.laload, 1) := by decide +kernel
theorem dX1_seats_310 : decode cX1_seats 310 = .ok (.lload 9, 2) := by decide +kernel
theorem dX1_seats_312 : decode cX1_seats 312 = .ok (.lmul, 1) := by decide +kernel
theorem dX1_seats_313 : decode cX1_seats 313 = .ok (.lcmp, 1) := by decide +kernel
theorem dX1_seats_314 : decode cX1_seats 314 = .ok (.ifCond .le 7, 3) := by decide +kernel
theorem dX1_seats_317 : decode cX1_seats 317 = .ok (.iconst 1, 1) := by decide +kernel
theorem dX1_seats_318 : decode cX1_seats 318 = .ok (.goto 4, 3) := by decide +kernel
theorem dX1_seats_321 : decode cX1_seats 321 = .ok (.iconst 0, 1) := by decide +kernel
theorem dX1_seats_322 : decode cX1_seats 322 = .ok (.istore 13, 2) := by decide +kernel
theorem dX1_seats_324 : decode cX1_seats 324 = .ok (.iload 13, 2) := by decide +kernel
theorem dX1_seats_326 : decode cX1_seats 326 = .ok (.ifCond .eq 8, 3) := by decide +kernel
theorem dX1_seats_329 : decode cX1_seats 329 = .ok (.iload 8, 2) := by decide +kernel
theorem dX1_seats_331 : decode cX1_seats 331 = .ok (.goto 5, 3) := by decide +kernel
theorem dX1_seats_334 : decode cX1_seats 334 = .ok (.iload 7, 2) := by decide +kernel
theorem dX1_seats_336 : decode cX1_seats 336 = .ok (.istore 7, 2) := by decide +kernel
theorem dX1_seats_338 : decode cX1_seats 338 = .ok (.iinc 8 1, 3) := by decide +kernel
theorem dX1_seats_341 : decode cX1_seats 341 = .ok (.goto (-165), 3) := by decide +kernel
theorem dX1_seats_344 : decode cX1_seats 344 = .ok (.aload_n 0, 1) := by decide +kernel
theorem dX1_seats_345 : decode cX1_seats 345 = .ok (.getfield 27, 3) := by decide +kernel
theorem dX1_seats_348 : decode cX1_seats 348 = .ok (.iload 7, 2) := by decide +kernel
theorem dX1_seats_350 : decode cX1_seats 350 = .ok (.dup2, 1) := by decide +kernel
theorem dX1_seats_351 : decode cX1_seats 351 = .ok (.iaload, 1) := by decide +kernel
theorem dX1_seats_352 : decode cX1_seats 352 = .ok (.iconst 1, 1) := by decide +kernel
theorem dX1_seats_353 : decode cX1_seats 353 = .ok (.iadd, 1) := by decide +kernel
theorem dX1_seats_354 : decode cX1_seats 354 = .ok (.iastore, 1) := by decide +kernel
theorem dX1_seats_355 : decode cX1_seats 355 = .ok (.aload_n 0, 1) := by decide +kernel
theorem dX1_seats_356 : decode cX1_seats 356 = .ok (.getfield 30, 3) := by decide +kernel
theorem dX1_seats_359 : decode cX1_seats 359 = .ok (.iload 7, 2) := by decide +kernel
theorem dX1_seats_361 : decode cX1_seats 361 = .ok (.ldc2_w 67, 3) := by decide +kernel
theorem dX1_seats_364 : decode cX1_seats 364 = .ok (.lastore, 1) := by decide +kernel
theorem dX1_seats_365 : decode cX1_seats 365 = .ok (.iinc 6 (-1), 3) := by decide +kernel
theorem dX1_seats_368 : decode cX1_seats 368 = .ok (.goto (-203), 3) := by decide +kernel
theorem dX1_seats_371 : decode cX1_seats 371 = .ok (.iconst 0, 1) := by decide +kernel
theorem dX1_seats_372 : decode cX1_seats 372 = .ok (.istore 7, 2) := by decide +kernel
theorem dX1_seats_374 : decode cX1_seats 374 = .ok (.iconst 0, 1) := by decide +kernel
theorem dX1_seats_375 : decode cX1_seats 375 = .ok (.istore 8, 2) := by decide +kernel
theorem dX1_seats_377 : decode cX1_seats 377 = .ok (.iload 8, 2) := by decide +kernel
theorem dX1_seats_379 : decode cX1_seats 379 = .ok (.aload_n 0, 1) := by decide +kernel
theorem dX1_seats_380 : decode cX1_seats 380 = .ok (.getfield 23, 3) := by decide +kernel
theorem dX1_seats_383 : decode cX1_seats 383 = .ok (.if_icmp .ge 29, 3) := by decide +kernel
theorem dX1_seats_386 : decode cX1_seats 386 = .ok (.iload 7, 2) := by decide +kernel
theorem dX1_seats_388 : decode cX1_seats 388 = .ok (.aload_n 0, 1) := by decide +kernel
theorem dX1_seats_389 : decode cX1_seats 389 = .ok (.getfield 27, 3) := by decide +kernel
theorem dX1_seats_392 : decode cX1_seats 392 = .ok (.iload 8, 2) := by decide +kernel
theorem dX1_seats_394 : decode cX1_seats 394 = .ok (.iaload, 1) := by decide +kernel
theorem dX1_seats_395 : decode cX1_seats 395 = .ok (.ifCond .le 7, 3) := by decide +kernel
theorem dX1_seats_398 : decode cX1_seats 398 = .ok (.iconst 1, 1) := by decide +kernel
theorem dX1_seats_399 : decode cX1_seats 399 = .ok (.goto 4, 3) := by decide +kernel
theorem dX1_seats_402 : decode cX1_seats 402 = .ok (.iconst 0, 1) := by decide +kernel
theorem dX1_seats_403 : decode cX1_seats 403 = .ok (.iadd, 1) := by decide +kernel
theorem dX1_seats_404 : decode cX1_seats 404 = .ok (.istore 7, 2) := by decide +kernel
theorem dX1_seats_406 : decode cX1_seats 406 = .ok (.iinc 8 1, 3) := by decide +kernel
theorem dX1_seats_409 : decode cX1_seats 409 = .ok (.goto (-32), 3) := by decide +kernel
theorem dX1_seats_412 : decode cX1_seats 412 = .ok (.iload 7, 2) := by decide +kernel
theorem dX1_seats_414 : decode cX1_seats 414 = .ok (.ireturn, 1) := by decide +kernel
set_option maxRecDepth 20000 in
theorem ggX1_given_X1_isIn : GoodIn wsX1_given wsX1_isIn := goodIn_r _ [7] (by decide +kernel) (by decide +kernel)
set_option maxRecDepth 20000 in
theorem gX1_given_X1_isIn : GoodIn wsX1_given (va_wsS RX1 59 yX1_isIn wsX1_isIn) := goodIn_app (goodIn_of _ (by decide +kernel)) ggX1_given_X1_isIn
theorem dX1_given_0 : decode cX1_given 0 = .ok (.aload_n 0, 1) := by decide +kernel
theorem dX1_given_1 : decode cX1_given 1 = .ok (.iconst 0, 1) := by decide +kernel
theorem dX1_given_2 : decode cX1_given 2 = .ok (.putfield 43, 3) := by decide +kernel
theorem dX1_given_5 : decode cX1_given 5 = .ok (.iload_n 1, 1) := by decide +kernel
theorem dX1_given_6 : decode cX1_given 6 = .ok (.i2l, 1) := by decide +kernel
theorem dX1_given_7 : decode cX1_given 7 = .ok (.lconst 0, 1) := by decide +kernel
theorem dX1_given_8 : decode cX1_given 8 = .ok (.aload_n 0, 1) := by decide +kernel
theorem dX1_given_9 : decode cX1_given 9 = .ok (.getfield 23, 3) := by decide +kernel
theorem dX1_given_12 : decode cX1_given 12 = .ok (.iconst 1, 1) := by decide +kernel
theorem dX1_given_13 : decode cX1_given 13 = .ok (.isub, 1) := by decide +kernel
theorem dX1_given_14 : decode cX1_given 14 = .ok (.i2l, 1) := by decide +kernel
theorem dX1_given_15 : decode cX1_given 15 = .ok (.invokestatic 59, 3) := by decide +kernel
theorem dX1_given_18 : decode cX1_given 18 = .ok (.ifCond .eq 12, 3) := by decide +kernel
theorem dX1_given_21 : decode cX1_given 21 = .ok (.aload_n 0, 1) := by decide +kernel
theorem dX1_given_22 : decode cX1_given 22 = .ok (.getfield 27, 3) := by decide +kernel
theorem dX1_given_25 : decode cX1_given 25 = .ok (.iload_n 1, 1) := by decide +kernel
theorem dX1_given_26 : decode cX1_given 26 = .ok (.iaload, 1) := by decide +kernel
theorem dX1_given_27 : decode cX1_given 27 = .ok (.goto 5, 3) := by decide +kernel
theorem dX1_given_30 : decode cX1_given 30 = .ok (.bipush (-5), 2) := by decide +kernel
theorem dX1_given_32 : decode cX1_given 32 = .ok (.ireturn, 1) := by decide +kernel
set_option maxRecDepth 20000 in
theorem ggX1_choose_X1_divisor : GoodIn wsX1_choose wsX1_divisor := goodIn_r _ [4, 5, 6, 3, 7] (by decide +kernel) (by decide +kernel)
set_option maxRecDepth 20000 in
theorem gX1_choose_X1_divisor : GoodIn wsX1_choose (va_wsS RX1 63 yX1_divisor wsX1_divisor) := goodIn_app (goodIn_of _ (by decide +kernel)) ggX1_choose_X1_divisor
theorem dX1_choose_0 : decode cX1_choose 0 = .ok (.iload_n 1, 1) := by decide +kernel
theorem dX1_choose_1 : decode cX1_choose 1 = .ok (.ifCond .lt 8, 3) := by decide +kernel
theorem dX1_choose_4 : decode cX1_choose 4 = .ok (.iload_n 1, 1) := by decide +kernel
theorem dX1_choose_5 : decode cX1_choose 5 = .ok (.iload_n 0, 1) := by decide +kernel
theorem dX1_choose_6 : decode cX1_choose 6 = .ok (.if_icmp .le 5, 3) := by decide +kernel
theorem dX1_choose_9 : decode cX1_choose 9 = .ok (.lconst 0, 1) := by decide +kernel
theorem dX1_choose_10 : decode cX1_choose 10 = .ok (.lreturn, 1) := by decide +kernel
theorem dX1_choose_11 : decode cX1_choose 11 = .ok (.lconst 1, 1) := by decide +kernel
theorem dX1_choose_12 : decode cX1_choose 12 = .ok (.lstore_n 2, 1) := by decide +kernel
theorem dX1_choose_13 : decode cX1_choose 13 = .ok (.iconst 1, 1) := by decide +kernel
theorem dX1_choose_14 : decode cX1_choose 14 = .ok (.istore 4, 2) := by decide +kernel
theorem dX1_choose_16 : decode cX1_choose 16 = .ok (.iload 4, 2) := by decide +kernel
theorem dX1_choose_18 : decode cX1_choose 18 = .ok (.iload_n 1, 1) := by decide +kernel
theorem dX1_choose_19 : decode cX1_choose 19 = .ok (.if_icmp .gt 42, 3) := by decide +kernel
theorem dX1_choose_22 : decode cX1_choose 22 = .ok (.iload_n 0, 1) := by decide +kernel
theorem dX1_choose_23 : decode cX1_choose 23 = .ok (.iload_n 1, 1) := by decide +kernel
theorem dX1_choose_24 : decode cX1_choose 24 = .ok (.isub, 1) := by decide +kernel
theorem dX1_choose_25 : decode cX1_choose 25 = .ok (.iload 4, 2) := by decide +kernel
theorem dX1_choose_27 : decode cX1_choose 27 = .ok (.iadd, 1) := by decide +kernel
theorem dX1_choose_28 : decode cX1_choose 28 = .ok (.i2l, 1) := by decide +kernel
theorem dX1_choose_29 : decode cX1_choose 29 = .ok (.lstore 5, 2) := by decide +kernel
theorem dX1_choose_31 : decode cX1_choose 31 = .ok (.lload_n 2, 1) := by decide +kernel
theorem dX1_choose_32 : decode cX1_choose 32 = .ok (.iload 4, 2) := by decide +kernel
theorem dX1_choose_34 : decode cX1_choose 34 = .ok (.i2l, 1) := by decide +kernel
theorem dX1_choose_35 : decode cX1_choose 35 = .ok (.invokestatic 63, 3) := by decide +kernel
theorem dX1_choose_38 : decode cX1_choose 38 = .ok (.lstore 7, 2) := by decide +kernel
theorem dX1_choose_40 : decode cX1_choose 40 = .ok (.lload_n 2, 1) := by decide +kernel
theorem dX1_choose_41 : decode cX1_choose 41 = .ok (.lload 7, 2) := by decide +kernel
theorem dX1_choose_43 : decode cX1_choose 43 = .ok (.ldiv, 1) := by decide +kernel
theorem dX1_choose_44 : decode cX1_choose 44 = .ok (.lload 5, 2) := by decide +kernel
theorem dX1_choose_46 : decode cX1_choose 46 = .ok (.iload 4, 2) := by decide +kernel
theorem dX1_choose_48 : decode cX1_choose 48 = .ok (.i2l, 1) := by decide +kernel
theorem dX1_choose_49 : decode cX1_choose 49 = .ok (.lload 7, 2) := by decide +kernel
theorem dX1_choose_51 : decode cX1_choose 51 = .ok (.ldiv, 1) := by decide +kernel
theorem dX1_choose_52 : decode cX1_choose 52 = .ok (.ldiv, 1) := by decide +kernel
theorem dX1_choose_53 : decode cX1_choose 53 = .ok (.lmul, 1) := by decide +kernel
theorem dX1_choose_54 : decode cX1_choose 54 = .ok (.lstore_n 2, 1) := by decide +kernel
theorem dX1_choose_55 : decode cX1_choose 55 = .ok (.iinc 4 1, 3) := by decide +kernel
theorem dX1_choose_58 : decode cX1_choose 58 = .ok (.goto (-42), 3) := by decide +kernel
theorem dX1_choose_61 : decode cX1_choose 61 = .ok (.lload_n 2, 1) := by decide +kernel
theorem dX1_choose_62 : decode cX1_choose 62 = .ok (.lreturn, 1) := by decide +kernel
set_option maxRecDepth 20000 in
theorem ggX1_power_X1_times : GoodIn wsX1_power wsX1_times := goodIn_r _ [5, 6, 7, 8, 9, 4, 10, 11, 12, 13, 14, 15, 16, 17, 18, 19, 20, 21, 22, 23, 24, 25, 26, 27] (by decide +kernel) (by decide +kernel)
set_option maxRecDepth 20000 in
theorem gX1_power_X1_times : GoodIn wsX1_power (wsV RX1 75 RX1 yX1_times wsX1_times) := goodIn_app (goodIn_of _ (by decide +kernel)) ggX1_power_X1_times
theorem dX1_power_0 : decode cX1_power 0 = .ok (.lconst 1, 1) := by decide +kernel
theorem dX1_power_1 : decode cX1_power 1 = .ok (.lstore 4, 2) := by decide +kernel
theorem dX1_power_3 : decode cX1_power 3 = .ok (.iconst 0, 1) := by decide +kernel
theorem dX1_power_4 : decode cX1_power 4 = .ok (.istore 6, 2) := by decide +kernel
theorem dX1_power_6 : decode cX1_power 6 = .ok (.iload 6, 2) := by decide +kernel
theorem dX1_power_8 : decode cX1_power 8 = .ok (.iload_n 3, 1) := by decide +kernel
theorem dX1_power_9 : decode cX1_power 9 = .ok (.if_icmp .ge 18, 3) := by decide +kernel
theorem dX1_power_12 : decode cX1_power 12 = .ok (.aload_n 0, 1) := by decide +kernel
theorem dX1_power_13 : decode cX1_power 13 = .ok (.lload 4, 2) := by decide +kernel
theorem dX1_power_15 : decode cX1_power 15 = .ok (.lload_n 1, 1) := by decide +kernel
theorem dX1_power_16 : decode cX1_power 16 = .ok (.invokevirtual 75, 3) := by decide +kernel
theorem dX1_power_19 : decode cX1_power 19 = .ok (.lstore 4, 2) := by decide +kernel
theorem dX1_power_21 : decode cX1_power 21 = .ok (.iinc 6 1, 3) := by decide +kernel
theorem dX1_power_24 : decode cX1_power 24 = .ok (.goto (-18), 3) := by decide +kernel
theorem dX1_power_27 : decode cX1_power 27 = .ok (.lload 4, 2) := by decide +kernel
theorem dX1_power_29 : decode cX1_power 29 = .ok (.lreturn, 1) := by decide +kernel
set_option maxRecDepth 20000 in
theorem ggX1_tail_X1_isIn : GoodIn wsX1_tail wsX1_isIn := goodIn_r _ [10] (by decide +kernel) (by decide +kernel)
set_option maxRecDepth 20000 in
theorem gX1_tail_X1_isIn : GoodIn wsX1_tail (va_wsS RX1 59 yX1_isIn wsX1_isIn) := goodIn_app (goodIn_of _ (by decide +kernel)) ggX1_tail_X1_isIn
set_option maxRecDepth 20000 in
theorem ggX1_tail_X1_isNumber : GoodIn wsX1_tail wsX1_isNumber := goodIn_r _ [14, 5, 7, 8, 9, 10, 38, 39, 40, 41, 42, 43, 44, 45, 46, 47, 48, 49, 50, 51, 52, 53, 54] (by decide +kernel) (by decide +kernel)
set_option maxRecDepth 20000 in
theorem gX1_tail_X1_isNumber : GoodIn wsX1_tail (wsV RX1 94 RX1 yX1_isNumber wsX1_isNumber) := goodIn_app (goodIn_of _ (by decide +kernel)) ggX1_tail_X1_isNumber
set_option maxRecDepth 20000 in
theorem ggX1_tail_X1_power : GoodIn wsX1_tail wsX1_power := goodIn_r _ [18, 19, 20, 21, 9, 22, 23, 6, 24, 25, 26, 38, 39, 40, 41, 42, 43, 44, 45, 46, 47, 48, 49, 50, 51, 52, 53, 54] (by decide +kernel) (by decide +kernel)
set_option maxRecDepth 20000 in
theorem gX1_tail_X1_power : GoodIn wsX1_tail (wsV RX1 137 RX1 yX1_power wsX1_power) := goodIn_app (goodIn_of _ (by decide +kernel)) ggX1_tail_X1_power
set_option maxRecDepth 20000 in
theorem ggX1_tail_X1_choose : GoodIn wsX1_tail wsX1_choose := goodIn_r _ [29, 30, 31, 9, 32, 24, 25, 26] (by decide +kernel) (by decide +kernel)
set_option maxRecDepth 20000 in
theorem gX1_tail_X1_choose : GoodIn wsX1_tail (va_wsS RX1 141 yX1_choose wsX1_choose) := goodIn_app (goodIn_of _ (by decide +kernel)) ggX1_tail_X1_choose
set_option maxRecDepth 20000 in
theorem ggX1_tail_X1_kept : GoodIn wsX1_tail wsX1_kept := goodIn_r _ [36, 37, 3, 5, 4, 30, 31, 9, 32, 24, 25, 26, 38, 39, 40, 41, 42, 43, 44, 45, 46, 47, 48, 49, 50, 51, 52, 53, 54] (by decide +kernel) (by decide +kernel)
set_option maxRecDepth 20000 in
theorem gX1_tail_X1_kept : GoodIn wsX1_tail (wsV RX1 71 RX1 yX1_kept wsX1_kept) := goodIn_app (goodIn_of _ (by decide +kernel)) ggX1_tail_X1_kept
theorem dX1_tail_0 : decode cX1_tail 0 = .ok (.aload_n 0, 1) := by decide +kernel
theorem dX1_tail_1 : decode cX1_tail 1 = .ok (.iconst 0, 1) := by decide +kernel
theorem dX1_tail_2 : decode cX1_tail 2 = .ok (.putfield 43, 3) := by decide +kernel
theorem dX1_tail_5 : decode cX1_tail 5 = .ok (.iload_n 1, 1) := by decide +kernel
theorem dX1_tail_6 : decode cX1_tail 6 = .ok (.i2l, 1) := by decide +kernel
theorem dX1_tail_7 : decode cX1_tail 7 = .ok (.lconst 0, 1) := by decide +kernel
theorem dX1_tail_8 : decode cX1_tail 8 = .ok (.ldc2_w 135, 3) := by decide +kernel
theorem dX1_tail_11 : decode cX1_tail 11 = .ok (.invokestatic 59, 3) := by decide +kernel
theorem dX1_tail_14 : decode cX1_tail 14 = .ok (.ifCond .eq 11, 3) := by decide +kernel
theorem dX1_tail_17 : decode cX1_tail 17 = .ok (.aload_n 0, 1) := by decide +kernel
theorem dX1_tail_18 : decode cX1_tail 18 = .ok (.iload_n 3, 1) := by decide +kernel
theorem dX1_tail_19 : decode cX1_tail 19 = .ok (.invokevirtual 94, 3) := by decide +kernel
theorem dX1_tail_22 : decode cX1_tail 22 = .ok (.ifCond .ne 5, 3) := by decide +kernel
theorem dX1_tail_25 : decode cX1_tail 25 = .ok (.iconst (-1), 1) := by decide +kernel
theorem dX1_tail_26 : decode cX1_tail 26 = .ok (.ireturn, 1) := by decide +kernel
theorem dX1_tail_27 : decode cX1_tail 27 = .ok (.aload_n 0, 1) := by decide +kernel
theorem dX1_tail_28 : decode cX1_tail 28 = .ok (.getfield 7, 3) := by decide +kernel
theorem dX1_tail_31 : decode cX1_tail 31 = .ok (.iload_n 3, 1) := by decide +kernel
theorem dX1_tail_32 : decode cX1_tail 32 = .ok (.laload, 1) := by decide +kernel
theorem dX1_tail_33 : decode cX1_tail 33 = .ok (.lconst 0, 1) := by decide +kernel
theorem dX1_tail_34 : decode cX1_tail 34 = .ok (.lcmp, 1) := by decide +kernel
theorem dX1_tail_35 : decode cX1_tail 35 = .ok (.ifCond .lt 19, 3) := by decide +kernel
theorem dX1_tail_38 : decode cX1_tail 38 = .ok (.aload_n 0, 1) := by decide +kernel
theorem dX1_tail_39 : decode cX1_tail 39 = .ok (.getfield 7, 3) := by decide +kernel
theorem dX1_tail_42 : decode cX1_tail 42 = .ok (.iload_n 3, 1) := by decide +kernel
theorem dX1_tail_43 : decode cX1_tail 43 = .ok (.laload, 1) := by decide +kernel
theorem dX1_tail_44 : decode cX1_tail 44 = .ok (.aload_n 0, 1) := by decide +kernel
theorem dX1_tail_45 : decode cX1_tail 45 = .ok (.getfield 13, 3) := by decide +kernel
theorem dX1_tail_48 : decode cX1_tail 48 = .ok (.iload_n 3, 1) := by decide +kernel
theorem dX1_tail_49 : decode cX1_tail 49 = .ok (.laload, 1) := by decide +kernel
theorem dX1_tail_50 : decode cX1_tail 50 = .ok (.lcmp, 1) := by decide +kernel
theorem dX1_tail_51 : decode cX1_tail 51 = .ok (.ifCond .le 6, 3) := by decide +kernel
theorem dX1_tail_54 : decode cX1_tail 54 = .ok (.bipush (-5), 2) := by decide +kernel
theorem dX1_tail_56 : decode cX1_tail 56 = .ok (.ireturn, 1) := by decide +kernel
theorem dX1_tail_57 : decode cX1_tail 57 = .ok (.aload_n 0, 1) := by decide +kernel
theorem dX1_tail_58 : decode cX1_tail 58 = .ok (.getfield 56, 3) := by decide +kernel
theorem dX1_tail_61 : decode cX1_tail 61 = .ok (.bipush 40, 2) := by decide +kernel
theorem dX1_tail_63 : decode cX1_tail 63 = .ok (.if_icmp .ne 6, 3) := by decide +kernel
theorem dX1_tail_66 : decode cX1_tail 66 = .ok (.bipush (-4), 2) := by decide +kernel
theorem dX1_tail_68 : decode cX1_tail 68 = .ok (.ireturn, 1) := by decide +kernel
theorem dX1_tail_69 : decode cX1_tail 69 = .ok (.aload_n 0, 1) := by decide +kernel
theorem dX1_tail_70 : decode cX1_tail 70 = .ok (.iconst 0, 1) := by decide +kernel
theorem dX1_tail_71 : decode cX1_tail 71 = .ok (.putfield 39, 3) := by decide +kernel
theorem dX1_tail_74 : decode cX1_tail 74 = .ok (.aload_n 0, 1) := by decide +kernel
theorem dX1_tail_75 : decode cX1_tail 75 = .ok (.aload_n 0, 1) := by decide +kernel
theorem dX1_tail_76 : decode cX1_tail 76 = .ok (.getfield 13, 3) := by decide +kernel
theorem dX1_tail_79 : decode cX1_tail 79 = .ok (.iload_n 3, 1) := by decide +kernel
theorem dX1_tail_80 : decode cX1_tail 80 = .ok (.laload, 1) := by decide +kernel
theorem dX1_tail_81 : decode cX1_tail 81 = .ok (.iload_n 1, 1) := by decide +kernel
theorem dX1_tail_82 : decode cX1_tail 82 = .ok (.invokevirtual 137, 3) := by decide +kernel
theorem dX1_tail_85 : decode cX1_tail 85 = .ok (.lstore 4, 2) := by decide +kernel
theorem dX1_tail_87 : decode cX1_tail 87 = .ok (.aload_n 0, 1) := by decide +kernel
theorem dX1_tail_88 : decode cX1_tail 88 = .ok (.getfield 39, 3) := by decide +kernel
theorem dX1_tail_91 : decode cX1_tail 91 = .ok (.ifCond .eq 6, 3) := by decide +kernel
theorem dX1_tail_94 : decode cX1_tail 94 = .ok (.bipush (-3), 2) := by decide +kernel
theorem dX1_tail_96 : decode cX1_tail 96 = .ok (.ireturn, 1) := by decide +kernel
theorem dX1_tail_97 : decode cX1_tail 97 = .ok (.lconst 0, 1) := by decide +kernel
theorem dX1_tail_98 : decode cX1_tail 98 = .ok (.lstore 6, 2) := by decide +kernel
theorem dX1_tail_100 : decode cX1_tail 100 = .ok (.iload_n 2, 1) := by decide +kernel
theorem dX1_tail_101 : decode cX1_tail 101 = .ok (.ifCond .ge 7, 3) := by decide +kernel
theorem dX1_tail_104 : decode cX1_tail 104 = .ok (.iconst 0, 1) := by decide +kernel
theorem dX1_tail_105 : decode cX1_tail 105 = .ok (.goto 4, 3) := by decide +kernel
theorem dX1_tail_108 : decode cX1_tail 108 = .ok (.iload_n 2, 1) := by decide +kernel
theorem dX1_tail_109 : decode cX1_tail 109 = .ok (.istore 8, 2) := by decide +kernel
theorem dX1_tail_111 : decode cX1_tail 111 = .ok (.iload 8, 2) := by decide +kernel
theorem dX1_tail_113 : decode cX1_tail 113 = .ok (.iload_n 1, 1) := by decide +kernel
theorem dX1_tail_114 : decode cX1_tail 114 = .ok (.if_icmp .gt 55, 3) := by decide +kernel
theorem dX1_tail_117 : decode cX1_tail 117 = .ok (.lload 6, 2) := by decide +kernel
theorem dX1_tail_119 : decode cX1_tail 119 = .ok (.iload_n 1, 1) := by decide +kernel
theorem dX1_tail_120 : decode cX1_tail 120 = .ok (.iload 8, 2) := by decide +kernel
theorem dX1_tail_122 : decode cX1_tail 122 = .ok (.invokestatic 141, 3) := by decide +kernel
theorem dX1_tail_125 : decode cX1_tail 125 = .ok (.aload_n 0, 1) := by decide +kernel
theorem dX1_tail_126 : decode cX1_tail 126 = .ok (.aload_n 0, 1) := by decide +kernel
theorem dX1_tail_127 : decode cX1_tail 127 = .ok (.getfield 7, 3) := by decide +kernel
theorem dX1_tail_130 : decode cX1_tail 130 = .ok (.iload_n 3, 1) := by decide +kernel
theorem dX1_tail_131 : decode cX1_tail 131 = .ok (.laload, 1) := by decide +kernel
theorem dX1_tail_132 : decode cX1_tail 132 = .ok (.iload 8, 2) := by decide +kernel
theorem dX1_tail_134 : decode cX1_tail 134 = .ok (.invokevirtual 137, 3) := by decide +kernel
theorem dX1_tail_137 : decode cX1_tail 137 = .ok (.lmul, 1) := by decide +kernel
theorem dX1_tail_138 : decode cX1_tail 138 = .ok (.aload_n 0, 1) := by decide +kernel
theorem dX1_tail_139 : decode cX1_tail 139 = .ok (.aload_n 0, 1) := by decide +kernel
theorem dX1_tail_140 : decode cX1_tail 140 = .ok (.getfield 13, 3) := by decide +kernel
theorem dX1_tail_143 : decode cX1_tail 143 = .ok (.iload_n 3, 1) := by decide +kernel
theorem dX1_tail_144 : decode cX1_tail 144 = .ok (.laload, 1) := by decide +kernel
theorem dX1_tail_145 : decode cX1_tail 145 = .ok (.aload_n 0, 1) := by decide +kernel
theorem dX1_tail_146 : decode cX1_tail 146 = .ok (.getfield 7, 3) := by decide +kernel
theorem dX1_tail_149 : decode cX1_tail 149 = .ok (.iload_n 3, 1) := by decide +kernel
theorem dX1_tail_150 : decode cX1_tail 150 = .ok (.laload, 1) := by decide +kernel
theorem dX1_tail_151 : decode cX1_tail 151 = .ok (.lsub, 1) := by decide +kernel
theorem dX1_tail_152 : decode cX1_tail 152 = .ok (.iload_n 1, 1) := by decide +kernel
theorem dX1_tail_153 : decode cX1_tail 153 = .ok (.iload 8, 2) := by decide +kernel
theorem dX1_tail_155 : decode cX1_tail 155 = .ok (.isub, 1) := by decide +kernel
theorem dX1_tail_156 : decode cX1_tail 156 = .ok (.invokevirtual 137, 3) := by decide +kernel
theorem dX1_tail_159 : decode cX1_tail 159 = .ok (.lmul, 1) := by decide +kernel
theorem dX1_tail_160 : decode cX1_tail 160 = .ok (.ladd, 1) := by decide +kernel
theorem dX1_tail_161 : decode cX1_tail 161 = .ok (.lstore 6, 2) := by decide +kernel
theorem dX1_tail_163 : decode cX1_tail 163 = .ok (.iinc 8 1, 3) := by decide +kernel
theorem dX1_tail_166 : decode cX1_tail 166 = .ok (.goto (-55), 3) := by decide +kernel
theorem dX1_tail_169 : decode cX1_tail 169 = .ok (.aload_n 0, 1) := by decide +kernel
theorem dX1_tail_170 : decode cX1_tail 170 = .ok (.lload 6, 2) := by decide +kernel
theorem dX1_tail_172 : decode cX1_tail 172 = .ok (.lload 4, 2) := by decide +kernel
theorem dX1_tail_174 : decode cX1_tail 174 = .ok (.invokevirtual 71, 3) := by decide +kernel
theorem dX1_tail_177 : decode cX1_tail 177 = .ok (.ireturn, 1) := by decide +kernel
set_option maxRecDepth 20000 in
theorem ggX1_urn_X1_isIn : GoodIn wsX1_urn wsX1_isIn := goodIn_r _ [7] (by decide +kernel) (by decide +kernel)
set_option maxRecDepth 20000 in
theorem gX1_urn_X1_isIn : GoodIn wsX1_urn (va_wsS RX1 59 yX1_isIn wsX1_isIn) := goodIn_app (goodIn_of _ (by decide +kernel)) ggX1_urn_X1_isIn
set_option maxRecDepth 20000 in
theorem ggX1_urn_X1_choose : GoodIn wsX1_urn wsX1_choose := goodIn_r _ [10, 11, 12, 6, 13, 14, 15, 16] (by decide +kernel) (by decide +kernel)
set_option maxRecDepth 20000 in
theorem gX1_urn_X1_choose : GoodIn wsX1_urn (va_wsS RX1 141 yX1_choose wsX1_choose) := goodIn_app (goodIn_of _ (by decide +kernel)) ggX1_urn_X1_choose
set_option maxRecDepth 20000 in
theorem ggX1_urn_X1_kept : GoodIn wsX1_urn wsX1_kept := goodIn_r _ [20, 21, 22, 3, 23, 11, 12, 6, 13, 14, 15, 16, 24, 25, 26, 27, 28, 29, 30, 31, 32, 33, 34, 35, 36, 37, 38, 39, 40] (by decide +kernel) (by decide +kernel)
set_option maxRecDepth 20000 in
theorem gX1_urn_X1_kept : GoodIn wsX1_urn (wsV RX1 71 RX1 yX1_kept wsX1_kept) := goodIn_app (goodIn_of _ (by decide +kernel)) ggX1_urn_X1_kept
theorem dX1_urn_0 : decode cX1_urn 0 = .ok (.aload_n 0, 1) := by decide +kernel
theorem dX1_urn_1 : decode cX1_urn 1 = .ok (.iconst 0, 1) := by decide +kernel
theorem dX1_urn_2 : decode cX1_urn 2 = .ok (.putfield 43, 3) := by decide +kernel
theorem dX1_urn_5 : decode cX1_urn 5 = .ok (.iload_n 1, 1) := by decide +kernel
theorem dX1_urn_6 : decode cX1_urn 6 = .ok (.i2l, 1) := by decide +kernel
theorem dX1_urn_7 : decode cX1_urn 7 = .ok (.lconst 0, 1) := by decide +kernel
theorem dX1_urn_8 : decode cX1_urn 8 = .ok (.ldc2_w 135, 3) := by decide +kernel
theorem dX1_urn_11 : decode cX1_urn 11 = .ok (.invokestatic 59, 3) := by decide +kernel
theorem dX1_urn_14 : decode cX1_urn 14 = .ok (.ifCond .eq 25, 3) := by decide +kernel
theorem dX1_urn_17 : decode cX1_urn 17 = .ok (.iload_n 2, 1) := by decide +kernel
theorem dX1_urn_18 : decode cX1_urn 18 = .ok (.i2l, 1) := by decide +kernel
theorem dX1_urn_19 : decode cX1_urn 19 = .ok (.lconst 0, 1) := by decide +kernel
theorem dX1_urn_20 : decode cX1_urn 20 = .ok (.iload_n 1, 1) := by decide +kernel
theorem dX1_urn_21 : decode cX1_urn 21 = .ok (.i2l, 1) := by decide +kernel
theorem dX1_urn_22 : decode cX1_urn 22 = .ok (.invokestatic 59, 3) := by decide +kernel
theorem dX1_urn_25 : decode cX1_urn 25 = .ok (.ifCond .eq 14, 3) := by decide +kernel
theorem dX1_urn_28 : decode cX1_urn 28 = .ok (.iload_n 3, 1) := by decide +kernel
theorem dX1_urn_29 : decode cX1_urn 29 = .ok (.i2l, 1) := by decide +kernel
theorem dX1_urn_30 : decode cX1_urn 30 = .ok (.lconst 0, 1) := by decide +kernel
theorem dX1_urn_31 : decode cX1_urn 31 = .ok (.iload_n 1, 1) := by decide +kernel
theorem dX1_urn_32 : decode cX1_urn 32 = .ok (.i2l, 1) := by decide +kernel
theorem dX1_urn_33 : decode cX1_urn 33 = .ok (.invokestatic 59, 3) := by decide +kernel
theorem dX1_urn_36 : decode cX1_urn 36 = .ok (.ifCond .ne 5, 3) := by decide +kernel
theorem dX1_urn_39 : decode cX1_urn 39 = .ok (.iconst (-1), 1) := by decide +kernel
theorem dX1_urn_40 : decode cX1_urn 40 = .ok (.ireturn, 1) := by decide +kernel
theorem dX1_urn_41 : decode cX1_urn 41 = .ok (.aload_n 0, 1) := by decide +kernel
theorem dX1_urn_42 : decode cX1_urn 42 = .ok (.getfield 56, 3) := by decide +kernel
theorem dX1_urn_45 : decode cX1_urn 45 = .ok (.bipush 40, 2) := by decide +kernel
theorem dX1_urn_47 : decode cX1_urn 47 = .ok (.if_icmp .ne 6, 3) := by decide +kernel
theorem dX1_urn_50 : decode cX1_urn 50 = .ok (.bipush (-4), 2) := by decide +kernel
theorem dX1_urn_52 : decode cX1_urn 52 = .ok (.ireturn, 1) := by decide +kernel
theorem dX1_urn_53 : decode cX1_urn 53 = .ok (.iload_n 2, 1) := by decide +kernel
theorem dX1_urn_54 : decode cX1_urn 54 = .ok (.iload 4, 2) := by decide +kernel
theorem dX1_urn_56 : decode cX1_urn 56 = .ok (.invokestatic 141, 3) := by decide +kernel
theorem dX1_urn_59 : decode cX1_urn 59 = .ok (.iload_n 1, 1) := by decide +kernel
theorem dX1_urn_60 : decode cX1_urn 60 = .ok (.iload_n 2, 1) := by decide +kernel
theorem dX1_urn_61 : decode cX1_urn 61 = .ok (.isub, 1) := by decide +kernel
theorem dX1_urn_62 : decode cX1_urn 62 = .ok (.iload 4, 2) := by decide +kernel
theorem dX1_urn_64 : decode cX1_urn 64 = .ok (.ifCond .ge 7, 3) := by decide +kernel
theorem dX1_urn_67 : decode cX1_urn 67 = .ok (.iconst (-1), 1) := by decide +kernel
theorem dX1_urn_68 : decode cX1_urn 68 = .ok (.goto 17, 3) := by decide +kernel
theorem dX1_urn_71 : decode cX1_urn 71 = .ok (.iload 4, 2) := by decide +kernel
theorem dX1_urn_73 : decode cX1_urn 73 = .ok (.iload_n 3, 1) := by decide +kernel
theorem dX1_urn_74 : decode cX1_urn 74 = .ok (.if_icmp .le 7, 3) := by decide +kernel
theorem dX1_urn_77 : decode cX1_urn 77 = .ok (.iconst (-1), 1) := by decide +kernel
theorem dX1_urn_78 : decode cX1_urn 78 = .ok (.goto 7, 3) := by decide +kernel
theorem dX1_urn_81 : decode cX1_urn 81 = .ok (.iload_n 3, 1) := by decide +kernel
theorem dX1_urn_82 : decode cX1_urn 82 = .ok (.iload 4, 2) := by decide +kernel
theorem dX1_urn_84 : decode cX1_urn 84 = .ok (.isub, 1) := by decide +kernel
theorem dX1_urn_85 : decode cX1_urn 85 = .ok (.invokestatic 141, 3) := by decide +kernel
theorem dX1_urn_88 : decode cX1_urn 88 = .ok (.lmul, 1) := by decide +kernel
theorem dX1_urn_89 : decode cX1_urn 89 = .ok (.lstore 5, 2) := by decide +kernel
theorem dX1_urn_91 : decode cX1_urn 91 = .ok (.aload_n 0, 1) := by decide +kernel
theorem dX1_urn_92 : decode cX1_urn 92 = .ok (.lload 5, 2) := by decide +kernel
theorem dX1_urn_94 : decode cX1_urn 94 = .ok (.iload_n 1, 1) := by decide +kernel
theorem dX1_urn_95 : decode cX1_urn 95 = .ok (.iload_n 3, 1) := by decide +kernel
theorem dX1_urn_96 : decode cX1_urn 96 = .ok (.invokestatic 141, 3) := by decide +kernel
theorem dX1_urn_99 : decode cX1_urn 99 = .ok (.invokevirtual 71, 3) := by decide +kernel
theorem dX1_urn_102 : decode cX1_urn 102 = .ok (.ireturn, 1) := by decide +kernel
set_option maxRecDepth 20000 in
theorem ggX1_test_X1_isRow : GoodIn wsX1_test wsX1_isRow := goodIn_r _ [12, 13, 14, 15, 11, 16] (by decide +kernel) (by decide +kernel)
set_option maxRecDepth 20000 in
theorem gX1_test_X1_isRow : GoodIn wsX1_test (va_wsS RX1 124 yX1_isRow wsX1_isRow) := goodIn_app (goodIn_of _ (by decide +kernel)) ggX1_test_X1_isRow
set_option maxRecDepth 20000 in
theorem ggX1_test_X1_sumOf : GoodIn wsX1_test wsX1_sumOf := goodIn_r _ [20, 2, 7, 34, 35, 36, 37, 38, 39, 40, 41, 42, 43, 44, 45, 46, 47, 48, 49, 50] (by decide +kernel) (by decide +kernel)
set_option maxRecDepth 20000 in
theorem gX1_test_X1_sumOf : GoodIn wsX1_test (wsV RX1 127 RX1 yX1_sumOf wsX1_sumOf) := goodIn_app (goodIn_of _ (by decide +kernel)) ggX1_test_X1_sumOf
set_option maxRecDepth 20000 in
theorem ggX1_test_X1_kept : GoodIn wsX1_test wsX1_kept := goodIn_r _ [24, 25, 26, 3, 27, 28, 29, 11, 30, 31, 32, 33, 34, 35, 36, 37, 38, 39, 40, 41, 42, 43, 44, 45, 46, 47, 48, 49, 50] (by decide +kernel) (by decide +kernel)
set_option maxRecDepth 20000 in
theorem gX1_test_X1_kept : GoodIn wsX1_test (wsV RX1 71 RX1 yX1_kept wsX1_kept) := goodIn_app (goodIn_of _ (by decide +kernel)) ggX1_test_X1_kept
theorem dX1_test_0 : decode cX1_test 0 = .ok (.aload_n 0, 1) := by decide +kernel
theorem dX1_test_1 : decode cX1_test 1 = .ok (.iconst 0, 1) := by decide +kernel
theorem dX1_test_2 : decode cX1_test 2 = .ok (.putfield 43, 3) := by decide +kernel
theorem dX1_test_5 : decode cX1_test 5 = .ok (.iload_n 1, 1) := by decide +kernel
theorem dX1_test_6 : decode cX1_test 6 = .ok (.invokestatic 124, 3) := by decide +kernel
theorem dX1_test_9 : decode cX1_test 9 = .ok (.ifCond .eq 15, 3) := by decide +kernel
theorem dX1_test_12 : decode cX1_test 12 = .ok (.iload_n 2, 1) := by decide +kernel
theorem dX1_test_13 : decode cX1_test 13 = .ok (.invokestatic 124, 3) := by decide +kernel
theorem dX1_test_16 : decode cX1_test 16 = .ok (.ifCond .eq 8, 3) := by decide +kernel
theorem dX1_test_19 : decode cX1_test 19 = .ok (.iload_n 1, 1) := by decide +kernel
theorem dX1_test_20 : decode cX1_test 20 = .ok (.iload_n 2, 1) := by decide +kernel
theorem dX1_test_21 : decode cX1_test 21 = .ok (.if_icmp .ne 5, 3) := by decide +kernel
theorem dX1_test_24 : decode cX1_test 24 = .ok (.iconst (-1), 1) := by decide +kernel
theorem dX1_test_25 : decode cX1_test 25 = .ok (.ireturn, 1) := by decide +kernel
theorem dX1_test_26 : decode cX1_test 26 = .ok (.aload_n 0, 1) := by decide +kernel
theorem dX1_test_27 : decode cX1_test 27 = .ok (.getfield 19, 3) := by decide +kernel
theorem dX1_test_30 : decode cX1_test 30 = .ok (.iload_n 1, 1) := by decide +kernel
theorem dX1_test_31 : decode cX1_test 31 = .ok (.iaload, 1) := by decide +kernel
theorem dX1_test_32 : decode cX1_test 32 = .ok (.ifCond .eq 12, 3) := by decide +kernel
theorem dX1_test_35 : decode cX1_test 35 = .ok (.aload_n 0, 1) := by decide +kernel
theorem dX1_test_36 : decode cX1_test 36 = .ok (.getfield 19, 3) := by decide +kernel
theorem dX1_test_39 : decode cX1_test 39 = .ok (.iload_n 2, 1) := by decide +kernel
theorem dX1_test_40 : decode cX1_test 40 = .ok (.iaload, 1) := by decide +kernel
theorem dX1_test_41 : decode cX1_test 41 = .ok (.ifCond .ne 6, 3) := by decide +kernel
theorem dX1_test_44 : decode cX1_test 44 = .ok (.bipush (-5), 2) := by decide +kernel
theorem dX1_test_46 : decode cX1_test 46 = .ok (.ireturn, 1) := by decide +kernel
theorem dX1_test_47 : decode cX1_test 47 = .ok (.aload_n 0, 1) := by decide +kernel
theorem dX1_test_48 : decode cX1_test 48 = .ok (.getfield 56, 3) := by decide +kernel
theorem dX1_test_51 : decode cX1_test 51 = .ok (.bipush 40, 2) := by decide +kernel
theorem dX1_test_53 : decode cX1_test 53 = .ok (.if_icmp .ne 6, 3) := by decide +kernel
theorem dX1_test_56 : decode cX1_test 56 = .ok (.bipush (-4), 2) := by decide +kernel
theorem dX1_test_58 : decode cX1_test 58 = .ok (.ireturn, 1) := by decide +kernel
theorem dX1_test_59 : decode cX1_test 59 = .ok (.aload_n 0, 1) := by decide +kernel
theorem dX1_test_60 : decode cX1_test 60 = .ok (.getfield 19, 3) := by decide +kernel
theorem dX1_test_63 : decode cX1_test 63 = .ok (.iload_n 1, 1) := by decide +kernel
theorem dX1_test_64 : decode cX1_test 64 = .ok (.iaload, 1) := by decide +kernel
theorem dX1_test_65 : decode cX1_test 65 = .ok (.aload_n 0, 1) := by decide +kernel
theorem dX1_test_66 : decode cX1_test 66 = .ok (.getfield 19, 3) := by decide +kernel
theorem dX1_test_69 : decode cX1_test 69 = .ok (.iload_n 2, 1) := by decide +kernel
theorem dX1_test_70 : decode cX1_test 70 = .ok (.iaload, 1) := by decide +kernel
theorem dX1_test_71 : decode cX1_test 71 = .ok (.iadd, 1) := by decide +kernel
theorem dX1_test_72 : decode cX1_test 72 = .ok (.istore_n 3, 1) := by decide +kernel
theorem dX1_test_73 : decode cX1_test 73 = .ok (.aload_n 0, 1) := by decide +kernel
theorem dX1_test_74 : decode cX1_test 74 = .ok (.iload_n 1, 1) := by decide +kernel
theorem dX1_test_75 : decode cX1_test 75 = .ok (.invokevirtual 127, 3) := by decide +kernel
theorem dX1_test_78 : decode cX1_test 78 = .ok (.lstore 4, 2) := by decide +kernel
theorem dX1_test_80 : decode cX1_test 80 = .ok (.aload_n 0, 1) := by decide +kernel
theorem dX1_test_81 : decode cX1_test 81 = .ok (.iconst 0, 1) := by decide +kernel
theorem dX1_test_82 : decode cX1_test 82 = .ok (.putfield 145, 3) := by decide +kernel
theorem dX1_test_85 : decode cX1_test 85 = .ok (.aload_n 0, 1) := by decide +kernel
theorem dX1_test_86 : decode cX1_test 86 = .ok (.iconst 0, 1) := by decide +kernel
theorem dX1_test_87 : decode cX1_test 87 = .ok (.putfield 148, 3) := by decide +kernel
theorem dX1_test_90 : decode cX1_test 90 = .ok (.aload_n 0, 1) := by decide +kernel
theorem dX1_test_91 : decode cX1_test 91 = .ok (.iconst 0, 1) := by decide +kernel
theorem dX1_test_92 : decode cX1_test 92 = .ok (.putfield 151, 3) := by decide +kernel
theorem dX1_test_95 : decode cX1_test 95 = .ok (.iconst 0, 1) := by decide +kernel
theorem dX1_test_96 : decode cX1_test 96 = .ok (.istore 6, 2) := by decide +kernel
theorem dX1_test_98 : decode cX1_test 98 = .ok (.iload 6, 2) := by decide +kernel
theorem dX1_test_100 : decode cX1_test 100 = .ok (.iconst 1, 1) := by decide +kernel
theorem dX1_test_101 : decode cX1_test 101 = .ok (.iload_n 3, 1) := by decide +kernel
theorem dX1_test_102 : decode cX1_test 102 = .ok (.ishl, 1) := by decide +kernel
theorem dX1_test_103 : decode cX1_test 103 = .ok (.if_icmp .ge 159, 3) := by decide +kernel
theorem dX1_test_106 : decode cX1_test 106 = .ok (.iconst 0, 1) := by decide +kernel
theorem dX1_test_107 : decode cX1_test 107 = .ok (.istore 7, 2) := by decide +kernel
theorem dX1_test_109 : decode cX1_test 109 = .ok (.lconst 0, 1) := by decide +kernel
theorem dX1_test_110 : decode cX1_test 110 = .ok (.lstore 8, 2) := by decide +kernel
theorem dX1_test_112 : decode cX1_test 112 = .ok (.iconst 0, 1) := by decide +kernel
theorem dX1_test_113 : decode cX1_test 113 = .ok (.istore 10, 2) := by decide +kernel
theorem dX1_test_115 : decode cX1_test 115 = .ok (.iload 10, 2) := by decide +kernel
theorem dX1_test_117 : decode cX1_test 117 = .ok (.iload_n 3, 1) := by decide +kernel
theorem dX1_test_118 : decode cX1_test 118 = .ok (.if_icmp .ge 73, 3) := by decide +kernel
theorem dX1_test_121 : decode cX1_test 121 = .ok (.iload 6, 2) := by decide +kernel
theorem dX1_test_123 : decode cX1_test 123 = .ok (.iload 10, 2) := by decide +kernel
theorem dX1_test_125 : decode cX1_test 125 = .ok (.ishr, 1) := by decide +kernel
theorem dX1_test_126 : decode cX1_test 126 = .ok (.iconst 1, 1) := by decide +kernel
theorem dX1_test_127 : decode cX1_test 127 = .ok (.iand, 1) := by decide +kernel
theorem dX1_test_128 : decode cX1_test 128 = .ok (.iconst 1, 1) := by decide +kernel
theorem dX1_test_129 : decode cX1_test 129 = .ok (.if_icmp .ne 56, 3) := by decide +kernel
theorem dX1_test_132 : decode cX1_test 132 = .ok (.iinc 7 1, 3) := by decide +kernel
theorem dX1_test_135 : decode cX1_test 135 = .ok (.lload 8, 2) := by decide +kernel
theorem dX1_test_137 : decode cX1_test 137 = .ok (.iload 10, 2) := by decide +kernel
theorem dX1_test_139 : decode cX1_test 139 = .ok (.aload_n 0, 1) := by decide +kernel
theorem dX1_test_140 : decode cX1_test 140 = .ok (.getfield 19, 3) := by decide +kernel
theorem dX1_test_143 : decode cX1_test 143 = .ok (.iload_n 1, 1) := by decide +kernel
theorem dX1_test_144 : decode cX1_test 144 = .ok (.iaload, 1) := by decide +kernel
theorem dX1_test_145 : decode cX1_test 145 = .ok (.if_icmp .ge 18, 3) := by decide +kernel
theorem dX1_test_148 : decode cX1_test 148 = .ok (.aload_n 0, 1) := by decide +kernel
theorem dX1_test_149 : decode cX1_test 149 = .ok (.getfield 16, 3) := by decide +kernel
theorem dX1_test_152 : decode cX1_test 152 = .ok (.bipush 8, 2) := by decide +kernel
theorem dX1_test_154 : decode cX1_test 154 = .ok (.iload_n 1, 1) := by decide +kernel
theorem dX1_test_155 : decode cX1_test 155 = .ok (.imul, 1) := by decide +kernel
theorem dX1_test_156 : decode cX1_test 156 = .ok (.iload 10, 2) := by decide +kernel
theorem dX1_test_158 : decode cX1_test 158 = .ok (.iadd, 1) := by decide +kernel
theorem dX1_test_159 : decode cX1_test 159 = .ok (.laload, 1) := by decide +kernel
theorem dX1_test_160 : decode cX1_test 160 = .ok (.goto 22, 3) := by decide +kernel
theorem dX1_test_163 : decode cX1_test 163 = .ok (.aload_n 0, 1) := by decide +kernel
theorem dX1_test_164 : decode cX1_test 164 = .ok (.getfield 16, 3) := by decide +kernel
theorem dX1_test_167 : decode cX1_test 167 = .ok (.bipush 8, 2) := by decide +kernel
theorem dX1_test_169 : decode cX1_test 169 = .ok (.iload_n 2, 1) := by decide +kernel
theorem dX1_test_170 : decode cX1_test 170 = .ok (.imul, 1) := by decide +kernel
theorem dX1_test_171 : decode cX1_test 171 = .ok (.iload 10, 2) := by decide +kernel
theorem dX1_test_173 : decode cX1_test 173 = .ok (.iadd, 1) := by decide +kernel
theorem dX1_test_174 : decode cX1_test 174 = .ok (.aload_n 0, 1) := by decide +kernel
theorem dX1_test_175 : decode cX1_test 175 = .ok (.getfield 19, 3) := by decide +kernel
theorem dX1_test_178 : decode cX1_test 178 = .ok (.iload_n 1, 1) := by decide +kernel
theorem dX1_test_179 : decode cX1_test 179 = .ok (.iaload, 1) := by decide +kernel
theorem dX1_test_180 : decode cX1_test 180 = .ok (.isub, 1) := by decide +kernel
theorem dX1_test_181 : decode cX1_test 181 = .ok (.laload, 1) := by decide +kernel
theorem dX1_test_182 : decode cX1_test 182 = .ok (.ladd, 1) := by decide +kernel
theorem dX1_test_183 : decode cX1_test 183 = .ok (.lstore 8, 2) := by decide +kernel
theorem dX1_test_185 : decode cX1_test 185 = .ok (.iinc 10 1, 3) := by decide +kernel
theorem dX1_test_188 : decode cX1_test 188 = .ok (.goto (-73), 3) := by decide +kernel
theorem dX1_test_191 : decode cX1_test 191 = .ok (.iload 7, 2) := by decide +kernel
theorem dX1_test_193 : decode cX1_test 193 = .ok (.aload_n 0, 1) := by decide +kernel
theorem dX1_test_194 : decode cX1_test 194 = .ok (.getfield 19, 3) := by decide +kernel
theorem dX1_test_197 : decode cX1_test 197 = .ok (.iload_n 1, 1) := by decide +kernel
theorem dX1_test_198 : decode cX1_test 198 = .ok (.iaload, 1) := by decide +kernel
theorem dX1_test_199 : decode cX1_test 199 = .ok (.if_icmp .ne 57, 3) := by decide +kernel
theorem dX1_test_202 : decode cX1_test 202 = .ok (.aload_n 0, 1) := by decide +kernel
theorem dX1_test_203 : decode cX1_test 203 = .ok (.dup, 1) := by decide +kernel
theorem dX1_test_204 : decode cX1_test 204 = .ok (.getfield 148, 3) := by decide +kernel
theorem dX1_test_207 : decode cX1_test 207 = .ok (.iconst 1, 1) := by decide +kernel
theorem dX1_test_208 : decode cX1_test 208 = .ok (.iadd, 1) := by decide +kernel
theorem dX1_test_209 : decode cX1_test 209 = .ok (.putfield 148, 3) := by decide +kernel
theorem dX1_test_212 : decode cX1_test 212 = .ok (.aload_n 0, 1) := by decide +kernel
theorem dX1_test_213 : decode cX1_test 213 = .ok (.dup, 1) := by decide +kernel
theorem dX1_test_214 : decode cX1_test 214 = .ok (.getfield 145, 3) := by decide +kernel
theorem dX1_test_217 : decode cX1_test 217 = .ok (.lload 8, 2) := by decide +kernel
theorem dX1_test_219 : decode cX1_test 219 = .ok (.lload 4, 2) := by decide +kernel
theorem dX1_test_221 : decode cX1_test 221 = .ok (.lcmp, 1) := by decide +kernel
theorem dX1_test_222 : decode cX1_test 222 = .ok (.ifCond .lt 7, 3) := by decide +kernel
theorem dX1_test_225 : decode cX1_test 225 = .ok (.iconst 1, 1) := by decide +kernel
theorem dX1_test_226 : decode cX1_test 226 = .ok (.goto 4, 3) := by decide +kernel
theorem dX1_test_229 : decode cX1_test 229 = .ok (.iconst 0, 1) := by decide +kernel
theorem dX1_test_230 : decode cX1_test 230 = .ok (.iadd, 1) := by decide +kernel
theorem dX1_test_231 : decode cX1_test 231 = .ok (.putfield 145, 3) := by decide +kernel
theorem dX1_test_234 : decode cX1_test 234 = .ok (.aload_n 0, 1) := by decide +kernel
theorem dX1_test_235 : decode cX1_test 235 = .ok (.dup, 1) := by decide +kernel
theorem dX1_test_236 : decode cX1_test 236 = .ok (.getfield 151, 3) := by decide +kernel
theorem dX1_test_239 : decode cX1_test 239 = .ok (.lload 8, 2) := by decide +kernel
theorem dX1_test_241 : decode cX1_test 241 = .ok (.lload 4, 2) := by decide +kernel
theorem dX1_test_243 : decode cX1_test 243 = .ok (.lcmp, 1) := by decide +kernel
theorem dX1_test_244 : decode cX1_test 244 = .ok (.ifCond .ne 7, 3) := by decide +kernel
theorem dX1_test_247 : decode cX1_test 247 = .ok (.iconst 1, 1) := by decide +kernel
theorem dX1_test_248 : decode cX1_test 248 = .ok (.goto 4, 3) := by decide +kernel
theorem dX1_test_251 : decode cX1_test 251 = .ok (.iconst 0, 1) := by decide +kernel
theorem dX1_test_252 : decode cX1_test 252 = .ok (.iadd, 1) := by decide +kernel
theorem dX1_test_253 : decode cX1_test 253 = .ok (.putfield 151, 3) := by decide +kernel
theorem dX1_test_256 : decode cX1_test 256 = .ok (.iinc 6 1, 3) := by decide +kernel
theorem dX1_test_259 : decode cX1_test 259 = .ok (.goto (-161), 3) := by decide +kernel
theorem dX1_test_262 : decode cX1_test 262 = .ok (.aload_n 0, 1) := by decide +kernel
theorem dX1_test_263 : decode cX1_test 263 = .ok (.iconst 1, 1) := by decide +kernel
theorem dX1_test_264 : decode cX1_test 264 = .ok (.putfield 154, 3) := by decide +kernel
theorem dX1_test_267 : decode cX1_test 267 = .ok (.aload_n 0, 1) := by decide +kernel
theorem dX1_test_268 : decode cX1_test 268 = .ok (.aload_n 0, 1) := by decide +kernel
theorem dX1_test_269 : decode cX1_test 269 = .ok (.getfield 145, 3) := by decide +kernel
theorem dX1_test_272 : decode cX1_test 272 = .ok (.i2l, 1) := by decide +kernel
theorem dX1_test_273 : decode cX1_test 273 = .ok (.aload_n 0, 1) := by decide +kernel
theorem dX1_test_274 : decode cX1_test 274 = .ok (.getfield 148, 3) := by decide +kernel
theorem dX1_test_277 : decode cX1_test 277 = .ok (.i2l, 1) := by decide +kernel
theorem dX1_test_278 : decode cX1_test 278 = .ok (.invokevirtual 71, 3) := by decide +kernel
theorem dX1_test_281 : decode cX1_test 281 = .ok (.ireturn, 1) := by decide +kernel
theorem dX1_ways_0 : decode cX1_ways 0 = .ok (.aload_n 0, 1) := by decide +kernel
theorem dX1_ways_1 : decode cX1_ways 1 = .ok (.iconst 0, 1) := by decide +kernel
theorem dX1_ways_2 : decode cX1_ways 2 = .ok (.putfield 43, 3) := by decide +kernel
theorem dX1_ways_5 : decode cX1_ways 5 = .ok (.aload_n 0, 1) := by decide +kernel
theorem dX1_ways_6 : decode cX1_ways 6 = .ok (.getfield 154, 3) := by decide +kernel
theorem dX1_ways_9 : decode cX1_ways 9 = .ok (.ifCond .ne 6, 3) := by decide +kernel
theorem dX1_ways_12 : decode cX1_ways 12 = .ok (.bipush (-5), 2) := by decide +kernel
theorem dX1_ways_14 : decode cX1_ways 14 = .ok (.ireturn, 1) := by decide +kernel
theorem dX1_ways_15 : decode cX1_ways 15 = .ok (.iload_n 1, 1) := by decide +kernel
theorem dX1_ways_16 : decode cX1_ways 16 = .ok (.ifCond .ne 10, 3) := by decide +kernel
theorem dX1_ways_19 : decode cX1_ways 19 = .ok (.aload_n 0, 1) := by decide +kernel
theorem dX1_ways_20 : decode cX1_ways 20 = .ok (.getfield 145, 3) := by decide +kernel
theorem dX1_ways_23 : decode cX1_ways 23 = .ok (.goto 28, 3) := by decide +kernel
theorem dX1_ways_26 : decode cX1_ways 26 = .ok (.iload_n 1, 1) := by decide +kernel
theorem dX1_ways_27 : decode cX1_ways 27 = .ok (.iconst 1, 1) := by decide +kernel
theorem dX1_ways_28 : decode cX1_ways 28 = .ok (.if_icmp .ne 10, 3) := by decide +kernel
theorem dX1_ways_31 : decode cX1_ways 31 = .ok (.aload_n 0, 1) := by decide +kernel
theorem dX1_ways_32 : decode cX1_ways 32 = .ok (.getfield 148, 3) := by decide +kernel
theorem dX1_ways_35 : decode cX1_ways 35 = .ok (.goto 16, 3) := by decide +kernel
theorem dX1_ways_38 : decode cX1_ways 38 = .ok (.iload_n 1, 1) := by decide +kernel
theorem dX1_ways_39 : decode cX1_ways 39 = .ok (.iconst 2, 1) := by decide +kernel
theorem dX1_ways_40 : decode cX1_ways 40 = .ok (.if_icmp .ne 10, 3) := by decide +kernel
theorem dX1_ways_43 : decode cX1_ways 43 = .ok (.aload_n 0, 1) := by decide +kernel
theorem dX1_ways_44 : decode cX1_ways 44 = .ok (.getfield 151, 3) := by decide +kernel
theorem dX1_ways_47 : decode cX1_ways 47 = .ok (.goto 4, 3) := by decide +kernel
theorem dX1_ways_50 : decode cX1_ways 50 = .ok (.iconst (-1), 1) := by decide +kernel
theorem dX1_ways_51 : decode cX1_ways 51 = .ok (.ireturn, 1) := by decide +kernel
set_option maxRecDepth 20000 in
theorem ggX1_count_X1_isIn : GoodIn wsX1_count wsX1_isIn := goodIn_r _ [9] (by decide +kernel) (by decide +kernel)
set_option maxRecDepth 20000 in
theorem gX1_count_X1_isIn : GoodIn wsX1_count (va_wsS RX1 59 yX1_isIn wsX1_isIn) := goodIn_app (goodIn_of _ (by decide +kernel)) ggX1_count_X1_isIn
theorem dX1_count_0 : decode cX1_count 0 = .ok (.aload_n 0, 1) := by decide +kernel
theorem dX1_count_1 : decode cX1_count 1 = .ok (.iconst 0, 1) := by decide +kernel
theorem dX1_count_2 : decode cX1_count 2 = .ok (.putfield 43, 3) := by decide +kernel
theorem dX1_count_5 : decode cX1_count 5 = .ok (.iload_n 1, 1) := by decide +kernel
theorem dX1_count_6 : decode cX1_count 6 = .ok (.ifCond .ne 10, 3) := by decide +kernel
theorem dX1_count_9 : decode cX1_count 9 = .ok (.aload_n 0, 1) := by decide +kernel
theorem dX1_count_10 : decode cX1_count 10 = .ok (.getfield 56, 3) := by decide +kernel
theorem dX1_count_13 : decode cX1_count 13 = .ok (.goto 39, 3) := by decide +kernel
theorem dX1_count_16 : decode cX1_count 16 = .ok (.iload_n 1, 1) := by decide +kernel
theorem dX1_count_17 : decode cX1_count 17 = .ok (.i2l, 1) := by decide +kernel
theorem dX1_count_18 : decode cX1_count 18 = .ok (.lconst 1, 1) := by decide +kernel
theorem dX1_count_19 : decode cX1_count 19 = .ok (.ldc2_w 157, 3) := by decide +kernel
theorem dX1_count_22 : decode cX1_count 22 = .ok (.invokestatic 59, 3) := by decide +kernel
theorem dX1_count_25 : decode cX1_count 25 = .ok (.ifCond .eq 14, 3) := by decide +kernel
theorem dX1_count_28 : decode cX1_count 28 = .ok (.aload_n 0, 1) := by decide +kernel
theorem dX1_count_29 : decode cX1_count 29 = .ok (.getfield 19, 3) := by decide +kernel
theorem dX1_count_32 : decode cX1_count 32 = .ok (.iload_n 1, 1) := by decide +kernel
theorem dX1_count_33 : decode cX1_count 33 = .ok (.iconst 1, 1) := by decide +kernel
theorem dX1_count_34 : decode cX1_count 34 = .ok (.isub, 1) := by decide +kernel
theorem dX1_count_35 : decode cX1_count 35 = .ok (.iaload, 1) := by decide +kernel
theorem dX1_count_36 : decode cX1_count 36 = .ok (.goto 16, 3) := by decide +kernel
theorem dX1_count_39 : decode cX1_count 39 = .ok (.iload_n 1, 1) := by decide +kernel
theorem dX1_count_40 : decode cX1_count 40 = .ok (.iconst 5, 1) := by decide +kernel
theorem dX1_count_41 : decode cX1_count 41 = .ok (.if_icmp .ne 10, 3) := by decide +kernel
theorem dX1_count_44 : decode cX1_count 44 = .ok (.aload_n 0, 1) := by decide +kernel
theorem dX1_count_45 : decode cX1_count 45 = .ok (.getfield 89, 3) := by decide +kernel
theorem dX1_count_48 : decode cX1_count 48 = .ok (.goto 4, 3) := by decide +kernel
theorem dX1_count_51 : decode cX1_count 51 = .ok (.iconst (-1), 1) := by decide +kernel
theorem dX1_count_52 : decode cX1_count 52 = .ok (.ireturn, 1) := by decide +kernel
end
