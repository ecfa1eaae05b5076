/-! BASE 2: methods that may throw (over, share), worlds side by side -/
abbrev AEn : String := "java/lang/ArithmeticException"
abbrev AEs : List String := ["java/lang/RuntimeException", "java/lang/Exception"]
def BXs : List Cond := [Cond.castable AEn AEn, Cond.declares (Bundle.initS "java/lang/RuntimeException"), Cond.declares (Bundle.initS "java/lang/Exception"), Cond.declares (Bundle.initS Bundle.tN)]
def bX (U : State) : Prop := ∀ w ∈ BXs, va_Nw w U
theorem bX.warm {s U : State} (hW : s.WarmedH U.vm) (h : bX s) : bX U := by
  intro w hw
  have h1 := h w hw
  simp only [BXs, List.mem_cons, List.not_mem_nil, or_false] at hw
  rcases hw with rfl | rfl | rfl | rfl
  · exact va_Nw.warmC hW h1
  · exact va_Nw.warmD hW h1
  · exact va_Nw.warmD hW h1
  · exact va_Nw.warmD hW h1
theorem bX_on : ∀ w ∈ BXs, w.onTables = true := by decide
theorem bX.same {s U : State} (hv : s.vm = U.vm) (h : bX s) : bX U := fun w hw => va_Nw.same (bX_on w hw) hv (h w hw)
theorem bX.use {s : State} {args : Array Value} (h : bX s) : ∀ w ∈ BXs, w.before args s = true := fun w hw => va_Nw.use (bX_on w hw) (h w hw)
/-- what a throw stands on, but the tables' good words -/
def zB (l : Launch) (U : State) (A : Nat → Prop) (H : Heap) : Prop := l.stackTraces = false ∧ vx_Zq Bundle.tN "UNASSIGNED_STACK" Bundle.steD A U H ∧ vx_Zq Bundle.tN "SUPPRESSED_SENTINEL" Bundle.listD A U H ∧ (∃ a, vk_R RX0 63 "the number below is 0" a U) ∧ (∃ a, vk_R RX0 114 "the sum of the row is 0" a U) ∧ bX U
theorem zB.warm {l : Launch} {s U : State} {A : Nat → Prop} {H : Heap} (hW : s.WarmedH U.vm) (h : zB l s A H) : zB l U A H := by
  obtain ⟨h1, h2, h3, ⟨a, h4⟩, ⟨b, h5⟩, h6⟩ := h
  exact ⟨h1, vx_Zq.moved hW.alike h2, vx_Zq.moved hW.alike h3, ⟨a, vk_R.warm hW h4⟩, ⟨b, vk_R.warm hW h5⟩, bX.warm hW h6⟩
theorem zB.same {l : Launch} {s U : State} {A : Nat → Prop} {H : Heap} (hv : U.vm = s.vm) (h : zB l s A H) : zB l U A H := by
  obtain ⟨h1, h2, h3, ⟨a, h4⟩, ⟨b, h5⟩, h6⟩ := h
  have ha : s.vm.Alike U.vm := by rw [hv]; exact Vm.Alike.refl s.vm
  exact ⟨h1, vx_Zq.moved ha h2, vx_Zq.moved ha h3, ⟨a, vk_R.same hv h4⟩, ⟨b, vk_R.same hv h5⟩, bX.same hv.symm h6⟩
theorem zB.kept {l : Launch} {U : State} {A : Nat → Prop} {H H1 : Heap} (h : zB l U A H) (hq : ∀ a : Nat, a < H.size → ¬ A a → H1[a]? = H[a]?) : zB l U A H1 := by
  obtain ⟨h1, h2, h3, h4⟩ := h
  exact ⟨h1, h2.kept hq, h3.kept hq, h4⟩
theorem zB.narrow {l : Launch} {U : State} {A B : Nat → Prop} {H : Heap} (h : zB l U A H) (hAB : ∀ q, B q → A q) : zB l U B H := by
  obtain ⟨h1, h2, h3, h4⟩ := h
  exact ⟨h1, h2.narrow hAB, h3.narrow hAB, h4⟩
def zX (l : Launch) (s : State) (A : Nat → Prop) (c : Code) : Prop := zB l s A s.heap ∧ ∀ x ∈ c.exceptionTable.toList, False
def PcX (l : Launch) (D : va_G) (tys : List (ClassId × FieldType)) (w : va_W) (sz : Nat) (av : List Value) : Array Value → State → Prop := va_Pc av (fun U => U.heap.size = sz ∧ va_P D vwCl w U.heap ∧ va_K D vwCl tys U ∧ va_D (fun _ => True) w ∧ zB l U (va_A w sz) U.heap)
theorem PcX_blind {l : Launch} {D : va_G} {tys : List (ClassId × FieldType)} {w : va_W} {sz : Nat} {av : List Value} : FrameBlind (PcX l D tys w sz av) := fun a U g mk q => by
  obtain ⟨q0, q1, qP, qK, qD, qZ⟩ := q
  exact ⟨q0, q1, qP, va_K.moved (u := U) (U := U.calling g mk a) (Vm.Alike.refl U.vm) qK, qD, zB.same (s := U) (U := U.calling g mk a) rfl qZ⟩
def QXi {S : Type} (D : va_G) (tys : List (ClassId × FieldType)) (wf : S → va_W) (A : Nat → Prop) (out : Option Int32 × S) : Array Value → State → Outcome → State → Prop := va_Qi (fun r u => (some r, u) = out) (BW D tys wf A) A
def XXi {S : Type} (D : va_G) (tys : List (ClassId × FieldType)) (wf : S → va_W) (A : Nat → Prop) (out : Option Int32 × S) : String → State → State → Prop := vx_X (fun u => ((none : Option Int32), u) = out) (fun E u t => E = AEn ∧ BW D tys wf A u t) A
def MXi {S : Type} (l : Launch) (y : MethodName) (ws : List Cond) (rm : Room) (D : va_G) (tys : List (ClassId × FieldType)) (wf : S → va_W) (σ : S) (av : List Value) (out : Option Int32 × S) : Prop := ∀ sz : Nat, vx_Met l y ws rm (PcX l D tys (wf σ) sz av) (QXi D tys wf (va_A (wf σ) sz) out) (XXi D tys wf (va_A (wf σ) sz) out) 1 6 (va_A (wf σ) sz)
section XK
variable {p : Program} {l : Launch} {e : Env} {R : Room} {s : State} {m : MethodId} {args : Array Value} {below : List Frame} {meth : Method} {c : Code} {H : Heap} {locs : List Loc} {cells slots : Nat} {Q : State → Prop}
variable {cc : ByteArray} {pc index nL maxL n : Nat} {ls : Array Slot} {As rest : List Value} {D : va_G} {A : Nat → Prop} {tys : List (ClassId × FieldType)}
theorem reMXi {S : Type} {wf : S → va_W} {u : S} {out : Option Int32 × S} {v : Int32} (hexec : p.tables.exec = Jvm.exec) (hb : c.code = cc) (hr : meth.sig.returnType = some .int) (hlocks : meth.locks = false) (hK : va_K D vwCl tys s) (hP : va_P D vwCl (wf u) H) (hD : va_D A (wf u)) (hS : va_S A s.heap H locs) (h : some (some v, u) = some out) (hdg : decode cc pc = .ok (.ireturn, 1)) : W p l e R s m args below meth c H locs 0 0 (MQ below (QXi D tys wf A out) args s 1 6 A) (F0 m pc ls [.int v]) :=
  W.widen (k := 1) (n := 6) (Nat.zero_le _) (Nat.zero_le _) (W.iret (v := v) hexec hb hr (fun t ht hW => ⟨⟨v, u, rfl, Option.some.inj h, by rw [ht]; exact hP, va_K.moved hW.alike hK, hD⟩, hS.F ht⟩) hS.2.2 hdg hlocks)
theorem thX0_non : ∀ w ∈ (vx_atS RX0 65 AEn AEs).filter (fun w => !goodWord w), w ∈ BXs := by decide +kernel
theorem thX0_good : ∀ w ∈ Cond.classLink RX0 61 AEn :: Cond.initialized AEn :: vx_atS RX0 65 AEn AEs, vx_ot w = true := by decide +kernel
theorem thX0 {S : Type} {wf : S → va_W} {u : S} {out : Option Int32 × S} {rt : Option FieldType} {ws : List Cond} {is sa : Nat} {tx : String} (C : cxt p s m args meth c RX0 cc nL rt ws) (hZ : zX l s A c) (hstr : vk_R RX0 is tx sa s) (hk : (Cond.classLink RX0 61 AEn).before args s = true) (hini : (Cond.initialized AEn).before args s = true) (hat : ∀ w ∈ (vx_atS RX0 65 AEn AEs).filter goodWord, w.before args s = true) (hsize : ls.size = nL) (hK : va_K D vwCl tys s) (hP : va_P D vwCl (wf u) H) (hD : va_D A (wf u)) (hS : va_S A s.heap H locs) (h : some ((none : Option Int32), u) = some out)
    (d0 : decode cc pc = .ok (.new 61, 3)) (d3 : decode cc (pc + 3) = .ok (.dup, 1)) (d4 : decode cc (pc + 4) = .ok (.ldc is, 2)) (d6 : decode cc (pc + 6) = .ok (.invokespecial 65, 3)) (d9 : decode cc (pc + 9) = .ok (.athrow, 1)) (hf : 5 < R.frames) (hlo : (rest.map fun v => v.category).sum + 82 ≤ R.locals) (hc1 : 1 ≤ R.cells) (hs1 : 6 ≤ R.slots) :
    W p l e R s m args below meth c H locs 0 0 (vx_MQ below (QXi D tys wf A out) (XXi D tys wf A out) args s 1 6 A) (F0 m pc ls rest) := by
  obtain ⟨hx, hb, hr, hml, hown, hts, hlocks⟩ := C
  obtain ⟨⟨z1, z2, z3, z4, z5, z6⟩, hT⟩ := hZ
  refine vx_throwS (names := AEs) (A := A) hx hb z1 hown (by decide +kernel) (by decide +kernel) hk hini hstr (vx_hat hat thX0_non (bX.use z6)) thX0_good z2 z3 hS (hsize.trans hml.symm) d0 d3 d4 d6 d9 (fun x hx => (hT x hx).elim) hf hlo (by simpa using hc1) (by simpa using hs1) hlocks ?_ hS.2.2 (by simp) (by simp)
  intro t ha hsz hq
  refine ⟨u, Option.some.inj h, ⟨rfl, hP.kept (fun k q hk => hq _ ((hP k q hk).lt)), va_K.moved ha hK, hD⟩, Nat.le_trans hS.1 hsz, fun q h1 h2 => ?_⟩
  rw [hq q (Nat.lt_of_lt_of_le h1 hS.1)]
  exact hS.2.1 q h1 h2
end XK
theorem ofXi {l : Launch} {y : MethodName} {ws ws' : List Cond} {rm : Room} {D : va_G} {tys : List (ClassId × FieldType)} {cc : ByteArray} {maxL : Nat} {ret : Option FieldType} {av : List Value} {lv : List (Nat × Value)} {S : Type} {wf : S → va_W} {σ : S} {out : Option Int32 × S} (hy : plainName y.cls = true) (hw : ws = .code y cc maxL ret :: ws') (hlen : (lg_sl av).length ≤ maxL) (hlv : lv_args 0 av = lv)
    (body : ∀ {p : Program} {e : Env} {s : State} {m : MethodId} {args : Array Value} {below : List Frame} {meth : Method} {c : Code} {A : Nat → Prop}, cxt p s m args meth c y.cls cc maxL ret ws → (∀ x, s.heap.size ≤ x → A x) → zX l s A c → va_K D vwCl tys s → va_P D vwCl (wf σ) s.heap → va_D A (wf σ) → va_S A s.heap s.heap [] → ∀ ls : Array Slot, lv_has ls maxL lv → W p l e rm s m args below meth c s.heap [] 0 0 (vx_MQ below (QXi D tys wf A out) (XXi D tys wf A out) args s 1 6 A) (F0 m 0 ls [])) : MXi l y ws rm D tys wf σ av out := by
  intro sz
  refine vx_ofW (cc := cc) (maxL := maxL) (ret := ret) hy hw ?_
  intro p e s m args below meth c s₁ B hml ht hv
  obtain ⟨rfl, hsz, hP, hK, hD0, hz⟩ := hv
  subst hsz
  rw [lg_entry_eq]
  exact body ⟨B.exec, B.bytes, B.returns, hml, findClass_of_methodNamed B.named, atoms_spec (ws := ws) B.pre, B.notSynchronized⟩ (fun q h => Or.inr h) ⟨hz, ht⟩ hK hP (hD0.self (sz := s.heap.size)) va_S.rf _ (hlv ▸ lv_entry av hlen)
