theorem k_702 : Cond.superclass "java/lang/Throwable" "java/lang/Object" ∈ gW := gW_t (List.mem_of_getElem? (i := 702) (by decide +kernel)) (by decide +kernel)
theorem k_714 : Cond.codeSync ⟨"java/lang/Throwable", "fillInStackTrace", "()Ljava/lang/Throwable;"⟩ prog_25_method_18_code 1 (some (FieldType.object "java/lang/Throwable")) ∈ gW := gW_t (List.mem_of_getElem? (i := 714) (by decide +kernel)) (by decide +kernel)
/-! contracts of methods that throw -/
def te_F (first : State) (o : Outcome) (t : State) (L : List Loc) (k n : Nat) : Prop := (∃ x, o = .threw x) ∧ first.WarmedH t.vm ∧ first.sameButNew ({ t with vm := first.vm } : State) L k n
def MQX (below : List Frame) (Qc : Array Value → State → Outcome → State → Prop) (a : Array Value) (s : State) (mc ms : Nat) (free : Addr → Prop) : State → Prop := fun t => ∃ o, t.status = .running ∧ Ended t below o ∧ Qc a s o t ∧ ∃ L, te_F s o t L mc ms ∧ ∀ q ∈ L, free q.base
def MetX (l : Launch) (y : MethodName) (ws : List Cond) (rm : Room) (Pc : Array Value → State → Prop) (Qc : Array Value → State → Outcome → State → Prop) (mc ms : Nat) (free : Addr → Prop) : Prop :=
  MetFree l y (headSpec ws rm) Pc (fun _ _ _ _ _ => True) (fun a st o t => Qc a st o t ∧ ∃ L, te_F st o t L mc ms ∧ ∀ q ∈ L, free q.base)
/-- an exception of class X leaves; the world is ws1 -/
def QX (dC : Nat → ClassId) (dI : Nat → Nat → Nat) (A : Nat → Prop) (X : String) (ws1 : va_W) : Array Value → State → Outcome → State → Prop := fun _ st oc t => (∃ (a : Addr) (cell : Cell), oc = .threw a ∧ t.heap[a]? = some cell ∧ cell.vm = .none ∧ t.vm.findClass X = some cell.cls ∧ Po dC dI A ws1 t) ∧ va_F A st t
def CtX (l : Launch) (dC : Nat → ClassId) (dI : Nat → Nat → Nat) (tk : Nat → ClassId) (A : Nat → Prop) (y : MethodName) (b : ByteArray) (mL : Nat) (ret : Option FieldType) (av : List Value) (X : String) (ws : va_W) : Prop := MetX l y (Cond.code y b mL ret :: gW) (rmn 6 100 1 6) (va_Pc av (Pr dC dI tk A ws)) (QX dC dI A X ws) 1 6 A
theorem entX {l : Launch} {dC : Nat → ClassId} {dI : Nat → Nat → Nat} {tk : Nat → ClassId} {A : Nat → Prop} {y : MethodName} {b : ByteArray} {mL : Nat} {ret : Option FieldType} {av : List Value} {X : String} {ws : va_W} (hy : plainName y.cls = true) (hlen : (lg_sl av).length ≤ mL)
    (body : ∀ (p : Program) (e : Env) (s : State) (m : MethodId) (args : Array Value) (below : List Frame) (meth : Method) (c : Code), p.tables.exec = Jvm.exec → c.code = b → meth.sig.returnType = ret → c.maxLocals = mL → s.vm.findClass y.cls = some m.cls → meth.locks = false → c.exceptionTable.toList = [] → (∀ w ∈ gW, w.before args s = true) → Gl dC dI tk A s → St dC dI A s.heap s.heap [] ws → ∀ ls : Array Slot, lv_has ls mL (lv_args 0 av) →
      W p l e (rmn 6 100 1 6) s m args below meth c s.heap [] 0 0 (MQX below (QX dC dI A X ws) args s 1 6 A) (F0 m 0 ls [])) : CtX l dC dI tk A y b mL ret av X ws := by
  have hws : ∀ {args : Array Value} {s : State}, (headSpec (Cond.code y b mL ret :: gW) (rmn 6 100 1 6)).pre.before args s = true → ∀ w ∈ Cond.code y b mL ret :: gW, w.before args s = true := fun h => atoms_spec (ws := Cond.code y b mL ret :: gW) h
  unfold CtX MetX
  refine MetFree.of_bodyS (code := b) (maxLocals := mL) (ret := ret) hy ?_ ?_
  · intro args s m h hn
    obtain ⟨meth, c, h1, h2, h3, h4, h5, h6, -, -⟩ := Cond.code_spec hn (hws h _ List.mem_cons_self)
    exact ⟨meth, c, h1, h2, h3, h4, h5, h6⟩
  · intro p e s m args below meth c s₁ B hml hv _
    obtain ⟨rfl, hg, hP, hD⟩ := hv
    have hts := hws B.pre
    have X9 := Stand.of_body B
    have hxt : c.exceptionTable.toList = [] := by
      obtain ⟨meth', c', h1, h2, -, -, -, -, h7, -⟩ := Cond.code_spec B.named (hts _ List.mem_cons_self)
      cases B.method.symm.trans h1
      cases X9.code.symm.trans h2
      simpa using h7
    have hh0 : s₁.heap = s.heap := by rw [B.state]; rfl
    have key := body p e s m _ below meth c B.exec B.bytes B.returns hml (findClass_of_methodNamed B.named) B.notSynchronized hxt (fun w hw => hts w (List.mem_cons_of_mem _ hw)) hg ⟨hP, hD, va_S.rf⟩ _ (lv_entry av hlen)
    rw [← lg_entry_eq] at key
    obtain ⟨t, a1, o, b1, b2, b3⟩ := key s₁ hh0 X9
    exact ⟨t, o, a1, b1, b2, b3⟩
theorem dcl_of {args : Array Value} {s : State} {x : MethodName} {bytes : ByteArray} {mL : Nat} {ret : Option FieldType} (h : (Cond.instanceMethod x).before args s = true) (hc : (Cond.code x bytes mL ret).before args s = true) : (Cond.declares x).before args s = true := by
  obtain ⟨mk, methM, hnamed, hmethM, hstM, habM⟩ := Cond.instanceMethod_spec h
  obtain ⟨methM', cM, hmethM', -, -, -, -, -, -, hsigM⟩ := Cond.code_spec hnamed hc
  cases hmethM.symm.trans hmethM'
  simp [Cond.before, Cond.holds, Cond.value, hnamed, hmethM, hstM, hsigM]
theorem asg_self (vm : Vm) (c : ClassId) : vm.assignable c c = true := by
  unfold Vm.assignable
  rw [show (256 : Nat) = 255 + 1 from rfl, Vm.assignableAux]
  simp
theorem cst_of {args : Array Value} {s : State} {X : String} {n : Nat} (h : (Cond.instantiable X n).before args s = true) : (Cond.castable X X).before args s = true := by
  obtain ⟨c, k, hc, -⟩ := Cond.instantiable_spec h
  simp [Cond.before, Cond.holds, Cond.value, hc, asg_self]
theorem oa_i {args : Array Value} {s : State} {A : Nat → Prop} (hG : ∀ w ∈ gW, w.before args s = true) (h1 : TS "UNASSIGNED_STACK" "[Ljava/lang/StackTraceElement;" A s s.heap) (h2 : TS "SUPPRESSED_SENTINEL" "Ljava/util/List;" A s s.heap) : ∀ a ∈ Bundle.ownAtoms0 "EditorServer" 83 "java/lang/IndexOutOfBoundsException" ["java/lang/RuntimeException", "java/lang/Exception"], a.before args s = true := by
  refine List.forall_mem_cons.mpr ⟨hG _ k_19, ?_⟩
  refine List.forall_mem_cons.mpr ⟨hG _ k_702, ?_⟩
  refine List.forall_mem_cons.mpr ⟨hG _ k_711, ?_⟩
  refine List.forall_mem_cons.mpr ⟨hG _ k_714, ?_⟩
  refine List.forall_mem_cons.mpr ⟨hG _ k_717, ?_⟩
  refine List.forall_mem_cons.mpr ⟨hG _ k_719, ?_⟩
  refine List.forall_mem_cons.mpr ⟨hG _ k_703, ?_⟩
  refine List.forall_mem_cons.mpr ⟨hG _ k_704, ?_⟩
  refine List.forall_mem_cons.mpr ⟨hG _ k_33, ?_⟩
  refine List.forall_mem_cons.mpr ⟨hG _ k_34, ?_⟩
  refine List.forall_mem_cons.mpr ⟨hG _ k_705, ?_⟩
  refine List.forall_mem_cons.mpr ⟨hG _ k_710, ?_⟩
  refine List.forall_mem_cons.mpr ⟨hG _ k_715, ?_⟩
  refine List.forall_mem_cons.mpr ⟨hG _ k_731, ?_⟩
  refine List.forall_mem_cons.mpr ⟨hG _ k_692, ?_⟩
  refine List.forall_mem_cons.mpr ⟨hG _ k_732, ?_⟩
  refine List.forall_mem_cons.mpr ⟨hG _ k_694, ?_⟩
  refine List.forall_mem_cons.mpr ⟨hG _ k_733, ?_⟩
  refine List.forall_mem_cons.mpr ⟨hG _ k_696, ?_⟩
  refine List.forall_mem_cons.mpr ⟨hG _ k_706, ?_⟩
  refine List.forall_mem_cons.mpr ⟨h1.lays, ?_⟩
  refine List.forall_mem_cons.mpr ⟨hG _ k_708, ?_⟩
  refine List.forall_mem_cons.mpr ⟨h2.lays, ?_⟩
  refine List.forall_mem_cons.mpr ⟨hG _ k_698, ?_⟩
  refine List.forall_mem_cons.mpr ⟨hG _ k_721, ?_⟩
  refine List.forall_mem_cons.mpr ⟨hG _ k_722, ?_⟩
  refine List.forall_mem_cons.mpr ⟨hG _ k_723, ?_⟩
  refine List.forall_mem_cons.mpr ⟨hG _ k_724, ?_⟩
  refine List.forall_mem_cons.mpr ⟨dcl_of (hG _ k_724) (hG _ k_725), ?_⟩
  refine List.forall_mem_cons.mpr ⟨hG _ k_724, ?_⟩
  refine List.forall_mem_cons.mpr ⟨hG _ k_725, ?_⟩
  refine List.forall_mem_cons.mpr ⟨hG _ k_726, ?_⟩
  refine List.forall_mem_cons.mpr ⟨hG _ k_727, ?_⟩
  refine List.forall_mem_cons.mpr ⟨dcl_of (hG _ k_727) (hG _ k_728), ?_⟩
  refine List.forall_mem_cons.mpr ⟨hG _ k_727, ?_⟩
  refine List.forall_mem_cons.mpr ⟨hG _ k_728, ?_⟩
  refine List.forall_mem_cons.mpr ⟨hG _ k_729, ?_⟩
  refine List.forall_mem_cons.mpr ⟨hG _ k_703, ?_⟩
  refine List.forall_mem_cons.mpr ⟨dcl_of (hG _ k_703) (hG _ k_704), ?_⟩
  refine List.forall_mem_cons.mpr ⟨hG _ k_720, ?_⟩
  refine List.forall_mem_cons.mpr ⟨hG _ k_681, ?_⟩
  refine List.forall_mem_cons.mpr ⟨cst_of (hG _ k_681), ?_⟩
  refine List.forall_mem_cons.mpr ⟨hG _ k_689, ?_⟩
  refine List.forall_mem_cons.mpr ⟨hG _ k_690, ?_⟩
  refine List.forall_mem_cons.mpr ⟨hG _ k_691, ?_⟩
  refine List.forall_mem_cons.mpr ⟨hG _ k_693, ?_⟩
  refine List.forall_mem_cons.mpr ⟨hG _ k_695, ?_⟩
  refine List.forall_mem_cons.mpr ⟨hG _ k_697, ?_⟩
  refine List.forall_mem_cons.mpr ⟨h1.ref, ?_⟩
  refine List.forall_mem_cons.mpr ⟨h2.ref, ?_⟩
  refine List.forall_mem_cons.mpr ⟨hG _ k_701, ?_⟩
  refine List.forall_mem_cons.mpr ⟨hG _ k_700, ?_⟩
  refine List.forall_mem_cons.mpr ⟨hG _ k_699, ?_⟩
  exact fun _ h => absurd h List.not_mem_nil
theorem oa_a {args : Array Value} {s : State} {A : Nat → Prop} (hG : ∀ w ∈ gW, w.before args s = true) (h1 : TS "UNASSIGNED_STACK" "[Ljava/lang/StackTraceElement;" A s s.heap) (h2 : TS "SUPPRESSED_SENTINEL" "Ljava/util/List;" A s s.heap) : ∀ a ∈ Bundle.ownAtoms0 "EditorServer" 125 "java/lang/IllegalArgumentException" ["java/lang/RuntimeException", "java/lang/Exception"], a.before args s = true := by
  refine List.forall_mem_cons.mpr ⟨hG _ k_19, ?_⟩
  refine List.forall_mem_cons.mpr ⟨hG _ k_702, ?_⟩
  refine List.forall_mem_cons.mpr ⟨hG _ k_711, ?_⟩
  refine List.forall_mem_cons.mpr ⟨hG _ k_714, ?_⟩
  refine List.forall_mem_cons.mpr ⟨hG _ k_717, ?_⟩
  refine List.forall_mem_cons.mpr ⟨hG _ k_719, ?_⟩
  refine List.forall_mem_cons.mpr ⟨hG _ k_703, ?_⟩
  refine List.forall_mem_cons.mpr ⟨hG _ k_704, ?_⟩
  refine List.forall_mem_cons.mpr ⟨hG _ k_33, ?_⟩
  refine List.forall_mem_cons.mpr ⟨hG _ k_34, ?_⟩
  refine List.forall_mem_cons.mpr ⟨hG _ k_705, ?_⟩
  refine List.forall_mem_cons.mpr ⟨hG _ k_710, ?_⟩
  refine List.forall_mem_cons.mpr ⟨hG _ k_715, ?_⟩
  refine List.forall_mem_cons.mpr ⟨hG _ k_731, ?_⟩
  refine List.forall_mem_cons.mpr ⟨hG _ k_692, ?_⟩
  refine List.forall_mem_cons.mpr ⟨hG _ k_732, ?_⟩
  refine List.forall_mem_cons.mpr ⟨hG _ k_694, ?_⟩
  refine List.forall_mem_cons.mpr ⟨hG _ k_733, ?_⟩
  refine List.forall_mem_cons.mpr ⟨hG _ k_696, ?_⟩
  refine List.forall_mem_cons.mpr ⟨hG _ k_706, ?_⟩
  refine List.forall_mem_cons.mpr ⟨h1.lays, ?_⟩
  refine List.forall_mem_cons.mpr ⟨hG _ k_708, ?_⟩
  refine List.forall_mem_cons.mpr ⟨h2.lays, ?_⟩
  refine List.forall_mem_cons.mpr ⟨hG _ k_698, ?_⟩
  refine List.forall_mem_cons.mpr ⟨hG _ k_784, ?_⟩
  refine List.forall_mem_cons.mpr ⟨hG _ k_785, ?_⟩
  refine List.forall_mem_cons.mpr ⟨hG _ k_786, ?_⟩
  refine List.forall_mem_cons.mpr ⟨hG _ k_724, ?_⟩
  refine List.forall_mem_cons.mpr ⟨dcl_of (hG _ k_724) (hG _ k_725), ?_⟩
  refine List.forall_mem_cons.mpr ⟨hG _ k_724, ?_⟩
  refine List.forall_mem_cons.mpr ⟨hG _ k_725, ?_⟩
  refine List.forall_mem_cons.mpr ⟨hG _ k_726, ?_⟩
  refine List.forall_mem_cons.mpr ⟨hG _ k_727, ?_⟩
  refine List.forall_mem_cons.mpr ⟨dcl_of (hG _ k_727) (hG _ k_728), ?_⟩
  refine List.forall_mem_cons.mpr ⟨hG _ k_727, ?_⟩
  refine List.forall_mem_cons.mpr ⟨hG _ k_728, ?_⟩
  refine List.forall_mem_cons.mpr ⟨hG _ k_729, ?_⟩
  refine List.forall_mem_cons.mpr ⟨hG _ k_703, ?_⟩
  refine List.forall_mem_cons.mpr ⟨dcl_of (hG _ k_703) (hG _ k_704), ?_⟩
  refine List.forall_mem_cons.mpr ⟨hG _ k_783, ?_⟩
  refine List.forall_mem_cons.mpr ⟨hG _ k_775, ?_⟩
  refine List.forall_mem_cons.mpr ⟨cst_of (hG _ k_775), ?_⟩
  refine List.forall_mem_cons.mpr ⟨hG _ k_777, ?_⟩
  refine List.forall_mem_cons.mpr ⟨hG _ k_713, ?_⟩
  refine List.forall_mem_cons.mpr ⟨hG _ k_778, ?_⟩
  refine List.forall_mem_cons.mpr ⟨hG _ k_779, ?_⟩
  refine List.forall_mem_cons.mpr ⟨hG _ k_780, ?_⟩
  refine List.forall_mem_cons.mpr ⟨hG _ k_781, ?_⟩
  refine List.forall_mem_cons.mpr ⟨h1.ref, ?_⟩
  refine List.forall_mem_cons.mpr ⟨h2.ref, ?_⟩
  refine List.forall_mem_cons.mpr ⟨hG _ k_701, ?_⟩
  refine List.forall_mem_cons.mpr ⟨hG _ k_700, ?_⟩
  refine List.forall_mem_cons.mpr ⟨hG _ k_782, ?_⟩
  exact fun _ h => absurd h List.not_mem_nil
/-- what a launch says whose flags leave no stack traces -/
def NoTr (l : Launch) : Prop := ∀ e : Env, l.admits e → e.platform.stackTraces = false
section THR
variable {p : Program} {l : Launch} {e : Env} {R : Room} {s : State} {m : MethodId} {args : Array Value} {below : List Frame} {meth : Method} {c : Code}
variable {cc : ByteArray} {pc : Nat} {ls : Array Slot} {dC : Nat → ClassId} {dI : Nat → Nat → Nat} {tk : Nat → ClassId} {A : Nat → Prop} {ws : va_W}
/-- new X; dup; the constructor; athrow: at a place where nothing has been written -/
theorem ro_throw {X : String} {i1 i2 nL : Nat} (hx : p.tables.exec = Jvm.exec) (hb : c.code = cc) (hml : c.maxLocals = nL) (hown : s.vm.findClass "EditorServer" = some m.cls) (hlk : meth.locks = false) (hxt : c.exceptionTable.toList = []) (hG : ∀ w ∈ gW, w.before args s = true) (hg : Gl dC dI tk A s) (hst : St dC dI A s.heap s.heap [] ws) (hl : NoTr l)
    (hcl : Cond.classLink "EditorServer" i1 X ∈ gW) (hins : Cond.instantiable X 6 ∈ gW) (hini : Cond.initialized X ∈ gW) (hfit : Bundle.fit X = true) (hoa : ∀ a ∈ Bundle.ownAtoms0 "EditorServer" i2 X ["java/lang/RuntimeException", "java/lang/Exception"], a.before args s = true) (hsize : ls.size = nL)
    (d1 : decode cc pc = .ok (.new i1, 3)) (d2 : decode cc (pc + 3) = .ok (.dup, 1)) (d3 : decode cc (pc + 4) = .ok (.invokespecial i2, 3)) (d4 : decode cc (pc + 7) = .ok (.athrow, 1)) :
    W p l e (rmn 6 100 1 6) s m args below meth c s.heap [] 0 0 (MQX below (QX dC dI A X ws) args s 1 6 A) (F0 m pc ls []) := by
  refine W.newc (n := 6) hx hb hown (hG _ hcl) (hG _ hins) (hG _ hini) rfl d1 (by decide) (by decide) (fun cC kC f1 f2 f3 f4 => ?_)
  refine lv_dup hx hb d2 rfl ?_
  intro T hT X9
  obtain ⟨U, st, hrun, hend, hW, hsame, ce, hce, oc⟩ := X9.ctorThrow0 hx (hl e X9.admits) (own := "EditorServer") (cls := X) (names := ["java/lang/RuntimeException", "java/lang/Exception"]) (ic := i2) hown hfit (by decide) hoa (fun x h => absurd h List.not_mem_nil) f1 f2 (a := s.heap.size) (by rw [hT]; simp [freshCell]) (Nat.le_refl _)
    (g := F0 m (pc + 3 + 1) ls [.ref s.heap.size, .ref s.heap.size]) rfl (by rw [hml]; exact hsize) rfl rfl rfl (by rw [hb]; exact d3) (by rw [hb]; exact d4) (by rw [hxt]; exact fun x h => absurd h List.not_mem_nil) (by decide) (Nat.le_of_ble_eq_true rfl)
  have hkeep : ∀ q : Nat, q < s.heap.size → U.heap[q]? = s.heap[q]? := by
    intro q hq
    have h0 : s.heap[q]? = some s.heap[q] := Array.getElem?_eq_getElem hq
    obtain ⟨c2, h1, h2, h3, h4⟩ := hsame.2.2.2.2.2 q _ h0
    rw [h0]
    refine h1.trans (congrArg some ?_)
    rw [h2]
    have h5 : c2.slots = s.heap[q].slots := by
      apply Array.ext_getElem?
      intro i
      exact h4 i List.not_mem_nil
    rw [h5]
  have hsz : s.heap.size ≤ U.heap.size := hsame.2.1
  refine ⟨U, st, .threw s.heap.size, hrun, hend, ⟨⟨s.heap.size, ce, rfl, hce, oc.vm, ?_, ?_, hst.2.1⟩, hsz, fun q hq _ => hkeep q hq⟩, [], ⟨⟨_, rfl⟩, hW, hsame⟩, fun q h => absurd h List.not_mem_nil⟩
  · rw [hW.alike.findClass]
    exact oc.cls
  · exact fun k q hk => (hst.1 k q hk).kept (hkeep q.1 (hst.1 k q hk).lt)
end THR
/-! the catch -/
section CTC
variable {e : Env} {s : State} {f : JFrame} {a : Addr}
theorem hd_yes {Q : Handler → Pre} {E : CtlPost} {d : Bool} {acts : List Action} {x : ExceptionTableEntry} {t : List ExceptionTableEntry} {c : ClassId} {cell : Cell} (hx : covers x f.pc = true) (h0 : x.catchType ≠ 0) (hl : s.vm.ClassLinks e.platform f.method.cls x.catchType c) (hcell : s.heap[a]? = some cell) (hobj : cell.vm = .none) (hk : ∃ k, s.vm.classes[cell.cls]? = some k) (hc : ∃ k, s.vm.classes[c]? = some k) (b : Bool) (hfit : s.vm.assignable cell.cls c = b) :
    wp (findHandler.go f a (x :: t)) Q E e d acts s ↔ if b = true then Q (.found x.handlerPc) d acts (s.setVm (s.vm.noted f.method.cls x.catchType (.cls c))) else wp (findHandler.go f a t) Q E e d acts (s.setVm (s.vm.noted f.method.cls x.catchType (.cls c))) := by
  simp only [covers] at hx
  obtain ⟨ha, ht⟩ := (resolveClass_links e.toSetting hl).op (op := VmOp.resolveClass f.method.cls x.catchType) rfl
  have hal : s.vm.Alike (s.vm.noted f.method.cls x.catchType (.cls c)) := (Vm.Alike.refl s.vm).noted _ _ _
  obtain ⟨k1, hk1⟩ := hk
  obtain ⟨k2, hk2⟩ := hc
  obtain ⟨k3, hk3, -⟩ := hal.2.2 _ _ hk1
  obtain ⟨k4, hk4, -⟩ := hal.2.2 _ _ hk2
  have hf9 : (s.vm.noted f.method.cls x.catchType (.cls c)).assignable cell.cls c = b := by rw [hal.assignable]; exact hfit
  have hob : ∀ k, cell.vm ≠ .statics k := fun k h => by rw [hobj] at h; cases h
  cases b <;> simp [findHandler.go, hx, h0, ha, ht, hcell, hob, hk3, hk4, hf9, VmOp.dirties, VmOp.acts]
theorem th_step {r : List Frame} {pc : Nat} {vm2 : Vm} (hfind : ∀ (Q : Handler → Pre) (E : CtlPost) (d : Bool) (acts : List Action), wp (findHandler f a) Q E e d acts s ↔ Q (.found pc) d acts (s.setVm vm2)) : (stepThrowing e s a (.java f :: r)).Is ((s.setVm vm2).setFrames (.java { f with pc := pc, stack := [.ref a] } :: r)) [] := by
  simp only [stepThrowing, searchFrame, vmDo]
  generalize hr : Sem.go _ e false [] s = res
  obtain ⟨as, rfl, ha⟩ := Sem.eq_ok_of hr (a := Handler.found pc) (s' := s.setVm vm2) (acts' := []) (by simp [hfind _ _ _ _])
  exact ⟨rfl, ha⟩
theorem th_caught {tb : Tables} {S target : State} {g : JFrame} {c : Code} {below : List Frame} (h : At S g.method c below) {pc : Nat} {vm2 : Vm}
    (hfind : ∀ (Q : Handler → Pre) (E : CtlPost) (d : Bool) (acts : List Action), wp (findHandler g a) Q E e d acts ((S.setTop g).pushFrame (.throwing a)) ↔ Q (.found pc) d acts (((S.setTop g).pushFrame (.throwing a)).setVm vm2))
    (hrest : Steps tb e below ((S.setVm vm2).setTop { g with pc := pc, stack := [.ref a] }) target) : Steps tb e below ((S.setTop g).pushFrame (.throwing a)) target := by
  obtain ⟨hgo, hw⟩ := h.throwing a
  refine Steps.head hgo hw ?_
  rw [stepThread_throwing (frames_entered h.top _), (th_step (s := (S.setTop g).pushFrame (.throwing a)) hfind).1]
  obtain ⟨g₀, hg⟩ := Option.isSome_iff_exists.mp h.top
  obtain ⟨r, hr⟩ := State.topJava?_eq_some.mp hg
  have hr2 : (S.setVm vm2).frames = .java g₀ :: r := hr
  rw [State.setTop_of_frames _ hr2] at hrest
  have key : ∀ (u : State) (F G : List Frame), ((u.setFrames F).setVm vm2).setFrames G = (u.setVm vm2).setFrames G := fun u F G => by
    rw [show (u.setFrames F).setVm vm2 = (u.setVm vm2).setFrames F from rfl, State.setFrames_setFrames]
  rw [hr, List.tail_cons, State.pushFrame, key, State.setTop_of_frames _ hr, key]
  exact hrest
end CTC
