section CCH
variable {p : Program} {l : Launch} {e : Env} {R : Room} {s : State} {m : MethodId} {args : Array Value} {below : List Frame} {meth : Method} {c : Code} {H : Heap} {locs : List Loc} {cells slots : Nat} {Q : State → Prop}
variable {cc : ByteArray} {pc : Nat} {ls : Array Slot} {rest : List Value} {dC : Nat → ClassId} {dI : Nat → Nat → Nat} {tk : Nat → ClassId} {A : Nat → Prop} {ws : va_W} {own C : String} {index : Nat}
/-- the search for a handler ends at hpc, whatever is thrown of class X -/
def FndX (e : Env) (s : State) (f : JFrame) (tb : List ExceptionTableEntry) (X : String) (hpc : Nat) : Prop := ∀ (S : State) (a : Addr) (cell : Cell), s.WarmedH S.vm → S.heap[a]? = some cell → cell.vm = .none → s.vm.findClass X = some cell.cls → (∃ k, s.vm.classes[cell.cls]? = some k) → ∃ vm2, s.WarmedH vm2 ∧ ∀ (Q : Handler → Pre) (E : CtlPost) (d : Bool) (acts : List Action), wp (findHandler.go f a tb) Q E e d acts S ↔ Q (.found hpc) d acts (S.setVm vm2)
theorem fnd_1 {f : JFrame} {x : ExceptionTableEntry} {t : List ExceptionTableEntry} {X : String} (hpl : e.platform.magicAccessors = ({} : Platform).magicAccessors) (hx : covers x f.pc = true) (h0 : x.catchType ≠ 0) (hown : s.vm.findClass own = some f.method.cls) (hl : (Cond.classLink own x.catchType X).before args s = true) : FndX e s f (x :: t) X x.handlerPc := by
  intro S a cell hW hcell hv hcls hk
  obtain ⟨c2, hc2, hcl⟩ := Cond.classLink_spec hown hl e.platform hpl
  cases hcls.symm.trans hc2
  obtain ⟨k1, hk1⟩ := hk
  obtain ⟨dk, _, _, kt, hd, _, _, _, _, hkt, _, hopen⟩ := hcl.here
  obtain ⟨k2, hk2, -⟩ := hW.alike.2.2 _ _ hk1
  refine ⟨S.vm.noted f.method.cls x.catchType (.cls cell.cls), hW.noted hd hopen (State.rightAt_cls hcl), fun Q E d acts => ?_⟩
  rw [hd_yes hx h0 (hW.classLinks hcl) hcell hv ⟨k2, hk2⟩ ⟨k2, hk2⟩ true (asg_self _ _)]
  simp
theorem fnd_2 {f : JFrame} {x1 x2 : ExceptionTableEntry} {t : List ExceptionTableEntry} {X1 X2 : String} (hpl : e.platform.magicAccessors = ({} : Platform).magicAccessors) (hx1 : covers x1 f.pc = true) (h1 : x1.catchType ≠ 0) (hx2 : covers x2 f.pc = true) (h2 : x2.catchType ≠ 0) (hown : s.vm.findClass own = some f.method.cls) (hl1 : (Cond.classLink own x1.catchType X1).before args s = true) (hl2 : (Cond.classLink own x2.catchType X2).before args s = true) (hno : ∀ a b : ClassId, s.vm.findClass X2 = some a → s.vm.findClass X1 = some b → s.vm.assignable a b = false) : FndX e s f (x1 :: x2 :: t) X2 x2.handlerPc := by
  intro S a cell hW hcell hv hcls hk
  obtain ⟨c1, hc1, hcl⟩ := Cond.classLink_spec hown hl1 e.platform hpl
  obtain ⟨k1, hk1⟩ := id hk
  obtain ⟨dk, _, _, kt, hd, _, _, _, _, hkt, _, hopen⟩ := hcl.here
  obtain ⟨k2, hk2, -⟩ := hW.alike.2.2 _ _ hk1
  obtain ⟨k3, hk3, -⟩ := hW.alike.2.2 _ _ hkt
  have hW2 : s.WarmedH (S.setVm (S.vm.noted f.method.cls x1.catchType (.cls c1))).vm := hW.noted hd hopen (State.rightAt_cls hcl)
  obtain ⟨vm2, hv2, hq⟩ := fnd_1 (t := t) hpl hx2 h2 hown hl2 (S.setVm (S.vm.noted f.method.cls x1.catchType (.cls c1))) a cell hW2 hcell hv hcls hk
  refine ⟨vm2, hv2, fun Q E d acts => ?_⟩
  rw [hd_yes hx1 h1 (hW.classLinks hcl) hcell hv ⟨k2, hk2⟩ ⟨k3, hk3⟩ false (by rw [hW.alike.assignable]; exact hno _ _ hcls hc1)]
  simp only [Bool.false_eq_true, if_false]
  exact hq Q E d acts
theorem cl_catch {y : MethodName} {bytes : ByteArray} {mL nL n : Nat} {ret : Option FieldType} {b q0 ci : Nat} {X : String} {T0 : u_T} {N : Nat} {fs : List Value} {As st0 : List Value} {hpc : Nat} (hx : p.tables.exec = Jvm.exec) (hb : c.code = cc) (hml : c.maxLocals = nL) (hown : s.vm.findClass own = some m.cls) (hG : ∀ w ∈ gW, w.before args s = true) (hg : Gl dC dI tk A s) (hM : CtX l dC dI tk A y bytes mL ret (.ref b :: As) X ws)
    (h1 : Cond.methodLink own index y ∈ gW) (h2 : Cond.instanceMethod y ∈ gW) (h3 : Cond.selects C y y ∈ gW) (h4 : Cond.initialized y.cls ∈ gW) (h5 : Cond.code y bytes mL ret ∈ gW) (hd : y.cls ≠ "java/lang/invoke/MethodHandle" ∧ y.cls ≠ "java/lang/invoke/VarHandle" ∧ (parseMethodDescriptor y.desc).map (fun d => d.parameters.length) = some n) (hR : 7 ≤ R.frames ∧ 8 + (mL + 11) + 100 ≤ R.locals)
    (hst : St dC dI A s.heap H locs ws) (hc : mCl[ci]? = some (C, T0, N)) (he : ws[q0]? = some (b, .inr (ci, fs))) (hn : As.length = n) (hsize : ls.size = nL) (hstack : st0 = As.reverse ++ .ref b :: rest) (hWr : (rest.map fun v => v.category).sum ≤ 8) (hf : cells + 1 ≤ R.cells ∧ slots + 6 ≤ R.slots) (hdg : decode cc pc = .ok (.invokevirtual index, 3))
    (hfind : FndX e s (F0 m pc ls rest) c.exceptionTable.toList X hpc)
    (kk : ∀ (xa : Nat) (H1 : Heap) (locs1 : List Loc), St dC dI A s.heap H1 locs1 ws → W p l e R s m args below meth c H1 locs1 (cells + 1) (slots + 6) Q (F0 m hpc ls [.ref xa])) : W p l e R s m args below meth c H locs cells slots Q (F0 m pc ls st0) := by
  unfold CtX MetX at hM
  obtain ⟨hbl, ⟨cellB, hcB, hoB, hclB⟩, hPc⟩ := pr_V (av := As) hg hst hc he
  subst hb
  intro T hT X9
  have hcode := hG _ h5
  obtain ⟨mk, methM, hnamed, hmethM, hstM, habM⟩ := Cond.instanceMethod_spec (hG _ h2)
  obtain ⟨methM2, cM, hmethM2, hcM, -, hlM, -, -, -, hsigM⟩ := Cond.code_spec hnamed hcode
  cases hmethM.symm.trans hmethM2
  obtain ⟨c2, r2, m2, q1, q2, q3, q4, kP, hkP, hkPi⟩ := Cond.selects_spec (hG _ h3)
  cases hclB.symm.trans q1
  cases (State.methodFound?_of_named hnamed ⟨hd.1, hd.2.1⟩).symm.trans q2
  cases hnamed.symm.trans q3
  have hselP : selectMethod e.platform s.vm cellB.cls mk = .method mk := by rw [Launch.admits_selectMethod X9.admits]; exact q4
  have hlen : As.length = methM.sig.parameters.length := by
    have h9 := hd.2.2
    rw [hsigM] at h9
    rw [hn]
    exact (Option.some.inj h9).symm
  obtain ⟨vm₁, X₁, hstep₁⟩ := X9.invokevirtual hx hown (hG _ h1) hnamed hmethM hstM hkP hkPi ⟨hd.1, hd.2.1⟩ (a := b) (cell := cellB) (by rw [hT]; exact hcB)
    (fun z h => by rw [h] at hoB; cases hoB) hselP hmethM habM hkP hkPi (g := F0 m pc ls st0) rfl (argsL := As) (rest := rest) hlen hstack hdg
  have hn1 := X₁.named hnamed
  have hwd : ∀ w ∈ Cond.code y bytes mL ret :: gW, ∀ (a2 : Array Value) (U : State), s.WarmedH U.vm → w.before a2 U = true := by
    intro w hw a2 U hWU
    have hgd : w ∈ gW := by
      rcases List.mem_cons.mp hw with rfl | hw
      · exact h5
      · exact hw
    exact word_at hWU (good_of_word (List.mem_filter.mp hgd).2) (hG w hgd)
  have hini := hwd _ (List.mem_cons_of_mem _ h4) (Value.ref b :: As).toArray (T.setVm vm₁) X₁.warmed
  have hcd := hwd _ List.mem_cons_self (Value.ref b :: As).toArray (T.setVm vm₁) X₁.warmed
  obtain ⟨methY, cY, hmY, hcY, -, hlY, -, -, -, -⟩ := Cond.code_spec hn1 hcd
  obtain ⟨kY, hkY, -⟩ := className_of_methodNamed hn1
  have hinitY : kY.init = .initialized := Cond.initialized_spec (findClass_of_methodNamed hn1) hkY hini
  have hcur : At (T.setVm vm₁) m c below := X₁.here
  have happ : (headSpec (Cond.code y bytes mL ret :: gW) (rmn 6 100 1 6)).appliesLoose y e.platform ((T.setVm vm₁).calling (F0 m pc ls rest) mk (Value.ref b :: As).toArray) = true :=
    Spec.appliesLoose_calling (g := F0 m pc ls rest) hcur hdg hn1 hkY hinitY
      (X₁.room_calling (g := F0 m pc ls rest) (R' := rmn 6 100 1 6) (by rw [hml]; exact hsize) hmY hcY (by show 6 + 1 ≤ R.frames; omega) (by rw [hlY]; show 2 * 0 + (rest.map fun v => v.category).sum + (mL + 11) + 100 ≤ R.locals; omega) hf.1 hf.2) (atoms_intro fun w hw => hwd w hw _ _ X₁.warmed)
  obtain ⟨mid, hmid⟩ := hcur.above
  have hfr : ((T.setVm vm₁).setTop (F0 m pc ls rest)).frames = (.java (F0 m pc ls rest) :: mid) ++ below := by rw [State.frames_setTop' _ hcur.top, hmid]; rfl
  obtain ⟨o, s₂, hsteps, -, hend, hq⟩ := Steps.callFree hM p X₁.admits X₁.cas X₁.clock (acts := []) hfr happ (hbl _ _ _ _ (hPc (T.setVm vm₁) hT X₁.warmed)) trivial
  have hq9 : QX dC dI A X ws (Value.ref b :: As).toArray ((T.setVm vm₁).calling (F0 m pc ls rest) mk (Value.ref b :: As).toArray) o s₂ ∧ ∃ L, te_F ((T.setVm vm₁).calling (F0 m pc ls rest) mk (Value.ref b :: As).toArray) o s₂ L 1 6 ∧ ∀ q ∈ L, A q.base := hq
  obtain ⟨⟨⟨xa, cell, rfl, hcx, hvx, hfx, hPo⟩, hF⟩, L, ⟨-, hW2, hs2⟩, hL⟩ := hq9
  rw [State.frames_setTop' _ hcur.top, X₁.tail] at hend
  obtain ⟨T2, X2, hWT, hsm, hteq⟩ := X₁.outOfThrown (g := F0 m pc ls rest) rfl hend hW2 hs2
  have hh2 : s₂.heap = T2.heap := by rw [hteq]; exact throwing_heap _ _ _
  have hv2 : s₂.vm = T2.vm := by rw [hteq]; exact throwing_vm _ _ _
  have hfx2 : s.vm.findClass X = some cell.cls := by rw [← X2.warmed.alike.findClass, ← hv2]; exact hfx
  have hkx : ∃ k, s.vm.classes[cell.cls]? = some k := (Vm.findClass_spec hfx2).imp fun _ h => h.1
  obtain ⟨vm2, hWv, hgo⟩ := hfind ((T2.setTop (F0 m pc ls rest)).pushFrame (.throwing xa)) xa cell (by rw [throwing_vm]; exact X2.warmed) (by rw [throwing_heap, ← hh2]; exact hcx) hvx hfx2 hkx
  have X3 := X2.noted hWv
  have hz : H.size ≤ T2.heap.size := by rw [← hh2, ← hT]; exact hF.1
  have hk : ∀ q : Nat, q < H.size → ¬ A q → T2.heap[q]? = H[q]? := fun q a1 a2 => by
    rw [← hh2, ← hT]
    exact hF.2 q (by show q < T.heap.size; rw [hT]; exact a1) a2
  obtain ⟨t, st1, hQ⟩ := kk xa T2.heap (locs ++ L) ⟨by rw [← hh2]; exact hPo.1, hPo.2, Nat.le_trans hst.2.2.1 hz, fun q a1 a2 => by
      rw [hk q (Nat.lt_of_lt_of_le a1 hst.2.2.1) a2]
      exact hst.2.2.2.1 q a1 a2, fun q hq => by
      rcases List.mem_append.mp hq with h | h
      · exact hst.2.2.2.2 q h
      · exact hL q h⟩ (T2.setVm vm2) rfl X3
  refine ⟨t, ?_, hQ⟩
  refine hstep₁ _ fun acts => ?_
  rw [doInvoke_state]
  refine hsteps.trans ?_
  rw [hteq]
  refine th_caught (e := e) (a := xa) X2.here (fun Q2 E d2 acts2 => ?_) st1
  rw [W.findHandler_eq (meth := meth) (code := c) (by rw [throwing_vm]; exact X2.method') X2.code]
  exact hgo Q2 E d2 acts2
end CCH
/-! methods with a table of handlers -/
theorem entW {l : Launch} {dC : Nat → ClassId} {dI : Nat → Nat → Nat} {tk : Nat → ClassId} {A : Nat → Prop} {y : MethodName} {b : ByteArray} {mL : Nat} {ret : Option FieldType} {hh : List (Nat × Nat × Nat × Nat)} {fr lo mc ms : Nat} {av : List Value} {ws : va_W} {Qc : Array Value → State → Outcome → State → Prop} (hy : plainName y.cls = true) (hlen : (lg_sl av).length ≤ mL)
    (body : ∀ (p : Program) (e : Env) (s : State) (m : MethodId) (args : Array Value) (below : List Frame) (meth : Method) (c : Code), p.tables.exec = Jvm.exec → c.code = b → meth.sig.returnType = ret → c.maxLocals = mL → s.vm.findClass y.cls = some m.cls → meth.locks = false → c.exceptionTable.toList.map (fun h => (h.startPc, h.endPc, h.handlerPc, h.catchType)) = hh → e.platform.magicAccessors = ({} : Platform).magicAccessors → (∀ w ∈ gW, w.before args s = true) → Gl dC dI tk A s → St dC dI A s.heap s.heap [] ws → ∀ ls : Array Slot, lv_has ls mL (lv_args 0 av) →
      W p l e (rmn fr lo mc ms) s m args below meth c s.heap [] 0 0 (MQ below Qc args s mc ms A) (F0 m 0 ls [])) : Met l y (Cond.codeWith y b mL ret hh :: gW) (rmn fr lo mc ms) (va_Pc av (Pr dC dI tk A ws)) Qc mc ms A := by
  refine va_MetW (cc := b) (maxL := mL) (ret := ret) (hh := hh) hy rfl ?_
  intro p e s m args below meth c s₁ B hml hv
  obtain ⟨rfl, hg, hP, hD⟩ := hv
  have hts := atoms_spec (ws := Cond.codeWith y b mL ret hh :: gW) B.pre
  rw [lg_entry_eq]
  have X9 := Stand.of_body B
  have hxt : c.exceptionTable.toList.map (fun h => (h.startPc, h.endPc, h.handlerPc, h.catchType)) = hh := by
    obtain ⟨m9, meth2, c2, hn9, g1, g2, -, -, g3, -, -, -⟩ := Cond.codeWith_spec (hts _ List.mem_cons_self)
    cases B.named.symm.trans hn9
    cases B.method.symm.trans g1
    cases X9.code.symm.trans g2
    exact g3
  exact body p e s m _ below meth c B.exec B.bytes B.returns hml (findClass_of_methodNamed B.named) B.notSynchronized hxt (by rw [X9.admits.platform]) (fun w hw => hts w (List.mem_cons_of_mem _ hw)) hg ⟨hP, hD, va_S.rf⟩ _ (lv_entry av hlen)
section RSW
variable {p : Program} {l : Launch} {e : Env} {R : Room} {s : State} {m : MethodId} {args : Array Value} {below : List Frame} {meth : Method} {c : Code} {H : Heap} {locs : List Loc} {cells slots : Nat} {Q : State → Prop}
/-- a static method with a table of handlers is called -/
theorem run_SW {y : MethodName} {bytes cc : ByteArray} {maxL nL mc ms n index : Nat} {ret : Option FieldType} {hh : List (Nat × Nat × Nat × Nat)} {rm : Room} {Pc : Array Value → State → Prop} {Qc : Array Value → State → Outcome → State → Prop} {free : Addr → Prop} {own : String} {As rest : List Value} {g : JFrame}
    (hx : p.tables.exec = Jvm.exec) (hb : c.code = cc) (hml : c.maxLocals = nL) (hown : s.vm.findClass own = some m.cls) (hG : ∀ w ∈ gW, w.before args s = true) (hM : Met l y (Cond.codeWith y bytes maxL ret hh :: gW) rm Pc Qc mc ms free) (hrc : rm.cells = mc) (hrs : rm.slots = ms) (hR : rm.frames + 1 ≤ R.frames ∧ 8 + (maxL + 11) + rm.locals ≤ R.locals)
    (h1 : Cond.methodLink own index y ∈ gW) (h2 : Cond.static y ∈ gW) (h4 : Cond.initialized y.cls ∈ gW) (h5 : Cond.codeWith y bytes maxL ret hh ∈ gW) (hd : y.cls ≠ "java/lang/invoke/MethodHandle" ∧ y.cls ≠ "java/lang/invoke/VarHandle" ∧ (parseMethodDescriptor y.desc).map (fun d => d.parameters.length) = some n) (hp : PreS s H Pc As)
    (hg : g.method = m) (hn : As.length = n) (hsize : g.locals.size = nL) (hstack : g.stack = As.reverse ++ rest) (hWr : 2 * g.monitorRoom + (rest.map fun v => v.category).sum ≤ 8) (hdg : decode cc g.pc = .ok (.invokestatic index, 3)) (hf : cells + mc ≤ R.cells ∧ slots + ms ≤ R.slots) :
    va_Run p l e R s m args below meth c H locs cells slots mc ms g rest (Qc As.toArray) free := by
  have hwd : ∀ w ∈ Cond.codeWith y bytes maxL ret hh :: gW, ∀ (a2 : Array Value) (U : State), s.WarmedH U.vm → w.before a2 U = true := by
    intro w hw a2 U hWU
    have hgd : w ∈ gW := by
      rcases List.mem_cons.mp hw with rfl | hw
      · exact h5
      · exact hw
    exact word_at hWU (good_of_word (List.mem_filter.mp hgd).2) (hG w hgd)
  have hK : Back l R p e below s args y 3 8 (PreOf R mc ms Pc) (PostOf Qc mc ms free) := va_backW (hh := hh) (bytes := bytes) (maxL := maxL) (ret := ret) hM hp.1 hrc hrs hR.1 hR.2 hwd List.mem_cons_self (fun a2 U hWU => hwd _ (List.mem_cons_of_mem _ h4) a2 U hWU)
  subst hb
  intro T hT X9
  obtain ⟨mk, methM, cM, hnamed, hmethM, -, -, -, -, -, -, hsigM⟩ := Cond.codeWith_spec (hG _ h5)
  have hstatic : methM.isStatic = true := Cond.static_spec hnamed hmethM (hG _ h2)
  obtain ⟨kP, hkP, -⟩ := className_of_methodNamed hnamed
  have hinitP : kP.init = .initialized := Cond.initialized_spec (findClass_of_methodNamed hnamed) hkP (hG _ h4)
  have hlen : As.length = methM.sig.parameters.length := by
    have h9 := hd.2.2
    rw [hsigM] at h9
    rw [hn]
    exact (Option.some.inj h9).symm
  obtain ⟨vm₁, X₁, hstep₁⟩ := X9.invokestatic hx hown (hG _ h1) hnamed hmethM hstatic hkP hinitP ⟨hd.1, hd.2.1⟩ (g := g) hg (argsL := As) (rest := rest) hlen hstack hdg
  obtain ⟨v, ⟨U2, l2, c2, s2⟩, X2, ⟨g2, mk2, t, L, e1, e2, hq, g3, hL, g4, g5⟩, hsteps⟩ := hK m meth c ⟨T.setVm vm₁, locs, cells, slots⟩ { g with stack := rest } (.invokestatic index) mk As.toArray X₁ hg (hsize.trans hml.symm) hdg hWr (X₁.named hnamed) ⟨hf.1, hf.2, hp.2 (T.setVm vm₁) hT X₁.warmed⟩
  dsimp only [Pt.U, Pt.locs, Pt.cells, Pt.slots] at X2 e1 e2 g3 g4 g5 hsteps
  subst g3; subst g4; subst g5
  exact ⟨v, (T.setVm vm₁).calling g2 mk2 As.toArray, t, U2, L, hT, X2, hL, e1, e2, hq, fun target h => hstep₁ _ fun acts => by rw [doInvoke_state]; exact hsteps.trans h⟩
end RSW
