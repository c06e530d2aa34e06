def lp {ε β : Type} (body : ε → Option (ε ⊕ β)) : Nat → ε → Option β
  | 0, _ => none
  | n + 1, x => match body x with
    | none => none
    | some (.inl y) => lp body n y
    | some (.inr b) => some b
theorem lp_u {ε β : Type} {body : ε → Option (ε ⊕ β)} {q : β} (Φ : ε → Prop) (step : ∀ (x : ε) (r : ε ⊕ β), body x = some r → (∀ y, r = .inl y → Φ y) → (∀ b, r = .inr b → b = q) → Φ x) : ∀ (n : Nat) (x : ε), lp body n x = some q → Φ x := by
  intro n
  induction n with
  | zero => intro x h; cases h
  | succ n ih =>
    intro x h
    cases hb : body x with
    | none => simp [lp, hb] at h
    | some r =>
      cases r with
      | inl y => exact step x _ hb (fun y' e => by cases e; exact ih _ (by simpa [lp, hb] using h)) (fun b e => by cases e)
      | inr b => exact step x _ hb (fun y' e => by cases e) (fun b' e => by cases e; simpa [lp, hb] using h)
theorem sw_out4 {x : Int32} (h0 : ¬ x = 0) (h1 : ¬ x = 1) (h2 : ¬ x = 2) (h3 : ¬ x = 3) : x.toInt < 0 ∨ 3 < x.toInt := by
  have k0 : ¬ x.toInt = 0 := fun z => h0 (Int32.toInt.inj (z.trans (by decide)))
  have k1 : ¬ x.toInt = 1 := fun z => h1 (Int32.toInt.inj (z.trans (by decide)))
  have k2 : ¬ x.toInt = 2 := fun z => h2 (Int32.toInt.inj (z.trans (by decide)))
  have k3 : ¬ x.toInt = 3 := fun z => h3 (Int32.toInt.inj (z.trans (by decide)))
  omega
/-! contracts of methods that make no cells -/
def QI (dC : Nat → ClassId) (dI : Nat → Nat → Nat) (A : Nat → Prop) (r0 : Int32) (ws1 : va_W) : Array Value → State → Outcome → State → Prop := va_Qi (fun r (_ : Unit) => r = r0) (fun _ t => Po dC dI A ws1 t) A
def QV (dC : Nat → ClassId) (dI : Nat → Nat → Nat) (A : Nat → Prop) (ws1 : va_W) : Array Value → State → Outcome → State → Prop := va_Qv (fun (_ : Unit) => True) (fun _ t => Po dC dI A ws1 t) A
def CtI (l : Launch) (dC : Nat → ClassId) (dI : Nat → Nat → Nat) (tk : Nat → ClassId) (A : Nat → Prop) (y : MethodName) (b : ByteArray) (mL : Nat) (ret : Option FieldType) (fr lo : Nat) (av : List Value) (ws : va_W) (r0 : Int32) (ws1 : va_W) : Prop := Met l y (Cond.code y b mL ret :: gW) (rmo fr lo) (va_Pc av (Pr dC dI tk A ws)) (QI dC dI A r0 ws1) 0 0 A
def CtV (l : Launch) (dC : Nat → ClassId) (dI : Nat → Nat → Nat) (tk : Nat → ClassId) (A : Nat → Prop) (y : MethodName) (b : ByteArray) (mL : Nat) (fr lo : Nat) (av : List Value) (ws : va_W) (ws1 : va_W) : Prop := Met l y (Cond.code y b mL none :: gW) (rmo fr lo) (va_Pc av (Pr dC dI tk A ws)) (QV dC dI A ws1) 0 0 A
theorem ent {l : Launch} {dC : Nat → ClassId} {dI : Nat → Nat → Nat} {tk : Nat → ClassId} {A : Nat → Prop} {y : MethodName} {b : ByteArray} {mL : Nat} {ret : Option FieldType} {fr lo : Nat} {av : List Value} {ws : va_W} {Qc : Array Value → State → Outcome → State → Prop} (hy : plainName y.cls = true) (hlen : (lg_sl av).length ≤ mL)
    (body : ∀ (p : Program) (e : Env) (s : State) (m : MethodId) (args : Array Value) (below : List Frame) (meth : Method) (c : Code), p.tables.exec = Jvm.exec → c.code = b → meth.sig.returnType = ret → c.maxLocals = mL → s.vm.findClass y.cls = some m.cls → meth.locks = false → (∀ w ∈ gW, w.before args s = true) → Gl dC dI tk A s → St dC dI A s.heap s.heap [] ws → ∀ ls : Array Slot, lv_has ls mL (lv_args 0 av) →
      W p l e (rmo fr lo) s m args below meth c s.heap [] 0 0 (MQ below Qc args s 0 0 A) (F0 m 0 ls [])) : Met l y (Cond.code y b mL ret :: gW) (rmo fr lo) (va_Pc av (Pr dC dI tk A ws)) Qc 0 0 A := by
  refine Met.ofW (cc := b) (maxL := mL) (ret := ret) hy rfl ?_
  intro p e s m args below meth c s₁ B hml hv
  obtain ⟨rfl, hg, hP, hD⟩ := hv
  have hts := atoms_spec (ws := Cond.code y b mL ret :: gW) B.pre
  rw [lg_entry_eq]
  exact body p e s m _ below meth c B.exec B.bytes B.returns hml (findClass_of_methodNamed B.named) B.notSynchronized (fun w hw => hts w (List.mem_cons_of_mem _ hw)) hg ⟨hP, hD, va_S.rf⟩ _ (lv_entry av hlen)
section RT
variable {p : Program} {l : Launch} {e : Env} {R : Room} {s : State} {m : MethodId} {args : Array Value} {below : List Frame} {meth : Method} {c : Code} {H : Heap} {locs : List Loc} {cells slots : Nat} {Q : State → Prop}
variable {cc : ByteArray} {pc : Nat} {ls : Array Slot} {rest : List Value} {dC : Nat → ClassId} {dI : Nat → Nat → Nat} {tk : Nat → ClassId} {A : Nat → Prop} {ws ws1 : va_W} {own C : String} {index : Nat}
theorem rt_i {v r0 : Int32} {ty : FieldType} (hx : p.tables.exec = Jvm.exec) (hb : c.code = cc) (hr : meth.sig.returnType = some ty) (hlk : meth.locks = false) (hn : narrow ty (.int v) = .int v) (hst : St dC dI A s.heap H locs ws1) (he : v = r0) (hdg : decode cc pc = .ok (.ireturn, 1)) :
    W p l e R s m args below meth c H locs cells slots (MQ below (QI dC dI A r0 ws1) args s cells slots A) (F0 m pc ls [.int v]) :=
  W.zret hx hb hr hn (fun t ht _ => ⟨⟨v, (), rfl, he, by rw [ht]; exact hst.1, hst.2.1⟩, hst.2.2.F ht⟩) hst.2.2.2.2 hdg hlk
theorem rt_v (hx : p.tables.exec = Jvm.exec) (hb : c.code = cc) (hr : meth.sig.returnType = none) (hlk : meth.locks = false) (hst : St dC dI A s.heap H locs ws1) (hdg : decode cc pc = .ok (.return_, 1)) :
    W p l e R s m args below meth c H locs cells slots (MQ below (QV dC dI A ws1) args s cells slots A) (F0 m pc ls []) :=
  W.vret hx hb hr (fun t ht _ => ⟨⟨(), rfl, trivial, by rw [ht]; exact hst.1, hst.2.1⟩, hst.2.2.F ht⟩) hst.2.2.2.2 hdg hlk
theorem cl_vi {y : MethodName} {bytes : ByteArray} {mL nL n fr lo : Nat} {ret : Option FieldType} {b q0 ci : Nat} {T : u_T} {N : Nat} {fs : List Value} {As : List Value} {st0 : List Value} {r0 : Int32} (hx : p.tables.exec = Jvm.exec) (hb : c.code = cc) (hml : c.maxLocals = nL) (hown : s.vm.findClass own = some m.cls) (hG : ∀ w ∈ gW, w.before args s = true) (hg : Gl dC dI tk A s) (hM : CtI l dC dI tk A y bytes mL ret fr lo (.ref b :: As) ws r0 ws1)
    (cw : CallW R s args own C index y bytes mL ret (Cond.code y bytes mL ret :: gW) (rmo fr lo) 0 0 n) (hst : St dC dI A s.heap H locs ws) (hc : mCl[ci]? = some (C, T, N)) (he : ws[q0]? = some (b, .inr (ci, fs))) (hn : As.length = n) (hsize : ls.size = nL) (hstack : st0 = As.reverse ++ .ref b :: rest) (hW : (rest.map fun v => v.category).sum ≤ 8) (hf : cells ≤ R.cells ∧ slots ≤ R.slots) (hdg : decode cc pc = .ok (.invokevirtual index, 3))
    (kk : ∀ (H1 : Heap) (locs1 : List Loc), St dC dI A s.heap H1 locs1 ws1 → W p l e R s m args below meth c H1 locs1 cells slots Q (F0 m (pc + 3) ls (.int r0 :: rest))) : W p l e R s m args below meth c H locs cells slots Q (F0 m pc ls st0) := by
  refine va_calli (va_runV (As := As) (rest := rest) ⟨hx, hb, hml, hown, hG⟩ hM cw (pr_V hg hst hc he) rfl hn hsize hstack (lv_room hW) hdg hf) hst.2.2 (fun q _ h => h) (fun q h => h) (fun r u t H1 locs1 ht hvm hw hB hz1 hk1 hS => ?_)
  have hw : r = r0 := hw
  subst hw
  exact kk H1 locs1 ⟨by rw [← ht]; exact hB.1, hB.2, hS⟩
theorem cl_vv {y : MethodName} {bytes : ByteArray} {mL nL n fr lo : Nat} {b q0 ci : Nat} {T : u_T} {N : Nat} {fs : List Value} {As : List Value} {st0 : List Value} (hx : p.tables.exec = Jvm.exec) (hb : c.code = cc) (hml : c.maxLocals = nL) (hown : s.vm.findClass own = some m.cls) (hG : ∀ w ∈ gW, w.before args s = true) (hg : Gl dC dI tk A s) (hM : CtV l dC dI tk A y bytes mL fr lo (.ref b :: As) ws ws1)
    (cw : CallW R s args own C index y bytes mL none (Cond.code y bytes mL none :: gW) (rmo fr lo) 0 0 n) (hst : St dC dI A s.heap H locs ws) (hc : mCl[ci]? = some (C, T, N)) (he : ws[q0]? = some (b, .inr (ci, fs))) (hn : As.length = n) (hsize : ls.size = nL) (hstack : st0 = As.reverse ++ .ref b :: rest) (hW : (rest.map fun v => v.category).sum ≤ 8) (hf : cells ≤ R.cells ∧ slots ≤ R.slots) (hdg : decode cc pc = .ok (.invokevirtual index, 3))
    (kk : ∀ (H1 : Heap) (locs1 : List Loc), St dC dI A s.heap H1 locs1 ws1 → W p l e R s m args below meth c H1 locs1 cells slots Q (F0 m (pc + 3) ls rest)) : W p l e R s m args below meth c H locs cells slots Q (F0 m pc ls st0) := by
  refine va_callv (va_runV (As := As) (rest := rest) ⟨hx, hb, hml, hown, hG⟩ hM cw (pr_V hg hst hc he) rfl hn hsize hstack (lv_room hW) hdg hf) hst.2.2 (fun q _ h => h) (fun q h => h) (fun u t H1 locs1 ht hvm hw hB hz1 hk1 hS => ?_)
  exact kk H1 locs1 ⟨by rw [← ht]; exact hB.1, hB.2, hS⟩
theorem cl_si {y : MethodName} {bytes : ByteArray} {mL nL n fr lo : Nat} {ret : Option FieldType} {As : List Value} {st0 : List Value} {r0 : Int32} (hx : p.tables.exec = Jvm.exec) (hb : c.code = cc) (hml : c.maxLocals = nL) (hown : s.vm.findClass own = some m.cls) (hG : ∀ w ∈ gW, w.before args s = true) (hg : Gl dC dI tk A s) (hM : CtI l dC dI tk A y bytes mL ret fr lo As ws r0 ws1)
    (cw : CallB R s args own index y bytes mL ret (Cond.code y bytes mL ret :: gW) (rmo fr lo) 0 0 n ∧ (Cond.static y).before args s = true) (hst : St dC dI A s.heap H locs ws) (hn : As.length = n) (hsize : ls.size = nL) (hstack : st0 = As.reverse ++ rest) (hW : (rest.map fun v => v.category).sum ≤ 8) (hf : cells ≤ R.cells ∧ slots ≤ R.slots) (hdg : decode cc pc = .ok (.invokestatic index, 3))
    (kk : ∀ (H1 : Heap) (locs1 : List Loc), St dC dI A s.heap H1 locs1 ws1 → W p l e R s m args below meth c H1 locs1 cells slots Q (F0 m (pc + 3) ls (.int r0 :: rest))) : W p l e R s m args below meth c H locs cells slots Q (F0 m pc ls st0) := by
  refine va_calli (va_runS (As := As) (rest := rest) ⟨hx, hb, hml, hown, hG⟩ hM cw (pr_S hg hst) rfl hn hsize hstack (lv_room hW) hdg hf) hst.2.2 (fun q _ h => h) (fun q h => h) (fun r u t H1 locs1 ht hvm hw hB hz1 hk1 hS => ?_)
  have hw : r = r0 := hw
  subst hw
  exact kk H1 locs1 ⟨by rw [← ht]; exact hB.1, hB.2, hS⟩
end RT
