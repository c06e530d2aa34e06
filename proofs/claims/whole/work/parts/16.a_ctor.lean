def rmn (fr lo mc ms : Nat) : Room := { frames := fr, cells := mc, slots := ms, locals := lo }
theorem entN {l : Launch} {dC : Nat → ClassId} {dI : Nat → Nat → Nat} {tk : Nat → ClassId} {A : Nat → Prop} {y : MethodName} {b : ByteArray} {mL : Nat} {ret : Option FieldType} {fr lo mc ms : Nat} {av : List Value} {ws : va_W} {Qc : Array Value → State → Outcome → State → Prop} (hy : plainName y.cls = true) (hlen : (lg_sl av).length ≤ mL)
    (body : ∀ (p : Program) (e : Env) (s : State) (m : MethodId) (args : Array Value) (below : List Frame) (meth : Method) (c : Code), p.tables.exec = Jvm.exec → c.code = b → meth.sig.returnType = ret → c.maxLocals = mL → s.vm.findClass y.cls = some m.cls → meth.locks = false → meth.name = y.name → (∀ w ∈ gW, w.before args s = true) → Gl dC dI tk A s → St dC dI A s.heap s.heap [] ws → ∀ ls : Array Slot, lv_has ls mL (lv_args 0 av) →
      W p l e (rmn fr lo mc ms) s m args below meth c s.heap [] 0 0 (MQ below Qc args s mc ms A) (F0 m 0 ls [])) : Met l y (Cond.code y b mL ret :: gW) (rmn fr lo mc ms) (va_Pc av (Pr dC dI tk A ws)) Qc mc ms A := by
  refine Met.ofW (cc := b) (maxL := mL) (ret := ret) hy rfl ?_
  intro p e s m args below meth c s₁ B hml hv
  obtain ⟨rfl, hg, hP, hD⟩ := hv
  have hts := atoms_spec (ws := Cond.code y b mL ret :: gW) B.pre
  rw [lg_entry_eq]
  exact body p e s m _ below meth c B.exec B.bytes B.returns hml (findClass_of_methodNamed B.named) B.notSynchronized (name_of_methodNamed B.named B.method).1 (fun w hw => hts w (List.mem_cons_of_mem _ hw)) hg ⟨hP, hD, va_S.rf⟩ _ (lv_entry av hlen)
section NW9
variable {p : Program} {l : Launch} {e : Env} {R : Room} {s : State} {m : MethodId} {args : Array Value} {below : List Frame} {meth : Method} {c : Code} {H : Heap} {locs : List Loc} {cells slots : Nat} {Q : State → Prop}
variable {cc : ByteArray} {pc : Nat} {ls : Array Slot} {rest : List Value} {dC : Nat → ClassId} {dI : Nat → Nat → Nat} {tk : Nat → ClassId} {A : Nat → Prop} {ws : va_W} {own C : String} {T : u_T} {N index ci h : Nat} {ty : Nat → FieldType} {fs : List Value}
theorem ro_newa {at_ : ArrayType} {ty : FieldType} {x : Int32} (t n : Nat) (hx : p.tables.exec = Jvm.exec) (hb : c.code = cc) (hG : ∀ w ∈ gW, w.before args s = true) (hg : Gl dC dI tk A s) (hst : St dC dI A s.heap H locs ws) (hat : newarray.typeOf at_ = ty) (hw : Cond.arrayClass (newarray.typeOf at_) ∈ gW) (ht : (tyL tk)[t]? = some (tk t, ty)) (hra : ∀ (U : State) (cA : ClassId), va_RA U cA ty → U.vm.findClass ("[" ++ ty.toString) = some cA) (ha : ∀ cA : ClassId, vp_cell cA (n, .inl (fun _ => 0)) = arrV cA n (fun _ => defaultValue ty)) (hn : ¬ x < 0) (hN : x.toNatClampNeg = n) (hby : n * componentBytes ty ≤ 536870912) (hcells : cells + 1 ≤ R.cells) (hslots : slots + n ≤ R.slots) (hdg : decode cc pc = .ok (.newarray at_, 2))
    (kk : ∀ (q : Nat) (H1 : Heap), St dC dI A s.heap H1 locs (ws ++ [(q, .inl (tk t, n, .inl (fun _ => 0)))]) → W p l e R s m args below meth c H1 locs (cells + 1) (slots + n) Q (F0 m (pc + 2) ls (.ref q :: rest))) : W p l e R s m args below meth c H locs cells slots Q (F0 m pc ls (.int x :: rest)) := by
  refine va_newa hx hb (hG _ hw) hat hg.2.1 hst.1 hst.2.1 hst.2.2 hg.1 ha hn hN hby hcells hslots hdg (fun q cA H1 qK qP qD qS => ?_)
  have h1 := hra s cA (qK.2 (tyL tk).length (cA, ty) (by rw [List.getElem?_append_right (Nat.le_refl _)]; simp)).2
  have h2 := hra s (tk t) (hg.2.1.2 t _ ht).2
  cases Option.some.inj (h1.symm.trans h2)
  exact kk q H1 ⟨qP, qD, qS⟩
/-- a final field in a constructor; the object stands first in the world -/
theorem ro_putF {v : Value} (hx : p.tables.exec = Jvm.exec) (hb : c.code = cc) (hown : s.vm.findClass own = some m.cls) (hin : meth.name = "<init>") (hG : ∀ w ∈ gW, w.before args s = true) (hg : Gl dC dI tk A s) (hC : Cls ci C T N ty) (hst : St dC dI A s.heap H locs ((h, .inr (ci, fs)) :: ws)) (k : Nat) (hk : k < N) (hT : (T k).1 = own) (hoC : own = C) (hfin : (T k).2.2.2 = true) (hn : narrow (ty k) v = v) (hf : fits (ty k) v = true) (hlen : k < fs.length) (hl : Cond.fieldLink own index C (T k).2.1 (T k).2.2.1 ∈ gW) (hdg : decode cc pc = .ok (.putfield index, 3))
    (kk : ∀ (H1 : Heap) (locs1 : List Loc), St dC dI A s.heap H1 locs1 ((h, .inr (ci, fs.set k v)) :: ws) → W p l e R s m args below meth c H1 locs1 cells slots Q (F0 m (pc + 3) ls rest)) : W p l e R s m args below meth c H locs cells slots Q (F0 m pc ls (v :: .ref h :: rest)) := by
  refine va_putF (D := (dC, dI)) hx hb hG hC.2.1 ty hC.2.2.1 hC.2.2.2 hown hg.2.1 hst.1 hst.2.1 hst.2.2 0 rfl hC.1 k hk (hG _ hl) (fun _ h9 => by rw [hT, hoC] at h9; exact h9) hfin hin hT (hC.2.2.1 k hk) hn hf hlen hdg (fun H1 locs1 q1 q2 q3 => ?_)
  exact kk H1 locs1 ⟨q1, q2, q3⟩
theorem ro_putO {v : Value} (hx : p.tables.exec = Jvm.exec) (hb : c.code = cc) (hown : s.vm.findClass own = some m.cls) (hG : ∀ w ∈ gW, w.before args s = true) (hg : Gl dC dI tk A s) (hC : Cls ci C T N ty) (hst : St dC dI A s.heap H locs ((h, .inr (ci, fs)) :: ws)) (k : Nat) (hk : k < N) (hT : (T k).1 = C) (hfin : (T k).2.2.2 = false) (hn : narrow (ty k) v = v) (hf : fits (ty k) v = true) (hlen : k < fs.length) (hl : Cond.fieldLink own index C (T k).2.1 (T k).2.2.1 ∈ gW) (hdg : decode cc pc = .ok (.putfield index, 3))
    (kk : ∀ (H1 : Heap) (locs1 : List Loc), St dC dI A s.heap H1 locs1 ((h, .inr (ci, fs.set k v)) :: ws) → W p l e R s m args below meth c H1 locs1 cells slots Q (F0 m (pc + 3) ls rest)) : W p l e R s m args below meth c H locs cells slots Q (F0 m pc ls (v :: .ref h :: rest)) := by
  refine va_put (D := (dC, dI)) hx hb hG hC.2.1 ty hC.2.2.1 hC.2.2.2 hown hg.2.1 hst.1 hst.2.1 hst.2.2 0 rfl hC.1 k hk (hG _ hl) (fun _ h9 => by rw [hT] at h9; exact h9) hfin (hC.2.2.1 k hk) hn hf hlen hdg (fun H1 locs1 q1 q2 q3 => ?_)
  exact kk H1 locs1 ⟨q1, q2, q3⟩
theorem rt_vn {S : Type} {u : S} {wf : S → va_W} (hx : p.tables.exec = Jvm.exec) (hb : c.code = cc) (hr : meth.sig.returnType = none) (hlk : meth.locks = false) (hst : St dC dI A s.heap H locs (wf u)) (hdg : decode cc pc = .ok (.return_, 1)) :
    W p l e R s m args below meth c H locs cells slots (MQ below (va_Qv (fun (_ : S) => True) (fun u t => Po dC dI A (wf u) t) A) args s cells slots A) (F0 m pc ls []) :=
  W.vret hx hb hr (fun t ht _ => ⟨⟨u, rfl, trivial, by rw [ht]; exact hst.1, hst.2.1⟩, hst.2.2.F ht⟩) hst.2.2.2.2 hdg hlk
end NW9
