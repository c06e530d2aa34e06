/-! a StringBuilder: its cell, its bytes; Latin-1 alone -/
abbrev SBn : String := "java/lang/StringBuilder"
abbrev ABn : String := "java/lang/AbstractStringBuilder"
theorem sb_s0 : Cond.selects SBn ⟨ABn, "ensureCapacityInternal", "(I)V"⟩ ⟨ABn, "ensureCapacityInternal", "(I)V"⟩ ∈ gW := gW_s (List.mem_of_getElem? (i := 0) rfl) rfl
theorem sb_s1 : Cond.selects SBn ⟨ABn, "newCapacity", "(I)I"⟩ ⟨ABn, "newCapacity", "(I)I"⟩ ∈ gW := gW_s (List.mem_of_getElem? (i := 1) rfl) rfl
theorem sb_s2 : Cond.selects SBn ⟨ABn, "putStringAt", "(ILjava/lang/String;)V"⟩ ⟨ABn, "putStringAt", "(ILjava/lang/String;)V"⟩ ∈ gW := gW_s (List.mem_of_getElem? (i := 2) rfl) rfl
theorem sb_s3 : Cond.selects SBn ⟨ABn, "inflateIfNeededFor", "(Ljava/lang/String;)V"⟩ ⟨ABn, "inflateIfNeededFor", "(Ljava/lang/String;)V"⟩ ∈ gW := gW_s (List.mem_of_getElem? (i := 3) rfl) rfl
theorem k_257 : Cond.superclass "java/lang/StringBuilder" "java/lang/AbstractStringBuilder" ∈ gW := gW_t (List.mem_of_getElem? (i := 257) (by decide +kernel)) (by decide +kernel)
/-- where the bytes lie, how many there are, maybeLatin1, the bytes -/
abbrev sbS : Type := Nat × Nat × Int32 × (Nat → Int32)
def sbF (u : sbS) (n : Nat) : List Value := [.ref u.1, .int 0, .int u.2.2.1, .int (nI n)]
def sbX (hB : Nat) (tk : Nat → ClassId) (u : sbS) (n : Nat) : va_W := [(hB, .inr (10, sbF u n)), (u.1, .inl (tk 3, u.2.1, .inl u.2.2.2))]
def sbW (hB : Nat) (tk : Nat → ClassId) (u : sbS) (n : Nat) (rw : va_W) : va_W := sbX hB tk u n ++ rw
/-- the text that it holds -/
def sbT (t : List Int32) (u : sbS) : Prop := (u.2.1 = 16 ∨ u.2.1 = 34) ∧ t.length ≤ u.2.1 ∧ sb_Fit u.2.2.2 ∧ ∀ i, i < t.length → u.2.2.2 i = t.getD i 0
theorem sbT.cap {t : List Int32} {u : sbS} (h : sbT t u) : 16 ≤ u.2.1 ∧ u.2.1 ≤ 34 := by
  rcases h.1 with e | e <;> rw [e] <;> exact ⟨by decide, by decide⟩
theorem St.drop {dC : Nat → ClassId} {dI : Nat → Nat → Nat} {A : Nat → Prop} {H0 H : Heap} {locs : List Loc} {a r : va_W} (h : St dC dI A H0 H locs (a ++ r)) : St dC dI A H0 H locs r := by
  obtain ⟨h1, h2⟩ := va_D.nd.mp h.2.1
  refine ⟨va_P.mem.mpr fun q hq => va_P.mem.mp h.1 q (List.mem_append_right _ hq), va_D.nd.mpr ⟨?_, fun q hq => h2 q (List.mem_append_right _ hq)⟩, h.2.2⟩
  rw [List.map_append] at h1
  exact (List.nodup_append.mp h1).2.1
def QVp (dC : Nat → ClassId) (dI : Nat → Nat → Nat) (A : Nat → Prop) {S : Type} (P : S → Prop) (wf : S → va_W) : Array Value → State → Outcome → State → Prop := va_Qv P (fun u t => Po dC dI A (wf u) t) A
def QRp (dC : Nat → ClassId) (dI : Nat → Nat → Nat) (A : Nat → Prop) {S : Type} (P : S → Prop) (rf : S → Nat) (wf : S → va_W) : Array Value → State → Outcome → State → Prop := va_Qr P (fun u a t => a = rf u ∧ Po dC dI A (wf u) t) A
def QIp (dC : Nat → ClassId) (dI : Nat → Nat → Nat) (A : Nat → Prop) {S : Type} (P : S → Prop) (r0 : Int32) (wf : S → va_W) : Array Value → State → Outcome → State → Prop := va_Qi (fun r u => r = r0 ∧ P u) (fun u t => Po dC dI A (wf u) t) A
def CtM (l : Launch) (dC : Nat → ClassId) (dI : Nat → Nat → Nat) (tk : Nat → ClassId) (A : Nat → Prop) (y : MethodName) (b : ByteArray) (mL : Nat) (ret : Option FieldType) (fr lo mc ms : Nat) (av : List Value) (ws : va_W) (Qc : Array Value → State → Outcome → State → Prop) : Prop := Met l y (Cond.code y b mL ret :: gW) (rmn fr lo mc ms) (va_Pc av (Pr dC dI tk A ws)) Qc mc ms A
section SBR
variable {p : Program} {l : Launch} {e : Env} {R : Room} {s : State} {m : MethodId} {args : Array Value} {below : List Frame} {meth : Method} {c : Code} {H : Heap} {locs : List Loc} {cells slots : Nat} {Q : State → Prop}
variable {cc : ByteArray} {pc : Nat} {ls : Array Slot} {rest : List Value} {dC : Nat → ClassId} {dI : Nat → Nat → Nat} {tk : Nat → ClassId} {A : Nat → Prop} {ws rw : va_W} {own C : String} {index hB : Nat} {u : sbS} {n : Nat}
theorem sb_get {v : Value} (k : Nat) (hk : k < 4) (hx : p.tables.exec = Jvm.exec) (hb : c.code = cc) (hown : s.vm.findClass own = some m.cls) (hG : ∀ w ∈ gW, w.before args s = true) (hg : Gl dC dI tk A s) (hst : St dC dI A s.heap H locs (sbW hB tk u n rw)) (hv : (sbF u n)[k]? = some v) (hT : (FB k).1 = ABn) (hl : Cond.fieldLink own index ABn (FB k).2.1 (FB k).2.2.1 ∈ gW) (hdg : decode cc pc = .ok (.getfield index, 3))
    (kk : W p l e R s m args below meth c H locs cells slots Q (F0 m (pc + 3) ls (v :: rest))) : W p l e R s m args below meth c H locs cells slots Q (F0 m pc ls (.ref hB :: rest)) :=
  va_get (D := (dC, dI)) (fs := sbF u n) hx hb hG cB.2.1 hown hg.2.1 hst.1 0 rfl cB.1 k hk (hG _ hl) (fun _ h9 => by rw [hT] at h9; exact h9) hv hdg kk
theorem sb_put {v : Value} (k : Nat) (hk : k < 4) (hx : p.tables.exec = Jvm.exec) (hb : c.code = cc) (hown : s.vm.findClass own = some m.cls) (hG : ∀ w ∈ gW, w.before args s = true) (hg : Gl dC dI tk A s) {fs : List Value} {r2 : va_W} (hst : St dC dI A s.heap H locs ((hB, .inr (10, fs)) :: r2)) (hlen : k < fs.length) (hT : (FB k).1 = ABn) (hfin : (FB k).2.2.2 = false) (hn : narrow (tB k) v = v) (hf : fits (tB k) v = true) (hl : Cond.fieldLink own index ABn (FB k).2.1 (FB k).2.2.1 ∈ gW) (hdg : decode cc pc = .ok (.putfield index, 3))
    (kk : ∀ (H1 : Heap) (locs1 : List Loc), St dC dI A s.heap H1 locs1 ((hB, .inr (10, fs.set k v)) :: r2) → W p l e R s m args below meth c H1 locs1 cells slots Q (F0 m (pc + 3) ls rest)) : W p l e R s m args below meth c H locs cells slots Q (F0 m pc ls (v :: .ref hB :: rest)) := by
  refine va_put (D := (dC, dI)) hx hb hG cB.2.1 tB cB.2.2.1 cB.2.2.2 hown hg.2.1 hst.1 hst.2.1 hst.2.2 0 rfl cB.1 k hk (hG _ hl) (fun _ h9 => by rw [hT] at h9; exact h9) hfin (cB.2.2.1 k hk) hn hf hlen hdg (fun H1 locs1 q1 q2 q3 => ?_)
  exact kk H1 locs1 ⟨q1, q2, q3⟩
theorem sb_alen {v : Int32} (hx : p.tables.exec = Jvm.exec) (hb : c.code = cc) (hg : Gl dC dI tk A s) (hst : St dC dI A s.heap H locs (sbW hB tk u n rw)) (hv : Int32.ofNat u.2.1 = v) (hdg : decode cc pc = .ok (.arraylength, 1)) (kk : W p l e R s m args below meth c H locs cells slots Q (F0 m (pc + 1) ls (.int v :: rest))) : W p l e R s m args below meth c H locs cells slots Q (F0 m pc ls (.ref u.1 :: rest)) :=
  va_alen hx hb hg.2.1 hst.1 1 3 rfl rfl hv hdg kk
/-- one byte more -/
theorem sb_bast {i x : Int32} (hx : p.tables.exec = Jvm.exec) (hb : c.code = cc) (hg : Gl dC dI tk A s) {c1 : Nat} {a1 : Nat → Int32} {q1 : Nat} {r1 : va_W} (hst : St dC dI A s.heap H locs ((q1, .inl (tk 3, c1, .inl a1)) :: r1)) (hin : inb i c1 = true) (hdg : decode cc pc = .ok (.bastore, 1))
    (kk : ∀ (H1 : Heap) (locs1 : List Loc), St dC dI A s.heap H1 locs1 ((q1, .inl (tk 3, c1, .inl (upd a1 i.toNatClampNeg (vp_nar .byte x)))) :: r1) → W p l e R s m args below meth c H1 locs1 cells slots Q (F0 m (pc + 1) ls rest)) : W p l e R s m args below meth c H locs cells slots Q (F0 m pc ls (.int x :: .int i :: .ref q1 :: rest)) := by
  refine va_bast hx hb hg.2.1 hst.1 hst.2.1 hst.2.2 0 3 rfl rfl (inb_in hin) hdg (fun H1 locs1 e1 e2 e3 => ?_)
  exact kk H1 locs1 ⟨e1, e2, e3⟩
theorem cwX {y : MethodName} {bytes : ByteArray} {maxL : Nat} {ret : Option FieldType} {rm : Room} (nn : Nat) (hG : ∀ w ∈ gW, w.before args s = true) (h1 : Cond.methodLink own index y ∈ gW) (h2 : Cond.instanceMethod y ∈ gW) (h3 : Cond.selects C y y ∈ gW) (h4 : Cond.initialized y.cls ∈ gW) (h5 : Cond.code y bytes maxL ret ∈ gW)
    (hd : y.cls ≠ "java/lang/invoke/MethodHandle" ∧ y.cls ≠ "java/lang/invoke/VarHandle" ∧ (parseMethodDescriptor y.desc).map (fun d => d.parameters.length) = some nn) (hR : rm.frames + 1 ≤ R.frames ∧ 8 + (maxL + 11) + rm.locals ≤ R.locals) : CallW R s args own C index y bytes maxL ret (Cond.code y bytes maxL ret :: gW) rm rm.cells rm.slots nn := by
  refine ⟨callB_of nn hG (gW_g fun w hw => ?_) rfl rfl rfl (hG _ h4) (hG _ h1) hd hR, hG _ h2, hG _ h3⟩
  rcases List.mem_cons.mp hw with rfl | hw
  · exact h5
  · exact hw
theorem csX {y : MethodName} {bytes : ByteArray} {maxL : Nat} {ret : Option FieldType} {rm : Room} (nn : Nat) (hG : ∀ w ∈ gW, w.before args s = true) (h1 : Cond.methodLink own index y ∈ gW) (h2 : Cond.instanceMethod y ∈ gW) (h3 : Cond.sameMethod y.cls y.cls y.name y.desc ∈ gW) (h6 : Cond.superclass own y.cls ∈ gW) (h4 : Cond.initialized y.cls ∈ gW) (h5 : Cond.code y bytes maxL ret ∈ gW)
    (hd : y.name ≠ "<init>" ∧ (parseMethodDescriptor y.desc).map (fun d => d.parameters.length) = some nn) (hR : rm.frames + 1 ≤ R.frames ∧ 8 + (maxL + 11) + rm.locals ≤ R.locals) : va_CS R s args own index y bytes maxL ret (Cond.code y bytes maxL ret :: gW) rm rm.cells rm.slots nn := by
  refine va_cwSU nn hG (gW_g fun w hw => ?_) rfl rfl rfl hd hR
  simp only [va_wsSU, List.mem_append, List.mem_cons, List.not_mem_nil, or_false] at hw
  rcases hw with (rfl | rfl | rfl | rfl | rfl) | (rfl | hw)
  · exact h1
  · exact h3
  · exact h6
  · exact h2
  · exact h4
  · exact h5
  · exact hw
theorem cl_wv {y : MethodName} {bytes : ByteArray} {mL nL n fr lo : Nat} {b : Nat} {As : List Value} {st0 : List Value} {ws1 : va_W} (hx : p.tables.exec = Jvm.exec) (hb : c.code = cc) (hml : c.maxLocals = nL) (hown : s.vm.findClass own = some m.cls) (hG : ∀ w ∈ gW, w.before args s = true) (hg : Gl dC dI tk A s) (hM : CtV l dC dI tk A y bytes mL fr lo (.ref b :: As) ws ws1)
    (cw : CallW R s args own C index y bytes mL none (Cond.code y bytes mL none :: gW) (rmo fr lo) 0 0 n) (hst : St dC dI A s.heap H locs ws) (hrec : va_O C b A s s.heap) (hn : As.length = n) (hsize : ls.size = nL) (hstack : st0 = As.reverse ++ .ref b :: rest) (hW : (rest.map fun v => v.category).sum ≤ 8) (hf : cells ≤ R.cells ∧ slots ≤ R.slots) (hdg : decode cc pc = .ok (.invokevirtual index, 3))
    (kk : ∀ (H1 : Heap) (locs1 : List Loc), St dC dI A s.heap H1 locs1 ws1 → W p l e R s m args below meth c H1 locs1 cells slots Q (F0 m (pc + 3) ls rest)) : W p l e R s m args below meth c H locs cells slots Q (F0 m pc ls st0) := by
  refine va_callv (va_runV (As := As) (rest := rest) ⟨hx, hb, hml, hown, hG⟩ hM cw (pr_O hg hst hrec) rfl hn hsize hstack (lv_room hW) hdg hf) hst.2.2 (fun q _ h => h) (fun q h => h) (fun u t H1 locs1 ht hvm hw hB hz1 hk1 hS => ?_)
  exact kk H1 locs1 ⟨by rw [← ht]; exact hB.1, hB.2, hS⟩
variable {y : MethodName} {bytes : ByteArray} {mL nL nn fr lo mc ms : Nat} {ret : Option FieldType} {b q0 ci : Nat} {T0 : u_T} {N : Nat} {fs As st0 : List Value} {S : Type} {P : S → Prop} {rf : S → Nat} {r0 : Int32} {wf : S → va_W}
/-- a virtual call, by a contract with rooms -/
theorem cm_run (hx : p.tables.exec = Jvm.exec) (hb : c.code = cc) (hml : c.maxLocals = nL) (hown : s.vm.findClass own = some m.cls) (hG : ∀ w ∈ gW, w.before args s = true) (hg : Gl dC dI tk A s) {Qc : Array Value → State → Outcome → State → Prop} (hM : CtM l dC dI tk A y bytes mL ret fr lo mc ms (.ref b :: As) ws Qc) (cw : CallW R s args own C index y bytes mL ret (Cond.code y bytes mL ret :: gW) (rmn fr lo mc ms) mc ms nn) (hst : St dC dI A s.heap H locs ws) (hc : mCl[ci]? = some (C, T0, N)) (he : ws[q0]? = some (b, .inr (ci, fs))) (hn : As.length = nn) (hsize : ls.size = nL) (hstack : st0 = As.reverse ++ .ref b :: rest) (hWr : (rest.map fun v => v.category).sum ≤ 8) (hf : cells + mc ≤ R.cells ∧ slots + ms ≤ R.slots) (hdg : decode cc pc = .ok (.invokevirtual index, 3)) : va_Run p l e R s m args below meth c H locs cells slots mc ms (F0 m pc ls st0) rest (Qc (Value.ref b :: As).toArray) A :=
  va_runV (As := As) (rest := rest) ⟨hx, hb, hml, hown, hG⟩ hM cw (pr_V hg hst hc he) rfl hn hsize hstack (lv_room hWr) hdg hf
/-- a call of the superclass's method on this -/
theorem cm_sup (hx : p.tables.exec = Jvm.exec) (hb : c.code = cc) (hml : c.maxLocals = nL) (hown : s.vm.findClass own = some m.cls) (hG : ∀ w ∈ gW, w.before args s = true) (hg : Gl dC dI tk A s) {Qc : Array Value → State → Outcome → State → Prop} (hM : CtM l dC dI tk A y bytes mL ret fr lo mc ms (.ref b :: As) ws Qc) (cw : va_CS R s args own index y bytes mL ret (Cond.code y bytes mL ret :: gW) (rmn fr lo mc ms) mc ms nn) (hst : St dC dI A s.heap H locs ws) (hc : mCl[ci]? = some (C, T0, N)) (he : ws[q0]? = some (b, .inr (ci, fs))) (hn : As.length = nn) (hsize : ls.size = nL) (hstack : st0 = As.reverse ++ .ref b :: rest) (hWr : (rest.map fun v => v.category).sum ≤ 8) (hf : cells + mc ≤ R.cells ∧ slots + ms ≤ R.slots) (hdg : decode cc pc = .ok (.invokespecial index, 3)) : va_Run p l e R s m args below meth c H locs cells slots mc ms (F0 m pc ls st0) rest (Qc (Value.ref b :: As).toArray) A :=
  va_runSU (As := As) (rest := rest) (hg.2.1.1 ci _ hc).2 ⟨hx, hb, hml, hown, hG⟩ hM cw (pr_V hg hst hc he) rfl hn hsize hstack (lv_room hWr) hdg hf
theorem cm_sta (hx : p.tables.exec = Jvm.exec) (hb : c.code = cc) (hml : c.maxLocals = nL) (hown : s.vm.findClass own = some m.cls) (hG : ∀ w ∈ gW, w.before args s = true) (hg : Gl dC dI tk A s) {Qc : Array Value → State → Outcome → State → Prop} (hM : CtM l dC dI tk A y bytes mL ret fr lo mc ms As ws Qc) (cw : CallB R s args own index y bytes mL ret (Cond.code y bytes mL ret :: gW) (rmn fr lo mc ms) mc ms nn ∧ (Cond.static y).before args s = true) (hst : St dC dI A s.heap H locs ws) (hn : As.length = nn) (hsize : ls.size = nL) (hstack : st0 = As.reverse ++ rest) (hWr : (rest.map fun v => v.category).sum ≤ 8) (hf : cells + mc ≤ R.cells ∧ slots + ms ≤ R.slots) (hdg : decode cc pc = .ok (.invokestatic index, 3)) : va_Run p l e R s m args below meth c H locs cells slots mc ms (F0 m pc ls st0) rest (Qc As.toArray) A :=
  va_runS (As := As) (rest := rest) ⟨hx, hb, hml, hown, hG⟩ hM cw (pr_S hg hst) rfl hn hsize hstack (lv_room hWr) hdg hf
theorem bk_v {aa : Array Value} {g : JFrame} (hr : va_Run p l e R s m args below meth c H locs cells slots mc ms (F0 m pc ls st0) rest (QVp dC dI A P wf aa) A) (hst : St dC dI A s.heap H locs ws)
    (kk : ∀ (u : S) (H1 : Heap) (locs1 : List Loc), P u → St dC dI A s.heap H1 locs1 (wf u) → W p l e R s m args below meth c H1 locs1 (cells + mc) (slots + ms) Q (F0 m (pc + 3) ls rest)) : W p l e R s m args below meth c H locs cells slots Q (F0 m pc ls st0) :=
  va_callv hr hst.2.2 (fun q _ h => h) (fun q h => h) (fun u t H1 locs1 ht hvm hw hB hz1 hk1 hS => kk u H1 locs1 hw ⟨by rw [← ht]; exact hB.1, hB.2, hS⟩)
theorem bk_r {aa : Array Value} (hr : va_Run p l e R s m args below meth c H locs cells slots mc ms (F0 m pc ls st0) rest (QRp dC dI A P rf wf aa) A) (hst : St dC dI A s.heap H locs ws)
    (kk : ∀ (u : S) (H1 : Heap) (locs1 : List Loc), P u → St dC dI A s.heap H1 locs1 (wf u) → W p l e R s m args below meth c H1 locs1 (cells + mc) (slots + ms) Q (F0 m (pc + 3) ls (.ref (rf u) :: rest))) : W p l e R s m args below meth c H locs cells slots Q (F0 m pc ls st0) := by
  refine va_callr hr hst.2.2 (fun q _ h => h) (fun q h => h) (fun u ra t H1 locs1 ht hvm hw hB hz1 hk1 hS => ?_)
  obtain ⟨rfl, hB⟩ := hB
  exact kk u H1 locs1 hw ⟨by rw [← ht]; exact hB.1, hB.2, hS⟩
theorem bk_i {aa : Array Value} (hr : va_Run p l e R s m args below meth c H locs cells slots mc ms (F0 m pc ls st0) rest (QIp dC dI A P r0 wf aa) A) (hst : St dC dI A s.heap H locs ws)
    (kk : ∀ (u : S) (H1 : Heap) (locs1 : List Loc), P u → St dC dI A s.heap H1 locs1 (wf u) → W p l e R s m args below meth c H1 locs1 (cells + mc) (slots + ms) Q (F0 m (pc + 3) ls (.int r0 :: rest))) : W p l e R s m args below meth c H locs cells slots Q (F0 m pc ls st0) := by
  refine va_calli hr hst.2.2 (fun q _ h => h) (fun q h => h) (fun r u t H1 locs1 ht hvm hw hB hz1 hk1 hS => ?_)
  obtain ⟨rfl, hw⟩ := hw
  exact kk u H1 locs1 hw ⟨by rw [← ht]; exact hB.1, hB.2, hS⟩
theorem rp_v {u : S} (hx : p.tables.exec = Jvm.exec) (hb : c.code = cc) (hr : meth.sig.returnType = none) (hlk : meth.locks = false) (hst : St dC dI A s.heap H locs (wf u)) (hp : P u) (hdg : decode cc pc = .ok (.return_, 1)) :
    W p l e R s m args below meth c H locs cells slots (MQ below (QVp dC dI A P wf) args s cells slots A) (F0 m pc ls []) :=
  W.vret hx hb hr (fun t ht _ => ⟨⟨u, rfl, hp, by rw [ht]; exact hst.1, hst.2.1⟩, hst.2.2.F ht⟩) hst.2.2.2.2 hdg hlk
theorem rp_r {u : S} {v : Nat} {nm : String} (hx : p.tables.exec = Jvm.exec) (hb : c.code = cc) (hr : meth.sig.returnType = some (.object nm)) (hlk : meth.locks = false) (hst : St dC dI A s.heap H locs (wf u)) (hp : P u) (he : v = rf u) (hdg : decode cc pc = .ok (.areturn, 1)) :
    W p l e R s m args below meth c H locs cells slots (MQ below (QRp dC dI A P rf wf) args s cells slots A) (F0 m pc ls [.ref v]) :=
  W.aret hx hb hr (Or.inl ⟨nm, rfl⟩) (Or.inr ⟨v, rfl⟩) (fun t ht _ => ⟨⟨u, v, rfl, hp, he, by rw [ht]; exact hst.1, hst.2.1⟩, hst.2.2.F ht⟩) hst.2.2.2.2 hdg hlk
theorem rp_ra {u : S} {v : Nat} {ty : FieldType} (hx : p.tables.exec = Jvm.exec) (hb : c.code = cc) (hr : meth.sig.returnType = some (.array ty)) (hlk : meth.locks = false) (hst : St dC dI A s.heap H locs (wf u)) (hp : P u) (he : v = rf u) (hdg : decode cc pc = .ok (.areturn, 1)) :
    W p l e R s m args below meth c H locs cells slots (MQ below (QRp dC dI A P rf wf) args s cells slots A) (F0 m pc ls [.ref v]) :=
  W.aret hx hb hr (Or.inr ⟨ty, rfl⟩) (Or.inr ⟨v, rfl⟩) (fun t ht _ => ⟨⟨u, v, rfl, hp, he, by rw [ht]; exact hst.1, hst.2.1⟩, hst.2.2.F ht⟩) hst.2.2.2.2 hdg hlk
theorem rp_i {u : S} {v : Int32} {ty : FieldType} (hx : p.tables.exec = Jvm.exec) (hb : c.code = cc) (hr : meth.sig.returnType = some ty) (hlk : meth.locks = false) (hn : narrow ty (.int v) = .int v) (hst : St dC dI A s.heap H locs (wf u)) (hp : P u) (he : v = r0) (hdg : decode cc pc = .ok (.ireturn, 1)) :
    W p l e R s m args below meth c H locs cells slots (MQ below (QIp dC dI A P r0 wf) args s cells slots A) (F0 m pc ls [.int v]) :=
  W.zret hx hb hr hn (fun t ht _ => ⟨⟨v, u, rfl, ⟨he, hp⟩, by rw [ht]; exact hst.1, hst.2.1⟩, hst.2.2.F ht⟩) hst.2.2.2.2 hdg hlk
/-- System.arraycopy out of a constant's bytes -/
theorem sb_cpyT {b0 n0 : Nat} {f : Nat → Int32} {q1 c1 : Nat} {a1 : Nat → Int32} {r1 : va_W} (hx : p.tables.exec = Jvm.exec) (hb : c.code = cc) (hml : c.maxLocals = ls.size) (hown : s.vm.findClass own = some m.cls) (hG : ∀ w ∈ gW, w.before args s = true) (hg : Gl dC dI tk A s) (hT : va_T .byte b0 n0 (fun j => .int (f j)) A s s.heap) (hst : St dC dI A s.heap H locs ((q1, .inl (tk 3, c1, .inl a1)) :: r1)) (hff : ∀ j, j < n0 → fits .byte (.int (f j)) = true) {dp : Nat} (h5 : dp + n0 ≤ c1) (hc1 : c1 < 2 ^ 31) (hl : Cond.methodLink own index arraycopyName ∈ gW)
    (hfr : 1 ≤ R.frames) (hlo : (rest.map fun v => v.category).sum + (nativeFrameWords "java/lang/System" "arraycopy" 5 + 11) ≤ R.locals) (hdg : decode cc pc = .ok (.invokestatic index, 3))
    (kk : ∀ (H1 : Heap) (locs1 : List Loc), St dC dI A s.heap H1 locs1 ((q1, .inl (tk 3, c1, .inl (va_cpy f a1 0 dp n0))) :: r1) → W p l e R s m args below meth c H1 locs1 cells slots Q (F0 m (pc + 3) ls rest)) : W p l e R s m args below meth c H locs cells slots Q (F0 m pc ls (.int (nI n0) :: .int (nI dp) :: .ref q1 :: .int 0 :: .ref b0 :: rest)) := by
  intro T hT9 X
  obtain ⟨scr, hs1, ⟨hs2, k0, hk0, cm0, hkk0⟩, hs3, hs4, -, hs6, hs7⟩ := hT
  have hc0 : H[b0]? = some scr := by rw [hst.2.2.2.1 b0 (Array.getElem?_eq_some_iff.mp hs1).1 hs7]; exact hs1
  have hcd : H[q1]? = some (vp_cell (tk 3) (c1, .inl a1)) := hst.1 0 _ rfl
  obtain ⟨-, k1, hk1, cm1, hkk1⟩ := (hg.2.1.2 3 _ rfl).1 c1 (fun j => .int (a1 j))
  have i1 : (nI n0).toInt = (n0 : Int) := nI_toInt (by omega)
  have i2 : (nI dp).toInt = (dp : Int) := nI_toInt (by omega)
  have e2 : (nI n0).toNatClampNeg = n0 := nI_clamp (by omega)
  have e3 : (nI dp).toNatClampNeg = dp := nI_clamp (by omega)
  have e4 : (0 : Int32).toNatClampNeg = 0 := by decide
  have e5 : (0 : Int32).toInt = 0 := by decide
  obtain ⟨vm2, X2, step⟩ := X.arraycopy hx hown (hG _ hl) (hG _ k_543) (hG _ k_542) (hG _ k_18) (src := b0) (dst := q1) (cs := scr) (cd := vp_cell (tk 3) (c1, .inl a1)) (srcPos := 0) (destPos := nI dp) (n := nI n0) (by rw [hT9]; exact hc0) (by rw [hT9]; exact hcd)
    hs2 (fun _ h => by cases h) hs3 (fun h => by cases h) hk0 hk1 hkk0 hkk1 (by simp [refKind]) (by decide) (nI_pos (by omega)) (nI_pos (by omega))
    (by rw [e5, i1]; omega)
    (by rw [i2, i1]; show ¬ _ > ((arrV (tk 3) c1 (fun j => .int (a1 j))).slots.size : Int); rw [arrV_size]; omega)
    (fun vm₁ _ i hi => by
      rw [e2] at hi
      have ev : scr.slots.getD ((0 : Int32).toNatClampNeg + i) .null = .int (f i) := by
        rw [e4, Nat.zero_add, Array.getD_eq_getD_getElem?, hs6 i hi]
        rfl
      rw [ev]
      exact ⟨hff i hi, trivial⟩)
    (g := F0 m pc ls (.int (nI n0) :: .int (nI dp) :: .ref q1 :: .int 0 :: .ref b0 :: rest)) rfl (by rw [hml]) (rest := rest) rfl (by rw [hb]; exact hdg) hfr (by show 2 * 0 + _ + _ ≤ _; omega)
  have e1 : copied scr (vp_cell (tk 3) (c1, .inl a1)) 0 (nI dp) (nI n0) = vp_cell (tk 3) (c1, .inl (va_cpy f a1 0 dp n0)) := by
    rw [vp_cell_i, vp_cell_i]
    unfold copied
    rw [e2, e3, e4]
    exact va_copiedX (fun z => Value.int z) scr (tk 3) f a1 (fun j hj => hs6 j hj) (by omega)
  rw [e1] at X2 step
  have hlt : q1 < H.size := (Array.getElem?_eq_some_iff.mp hcd).1
  have oq : ∀ q : Nat, q ≠ q1 → (H.setIfInBounds q1 (vp_cell (tk 3) (c1, .inl (va_cpy f a1 0 dp n0))))[q]? = H[q]? := fun q hq => by simp [Array.getElem?_setIfInBounds, Ne.symm hq]
  have hq1 : ((q1, .inl (tk 3, c1, .inl a1)) :: r1 : va_W)[0]? = some (q1, .inl (tk 3, c1, .inl a1)) := rfl
  obtain ⟨t, a9, b9⟩ := kk (H.setIfInBounds q1 (vp_cell (tk 3) (c1, .inl (va_cpy f a1 0 dp n0)))) _ ⟨hst.1.set hst.2.1 hq1 (show (H.setIfInBounds q1 _)[q1]? = some _ by simp [Array.getElem?_setIfInBounds, hlt]) oq, hst.2.1.set hq1, by simp; exact hst.2.2.1, fun q g1 g2 => by
      rw [oq q (fun e9 => g2 (by rw [e9]; exact hst.2.1.2 0 _ hq1))]
      exact hst.2.2.2.1 q g1 g2, fun q hq => by
      rcases List.mem_append.mp hq with h | h
      · exact hst.2.2.2.2 q h
      · obtain ⟨z, -, hz⟩ := List.mem_map.mp h
        rw [← hz]
        exact hst.2.1.2 0 _ hq1⟩ _ (by rw [← hT9]; rfl) X2
  exact ⟨t, step t a9, b9⟩
end SBR
theorem sb_fitK {f a : Nat → Int32} {d n : Nat} (ha : sb_Fit a) (hf : ∀ k, k < n → fits .byte (.int (f k)) = true) : sb_Fit (va_cpy f a 0 d n) := by
  intro j
  by_cases h : d ≤ j ∧ j < d + n
  · rw [pk_cpy_in h.1 h.2]
    exact hf _ (by omega)
  · rw [pk_cpy_out (by omega)]
    exact ha j
