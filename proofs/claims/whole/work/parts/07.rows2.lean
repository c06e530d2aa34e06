theorem t_37 : Cond.methodLinkNest "EditorServer" 9 ⟨"EditorServer$Frame", "<init>", "()V"⟩ "EditorServer" ∈ tables_1 := List.mem_of_getElem? (i := 37) (by decide +kernel)
theorem t_42 : Cond.fieldLinkNest "EditorServer" 18 "EditorServer$Frame" "body" "[C" "EditorServer" ∈ tables_1 := List.mem_of_getElem? (i := 42) (by decide +kernel)
theorem t_44 : Cond.fieldLinkNest "EditorServer" 61 "EditorServer$Frame" "broken" "Z" "EditorServer" ∈ tables_1 := List.mem_of_getElem? (i := 44) (by decide +kernel)
theorem t_48 : Cond.fieldLinkNest "EditorServer" 167 "EditorServer$Frame" "announced" "I" "EditorServer" ∈ tables_1 := List.mem_of_getElem? (i := 48) (by decide +kernel)
theorem t_121 : Cond.methodLinkNest "EditorServer$Shelf" 19 ⟨"EditorServer$Text", "<init>", "()V"⟩ "EditorServer" ∈ tables_1 := List.mem_of_getElem? (i := 121) (by decide +kernel)
theorem t_126 : Cond.fieldLinkNest "EditorServer" 157 "EditorServer$Text" "letters" "[C" "EditorServer" ∈ tables_1 := List.mem_of_getElem? (i := 126) (by decide +kernel)
theorem t_128 : Cond.fieldLinkNest "EditorServer$Document" 30 "EditorServer$Text" "size" "I" "EditorServer" ∈ tables_1 := List.mem_of_getElem? (i := 128) (by decide +kernel)
theorem t_129 : Cond.fieldLinkNest "EditorServer$Asked" 45 "EditorServer$Text" "size" "I" "EditorServer" ∈ tables_1 := List.mem_of_getElem? (i := 129) (by decide +kernel)
theorem t_130 : Cond.fieldLinkNest "EditorServer$Shelf" 80 "EditorServer$Text" "size" "I" "EditorServer" ∈ tables_1 := List.mem_of_getElem? (i := 130) (by decide +kernel)
theorem t_131 : Cond.fieldLinkNest "EditorServer" 146 "EditorServer$Text" "size" "I" "EditorServer" ∈ tables_1 := List.mem_of_getElem? (i := 131) (by decide +kernel)
theorem t_138 : Cond.methodLinkNest "EditorServer$Shelf" 24 ⟨"EditorServer$Document", "<init>", "()V"⟩ "EditorServer" ∈ tables_1 := List.mem_of_getElem? (i := 138) (by decide +kernel)
theorem t_143 : Cond.methodLinkNest "EditorServer$Document" 15 ⟨"EditorServer$Text", "<init>", "()V"⟩ "EditorServer" ∈ tables_1 := List.mem_of_getElem? (i := 143) (by decide +kernel)
theorem t_145 : Cond.fieldLinkNest "EditorServer" 160 "EditorServer$Document" "title" "[C" "EditorServer" ∈ tables_1 := List.mem_of_getElem? (i := 145) (by decide +kernel)
theorem t_147 : Cond.fieldLinkNest "EditorServer$Shelf" 62 "EditorServer$Document" "content" "LEditorServer$Text;" "EditorServer" ∈ tables_1 := List.mem_of_getElem? (i := 147) (by decide +kernel)
theorem t_148 : Cond.fieldLinkNest "EditorServer" 142 "EditorServer$Document" "content" "LEditorServer$Text;" "EditorServer" ∈ tables_1 := List.mem_of_getElem? (i := 148) (by decide +kernel)
theorem t_150 : Cond.fieldLinkNest "EditorServer" 151 "EditorServer$Document" "titleSize" "I" "EditorServer" ∈ tables_1 := List.mem_of_getElem? (i := 150) (by decide +kernel)
theorem t_152 : Cond.fieldLinkNest "EditorServer$Shelf" 59 "EditorServer$Document" "version" "I" "EditorServer" ∈ tables_1 := List.mem_of_getElem? (i := 152) (by decide +kernel)
theorem t_153 : Cond.fieldLinkNest "EditorServer" 137 "EditorServer$Document" "version" "I" "EditorServer" ∈ tables_1 := List.mem_of_getElem? (i := 153) (by decide +kernel)
theorem t_164 : Cond.fieldLinkNest "EditorServer" 134 "EditorServer$Shelf" "rows" "[LEditorServer$Document;" "EditorServer" ∈ tables_1 := List.mem_of_getElem? (i := 164) (by decide +kernel)
theorem t_167 : Cond.fieldLinkNest "EditorServer" 133 "EditorServer$Shelf" "count" "I" "EditorServer" ∈ tables_1 := List.mem_of_getElem? (i := 167) (by decide +kernel)
theorem t_184 : Cond.methodLinkNest "EditorServer$Queue" 17 ⟨"EditorServer$Asked", "<init>", "()V"⟩ "EditorServer" ∈ tables_1 := List.mem_of_getElem? (i := 184) (by decide +kernel)
theorem t_189 : Cond.methodLinkNest "EditorServer$Asked" 11 ⟨"EditorServer$Text", "<init>", "()V"⟩ "EditorServer" ∈ tables_1 := List.mem_of_getElem? (i := 189) (by decide +kernel)
theorem t_191 : Cond.fieldLinkNest "EditorServer" 250 "EditorServer$Asked" "content" "LEditorServer$Text;" "EditorServer" ∈ tables_1 := List.mem_of_getElem? (i := 191) (by decide +kernel)
theorem t_192 : Cond.fieldLinkNest "EditorServer$Queue" 22 "EditorServer$Asked" "id" "I" "EditorServer" ∈ tables_1 := List.mem_of_getElem? (i := 192) (by decide +kernel)
theorem t_193 : Cond.fieldLinkNest "EditorServer" 88 "EditorServer$Asked" "id" "I" "EditorServer" ∈ tables_1 := List.mem_of_getElem? (i := 193) (by decide +kernel)
theorem t_195 : Cond.fieldLinkNest "EditorServer" 247 "EditorServer$Asked" "kind" "I" "EditorServer" ∈ tables_1 := List.mem_of_getElem? (i := 195) (by decide +kernel)
theorem t_213 : Cond.fieldLinkNest "EditorServer" 84 "EditorServer$Queue" "rows" "[LEditorServer$Asked;" "EditorServer" ∈ tables_1 := List.mem_of_getElem? (i := 213) (by decide +kernel)
theorem t_215 : Cond.fieldLinkNest "EditorServer" 78 "EditorServer$Queue" "count" "I" "EditorServer" ∈ tables_1 := List.mem_of_getElem? (i := 215) (by decide +kernel)
theorem t_223 : Cond.methodLinkNest "EditorServer" 45 ⟨"EditorServer$Answers", "<init>", "()V"⟩ "EditorServer" ∈ tables_1 := List.mem_of_getElem? (i := 223) (by decide +kernel)
theorem t_261 : Cond.fieldLinkNest "EditorServer" 109 "EditorServer$Answers" "ids" "[I" "EditorServer" ∈ tables_1 := List.mem_of_getElem? (i := 261) (by decide +kernel)
theorem t_263 : Cond.fieldLinkNest "EditorServer" 113 "EditorServer$Answers" "withId" "[Z" "EditorServer" ∈ tables_1 := List.mem_of_getElem? (i := 263) (by decide +kernel)
theorem t_265 : Cond.fieldLinkNest "EditorServer" 117 "EditorServer$Answers" "withResult" "[Z" "EditorServer" ∈ tables_1 := List.mem_of_getElem? (i := 265) (by decide +kernel)
theorem t_267 : Cond.fieldLinkNest "EditorServer" 120 "EditorServer$Answers" "contents" "[I" "EditorServer" ∈ tables_1 := List.mem_of_getElem? (i := 267) (by decide +kernel)
theorem t_270 : Cond.fieldLinkNest "EditorServer" 108 "EditorServer$Answers" "count" "I" "EditorServer" ∈ tables_1 := List.mem_of_getElem? (i := 270) (by decide +kernel)
theorem t_324 : Cond.methodLinkNest "EditorServer$Frame" 31 ⟨"EditorServer", "isDigit", "(C)Z"⟩ "EditorServer" ∈ tables_1 := List.mem_of_getElem? (i := 324) (by decide +kernel)
theorem t_374 : Cond.methodLinkNest "EditorServer$Values" 75 ⟨"EditorServer", "isDigit", "(C)Z"⟩ "EditorServer" ∈ tables_1 := List.mem_of_getElem? (i := 374) (by decide +kernel)
theorem va_S.same {A : Nat → Prop} {H0 H : Heap} {locs : List Loc} (h : va_S A H0 H locs) : va_S A H0 H locs := h
/-! worlds up to their order -/
theorem va_P.mem {D : va_G} {cl : List vw_C} {ws : va_W} {H : Heap} : va_P D cl ws H ↔ ∀ q ∈ ws, va_at D cl q H := by
  constructor
  · intro h q hq
    obtain ⟨k, hk⟩ := List.getElem?_of_mem hq
    exact h k q hk
  · intro h k q hk
    exact h q (List.mem_of_getElem? hk)
theorem va_D.nd {A : Nat → Prop} {ws : va_W} : va_D A ws ↔ (ws.map (fun q => q.1)).Nodup ∧ ∀ q ∈ ws, A q.1 := by
  rw [List.nodup_iff_pairwise_ne, List.pairwise_iff_getElem]
  constructor
  · intro h
    refine ⟨fun i j hi hj hij e => ?_, fun q hq => ?_⟩
    · rw [List.length_map] at hi hj
      rw [List.getElem_map, List.getElem_map] at e
      have := h.1 i j _ _ (List.getElem?_eq_getElem hi) (List.getElem?_eq_getElem hj) e
      omega
    · obtain ⟨k, hk⟩ := List.getElem?_of_mem hq
      exact h.2 k q hk
  · intro h
    refine ⟨fun i j x y hi hj hxy => ?_, fun k q hk => h.2 q (List.mem_of_getElem? hk)⟩
    obtain ⟨li, ei⟩ := List.getElem?_eq_some_iff.mp hi
    obtain ⟨lj, ej⟩ := List.getElem?_eq_some_iff.mp hj
    rcases Nat.lt_trichotomy i j with c | c | c
    · exact absurd (by rw [List.getElem_map, List.getElem_map, ei, ej]; exact hxy) (h.1 i j (by rw [List.length_map]; exact li) (by rw [List.length_map]; exact lj) c)
    · exact c
    · exact absurd (by rw [List.getElem_map, List.getElem_map, ei, ej]; exact hxy.symm) (h.1 j i (by rw [List.length_map]; exact lj) (by rw [List.length_map]; exact li) c)
theorem va_P.pm {D : va_G} {cl : List vw_C} {ws ws' : va_W} {H : Heap} (h : va_P D cl ws H) (p : ws.Perm ws') : va_P D cl ws' H := va_P.mem.mpr fun q hq => va_P.mem.mp h q (p.mem_iff.mpr hq)
theorem va_D.pm {A : Nat → Prop} {ws ws' : va_W} (h : va_D A ws) (p : ws.Perm ws') : va_D A ws' := by
  rw [va_D.nd] at h ⊢
  exact ⟨((p.map (fun q => q.1)).nodup_iff).mp h.1, fun q hq => h.2 q (p.mem_iff.mpr hq)⟩
theorem St.pm {dC : Nat → ClassId} {dI : Nat → Nat → Nat} {A : Nat → Prop} {H0 H : Heap} {locs : List Loc} {ws ws' : va_W} (h : St dC dI A H0 H locs ws) (p : ws.Perm ws') : St dC dI A H0 H locs ws' := ⟨h.1.pm p, h.2.1.pm p, h.2.2⟩
def oX (ci h : Nat) (ks : List (Option Nat)) (sp : List (Nat × Nat)) (tk : Nat → ClassId) (L : Nat → Nat) (g : aG) (ar : aA) : va_W := (h, .inr (ci, oF ks L g)) :: oA sp tk L ar
theorem oW_X {ci h : Nat} {ks : List (Option Nat)} {sp : List (Nat × Nat)} {tk : Nat → ClassId} {L : Nat → Nat} {g : aG} {ar : aA} {rw : va_W} : oW ci h ks sp tk L g ar rw = oX ci h ks sp tk L g ar ++ rw := rfl
theorem pm_2 {a b c : va_W} : (a ++ (b ++ c)).Perm (b ++ (a ++ c)) := by
  rw [← List.append_assoc, ← List.append_assoc]
  exact (List.perm_append_comm).append_right c
section FR
variable {dC : Nat → ClassId} {dI : Nat → Nat → Nat} {tk : Nat → ClassId} {A : Nat → Prop} {H0 H : Heap} {locs : List Loc} {rw : va_W}
variable {c1 c2 c3 c4 h1 h2 h3 h4 : Nat} {k1 k2 k3 k4 : List (Option Nat)} {s1 s2 s3 s4 : List (Nat × Nat)} {L1 L2 L3 L4 : Nat → Nat} {g1 g2 g3 g4 : aG} {a1 a2 a3 a4 : aA}
theorem fr1 (h : St dC dI A H0 H locs (oW c1 h1 k1 s1 tk L1 g1 a1 (oW c2 h2 k2 s2 tk L2 g2 a2 rw))) : St dC dI A H0 H locs (oW c2 h2 k2 s2 tk L2 g2 a2 (oW c1 h1 k1 s1 tk L1 g1 a1 rw)) := by
  simp only [oW_X] at h ⊢
  exact h.pm pm_2
theorem fr2 (h : St dC dI A H0 H locs (oW c1 h1 k1 s1 tk L1 g1 a1 (oW c2 h2 k2 s2 tk L2 g2 a2 (oW c3 h3 k3 s3 tk L3 g3 a3 rw)))) : St dC dI A H0 H locs (oW c3 h3 k3 s3 tk L3 g3 a3 (oW c1 h1 k1 s1 tk L1 g1 a1 (oW c2 h2 k2 s2 tk L2 g2 a2 rw))) := by
  simp only [oW_X] at h ⊢
  exact h.pm ((List.Perm.append_left _ pm_2).trans pm_2)
theorem fr3 (h : St dC dI A H0 H locs (oW c1 h1 k1 s1 tk L1 g1 a1 (oW c2 h2 k2 s2 tk L2 g2 a2 (oW c3 h3 k3 s3 tk L3 g3 a3 (oW c4 h4 k4 s4 tk L4 g4 a4 rw))))) : St dC dI A H0 H locs (oW c4 h4 k4 s4 tk L4 g4 a4 (oW c1 h1 k1 s1 tk L1 g1 a1 (oW c2 h2 k2 s2 tk L2 g2 a2 (oW c3 h3 k3 s3 tk L3 g3 a3 rw)))) := by
  simp only [oW_X] at h ⊢
  exact h.pm ((List.Perm.append_left _ ((List.Perm.append_left _ pm_2).trans pm_2)).trans pm_2)
end FR
def okcs (f : Nat → Int32) (sp n : Nat) : Bool := (List.range n).all (fun i => okc (f (sp + i)))
theorem okcs_u {f : Nat → Int32} {sp n : Nat} (h : okcs f sp n = true) : ∀ i, i < n → fits .char (.int (f (sp + i))) = true := fun i hi => (okc_n (List.all_eq_true.mp h i (List.mem_range.mpr hi))).2
/-- what System.arraycopy asks of its three numbers -/
def cpok (sp dp n : Int32) (n0 n1 : Nat) : Bool := decide (0 ≤ sp ∧ 0 ≤ dp ∧ 0 ≤ n ∧ sp.toNatClampNeg + n.toNatClampNeg ≤ n0 ∧ dp.toNatClampNeg + n.toNatClampNeg ≤ n1)
section RN
variable {p : Program} {l : Launch} {e : Env} {R : Room} {s : State} {m : MethodId} {args : Array Value} {below : List Frame} {meth : Method} {c : Code} {H : Heap} {locs : List Loc} {cells slots : Nat} {Q : State → Prop}
variable {cc : ByteArray} {pc : Nat} {ls : Array Slot} {rest : List Value} {dC : Nat → ClassId} {dI : Nat → Nat → Nat} {tk : Nat → ClassId} {A : Nat → Prop}
variable {ci h : Nat} {ks : List (Option Nat)} {sp : List (Nat × Nat)} {L : Nat → Nat} {g : aG} {ar : aA} {rw : va_W} {own C host : String} {T : u_T} {N index : Nat} {ty : Nat → FieldType}
theorem rn_geti (hx : p.tables.exec = Jvm.exec) (hb : c.code = cc) (hown : s.vm.findClass own = some m.cls) (hG : ∀ w ∈ gW, w.before args s = true) (hg : Gl dC dI tk A s) (hC : Cls ci C T N ty) (hst : St dC dI A s.heap H locs (oW ci h ks sp tk L g ar rw)) (k : Nat) (hk : k < N) (hks : ks[k]? = some none) (hT : (T k).1 = C) (hl : Cond.fieldLinkNest own index C (T k).2.1 (T k).2.2.1 host ∈ tables_1) (hdg : decode cc pc = .ok (.getfield index, 3))
    (kk : W p l e R s m args below meth c H locs cells slots Q (F0 m (pc + 3) ls (.int (g k) :: rest))) : W p l e R s m args below meth c H locs cells slots Q (F0 m pc ls (.ref h :: rest)) :=
  va_getN (D := (dC, dI)) hx hb hG hC.2.1 hown hg.2.1 hst.1 0 oW_0 hC.1 k hk (va_Nw.use rfl (hg.nw _ hl rfl)) (fun _ h9 => by rw [hT] at h9; exact h9) (oF_get hks) hdg kk
theorem rn_geta (hx : p.tables.exec = Jvm.exec) (hb : c.code = cc) (hown : s.vm.findClass own = some m.cls) (hG : ∀ w ∈ gW, w.before args s = true) (hg : Gl dC dI tk A s) (hC : Cls ci C T N ty) (hst : St dC dI A s.heap H locs (oW ci h ks sp tk L g ar rw)) (k j : Nat) (hk : k < N) (hks : ks[k]? = some (some j)) (hT : (T k).1 = C) (hl : Cond.fieldLinkNest own index C (T k).2.1 (T k).2.2.1 host ∈ tables_1) (hdg : decode cc pc = .ok (.getfield index, 3))
    (kk : W p l e R s m args below meth c H locs cells slots Q (F0 m (pc + 3) ls (.ref (L j) :: rest))) : W p l e R s m args below meth c H locs cells slots Q (F0 m pc ls (.ref h :: rest)) :=
  va_getN (D := (dC, dI)) hx hb hG hC.2.1 hown hg.2.1 hst.1 0 oW_0 hC.1 k hk (va_Nw.use rfl (hg.nw _ hl rfl)) (fun _ h9 => by rw [hT] at h9; exact h9) (oF_ref hks) hdg kk
theorem rn_puti (hx : p.tables.exec = Jvm.exec) (hb : c.code = cc) (hown : s.vm.findClass own = some m.cls) (hG : ∀ w ∈ gW, w.before args s = true) (hg : Gl dC dI tk A s) (hC : Cls ci C T N ty) (hst : St dC dI A s.heap H locs (oW ci h ks sp tk L g ar rw)) {x : Int32} (k : Nat) (hk : k < N) (hks : ks[k]? = some none) (hT : (T k).1 = C) (hfin : (T k).2.2.2 = false) (hn : narrow (ty k) (.int x) = .int x) (hf : fits (ty k) (.int x) = true) (hl : Cond.fieldLinkNest own index C (T k).2.1 (T k).2.2.1 host ∈ tables_1) (hdg : decode cc pc = .ok (.putfield index, 3))
    (kk : ∀ (g1 : aG) (H1 : Heap) (locs1 : List Loc), g1 = va_up g k x → St dC dI A s.heap H1 locs1 (oW ci h ks sp tk L g1 ar rw) → W p l e R s m args below meth c H1 locs1 cells slots Q (F0 m (pc + 3) ls rest)) : W p l e R s m args below meth c H locs cells slots Q (F0 m pc ls (.int x :: .ref h :: rest)) := by
  refine va_putN (D := (dC, dI)) hx hb hG hC.2.1 ty hC.2.2.1 hC.2.2.2 hown hg.2.1 hst.1 hst.2.1 hst.2.2 0 oW_0 hC.1 k hk (va_Nw.use rfl (hg.nw _ hl rfl)) (fun _ h9 => by rw [hT] at h9; exact h9) hfin (hC.2.2.1 k hk) hn hf (by rw [oF_len]; exact (List.getElem?_eq_some_iff.mp hks).1) hdg (fun H1 locs1 q1 q2 q3 => ?_)
  rw [oW_s0 hks] at q1 q2
  exact kk _ H1 locs1 rfl ⟨q1, q2, q3⟩
/-- a static method of a nest mate -/
theorem cl_sn {y : MethodName} {bytes : ByteArray} {mL nL n fr lo : Nat} {ret : Option FieldType} {As : List Value} {st0 : List Value} {r0 : Int32} {ws ws1 : va_W} (hx : p.tables.exec = Jvm.exec) (hb : c.code = cc) (hml : c.maxLocals = nL) (hown : s.vm.findClass own = some m.cls) (hG : ∀ w ∈ gW, w.before args s = true) (hg : Gl dC dI tk A s) (hM : CtI l dC dI tk A y bytes mL ret fr lo As ws r0 ws1)
    (hl : Cond.methodLinkNest own index y host ∈ tables_1) (h2 : Cond.static y ∈ gW) (h4 : Cond.initialized y.cls ∈ gW) (h5 : Cond.code y bytes mL ret ∈ gW) (hd : y.cls ≠ "java/lang/invoke/MethodHandle" ∧ y.cls ≠ "java/lang/invoke/VarHandle" ∧ (parseMethodDescriptor y.desc).map (fun d => d.parameters.length) = some n) (hR : (rmo fr lo).frames + 1 ≤ R.frames ∧ 8 + (mL + 11) + (rmo fr lo).locals ≤ R.locals)
    (hst : St dC dI A s.heap H locs ws) (hn : As.length = n) (hsize : ls.size = nL) (hstack : st0 = As.reverse ++ rest) (hW : (rest.map fun v => v.category).sum ≤ 8) (hf : cells ≤ R.cells ∧ slots ≤ R.slots) (hdg : decode cc pc = .ok (.invokestatic index, 3))
    (kk : ∀ (H1 : Heap) (locs1 : List Loc), St dC dI A s.heap H1 locs1 ws1 → W p l e R s m args below meth c H1 locs1 cells slots Q (F0 m (pc + 3) ls (.int r0 :: rest))) : W p l e R s m args below meth c H locs cells slots Q (F0 m pc ls st0) := by
  refine va_calli (va_runSN (As := As) (rest := rest) (host := host) ⟨hx, hb, hml, hown, hG⟩ hM ⟨va_cnB n hG (gW_g fun w hw => ?_) rfl rfl rfl (hg.nw _ hl rfl) (hG _ h4) hd hR, hG _ h2, trivial⟩ (pr_S hg hst) rfl hn hsize hstack (lv_room hW) hdg hf) hst.2.2 (fun q _ h => h) (fun q h => h) (fun r u t H1 locs1 ht hvm hw hB hz1 hk1 hS => ?_)
  · rcases List.mem_cons.mp hw with rfl | hw
    · exact h5
    · exact hw
  · have hw : r = r0 := hw
    subst hw
    exact kk H1 locs1 ⟨by rw [← ht]; exact hB.1, hB.2, hS⟩
end RN

