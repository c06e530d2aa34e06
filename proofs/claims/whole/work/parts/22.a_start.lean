def R_law : String := "EditorServerLaw"
def lw_P (b : Addr) (xs : List Int32) (args : Array Value) (s : State) : Prop := args = #[.ref b] ∧ s.IntsAt b xs ∧ xs.length ≤ 2048 ∧ (Jvm.Cond.and given_1 narrow_1).before args s = true
def lw_Q (_ : Array Value) (s : State) (o : Outcome) (t : State) : Prop := o = .returned (some (.int 1)) ∧ Framed s o t [] 601024 7293034
def lw_Z (below : List Frame) (a : Array Value) (s : State) : State → Prop := fun t => ∃ o, t.status = .running ∧ Ended t below o ∧ lw_Q a s o t
/-- the law's own end, with 1 on the stack, nothing written that was there before, its room as the claim has it -/
theorem lw_ret {p : Program} {l : Launch} {e : Env} {s : State} {m : MethodId} {below : List Frame} {meth : Method} {c : Code} {b : Nat} (hx : p.tables.exec = Jvm.exec) (hb : c.code = code) (hr : meth.sig.returnType = ret) (hlocks : meth.locks = false) {pc : Nat} {H : Heap} {ls : Array Slot} (hdg : decode code pc = .ok (.ireturn, 1)) : W p l e room_1 s m #[Value.ref b] below meth c H [] 601024 7293034 (lw_Z below #[Value.ref b] s) (F0 m pc ls [.int 1]) := by
  intro T hT X
  obtain ⟨fs, hret, hrun, hended, hW, hframe⟩ := X.leave (v := some (.int 1)) (hlocks := hlocks) (fun h => by rw [hr] at h; cases h)
  have hmeth' : T.vm.method? m = some meth := X.method'
  refine ⟨T.setFrames fs, ?_, .returned (some (.int 1)), hrun, hended, rfl, ⟨_, rfl⟩, hW, hframe⟩
  jvm_step X.here [X.here.top, hx, hb, hdg, hmeth', hr, ret, narrow_b1]
  (try refine ⟨rfl, ?_⟩); (try refine ⟨rfl, ?_⟩)
  first | (intro acts; rw [hret _ acts rfl rfl rfl]) | rw [hret _ _ rfl rfl rfl]
  exact Steps.refl _
/-- what holds at the law's entry: the machine, the code, the tables' words (any of lw_tbl by 'hts w (by decide +kernel)'), the script of L ints xs at the cell b, what the Statement gives of the start (any of its parts by flat_of_before) -/
def lw_At (p : Program) (s : State) (m : MethodId) (meth : Method) (c : Code) (b L : Nat) (xs : Nat → Int32) : Prop :=
  p.tables.exec = Jvm.exec ∧ c.code = code ∧ meth.sig.returnType = ret ∧ c.maxLocals = 7 ∧ s.vm.findClass R_law = some m.cls ∧ (∀ w ∈ lw_tbl, w.before #[Value.ref b] s = true) ∧ va_X b L xs s s.heap ∧ b < s.heap.size ∧ meth.locks = false ∧ (Jvm.Cond.and given_1 narrow_1).before #[Value.ref b] s = true
def nrL : List Cond := flatC narrow_1
def sbs (i : Nat) : Nat := ([239, 247, 256, 264, 270, 280, 290, 299, 305, 314, 324, 330, 337, 342, 354, 368, 376, 384, 391, 400, 406, 416, 423, 432, 442, 447, 457, 466, 480] : List Nat).getD i 0
def swi (i : Nat) : Nat := ([379, 431, 432, 441, 450, 475, 481, 482, 483, 488, 493, 509, 510, 555, 560, 565, 570, 575, 591, 596, 597, 602, 612, 628, 633, 858, 945, 946, 947] : List Nat).getD i 0
def tmS (i : Nat) : Term := .string (sown i) (sidx i)
def tmV (i : Nat) : Term := .field (tmS i) "java/lang/String" "value" "[B"
set_option maxRecDepth 100000 in
theorem nr_0 : ∀ i, i < 29 → nrL[sbs i]? = some (Cond.exactly (tmS i) "java/lang/String") ∧ nrL[sbs i + 1]? = some (Cond.eq (.field (tmS i) "java/lang/String" "coder" "B") (.int 0)) ∧ nrL[sbs i + 2]? = some (Cond.arrayOf (tmV i) .byte) ∧ nrL[sbs i + 3]? = some (Cond.eq (.length (tmV i)) (.int (Int32.ofNat (slen i)))) ∧ tables_1[swi i]? = some (Cond.stringRef (sown i) (sidx i) (stxt i)) := by decide +kernel
set_option maxRecDepth 100000 in
theorem nr_4 : ∀ i, i < 29 → ∀ j, j < slen i → nrL[sbs i + 4 + j]? = some (Cond.eq (.elem (tmV i) (.int (Int32.ofNat j))) (.int (sbyt i j))) := by decide +kernel
set_option maxRecDepth 100000 in
theorem nr_DigitOnes : nrL[10]? = some (Cond.arrayOf (.static "java/lang/Integer" "DigitOnes" "[B") .byte) ∧ nrL[11]? = some (Cond.eq (.length (.static "java/lang/Integer" "DigitOnes" "[B")) (.int (Int32.ofNat 100))) ∧ ∀ j, j < 100 → nrL[12 + j]? = some (Cond.eq (.elem (.static "java/lang/Integer" "DigitOnes" "[B") (.int (Int32.ofNat j))) (.int (nI (48 + j % 10)))) := by decide +kernel
set_option maxRecDepth 100000 in
theorem nr_DigitTens : nrL[113]? = some (Cond.arrayOf (.static "java/lang/Integer" "DigitTens" "[B") .byte) ∧ nrL[114]? = some (Cond.eq (.length (.static "java/lang/Integer" "DigitTens" "[B")) (.int (Int32.ofNat 100))) ∧ ∀ j, j < 100 → nrL[115 + j]? = some (Cond.eq (.elem (.static "java/lang/Integer" "DigitTens" "[B") (.int (Int32.ofNat j))) (.int (nI (48 + j / 10)))) := by decide +kernel
set_option maxRecDepth 100000 in
theorem nr_s : nrL[2]? = some (Cond.eq (.static "java/lang/String" "COMPACT_STRINGS" "Z") (.int 1)) ∧ nrL[3]? = some (Cond.isRef (.static "jdk/internal/util/Preconditions" "SIOOBE_FORMATTER" "Ljava/util/function/BiFunction;")) ∧ nrL[7]? = some (Cond.isRef (.static "java/lang/Throwable" "UNASSIGNED_STACK" "[Ljava/lang/StackTraceElement;")) ∧ nrL[8]? = some (Cond.isRef (.static "java/lang/Throwable" "SUPPRESSED_SENTINEL" "Ljava/util/List;")) ∧ nrL[226]? = some (Cond.not (Cond.castable "java/lang/IllegalArgumentException" "java/lang/IndexOutOfBoundsException")) := by decide +kernel
/-- the constants and statics, at the law's start -/
theorem sg_start {s : State} {b : Nat} {A : Nat → Prop} (hts : ∀ w ∈ lw_tbl, w.before #[Value.ref b] s = true) (hgv : (Jvm.Cond.and given_1 narrow_1).before #[Value.ref b] s = true) (hA : ∀ a : Nat, a < s.heap.size → ¬ A a) : ∃ (ad av : Nat → Nat) (d0 d1 : Nat), ∀ dI : Nat → Nat → Nat, dI 1000 = ad → dI 1001 = av → dI 1002 0 = d0 → dI 1002 1 = d1 → SG dI A s := by
  have hn : ∀ {i : Nat} {w : Cond}, nrL[i]? = some w → w.before #[Value.ref b] s = true := fun {i w} h => flat_of_before _ hgv w (by rw [show flatC (Jvm.Cond.and given_1 narrow_1) = flatC given_1 ++ flatC narrow_1 from rfl]; exact List.mem_append_right _ (List.mem_of_getElem? h))
  have hw : ∀ w ∈ tables_1, w.before #[Value.ref b] s = true := fun w h => hts w (List.mem_append_right _ (List.mem_append_left _ h))
  have h0 : ∀ i : Nat, ∃ q : Nat × Nat, i < 29 → va_O "java/lang/String" q.1 A s s.heap ∧ va_OF "java/lang/String" "coder" "B" (.int 0) q.1 A s s.heap ∧ va_OF "java/lang/String" "value" "[B" (.ref q.2) q.1 A s s.heap ∧ va_T .byte q.2 (slen i) (fun j => .int (sbyt i j)) A s s.heap ∧ vk_R (sown i) (sidx i) (stxt i) q.1 s := by
    intro i
    by_cases hi : i < 29
    · obtain ⟨g1, g2, g3, g4, g5⟩ := nr_0 i hi
      obtain ⟨a, c, cA, kA, q1, q2, q3, q4, q5, q6, -⟩ := Cond.exactly_spec (args := #[Value.ref b]) (first := s) (o := none) (s := s) (idx := []) (t := tmS i) (cls := "java/lang/String") (hn g1)
      obtain ⟨t, ht, hT⟩ := va_Tof (f := fun j => .int (sbyt i j)) (A := A) (by have := st_len i hi; omega) (hn g3) (va_eqt (hn g4)) (fun j hj => va_eqt (hn (nr_4 i hi j hj))) hA
      exact ⟨(a, t), fun _ => ⟨⟨cA, q3, q5, by rw [q6]; exact q2, hA a (Array.getElem?_eq_some_iff.mp q3).1⟩, vk_OFof q1 (va_eqt (hn g2)) hA, vk_OFof q1 ht hA, hT, vk_R.of (hw _ (List.mem_of_getElem? g5)) q1⟩⟩
    · exact ⟨(0, 0), fun h => absurd h hi⟩
  obtain ⟨ad, had⟩ := Classical.axiomOfChoice h0
  obtain ⟨o1, o2, o3⟩ := nr_DigitOnes
  obtain ⟨t1, t2, t3⟩ := nr_DigitTens
  obtain ⟨d0, e0, hd0⟩ := va_Tof (N := 100) (f := fun j => .int (nI (48 + j % 10))) (A := A) (by decide) (hn o1) (va_eqt (hn o2)) (fun j hj => va_eqt (hn (o3 j hj))) hA
  obtain ⟨d1, e1, hd1⟩ := va_Tof (N := 100) (f := fun j => .int (nI (48 + j / 10))) (A := A) (by decide) (hn t1) (va_eqt (hn t2)) (fun j hj => va_eqt (hn (t3 j hj))) hA
  obtain ⟨n1, n2, n3, n4, n5⟩ := nr_s
  refine ⟨fun i => (ad i).1, fun i => (ad i).2, d0, d1, fun dI f1 f2 f3 f4 => ?_⟩
  refine ⟨fun i hi => by rw [f1, f2]; exact had i hi, va_Zof (hw _ (List.mem_of_getElem? (i := 237) (by decide +kernel))) (hw _ (List.mem_of_getElem? (i := 12) (by decide +kernel))) (va_eqi (hn n1)) hA, va_Zqof (hw _ (List.mem_of_getElem? (i := 408) (by decide +kernel))) (hw _ (List.mem_of_getElem? (i := 17) (by decide +kernel))) (hn n2) hA, by rw [f3]; exact va_Zof (hw _ (List.mem_of_getElem? (i := 934) (by decide +kernel))) (hw _ (List.mem_of_getElem? (i := 26) (by decide +kernel))) e0 hA, by rw [f3]; exact hd0, by rw [f4]; exact va_Zof (hw _ (List.mem_of_getElem? (i := 936) (by decide +kernel))) (hw _ (List.mem_of_getElem? (i := 26) (by decide +kernel))) e1 hA, by rw [f4]; exact hd1, va_AO.of (hw _ (List.mem_of_getElem? (i := 118) (by decide +kernel))), va_AO.of (hw _ (List.mem_of_getElem? (i := 182) (by decide +kernel))), TS.of (hn n3) (hw _ (List.mem_of_getElem? (i := 707) (by decide +kernel))) hA, TS.of (hn n4) (hw _ (List.mem_of_getElem? (i := 709) (by decide +kernel))) hA, fun x y hx hy => ?_⟩
  have h9 := Cond.holds_not_iff.mp (hn n5)
  simp only [Cond.value, hx, hy] at h9
  exact Option.some.inj h9
theorem nw_start {s : State} {b : Nat} (hts : ∀ w ∈ lw_tbl, w.before #[Value.ref b] s = true) : NW s := by
  intro w hw hn
  have h := hts w (List.mem_append_right _ (List.mem_append_left _ hw))
  cases w <;> first | (simp [nWd] at hn; done) | exact va_tabs (u := s) (U := s) rfl rfl h
theorem ar_start {s : State} {b : Nat} {ty : FieldType} (hp : ∀ C, ty ≠ .object C) (h : (Cond.arrayClass ty).before #[Value.ref b] s = true) : ∃ cA, ArrOfT s cA ty ∧ va_RA s cA ty := by
  obtain ⟨c, k, comp, h1, h2, h3⟩ := Cond.arrayClass_spec h
  refine ⟨c, fun n z => ⟨(fun _ h => by cases h), k, h2, comp, h3⟩, ?_⟩
  cases ty <;> first | exact h1 | exact absurd rfl (hp _)
theorem aq_start {s : State} {b : Nat} {C : String} (h : (Cond.arrayOver (.object C)).before #[Value.ref b] s = true) : ∃ cA, ArrOfT s cA (.object C) ∧ va_RA s cA (.object C) := by
  obtain ⟨comp, c, k, h1, -, h2, h3, h4⟩ := Cond.arrayOver_spec h
  exact ⟨c, fun n z => ⟨(fun _ h => by cases h), k, h2, comp, h3⟩, k, comp, h2, h3, h1, h4⟩
theorem gl_start {s : State} {b : Nat} (hts : ∀ w ∈ lw_tbl, w.before #[Value.ref b] s = true) (hgv : (Jvm.Cond.and given_1 narrow_1).before #[Value.ref b] s = true) : ∃ (dC : Nat → ClassId) (dI : Nat → Nat → Nat) (tk : Nat → ClassId), Gl dC dI tk (fun q => s.heap.size ≤ q) s := by
  have hG : ∀ w ∈ gW, w.before #[Value.ref b] s = true := fun w hw => hts w (List.mem_filter.mp hw).1
  have hw : ∀ w ∈ tables_1, w.before #[Value.ref b] s = true := fun w h => hts w (List.mem_append_right _ (List.mem_append_left _ h))
  obtain ⟨ad, av, d0, d1, hSG⟩ := sg_start (A := fun q => s.heap.size ≤ q) hts hgv (fun a h1 h2 => Nat.lt_irrefl _ (Nat.lt_of_lt_of_le h1 h2))
  obtain ⟨c0, i0, h0⟩ := u_known (C := RM) (T := FM) (N := 46) (n := 46) hG wM_in (hG _ k_1009)
  obtain ⟨c1, i1, h1⟩ := u_known (C := RE) (T := FE) (N := 9) (n := 9) hG wE_in (hG _ k_28)
  obtain ⟨c2, i2, h2⟩ := u_known (C := RF) (T := FF) (N := 6) (n := 6) hG wF_in (hG _ k_36)
  obtain ⟨c3, i3, h3⟩ := u_known (C := RV) (T := FV) (N := 13) (n := 13) hG wV_in (hG _ k_65)
  obtain ⟨c4, i4, h4⟩ := u_known (C := RS) (T := FS) (N := 3) (n := 3) hG wS_in (hG _ k_112)
  obtain ⟨c5, i5, h5⟩ := u_known (C := RD) (T := FD) (N := 4) (n := 4) hG wD_in (hG _ k_137)
  obtain ⟨c6, i6, h6⟩ := u_known (C := RT) (T := FT) (N := 2) (n := 2) hG wT_in (hG _ k_120)
  obtain ⟨c7, i7, h7⟩ := u_known (C := RQ) (T := FQ) (N := 2) (n := 2) hG wQ_in (hG _ k_176)
  obtain ⟨c8, i8, h8⟩ := u_known (C := RK) (T := FK) (N := 6) (n := 6) hG wK_in (hG _ k_183)
  obtain ⟨c9, i9, h9⟩ := u_known (C := RN) (T := FN) (N := 6) (n := 6) hG wN_in (hG _ k_222)
  obtain ⟨c10, i10, h10⟩ := u_known (C := RB) (T := FB) (N := 4) (n := 4) hG wB_in (hG _ k_228)
  obtain ⟨t0, a0⟩ := ar_start (ty := .int) (fun _ h => by cases h) (hG _ k_110)
  obtain ⟨t1, a1⟩ := ar_start (ty := .char) (fun _ h => by cases h) (hG _ k_63)
  obtain ⟨t2, a2⟩ := ar_start (ty := .boolean) (fun _ h => by cases h) (hG _ k_258)
  obtain ⟨t3, a3⟩ := ar_start (ty := .byte) (fun _ h => by cases h) (hG _ k_259)
  obtain ⟨t4, a4⟩ := aq_start (C := "EditorServer$Document") (hw _ (List.mem_of_getElem? (i := 118) (by decide +kernel)))
  obtain ⟨t5, a5⟩ := aq_start (C := "EditorServer$Asked") (hw _ (List.mem_of_getElem? (i := 182) (by decide +kernel)))
  obtain ⟨t6, a6⟩ := ar_start (ty := .long) (fun _ h => by cases h) (hG _ k_1379)
  refine ⟨fun c => match c with | 0 => c0 | 1 => c1 | 2 => c2 | 3 => c3 | 4 => c4 | 5 => c5 | 6 => c6 | 7 => c7 | 8 => c8 | 9 => c9 | _ => c10, fun c => match c with | 0 => i0 | 1 => i1 | 2 => i2 | 3 => i3 | 4 => i4 | 5 => i5 | 6 => i6 | 7 => i7 | 8 => i8 | 9 => i9 | 10 => i10 | 1000 => ad | 1001 => av | _ => fun j => if j = 0 then d0 else d1, fun c => match c with | 0 => t0 | 1 => t1 | 2 => t2 | 3 => t3 | 4 => t4 | 5 => t5 | _ => t6, fun q h => h, ⟨?_, ?_⟩, nw_start hts, hSG _ rfl rfl rfl rfl⟩
  · intro c q hq
    match c, hq with
    | 0, hq => cases hq; exact h0
    | 1, hq => cases hq; exact h1
    | 2, hq => cases hq; exact h2
    | 3, hq => cases hq; exact h3
    | 4, hq => cases hq; exact h4
    | 5, hq => cases hq; exact h5
    | 6, hq => cases hq; exact h6
    | 7, hq => cases hq; exact h7
    | 8, hq => cases hq; exact h8
    | 9, hq => cases hq; exact h9
    | 10, hq => cases hq; exact h10
    | c + 11, hq => simp [mCl] at hq
  · intro k q hq
    match k, hq with
    | 0, hq => cases hq; exact a0
    | 1, hq => cases hq; exact a1
    | 2, hq => cases hq; exact a2
    | 3, hq => cases hq; exact a3
    | 4, hq => cases hq; exact a4
    | 5, hq => cases hq; exact a5
    | 6, hq => cases hq; exact a6
    | k + 7, hq => simp [tyL] at hq
theorem ro_newl {p : Program} {l : Launch} {e : Env} {R : Room} {s : State} {m : MethodId} {args : Array Value} {below : List Frame} {meth : Method} {c : Code} {H : Heap} {locs : List Loc} {cells slots : Nat} {Q : State → Prop} {cc : ByteArray} {pc : Nat} {ls : Array Slot} {rest : List Value} {dC : Nat → ClassId} {dI : Nat → Nat → Nat} {tk : Nat → ClassId} {A : Nat → Prop} {ws : va_W} (hx : p.tables.exec = Jvm.exec) (hb : c.code = cc) (hG : ∀ w ∈ gW, w.before args s = true) (hg : Gl dC dI tk A s) (hst : St dC dI A s.heap H locs ws) (hw : Cond.arrayClass (newarray.typeOf .long) ∈ gW) (hcells : cells + 1 ≤ R.cells) (hslots : slots + 1 ≤ R.slots) (hdg : decode cc pc = .ok (.newarray .long, 2))
    (kk : ∀ (q : Nat) (H1 : Heap), St dC dI A s.heap H1 locs (oLX q tk (fun _ => 0) ++ ws) → W p l e R s m args below meth c H1 locs (cells + 1) (slots + 1) Q (F0 m (pc + 2) ls (.ref q :: rest))) : W p l e R s m args below meth c H locs cells slots Q (F0 m pc ls (.int 1 :: rest)) := by
  refine va_newa (ty := .long) (a0 := (1, .inr (.inl (fun _ => 0)))) hx hb (hG _ hw) rfl hg.2.1 hst.1 hst.2.1 hst.2.2 hg.1 (fun _ => rfl) (by decide) (by decide) (by decide) hcells hslots hdg (fun q cA H1 qK qP qD qS => ?_)
  have h1 : va_RA s cA .long := (qK.2 (tyL tk).length (cA, .long) (by rw [List.getElem?_append_right (Nat.le_refl _)]; simp)).2
  have h2 : va_RA s (tk 6) .long := (hg.2.1.2 6 _ rfl).2
  cases Option.some.inj ((show s.vm.findClass _ = some cA from h1).symm.trans h2)
  have h3 : St dC dI A s.heap H1 locs (ws ++ oLX q tk (fun _ => 0)) := ⟨qP, qD, qS⟩
  exact kk q H1 (h3.pm List.perm_append_comm)
set_option maxHeartbeats 4000000 in
theorem whole_go {p : Program} {e : Env} {s : State} {m : MethodId} {below : List Frame} {meth : Method} {c : Code} (l : Launch) (hNT : NoTr l) {I : aI} (hOK : lawOK I) (hI0 : ∀ adP adO, I gE0 (fun _ => 0) (fun _ => 0) (fun _ _ => 0) (fun _ => 0) (fun _ _ => 0) (fun _ => 0) (fun _ => 0) (fun _ _ => 0) (zD adP) (fun _ => 0) (zD adO) (fun _ => 0) (fun _ _ => 0)) {b L : Nat} {xs : Nat → Int32} (hL : L ≤ 2048) (C0 : lw_At p s m meth c b L xs) : W p l e room_1 s m #[Value.ref b] below meth c s.heap [] 0 0 (lw_Z below #[Value.ref b] s) (entryFrame m ([Value.ref b] : List Value).toArray 7) := by
  obtain ⟨hx, hb, hr, hml, hown, hts, hX, hbl, hlk, hgv⟩ := C0
  have hown : s.vm.findClass "EditorServerLaw" = some m.cls := hown
  have hG : ∀ w ∈ gW, w.before #[Value.ref b] s = true := fun w hw => hts w (List.mem_filter.mp hw).1
  obtain ⟨dC, dI, tk, hg⟩ := gl_start hts hgv
  obtain ⟨A, hA⟩ : ∃ A : Nat → Prop, A = fun q => s.heap.size ≤ q := ⟨_, rfl⟩
  rw [← hA] at hg
  have hbA : ¬ A b := by rw [hA]; exact Nat.not_le.mpr hbl
  have hst : St dC dI A s.heap s.heap [] [] := ⟨fun k q h => by simp at h, va_D.nd.mpr ⟨List.nodup_nil, fun q h => absurd h List.not_mem_nil⟩, va_S.rf⟩
  have hl := lv_entry [Value.ref b] (n := 7) (Nat.le_of_ble_eq_true rfl)
  rw [lg_entry_eq]
  generalize (lg_sl [Value.ref b] ++ List.replicate (7 - (lg_sl [Value.ref b]).length) Slot.unset).toArray = ls at hl ⊢
  have hl : lv_has ls 7 [(0, .ref b)] := hl
  have hend : ∀ (H1 : Heap) (locs1 : List Loc) (ls1 : Array Slot) (ce sl : Nat), (∀ q ∈ locs1, A q.base) → ce ≤ 601024 → sl ≤ 7293034 → W p l e room_1 s m #[Value.ref b] below meth c H1 locs1 ce sl (lw_Z below #[Value.ref b] s) (F0 m 753 ls1 []) := by
    intro H1 locs1 ls1 ce sl hlc h1 h2
    refine W.widen h1 h2 ?_
    refine lv_iconst (v := 1) hx hb d_law_753 (by decide) ?_
    have h9 := W.forget (locs := []) (L := locs1) (fun q hq => by have := hlc q hq; rw [hA] at this; exact this) (lw_ret (b := b) (l := l) (e := e) (below := below) (H := H1) (ls := ls1) (pc := 754) (m := m) hx hb hr hlk d_law_754)
    exact h9
  refine ro_newO (ks := ksE) (sp := spE) (fun _ => 0) hx hb hown hG hg cE hst k_27 k_28 k_1 (by decide) (by decide) (by decide) d_law_0 (fun hE H hst => ?_)
  refine lv_dup hx hb d_law_3 rfl ?_
  refine bk_v (g := F0 m 0 ls []) (cm_ini (nn := 0) (As := []) hx hb hml hown hG hg (cE_init l dC dI tk A hE (fun _ => 0) []) k_29 k_30 k_1 k_31 rfl (by decide +kernel) ⟨by decide, by decide⟩ hst rfl hl.1 rfl (Nat.le_of_ble_eq_true rfl) ⟨by decide, by decide⟩ d_law_4) hst (fun v H locs hp hst => ?_)
  refine W.cs (cells' := 61) (slots' := 1809) rfl rfl ?_
  obtain ⟨LE, LJ, LV, ⟨LN, u⟩, ⟨LS, LZ, adP⟩, ⟨LQ, adO⟩⟩ := v
  dsimp only at hp hst
  refine lv_astore_n (lv' := [(1, .ref hE), (0, .ref b)]) hx hb d_law_7 rfl hl (by decide) rfl (fun ls hl => ?_)
  refine ro_newO (ks := ksM) (sp := spM) (fun _ => 0) hx hb hown hG hg cM hst k_1008 k_1009 k_14 (by decide) (by decide) (by decide) d_law_8 (fun hM H hst => ?_)
  refine lv_dup hx hb d_law_11 rfl ?_
  refine bk_v (g := F0 m 0 ls []) (cm_ini (nn := 0) (As := []) hx hb hml hown hG hg (cM_init l dC dI tk A hM (fun _ => 0) _) k_1010 k_1011 k_14 k_1012 rfl (by decide +kernel) ⟨by decide, by decide⟩ hst rfl hl.1 rfl (Nat.le_of_ble_eq_true rfl) ⟨by decide, by decide⟩ d_law_12) hst (fun LM H locs _ hst => ?_)
  refine W.cs (cells' := 89) (slots' := 3635) rfl rfl ?_
  refine lv_astore_n (lv' := [(2, .ref hM), (1, .ref hE), (0, .ref b)]) hx hb d_law_15 rfl hl (by decide) rfl (fun ls hl => ?_)
  refine lv_iconst (v := 1) hx hb d_law_16 (by decide) ?_
  refine ro_newl hx hb hG hg hst k_1379 (by decide) (by decide) d_law_17 (fun hO H hst => ?_)
  refine lv_astore_n (lv' := [(3, .ref hO), (2, .ref hM), (1, .ref hE), (0, .ref b)]) hx hb d_law_19 rfl hl (by decide) rfl (fun ls hl => ?_)
  refine lv_iconst (v := 0) hx hb d_law_20 (by decide) ?_
  refine lv_istore (lv' := [(4, .int 0), (3, .ref hO), (2, .ref hM), (1, .ref hE), (0, .ref b)]) hx hb d_law_21 hl (by decide) rfl (fun ls hl => ?_)
  have hst : St dC dI A s.heap H locs (fWd tk hE LE LJ LV LN LS LZ LQ hO hM LM gE0 (fun _ => 0) (fun _ => 0) (fun _ _ => 0) (fun _ => 0) (fun _ _ => 0) (fun _ => 0) (fun _ => 0) (fun _ _ => 0) (zD adP) (fun _ => 0) (zD adO) u 0 (fun _ => 0) (fun _ => 0) (fun _ _ => 0)) := hst.pm (by unfold fWd srvW; simp only [oW_X, rA, pW, sbW, oL_X]; letI : DecidableEq (Nat × va_E) := fun a b => Classical.propDecidable (a = b); exact List.perm_iff_count.mpr fun a => by simp only [List.count_append]; omega)
  refine W.widen (k := 200 + 14 * 0) (n := 6000 + 476 * 0) (by decide) (by decide) ?_
  exact lw_loop hx hb hml hown hG hg hX hbl hbA hNT hOK hp.2 hL hend 512 0 (by omega) (by decide) _ _ _ _ _ _ _ _ _ _ _ _ _ _ _ _ _ [] H locs ls (hI0 adP adO) hp.1 rfl (lv_sub hl [4, 3, 2, 1, 0] rfl) hst
