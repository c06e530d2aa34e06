abbrev ksB : List (Option Nat) := [some 0, none, none, none]
section CIN
variable {p : Program} {l : Launch} {e : Env} {R : Room} {s : State} {m : MethodId} {args : Array Value} {below : List Frame} {meth : Method} {c : Code} {H : Heap} {locs : List Loc} {cells slots : Nat}
variable {cc : ByteArray} {pc : Nat} {ls : Array Slot} {rest : List Value} {dC : Nat → ClassId} {dI : Nat → Nat → Nat} {tk : Nat → ClassId} {A : Nat → Prop} {ws : va_W} {own : String} {index : Nat}
/-- a constructor, linked as any method -/
theorem cm_ini {y : MethodName} {bytes : ByteArray} {mL nL nn fr lo mc ms b : Nat} {As st0 : List Value} {Qc : Array Value → State → Outcome → State → Prop} (hx : p.tables.exec = Jvm.exec) (hb : c.code = cc) (hml : c.maxLocals = nL) (hown : s.vm.findClass own = some m.cls) (hG : ∀ w ∈ gW, w.before args s = true) (hg : Gl dC dI tk A s) (hM : Met l y (Cond.code y bytes mL none :: gW) (rmn fr lo mc ms) (va_Pc (.ref b :: As) (Pr dC dI tk A ws)) Qc mc ms A)
    (h1 : Cond.methodLink own index y ∈ gW) (h2 : Cond.instanceMethod y ∈ gW) (h4 : Cond.initialized y.cls ∈ gW) (h5 : Cond.code y bytes mL none ∈ gW) (hy : y.name = "<init>") (hd : y.cls ≠ "java/lang/invoke/MethodHandle" ∧ y.cls ≠ "java/lang/invoke/VarHandle" ∧ (parseMethodDescriptor y.desc).map (fun d => d.parameters.length) = some nn) (hR : (rmn fr lo mc ms).frames + 1 ≤ R.frames ∧ 8 + (mL + 11) + (rmn fr lo mc ms).locals ≤ R.locals)
    (hst : St dC dI A s.heap H locs ws) (hn : As.length = nn) (hsize : ls.size = nL) (hstack : st0 = As.reverse ++ .ref b :: rest) (hW : (rest.map fun v => v.category).sum ≤ 8) (hf : cells + mc ≤ R.cells ∧ slots + ms ≤ R.slots) (hdg : decode cc pc = .ok (.invokespecial index, 3)) : va_Run p l e R s m args below meth c H locs cells slots mc ms (F0 m pc ls st0) rest (Qc (Value.ref b :: As).toArray) A := by
  refine va_runI (As := As) (rest := rest) ⟨hx, hb, hml, hown, hG⟩ hM (cwI nn hG (gW_g fun w hw => ?_) rfl rfl rfl (hG _ h4) (hG _ h1) (hG _ h2) hy hd hR) (pr_S hg hst) rfl hn hsize hstack (lv_room hW) hdg hf
  rcases List.mem_cons.mp hw with rfl | hw
  · exact h5
  · exact hw
theorem cl_inp {S : Type} {P : S → Prop} {host : String} {Q : State → Prop} {y : MethodName} {bytes : ByteArray} {mL nL fr lo mc ms b : Nat} {wf : S → va_W} (hx : p.tables.exec = Jvm.exec) (hb : c.code = cc) (hml : c.maxLocals = nL) (hown : s.vm.findClass own = some m.cls) (hG : ∀ w ∈ gW, w.before args s = true) (hg : Gl dC dI tk A s) (hM : CtM l dC dI tk A y bytes mL none fr lo mc ms [.ref b] ws (QVp dC dI A P wf))
    (hl : Cond.methodLinkNest own index y host ∈ tables_1) (h2 : Cond.instanceMethod y ∈ gW) (h4 : Cond.initialized y.cls ∈ gW) (h5 : Cond.code y bytes mL none ∈ gW) (hy : y.name = "<init>") (hd : y.cls ≠ "java/lang/invoke/MethodHandle" ∧ y.cls ≠ "java/lang/invoke/VarHandle" ∧ (parseMethodDescriptor y.desc).map (fun d => d.parameters.length) = some 0) (hR : (rmn fr lo mc ms).frames + 1 ≤ R.frames ∧ 8 + (mL + 11) + (rmn fr lo mc ms).locals ≤ R.locals)
    (hst : St dC dI A s.heap H locs ws) (hsize : ls.size = nL) (hW : (rest.map fun v => v.category).sum ≤ 8) (hf : cells + mc ≤ R.cells ∧ slots + ms ≤ R.slots) (hdg : decode cc pc = .ok (.invokespecial index, 3))
    (kk : ∀ (u : S) (H1 : Heap) (locs1 : List Loc), P u → St dC dI A s.heap H1 locs1 (wf u) → W p l e R s m args below meth c H1 locs1 (cells + mc) (slots + ms) Q (F0 m (pc + 3) ls rest)) : W p l e R s m args below meth c H locs cells slots Q (F0 m pc ls (.ref b :: rest)) := by
  unfold CtM QVp at hM
  refine va_callv (va_runIN (As := []) (rest := rest) (host := host) ⟨hx, hb, hml, hown, hG⟩ hM ⟨va_cnB 0 hG (gW_g fun w hw => ?_) rfl rfl rfl (hg.nw _ hl rfl) (hG _ h4) hd hR, hy, hG _ h2⟩ (pr_S hg hst) rfl rfl hsize rfl (lv_room hW) hdg hf) hst.2.2 (fun q _ h => h) (fun q h => h) (fun u t H1 locs1 ht hvm hw hB hz1 hk1 hS => ?_)
  · rcases List.mem_cons.mp hw with rfl | hw
    · exact h5
    · exact hw
  · exact kk u H1 locs1 hw ⟨by rw [← ht]; exact hB.1, hB.2, hS⟩
end CIN
theorem d_bv_0 : decode prog_12_method_2_code 0 = .ok (.aload_n 0, 1) := by decide +kernel
theorem d_bv_1 : decode prog_12_method_2_code 1 = .ok (.invokespecial 3, 3) := by decide +kernel
theorem d_bv_4 : decode prog_12_method_2_code 4 = .ok (.getstatic 18, 3) := by decide +kernel
theorem d_bv_7 : decode prog_12_method_2_code 7 = .ok (.ifCond .eq 18, 3) := by decide +kernel
theorem d_bv_10 : decode prog_12_method_2_code 10 = .ok (.aload_n 0, 1) := by decide +kernel
theorem d_bv_11 : decode prog_12_method_2_code 11 = .ok (.iload_n 1, 1) := by decide +kernel
theorem d_bv_12 : decode prog_12_method_2_code 12 = .ok (.newarray .byte, 2) := by decide +kernel
theorem d_bv_14 : decode prog_12_method_2_code 14 = .ok (.putfield 15, 3) := by decide +kernel
theorem d_bv_17 : decode prog_12_method_2_code 17 = .ok (.aload_n 0, 1) := by decide +kernel
theorem d_bv_18 : decode prog_12_method_2_code 18 = .ok (.iconst 0, 1) := by decide +kernel
theorem d_bv_19 : decode prog_12_method_2_code 19 = .ok (.putfield 22, 3) := by decide +kernel
theorem d_bv_22 : decode prog_12_method_2_code 22 = .ok (.goto 16, 3) := by decide +kernel
theorem d_bv_25 : decode prog_12_method_2_code 25 = .ok (.aload_n 0, 1) := by decide +kernel
theorem d_bv_26 : decode prog_12_method_2_code 26 = .ok (.iload_n 1, 1) := by decide +kernel
theorem d_bv_27 : decode prog_12_method_2_code 27 = .ok (.invokestatic 26, 3) := by decide +kernel
theorem d_bv_30 : decode prog_12_method_2_code 30 = .ok (.putfield 15, 3) := by decide +kernel
theorem d_bv_33 : decode prog_12_method_2_code 33 = .ok (.aload_n 0, 1) := by decide +kernel
theorem d_bv_34 : decode prog_12_method_2_code 34 = .ok (.iconst 1, 1) := by decide +kernel
theorem d_bv_35 : decode prog_12_method_2_code 35 = .ok (.putfield 22, 3) := by decide +kernel
theorem d_bv_38 : decode prog_12_method_2_code 38 = .ok (.return_, 1) := by decide +kernel
set_option maxHeartbeats 1000000 in
theorem c_bv (l : Launch) (dC : Nat → ClassId) (dI : Nat → Nat → Nat) (tk : Nat → ClassId) (A : Nat → Prop) (hB : Nat) (rw : va_W) : CtM l dC dI tk A ⟨"java/lang/AbstractStringBuilder", "<init>", "(I)V"⟩ prog_12_method_2_code 2 none 1 30 1 16 [.ref hB, .int 16] ((hB, .inr (10, [.null, .int 0, .int 0, .int 0])) :: rw) (QVp dC dI A (fun u2 : sbS => sbT [] u2) (fun u2 => sbW hB tk u2 0 rw)) := by
  refine entN (by decide) (Nat.le_of_ble_eq_true rfl) ?_
  intro p e s m args below meth c hx hb hr hml hown hlk hin hG hg hst ls hl
  have hl : lv_has ls 2 [(0, .ref hB), (1, .int 16)] := hl
  refine lv_aload_n hx hb d_bv_0 rfl (lv_at hl 0 rfl) ?_
  refine W.objInit hx hb hown (hG _ k_235) (hG _ k_33) (hG _ k_34) rfl (by rw [hml]; exact hl.1) rfl d_bv_1 (Nat.le_of_ble_eq_true rfl) (Nat.le_of_ble_eq_true rfl) ?_
  refine W.eq (g2 := F0 m 4 ls []) rfl ?_
  refine va_gets hx hb hg.2.2.2.2.1 hst.2.2 hown (hG _ k_236) (fun _ h9 => h9) d_bv_4 ?_
  refine lv_if_eq (tgt := 25) hx hb d_bv_7 (by decide) (fun h9 => absurd h9 (by decide)) (fun _ => ?_)
  refine lv_aload_n hx hb d_bv_10 rfl (lv_at hl 0 rfl) ?_
  refine lv_iload_n hx hb d_bv_11 rfl (lv_at hl 1 rfl) ?_
  refine ro_newa (at_ := .byte) (ty := .byte) 3 16 hx hb hG hg hst rfl k_259 rfl (fun _ _ h9 => h9) (fun _ => rfl) (by decide) (by decide) (by decide) (by decide) (by decide) d_bv_12 (fun q H hst => ?_)
  refine W.cs (cells' := 1) (slots' := 16) rfl rfl ?_
  have hst : St dC dI A s.heap H [] ((hB, .inr (10, [.null, .int 0, .int 0, .int 0])) :: ((q, .inl (tk 3, 16, .inl (fun _ => 0))) :: rw)) := hst.pm (List.Perm.cons _ List.perm_append_comm)
  refine sb_put 0 (by decide) hx hb hown hG hg hst (by decide) rfl rfl rfl rfl k_245 d_bv_14 (fun H locs hst => ?_)
  refine lv_aload_n hx hb d_bv_17 rfl (lv_at hl 0 rfl) ?_
  refine lv_iconst (v := 0) hx hb d_bv_18 (by decide) ?_
  refine sb_put 1 (by decide) hx hb hown hG hg hst (by show 1 < 4; decide) rfl rfl rfl rfl k_246 d_bv_19 (fun H locs hst => ?_)
  refine lv_goto (tgt := 38) hx hb d_bv_22 (by decide) ?_
  exact rp_v (u := (q, 16, 0, fun _ => 0)) (wf := fun u2 => sbW hB tk u2 0 rw) hx hb hr hlk hst ⟨Or.inl rfl, Nat.zero_le _, sb_fit0, fun i hi => absurd hi (Nat.not_lt_zero i)⟩ d_bv_38
theorem d_tv_0 : decode prog_21_method_1_code 0 = .ok (.aload_n 0, 1) := by decide +kernel
theorem d_tv_1 : decode prog_21_method_1_code 1 = .ok (.bipush 16, 2) := by decide +kernel
theorem d_tv_3 : decode prog_21_method_1_code 3 = .ok (.invokespecial 1, 3) := by decide +kernel
theorem d_tv_6 : decode prog_21_method_1_code 6 = .ok (.return_, 1) := by decide +kernel
set_option maxHeartbeats 1000000 in
theorem c_tv (l : Launch) (dC : Nat → ClassId) (dI : Nat → Nat → Nat) (tk : Nat → ClassId) (A : Nat → Prop) (hB : Nat) (rw : va_W) : CtM l dC dI tk A ⟨"java/lang/StringBuilder", "<init>", "()V"⟩ prog_21_method_1_code 1 none 2 60 1 16 [.ref hB] ((hB, .inr (10, [.null, .int 0, .int 0, .int 0])) :: rw) (QVp dC dI A (fun u2 : sbS => sbT [] u2) (fun u2 => sbW hB tk u2 0 rw)) := by
  refine entN (by decide) (Nat.le_of_ble_eq_true rfl) ?_
  intro p e s m args below meth c hx hb hr hml hown hlk hin hG hg hst ls hl
  have hl : lv_has ls 1 [(0, .ref hB)] := hl
  refine lv_aload_n hx hb d_tv_0 rfl (lv_at hl 0 rfl) ?_
  refine lv_bipush (v := 16) hx hb d_tv_1 (by decide) ?_
  refine bk_v (g := F0 m 0 ls []) (cm_ini (nn := 1) (As := [.int 16]) hx hb hml hown hG hg (c_bv l dC dI tk A hB rw) k_232 k_233 k_10 k_234 rfl (by decide +kernel) ⟨by decide, by decide⟩ hst rfl hl.1 rfl (Nat.le_of_ble_eq_true rfl) ⟨by decide, by decide⟩ d_tv_3) hst (fun u H locs hp hst => ?_)
  refine W.cs (cells' := 1) (slots' := 16) rfl rfl ?_
  exact rp_v (u := u) (wf := fun u2 => sbW hB tk u2 0 rw) hx hb hr hlk hst hp d_tv_6
theorem d_N_init_0 : decode prog_2_method_1_code 0 = .ok (.aload_n 0, 1) := by decide +kernel
theorem d_N_init_1 : decode prog_2_method_1_code 1 = .ok (.invokespecial 1, 3) := by decide +kernel
theorem d_N_init_4 : decode prog_2_method_1_code 4 = .ok (.aload_n 0, 1) := by decide +kernel
theorem d_N_init_5 : decode prog_2_method_1_code 5 = .ok (.bipush 60, 2) := by decide +kernel
theorem d_N_init_7 : decode prog_2_method_1_code 7 = .ok (.newarray .int, 2) := by decide +kernel
theorem d_N_init_9 : decode prog_2_method_1_code 9 = .ok (.putfield 9, 3) := by decide +kernel
theorem d_N_init_12 : decode prog_2_method_1_code 12 = .ok (.aload_n 0, 1) := by decide +kernel
theorem d_N_init_13 : decode prog_2_method_1_code 13 = .ok (.bipush 60, 2) := by decide +kernel
theorem d_N_init_15 : decode prog_2_method_1_code 15 = .ok (.newarray .boolean, 2) := by decide +kernel
theorem d_N_init_17 : decode prog_2_method_1_code 17 = .ok (.putfield 13, 3) := by decide +kernel
theorem d_N_init_20 : decode prog_2_method_1_code 20 = .ok (.aload_n 0, 1) := by decide +kernel
theorem d_N_init_21 : decode prog_2_method_1_code 21 = .ok (.bipush 60, 2) := by decide +kernel
theorem d_N_init_23 : decode prog_2_method_1_code 23 = .ok (.newarray .boolean, 2) := by decide +kernel
theorem d_N_init_25 : decode prog_2_method_1_code 25 = .ok (.putfield 17, 3) := by decide +kernel
theorem d_N_init_28 : decode prog_2_method_1_code 28 = .ok (.aload_n 0, 1) := by decide +kernel
theorem d_N_init_29 : decode prog_2_method_1_code 29 = .ok (.bipush 60, 2) := by decide +kernel
theorem d_N_init_31 : decode prog_2_method_1_code 31 = .ok (.newarray .int, 2) := by decide +kernel
theorem d_N_init_33 : decode prog_2_method_1_code 33 = .ok (.putfield 20, 3) := by decide +kernel
theorem d_N_init_36 : decode prog_2_method_1_code 36 = .ok (.aload_n 0, 1) := by decide +kernel
theorem d_N_init_37 : decode prog_2_method_1_code 37 = .ok (.new 23, 3) := by decide +kernel
theorem d_N_init_40 : decode prog_2_method_1_code 40 = .ok (.dup, 1) := by decide +kernel
theorem d_N_init_41 : decode prog_2_method_1_code 41 = .ok (.invokespecial 25, 3) := by decide +kernel
theorem d_N_init_44 : decode prog_2_method_1_code 44 = .ok (.putfield 26, 3) := by decide +kernel
theorem d_N_init_47 : decode prog_2_method_1_code 47 = .ok (.return_, 1) := by decide +kernel
set_option maxHeartbeats 1000000 in
theorem cN_init (l : Launch) (dC : Nat → ClassId) (dI : Nat → Nat → Nat) (tk : Nat → ClassId) (A : Nat → Prop) (h : Nat) (L0 : Nat → Nat) (rw : va_W) : CtM l dC dI tk A ⟨"EditorServer$Answers", "<init>", "()V"⟩ prog_2_method_1_code 1 none 3 90 6 260 [.ref h] (oN 9 h ksN spN tk L0 rw 0) (QVp dC dI A (fun v : (Nat → Nat) × sbS => sbT [] v.2) (fun v : (Nat → Nat) × sbS => oW 9 h ksN spN tk v.1 (fun _ => 0) (fun _ _ => 0) (sbW (v.1 4) tk v.2 0 rw))) := by
  refine entN (by decide) (Nat.le_of_ble_eq_true rfl) ?_
  intro p e s m args below meth c hx hb hr hml hown hlk hin hG hg hst ls hl
  have hl : lv_has ls 1 [(0, .ref h)] := hl
  refine lv_aload_n hx hb d_N_init_0 rfl (lv_at hl 0 rfl) ?_
  refine W.objInit hx hb hown (hG _ k_226) (hG _ k_33) (hG _ k_34) rfl (by rw [hml]; exact hl.1) rfl d_N_init_1 (Nat.le_of_ble_eq_true rfl) (Nat.le_of_ble_eq_true rfl) ?_
  refine W.eq (g2 := F0 m 4 ls []) rfl ?_
  refine lv_aload_n hx hb d_N_init_4 rfl (lv_at hl 0 rfl) ?_
  refine lv_bipush (v := 60) hx hb d_N_init_5 (by decide) ?_
  refine ro_arr (at_ := .int) (ty := .int) 0 60 0 0 hx hb hown hin hG hg cN hst rfl rfl (uq (by decide)) rfl k_110 rfl (fun _ _ h9 => h9) (fun _ => rfl) (by decide) (by decide) (by decide) (by decide) (by decide) d_N_init_7 (by decide) rfl rfl rfl (fun _ => rfl) (fun _ => rfl) k_260 d_N_init_9 (fun L1 H locs hst => ?_)
  refine W.cs (cells' := 1) (slots' := 60) rfl rfl ?_
  refine lv_aload_n hx hb d_N_init_12 rfl (lv_at hl 0 rfl) ?_
  refine lv_bipush (v := 60) hx hb d_N_init_13 (by decide) ?_
  refine ro_arr (at_ := .boolean) (ty := .boolean) 2 60 1 1 hx hb hown hin hG hg cN hst rfl rfl (uq (by decide)) rfl k_258 rfl (fun _ _ h9 => h9) (fun _ => rfl) (by decide) (by decide) (by decide) (by decide) (by decide) d_N_init_15 (by decide) rfl rfl rfl (fun _ => rfl) (fun _ => rfl) k_262 d_N_init_17 (fun L2 H locs hst => ?_)
  refine W.cs (cells' := 2) (slots' := 120) rfl rfl ?_
  refine lv_aload_n hx hb d_N_init_20 rfl (lv_at hl 0 rfl) ?_
  refine lv_bipush (v := 60) hx hb d_N_init_21 (by decide) ?_
  refine ro_arr (at_ := .boolean) (ty := .boolean) 2 60 2 2 hx hb hown hin hG hg cN hst rfl rfl (uq (by decide)) rfl k_258 rfl (fun _ _ h9 => h9) (fun _ => rfl) (by decide) (by decide) (by decide) (by decide) (by decide) d_N_init_23 (by decide) rfl rfl rfl (fun _ => rfl) (fun _ => rfl) k_264 d_N_init_25 (fun L3 H locs hst => ?_)
  refine W.cs (cells' := 3) (slots' := 180) rfl rfl ?_
  refine lv_aload_n hx hb d_N_init_28 rfl (lv_at hl 0 rfl) ?_
  refine lv_bipush (v := 60) hx hb d_N_init_29 (by decide) ?_
  refine ro_arr (at_ := .int) (ty := .int) 0 60 3 3 hx hb hown hin hG hg cN hst rfl rfl (uq (by decide)) rfl k_110 rfl (fun _ _ h9 => h9) (fun _ => rfl) (by decide) (by decide) (by decide) (by decide) (by decide) d_N_init_31 (by decide) rfl rfl rfl (fun _ => rfl) (fun _ => rfl) k_266 d_N_init_33 (fun L4 H locs hst => ?_)
  refine W.cs (cells' := 4) (slots' := 240) rfl rfl ?_
  refine lv_aload_n hx hb d_N_init_36 rfl (lv_at hl 0 rfl) ?_
  refine ro_newO (ks := ksB) (sp := []) (fun _ => 0) hx hb hown hG hg cB hst k_227 k_228 k_11 (by decide) (by decide) (by decide) d_N_init_37 (fun q H hst => ?_)
  refine W.cs (cells' := 5) (slots' := 244) rfl rfl ?_
  refine lv_dup hx hb d_N_init_40 rfl ?_
  have hst : St dC dI A s.heap H locs ((q, .inr (10, [.null, .int 0, .int 0, .int 0])) :: ((h, .inr (9, oFn ksN L4 4)) :: (oA (spN.take 4) tk L4 (fun _ _ => 0) ++ rw))) := hst
  refine bk_v (g := F0 m 0 ls []) (cm_ini (nn := 0) (As := []) hx hb hml hown hG hg (c_tv l dC dI tk A q _) k_229 k_230 k_11 k_231 rfl (by decide +kernel) ⟨by decide, by decide⟩ hst rfl hl.1 rfl (Nat.le_of_ble_eq_true rfl) ⟨by decide, by decide⟩ d_N_init_41) hst (fun u H locs hp hst => ?_)
  refine W.cs (cells' := 6) (slots' := 260) rfl rfl ?_
  have hst : St dC dI A s.heap H locs ((h, .inr (9, oFn ksN L4 4)) :: (sbX q tk u 0 ++ (oA (spN.take 4) tk L4 (fun _ _ => 0) ++ rw))) := gr1 (a := (sbX q tk u 0)) (b := [(h, .inr (9, oFn ksN L4 4))]) (r := (oA (spN.take 4) tk L4 (fun _ _ => 0) ++ rw)) hst
  refine ro_putF hx hb hown hin hG hg cN hst 4 (by decide) rfl rfl rfl rfl rfl (Nat.le_of_ble_eq_true rfl) k_268 d_N_init_44 (fun H locs hst => ?_)
  have hst : St dC dI A s.heap H locs ((h, .inr (9, oFn ksN (va_up L4 4 q) 5)) :: (sbX q tk u 0 ++ (oA (spN.take 4) tk L4 (fun _ _ => 0) ++ rw))) := by rw [← oFn_set (fi := 4) rfl (uq (by decide))]; exact hst
  rw [oFn_full (fl (by decide))] at hst
  obtain ⟨LN, hLN⟩ : ∃ LN, LN = va_up L4 4 q := ⟨_, rfl⟩
  have hq : q = LN 4 := by rw [hLN, va_up_self]
  have hA : oA (spN.take 4) tk L4 (fun _ _ => 0) = oA spN tk LN (fun _ _ => 0) := by rw [hLN]; rfl
  rw [← hLN, hA] at hst
  clear hA hLN
  subst hq
  have hst : St dC dI A s.heap H locs ((fun v : (Nat → Nat) × sbS => oW 9 h ksN spN tk v.1 (fun _ => 0) (fun _ _ => 0) (sbW (v.1 4) tk v.2 0 rw)) (LN, u)) := by
    have h9 := gr2 (a := [(h, .inr (9, oF ksN LN (fun _ => 0)))]) (b := (sbX (LN 4) tk u 0)) (x := (oA spN tk LN (fun _ _ => 0))) (r := rw) hst
    exact gr1 (a := (oA spN tk LN (fun _ _ => 0))) (b := [(h, .inr (9, oF ksN LN (fun _ => 0)))]) (r := (sbX (LN 4) tk u 0 ++ rw)) h9
  exact rp_v (u := (LN, u)) (wf := (fun v : (Nat → Nat) × sbS => oW 9 h ksN spN tk v.1 (fun _ => 0) (fun _ _ => 0) (sbW (v.1 4) tk v.2 0 rw))) hx hb hr hlk hst hp d_N_init_47
/-- the server as it is when new: addresses LE LJ LV LN LS LZ LQ, rows' addresses adP adO, the builder u -/
def gE0 : aG := va_up (va_up (fun _ => 0) 5 0) 6 (-1)
def srvW (hE : Nat) (tk : Nat → ClassId) (LE LJ LV LN LS LZ LQ : Nat → Nat) (gE : aG) (gJ : aG) (gV : aG) (aV : aA) (gN : aG) (aN : aA) (gS : aG) (gZ : aG) (aZ : aA) (dP : aP) (gQ : aG) (dO : aP) (rw : va_W) : va_W := oW 1 hE ksE spE tk LE gE (fun _ _ => 0) (oW 2 (LE 0) ksJ spJ tk LJ gJ (fun _ _ => 0) (oW 3 (LE 1) ksV spV tk LV gV aV (oW 9 (LE 4) ksN spN tk LN gN aN (oW 4 (LE 2) ksS spS tk LS gS (fun _ _ => 0) (rA 4 (LS 0) 3 tk (fun i => some (dP i).1.1) (oW 6 (LS 1) ksT spT tk LZ gZ aZ (pW 5 ksD spD 1 tk dP 3 (oW 7 (LE 3) ksQ spQ tk LQ gQ (fun _ _ => 0) (rA 5 (LQ 0) 8 tk (fun i => some (dO i).1.1) (pW 8 ksK spK 0 tk dO 8 rw))))))))))
theorem d_E_init_0 : decode prog_1_method_1_code 0 = .ok (.aload_n 0, 1) := by decide +kernel
theorem d_E_init_1 : decode prog_1_method_1_code 1 = .ok (.invokespecial 1, 3) := by decide +kernel
theorem d_E_init_4 : decode prog_1_method_1_code 4 = .ok (.aload_n 0, 1) := by decide +kernel
theorem d_E_init_5 : decode prog_1_method_1_code 5 = .ok (.new 7, 3) := by decide +kernel
theorem d_E_init_8 : decode prog_1_method_1_code 8 = .ok (.dup, 1) := by decide +kernel
theorem d_E_init_9 : decode prog_1_method_1_code 9 = .ok (.invokespecial 9, 3) := by decide +kernel
theorem d_E_init_12 : decode prog_1_method_1_code 12 = .ok (.putfield 10, 3) := by decide +kernel
theorem d_E_init_15 : decode prog_1_method_1_code 15 = .ok (.aload_n 0, 1) := by decide +kernel
theorem d_E_init_16 : decode prog_1_method_1_code 16 = .ok (.new 16, 3) := by decide +kernel
theorem d_E_init_19 : decode prog_1_method_1_code 19 = .ok (.dup, 1) := by decide +kernel
theorem d_E_init_20 : decode prog_1_method_1_code 20 = .ok (.aload_n 0, 1) := by decide +kernel
theorem d_E_init_21 : decode prog_1_method_1_code 21 = .ok (.getfield 10, 3) := by decide +kernel
theorem d_E_init_24 : decode prog_1_method_1_code 24 = .ok (.getfield 18, 3) := by decide +kernel
theorem d_E_init_27 : decode prog_1_method_1_code 27 = .ok (.invokespecial 22, 3) := by decide +kernel
theorem d_E_init_30 : decode prog_1_method_1_code 30 = .ok (.putfield 25, 3) := by decide +kernel
theorem d_E_init_33 : decode prog_1_method_1_code 33 = .ok (.aload_n 0, 1) := by decide +kernel
theorem d_E_init_34 : decode prog_1_method_1_code 34 = .ok (.new 29, 3) := by decide +kernel
theorem d_E_init_37 : decode prog_1_method_1_code 37 = .ok (.dup, 1) := by decide +kernel
theorem d_E_init_38 : decode prog_1_method_1_code 38 = .ok (.invokespecial 31, 3) := by decide +kernel
theorem d_E_init_41 : decode prog_1_method_1_code 41 = .ok (.putfield 32, 3) := by decide +kernel
theorem d_E_init_44 : decode prog_1_method_1_code 44 = .ok (.aload_n 0, 1) := by decide +kernel
theorem d_E_init_45 : decode prog_1_method_1_code 45 = .ok (.new 36, 3) := by decide +kernel
theorem d_E_init_48 : decode prog_1_method_1_code 48 = .ok (.dup, 1) := by decide +kernel
theorem d_E_init_49 : decode prog_1_method_1_code 49 = .ok (.invokespecial 38, 3) := by decide +kernel
theorem d_E_init_52 : decode prog_1_method_1_code 52 = .ok (.putfield 39, 3) := by decide +kernel
theorem d_E_init_55 : decode prog_1_method_1_code 55 = .ok (.aload_n 0, 1) := by decide +kernel
theorem d_E_init_56 : decode prog_1_method_1_code 56 = .ok (.new 43, 3) := by decide +kernel
theorem d_E_init_59 : decode prog_1_method_1_code 59 = .ok (.dup, 1) := by decide +kernel
theorem d_E_init_60 : decode prog_1_method_1_code 60 = .ok (.invokespecial 45, 3) := by decide +kernel
theorem d_E_init_63 : decode prog_1_method_1_code 63 = .ok (.putfield 46, 3) := by decide +kernel
theorem d_E_init_66 : decode prog_1_method_1_code 66 = .ok (.aload_n 0, 1) := by decide +kernel
theorem d_E_init_67 : decode prog_1_method_1_code 67 = .ok (.iconst 0, 1) := by decide +kernel
theorem d_E_init_68 : decode prog_1_method_1_code 68 = .ok (.putfield 50, 3) := by decide +kernel
theorem d_E_init_71 : decode prog_1_method_1_code 71 = .ok (.aload_n 0, 1) := by decide +kernel
theorem d_E_init_72 : decode prog_1_method_1_code 72 = .ok (.iconst (-1), 1) := by decide +kernel
theorem d_E_init_73 : decode prog_1_method_1_code 73 = .ok (.putfield 54, 3) := by decide +kernel
theorem d_E_init_76 : decode prog_1_method_1_code 76 = .ok (.return_, 1) := by decide +kernel
set_option maxHeartbeats 1000000 in
theorem cE_init (l : Launch) (dC : Nat → ClassId) (dI : Nat → Nat → Nat) (tk : Nat → ClassId) (A : Nat → Prop) (hE : Nat) (L0 : Nat → Nat) (rw : va_W) : CtM l dC dI tk A ⟨"EditorServer", "<init>", "()V"⟩ prog_1_method_1_code 1 none 4 120 60 1800 [.ref hE] (oN 1 hE ksE spE tk L0 rw 0) (QVp dC dI A (fun v : (Nat → Nat) × (Nat → Nat) × (Nat → Nat) × ((Nat → Nat) × sbS) × ((Nat → Nat) × (Nat → Nat) × (Nat → aAd)) × ((Nat → Nat) × (Nat → aAd)) => sbT [] v.2.2.2.1.2 ∧ v.2.2.1 8 = v.2.1 0) (fun v : (Nat → Nat) × (Nat → Nat) × (Nat → Nat) × ((Nat → Nat) × sbS) × ((Nat → Nat) × (Nat → Nat) × (Nat → aAd)) × ((Nat → Nat) × (Nat → aAd)) => srvW hE tk v.1 v.2.1 v.2.2.1 v.2.2.2.1.1 v.2.2.2.2.1.1 v.2.2.2.2.1.2.1 v.2.2.2.2.2.1 gE0 (fun _ => 0) (fun _ => 0) (fun _ _ => 0) (fun _ => 0) (fun _ _ => 0) (fun _ => 0) (fun _ => 0) (fun _ _ => 0) (zD v.2.2.2.2.1.2.2) (fun _ => 0) (zD v.2.2.2.2.2.2) (sbW (v.2.2.2.1.1 4) tk v.2.2.2.1.2 0 rw))) := by
  refine entN (by decide) (Nat.le_of_ble_eq_true rfl) ?_
  intro p e s m args below meth c hx hb hr hml hown hlk hin hG hg hst ls hl
  have hl : lv_has ls 1 [(0, .ref hE)] := hl
  refine lv_aload_n hx hb d_E_init_0 rfl (lv_at hl 0 rfl) ?_
  refine W.objInit hx hb hown (hG _ k_32) (hG _ k_33) (hG _ k_34) rfl (by rw [hml]; exact hl.1) rfl d_E_init_1 (Nat.le_of_ble_eq_true rfl) (Nat.le_of_ble_eq_true rfl) ?_
  refine W.eq (g2 := F0 m 4 ls []) rfl ?_
  refine lv_aload_n hx hb d_E_init_4 rfl (lv_at hl 0 rfl) ?_
  refine ro_newO (ks := ksF) (sp := spF) (fun _ => 0) hx hb hown hG hg cF hst k_35 k_36 k_2 (by decide) (by decide) (by decide) d_E_init_5 (fun q H hst => ?_)
  refine W.cs (cells' := 1) (slots' := 6) rfl rfl ?_
  refine lv_dup hx hb d_E_init_8 rfl ?_
  refine cl_in hx hb hml hown hG hg (cF_init l dC dI tk A q (fun _ => 0) _) t_37 k_38 k_2 k_39 rfl (by decide +kernel) ⟨by decide, by decide⟩ hst hl.1 (Nat.le_of_ble_eq_true rfl) ⟨by decide, by decide⟩ d_E_init_9 (fun LF H locs hst => ?_)
  refine W.cs (cells' := 2) (slots' := 206) rfl rfl ?_
  have hst : St dC dI A s.heap H locs ((hE, .inr (1, oFn ksE L0 0)) :: ((oX 2 q ksF spF tk LF (fun _ => 0) (fun _ _ => 0)) ++ rw)) := gr1 (a := (oX 2 q ksF spF tk LF (fun _ => 0) (fun _ _ => 0))) (b := [(hE, .inr (1, oFn ksE L0 0))]) (r := rw) hst
  refine ro_putF hx hb hown hin hG hg cE hst 0 (by decide) rfl rfl rfl rfl rfl (Nat.le_of_ble_eq_true rfl) k_284 d_E_init_12 (fun H locs hst => ?_)
  have hst : St dC dI A s.heap H locs ((hE, .inr (1, oFn ksE (va_up L0 0 q) 1)) :: ((oX 2 q ksF spF tk LF (fun _ => 0) (fun _ _ => 0)) ++ rw)) := by rw [← oFn_set (fi := 0) rfl (uq (by decide))]; exact hst
  obtain ⟨L1, hL1⟩ : ∃ L1, L1 = va_up L0 0 q := ⟨_, rfl⟩
  have hq0 : q = L1 0 := by rw [hL1, va_up_self]
  rw [← hL1] at hst
  rw [hq0] at hst
  refine lv_aload_n hx hb d_E_init_15 rfl (lv_at hl 0 rfl) ?_
  refine ro_newO (ks := ksV) (sp := spV8) (fun _ => 0) hx hb hown hG hg cV hst k_64 k_65 k_3 (by decide) (by decide) (by decide) d_E_init_16 (fun q H hst => ?_)
  refine W.cs (cells' := 3) (slots' := 219) rfl rfl ?_
  refine lv_dup hx hb d_E_init_19 rfl ?_
  refine lv_aload_n hx hb d_E_init_20 rfl (lv_at hl 0 rfl) ?_
  have hst : St dC dI A s.heap H locs ((hE, .inr (1, oFn ksE L1 1)) :: ((oX 2 (L1 0) ksF spF tk LF (fun _ => 0) (fun _ _ => 0)) ++ ((oN 3 q ksV spV8 tk (fun _ => 0) [] 0) ++ rw))) := gr2 (a := (oX 2 (L1 0) ksF spF tk LF (fun _ => 0) (fun _ _ => 0))) (b := (oN 3 q ksV spV8 tk (fun _ => 0) [] 0)) (x := [(hE, .inr (1, oFn ksE L1 1))]) (r := rw) (gr2 (a := (oN 3 q ksV spV8 tk (fun _ => 0) [] 0)) (b := [(hE, .inr (1, oFn ksE L1 1))]) (x := (oX 2 (L1 0) ksF spF tk LF (fun _ => 0) (fun _ _ => 0))) (r := rw) hst)
  refine va_get (D := (dC, dI)) (fs := oFn ksE L1 1) hx hb hG cE.2.1 hown hg.2.1 hst.1 0 rfl cE.1 0 (by decide) (hG _ k_284) (fun _ h9 => h9) (v := .ref (L1 0)) rfl d_E_init_21 ?_
  have hst : St dC dI A s.heap H locs ((oX 2 (L1 0) ksF spF tk LF (fun _ => 0) (fun _ _ => 0)) ++ ((hE, .inr (1, oFn ksE L1 1)) :: ((oN 3 q ksV spV8 tk (fun _ => 0) [] 0) ++ rw))) := gr1 (a := [(hE, .inr (1, oFn ksE L1 1))]) (b := (oX 2 (L1 0) ksF spF tk LF (fun _ => 0) (fun _ _ => 0))) (r := ((oN 3 q ksV spV8 tk (fun _ => 0) [] 0) ++ rw)) hst
  refine rn_geta hx hb hown hG hg cF (ks := ksF) (sp := spF) hst 0 0 (by decide) rfl rfl t_42 d_E_init_24 ?_
  have hst : St dC dI A s.heap H locs ((oN 3 q ksV spV8 tk (fun _ => 0) [] 0) ++ ((hE, .inr (1, oFn ksE L1 1)) :: ((oX 2 (L1 0) ksF spF tk LF (fun _ => 0) (fun _ _ => 0)) ++ rw))) := gr2 (a := [(hE, .inr (1, oFn ksE L1 1))]) (b := (oX 2 (L1 0) ksF spF tk LF (fun _ => 0) (fun _ _ => 0))) (x := (oN 3 q ksV spV8 tk (fun _ => 0) [] 0)) (r := rw) (gr1 (a := (oX 2 (L1 0) ksF spF tk LF (fun _ => 0) (fun _ _ => 0))) (b := [(hE, .inr (1, oFn ksE L1 1))]) (r := ((oN 3 q ksV spV8 tk (fun _ => 0) [] 0) ++ rw)) hst)
  refine bk_v (g := F0 m 0 ls []) (cm_ini (nn := 1) (As := [.ref (LF 0)]) hx hb hml hown hG hg (cV_init l dC dI tk A q (LF 0) (fun _ => 0) _) k_66 k_67 k_3 k_68 rfl (by decide +kernel) ⟨by decide, by decide⟩ hst rfl hl.1 rfl (Nat.le_of_ble_eq_true rfl) ⟨by decide, by decide⟩ d_E_init_27) hst (fun LV0 H locs _ hst => ?_)
  refine W.cs (cells' := 11) (slots' := 699) rfl rfl ?_
  obtain ⟨LV, hLV⟩ : ∃ LV, LV = va_up LV0 8 (LF 0) := ⟨_, rfl⟩
  have hsrc : LV 8 = LF 0 := by rw [hLV, va_up_self]
  have hst : St dC dI A s.heap H locs ((oX 3 q ksV spV8 tk LV (fun _ => 0) (fun _ _ => 0)) ++ ((hE, .inr (1, oFn ksE L1 1)) :: ((oX 2 (L1 0) ksF spF tk LF (fun _ => 0) (fun _ _ => 0)) ++ rw))) := by rw [hLV]; exact hst
  have hst : St dC dI A s.heap H locs ((hE, .inr (1, oFn ksE L1 1)) :: ((oX 3 q ksV spV8 tk LV (fun _ => 0) (fun _ _ => 0)) ++ ((oX 2 (L1 0) ksF spF tk LF (fun _ => 0) (fun _ _ => 0)) ++ rw))) := gr1 (a := (oX 3 q ksV spV8 tk LV (fun _ => 0) (fun _ _ => 0))) (b := [(hE, .inr (1, oFn ksE L1 1))]) (r := ((oX 2 (L1 0) ksF spF tk LF (fun _ => 0) (fun _ _ => 0)) ++ rw)) hst
  refine ro_putF hx hb hown hin hG hg cE hst 1 (by decide) rfl rfl rfl rfl rfl (Nat.le_of_ble_eq_true rfl) k_285 d_E_init_30 (fun H locs hst => ?_)
  have hst : St dC dI A s.heap H locs ((hE, .inr (1, oFn ksE (va_up L1 1 q) 2)) :: ((oX 3 q ksV spV8 tk LV (fun _ => 0) (fun _ _ => 0)) ++ ((oX 2 (L1 0) ksF spF tk LF (fun _ => 0) (fun _ _ => 0)) ++ rw))) := by rw [← oFn_set (fi := 1) rfl (uq (by decide))]; exact hst
  obtain ⟨L2, hL2⟩ : ∃ L2, L2 = va_up L1 1 q := ⟨_, rfl⟩
  have hq1 : q = L2 1 := by rw [hL2, va_up_self]
  have hk0_1 : L1 0 = L2 0 := by rw [hL2, va_up_ne _ _ (by decide)]
  rw [← hL2] at hst
  rw [hq1, hk0_1] at hst
  refine lv_aload_n hx hb d_E_init_33 rfl (lv_at hl 0 rfl) ?_
  refine ro_newO (ks := ksS) (sp := spS) (fun _ => 0) hx hb hown hG hg cS hst k_111 k_112 k_4 (by decide) (by decide) (by decide) d_E_init_34 (fun q H hst => ?_)
  refine W.cs (cells' := 12) (slots' := 702) rfl rfl ?_
  refine lv_dup hx hb d_E_init_37 rfl ?_
  refine bk_v (g := F0 m 0 ls []) (cm_ini (nn := 0) (As := []) hx hb hml hown hG hg (cS_init l dC dI tk A q (fun _ => 0) _) k_113 k_114 k_4 k_115 rfl (by decide +kernel) ⟨by decide, by decide⟩ hst rfl hl.1 rfl (Nat.le_of_ble_eq_true rfl) ⟨by decide, by decide⟩ d_E_init_38) hst (fun uS H locs _ hst => ?_)
  refine W.cs (cells' := 27) (slots' := 977) rfl rfl ?_
  have hst : St dC dI A s.heap H locs (((oX 4 q ksS spS tk uS.1 (fun _ => 0) (fun _ _ => 0)) ++ ((rX 4 (uS.1 0) 3 tk (fun i => some (zD uS.2.2 i).1.1)) ++ ((oX 6 (uS.1 1) ksT spT tk uS.2.1 (fun _ => 0) (fun _ _ => 0)) ++ (pF 5 ksD spD 1 tk (zD uS.2.2) 3)))) ++ ((hE, .inr (1, oFn ksE L2 2)) :: ((oX 3 (L2 1) ksV spV8 tk LV (fun _ => 0) (fun _ _ => 0)) ++ ((oX 2 (L2 0) ksF spF tk LF (fun _ => 0) (fun _ _ => 0)) ++ rw)))) := by simp only [List.append_assoc]; exact hst
  have hst : St dC dI A s.heap H locs ((hE, .inr (1, oFn ksE L2 2)) :: (((oX 4 q ksS spS tk uS.1 (fun _ => 0) (fun _ _ => 0)) ++ ((rX 4 (uS.1 0) 3 tk (fun i => some (zD uS.2.2 i).1.1)) ++ ((oX 6 (uS.1 1) ksT spT tk uS.2.1 (fun _ => 0) (fun _ _ => 0)) ++ (pF 5 ksD spD 1 tk (zD uS.2.2) 3)))) ++ ((oX 3 (L2 1) ksV spV8 tk LV (fun _ => 0) (fun _ _ => 0)) ++ ((oX 2 (L2 0) ksF spF tk LF (fun _ => 0) (fun _ _ => 0)) ++ rw)))) := gr1 (a := ((oX 4 q ksS spS tk uS.1 (fun _ => 0) (fun _ _ => 0)) ++ ((rX 4 (uS.1 0) 3 tk (fun i => some (zD uS.2.2 i).1.1)) ++ ((oX 6 (uS.1 1) ksT spT tk uS.2.1 (fun _ => 0) (fun _ _ => 0)) ++ (pF 5 ksD spD 1 tk (zD uS.2.2) 3))))) (b := [(hE, .inr (1, oFn ksE L2 2))]) (r := ((oX 3 (L2 1) ksV spV8 tk LV (fun _ => 0) (fun _ _ => 0)) ++ ((oX 2 (L2 0) ksF spF tk LF (fun _ => 0) (fun _ _ => 0)) ++ rw))) hst
  refine ro_putF hx hb hown hin hG hg cE hst 2 (by decide) rfl rfl rfl rfl rfl (Nat.le_of_ble_eq_true rfl) k_286 d_E_init_41 (fun H locs hst => ?_)
  have hst : St dC dI A s.heap H locs ((hE, .inr (1, oFn ksE (va_up L2 2 q) 3)) :: (((oX 4 q ksS spS tk uS.1 (fun _ => 0) (fun _ _ => 0)) ++ ((rX 4 (uS.1 0) 3 tk (fun i => some (zD uS.2.2 i).1.1)) ++ ((oX 6 (uS.1 1) ksT spT tk uS.2.1 (fun _ => 0) (fun _ _ => 0)) ++ (pF 5 ksD spD 1 tk (zD uS.2.2) 3)))) ++ ((oX 3 (L2 1) ksV spV8 tk LV (fun _ => 0) (fun _ _ => 0)) ++ ((oX 2 (L2 0) ksF spF tk LF (fun _ => 0) (fun _ _ => 0)) ++ rw)))) := by rw [← oFn_set (fi := 2) rfl (uq (by decide))]; exact hst
  obtain ⟨L3, hL3⟩ : ∃ L3, L3 = va_up L2 2 q := ⟨_, rfl⟩
  have hq2 : q = L3 2 := by rw [hL3, va_up_self]
  have hk0_2 : L2 0 = L3 0 := by rw [hL3, va_up_ne _ _ (by decide)]
  have hk1_2 : L2 1 = L3 1 := by rw [hL3, va_up_ne _ _ (by decide)]
  rw [← hL3] at hst
  rw [hq2, hk0_2, hk1_2] at hst
  refine lv_aload_n hx hb d_E_init_44 rfl (lv_at hl 0 rfl) ?_
  refine ro_newO (ks := ksQ) (sp := spQ) (fun _ => 0) hx hb hown hG hg cQ hst k_175 k_176 k_7 (by decide) (by decide) (by decide) d_E_init_45 (fun q H hst => ?_)
  refine W.cs (cells' := 28) (slots' := 979) rfl rfl ?_
  refine lv_dup hx hb d_E_init_48 rfl ?_
  refine bk_v (g := F0 m 0 ls []) (cm_ini (nn := 0) (As := []) hx hb hml hown hG hg (cQ_init l dC dI tk A q (fun _ => 0) _) k_177 k_178 k_7 k_179 rfl (by decide +kernel) ⟨by decide, by decide⟩ hst rfl hl.1 rfl (Nat.le_of_ble_eq_true rfl) ⟨by decide, by decide⟩ d_E_init_49) hst (fun uQ H locs _ hst => ?_)
  refine W.cs (cells' := 53) (slots' := 1531) rfl rfl ?_
  have hst : St dC dI A s.heap H locs (((oX 7 q ksQ spQ tk uQ.1 (fun _ => 0) (fun _ _ => 0)) ++ ((rX 5 (uQ.1 0) 8 tk (fun i => some (zD uQ.2 i).1.1)) ++ (pF 8 ksK spK 0 tk (zD uQ.2) 8))) ++ ((hE, .inr (1, oFn ksE L3 3)) :: (((oX 4 (L3 2) ksS spS tk uS.1 (fun _ => 0) (fun _ _ => 0)) ++ ((rX 4 (uS.1 0) 3 tk (fun i => some (zD uS.2.2 i).1.1)) ++ ((oX 6 (uS.1 1) ksT spT tk uS.2.1 (fun _ => 0) (fun _ _ => 0)) ++ (pF 5 ksD spD 1 tk (zD uS.2.2) 3)))) ++ ((oX 3 (L3 1) ksV spV8 tk LV (fun _ => 0) (fun _ _ => 0)) ++ ((oX 2 (L3 0) ksF spF tk LF (fun _ => 0) (fun _ _ => 0)) ++ rw))))) := by simp only [List.append_assoc] at hst ⊢; exact hst
  have hst : St dC dI A s.heap H locs ((hE, .inr (1, oFn ksE L3 3)) :: (((oX 7 q ksQ spQ tk uQ.1 (fun _ => 0) (fun _ _ => 0)) ++ ((rX 5 (uQ.1 0) 8 tk (fun i => some (zD uQ.2 i).1.1)) ++ (pF 8 ksK spK 0 tk (zD uQ.2) 8))) ++ (((oX 4 (L3 2) ksS spS tk uS.1 (fun _ => 0) (fun _ _ => 0)) ++ ((rX 4 (uS.1 0) 3 tk (fun i => some (zD uS.2.2 i).1.1)) ++ ((oX 6 (uS.1 1) ksT spT tk uS.2.1 (fun _ => 0) (fun _ _ => 0)) ++ (pF 5 ksD spD 1 tk (zD uS.2.2) 3)))) ++ ((oX 3 (L3 1) ksV spV8 tk LV (fun _ => 0) (fun _ _ => 0)) ++ ((oX 2 (L3 0) ksF spF tk LF (fun _ => 0) (fun _ _ => 0)) ++ rw))))) := gr1 (a := ((oX 7 q ksQ spQ tk uQ.1 (fun _ => 0) (fun _ _ => 0)) ++ ((rX 5 (uQ.1 0) 8 tk (fun i => some (zD uQ.2 i).1.1)) ++ (pF 8 ksK spK 0 tk (zD uQ.2) 8)))) (b := [(hE, .inr (1, oFn ksE L3 3))]) (r := (((oX 4 (L3 2) ksS spS tk uS.1 (fun _ => 0) (fun _ _ => 0)) ++ ((rX 4 (uS.1 0) 3 tk (fun i => some (zD uS.2.2 i).1.1)) ++ ((oX 6 (uS.1 1) ksT spT tk uS.2.1 (fun _ => 0) (fun _ _ => 0)) ++ (pF 5 ksD spD 1 tk (zD uS.2.2) 3)))) ++ ((oX 3 (L3 1) ksV spV8 tk LV (fun _ => 0) (fun _ _ => 0)) ++ ((oX 2 (L3 0) ksF spF tk LF (fun _ => 0) (fun _ _ => 0)) ++ rw)))) hst
  refine ro_putF hx hb hown hin hG hg cE hst 3 (by decide) rfl rfl rfl rfl rfl (Nat.le_of_ble_eq_true rfl) k_287 d_E_init_52 (fun H locs hst => ?_)
  have hst : St dC dI A s.heap H locs ((hE, .inr (1, oFn ksE (va_up L3 3 q) 4)) :: (((oX 7 q ksQ spQ tk uQ.1 (fun _ => 0) (fun _ _ => 0)) ++ ((rX 5 (uQ.1 0) 8 tk (fun i => some (zD uQ.2 i).1.1)) ++ (pF 8 ksK spK 0 tk (zD uQ.2) 8))) ++ (((oX 4 (L3 2) ksS spS tk uS.1 (fun _ => 0) (fun _ _ => 0)) ++ ((rX 4 (uS.1 0) 3 tk (fun i => some (zD uS.2.2 i).1.1)) ++ ((oX 6 (uS.1 1) ksT spT tk uS.2.1 (fun _ => 0) (fun _ _ => 0)) ++ (pF 5 ksD spD 1 tk (zD uS.2.2) 3)))) ++ ((oX 3 (L3 1) ksV spV8 tk LV (fun _ => 0) (fun _ _ => 0)) ++ ((oX 2 (L3 0) ksF spF tk LF (fun _ => 0) (fun _ _ => 0)) ++ rw))))) := by rw [← oFn_set (fi := 3) rfl (uq (by decide))]; exact hst
  obtain ⟨L4, hL4⟩ : ∃ L4, L4 = va_up L3 3 q := ⟨_, rfl⟩
  have hq3 : q = L4 3 := by rw [hL4, va_up_self]
  have hk0_3 : L3 0 = L4 0 := by rw [hL4, va_up_ne _ _ (by decide)]
  have hk1_3 : L3 1 = L4 1 := by rw [hL4, va_up_ne _ _ (by decide)]
  have hk2_3 : L3 2 = L4 2 := by rw [hL4, va_up_ne _ _ (by decide)]
  rw [← hL4] at hst
  rw [hq3, hk0_3, hk1_3, hk2_3] at hst
  refine lv_aload_n hx hb d_E_init_55 rfl (lv_at hl 0 rfl) ?_
  refine ro_newO (ks := ksN) (sp := spN) (fun _ => 0) hx hb hown hG hg cN hst k_221 k_222 k_9 (by decide) (by decide) (by decide) d_E_init_56 (fun q H hst => ?_)
  refine W.cs (cells' := 54) (slots' := 1537) rfl rfl ?_
  refine lv_dup hx hb d_E_init_59 rfl ?_
  refine cl_inp hx hb hml hown hG hg (cN_init l dC dI tk A q (fun _ => 0) _) t_223 k_224 k_9 k_225 rfl (by decide +kernel) ⟨by decide, by decide⟩ hst hl.1 (Nat.le_of_ble_eq_true rfl) ⟨by decide, by decide⟩ d_E_init_60 (fun uN H locs hpN hst => ?_)
  refine W.cs (cells' := 60) (slots' := 1797) rfl rfl ?_
  have hst : St dC dI A s.heap H locs (((oX 9 q ksN spN tk uN.1 (fun _ => 0) (fun _ _ => 0)) ++ (sbX (uN.1 4) tk uN.2 0)) ++ ((hE, .inr (1, oFn ksE L4 4)) :: (((oX 7 (L4 3) ksQ spQ tk uQ.1 (fun _ => 0) (fun _ _ => 0)) ++ ((rX 5 (uQ.1 0) 8 tk (fun i => some (zD uQ.2 i).1.1)) ++ (pF 8 ksK spK 0 tk (zD uQ.2) 8))) ++ (((oX 4 (L4 2) ksS spS tk uS.1 (fun _ => 0) (fun _ _ => 0)) ++ ((rX 4 (uS.1 0) 3 tk (fun i => some (zD uS.2.2 i).1.1)) ++ ((oX 6 (uS.1 1) ksT spT tk uS.2.1 (fun _ => 0) (fun _ _ => 0)) ++ (pF 5 ksD spD 1 tk (zD uS.2.2) 3)))) ++ ((oX 3 (L4 1) ksV spV8 tk LV (fun _ => 0) (fun _ _ => 0)) ++ ((oX 2 (L4 0) ksF spF tk LF (fun _ => 0) (fun _ _ => 0)) ++ rw)))))) := by simp only [List.append_assoc] at hst ⊢; exact hst
  have hst : St dC dI A s.heap H locs ((hE, .inr (1, oFn ksE L4 4)) :: (((oX 9 q ksN spN tk uN.1 (fun _ => 0) (fun _ _ => 0)) ++ (sbX (uN.1 4) tk uN.2 0)) ++ (((oX 7 (L4 3) ksQ spQ tk uQ.1 (fun _ => 0) (fun _ _ => 0)) ++ ((rX 5 (uQ.1 0) 8 tk (fun i => some (zD uQ.2 i).1.1)) ++ (pF 8 ksK spK 0 tk (zD uQ.2) 8))) ++ (((oX 4 (L4 2) ksS spS tk uS.1 (fun _ => 0) (fun _ _ => 0)) ++ ((rX 4 (uS.1 0) 3 tk (fun i => some (zD uS.2.2 i).1.1)) ++ ((oX 6 (uS.1 1) ksT spT tk uS.2.1 (fun _ => 0) (fun _ _ => 0)) ++ (pF 5 ksD spD 1 tk (zD uS.2.2) 3)))) ++ ((oX 3 (L4 1) ksV spV8 tk LV (fun _ => 0) (fun _ _ => 0)) ++ ((oX 2 (L4 0) ksF spF tk LF (fun _ => 0) (fun _ _ => 0)) ++ rw)))))) := gr1 (a := ((oX 9 q ksN spN tk uN.1 (fun _ => 0) (fun _ _ => 0)) ++ (sbX (uN.1 4) tk uN.2 0))) (b := [(hE, .inr (1, oFn ksE L4 4))]) (r := (((oX 7 (L4 3) ksQ spQ tk uQ.1 (fun _ => 0) (fun _ _ => 0)) ++ ((rX 5 (uQ.1 0) 8 tk (fun i => some (zD uQ.2 i).1.1)) ++ (pF 8 ksK spK 0 tk (zD uQ.2) 8))) ++ (((oX 4 (L4 2) ksS spS tk uS.1 (fun _ => 0) (fun _ _ => 0)) ++ ((rX 4 (uS.1 0) 3 tk (fun i => some (zD uS.2.2 i).1.1)) ++ ((oX 6 (uS.1 1) ksT spT tk uS.2.1 (fun _ => 0) (fun _ _ => 0)) ++ (pF 5 ksD spD 1 tk (zD uS.2.2) 3)))) ++ ((oX 3 (L4 1) ksV spV8 tk LV (fun _ => 0) (fun _ _ => 0)) ++ ((oX 2 (L4 0) ksF spF tk LF (fun _ => 0) (fun _ _ => 0)) ++ rw))))) hst
  refine ro_putF hx hb hown hin hG hg cE hst 4 (by decide) rfl rfl rfl rfl rfl (Nat.le_of_ble_eq_true rfl) k_288 d_E_init_63 (fun H locs hst => ?_)
  have hst : St dC dI A s.heap H locs ((hE, .inr (1, oFn ksE (va_up L4 4 q) 5)) :: (((oX 9 q ksN spN tk uN.1 (fun _ => 0) (fun _ _ => 0)) ++ (sbX (uN.1 4) tk uN.2 0)) ++ (((oX 7 (L4 3) ksQ spQ tk uQ.1 (fun _ => 0) (fun _ _ => 0)) ++ ((rX 5 (uQ.1 0) 8 tk (fun i => some (zD uQ.2 i).1.1)) ++ (pF 8 ksK spK 0 tk (zD uQ.2) 8))) ++ (((oX 4 (L4 2) ksS spS tk uS.1 (fun _ => 0) (fun _ _ => 0)) ++ ((rX 4 (uS.1 0) 3 tk (fun i => some (zD uS.2.2 i).1.1)) ++ ((oX 6 (uS.1 1) ksT spT tk uS.2.1 (fun _ => 0) (fun _ _ => 0)) ++ (pF 5 ksD spD 1 tk (zD uS.2.2) 3)))) ++ ((oX 3 (L4 1) ksV spV8 tk LV (fun _ => 0) (fun _ _ => 0)) ++ ((oX 2 (L4 0) ksF spF tk LF (fun _ => 0) (fun _ _ => 0)) ++ rw)))))) := by rw [← oFn_set (fi := 4) rfl (uq (by decide))]; exact hst
  obtain ⟨L5, hL5⟩ : ∃ L5, L5 = va_up L4 4 q := ⟨_, rfl⟩
  have hq4 : q = L5 4 := by rw [hL5, va_up_self]
  have hk0_4 : L4 0 = L5 0 := by rw [hL5, va_up_ne _ _ (by decide)]
  have hk1_4 : L4 1 = L5 1 := by rw [hL5, va_up_ne _ _ (by decide)]
  have hk2_4 : L4 2 = L5 2 := by rw [hL5, va_up_ne _ _ (by decide)]
  have hk3_4 : L4 3 = L5 3 := by rw [hL5, va_up_ne _ _ (by decide)]
  rw [← hL5] at hst
  rw [hq4, hk0_4, hk1_4, hk2_4, hk3_4] at hst
  rw [oFn_full (fl (by decide))] at hst
  have hst : St dC dI A s.heap H locs ((oX 1 hE ksE spE tk L5 (fun _ => 0) (fun _ _ => 0)) ++ ((oX 9 (L5 4) ksN spN tk uN.1 (fun _ => 0) (fun _ _ => 0)) ++ ((sbX (uN.1 4) tk uN.2 0) ++ ((oX 7 (L5 3) ksQ spQ tk uQ.1 (fun _ => 0) (fun _ _ => 0)) ++ ((rX 5 (uQ.1 0) 8 tk (fun i => some (zD uQ.2 i).1.1)) ++ ((pF 8 ksK spK 0 tk (zD uQ.2) 8) ++ ((oX 4 (L5 2) ksS spS tk uS.1 (fun _ => 0) (fun _ _ => 0)) ++ ((rX 4 (uS.1 0) 3 tk (fun i => some (zD uS.2.2 i).1.1)) ++ ((oX 6 (uS.1 1) ksT spT tk uS.2.1 (fun _ => 0) (fun _ _ => 0)) ++ ((pF 5 ksD spD 1 tk (zD uS.2.2) 3) ++ ((oX 3 (L5 1) ksV spV8 tk LV (fun _ => 0) (fun _ _ => 0)) ++ ((oX 2 (L5 0) ksF spF tk LF (fun _ => 0) (fun _ _ => 0)) ++ rw)))))))))))) := by simp only [List.append_assoc] at hst ⊢; exact hst
  have hst : St dC dI A s.heap H locs ((sbX (uN.1 4) tk uN.2 0) ++ ((oX 1 hE ksE spE tk L5 (fun _ => 0) (fun _ _ => 0)) ++ ((oX 9 (L5 4) ksN spN tk uN.1 (fun _ => 0) (fun _ _ => 0)) ++ ((oX 7 (L5 3) ksQ spQ tk uQ.1 (fun _ => 0) (fun _ _ => 0)) ++ ((rX 5 (uQ.1 0) 8 tk (fun i => some (zD uQ.2 i).1.1)) ++ ((pF 8 ksK spK 0 tk (zD uQ.2) 8) ++ ((oX 4 (L5 2) ksS spS tk uS.1 (fun _ => 0) (fun _ _ => 0)) ++ ((rX 4 (uS.1 0) 3 tk (fun i => some (zD uS.2.2 i).1.1)) ++ ((oX 6 (uS.1 1) ksT spT tk uS.2.1 (fun _ => 0) (fun _ _ => 0)) ++ ((pF 5 ksD spD 1 tk (zD uS.2.2) 3) ++ ((oX 3 (L5 1) ksV spV8 tk LV (fun _ => 0) (fun _ _ => 0)) ++ ((oX 2 (L5 0) ksF spF tk LF (fun _ => 0) (fun _ _ => 0)) ++ rw)))))))))))) := gr2 (a := (oX 1 hE ksE spE tk L5 (fun _ => 0) (fun _ _ => 0))) (b := (oX 9 (L5 4) ksN spN tk uN.1 (fun _ => 0) (fun _ _ => 0))) (x := (sbX (uN.1 4) tk uN.2 0)) (r := ((oX 7 (L5 3) ksQ spQ tk uQ.1 (fun _ => 0) (fun _ _ => 0)) ++ ((rX 5 (uQ.1 0) 8 tk (fun i => some (zD uQ.2 i).1.1)) ++ ((pF 8 ksK spK 0 tk (zD uQ.2) 8) ++ ((oX 4 (L5 2) ksS spS tk uS.1 (fun _ => 0) (fun _ _ => 0)) ++ ((rX 4 (uS.1 0) 3 tk (fun i => some (zD uS.2.2 i).1.1)) ++ ((oX 6 (uS.1 1) ksT spT tk uS.2.1 (fun _ => 0) (fun _ _ => 0)) ++ ((pF 5 ksD spD 1 tk (zD uS.2.2) 3) ++ ((oX 3 (L5 1) ksV spV8 tk LV (fun _ => 0) (fun _ _ => 0)) ++ ((oX 2 (L5 0) ksF spF tk LF (fun _ => 0) (fun _ _ => 0)) ++ rw)))))))))) hst
  have hst : St dC dI A s.heap H locs ((pF 8 ksK spK 0 tk (zD uQ.2) 8) ++ ((sbX (uN.1 4) tk uN.2 0) ++ ((oX 1 hE ksE spE tk L5 (fun _ => 0) (fun _ _ => 0)) ++ ((oX 9 (L5 4) ksN spN tk uN.1 (fun _ => 0) (fun _ _ => 0)) ++ ((oX 7 (L5 3) ksQ spQ tk uQ.1 (fun _ => 0) (fun _ _ => 0)) ++ ((rX 5 (uQ.1 0) 8 tk (fun i => some (zD uQ.2 i).1.1)) ++ ((oX 4 (L5 2) ksS spS tk uS.1 (fun _ => 0) (fun _ _ => 0)) ++ ((rX 4 (uS.1 0) 3 tk (fun i => some (zD uS.2.2 i).1.1)) ++ ((oX 6 (uS.1 1) ksT spT tk uS.2.1 (fun _ => 0) (fun _ _ => 0)) ++ ((pF 5 ksD spD 1 tk (zD uS.2.2) 3) ++ ((oX 3 (L5 1) ksV spV8 tk LV (fun _ => 0) (fun _ _ => 0)) ++ ((oX 2 (L5 0) ksF spF tk LF (fun _ => 0) (fun _ _ => 0)) ++ rw)))))))))))) := gr5 (a := (sbX (uN.1 4) tk uN.2 0)) (b := (oX 1 hE ksE spE tk L5 (fun _ => 0) (fun _ _ => 0))) (x := (oX 9 (L5 4) ksN spN tk uN.1 (fun _ => 0) (fun _ _ => 0))) (y := (oX 7 (L5 3) ksQ spQ tk uQ.1 (fun _ => 0) (fun _ _ => 0))) (z := (rX 5 (uQ.1 0) 8 tk (fun i => some (zD uQ.2 i).1.1))) (u := (pF 8 ksK spK 0 tk (zD uQ.2) 8)) (r := ((oX 4 (L5 2) ksS spS tk uS.1 (fun _ => 0) (fun _ _ => 0)) ++ ((rX 4 (uS.1 0) 3 tk (fun i => some (zD uS.2.2 i).1.1)) ++ ((oX 6 (uS.1 1) ksT spT tk uS.2.1 (fun _ => 0) (fun _ _ => 0)) ++ ((pF 5 ksD spD 1 tk (zD uS.2.2) 3) ++ ((oX 3 (L5 1) ksV spV8 tk LV (fun _ => 0) (fun _ _ => 0)) ++ ((oX 2 (L5 0) ksF spF tk LF (fun _ => 0) (fun _ _ => 0)) ++ rw))))))) hst
  have hst : St dC dI A s.heap H locs ((rX 5 (uQ.1 0) 8 tk (fun i => some (zD uQ.2 i).1.1)) ++ ((pF 8 ksK spK 0 tk (zD uQ.2) 8) ++ ((sbX (uN.1 4) tk uN.2 0) ++ ((oX 1 hE ksE spE tk L5 (fun _ => 0) (fun _ _ => 0)) ++ ((oX 9 (L5 4) ksN spN tk uN.1 (fun _ => 0) (fun _ _ => 0)) ++ ((oX 7 (L5 3) ksQ spQ tk uQ.1 (fun _ => 0) (fun _ _ => 0)) ++ ((oX 4 (L5 2) ksS spS tk uS.1 (fun _ => 0) (fun _ _ => 0)) ++ ((rX 4 (uS.1 0) 3 tk (fun i => some (zD uS.2.2 i).1.1)) ++ ((oX 6 (uS.1 1) ksT spT tk uS.2.1 (fun _ => 0) (fun _ _ => 0)) ++ ((pF 5 ksD spD 1 tk (zD uS.2.2) 3) ++ ((oX 3 (L5 1) ksV spV8 tk LV (fun _ => 0) (fun _ _ => 0)) ++ ((oX 2 (L5 0) ksF spF tk LF (fun _ => 0) (fun _ _ => 0)) ++ rw)))))))))))) := gr5 (a := (pF 8 ksK spK 0 tk (zD uQ.2) 8)) (b := (sbX (uN.1 4) tk uN.2 0)) (x := (oX 1 hE ksE spE tk L5 (fun _ => 0) (fun _ _ => 0))) (y := (oX 9 (L5 4) ksN spN tk uN.1 (fun _ => 0) (fun _ _ => 0))) (z := (oX 7 (L5 3) ksQ spQ tk uQ.1 (fun _ => 0) (fun _ _ => 0))) (u := (rX 5 (uQ.1 0) 8 tk (fun i => some (zD uQ.2 i).1.1))) (r := ((oX 4 (L5 2) ksS spS tk uS.1 (fun _ => 0) (fun _ _ => 0)) ++ ((rX 4 (uS.1 0) 3 tk (fun i => some (zD uS.2.2 i).1.1)) ++ ((oX 6 (uS.1 1) ksT spT tk uS.2.1 (fun _ => 0) (fun _ _ => 0)) ++ ((pF 5 ksD spD 1 tk (zD uS.2.2) 3) ++ ((oX 3 (L5 1) ksV spV8 tk LV (fun _ => 0) (fun _ _ => 0)) ++ ((oX 2 (L5 0) ksF spF tk LF (fun _ => 0) (fun _ _ => 0)) ++ rw))))))) hst
  have hst : St dC dI A s.heap H locs ((oX 7 (L5 3) ksQ spQ tk uQ.1 (fun _ => 0) (fun _ _ => 0)) ++ ((rX 5 (uQ.1 0) 8 tk (fun i => some (zD uQ.2 i).1.1)) ++ ((pF 8 ksK spK 0 tk (zD uQ.2) 8) ++ ((sbX (uN.1 4) tk uN.2 0) ++ ((oX 1 hE ksE spE tk L5 (fun _ => 0) (fun _ _ => 0)) ++ ((oX 9 (L5 4) ksN spN tk uN.1 (fun _ => 0) (fun _ _ => 0)) ++ ((oX 4 (L5 2) ksS spS tk uS.1 (fun _ => 0) (fun _ _ => 0)) ++ ((rX 4 (uS.1 0) 3 tk (fun i => some (zD uS.2.2 i).1.1)) ++ ((oX 6 (uS.1 1) ksT spT tk uS.2.1 (fun _ => 0) (fun _ _ => 0)) ++ ((pF 5 ksD spD 1 tk (zD uS.2.2) 3) ++ ((oX 3 (L5 1) ksV spV8 tk LV (fun _ => 0) (fun _ _ => 0)) ++ ((oX 2 (L5 0) ksF spF tk LF (fun _ => 0) (fun _ _ => 0)) ++ rw)))))))))))) := gr5 (a := (rX 5 (uQ.1 0) 8 tk (fun i => some (zD uQ.2 i).1.1))) (b := (pF 8 ksK spK 0 tk (zD uQ.2) 8)) (x := (sbX (uN.1 4) tk uN.2 0)) (y := (oX 1 hE ksE spE tk L5 (fun _ => 0) (fun _ _ => 0))) (z := (oX 9 (L5 4) ksN spN tk uN.1 (fun _ => 0) (fun _ _ => 0))) (u := (oX 7 (L5 3) ksQ spQ tk uQ.1 (fun _ => 0) (fun _ _ => 0))) (r := ((oX 4 (L5 2) ksS spS tk uS.1 (fun _ => 0) (fun _ _ => 0)) ++ ((rX 4 (uS.1 0) 3 tk (fun i => some (zD uS.2.2 i).1.1)) ++ ((oX 6 (uS.1 1) ksT spT tk uS.2.1 (fun _ => 0) (fun _ _ => 0)) ++ ((pF 5 ksD spD 1 tk (zD uS.2.2) 3) ++ ((oX 3 (L5 1) ksV spV8 tk LV (fun _ => 0) (fun _ _ => 0)) ++ ((oX 2 (L5 0) ksF spF tk LF (fun _ => 0) (fun _ _ => 0)) ++ rw))))))) hst
  have hst : St dC dI A s.heap H locs ((pF 5 ksD spD 1 tk (zD uS.2.2) 3) ++ ((oX 7 (L5 3) ksQ spQ tk uQ.1 (fun _ => 0) (fun _ _ => 0)) ++ ((rX 5 (uQ.1 0) 8 tk (fun i => some (zD uQ.2 i).1.1)) ++ ((pF 8 ksK spK 0 tk (zD uQ.2) 8) ++ ((sbX (uN.1 4) tk uN.2 0) ++ ((oX 1 hE ksE spE tk L5 (fun _ => 0) (fun _ _ => 0)) ++ ((oX 9 (L5 4) ksN spN tk uN.1 (fun _ => 0) (fun _ _ => 0)) ++ ((oX 4 (L5 2) ksS spS tk uS.1 (fun _ => 0) (fun _ _ => 0)) ++ ((rX 4 (uS.1 0) 3 tk (fun i => some (zD uS.2.2 i).1.1)) ++ ((oX 6 (uS.1 1) ksT spT tk uS.2.1 (fun _ => 0) (fun _ _ => 0)) ++ ((oX 3 (L5 1) ksV spV8 tk LV (fun _ => 0) (fun _ _ => 0)) ++ ((oX 2 (L5 0) ksF spF tk LF (fun _ => 0) (fun _ _ => 0)) ++ rw)))))))))))) := gr9 (a := (oX 7 (L5 3) ksQ spQ tk uQ.1 (fun _ => 0) (fun _ _ => 0))) (b := (rX 5 (uQ.1 0) 8 tk (fun i => some (zD uQ.2 i).1.1))) (x := (pF 8 ksK spK 0 tk (zD uQ.2) 8)) (y := (sbX (uN.1 4) tk uN.2 0)) (z := (oX 1 hE ksE spE tk L5 (fun _ => 0) (fun _ _ => 0))) (u := (oX 9 (L5 4) ksN spN tk uN.1 (fun _ => 0) (fun _ _ => 0))) (v := (oX 4 (L5 2) ksS spS tk uS.1 (fun _ => 0) (fun _ _ => 0))) (t := (rX 4 (uS.1 0) 3 tk (fun i => some (zD uS.2.2 i).1.1))) (q := (oX 6 (uS.1 1) ksT spT tk uS.2.1 (fun _ => 0) (fun _ _ => 0))) (k := (pF 5 ksD spD 1 tk (zD uS.2.2) 3)) (r := ((oX 3 (L5 1) ksV spV8 tk LV (fun _ => 0) (fun _ _ => 0)) ++ ((oX 2 (L5 0) ksF spF tk LF (fun _ => 0) (fun _ _ => 0)) ++ rw))) hst
  have hst : St dC dI A s.heap H locs ((oX 6 (uS.1 1) ksT spT tk uS.2.1 (fun _ => 0) (fun _ _ => 0)) ++ ((pF 5 ksD spD 1 tk (zD uS.2.2) 3) ++ ((oX 7 (L5 3) ksQ spQ tk uQ.1 (fun _ => 0) (fun _ _ => 0)) ++ ((rX 5 (uQ.1 0) 8 tk (fun i => some (zD uQ.2 i).1.1)) ++ ((pF 8 ksK spK 0 tk (zD uQ.2) 8) ++ ((sbX (uN.1 4) tk uN.2 0) ++ ((oX 1 hE ksE spE tk L5 (fun _ => 0) (fun _ _ => 0)) ++ ((oX 9 (L5 4) ksN spN tk uN.1 (fun _ => 0) (fun _ _ => 0)) ++ ((oX 4 (L5 2) ksS spS tk uS.1 (fun _ => 0) (fun _ _ => 0)) ++ ((rX 4 (uS.1 0) 3 tk (fun i => some (zD uS.2.2 i).1.1)) ++ ((oX 3 (L5 1) ksV spV8 tk LV (fun _ => 0) (fun _ _ => 0)) ++ ((oX 2 (L5 0) ksF spF tk LF (fun _ => 0) (fun _ _ => 0)) ++ rw)))))))))))) := gr9 (a := (pF 5 ksD spD 1 tk (zD uS.2.2) 3)) (b := (oX 7 (L5 3) ksQ spQ tk uQ.1 (fun _ => 0) (fun _ _ => 0))) (x := (rX 5 (uQ.1 0) 8 tk (fun i => some (zD uQ.2 i).1.1))) (y := (pF 8 ksK spK 0 tk (zD uQ.2) 8)) (z := (sbX (uN.1 4) tk uN.2 0)) (u := (oX 1 hE ksE spE tk L5 (fun _ => 0) (fun _ _ => 0))) (v := (oX 9 (L5 4) ksN spN tk uN.1 (fun _ => 0) (fun _ _ => 0))) (t := (oX 4 (L5 2) ksS spS tk uS.1 (fun _ => 0) (fun _ _ => 0))) (q := (rX 4 (uS.1 0) 3 tk (fun i => some (zD uS.2.2 i).1.1))) (k := (oX 6 (uS.1 1) ksT spT tk uS.2.1 (fun _ => 0) (fun _ _ => 0))) (r := ((oX 3 (L5 1) ksV spV8 tk LV (fun _ => 0) (fun _ _ => 0)) ++ ((oX 2 (L5 0) ksF spF tk LF (fun _ => 0) (fun _ _ => 0)) ++ rw))) hst
  have hst : St dC dI A s.heap H locs ((rX 4 (uS.1 0) 3 tk (fun i => some (zD uS.2.2 i).1.1)) ++ ((oX 6 (uS.1 1) ksT spT tk uS.2.1 (fun _ => 0) (fun _ _ => 0)) ++ ((pF 5 ksD spD 1 tk (zD uS.2.2) 3) ++ ((oX 7 (L5 3) ksQ spQ tk uQ.1 (fun _ => 0) (fun _ _ => 0)) ++ ((rX 5 (uQ.1 0) 8 tk (fun i => some (zD uQ.2 i).1.1)) ++ ((pF 8 ksK spK 0 tk (zD uQ.2) 8) ++ ((sbX (uN.1 4) tk uN.2 0) ++ ((oX 1 hE ksE spE tk L5 (fun _ => 0) (fun _ _ => 0)) ++ ((oX 9 (L5 4) ksN spN tk uN.1 (fun _ => 0) (fun _ _ => 0)) ++ ((oX 4 (L5 2) ksS spS tk uS.1 (fun _ => 0) (fun _ _ => 0)) ++ ((oX 3 (L5 1) ksV spV8 tk LV (fun _ => 0) (fun _ _ => 0)) ++ ((oX 2 (L5 0) ksF spF tk LF (fun _ => 0) (fun _ _ => 0)) ++ rw)))))))))))) := gr9 (a := (oX 6 (uS.1 1) ksT spT tk uS.2.1 (fun _ => 0) (fun _ _ => 0))) (b := (pF 5 ksD spD 1 tk (zD uS.2.2) 3)) (x := (oX 7 (L5 3) ksQ spQ tk uQ.1 (fun _ => 0) (fun _ _ => 0))) (y := (rX 5 (uQ.1 0) 8 tk (fun i => some (zD uQ.2 i).1.1))) (z := (pF 8 ksK spK 0 tk (zD uQ.2) 8)) (u := (sbX (uN.1 4) tk uN.2 0)) (v := (oX 1 hE ksE spE tk L5 (fun _ => 0) (fun _ _ => 0))) (t := (oX 9 (L5 4) ksN spN tk uN.1 (fun _ => 0) (fun _ _ => 0))) (q := (oX 4 (L5 2) ksS spS tk uS.1 (fun _ => 0) (fun _ _ => 0))) (k := (rX 4 (uS.1 0) 3 tk (fun i => some (zD uS.2.2 i).1.1))) (r := ((oX 3 (L5 1) ksV spV8 tk LV (fun _ => 0) (fun _ _ => 0)) ++ ((oX 2 (L5 0) ksF spF tk LF (fun _ => 0) (fun _ _ => 0)) ++ rw))) hst
  have hst : St dC dI A s.heap H locs ((oX 4 (L5 2) ksS spS tk uS.1 (fun _ => 0) (fun _ _ => 0)) ++ ((rX 4 (uS.1 0) 3 tk (fun i => some (zD uS.2.2 i).1.1)) ++ ((oX 6 (uS.1 1) ksT spT tk uS.2.1 (fun _ => 0) (fun _ _ => 0)) ++ ((pF 5 ksD spD 1 tk (zD uS.2.2) 3) ++ ((oX 7 (L5 3) ksQ spQ tk uQ.1 (fun _ => 0) (fun _ _ => 0)) ++ ((rX 5 (uQ.1 0) 8 tk (fun i => some (zD uQ.2 i).1.1)) ++ ((pF 8 ksK spK 0 tk (zD uQ.2) 8) ++ ((sbX (uN.1 4) tk uN.2 0) ++ ((oX 1 hE ksE spE tk L5 (fun _ => 0) (fun _ _ => 0)) ++ ((oX 9 (L5 4) ksN spN tk uN.1 (fun _ => 0) (fun _ _ => 0)) ++ ((oX 3 (L5 1) ksV spV8 tk LV (fun _ => 0) (fun _ _ => 0)) ++ ((oX 2 (L5 0) ksF spF tk LF (fun _ => 0) (fun _ _ => 0)) ++ rw)))))))))))) := gr9 (a := (rX 4 (uS.1 0) 3 tk (fun i => some (zD uS.2.2 i).1.1))) (b := (oX 6 (uS.1 1) ksT spT tk uS.2.1 (fun _ => 0) (fun _ _ => 0))) (x := (pF 5 ksD spD 1 tk (zD uS.2.2) 3)) (y := (oX 7 (L5 3) ksQ spQ tk uQ.1 (fun _ => 0) (fun _ _ => 0))) (z := (rX 5 (uQ.1 0) 8 tk (fun i => some (zD uQ.2 i).1.1))) (u := (pF 8 ksK spK 0 tk (zD uQ.2) 8)) (v := (sbX (uN.1 4) tk uN.2 0)) (t := (oX 1 hE ksE spE tk L5 (fun _ => 0) (fun _ _ => 0))) (q := (oX 9 (L5 4) ksN spN tk uN.1 (fun _ => 0) (fun _ _ => 0))) (k := (oX 4 (L5 2) ksS spS tk uS.1 (fun _ => 0) (fun _ _ => 0))) (r := ((oX 3 (L5 1) ksV spV8 tk LV (fun _ => 0) (fun _ _ => 0)) ++ ((oX 2 (L5 0) ksF spF tk LF (fun _ => 0) (fun _ _ => 0)) ++ rw))) hst
  have hst : St dC dI A s.heap H locs ((oX 9 (L5 4) ksN spN tk uN.1 (fun _ => 0) (fun _ _ => 0)) ++ ((oX 4 (L5 2) ksS spS tk uS.1 (fun _ => 0) (fun _ _ => 0)) ++ ((rX 4 (uS.1 0) 3 tk (fun i => some (zD uS.2.2 i).1.1)) ++ ((oX 6 (uS.1 1) ksT spT tk uS.2.1 (fun _ => 0) (fun _ _ => 0)) ++ ((pF 5 ksD spD 1 tk (zD uS.2.2) 3) ++ ((oX 7 (L5 3) ksQ spQ tk uQ.1 (fun _ => 0) (fun _ _ => 0)) ++ ((rX 5 (uQ.1 0) 8 tk (fun i => some (zD uQ.2 i).1.1)) ++ ((pF 8 ksK spK 0 tk (zD uQ.2) 8) ++ ((sbX (uN.1 4) tk uN.2 0) ++ ((oX 1 hE ksE spE tk L5 (fun _ => 0) (fun _ _ => 0)) ++ ((oX 3 (L5 1) ksV spV8 tk LV (fun _ => 0) (fun _ _ => 0)) ++ ((oX 2 (L5 0) ksF spF tk LF (fun _ => 0) (fun _ _ => 0)) ++ rw)))))))))))) := gr9 (a := (oX 4 (L5 2) ksS spS tk uS.1 (fun _ => 0) (fun _ _ => 0))) (b := (rX 4 (uS.1 0) 3 tk (fun i => some (zD uS.2.2 i).1.1))) (x := (oX 6 (uS.1 1) ksT spT tk uS.2.1 (fun _ => 0) (fun _ _ => 0))) (y := (pF 5 ksD spD 1 tk (zD uS.2.2) 3)) (z := (oX 7 (L5 3) ksQ spQ tk uQ.1 (fun _ => 0) (fun _ _ => 0))) (u := (rX 5 (uQ.1 0) 8 tk (fun i => some (zD uQ.2 i).1.1))) (v := (pF 8 ksK spK 0 tk (zD uQ.2) 8)) (t := (sbX (uN.1 4) tk uN.2 0)) (q := (oX 1 hE ksE spE tk L5 (fun _ => 0) (fun _ _ => 0))) (k := (oX 9 (L5 4) ksN spN tk uN.1 (fun _ => 0) (fun _ _ => 0))) (r := ((oX 3 (L5 1) ksV spV8 tk LV (fun _ => 0) (fun _ _ => 0)) ++ ((oX 2 (L5 0) ksF spF tk LF (fun _ => 0) (fun _ _ => 0)) ++ rw))) hst
  have hst : St dC dI A s.heap H locs ((oX 3 (L5 1) ksV spV8 tk LV (fun _ => 0) (fun _ _ => 0)) ++ ((oX 9 (L5 4) ksN spN tk uN.1 (fun _ => 0) (fun _ _ => 0)) ++ ((oX 4 (L5 2) ksS spS tk uS.1 (fun _ => 0) (fun _ _ => 0)) ++ ((rX 4 (uS.1 0) 3 tk (fun i => some (zD uS.2.2 i).1.1)) ++ ((oX 6 (uS.1 1) ksT spT tk uS.2.1 (fun _ => 0) (fun _ _ => 0)) ++ ((pF 5 ksD spD 1 tk (zD uS.2.2) 3) ++ ((oX 7 (L5 3) ksQ spQ tk uQ.1 (fun _ => 0) (fun _ _ => 0)) ++ ((rX 5 (uQ.1 0) 8 tk (fun i => some (zD uQ.2 i).1.1)) ++ ((pF 8 ksK spK 0 tk (zD uQ.2) 8) ++ ((sbX (uN.1 4) tk uN.2 0) ++ ((oX 1 hE ksE spE tk L5 (fun _ => 0) (fun _ _ => 0)) ++ ((oX 2 (L5 0) ksF spF tk LF (fun _ => 0) (fun _ _ => 0)) ++ rw)))))))))))) := gr10 (a := (oX 9 (L5 4) ksN spN tk uN.1 (fun _ => 0) (fun _ _ => 0))) (b := (oX 4 (L5 2) ksS spS tk uS.1 (fun _ => 0) (fun _ _ => 0))) (x := (rX 4 (uS.1 0) 3 tk (fun i => some (zD uS.2.2 i).1.1))) (y := (oX 6 (uS.1 1) ksT spT tk uS.2.1 (fun _ => 0) (fun _ _ => 0))) (z := (pF 5 ksD spD 1 tk (zD uS.2.2) 3)) (u := (oX 7 (L5 3) ksQ spQ tk uQ.1 (fun _ => 0) (fun _ _ => 0))) (v := (rX 5 (uQ.1 0) 8 tk (fun i => some (zD uQ.2 i).1.1))) (t := (pF 8 ksK spK 0 tk (zD uQ.2) 8)) (q := (sbX (uN.1 4) tk uN.2 0)) (k := (oX 1 hE ksE spE tk L5 (fun _ => 0) (fun _ _ => 0))) (j := (oX 3 (L5 1) ksV spV8 tk LV (fun _ => 0) (fun _ _ => 0))) (r := ((oX 2 (L5 0) ksF spF tk LF (fun _ => 0) (fun _ _ => 0)) ++ rw)) hst
  have hst : St dC dI A s.heap H locs ((oX 2 (L5 0) ksF spF tk LF (fun _ => 0) (fun _ _ => 0)) ++ ((oX 3 (L5 1) ksV spV8 tk LV (fun _ => 0) (fun _ _ => 0)) ++ ((oX 9 (L5 4) ksN spN tk uN.1 (fun _ => 0) (fun _ _ => 0)) ++ ((oX 4 (L5 2) ksS spS tk uS.1 (fun _ => 0) (fun _ _ => 0)) ++ ((rX 4 (uS.1 0) 3 tk (fun i => some (zD uS.2.2 i).1.1)) ++ ((oX 6 (uS.1 1) ksT spT tk uS.2.1 (fun _ => 0) (fun _ _ => 0)) ++ ((pF 5 ksD spD 1 tk (zD uS.2.2) 3) ++ ((oX 7 (L5 3) ksQ spQ tk uQ.1 (fun _ => 0) (fun _ _ => 0)) ++ ((rX 5 (uQ.1 0) 8 tk (fun i => some (zD uQ.2 i).1.1)) ++ ((pF 8 ksK spK 0 tk (zD uQ.2) 8) ++ ((sbX (uN.1 4) tk uN.2 0) ++ ((oX 1 hE ksE spE tk L5 (fun _ => 0) (fun _ _ => 0)) ++ rw)))))))))))) := gr11 (a := (oX 3 (L5 1) ksV spV8 tk LV (fun _ => 0) (fun _ _ => 0))) (b := (oX 9 (L5 4) ksN spN tk uN.1 (fun _ => 0) (fun _ _ => 0))) (x := (oX 4 (L5 2) ksS spS tk uS.1 (fun _ => 0) (fun _ _ => 0))) (y := (rX 4 (uS.1 0) 3 tk (fun i => some (zD uS.2.2 i).1.1))) (z := (oX 6 (uS.1 1) ksT spT tk uS.2.1 (fun _ => 0) (fun _ _ => 0))) (u := (pF 5 ksD spD 1 tk (zD uS.2.2) 3)) (v := (oX 7 (L5 3) ksQ spQ tk uQ.1 (fun _ => 0) (fun _ _ => 0))) (t := (rX 5 (uQ.1 0) 8 tk (fun i => some (zD uQ.2 i).1.1))) (q := (pF 8 ksK spK 0 tk (zD uQ.2) 8)) (k := (sbX (uN.1 4) tk uN.2 0)) (j := (oX 1 hE ksE spE tk L5 (fun _ => 0) (fun _ _ => 0))) (i := (oX 2 (L5 0) ksF spF tk LF (fun _ => 0) (fun _ _ => 0))) (r := rw) hst
  have hst : St dC dI A s.heap H locs (oW 2 (L5 0) ksJ spJ tk LF (fun _ => 0) (fun _ _ => 0) (oW 3 (L5 1) ksV spV tk LV (fun _ => 0) (fun _ _ => 0) ((oX 9 (L5 4) ksN spN tk uN.1 (fun _ => 0) (fun _ _ => 0)) ++ ((oX 4 (L5 2) ksS spS tk uS.1 (fun _ => 0) (fun _ _ => 0)) ++ ((rX 4 (uS.1 0) 3 tk (fun i => some (zD uS.2.2 i).1.1)) ++ ((oX 6 (uS.1 1) ksT spT tk uS.2.1 (fun _ => 0) (fun _ _ => 0)) ++ ((pF 5 ksD spD 1 tk (zD uS.2.2) 3) ++ ((oX 7 (L5 3) ksQ spQ tk uQ.1 (fun _ => 0) (fun _ _ => 0)) ++ ((rX 5 (uQ.1 0) 8 tk (fun i => some (zD uQ.2 i).1.1)) ++ ((pF 8 ksK spK 0 tk (zD uQ.2) 8) ++ ((sbX (uN.1 4) tk uN.2 0) ++ ((oX 1 hE ksE spE tk L5 (fun _ => 0) (fun _ _ => 0)) ++ rw)))))))))))) := by
    have h9 := fv_out (aF := fun _ _ => 0) (a1 := fun _ _ => 0) (a2 := fun _ _ => 0) (h1 := L5 0) (h2 := L5 1) (g1 := fun _ => 0) (g2 := fun _ => 0) (L1 := LF) (L2 := LV) (rw := ((oX 9 (L5 4) ksN spN tk uN.1 (fun _ => 0) (fun _ _ => 0)) ++ ((oX 4 (L5 2) ksS spS tk uS.1 (fun _ => 0) (fun _ _ => 0)) ++ ((rX 4 (uS.1 0) 3 tk (fun i => some (zD uS.2.2 i).1.1)) ++ ((oX 6 (uS.1 1) ksT spT tk uS.2.1 (fun _ => 0) (fun _ _ => 0)) ++ ((pF 5 ksD spD 1 tk (zD uS.2.2) 3) ++ ((oX 7 (L5 3) ksQ spQ tk uQ.1 (fun _ => 0) (fun _ _ => 0)) ++ ((rX 5 (uQ.1 0) 8 tk (fun i => some (zD uQ.2 i).1.1)) ++ ((pF 8 ksK spK 0 tk (zD uQ.2) 8) ++ ((sbX (uN.1 4) tk uN.2 0) ++ ((oX 1 hE ksE spE tk L5 (fun _ => 0) (fun _ _ => 0)) ++ rw))))))))))) hsrc hst
    rw [show va_up (fun _ _ => 0 : aA) 8 ((fun _ _ => 0 : aA) 0) = (fun _ _ => 0) from va_upE (f := fun _ _ => 0) (k := 8)] at h9
    exact h9
  have hst : St dC dI A s.heap H locs ((oX 1 hE ksE spE tk L5 (fun _ => 0) (fun _ _ => 0)) ++ ((oX 2 (L5 0) ksJ spJ tk LF (fun _ => 0) (fun _ _ => 0)) ++ ((oX 3 (L5 1) ksV spV tk LV (fun _ => 0) (fun _ _ => 0)) ++ ((oX 9 (L5 4) ksN spN tk uN.1 (fun _ => 0) (fun _ _ => 0)) ++ ((oX 4 (L5 2) ksS spS tk uS.1 (fun _ => 0) (fun _ _ => 0)) ++ ((rX 4 (uS.1 0) 3 tk (fun i => some (zD uS.2.2 i).1.1)) ++ ((oX 6 (uS.1 1) ksT spT tk uS.2.1 (fun _ => 0) (fun _ _ => 0)) ++ ((pF 5 ksD spD 1 tk (zD uS.2.2) 3) ++ ((oX 7 (L5 3) ksQ spQ tk uQ.1 (fun _ => 0) (fun _ _ => 0)) ++ ((rX 5 (uQ.1 0) 8 tk (fun i => some (zD uQ.2 i).1.1)) ++ ((pF 8 ksK spK 0 tk (zD uQ.2) 8) ++ ((sbX (uN.1 4) tk uN.2 0) ++ rw)))))))))))) := gr11 (a := (oX 2 (L5 0) ksJ spJ tk LF (fun _ => 0) (fun _ _ => 0))) (b := (oX 3 (L5 1) ksV spV tk LV (fun _ => 0) (fun _ _ => 0))) (x := (oX 9 (L5 4) ksN spN tk uN.1 (fun _ => 0) (fun _ _ => 0))) (y := (oX 4 (L5 2) ksS spS tk uS.1 (fun _ => 0) (fun _ _ => 0))) (z := (rX 4 (uS.1 0) 3 tk (fun i => some (zD uS.2.2 i).1.1))) (u := (oX 6 (uS.1 1) ksT spT tk uS.2.1 (fun _ => 0) (fun _ _ => 0))) (v := (pF 5 ksD spD 1 tk (zD uS.2.2) 3)) (t := (oX 7 (L5 3) ksQ spQ tk uQ.1 (fun _ => 0) (fun _ _ => 0))) (q := (rX 5 (uQ.1 0) 8 tk (fun i => some (zD uQ.2 i).1.1))) (k := (pF 8 ksK spK 0 tk (zD uQ.2) 8)) (j := (sbX (uN.1 4) tk uN.2 0)) (i := (oX 1 hE ksE spE tk L5 (fun _ => 0) (fun _ _ => 0))) (r := rw) hst
  refine lv_aload_n hx hb d_E_init_66 rfl (lv_at hl 0 rfl) ?_
  refine lv_iconst (v := 0) hx hb d_E_init_67 (by decide) ?_
  refine ro_puti hx hb hown hG hg cE (ks := ksE) (sp := spE) (rw := ((oX 2 (L5 0) ksJ spJ tk LF (fun _ => 0) (fun _ _ => 0)) ++ ((oX 3 (L5 1) ksV spV tk LV (fun _ => 0) (fun _ _ => 0)) ++ ((oX 9 (L5 4) ksN spN tk uN.1 (fun _ => 0) (fun _ _ => 0)) ++ ((oX 4 (L5 2) ksS spS tk uS.1 (fun _ => 0) (fun _ _ => 0)) ++ ((rX 4 (uS.1 0) 3 tk (fun i => some (zD uS.2.2 i).1.1)) ++ ((oX 6 (uS.1 1) ksT spT tk uS.2.1 (fun _ => 0) (fun _ _ => 0)) ++ ((pF 5 ksD spD 1 tk (zD uS.2.2) 3) ++ ((oX 7 (L5 3) ksQ spQ tk uQ.1 (fun _ => 0) (fun _ _ => 0)) ++ ((rX 5 (uQ.1 0) 8 tk (fun i => some (zD uQ.2 i).1.1)) ++ ((pF 8 ksK spK 0 tk (zD uQ.2) 8) ++ ((sbX (uN.1 4) tk uN.2 0) ++ rw)))))))))))) hst 5 (by decide) rfl rfl rfl rfl rfl k_289 d_E_init_68 (fun g1 H locs eg1 hst => ?_)
  refine lv_aload_n hx hb d_E_init_71 rfl (lv_at hl 0 rfl) ?_
  refine lv_iconst (v := (-1)) hx hb d_E_init_72 (by decide) ?_
  refine ro_puti hx hb hown hG hg cE hst 6 (by decide) rfl rfl rfl rfl rfl k_290 d_E_init_73 (fun g2 H locs eg2 hst => ?_)
  rw [eg1] at eg2
  have eg2 : g2 = gE0 := eg2
  rw [eg2] at hst
  refine W.widen (k := 60) (n := 1800) (by decide) (by decide) ?_
  exact rp_v (u := (L5, LF, LV, (uN.1, uN.2), (uS.1, uS.2.1, uS.2.2), (uQ.1, uQ.2))) (wf := (fun v : (Nat → Nat) × (Nat → Nat) × (Nat → Nat) × ((Nat → Nat) × sbS) × ((Nat → Nat) × (Nat → Nat) × (Nat → aAd)) × ((Nat → Nat) × (Nat → aAd)) => srvW hE tk v.1 v.2.1 v.2.2.1 v.2.2.2.1.1 v.2.2.2.2.1.1 v.2.2.2.2.1.2.1 v.2.2.2.2.2.1 gE0 (fun _ => 0) (fun _ => 0) (fun _ _ => 0) (fun _ => 0) (fun _ _ => 0) (fun _ => 0) (fun _ => 0) (fun _ _ => 0) (zD v.2.2.2.2.1.2.2) (fun _ => 0) (zD v.2.2.2.2.2.2) (sbW (v.2.2.2.1.1 4) tk v.2.2.2.1.2 0 rw))) hx hb hr hlk hst ⟨hpN, hsrc⟩ d_E_init_76
