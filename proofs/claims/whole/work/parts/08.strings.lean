theorem d_sc_0 : decode prog_20_method_152_code 0 = .ok (.getstatic 38, 3) := by decide +kernel
theorem d_sc_3 : decode prog_20_method_152_code 3 = .ok (.ifCond .eq 10, 3) := by decide +kernel
theorem d_sc_6 : decode prog_20_method_152_code 6 = .ok (.aload_n 0, 1) := by decide +kernel
theorem d_sc_7 : decode prog_20_method_152_code 7 = .ok (.getfield 15, 3) := by decide +kernel
theorem d_sc_10 : decode prog_20_method_152_code 10 = .ok (.goto 4, 3) := by decide +kernel
theorem d_sc_13 : decode prog_20_method_152_code 13 = .ok (.iconst 1, 1) := by decide +kernel
theorem d_sc_14 : decode prog_20_method_152_code 14 = .ok (.ireturn, 1) := by decide +kernel
theorem d_sl_0 : decode prog_20_method_154_code 0 = .ok (.getstatic 38, 3) := by decide +kernel
theorem d_sl_3 : decode prog_20_method_154_code 3 = .ok (.ifCond .eq 14, 3) := by decide +kernel
theorem d_sl_6 : decode prog_20_method_154_code 6 = .ok (.aload_n 0, 1) := by decide +kernel
theorem d_sl_7 : decode prog_20_method_154_code 7 = .ok (.getfield 15, 3) := by decide +kernel
theorem d_sl_10 : decode prog_20_method_154_code 10 = .ok (.ifCond .ne 7, 3) := by decide +kernel
theorem d_sl_13 : decode prog_20_method_154_code 13 = .ok (.iconst 1, 1) := by decide +kernel
theorem d_sl_14 : decode prog_20_method_154_code 14 = .ok (.goto 4, 3) := by decide +kernel
theorem d_sl_17 : decode prog_20_method_154_code 17 = .ok (.iconst 0, 1) := by decide +kernel
theorem d_sl_18 : decode prog_20_method_154_code 18 = .ok (.ireturn, 1) := by decide +kernel
theorem d_sn_0 : decode prog_20_method_54_code 0 = .ok (.aload_n 0, 1) := by decide +kernel
theorem d_sn_1 : decode prog_20_method_54_code 1 = .ok (.getfield 9, 3) := by decide +kernel
theorem d_sn_4 : decode prog_20_method_54_code 4 = .ok (.arraylength, 1) := by decide +kernel
theorem d_sn_5 : decode prog_20_method_54_code 5 = .ok (.aload_n 0, 1) := by decide +kernel
theorem d_sn_6 : decode prog_20_method_54_code 6 = .ok (.invokevirtual 335, 3) := by decide +kernel
theorem d_sn_9 : decode prog_20_method_54_code 9 = .ok (.ishr, 1) := by decide +kernel
theorem d_sn_10 : decode prog_20_method_54_code 10 = .ok (.ireturn, 1) := by decide +kernel
theorem d_sa_0 : decode prog_20_method_56_code 0 = .ok (.aload_n 0, 1) := by decide +kernel
theorem d_sa_1 : decode prog_20_method_56_code 1 = .ok (.invokevirtual 492, 3) := by decide +kernel
theorem d_sa_4 : decode prog_20_method_56_code 4 = .ok (.ifCond .eq 12, 3) := by decide +kernel
theorem d_sa_7 : decode prog_20_method_56_code 7 = .ok (.aload_n 0, 1) := by decide +kernel
theorem d_sa_8 : decode prog_20_method_56_code 8 = .ok (.getfield 9, 3) := by decide +kernel
theorem d_sa_11 : decode prog_20_method_56_code 11 = .ok (.iload_n 1, 1) := by decide +kernel
theorem d_sa_12 : decode prog_20_method_56_code 12 = .ok (.invokestatic 495, 3) := by decide +kernel
theorem d_sa_15 : decode prog_20_method_56_code 15 = .ok (.ireturn, 1) := by decide +kernel
theorem d_sa_16 : decode prog_20_method_56_code 16 = .ok (.aload_n 0, 1) := by decide +kernel
theorem d_sa_17 : decode prog_20_method_56_code 17 = .ok (.getfield 9, 3) := by decide +kernel
theorem d_sa_20 : decode prog_20_method_56_code 20 = .ok (.iload_n 1, 1) := by decide +kernel
theorem d_sa_21 : decode prog_20_method_56_code 21 = .ok (.invokestatic 498, 3) := by decide +kernel
theorem d_sa_24 : decode prog_20_method_56_code 24 = .ok (.ireturn, 1) := by decide +kernel
theorem d_la_0 : decode prog_22_method_2_code 0 = .ok (.iload_n 1, 1) := by decide +kernel
theorem d_la_1 : decode prog_22_method_2_code 1 = .ok (.aload_n 0, 1) := by decide +kernel
theorem d_la_2 : decode prog_22_method_2_code 2 = .ok (.arraylength, 1) := by decide +kernel
theorem d_la_3 : decode prog_22_method_2_code 3 = .ok (.invokestatic 9, 3) := by decide +kernel
theorem d_la_6 : decode prog_22_method_2_code 6 = .ok (.aload_n 0, 1) := by decide +kernel
theorem d_la_7 : decode prog_22_method_2_code 7 = .ok (.iload_n 1, 1) := by decide +kernel
theorem d_la_8 : decode prog_22_method_2_code 8 = .ok (.baload, 1) := by decide +kernel
theorem d_la_9 : decode prog_22_method_2_code 9 = .ok (.sipush 255, 3) := by decide +kernel
theorem d_la_12 : decode prog_22_method_2_code 12 = .ok (.iand, 1) := by decide +kernel
theorem d_la_13 : decode prog_22_method_2_code 13 = .ok (.i2c, 1) := by decide +kernel
theorem d_la_14 : decode prog_22_method_2_code 14 = .ok (.ireturn, 1) := by decide +kernel
theorem d_si_0 : decode prog_20_method_155_code 0 = .ok (.iload_n 0, 1) := by decide +kernel
theorem d_si_1 : decode prog_20_method_155_code 1 = .ok (.iload_n 1, 1) := by decide +kernel
theorem d_si_2 : decode prog_20_method_155_code 2 = .ok (.getstatic 1053, 3) := by decide +kernel
theorem d_si_5 : decode prog_20_method_155_code 5 = .ok (.invokestatic 1059, 3) := by decide +kernel
theorem d_si_8 : decode prog_20_method_155_code 8 = .ok (.pop, 1) := by decide +kernel
theorem d_si_9 : decode prog_20_method_155_code 9 = .ok (.return_, 1) := by decide +kernel
theorem d_pi_0 : decode prog_28_method_11_code 0 = .ok (.iload_n 0, 1) := by decide +kernel
theorem d_pi_1 : decode prog_28_method_11_code 1 = .ok (.ifCond .lt 8, 3) := by decide +kernel
theorem d_pi_4 : decode prog_28_method_11_code 4 = .ok (.iload_n 0, 1) := by decide +kernel
theorem d_pi_5 : decode prog_28_method_11_code 5 = .ok (.iload_n 1, 1) := by decide +kernel
theorem d_pi_6 : decode prog_28_method_11_code 6 = .ok (.if_icmp .lt 10, 3) := by decide +kernel
theorem d_pi_9 : decode prog_28_method_11_code 9 = .ok (.aload_n 2, 1) := by decide +kernel
theorem d_pi_10 : decode prog_28_method_11_code 10 = .ok (.iload_n 0, 1) := by decide +kernel
theorem d_pi_11 : decode prog_28_method_11_code 11 = .ok (.iload_n 1, 1) := by decide +kernel
theorem d_pi_12 : decode prog_28_method_11_code 12 = .ok (.invokestatic 95, 3) := by decide +kernel
theorem d_pi_15 : decode prog_28_method_11_code 15 = .ok (.athrow, 1) := by decide +kernel
theorem d_pi_16 : decode prog_28_method_11_code 16 = .ok (.iload_n 0, 1) := by decide +kernel
theorem d_pi_17 : decode prog_28_method_11_code 17 = .ok (.ireturn, 1) := by decide +kernel
section SX
variable {p : Program} {l : Launch} {e : Env} {R : Room} {s : State} {m : MethodId} {args : Array Value} {below : List Frame} {meth : Method} {c : Code} {H : Heap} {locs : List Loc} {cells slots : Nat} {Q : State → Prop}
variable {cc : ByteArray} {pc : Nat} {ls : Array Slot} {rest : List Value} {dC : Nat → ClassId} {dI : Nat → Nat → Nat} {tk : Nat → ClassId} {A : Nat → Prop} {ws ws1 : va_W} {own C : String} {index : Nat}
/-- a static method of any class -/
theorem cw_t {y : MethodName} {bytes : ByteArray} {maxL : Nat} {ret : Option FieldType} {rm : Room} (n : Nat) (hG : ∀ w ∈ gW, w.before args s = true) (h1 : Cond.methodLink own index y ∈ gW) (h2 : Cond.static y ∈ gW) (h4 : Cond.initialized y.cls ∈ gW) (h5 : Cond.code y bytes maxL ret ∈ gW)
    (hd : y.cls ≠ "java/lang/invoke/MethodHandle" ∧ y.cls ≠ "java/lang/invoke/VarHandle" ∧ (parseMethodDescriptor y.desc).map (fun d => d.parameters.length) = some n) (hR : rm.frames + 1 ≤ R.frames ∧ 8 + (maxL + 11) + rm.locals ≤ R.locals) : CallB R s args own index y bytes maxL ret (Cond.code y bytes maxL ret :: gW) rm rm.cells rm.slots n ∧ (Cond.static y).before args s = true := by
  refine ⟨callB_of n hG (gW_g fun w hw => ?_) rfl rfl rfl (hG _ h4) (hG _ h1) hd hR, hG _ h2⟩
  rcases List.mem_cons.mp hw with rfl | hw
  · exact h5
  · exact hw
theorem pr_O {av : List Value} {b : Nat} (hg : Gl dC dI tk A s) (hst : St dC dI A s.heap H locs ws) (hrec : va_O C b A s s.heap) : PreV s H C b (va_Pc (.ref b :: av) (Pr dC dI tk A ws)) av := by
  refine ⟨fun _ _ _ _ q => ⟨q.1, q.2.1.blind, q.2.2⟩, ?_, fun U hU hW => ⟨rfl, hg.move hst.2.2 hU hW, by rw [hU]; exact hst.1, hst.2.1⟩⟩
  obtain ⟨cell, h1, h2, h3, -⟩ := hrec.kept hst.2.2.2.1
  exact ⟨cell, h1, h2, h3⟩
/-- a call of an object that is never written -/
theorem cl_vo {y : MethodName} {bytes : ByteArray} {mL nL n fr lo : Nat} {ret : Option FieldType} {b : Nat} {As : List Value} {st0 : List Value} {r0 : Int32} (hx : p.tables.exec = Jvm.exec) (hb : c.code = cc) (hml : c.maxLocals = nL) (hown : s.vm.findClass own = some m.cls) (hG : ∀ w ∈ gW, w.before args s = true) (hg : Gl dC dI tk A s) (hM : CtI l dC dI tk A y bytes mL ret fr lo (.ref b :: As) ws r0 ws1)
    (cw : CallW R s args own C index y bytes mL ret (Cond.code y bytes mL ret :: gW) (rmo fr lo) 0 0 n) (hst : St dC dI A s.heap H locs ws) (hrec : va_O C b A s s.heap) (hn : As.length = n) (hsize : ls.size = nL) (hstack : st0 = As.reverse ++ .ref b :: rest) (hW : (rest.map fun v => v.category).sum ≤ 8) (hf : cells ≤ R.cells ∧ slots ≤ R.slots) (hdg : decode cc pc = .ok (.invokevirtual index, 3))
    (kk : ∀ (H1 : Heap) (locs1 : List Loc), St dC dI A s.heap H1 locs1 ws1 → W p l e R s m args below meth c H1 locs1 cells slots Q (F0 m (pc + 3) ls (.int r0 :: rest))) : W p l e R s m args below meth c H locs cells slots Q (F0 m pc ls st0) := by
  refine va_calli (va_runV (As := As) (rest := rest) ⟨hx, hb, hml, hown, hG⟩ hM cw (pr_O hg hst hrec) rfl hn hsize hstack (lv_room hW) hdg hf) hst.2.2 (fun q _ h => h) (fun q h => h) (fun r u t H1 locs1 ht hvm hw hB hz1 hk1 hS => ?_)
  have hw : r = r0 := hw
  subst hw
  exact kk H1 locs1 ⟨by rw [← ht]; exact hB.1, hB.2, hS⟩
theorem cl_sv {y : MethodName} {bytes : ByteArray} {mL nL n fr lo : Nat} {As : List Value} {st0 : List Value} (hx : p.tables.exec = Jvm.exec) (hb : c.code = cc) (hml : c.maxLocals = nL) (hown : s.vm.findClass own = some m.cls) (hG : ∀ w ∈ gW, w.before args s = true) (hg : Gl dC dI tk A s) (hM : CtV l dC dI tk A y bytes mL fr lo As ws ws1)
    (cw : CallB R s args own index y bytes mL none (Cond.code y bytes mL none :: gW) (rmo fr lo) 0 0 n ∧ (Cond.static y).before args s = true) (hst : St dC dI A s.heap H locs ws) (hn : As.length = n) (hsize : ls.size = nL) (hstack : st0 = As.reverse ++ rest) (hW : (rest.map fun v => v.category).sum ≤ 8) (hf : cells ≤ R.cells ∧ slots ≤ R.slots) (hdg : decode cc pc = .ok (.invokestatic index, 3))
    (kk : ∀ (H1 : Heap) (locs1 : List Loc), St dC dI A s.heap H1 locs1 ws1 → W p l e R s m args below meth c H1 locs1 cells slots Q (F0 m (pc + 3) ls rest)) : W p l e R s m args below meth c H locs cells slots Q (F0 m pc ls st0) := by
  refine va_callv (va_runS (As := As) (rest := rest) ⟨hx, hb, hml, hown, hG⟩ hM cw (pr_S hg hst) rfl hn hsize hstack (lv_room hW) hdg hf) hst.2.2 (fun q _ h => h) (fun q h => h) (fun u t H1 locs1 ht hvm hw hB hz1 hk1 hS => ?_)
  exact kk H1 locs1 ⟨by rw [← ht]; exact hB.1, hB.2, hS⟩
end SX
theorem c_sc (l : Launch) (dC : Nat → ClassId) (dI : Nat → Nat → Nat) (tk : Nat → ClassId) (A : Nat → Prop) (ws : va_W) (i : Nat) (hi : i < 29) : CtI l dC dI tk A ⟨"java/lang/String", "coder", "()B"⟩ prog_20_method_152_code 1 (some .byte) 0 0 [.ref (dI 1000 i)] ws 0 ws := by
  refine ent (by decide) (Nat.le_of_ble_eq_true rfl) ?_
  intro p e s m args below meth c hx hb hr hml hown hlk hG hg hst ls hl
  obtain ⟨q1, q2, q3, q4, q5⟩ := hg.2.2.2.1 i hi
  refine va_gets hx hb hg.2.2.2.2.1 hst.2.2 hown (hG _ k_392) (fun _ h9 => h9) d_sc_0 ?_
  refine lv_if_eq (tgt := 13) hx hb d_sc_3 (by decide) (fun h1 => ?_) (fun h1 => ?_)
  · exact absurd h1 (by decide)
  refine lv_aload_n hx hb d_sc_6 rfl (lv_at hl 0 rfl) ?_
  refine vk_getf hx hb q2 hst.2.2 hown (hG _ k_1394) (fun _ h9 => h9) d_sc_7 ?_
  refine lv_goto (tgt := 14) hx hb d_sc_10 (by decide) ?_
  exact rt_i hx hb hr hlk (by decide) hst rfl d_sc_14
theorem c_sl (l : Launch) (dC : Nat → ClassId) (dI : Nat → Nat → Nat) (tk : Nat → ClassId) (A : Nat → Prop) (ws : va_W) (i : Nat) (hi : i < 29) : CtI l dC dI tk A ⟨"java/lang/String", "isLatin1", "()Z"⟩ prog_20_method_154_code 1 (some .boolean) 0 0 [.ref (dI 1000 i)] ws 1 ws := by
  refine ent (by decide) (Nat.le_of_ble_eq_true rfl) ?_
  intro p e s m args below meth c hx hb hr hml hown hlk hG hg hst ls hl
  obtain ⟨q1, q2, q3, q4, q5⟩ := hg.2.2.2.1 i hi
  refine va_gets hx hb hg.2.2.2.2.1 hst.2.2 hown (hG _ k_392) (fun _ h9 => h9) d_sl_0 ?_
  refine lv_if_eq (tgt := 17) hx hb d_sl_3 (by decide) (fun h1 => ?_) (fun h1 => ?_)
  · exact absurd h1 (by decide)
  refine lv_aload_n hx hb d_sl_6 rfl (lv_at hl 0 rfl) ?_
  refine vk_getf hx hb q2 hst.2.2 hown (hG _ k_1394) (fun _ h9 => h9) d_sl_7 ?_
  refine lv_if_ne (tgt := 17) hx hb d_sl_10 (by decide) (fun h1 => ?_) (fun h1 => ?_)
  · exact absurd rfl h1
  refine lv_iconst (v := 1) hx hb d_sl_13 (by decide) ?_
  refine lv_goto (tgt := 18) hx hb d_sl_14 (by decide) ?_
  exact rt_i hx hb hr hlk (by decide) hst rfl d_sl_18
/-- String.length() of a constant -/
theorem c_sn (l : Launch) (dC : Nat → ClassId) (dI : Nat → Nat → Nat) (tk : Nat → ClassId) (A : Nat → Prop) (ws : va_W) (i : Nat) (hi : i < 29) : CtI l dC dI tk A ⟨"java/lang/String", "length", "()I"⟩ prog_20_method_54_code 1 (some .int) 1 20 [.ref (dI 1000 i)] ws (Int32.ofNat (slen i)) ws := by
  refine ent (by decide) (Nat.le_of_ble_eq_true rfl) ?_
  intro p e s m args below meth c hx hb hr hml hown hlk hG hg hst ls hl
  obtain ⟨q1, q2, q3, q4, q5⟩ := hg.2.2.2.1 i hi
  refine lv_aload_n hx hb d_sn_0 rfl (lv_at hl 0 rfl) ?_
  refine vk_getf hx hb q3 hst.2.2 hown (hG _ k_1393) (fun _ h9 => h9) d_sn_1 ?_
  refine va_tlen hx hb q4 hst.2.2 rfl d_sn_4 ?_
  refine lv_aload_n hx hb d_sn_5 rfl (lv_at hl 0 rfl) ?_
  refine cl_vo (As := []) hx hb hml hown hG hg (c_sc l dC dI tk A ws i hi) (cw_v 0 hG k_388 k_389 k_390 k_12 k_391 (by decide +kernel) ⟨by decide, by decide⟩) hst q1 rfl hl.1 rfl (Nat.le_of_ble_eq_true rfl) ⟨Nat.le_refl 0, Nat.le_refl 0⟩ d_sn_6 (fun H locs hst => ?_)
  refine lv_ishr hx hb d_sn_9 ?_
  exact rt_i hx hb hr hlk rfl hst (sb_shr0 _) d_sn_10
theorem c_pi (l : Launch) (dC : Nat → ClassId) (dI : Nat → Nat → Nat) (tk : Nat → ClassId) (A : Nat → Prop) (ws : va_W) (x y : Int32) (fv : Value) (hfv : fv = .null ∨ ∃ t, fv = .ref t) (h0 : ¬ x < 0) (h1 : x < y) : CtI l dC dI tk A ⟨"jdk/internal/util/Preconditions", "checkIndex", "(IILjava/util/function/BiFunction;)I"⟩ prog_28_method_11_code 3 (some .int) 0 0 [.int x, .int y, fv] ws x ws := by
  have key : (lg_sl [.int x, .int y, fv]).length ≤ 3 ∧ lv_args 0 [.int x, .int y, fv] = [(0, .int x), (1, .int y), (2, fv)] := by
    rcases hfv with rfl | ⟨t, rfl⟩ <;> exact ⟨Nat.le_of_ble_eq_true rfl, rfl⟩
  refine ent (by decide) key.1 ?_
  intro p e s m args below meth c hx hb hr hml hown hlk hG hg hst ls hl
  rw [key.2] at hl
  refine lv_iload_n hx hb d_pi_0 rfl (lv_at hl 0 rfl) ?_
  refine lv_if_lt (tgt := 9) hx hb d_pi_1 (by decide) (fun h9 => absurd h9 h0) (fun _ => ?_)
  refine lv_iload_n hx hb d_pi_4 rfl (lv_at hl 0 rfl) ?_
  refine lv_iload_n hx hb d_pi_5 rfl (lv_at hl 1 rfl) ?_
  refine lv_icmp_lt (tgt := 16) hx hb d_pi_6 (by decide) (fun _ => ?_) (fun h9 => absurd h1 h9)
  refine lv_iload_n hx hb d_pi_16 rfl (lv_at hl 0 rfl) ?_
  exact rt_i hx hb hr hlk rfl hst rfl d_pi_17
theorem c_si (l : Launch) (dC : Nat → ClassId) (dI : Nat → Nat → Nat) (tk : Nat → ClassId) (A : Nat → Prop) (ws : va_W) (x y : Int32) (h0 : ¬ x < 0) (h1 : x < y) : CtV l dC dI tk A ⟨"java/lang/String", "checkIndex", "(II)V"⟩ prog_20_method_155_code 2 1 22 [.int x, .int y] ws ws := by
  refine ent (by decide) (Nat.le_of_ble_eq_true rfl) ?_
  intro p e s m args below meth c hx hb hr hml hown hlk hG hg hst ls hl
  refine lv_iload_n hx hb d_si_0 rfl (lv_at hl 0 rfl) ?_
  refine lv_iload_n hx hb d_si_1 rfl (lv_at hl 1 rfl) ?_
  rcases hg.2.2.2.2.2.1 with hz | ⟨t, hz⟩
  · refine va_gets hx hb hz hst.2.2 hown (hG _ k_407) (fun _ h9 => h9) d_si_2 ?_
    refine cl_si (As := [.int x, .int y, .null]) hx hb hml hown hG hg (c_pi l dC dI tk A ws x y .null (Or.inl rfl) h0 h1) (cw_t 3 hG k_409 k_410 k_17 k_411 (by decide +kernel) ⟨by decide, by decide⟩) hst rfl hl.1 rfl (Nat.le_of_ble_eq_true rfl) ⟨Nat.le_refl 0, Nat.le_refl 0⟩ d_si_5 (fun H locs hst => ?_)
    refine lv_pop hx hb d_si_8 rfl ?_
    exact rt_v hx hb hr hlk hst d_si_9
  · refine va_gets hx hb hz hst.2.2 hown (hG _ k_407) (fun _ h9 => h9) d_si_2 ?_
    refine cl_si (As := [.int x, .int y, .ref t]) hx hb hml hown hG hg (c_pi l dC dI tk A ws x y (.ref t) (Or.inr ⟨t, rfl⟩) h0 h1) (cw_t 3 hG k_409 k_410 k_17 k_411 (by decide +kernel) ⟨by decide, by decide⟩) hst rfl hl.1 rfl (Nat.le_of_ble_eq_true rfl) ⟨Nat.le_refl 0, Nat.le_refl 0⟩ d_si_5 (fun H locs hst => ?_)
    refine lv_pop hx hb d_si_8 rfl ?_
    exact rt_v hx hb hr hlk hst d_si_9
theorem st_asc : ∀ i, i < 29 → ∀ k, k < slen i → (((sbyt i k) &&& 255).toUInt32 % 65536).toInt32 = sbyt i k ∧ okc (sbyt i k) = true := by decide +kernel
theorem st_len : ∀ i, i < 29 → slen i < 100 := by decide +kernel
theorem inb_c {x : Int32} {n : Nat} (h : inb x n = true) (hn : n < 2 ^ 31) : ¬ x < 0 ∧ x < Int32.ofNat n ∧ x.toNatClampNeg < n := by
  obtain ⟨j, hj, rfl⟩ := vp_in_of (inb_in h) hn
  exact ⟨nI_pos (by omega), nI_lt hj hn, by rw [nI_clamp (by omega)]; exact hj⟩
/-- StringLatin1.charAt of a constant's bytes -/
theorem c_la (l : Launch) (dC : Nat → ClassId) (dI : Nat → Nat → Nat) (tk : Nat → ClassId) (A : Nat → Prop) (ws : va_W) (i : Nat) (hi : i < 29) (x : Int32) (hin : inb x (slen i) = true) : CtI l dC dI tk A ⟨"java/lang/StringLatin1", "charAt", "([BI)C"⟩ prog_22_method_2_code 2 (some .char) 2 43 [.ref (dI 1001 i), .int x] ws (sbyt i x.toNatClampNeg) ws := by
  refine ent (by decide) (Nat.le_of_ble_eq_true rfl) ?_
  intro p e s m args below meth c hx hb hr hml hown hlk hG hg hst ls hl
  obtain ⟨q1, q2, q3, q4, q5⟩ := hg.2.2.2.1 i hi
  obtain ⟨h0, h1, h2⟩ := inb_c hin (by have := st_len i hi; omega)
  obtain ⟨g1, g2⟩ := st_asc i hi _ h2
  refine lv_iload_n hx hb d_la_0 rfl (lv_at hl 1 rfl) ?_
  refine lv_aload_n hx hb d_la_1 rfl (lv_at hl 0 rfl) ?_
  refine va_tlen hx hb q4 hst.2.2 rfl d_la_2 ?_
  refine cl_sv (As := [.int x, .int (Int32.ofNat (slen i))]) hx hb hml hown hG hg (c_si l dC dI tk A ws x _ h0 h1) (cw_t 2 hG k_404 k_405 k_12 k_406 (by decide +kernel) ⟨by decide, by decide⟩) hst rfl hl.1 rfl (Nat.le_of_ble_eq_true rfl) ⟨Nat.le_refl 0, Nat.le_refl 0⟩ d_la_3 (fun H locs hst => ?_)
  refine lv_aload_n hx hb d_la_6 rfl (lv_at hl 0 rfl) ?_
  refine lv_iload_n hx hb d_la_7 rfl (lv_at hl 1 rfl) ?_
  refine va_tb hx hb q4 hst.2.2 (inb_in hin) rfl d_la_8 ?_
  refine lv_sipush (v := 255) hx hb d_la_9 (by decide) ?_
  refine lv_iand hx hb d_la_12 ?_
  refine lv_i2c hx hb d_la_13 rfl ?_
  exact rt_i hx hb hr hlk (by rw [g1]; exact (okc_n g2).1) hst g1 d_la_14
/-- String.charAt of a constant -/
theorem c_sa (l : Launch) (dC : Nat → ClassId) (dI : Nat → Nat → Nat) (tk : Nat → ClassId) (A : Nat → Prop) (ws : va_W) (i : Nat) (hi : i < 29) (x : Int32) (hin : inb x (slen i) = true) : CtI l dC dI tk A ⟨"java/lang/String", "charAt", "(I)C"⟩ prog_20_method_56_code 2 (some .char) 3 64 [.ref (dI 1000 i), .int x] ws (sbyt i x.toNatClampNeg) ws := by
  refine ent (by decide) (Nat.le_of_ble_eq_true rfl) ?_
  intro p e s m args below meth c hx hb hr hml hown hlk hG hg hst ls hl
  obtain ⟨q1, q2, q3, q4, q5⟩ := hg.2.2.2.1 i hi
  obtain ⟨h0, h1, h2⟩ := inb_c hin (by have := st_len i hi; omega)
  obtain ⟨g1, g2⟩ := st_asc i hi _ h2
  refine lv_aload_n hx hb d_sa_0 rfl (lv_at hl 0 rfl) ?_
  refine cl_vo (As := []) hx hb hml hown hG hg (c_sl l dC dI tk A ws i hi) (cw_v 0 hG k_397 k_398 k_399 k_12 k_400 (by decide +kernel) ⟨by decide, by decide⟩) hst q1 rfl hl.1 rfl (Nat.le_of_ble_eq_true rfl) ⟨Nat.le_refl 0, Nat.le_refl 0⟩ d_sa_1 (fun H locs hst => ?_)
  refine lv_if_eq (tgt := 16) hx hb d_sa_4 (by decide) (fun h9 => absurd h9 (by decide)) (fun _ => ?_)
  refine lv_aload_n hx hb d_sa_7 rfl (lv_at hl 0 rfl) ?_
  refine vk_getf hx hb q3 hst.2.2 hown (hG _ k_1393) (fun _ h9 => h9) d_sa_8 ?_
  refine lv_iload_n hx hb d_sa_11 rfl (lv_at hl 1 rfl) ?_
  refine cl_si (As := [.ref (dI 1001 i), .int x]) hx hb hml hown hG hg (c_la l dC dI tk A ws i hi x hin) (cw_t 2 hG k_401 k_402 k_16 k_403 (by decide +kernel) ⟨by decide, by decide⟩) hst rfl hl.1 rfl (Nat.le_of_ble_eq_true rfl) ⟨Nat.le_refl 0, Nat.le_refl 0⟩ d_sa_12 (fun H locs hst => ?_)
  exact rt_i hx hb hr hlk (okc_n g2).1 hst rfl d_sa_15

