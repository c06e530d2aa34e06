theorem k_838 : Cond.sameMethod "java/lang/AbstractStringBuilder" "java/lang/AbstractStringBuilder" "isLatin1" "()Z" ∈ gW := gW_t (List.mem_of_getElem? (i := 838) (by decide +kernel)) (by decide +kernel)
theorem k_1381 : Cond.sameMethod "java/lang/AbstractStringBuilder" "java/lang/AbstractStringBuilder" "setLength" "(I)V" ∈ gW := gW_t (List.mem_of_getElem? (i := 1381) (by decide +kernel)) (by decide +kernel)
theorem k_1384 : Cond.sameMethod "java/lang/AbstractStringBuilder" "java/lang/AbstractStringBuilder" "append" "(Ljava/lang/String;)Ljava/lang/AbstractStringBuilder;" ∈ gW := gW_t (List.mem_of_getElem? (i := 1384) (by decide +kernel)) (by decide +kernel)
theorem k_1389 : Cond.sameMethod "java/lang/AbstractStringBuilder" "java/lang/AbstractStringBuilder" "append" "(I)Ljava/lang/AbstractStringBuilder;" ∈ gW := gW_t (List.mem_of_getElem? (i := 1389) (by decide +kernel)) (by decide +kernel)
theorem k_1390 : Cond.sameMethod "java/lang/AbstractStringBuilder" "java/lang/AbstractStringBuilder" "append" "(C)Ljava/lang/AbstractStringBuilder;" ∈ gW := gW_t (List.mem_of_getElem? (i := 1390) (by decide +kernel)) (by decide +kernel)
theorem k_1391 : Cond.sameMethod "java/lang/AbstractStringBuilder" "java/lang/AbstractStringBuilder" "length" "()I" ∈ gW := gW_t (List.mem_of_getElem? (i := 1391) (by decide +kernel)) (by decide +kernel)
theorem k_1392 : Cond.sameMethod "java/lang/AbstractStringBuilder" "java/lang/AbstractStringBuilder" "charAt" "(I)C" ∈ gW := gW_t (List.mem_of_getElem? (i := 1392) (by decide +kernel)) (by decide +kernel)
theorem d_bl_0 : decode prog_12_method_68_code 0 = .ok (.getstatic 18, 3) := by decide +kernel
theorem d_bl_3 : decode prog_12_method_68_code 3 = .ok (.ifCond .eq 14, 3) := by decide +kernel
theorem d_bl_6 : decode prog_12_method_68_code 6 = .ok (.aload_n 0, 1) := by decide +kernel
theorem d_bl_7 : decode prog_12_method_68_code 7 = .ok (.getfield 22, 3) := by decide +kernel
theorem d_bl_10 : decode prog_12_method_68_code 10 = .ok (.ifCond .ne 7, 3) := by decide +kernel
theorem d_bl_13 : decode prog_12_method_68_code 13 = .ok (.iconst 1, 1) := by decide +kernel
theorem d_bl_14 : decode prog_12_method_68_code 14 = .ok (.goto 4, 3) := by decide +kernel
theorem d_bl_17 : decode prog_12_method_68_code 17 = .ok (.iconst 0, 1) := by decide +kernel
theorem d_bl_18 : decode prog_12_method_68_code 18 = .ok (.ireturn, 1) := by decide +kernel
set_option maxHeartbeats 1000000 in
theorem c_bl (l : Launch) (dC : Nat → ClassId) (dI : Nat → Nat → Nat) (tk : Nat → ClassId) (A : Nat → Prop) (hB : Nat) (u : sbS) (n : Nat) (rw : va_W) : CtI l dC dI tk A ⟨"java/lang/AbstractStringBuilder", "isLatin1", "()Z"⟩ prog_12_method_68_code 1 (some .boolean) 0 0 [.ref hB] (sbW hB tk u n rw) 1 (sbW hB tk u n rw) := by
  refine ent (by decide) (Nat.le_of_ble_eq_true rfl) ?_
  intro p e s m args below meth c hx hb hr hml hown hlk hG hg hst ls hl
  have hl : lv_has ls 1 [(0, .ref hB)] := hl
  refine va_gets hx hb hg.2.2.2.2.1 hst.2.2 hown (hG _ k_236) (fun _ h9 => h9) d_bl_0 ?_
  refine lv_if_eq (tgt := 17) hx hb d_bl_3 (by decide) (fun h9 => absurd h9 (by decide)) (fun _ => ?_)
  refine lv_aload_n hx hb d_bl_6 rfl (lv_at hl 0 rfl) ?_
  refine sb_get 1 (by decide) hx hb hown hG hg hst rfl rfl k_246 d_bl_7 ?_
  refine lv_if_ne (tgt := 17) hx hb d_bl_10 (by decide) (fun h9 => absurd rfl h9) (fun _ => ?_)
  refine lv_iconst (v := 1) hx hb d_bl_13 (by decide) ?_
  refine lv_goto (tgt := 18) hx hb d_bl_14 (by decide) ?_
  exact rt_i hx hb hr hlk (by decide) hst rfl d_bl_18
theorem d_an_0 : decode prog_27_method_27_code 0 = .ok (.iload_n 0, 1) := by decide +kernel
theorem d_an_1 : decode prog_27_method_27_code 1 = .ok (.iload_n 1, 1) := by decide +kernel
theorem d_an_2 : decode prog_27_method_27_code 2 = .ok (.iload_n 2, 1) := by decide +kernel
theorem d_an_3 : decode prog_27_method_27_code 3 = .ok (.invokestatic 194, 3) := by decide +kernel
theorem d_an_6 : decode prog_27_method_27_code 6 = .ok (.iadd, 1) := by decide +kernel
theorem d_an_7 : decode prog_27_method_27_code 7 = .ok (.istore_n 3, 1) := by decide +kernel
theorem d_an_8 : decode prog_27_method_27_code 8 = .ok (.iconst 0, 1) := by decide +kernel
theorem d_an_9 : decode prog_27_method_27_code 9 = .ok (.iload_n 3, 1) := by decide +kernel
theorem d_an_10 : decode prog_27_method_27_code 10 = .ok (.if_icmp .ge 11, 3) := by decide +kernel
theorem d_an_13 : decode prog_27_method_27_code 13 = .ok (.iload_n 3, 1) := by decide +kernel
theorem d_an_14 : decode prog_27_method_27_code 14 = .ok (.ldc 200, 2) := by decide +kernel
theorem d_an_16 : decode prog_27_method_27_code 16 = .ok (.if_icmp .gt 5, 3) := by decide +kernel
theorem d_an_19 : decode prog_27_method_27_code 19 = .ok (.iload_n 3, 1) := by decide +kernel
theorem d_an_20 : decode prog_27_method_27_code 20 = .ok (.ireturn, 1) := by decide +kernel
theorem d_an_21 : decode prog_27_method_27_code 21 = .ok (.iload_n 0, 1) := by decide +kernel
theorem d_an_22 : decode prog_27_method_27_code 22 = .ok (.iload_n 1, 1) := by decide +kernel
theorem d_an_23 : decode prog_27_method_27_code 23 = .ok (.invokestatic 201, 3) := by decide +kernel
theorem d_an_26 : decode prog_27_method_27_code 26 = .ok (.ireturn, 1) := by decide +kernel
set_option maxHeartbeats 1000000 in
theorem c_an (l : Launch) (dC : Nat → ClassId) (dI : Nat → Nat → Nat) (tk : Nat → ClassId) (A : Nat → Prop) (ws : va_W) (d : Nat) (hd : d ≤ 18) : CtI l dC dI tk A ⟨"jdk/internal/util/ArraysSupport", "newLength", "(III)I"⟩ prog_27_method_27_code 4 (some .int) 1 60 [.int (nI 16), .int (nI d), .int (nI 18)] ws (nI 34) ws := by
  refine ent (by decide) (Nat.le_of_ble_eq_true rfl) ?_
  intro p e s m args below meth c hx hb hr hml hown hlk hG hg hst ls hl
  have hl : lv_has ls 4 [(0, .int (nI 16)), (1, .int (nI d)), (2, .int (nI 18))] := hl
  refine lv_iload_n hx hb d_an_0 rfl (lv_at hl 0 rfl) ?_
  refine lv_iload_n hx hb d_an_1 rfl (lv_at hl 1 rfl) ?_
  refine lv_iload_n hx hb d_an_2 rfl (lv_at hl 2 rfl) ?_
  refine va_mmax hx hb (hml.trans hl.1.symm) hown (hG _ k_818) (hG _ k_626) (hG _ k_15) (hG _ k_627) (by decide) (Nat.le_of_ble_eq_true rfl) (Nat.le_refl 0) (Nat.le_refl 0) d_an_3 ?_
  have emx : (if nI d < nI 18 then nI 18 else nI d) = nI 18 := by
    by_cases e9 : d < 18
    · exact if_pos (nI_lt e9 (by decide))
    · rw [if_neg (nI_nlt (by omega) (by omega)), show d = 18 by omega]
  refine W.eq (g2 := F0 m 6 ls [.int (nI 18), .int (nI 16)]) (by rw [emx]) ?_
  refine lv_iadd hx hb d_an_6 ?_
  refine W.eq (g2 := F0 m 7 ls [.int (nI 34)]) (by rw [show nI 16 + nI 18 = nI 34 from rfl]) ?_
  refine lv_istore_n (lv' := [(3, .int (nI 34)), (0, .int (nI 16)), (1, .int (nI d)), (2, .int (nI 18))]) hx hb d_an_7 rfl hl (by decide) rfl (fun ls hl => ?_)
  refine lv_iconst (v := 0) hx hb d_an_8 (by decide) ?_
  refine lv_iload_n hx hb d_an_9 rfl (lv_at hl 0 rfl) ?_
  refine lv_icmp_ge (tgt := 21) hx hb d_an_10 (by decide) (fun h9 => absurd h9 (by decide)) (fun _ => ?_)
  refine lv_iload_n hx hb d_an_13 rfl (lv_at hl 0 rfl) ?_
  refine lv_ldc (v := 2147483639) hx hb hown (hG _ k_819) d_an_14 ?_
  refine lv_icmp_gt (tgt := 21) hx hb d_an_16 (by decide) (fun h9 => absurd h9 (by decide)) (fun _ => ?_)
  refine lv_iload_n hx hb d_an_19 rfl (lv_at hl 0 rfl) ?_
  exact rt_i hx hb hr hlk rfl hst rfl d_an_20
theorem d_bc_0 : decode prog_12_method_10_code 0 = .ok (.aload_n 0, 1) := by decide +kernel
theorem d_bc_1 : decode prog_12_method_10_code 1 = .ok (.getfield 15, 3) := by decide +kernel
theorem d_bc_4 : decode prog_12_method_10_code 4 = .ok (.arraylength, 1) := by decide +kernel
theorem d_bc_5 : decode prog_12_method_10_code 5 = .ok (.istore_n 2, 1) := by decide +kernel
theorem d_bc_6 : decode prog_12_method_10_code 6 = .ok (.iload_n 1, 1) := by decide +kernel
theorem d_bc_7 : decode prog_12_method_10_code 7 = .ok (.aload_n 0, 1) := by decide +kernel
theorem d_bc_8 : decode prog_12_method_10_code 8 = .ok (.getfield 22, 3) := by decide +kernel
theorem d_bc_11 : decode prog_12_method_10_code 11 = .ok (.ishl, 1) := by decide +kernel
theorem d_bc_12 : decode prog_12_method_10_code 12 = .ok (.istore_n 3, 1) := by decide +kernel
theorem d_bc_13 : decode prog_12_method_10_code 13 = .ok (.iload_n 3, 1) := by decide +kernel
theorem d_bc_14 : decode prog_12_method_10_code 14 = .ok (.iload_n 2, 1) := by decide +kernel
theorem d_bc_15 : decode prog_12_method_10_code 15 = .ok (.isub, 1) := by decide +kernel
theorem d_bc_16 : decode prog_12_method_10_code 16 = .ok (.istore 4, 2) := by decide +kernel
theorem d_bc_18 : decode prog_12_method_10_code 18 = .ok (.iload_n 2, 1) := by decide +kernel
theorem d_bc_19 : decode prog_12_method_10_code 19 = .ok (.iload 4, 2) := by decide +kernel
theorem d_bc_21 : decode prog_12_method_10_code 21 = .ok (.iload_n 2, 1) := by decide +kernel
theorem d_bc_22 : decode prog_12_method_10_code 22 = .ok (.iconst 2, 1) := by decide +kernel
theorem d_bc_23 : decode prog_12_method_10_code 23 = .ok (.aload_n 0, 1) := by decide +kernel
theorem d_bc_24 : decode prog_12_method_10_code 24 = .ok (.getfield 22, 3) := by decide +kernel
theorem d_bc_27 : decode prog_12_method_10_code 27 = .ok (.ishl, 1) := by decide +kernel
theorem d_bc_28 : decode prog_12_method_10_code 28 = .ok (.iadd, 1) := by decide +kernel
theorem d_bc_29 : decode prog_12_method_10_code 29 = .ok (.invokestatic 114, 3) := by decide +kernel
theorem d_bc_32 : decode prog_12_method_10_code 32 = .ok (.istore 5, 2) := by decide +kernel
theorem d_bc_34 : decode prog_12_method_10_code 34 = .ok (.iload 5, 2) := by decide +kernel
theorem d_bc_36 : decode prog_12_method_10_code 36 = .ok (.ldc 39, 2) := by decide +kernel
theorem d_bc_38 : decode prog_12_method_10_code 38 = .ok (.if_icmp .ne 13, 3) := by decide +kernel
theorem d_bc_41 : decode prog_12_method_10_code 41 = .ok (.new 120, 3) := by decide +kernel
theorem d_bc_44 : decode prog_12_method_10_code 44 = .ok (.dup, 1) := by decide +kernel
theorem d_bc_45 : decode prog_12_method_10_code 45 = .ok (.ldc 122, 2) := by decide +kernel
theorem d_bc_47 : decode prog_12_method_10_code 47 = .ok (.invokespecial 124, 3) := by decide +kernel
theorem d_bc_50 : decode prog_12_method_10_code 50 = .ok (.athrow, 1) := by decide +kernel
theorem d_bc_51 : decode prog_12_method_10_code 51 = .ok (.iload 5, 2) := by decide +kernel
theorem d_bc_53 : decode prog_12_method_10_code 53 = .ok (.aload_n 0, 1) := by decide +kernel
theorem d_bc_54 : decode prog_12_method_10_code 54 = .ok (.getfield 22, 3) := by decide +kernel
theorem d_bc_57 : decode prog_12_method_10_code 57 = .ok (.ishr, 1) := by decide +kernel
theorem d_bc_58 : decode prog_12_method_10_code 58 = .ok (.ireturn, 1) := by decide +kernel
set_option maxHeartbeats 1000000 in
theorem c_bc (l : Launch) (dC : Nat → ClassId) (dI : Nat → Nat → Nat) (tk : Nat → ClassId) (A : Nat → Prop) (hB : Nat) (u : sbS) (n : Nat) (rw : va_W) (q : Nat) (hu : u.2.1 = 16) (h1 : 16 < q) (h2 : q ≤ 34) : CtI l dC dI tk A ⟨"java/lang/AbstractStringBuilder", "newCapacity", "(I)I"⟩ prog_12_method_10_code 6 (some .int) 2 100 [.ref hB, .int (nI q)] (sbW hB tk u n rw) (nI 34) (sbW hB tk u n rw) := by
  refine ent (by decide) (Nat.le_of_ble_eq_true rfl) ?_
  intro p e s m args below meth c hx hb hr hml hown hlk hG hg hst ls hl
  have hl : lv_has ls 6 [(0, .ref hB), (1, .int (nI q))] := hl
  refine lv_aload_n hx hb d_bc_0 rfl (lv_at hl 0 rfl) ?_
  refine sb_get 0 (by decide) hx hb hown hG hg hst rfl rfl k_245 d_bc_1 ?_
  refine sb_alen (v := nI 16) hx hb hg hst (by rw [hu]; rfl) d_bc_4 ?_
  refine lv_istore_n (lv' := [(2, .int (nI 16)), (0, .ref hB), (1, .int (nI q))]) hx hb d_bc_5 rfl hl (by decide) rfl (fun ls hl => ?_)
  refine lv_iload_n hx hb d_bc_6 rfl (lv_at hl 2 rfl) ?_
  refine lv_aload_n hx hb d_bc_7 rfl (lv_at hl 1 rfl) ?_
  refine sb_get 1 (by decide) hx hb hown hG hg hst rfl rfl k_246 d_bc_8 ?_
  refine lv_ishl hx hb d_bc_11 ?_
  refine W.eq (g2 := F0 m 12 ls [.int (nI q)]) (by rw [sb_shl0]) ?_
  refine lv_istore_n (lv' := [(3, .int (nI q)), (2, .int (nI 16)), (0, .ref hB), (1, .int (nI q))]) hx hb d_bc_12 rfl hl (by decide) rfl (fun ls hl => ?_)
  refine lv_iload_n hx hb d_bc_13 rfl (lv_at hl 0 rfl) ?_
  refine lv_iload_n hx hb d_bc_14 rfl (lv_at hl 1 rfl) ?_
  refine lv_isub hx hb d_bc_15 ?_
  refine W.eq (g2 := F0 m 16 ls [.int (nI (q - 16))]) (by rw [show nI q - nI 16 = nI (q - 16) from pk_sub (by omega)]) ?_
  refine lv_istore (lv' := [(4, .int (nI (q - 16))), (3, .int (nI q)), (2, .int (nI 16)), (0, .ref hB), (1, .int (nI q))]) hx hb d_bc_16 hl (by decide) rfl (fun ls hl => ?_)
  refine lv_iload_n hx hb d_bc_18 rfl (lv_at hl 2 rfl) ?_
  refine lv_iload hx hb d_bc_19 (lv_at hl 0 rfl) ?_
  refine lv_iload_n hx hb d_bc_21 rfl (lv_at hl 2 rfl) ?_
  refine lv_iconst (v := 2) hx hb d_bc_22 (by decide) ?_
  refine lv_aload_n hx hb d_bc_23 rfl (lv_at hl 3 rfl) ?_
  refine sb_get 1 (by decide) hx hb hown hG hg hst rfl rfl k_246 d_bc_24 ?_
  refine lv_ishl hx hb d_bc_27 ?_
  refine W.eq (g2 := F0 m 28 ls [.int 2, .int (nI 16), .int (nI (q - 16)), .int (nI 16)]) (by rw [sb_shl0]) ?_
  refine lv_iadd hx hb d_bc_28 ?_
  refine W.eq (g2 := F0 m 29 ls [.int (nI 18), .int (nI (q - 16)), .int (nI 16)]) (by rw [show nI 16 + 2 = nI 18 from rfl]) ?_
  refine cl_si (As := [.int (nI 16), .int (nI (q - 16)), .int (nI 18)]) hx hb hml hown hG hg (c_an l dC dI tk A _ (q - 16) (by omega)) (cw_t 3 hG k_815 k_816 k_24 k_817 (by decide +kernel) ⟨by decide, by decide⟩) hst rfl hl.1 rfl (Nat.le_of_ble_eq_true rfl) ⟨Nat.le_refl 0, Nat.le_refl 0⟩ d_bc_29 (fun H locs hst => ?_)
  refine lv_istore (lv' := [(5, .int (nI 34)), (4, .int (nI (q - 16))), (3, .int (nI q)), (2, .int (nI 16)), (0, .ref hB), (1, .int (nI q))]) hx hb d_bc_32 hl (by decide) rfl (fun ls hl => ?_)
  refine lv_iload hx hb d_bc_34 (lv_at hl 0 rfl) ?_
  refine lv_ldc (v := 2147483647) hx hb hown (hG _ k_823) d_bc_36 ?_
  refine lv_icmp_ne (tgt := 51) hx hb d_bc_38 (by decide) (fun _ => ?_) (fun h9 => absurd h9 (by decide))
  refine lv_iload hx hb d_bc_51 (lv_at hl 0 rfl) ?_
  refine lv_aload_n hx hb d_bc_53 rfl (lv_at hl 4 rfl) ?_
  refine sb_get 1 (by decide) hx hb hown hG hg hst rfl rfl k_246 d_bc_54 ?_
  refine lv_ishr hx hb d_bc_57 ?_
  refine W.eq (g2 := F0 m 58 ls [.int (nI 34)]) (by rw [sb_shr0]) ?_
  exact rt_i hx hb hr hlk rfl hst rfl d_bc_58
theorem d_ao_0 : decode prog_26_method_121_code 0 = .ok (.iload_n 1, 1) := by decide +kernel
theorem d_ao_1 : decode prog_26_method_121_code 1 = .ok (.aload_n 0, 1) := by decide +kernel
theorem d_ao_2 : decode prog_26_method_121_code 2 = .ok (.arraylength, 1) := by decide +kernel
theorem d_ao_3 : decode prog_26_method_121_code 3 = .ok (.if_icmp .ne 11, 3) := by decide +kernel
theorem d_ao_6 : decode prog_26_method_121_code 6 = .ok (.aload_n 0, 1) := by decide +kernel
theorem d_ao_7 : decode prog_26_method_121_code 7 = .ok (.invokevirtual 310, 3) := by decide +kernel
theorem d_ao_10 : decode prog_26_method_121_code 10 = .ok (.checkcast 311, 3) := by decide +kernel
theorem d_ao_13 : decode prog_26_method_121_code 13 = .ok (.areturn, 1) := by decide +kernel
theorem d_ao_14 : decode prog_26_method_121_code 14 = .ok (.iload_n 1, 1) := by decide +kernel
theorem d_ao_15 : decode prog_26_method_121_code 15 = .ok (.newarray .byte, 2) := by decide +kernel
theorem d_ao_17 : decode prog_26_method_121_code 17 = .ok (.astore_n 2, 1) := by decide +kernel
theorem d_ao_18 : decode prog_26_method_121_code 18 = .ok (.aload_n 0, 1) := by decide +kernel
theorem d_ao_19 : decode prog_26_method_121_code 19 = .ok (.iconst 0, 1) := by decide +kernel
theorem d_ao_20 : decode prog_26_method_121_code 20 = .ok (.aload_n 2, 1) := by decide +kernel
theorem d_ao_21 : decode prog_26_method_121_code 21 = .ok (.iconst 0, 1) := by decide +kernel
theorem d_ao_22 : decode prog_26_method_121_code 22 = .ok (.aload_n 0, 1) := by decide +kernel
theorem d_ao_23 : decode prog_26_method_121_code 23 = .ok (.arraylength, 1) := by decide +kernel
theorem d_ao_24 : decode prog_26_method_121_code 24 = .ok (.iload_n 1, 1) := by decide +kernel
theorem d_ao_25 : decode prog_26_method_121_code 25 = .ok (.invokestatic 304, 3) := by decide +kernel
theorem d_ao_28 : decode prog_26_method_121_code 28 = .ok (.invokestatic 150, 3) := by decide +kernel
theorem d_ao_31 : decode prog_26_method_121_code 31 = .ok (.aload_n 2, 1) := by decide +kernel
theorem d_ao_32 : decode prog_26_method_121_code 32 = .ok (.areturn, 1) := by decide +kernel
set_option maxHeartbeats 1000000 in
theorem c_ao (l : Launch) (dC : Nat → ClassId) (dI : Nat → Nat → Nat) (tk : Nat → ClassId) (A : Nat → Prop) (a0 : Nat) (f : Nat → Int32) (hf : sb_Fit f) (rw : va_W) : CtM l dC dI tk A ⟨"java/util/Arrays", "copyOf", "([BI)[B"⟩ prog_26_method_121_code 3 (some (.array .byte)) 1 60 1 34 [.ref a0, .int (nI 34)] ((a0, .inl (tk 3, 16, .inl f)) :: rw) (QRp dC dI A (fun _ : Nat => True) (fun q => q) (fun q => (q, .inl (tk 3, 34, .inl (va_cpy f (fun _ => 0) 0 0 16))) :: ((a0, .inl (tk 3, 16, .inl f)) :: rw))) := by
  refine entN (by decide) (Nat.le_of_ble_eq_true rfl) ?_
  intro p e s m args below meth c hx hb hr hml hown hlk hin hG hg hst ls hl
  have hl : lv_has ls 3 [(0, .ref a0), (1, .int (nI 34))] := hl
  refine lv_iload_n hx hb d_ao_0 rfl (lv_at hl 1 rfl) ?_
  refine lv_aload_n hx hb d_ao_1 rfl (lv_at hl 0 rfl) ?_
  refine va_alen (v := nI 16) hx hb hg.2.1 hst.1 0 3 rfl rfl rfl d_ao_2 ?_
  refine lv_icmp_ne (tgt := 14) hx hb d_ao_3 (by decide) (fun _ => ?_) (fun h9 => absurd h9 (by decide))
  refine lv_iload_n hx hb d_ao_14 rfl (lv_at hl 1 rfl) ?_
  refine ro_newa (at_ := .byte) (ty := .byte) 3 34 hx hb hG hg hst rfl k_259 rfl (fun _ _ h9 => h9) (fun _ => rfl) (by decide) (by decide) (by decide) (by decide) (by decide) d_ao_15 (fun q H hst => ?_)
  refine W.cs (cells' := 1) (slots' := 34) rfl rfl ?_
  have hst : St dC dI A s.heap H [] ((q, .inl (tk 3, 34, .inl (fun _ => 0))) :: ((a0, .inl (tk 3, 16, .inl f)) :: rw)) := hst.pm List.perm_append_comm
  refine lv_astore_n (lv' := [(2, .ref q), (0, .ref a0), (1, .int (nI 34))]) hx hb d_ao_17 rfl hl (by decide) rfl (fun ls hl => ?_)
  refine lv_aload_n hx hb d_ao_18 rfl (lv_at hl 1 rfl) ?_
  refine lv_iconst (v := 0) hx hb d_ao_19 (by decide) ?_
  refine lv_aload_n hx hb d_ao_20 rfl (lv_at hl 0 rfl) ?_
  refine lv_iconst (v := 0) hx hb d_ao_21 (by decide) ?_
  refine lv_aload_n hx hb d_ao_22 rfl (lv_at hl 1 rfl) ?_
  refine va_alen (v := nI 16) hx hb hg.2.1 hst.1 1 3 rfl rfl rfl d_ao_23 ?_
  refine lv_iload_n hx hb d_ao_24 rfl (lv_at hl 2 rfl) ?_
  refine va_mmin hx hb (hml.trans hl.1.symm) hown (hG _ k_834) (hG _ k_340) (hG _ k_15) (hG _ k_341) (by decide) (Nat.le_of_ble_eq_true rfl) (by decide) (by decide) d_ao_25 ?_
  refine W.eq (g2 := F0 m 28 ls [.int (nI 16), .int 0, .ref q, .int 0, .ref a0]) (by rw [show (if nI 34 < nI 16 then nI 34 else nI 16) = nI 16 from if_neg (by decide)]) ?_
  refine va_copyi hx hb (hml.trans hl.1.symm) hown (hG _ k_835) (hG _ k_543) (hG _ k_542) (hG _ k_18) hg.2.1 hst.1 hst.2.1 hst.2.2 1 0 3 3 rfl rfl rfl rfl rfl (by decide) (by decide) (by decide) (by decide) (by decide) (fun i _ => hf _) (by decide) (Nat.le_of_ble_eq_true rfl) d_ao_28 (fun H locs q1 q2 q3 => ?_)
  refine lv_aload_n hx hb d_ao_31 rfl (lv_at hl 0 rfl) ?_
  have hst : St dC dI A s.heap H locs ((q, .inl (tk 3, 34, .inl (va_cpy f (fun _ => 0) 0 0 16))) :: ((a0, .inl (tk 3, 16, .inl f)) :: rw)) := ⟨q1, q2, q3⟩
  exact rp_ra (u := q) (wf := fun q => (q, .inl (tk 3, 34, .inl (va_cpy f (fun _ => 0) 0 0 16))) :: ((a0, .inl (tk 3, 16, .inl f)) :: rw)) hx hb hr hlk hst trivial rfl d_ao_32
theorem d_be_0 : decode prog_12_method_9_code 0 = .ok (.aload_n 0, 1) := by decide +kernel
theorem d_be_1 : decode prog_12_method_9_code 1 = .ok (.getfield 15, 3) := by decide +kernel
theorem d_be_4 : decode prog_12_method_9_code 4 = .ok (.arraylength, 1) := by decide +kernel
theorem d_be_5 : decode prog_12_method_9_code 5 = .ok (.aload_n 0, 1) := by decide +kernel
theorem d_be_6 : decode prog_12_method_9_code 6 = .ok (.getfield 22, 3) := by decide +kernel
theorem d_be_9 : decode prog_12_method_9_code 9 = .ok (.ishr, 1) := by decide +kernel
theorem d_be_10 : decode prog_12_method_9_code 10 = .ok (.istore_n 2, 1) := by decide +kernel
theorem d_be_11 : decode prog_12_method_9_code 11 = .ok (.iload_n 1, 1) := by decide +kernel
theorem d_be_12 : decode prog_12_method_9_code 12 = .ok (.iload_n 2, 1) := by decide +kernel
theorem d_be_13 : decode prog_12_method_9_code 13 = .ok (.isub, 1) := by decide +kernel
theorem d_be_14 : decode prog_12_method_9_code 14 = .ok (.ifCond .le 24, 3) := by decide +kernel
theorem d_be_17 : decode prog_12_method_9_code 17 = .ok (.aload_n 0, 1) := by decide +kernel
theorem d_be_18 : decode prog_12_method_9_code 18 = .ok (.aload_n 0, 1) := by decide +kernel
theorem d_be_19 : decode prog_12_method_9_code 19 = .ok (.getfield 15, 3) := by decide +kernel
theorem d_be_22 : decode prog_12_method_9_code 22 = .ok (.aload_n 0, 1) := by decide +kernel
theorem d_be_23 : decode prog_12_method_9_code 23 = .ok (.iload_n 1, 1) := by decide +kernel
theorem d_be_24 : decode prog_12_method_9_code 24 = .ok (.invokevirtual 104, 3) := by decide +kernel
theorem d_be_27 : decode prog_12_method_9_code 27 = .ok (.aload_n 0, 1) := by decide +kernel
theorem d_be_28 : decode prog_12_method_9_code 28 = .ok (.getfield 22, 3) := by decide +kernel
theorem d_be_31 : decode prog_12_method_9_code 31 = .ok (.ishl, 1) := by decide +kernel
theorem d_be_32 : decode prog_12_method_9_code 32 = .ok (.invokestatic 108, 3) := by decide +kernel
theorem d_be_35 : decode prog_12_method_9_code 35 = .ok (.putfield 15, 3) := by decide +kernel
theorem d_be_38 : decode prog_12_method_9_code 38 = .ok (.return_, 1) := by decide +kernel
set_option maxHeartbeats 1000000 in
theorem c_be (l : Launch) (dC : Nat → ClassId) (dI : Nat → Nat → Nat) (tk : Nat → ClassId) (A : Nat → Prop) (hB : Nat) (u : sbS) (n : Nat) (rw : va_W) (t : List Int32) (ht : sbT t u) (q : Nat) (hq : q ≤ 34) : CtM l dC dI tk A ⟨"java/lang/AbstractStringBuilder", "ensureCapacityInternal", "(I)V"⟩ prog_12_method_9_code 3 none 3 130 1 34 [.ref hB, .int (nI q)] (sbW hB tk u n rw) (QVp dC dI A (fun u2 : sbS => sbT t u2 ∧ q ≤ u2.2.1) (fun u2 => sbW hB tk u2 n rw)) := by
  refine entN (by decide) (Nat.le_of_ble_eq_true rfl) ?_
  intro p e s m args below meth c hx hb hr hml hown hlk hin hG hg hst ls hl
  have hl : lv_has ls 3 [(0, .ref hB), (1, .int (nI q))] := hl
  have hcap := ht.cap
  refine lv_aload_n hx hb d_be_0 rfl (lv_at hl 0 rfl) ?_
  refine sb_get 0 (by decide) hx hb hown hG hg hst rfl rfl k_245 d_be_1 ?_
  refine sb_alen (v := nI u.2.1) hx hb hg hst rfl d_be_4 ?_
  refine lv_aload_n hx hb d_be_5 rfl (lv_at hl 0 rfl) ?_
  refine sb_get 1 (by decide) hx hb hown hG hg hst rfl rfl k_246 d_be_6 ?_
  refine lv_ishr hx hb d_be_9 ?_
  refine W.eq (g2 := F0 m 10 ls [.int (nI u.2.1)]) (by rw [sb_shr0]) ?_
  refine lv_istore_n (lv' := [(2, .int (nI u.2.1)), (0, .ref hB), (1, .int (nI q))]) hx hb d_be_10 rfl hl (by decide) rfl (fun ls hl => ?_)
  refine lv_iload_n hx hb d_be_11 rfl (lv_at hl 2 rfl) ?_
  refine lv_iload_n hx hb d_be_12 rfl (lv_at hl 0 rfl) ?_
  refine lv_isub hx hb d_be_13 ?_
  have e1 : (nI q - nI u.2.1).toInt = (q : Int) - u.2.1 := pk_sub_toInt (by omega) (by omega)
  by_cases hc : q ≤ u.2.1
  · refine W.widen (k := 1) (n := 34) (by decide) (by decide) ?_
    refine lv_if_le (tgt := 38) hx hb d_be_14 (by decide) (fun _ => ?_) (fun h9 => absurd (by rw [Int32.le_iff_toInt_le, e1, Int32.toInt_zero]; omega) h9)
    exact rp_v (u := u) (wf := fun u2 => sbW hB tk u2 n rw) hx hb hr hlk hst ⟨ht, hc⟩ d_be_38
  · have hu : u.2.1 = 16 := by rcases ht.1 with e9 | e9 <;> omega
    refine lv_if_le (tgt := 38) hx hb d_be_14 (by decide) (fun h9 => absurd h9 (fun h9 => hc (by rw [Int32.le_iff_toInt_le, e1, Int32.toInt_zero] at h9; omega))) (fun _ => ?_)
    refine lv_aload_n hx hb d_be_17 rfl (lv_at hl 1 rfl) ?_
    refine lv_aload_n hx hb d_be_18 rfl (lv_at hl 1 rfl) ?_
    refine sb_get 0 (by decide) hx hb hown hG hg hst rfl rfl k_245 d_be_19 ?_
    refine lv_aload_n hx hb d_be_22 rfl (lv_at hl 1 rfl) ?_
    refine lv_iload_n hx hb d_be_23 rfl (lv_at hl 2 rfl) ?_
    refine cl_vi (As := [.int (nI q)]) hx hb hml hown hG hg (c_bc l dC dI tk A hB u n rw q hu (by omega) hq) (cwX 1 hG k_811 k_813 sb_s1 k_10 k_814 (by decide +kernel) ⟨by decide, by decide⟩) hst cB.1 (q0 := 0) rfl rfl hl.1 rfl (Nat.le_of_ble_eq_true rfl) ⟨by decide, by decide⟩ d_be_24 (fun H locs hst => ?_)
    refine lv_aload_n hx hb d_be_27 rfl (lv_at hl 1 rfl) ?_
    refine sb_get 1 (by decide) hx hb hown hG hg hst rfl rfl k_246 d_be_28 ?_
    refine lv_ishl hx hb d_be_31 ?_
    refine W.eq (g2 := F0 m 32 ls [.int (nI 34), .ref u.1, .ref hB]) (by rw [sb_shl0]) ?_
    have hst : St dC dI A s.heap H locs ((u.1, .inl (tk 3, 16, .inl u.2.2.2)) :: ((hB, .inr (10, sbF u n)) :: rw)) := by
      have h9 := gr1 (a := [(hB, .inr (10, sbF u n))]) (b := [(u.1, .inl (tk 3, u.2.1, .inl u.2.2.2))]) (r := rw) hst
      rw [hu] at h9
      exact h9
    refine bk_r (cm_sta (As := [.ref u.1, .int (nI 34)]) hx hb hml hown hG hg (c_ao l dC dI tk A u.1 u.2.2.2 ht.2.2.1 _) (cw_t 2 hG k_824 k_825 k_25 k_826 (by decide +kernel) ⟨by decide, by decide⟩) hst rfl hl.1 rfl (Nat.le_of_ble_eq_true rfl) ⟨by decide, by decide⟩ d_be_32) hst (fun q2 H locs _ hst => ?_)
    refine W.cs (cells' := 1) (slots' := 34) rfl rfl ?_
    have hst : St dC dI A s.heap H locs ((hB, .inr (10, sbF u n)) :: ((q2, .inl (tk 3, 34, .inl (va_cpy u.2.2.2 (fun _ => 0) 0 0 16))) :: ((u.1, .inl (tk 3, 16, .inl u.2.2.2)) :: rw))) := gr2 (a := [(q2, .inl (tk 3, 34, .inl (va_cpy u.2.2.2 (fun _ => 0) 0 0 16)))]) (b := [(u.1, .inl (tk 3, 16, .inl u.2.2.2))]) (x := [(hB, .inr (10, sbF u n))]) (r := rw) hst
    refine sb_put 0 (by decide) hx hb hown hG hg hst (by show 0 < 4; decide) rfl rfl rfl rfl k_245 d_be_35 (fun H locs hst => ?_)
    have hst : St dC dI A s.heap H locs (sbW hB tk (q2, 34, u.2.2.1, va_cpy u.2.2.2 (fun _ => 0) 0 0 16) n rw) := St.drop (a := [(u.1, .inl (tk 3, 16, .inl u.2.2.2))]) (gr2 (a := [(hB, .inr (10, (sbF u n).set 0 (.ref q2)))]) (b := [(q2, .inl (tk 3, 34, .inl (va_cpy u.2.2.2 (fun _ => 0) 0 0 16)))]) (x := [(u.1, .inl (tk 3, 16, .inl u.2.2.2))]) (r := rw) hst)
    refine rp_v (u := (q2, 34, u.2.2.1, va_cpy u.2.2.2 (fun _ => 0) 0 0 16)) (wf := fun u2 => sbW hB tk u2 n rw) hx hb hr hlk hst ⟨⟨Or.inr rfl, ?_, sb_fitC ht.2.2.1 sb_fit0, fun i hi => ?_⟩, hq⟩ d_be_38
    · have := ht.2.1; show t.length ≤ 34; omega
    · have := ht.2.1
      show va_cpy u.2.2.2 (fun _ => 0) 0 0 16 i = _
      rw [sb_cpy0 (by omega)]
      exact ht.2.2.2 i hi
theorem d_bs_0 : decode prog_12_method_13_code 0 = .ok (.iload_n 1, 1) := by decide +kernel
theorem d_bs_1 : decode prog_12_method_13_code 1 = .ok (.ifCond .ge 12, 3) := by decide +kernel
theorem d_bs_4 : decode prog_12_method_13_code 4 = .ok (.new 129, 3) := by decide +kernel
theorem d_bs_7 : decode prog_12_method_13_code 7 = .ok (.dup, 1) := by decide +kernel
theorem d_bs_8 : decode prog_12_method_13_code 8 = .ok (.iload_n 1, 1) := by decide +kernel
theorem d_bs_9 : decode prog_12_method_13_code 9 = .ok (.invokespecial 131, 3) := by decide +kernel
theorem d_bs_12 : decode prog_12_method_13_code 12 = .ok (.athrow, 1) := by decide +kernel
theorem d_bs_13 : decode prog_12_method_13_code 13 = .ok (.aload_n 0, 1) := by decide +kernel
theorem d_bs_14 : decode prog_12_method_13_code 14 = .ok (.iload_n 1, 1) := by decide +kernel
theorem d_bs_15 : decode prog_12_method_13_code 15 = .ok (.invokevirtual 100, 3) := by decide +kernel
theorem d_bs_18 : decode prog_12_method_13_code 18 = .ok (.aload_n 0, 1) := by decide +kernel
theorem d_bs_19 : decode prog_12_method_13_code 19 = .ok (.getfield 79, 3) := by decide +kernel
theorem d_bs_22 : decode prog_12_method_13_code 22 = .ok (.iload_n 1, 1) := by decide +kernel
theorem d_bs_23 : decode prog_12_method_13_code 23 = .ok (.if_icmp .ge 40, 3) := by decide +kernel
theorem d_bs_26 : decode prog_12_method_13_code 26 = .ok (.aload_n 0, 1) := by decide +kernel
theorem d_bs_27 : decode prog_12_method_13_code 27 = .ok (.invokevirtual 83, 3) := by decide +kernel
theorem d_bs_30 : decode prog_12_method_13_code 30 = .ok (.ifCond .eq 18, 3) := by decide +kernel
theorem d_bs_33 : decode prog_12_method_13_code 33 = .ok (.aload_n 0, 1) := by decide +kernel
theorem d_bs_34 : decode prog_12_method_13_code 34 = .ok (.getfield 15, 3) := by decide +kernel
theorem d_bs_37 : decode prog_12_method_13_code 37 = .ok (.aload_n 0, 1) := by decide +kernel
theorem d_bs_38 : decode prog_12_method_13_code 38 = .ok (.getfield 79, 3) := by decide +kernel
theorem d_bs_41 : decode prog_12_method_13_code 41 = .ok (.iload_n 1, 1) := by decide +kernel
theorem d_bs_42 : decode prog_12_method_13_code 42 = .ok (.invokestatic 133, 3) := by decide +kernel
theorem d_bs_45 : decode prog_12_method_13_code 45 = .ok (.goto 31, 3) := by decide +kernel
theorem d_bs_48 : decode prog_12_method_13_code 48 = .ok (.aload_n 0, 1) := by decide +kernel
theorem d_bs_49 : decode prog_12_method_13_code 49 = .ok (.getfield 15, 3) := by decide +kernel
theorem d_bs_52 : decode prog_12_method_13_code 52 = .ok (.aload_n 0, 1) := by decide +kernel
theorem d_bs_53 : decode prog_12_method_13_code 53 = .ok (.getfield 79, 3) := by decide +kernel
theorem d_bs_56 : decode prog_12_method_13_code 56 = .ok (.iload_n 1, 1) := by decide +kernel
theorem d_bs_57 : decode prog_12_method_13_code 57 = .ok (.invokestatic 137, 3) := by decide +kernel
theorem d_bs_60 : decode prog_12_method_13_code 60 = .ok (.goto 16, 3) := by decide +kernel
theorem d_bs_63 : decode prog_12_method_13_code 63 = .ok (.aload_n 0, 1) := by decide +kernel
theorem d_bs_64 : decode prog_12_method_13_code 64 = .ok (.getfield 79, 3) := by decide +kernel
theorem d_bs_67 : decode prog_12_method_13_code 67 = .ok (.iload_n 1, 1) := by decide +kernel
theorem d_bs_68 : decode prog_12_method_13_code 68 = .ok (.if_icmp .le 8, 3) := by decide +kernel
theorem d_bs_71 : decode prog_12_method_13_code 71 = .ok (.aload_n 0, 1) := by decide +kernel
theorem d_bs_72 : decode prog_12_method_13_code 72 = .ok (.iconst 1, 1) := by decide +kernel
theorem d_bs_73 : decode prog_12_method_13_code 73 = .ok (.putfield 73, 3) := by decide +kernel
theorem d_bs_76 : decode prog_12_method_13_code 76 = .ok (.aload_n 0, 1) := by decide +kernel
theorem d_bs_77 : decode prog_12_method_13_code 77 = .ok (.iload_n 1, 1) := by decide +kernel
theorem d_bs_78 : decode prog_12_method_13_code 78 = .ok (.putfield 79, 3) := by decide +kernel
theorem d_bs_81 : decode prog_12_method_13_code 81 = .ok (.return_, 1) := by decide +kernel
set_option maxHeartbeats 1000000 in
theorem c_bs (l : Launch) (dC : Nat → ClassId) (dI : Nat → Nat → Nat) (tk : Nat → ClassId) (A : Nat → Prop) (hB : Nat) (u : sbS) (rw : va_W) (t : List Int32) (ht : sbT t u) : CtM l dC dI tk A ⟨"java/lang/AbstractStringBuilder", "setLength", "(I)V"⟩ prog_12_method_13_code 2 none 4 160 1 34 [.ref hB, .int 0] (sbW hB tk u t.length rw) (QVp dC dI A (fun u2 : sbS => sbT [] u2) (fun u2 => sbW hB tk u2 0 rw)) := by
  refine entN (by decide) (Nat.le_of_ble_eq_true rfl) ?_
  intro p e s m args below meth c hx hb hr hml hown hlk hin hG hg hst ls hl
  have hl : lv_has ls 2 [(0, .ref hB), (1, .int 0)] := hl
  have hcap := ht.cap
  have htl := ht.2.1
  refine lv_iload_n hx hb d_bs_0 rfl (lv_at hl 1 rfl) ?_
  refine lv_if_ge (tgt := 13) hx hb d_bs_1 (by decide) (fun _ => ?_) (fun h9 => absurd (by decide) h9)
  refine lv_aload_n hx hb d_bs_13 rfl (lv_at hl 0 rfl) ?_
  refine lv_iload_n hx hb d_bs_14 rfl (lv_at hl 1 rfl) ?_
  refine bk_v (g := F0 m 0 ls []) (cm_run (As := [.int (nI 0)]) hx hb hml hown hG hg (c_be l dC dI tk A hB u t.length rw t ht 0 (by decide)) (cwX 1 hG k_807 k_809 sb_s0 k_10 k_810 (by decide +kernel) ⟨by decide, by decide⟩) hst cB.1 (q0 := 0) rfl rfl hl.1 rfl (Nat.le_of_ble_eq_true rfl) ⟨by decide, by decide⟩ d_bs_15) hst (fun u H locs hp hst => ?_)
  refine W.cs (cells' := 1) (slots' := 34) rfl rfl ?_
  refine lv_aload_n hx hb d_bs_18 rfl (lv_at hl 0 rfl) ?_
  refine sb_get 3 (by decide) hx hb hown hG hg hst rfl rfl k_248 d_bs_19 ?_
  refine lv_iload_n hx hb d_bs_22 rfl (lv_at hl 1 rfl) ?_
  refine lv_icmp_ge (tgt := 63) hx hb d_bs_23 (by decide) (fun _ => ?_) (fun h9 => absurd (nI_pos' (by omega)) h9)
  refine lv_aload_n hx hb d_bs_63 rfl (lv_at hl 0 rfl) ?_
  refine sb_get 3 (by decide) hx hb hown hG hg hst rfl rfl k_248 d_bs_64 ?_
  refine lv_iload_n hx hb d_bs_67 rfl (lv_at hl 1 rfl) ?_
  refine lv_icmp_le (tgt := 76) hx hb d_bs_68 (by decide) (fun _ => ?_) (fun _ => ?_)
  · refine lv_aload_n hx hb d_bs_76 rfl (lv_at hl 0 rfl) ?_
    refine lv_iload_n hx hb d_bs_77 rfl (lv_at hl 1 rfl) ?_
    refine sb_put 3 (by decide) hx hb hown hG hg hst (by show 3 < 4; decide) rfl rfl rfl rfl k_248 d_bs_78 (fun H locs hst => ?_)
    exact rp_v (u := u) (wf := fun u2 => sbW hB tk u2 0 rw) hx hb hr hlk hst ⟨hp.1.1, Nat.zero_le _, hp.1.2.2.1, fun i hi => absurd hi (Nat.not_lt_zero i)⟩ d_bs_81
  · refine lv_aload_n hx hb d_bs_71 rfl (lv_at hl 0 rfl) ?_
    refine lv_iconst (v := 1) hx hb d_bs_72 (by decide) ?_
    refine sb_put 2 (by decide) hx hb hown hG hg hst (by show 2 < 4; decide) rfl rfl rfl rfl k_247 d_bs_73 (fun H locs hst => ?_)
    refine lv_aload_n hx hb d_bs_76 rfl (lv_at hl 0 rfl) ?_
    refine lv_iload_n hx hb d_bs_77 rfl (lv_at hl 1 rfl) ?_
    refine sb_put 3 (by decide) hx hb hown hG hg hst (by show 3 < 4; decide) rfl rfl rfl rfl k_248 d_bs_78 (fun H locs hst => ?_)
    exact rp_v (u := (u.1, u.2.1, 1, u.2.2.2)) (wf := fun u2 => sbW hB tk u2 0 rw) hx hb hr hlk hst ⟨hp.1.1, Nat.zero_le _, hp.1.2.2.1, fun i hi => absurd hi (Nat.not_lt_zero i)⟩ d_bs_81
theorem d_ts_0 : decode prog_21_method_89_code 0 = .ok (.aload_n 0, 1) := by decide +kernel
theorem d_ts_1 : decode prog_21_method_89_code 1 = .ok (.iload_n 1, 1) := by decide +kernel
theorem d_ts_2 : decode prog_21_method_89_code 2 = .ok (.invokespecial 333, 3) := by decide +kernel
theorem d_ts_5 : decode prog_21_method_89_code 5 = .ok (.return_, 1) := by decide +kernel
set_option maxHeartbeats 1000000 in
theorem c_ts (l : Launch) (dC : Nat → ClassId) (dI : Nat → Nat → Nat) (tk : Nat → ClassId) (A : Nat → Prop) (hB : Nat) (u : sbS) (rw : va_W) (t : List Int32) (ht : sbT t u) : CtM l dC dI tk A ⟨"java/lang/StringBuilder", "setLength", "(I)V"⟩ prog_21_method_89_code 2 none 5 190 1 34 [.ref hB, .int 0] (sbW hB tk u t.length rw) (QVp dC dI A (fun u2 : sbS => sbT [] u2) (fun u2 => sbW hB tk u2 0 rw)) := by
  refine entN (by decide) (Nat.le_of_ble_eq_true rfl) ?_
  intro p e s m args below meth c hx hb hr hml hown hlk hin hG hg hst ls hl
  have hl : lv_has ls 2 [(0, .ref hB), (1, .int 0)] := hl
  refine lv_aload_n hx hb d_ts_0 rfl (lv_at hl 0 rfl) ?_
  refine lv_iload_n hx hb d_ts_1 rfl (lv_at hl 1 rfl) ?_
  refine bk_v (g := F0 m 0 ls []) (cm_sup (As := [.int 0]) hx hb hml hown hG hg (c_bs l dC dI tk A hB u rw t ht) (csX 1 hG k_804 k_805 k_1381 k_257 k_10 k_806 (by decide +kernel) ⟨by decide, by decide⟩) hst cB.1 (q0 := 0) rfl rfl hl.1 rfl (Nat.le_of_ble_eq_true rfl) ⟨by decide, by decide⟩ d_ts_2) hst (fun u H locs hp hst => ?_)
  refine W.cs (cells' := 1) (slots' := 34) rfl rfl ?_
  exact rp_v (u := u) (wf := fun u2 => sbW hB tk u2 0 rw) hx hb hr hlk hst hp d_ts_5
theorem st_fit : ∀ i, i < 29 → ∀ k, k < slen i → fits .byte (.int (sbyt i k)) = true := by decide +kernel
theorem d_sg_0 : decode prog_20_method_147_code 0 = .ok (.aload_n 0, 1) := by decide +kernel
theorem d_sg_1 : decode prog_20_method_147_code 1 = .ok (.invokevirtual 335, 3) := by decide +kernel
theorem d_sg_4 : decode prog_20_method_147_code 4 = .ok (.iload_n 3, 1) := by decide +kernel
theorem d_sg_5 : decode prog_20_method_147_code 5 = .ok (.if_icmp .ne 23, 3) := by decide +kernel
theorem d_sg_8 : decode prog_20_method_147_code 8 = .ok (.aload_n 0, 1) := by decide +kernel
theorem d_sg_9 : decode prog_20_method_147_code 9 = .ok (.getfield 9, 3) := by decide +kernel
theorem d_sg_12 : decode prog_20_method_147_code 12 = .ok (.iconst 0, 1) := by decide +kernel
theorem d_sg_13 : decode prog_20_method_147_code 13 = .ok (.aload_n 1, 1) := by decide +kernel
theorem d_sg_14 : decode prog_20_method_147_code 14 = .ok (.iload_n 2, 1) := by decide +kernel
theorem d_sg_15 : decode prog_20_method_147_code 15 = .ok (.iload_n 3, 1) := by decide +kernel
theorem d_sg_16 : decode prog_20_method_147_code 16 = .ok (.ishl, 1) := by decide +kernel
theorem d_sg_17 : decode prog_20_method_147_code 17 = .ok (.aload_n 0, 1) := by decide +kernel
theorem d_sg_18 : decode prog_20_method_147_code 18 = .ok (.getfield 9, 3) := by decide +kernel
theorem d_sg_21 : decode prog_20_method_147_code 21 = .ok (.arraylength, 1) := by decide +kernel
theorem d_sg_22 : decode prog_20_method_147_code 22 = .ok (.invokestatic 212, 3) := by decide +kernel
theorem d_sg_25 : decode prog_20_method_147_code 25 = .ok (.goto 18, 3) := by decide +kernel
theorem d_sg_28 : decode prog_20_method_147_code 28 = .ok (.aload_n 0, 1) := by decide +kernel
theorem d_sg_29 : decode prog_20_method_147_code 29 = .ok (.getfield 9, 3) := by decide +kernel
theorem d_sg_32 : decode prog_20_method_147_code 32 = .ok (.iconst 0, 1) := by decide +kernel
theorem d_sg_33 : decode prog_20_method_147_code 33 = .ok (.aload_n 1, 1) := by decide +kernel
theorem d_sg_34 : decode prog_20_method_147_code 34 = .ok (.iload_n 2, 1) := by decide +kernel
theorem d_sg_35 : decode prog_20_method_147_code 35 = .ok (.aload_n 0, 1) := by decide +kernel
theorem d_sg_36 : decode prog_20_method_147_code 36 = .ok (.getfield 9, 3) := by decide +kernel
theorem d_sg_39 : decode prog_20_method_147_code 39 = .ok (.arraylength, 1) := by decide +kernel
theorem d_sg_40 : decode prog_20_method_147_code 40 = .ok (.invokestatic 106, 3) := by decide +kernel
theorem d_sg_43 : decode prog_20_method_147_code 43 = .ok (.return_, 1) := by decide +kernel
set_option maxHeartbeats 1000000 in
theorem c_sg (l : Launch) (dC : Nat → ClassId) (dI : Nat → Nat → Nat) (tk : Nat → ClassId) (A : Nat → Prop) (q1 c1 : Nat) (a1 : Nat → Int32) (n i : Nat) (hi : i < 29) (h1 : n + slen i ≤ c1) (h2 : c1 ≤ 34) (rw : va_W) : CtV l dC dI tk A ⟨"java/lang/String", "getBytes", "([BIB)V"⟩ prog_20_method_147_code 4 1 60 [.ref (dI 1000 i), .ref q1, .int (nI n), .int 0] ((q1, .inl (tk 3, c1, .inl a1)) :: rw) ((q1, .inl (tk 3, c1, .inl (va_cpy (sbyt i) a1 0 n (slen i)))) :: rw) := by
  refine ent (by decide) (Nat.le_of_ble_eq_true rfl) ?_
  intro p e s m args below meth c hx hb hr hml hown hlk hG hg hst ls hl
  have hl : lv_has ls 4 [(0, .ref (dI 1000 i)), (1, .ref q1), (2, .int (nI n)), (3, .int 0)] := hl
  obtain ⟨q1x, q2x, q3x, q4x, q5x⟩ := hg.2.2.2.1 i hi
  refine lv_aload_n hx hb d_sg_0 rfl (lv_at hl 0 rfl) ?_
  refine cl_vo (As := []) hx hb hml hown hG hg (c_sc l dC dI tk A _ i hi) (cw_v 0 hG k_388 k_389 k_390 k_12 k_391 (by decide +kernel) ⟨by decide, by decide⟩) hst q1x rfl hl.1 rfl (Nat.le_of_ble_eq_true rfl) ⟨Nat.le_refl 0, Nat.le_refl 0⟩ d_sg_1 (fun H locs hst => ?_)
  refine lv_iload_n hx hb d_sg_4 rfl (lv_at hl 3 rfl) ?_
  refine lv_icmp_ne (tgt := 28) hx hb d_sg_5 (by decide) (fun h9 => absurd rfl h9) (fun _ => ?_)
  refine lv_aload_n hx hb d_sg_8 rfl (lv_at hl 0 rfl) ?_
  refine vk_getf hx hb q3x hst.2.2 hown (hG _ k_1393) (fun _ h9 => h9) d_sg_9 ?_
  refine lv_iconst (v := 0) hx hb d_sg_12 (by decide) ?_
  refine lv_aload_n hx hb d_sg_13 rfl (lv_at hl 1 rfl) ?_
  refine lv_iload_n hx hb d_sg_14 rfl (lv_at hl 2 rfl) ?_
  refine lv_iload_n hx hb d_sg_15 rfl (lv_at hl 3 rfl) ?_
  refine lv_ishl hx hb d_sg_16 ?_
  refine W.eq (g2 := F0 m 17 ls [.int (nI n), .ref q1, .int 0, .ref (dI 1001 i)]) (by rw [sb_shl0]) ?_
  refine lv_aload_n hx hb d_sg_17 rfl (lv_at hl 0 rfl) ?_
  refine vk_getf hx hb q3x hst.2.2 hown (hG _ k_1393) (fun _ h9 => h9) d_sg_18 ?_
  refine va_tlen hx hb q4x hst.2.2 (v := nI (slen i)) rfl d_sg_21 ?_
  refine sb_cpyT hx hb (hml.trans hl.1.symm) hown hG hg q4x hst (st_fit i hi) h1 (by omega) k_918 (by decide) (Nat.le_of_ble_eq_true rfl) d_sg_22 (fun H locs hst => ?_)
  refine lv_goto (tgt := 43) hx hb d_sg_25 (by decide) ?_
  exact rt_v hx hb hr hlk hst d_sg_43
theorem d_bi_0 : decode prog_12_method_71_code 0 = .ok (.getstatic 18, 3) := by decide +kernel
theorem d_bi_3 : decode prog_12_method_71_code 3 = .ok (.ifCond .eq 18, 3) := by decide +kernel
theorem d_bi_6 : decode prog_12_method_71_code 6 = .ok (.aload_n 0, 1) := by decide +kernel
theorem d_bi_7 : decode prog_12_method_71_code 7 = .ok (.getfield 22, 3) := by decide +kernel
theorem d_bi_10 : decode prog_12_method_71_code 10 = .ok (.aload_n 1, 1) := by decide +kernel
theorem d_bi_11 : decode prog_12_method_71_code 11 = .ok (.invokevirtual 40, 3) := by decide +kernel
theorem d_bi_14 : decode prog_12_method_71_code 14 = .ok (.if_icmp .eq 7, 3) := by decide +kernel
theorem d_bi_17 : decode prog_12_method_71_code 17 = .ok (.aload_n 0, 1) := by decide +kernel
theorem d_bi_18 : decode prog_12_method_71_code 18 = .ok (.invokevirtual 195, 3) := by decide +kernel
theorem d_bi_21 : decode prog_12_method_71_code 21 = .ok (.return_, 1) := by decide +kernel
set_option maxHeartbeats 1000000 in
theorem c_bi (l : Launch) (dC : Nat → ClassId) (dI : Nat → Nat → Nat) (tk : Nat → ClassId) (A : Nat → Prop) (hB : Nat) (u : sbS) (n : Nat) (rw : va_W) (i : Nat) (hi : i < 29) : CtV l dC dI tk A ⟨"java/lang/AbstractStringBuilder", "inflateIfNeededFor", "(Ljava/lang/String;)V"⟩ prog_12_method_71_code 2 1 60 [.ref hB, .ref (dI 1000 i)] (sbW hB tk u n rw) (sbW hB tk u n rw) := by
  refine ent (by decide) (Nat.le_of_ble_eq_true rfl) ?_
  intro p e s m args below meth c hx hb hr hml hown hlk hG hg hst ls hl
  have hl : lv_has ls 2 [(0, .ref hB), (1, .ref (dI 1000 i))] := hl
  obtain ⟨q1x, q2x, q3x, q4x, q5x⟩ := hg.2.2.2.1 i hi
  refine va_gets hx hb hg.2.2.2.2.1 hst.2.2 hown (hG _ k_236) (fun _ h9 => h9) d_bi_0 ?_
  refine lv_if_eq (tgt := 21) hx hb d_bi_3 (by decide) (fun h9 => absurd h9 (by decide)) (fun _ => ?_)
  refine lv_aload_n hx hb d_bi_6 rfl (lv_at hl 0 rfl) ?_
  refine sb_get 1 (by decide) hx hb hown hG hg hst rfl rfl k_246 d_bi_7 ?_
  refine lv_aload_n hx hb d_bi_10 rfl (lv_at hl 1 rfl) ?_
  refine cl_vo (As := []) hx hb hml hown hG hg (c_sc l dC dI tk A _ i hi) (cwX 0 hG k_894 k_389 k_390 k_12 k_391 (by decide +kernel) ⟨by decide, by decide⟩) hst q1x rfl hl.1 rfl (Nat.le_of_ble_eq_true rfl) ⟨Nat.le_refl 0, Nat.le_refl 0⟩ d_bi_11 (fun H locs hst => ?_)
  refine lv_icmp_eq (tgt := 21) hx hb d_bi_14 (by decide) (fun _ => ?_) (fun h9 => absurd rfl h9)
  exact rt_v hx hb hr hlk hst d_bi_21
theorem d_bp_0 : decode prog_12_method_73_code 0 = .ok (.aload_n 0, 1) := by decide +kernel
theorem d_bp_1 : decode prog_12_method_73_code 1 = .ok (.aload_n 2, 1) := by decide +kernel
theorem d_bp_2 : decode prog_12_method_73_code 2 = .ok (.invokevirtual 397, 3) := by decide +kernel
theorem d_bp_5 : decode prog_12_method_73_code 5 = .ok (.aload_n 2, 1) := by decide +kernel
theorem d_bp_6 : decode prog_12_method_73_code 6 = .ok (.aload_n 0, 1) := by decide +kernel
theorem d_bp_7 : decode prog_12_method_73_code 7 = .ok (.getfield 15, 3) := by decide +kernel
theorem d_bp_10 : decode prog_12_method_73_code 10 = .ok (.iload_n 1, 1) := by decide +kernel
theorem d_bp_11 : decode prog_12_method_73_code 11 = .ok (.aload_n 0, 1) := by decide +kernel
theorem d_bp_12 : decode prog_12_method_73_code 12 = .ok (.getfield 22, 3) := by decide +kernel
theorem d_bp_15 : decode prog_12_method_73_code 15 = .ok (.invokevirtual 399, 3) := by decide +kernel
theorem d_bp_18 : decode prog_12_method_73_code 18 = .ok (.return_, 1) := by decide +kernel
set_option maxHeartbeats 1000000 in
theorem c_bp (l : Launch) (dC : Nat → ClassId) (dI : Nat → Nat → Nat) (tk : Nat → ClassId) (A : Nat → Prop) (hB : Nat) (u : sbS) (n : Nat) (rw : va_W) (k i : Nat) (hi : i < 29) (h1 : k + slen i ≤ u.2.1) (h2 : u.2.1 ≤ 34) : CtV l dC dI tk A ⟨"java/lang/AbstractStringBuilder", "putStringAt", "(ILjava/lang/String;)V"⟩ prog_12_method_73_code 3 2 90 [.ref hB, .int (nI k), .ref (dI 1000 i)] (sbW hB tk u n rw) (sbW hB tk (u.1, u.2.1, u.2.2.1, va_cpy (sbyt i) u.2.2.2 0 k (slen i)) n rw) := by
  refine ent (by decide) (Nat.le_of_ble_eq_true rfl) ?_
  intro p e s m args below meth c hx hb hr hml hown hlk hG hg hst ls hl
  have hl : lv_has ls 3 [(0, .ref hB), (1, .int (nI k)), (2, .ref (dI 1000 i))] := hl
  obtain ⟨q1x, q2x, q3x, q4x, q5x⟩ := hg.2.2.2.1 i hi
  refine lv_aload_n hx hb d_bp_0 rfl (lv_at hl 0 rfl) ?_
  refine lv_aload_n hx hb d_bp_1 rfl (lv_at hl 2 rfl) ?_
  refine cl_vv (As := [.ref (dI 1000 i)]) hx hb hml hown hG hg (c_bi l dC dI tk A hB u n rw i hi) (cwX 1 hG k_890 k_892 sb_s3 k_10 k_893 (by decide +kernel) ⟨by decide, by decide⟩) hst cB.1 (q0 := 0) rfl rfl hl.1 rfl (Nat.le_of_ble_eq_true rfl) ⟨Nat.le_refl 0, Nat.le_refl 0⟩ d_bp_2 (fun H locs hst => ?_)
  refine lv_aload_n hx hb d_bp_5 rfl (lv_at hl 2 rfl) ?_
  refine lv_aload_n hx hb d_bp_6 rfl (lv_at hl 0 rfl) ?_
  refine sb_get 0 (by decide) hx hb hown hG hg hst rfl rfl k_245 d_bp_7 ?_
  refine lv_iload_n hx hb d_bp_10 rfl (lv_at hl 1 rfl) ?_
  refine lv_aload_n hx hb d_bp_11 rfl (lv_at hl 0 rfl) ?_
  refine sb_get 1 (by decide) hx hb hown hG hg hst rfl rfl k_246 d_bp_12 ?_
  have hst : St dC dI A s.heap H locs ((u.1, .inl (tk 3, u.2.1, .inl u.2.2.2)) :: ((hB, .inr (10, sbF u n)) :: rw)) := gr1 (a := [(hB, .inr (10, sbF u n))]) (b := [(u.1, .inl (tk 3, u.2.1, .inl u.2.2.2))]) (r := rw) hst
  refine cl_wv (As := [.ref u.1, .int (nI k), .int 0]) hx hb hml hown hG hg (c_sg l dC dI tk A u.1 u.2.1 u.2.2.2 k i hi h1 h2 _) (cwX 3 hG k_914 k_915 k_916 k_12 k_917 (by decide +kernel) ⟨by decide, by decide⟩) hst q1x rfl hl.1 rfl (Nat.le_of_ble_eq_true rfl) ⟨Nat.le_refl 0, Nat.le_refl 0⟩ d_bp_15 (fun H locs hst => ?_)
  have hst : St dC dI A s.heap H locs (sbW hB tk (u.1, u.2.1, u.2.2.1, va_cpy (sbyt i) u.2.2.2 0 k (slen i)) n rw) := gr1 (a := [(u.1, .inl (tk 3, u.2.1, .inl (va_cpy (sbyt i) u.2.2.2 0 k (slen i))))]) (b := [(hB, .inr (10, sbF u n))]) (r := rw) hst
  exact rt_v hx hb hr hlk hst d_bp_18
def stT (i : Nat) : List Int32 := sbytL.getD i []
theorem stT_len (i : Nat) : (stT i).length = slen i := rfl
theorem stT_get (i j : Nat) : (stT i).getD j 0 = sbyt i j := rfl
theorem sbT_app {t w : List Int32} {u : sbS} {a2 : Nat → Int32} {ml : Int32} (ht : sbT t u) (hc : t.length + w.length ≤ u.2.1) (hf : sb_Fit a2) (h1 : ∀ i, i < t.length → a2 i = u.2.2.2 i) (h2 : ∀ i, i < w.length → a2 (t.length + i) = w.getD i 0) : sbT (t ++ w) (u.1, u.2.1, ml, a2) := by
  refine ⟨ht.1, by rw [List.length_append]; exact hc, hf, fun i hi => ?_⟩
  rw [List.length_append] at hi
  show a2 i = _
  by_cases hlt : i < t.length
  · rw [h1 i hlt, ht.2.2.2 i hlt, List.getD_eq_getElem?_getD, List.getD_eq_getElem?_getD, List.getElem?_append_left hlt]
  · have e : i = t.length + (i - t.length) := by omega
    rw [e, h2 _ (by omega), List.getD_eq_getElem?_getD, List.getD_eq_getElem?_getD, List.getElem?_append_right (by omega)]
    congr 2
    omega
theorem d_ba_0 : decode prog_12_method_22_code 0 = .ok (.aload_n 1, 1) := by decide +kernel
theorem d_ba_1 : decode prog_12_method_22_code 1 = .ok (.ifnonnull 8, 3) := by decide +kernel
theorem d_ba_4 : decode prog_12_method_22_code 4 = .ok (.aload_n 0, 1) := by decide +kernel
theorem d_ba_5 : decode prog_12_method_22_code 5 = .ok (.invokevirtual 204, 3) := by decide +kernel
theorem d_ba_8 : decode prog_12_method_22_code 8 = .ok (.areturn, 1) := by decide +kernel
theorem d_ba_9 : decode prog_12_method_22_code 9 = .ok (.aload_n 1, 1) := by decide +kernel
theorem d_ba_10 : decode prog_12_method_22_code 10 = .ok (.invokevirtual 32, 3) := by decide +kernel
theorem d_ba_13 : decode prog_12_method_22_code 13 = .ok (.istore_n 2, 1) := by decide +kernel
theorem d_ba_14 : decode prog_12_method_22_code 14 = .ok (.aload_n 0, 1) := by decide +kernel
theorem d_ba_15 : decode prog_12_method_22_code 15 = .ok (.aload_n 0, 1) := by decide +kernel
theorem d_ba_16 : decode prog_12_method_22_code 16 = .ok (.getfield 79, 3) := by decide +kernel
theorem d_ba_19 : decode prog_12_method_22_code 19 = .ok (.iload_n 2, 1) := by decide +kernel
theorem d_ba_20 : decode prog_12_method_22_code 20 = .ok (.iadd, 1) := by decide +kernel
theorem d_ba_21 : decode prog_12_method_22_code 21 = .ok (.invokevirtual 100, 3) := by decide +kernel
theorem d_ba_24 : decode prog_12_method_22_code 24 = .ok (.aload_n 0, 1) := by decide +kernel
theorem d_ba_25 : decode prog_12_method_22_code 25 = .ok (.aload_n 0, 1) := by decide +kernel
theorem d_ba_26 : decode prog_12_method_22_code 26 = .ok (.getfield 79, 3) := by decide +kernel
theorem d_ba_29 : decode prog_12_method_22_code 29 = .ok (.aload_n 1, 1) := by decide +kernel
theorem d_ba_30 : decode prog_12_method_22_code 30 = .ok (.invokevirtual 208, 3) := by decide +kernel
theorem d_ba_33 : decode prog_12_method_22_code 33 = .ok (.aload_n 0, 1) := by decide +kernel
theorem d_ba_34 : decode prog_12_method_22_code 34 = .ok (.dup, 1) := by decide +kernel
theorem d_ba_35 : decode prog_12_method_22_code 35 = .ok (.getfield 79, 3) := by decide +kernel
theorem d_ba_38 : decode prog_12_method_22_code 38 = .ok (.iload_n 2, 1) := by decide +kernel
theorem d_ba_39 : decode prog_12_method_22_code 39 = .ok (.iadd, 1) := by decide +kernel
theorem d_ba_40 : decode prog_12_method_22_code 40 = .ok (.putfield 79, 3) := by decide +kernel
theorem d_ba_43 : decode prog_12_method_22_code 43 = .ok (.aload_n 0, 1) := by decide +kernel
theorem d_ba_44 : decode prog_12_method_22_code 44 = .ok (.areturn, 1) := by decide +kernel
set_option maxHeartbeats 1000000 in
theorem c_ba (l : Launch) (dC : Nat → ClassId) (dI : Nat → Nat → Nat) (tk : Nat → ClassId) (A : Nat → Prop) (hB : Nat) (u : sbS) (rw : va_W) (t : List Int32) (ht : sbT t u) (i : Nat) (hi : i < 29) (hc : t.length + slen i ≤ 34) : CtM l dC dI tk A ⟨"java/lang/AbstractStringBuilder", "append", "(Ljava/lang/String;)Ljava/lang/AbstractStringBuilder;"⟩ prog_12_method_22_code 3 (some (.object ABn)) 4 160 1 34 [.ref hB, .ref (dI 1000 i)] (sbW hB tk u t.length rw) (QRp dC dI A (fun u2 : sbS => sbT (t ++ stT i) u2) (fun _ => hB) (fun u2 => sbW hB tk u2 (t ++ stT i).length rw)) := by
  refine entN (by decide) (Nat.le_of_ble_eq_true rfl) ?_
  intro p e s m args below meth c hx hb hr hml hown hlk hin hG hg hst ls hl
  have hl : lv_has ls 3 [(0, .ref hB), (1, .ref (dI 1000 i))] := hl
  obtain ⟨q1x, q2x, q3x, q4x, q5x⟩ := hg.2.2.2.1 i hi
  refine lv_aload_n hx hb d_ba_0 rfl (lv_at hl 1 rfl) ?_
  refine lv_ifnonnull (tgt := 9) hx hb d_ba_1 (by decide) ?_
  refine lv_aload_n hx hb d_ba_9 rfl (lv_at hl 1 rfl) ?_
  refine cl_vo (As := []) hx hb hml hown hG hg (c_sn l dC dI tk A _ i hi) (cwX 0 hG k_885 k_385 k_386 k_12 k_387 (by decide +kernel) ⟨by decide, by decide⟩) hst q1x rfl hl.1 rfl (Nat.le_of_ble_eq_true rfl) ⟨by decide, by decide⟩ d_ba_10 (fun H locs hst => ?_)
  refine lv_istore_n (lv' := [(2, .int (nI (slen i))), (0, .ref hB), (1, .ref (dI 1000 i))]) hx hb d_ba_13 rfl hl (by decide) rfl (fun ls hl => ?_)
  refine lv_aload_n hx hb d_ba_14 rfl (lv_at hl 1 rfl) ?_
  refine lv_aload_n hx hb d_ba_15 rfl (lv_at hl 1 rfl) ?_
  refine sb_get 3 (by decide) hx hb hown hG hg hst rfl rfl k_248 d_ba_16 ?_
  refine lv_iload_n hx hb d_ba_19 rfl (lv_at hl 0 rfl) ?_
  refine lv_iadd hx hb d_ba_20 ?_
  refine W.eq (g2 := F0 m 21 ls [.int (nI (t.length + slen i)), .ref hB]) (by rw [nI_add]) ?_
  refine bk_v (g := F0 m 0 ls []) (cm_run (As := [.int (nI (t.length + slen i))]) hx hb hml hown hG hg (c_be l dC dI tk A hB u t.length rw t ht (t.length + slen i) hc) (cwX 1 hG k_807 k_809 sb_s0 k_10 k_810 (by decide +kernel) ⟨by decide, by decide⟩) hst cB.1 (q0 := 0) rfl rfl hl.1 rfl (Nat.le_of_ble_eq_true rfl) ⟨by decide, by decide⟩ d_ba_21) hst (fun u H locs hp hst => ?_)
  refine W.cs (cells' := 1) (slots' := 34) rfl rfl ?_
  obtain ⟨ht, hcu⟩ := hp
  have hcap := ht.cap
  refine lv_aload_n hx hb d_ba_24 rfl (lv_at hl 1 rfl) ?_
  refine lv_aload_n hx hb d_ba_25 rfl (lv_at hl 1 rfl) ?_
  refine sb_get 3 (by decide) hx hb hown hG hg hst rfl rfl k_248 d_ba_26 ?_
  refine lv_aload_n hx hb d_ba_29 rfl (lv_at hl 2 rfl) ?_
  refine cl_vv (As := [.int (nI t.length), .ref (dI 1000 i)]) hx hb hml hown hG hg (c_bp l dC dI tk A hB u t.length rw t.length i hi hcu hcap.2) (cwX 2 hG k_886 k_888 sb_s2 k_10 k_889 (by decide +kernel) ⟨by decide, by decide⟩) hst cB.1 (q0 := 0) rfl rfl hl.1 rfl (Nat.le_of_ble_eq_true rfl) ⟨by decide, by decide⟩ d_ba_30 (fun H locs hst => ?_)
  refine lv_aload_n hx hb d_ba_33 rfl (lv_at hl 1 rfl) ?_
  refine lv_dup hx hb d_ba_34 rfl ?_
  refine sb_get 3 (by decide) hx hb hown hG hg hst rfl rfl k_248 d_ba_35 ?_
  refine lv_iload_n hx hb d_ba_38 rfl (lv_at hl 0 rfl) ?_
  refine lv_iadd hx hb d_ba_39 ?_
  refine W.eq (g2 := F0 m 40 ls [.int (nI (t.length + slen i)), .ref hB]) (by rw [nI_add]) ?_
  refine sb_put 3 (by decide) hx hb hown hG hg hst (by show 3 < 4; decide) rfl rfl rfl rfl k_248 d_ba_40 (fun H locs hst => ?_)
  refine lv_aload_n hx hb d_ba_43 rfl (lv_at hl 1 rfl) ?_
  have hst : St dC dI A s.heap H locs (sbW hB tk (u.1, u.2.1, u.2.2.1, va_cpy (sbyt i) u.2.2.2 0 t.length (slen i)) (t ++ stT i).length rw) := by rw [List.length_append]; exact hst
  exact rp_r (u := (u.1, u.2.1, u.2.2.1, va_cpy (sbyt i) u.2.2.2 0 t.length (slen i))) (wf := fun u2 => sbW hB tk u2 (t ++ stT i).length rw) hx hb hr hlk hst (sbT_app ht hcu (sb_fitK ht.2.2.1 (st_fit i hi)) (fun j hj => pk_cpy_out (by omega)) (fun j hj => by rw [pk_cpy_in (by omega) (by have := hj; rw [stT_len] at this; omega), show 0 + (t.length + j - t.length) = j by omega]; rfl)) rfl d_ba_44
theorem d_ta_0 : decode prog_21_method_7_code 0 = .ok (.aload_n 0, 1) := by decide +kernel
theorem d_ta_1 : decode prog_21_method_7_code 1 = .ok (.aload_n 1, 1) := by decide +kernel
theorem d_ta_2 : decode prog_21_method_7_code 2 = .ok (.invokespecial 29, 3) := by decide +kernel
theorem d_ta_5 : decode prog_21_method_7_code 5 = .ok (.pop, 1) := by decide +kernel
theorem d_ta_6 : decode prog_21_method_7_code 6 = .ok (.aload_n 0, 1) := by decide +kernel
theorem d_ta_7 : decode prog_21_method_7_code 7 = .ok (.areturn, 1) := by decide +kernel
set_option maxHeartbeats 1000000 in
theorem c_ta (l : Launch) (dC : Nat → ClassId) (dI : Nat → Nat → Nat) (tk : Nat → ClassId) (A : Nat → Prop) (hB : Nat) (u : sbS) (rw : va_W) (t : List Int32) (ht : sbT t u) (i : Nat) (hi : i < 29) (hc : t.length + slen i ≤ 34) : CtM l dC dI tk A ⟨"java/lang/StringBuilder", "append", "(Ljava/lang/String;)Ljava/lang/StringBuilder;"⟩ prog_21_method_7_code 2 (some (.object SBn)) 5 190 1 34 [.ref hB, .ref (dI 1000 i)] (sbW hB tk u t.length rw) (QRp dC dI A (fun u2 : sbS => sbT (t ++ stT i) u2) (fun _ => hB) (fun u2 => sbW hB tk u2 (t ++ stT i).length rw)) := by
  refine entN (by decide) (Nat.le_of_ble_eq_true rfl) ?_
  intro p e s m args below meth c hx hb hr hml hown hlk hin hG hg hst ls hl
  have hl : lv_has ls 2 [(0, .ref hB), (1, .ref (dI 1000 i))] := hl
  refine lv_aload_n hx hb d_ta_0 rfl (lv_at hl 0 rfl) ?_
  refine lv_aload_n hx hb d_ta_1 rfl (lv_at hl 1 rfl) ?_
  refine bk_r (cm_sup (As := [.ref (dI 1000 i)]) hx hb hml hown hG hg (c_ba l dC dI tk A hB u rw t ht i hi hc) (csX 1 hG k_863 k_864 k_1384 k_257 k_10 k_865 (by decide +kernel) ⟨by decide, by decide⟩) hst cB.1 (q0 := 0) rfl rfl hl.1 rfl (Nat.le_of_ble_eq_true rfl) ⟨by decide, by decide⟩ d_ta_2) hst (fun u H locs hp hst => ?_)
  refine W.cs (cells' := 1) (slots' := 34) rfl rfl ?_
  refine lv_pop hx hb d_ta_5 rfl ?_
  refine lv_aload_n hx hb d_ta_6 rfl (lv_at hl 0 rfl) ?_
  exact rp_r (u := u) (wf := fun u2 => sbW hB tk u2 (t ++ stT i).length rw) hx hb hr hlk hst hp rfl d_ta_7
theorem d_lc_0 : decode prog_22_method_3_code 0 = .ok (.iload_n 0, 1) := by decide +kernel
theorem d_lc_1 : decode prog_22_method_3_code 1 = .ok (.sipush 255, 3) := by decide +kernel
theorem d_lc_4 : decode prog_22_method_3_code 4 = .ok (.if_icmp .gt 7, 3) := by decide +kernel
theorem d_lc_7 : decode prog_22_method_3_code 7 = .ok (.iconst 1, 1) := by decide +kernel
theorem d_lc_8 : decode prog_22_method_3_code 8 = .ok (.goto 4, 3) := by decide +kernel
theorem d_lc_11 : decode prog_22_method_3_code 11 = .ok (.iconst 0, 1) := by decide +kernel
theorem d_lc_12 : decode prog_22_method_3_code 12 = .ok (.ireturn, 1) := by decide +kernel
set_option maxHeartbeats 1000000 in
theorem c_lc (l : Launch) (dC : Nat → ClassId) (dI : Nat → Nat → Nat) (tk : Nat → ClassId) (A : Nat → Prop) (ws : va_W) (x : Nat) (h1 : x ≤ 127) : CtI l dC dI tk A ⟨"java/lang/StringLatin1", "canEncode", "(C)Z"⟩ prog_22_method_3_code 1 (some .boolean) 0 0 [.int (nI x)] ws 1 ws := by
  refine ent (by decide) (Nat.le_of_ble_eq_true rfl) ?_
  intro p e s m args below meth c hx hb hr hml hown hlk hG hg hst ls hl
  have hl : lv_has ls 1 [(0, .int (nI x))] := hl
  refine lv_iload_n hx hb d_lc_0 rfl (lv_at hl 0 rfl) ?_
  refine lv_sipush (v := 255) hx hb d_lc_1 (by decide) ?_
  refine lv_icmp_gt (tgt := 11) hx hb d_lc_4 (by decide) (fun h9 => absurd h9 (show ¬ nI 255 < nI x from nI_nlt (by omega) (by decide))) (fun _ => ?_)
  refine lv_iconst (v := 1) hx hb d_lc_7 (by decide) ?_
  refine lv_goto (tgt := 12) hx hb d_lc_8 (by decide) ?_
  exact rt_i hx hb hr hlk (by decide) hst rfl d_lc_12
theorem asc_b : ∀ x, x < 128 → (nI x).toInt8.toInt32 = nI x ∧ vp_nar .byte (nI x) = nI x ∧ fits .byte (.int (nI x)) = true ∧ ((nI x &&& 255).toUInt32 % 65536).toInt32 = nI x ∧ okc (nI x) = true := by decide +kernel
theorem inb_n {k n : Nat} (h : k < n) (hn : n < 2 ^ 31) : inb (nI k) n = true := decide_eq_true (fun h9 => h9.elim (nI_pos (by omega)) (fun h8 => by rw [nI_clamp (by omega)] at h8; omega))
theorem d_bd_0 : decode prog_12_method_31_code 0 = .ok (.aload_n 0, 1) := by decide +kernel
theorem d_bd_1 : decode prog_12_method_31_code 1 = .ok (.aload_n 0, 1) := by decide +kernel
theorem d_bd_2 : decode prog_12_method_31_code 2 = .ok (.getfield 79, 3) := by decide +kernel
theorem d_bd_5 : decode prog_12_method_31_code 5 = .ok (.iconst 1, 1) := by decide +kernel
theorem d_bd_6 : decode prog_12_method_31_code 6 = .ok (.iadd, 1) := by decide +kernel
theorem d_bd_7 : decode prog_12_method_31_code 7 = .ok (.invokevirtual 100, 3) := by decide +kernel
theorem d_bd_10 : decode prog_12_method_31_code 10 = .ok (.aload_n 0, 1) := by decide +kernel
theorem d_bd_11 : decode prog_12_method_31_code 11 = .ok (.invokevirtual 83, 3) := by decide +kernel
theorem d_bd_14 : decode prog_12_method_31_code 14 = .ok (.ifCond .eq 31, 3) := by decide +kernel
theorem d_bd_17 : decode prog_12_method_31_code 17 = .ok (.iload_n 1, 1) := by decide +kernel
theorem d_bd_18 : decode prog_12_method_31_code 18 = .ok (.invokestatic 191, 3) := by decide +kernel
theorem d_bd_21 : decode prog_12_method_31_code 21 = .ok (.ifCond .eq 24, 3) := by decide +kernel
theorem d_bd_24 : decode prog_12_method_31_code 24 = .ok (.aload_n 0, 1) := by decide +kernel
theorem d_bd_25 : decode prog_12_method_31_code 25 = .ok (.getfield 15, 3) := by decide +kernel
theorem d_bd_28 : decode prog_12_method_31_code 28 = .ok (.aload_n 0, 1) := by decide +kernel
theorem d_bd_29 : decode prog_12_method_31_code 29 = .ok (.dup, 1) := by decide +kernel
theorem d_bd_30 : decode prog_12_method_31_code 30 = .ok (.getfield 79, 3) := by decide +kernel
theorem d_bd_33 : decode prog_12_method_31_code 33 = .ok (.dup_x1, 1) := by decide +kernel
theorem d_bd_34 : decode prog_12_method_31_code 34 = .ok (.iconst 1, 1) := by decide +kernel
theorem d_bd_35 : decode prog_12_method_31_code 35 = .ok (.iadd, 1) := by decide +kernel
theorem d_bd_36 : decode prog_12_method_31_code 36 = .ok (.putfield 79, 3) := by decide +kernel
theorem d_bd_39 : decode prog_12_method_31_code 39 = .ok (.iload_n 1, 1) := by decide +kernel
theorem d_bd_40 : decode prog_12_method_31_code 40 = .ok (.i2b, 1) := by decide +kernel
theorem d_bd_41 : decode prog_12_method_31_code 41 = .ok (.bastore, 1) := by decide +kernel
theorem d_bd_42 : decode prog_12_method_31_code 42 = .ok (.goto 33, 3) := by decide +kernel
theorem d_bd_45 : decode prog_12_method_31_code 45 = .ok (.aload_n 0, 1) := by decide +kernel
theorem d_bd_46 : decode prog_12_method_31_code 46 = .ok (.invokevirtual 83, 3) := by decide +kernel
theorem d_bd_49 : decode prog_12_method_31_code 49 = .ok (.ifCond .eq 7, 3) := by decide +kernel
theorem d_bd_52 : decode prog_12_method_31_code 52 = .ok (.aload_n 0, 1) := by decide +kernel
theorem d_bd_53 : decode prog_12_method_31_code 53 = .ok (.invokevirtual 195, 3) := by decide +kernel
theorem d_bd_56 : decode prog_12_method_31_code 56 = .ok (.aload_n 0, 1) := by decide +kernel
theorem d_bd_57 : decode prog_12_method_31_code 57 = .ok (.getfield 15, 3) := by decide +kernel
theorem d_bd_60 : decode prog_12_method_31_code 60 = .ok (.aload_n 0, 1) := by decide +kernel
theorem d_bd_61 : decode prog_12_method_31_code 61 = .ok (.dup, 1) := by decide +kernel
theorem d_bd_62 : decode prog_12_method_31_code 62 = .ok (.getfield 79, 3) := by decide +kernel
theorem d_bd_65 : decode prog_12_method_31_code 65 = .ok (.dup_x1, 1) := by decide +kernel
theorem d_bd_66 : decode prog_12_method_31_code 66 = .ok (.iconst 1, 1) := by decide +kernel
theorem d_bd_67 : decode prog_12_method_31_code 67 = .ok (.iadd, 1) := by decide +kernel
theorem d_bd_68 : decode prog_12_method_31_code 68 = .ok (.putfield 79, 3) := by decide +kernel
theorem d_bd_71 : decode prog_12_method_31_code 71 = .ok (.iload_n 1, 1) := by decide +kernel
theorem d_bd_72 : decode prog_12_method_31_code 72 = .ok (.invokestatic 197, 3) := by decide +kernel
theorem d_bd_75 : decode prog_12_method_31_code 75 = .ok (.aload_n 0, 1) := by decide +kernel
theorem d_bd_76 : decode prog_12_method_31_code 76 = .ok (.areturn, 1) := by decide +kernel
set_option maxHeartbeats 1000000 in
theorem c_bd (l : Launch) (dC : Nat → ClassId) (dI : Nat → Nat → Nat) (tk : Nat → ClassId) (A : Nat → Prop) (hB : Nat) (u : sbS) (rw : va_W) (t : List Int32) (ht : sbT t u) (x : Nat) (hx1 : x < 128) (hc : t.length + 1 ≤ 34) : CtM l dC dI tk A ⟨"java/lang/AbstractStringBuilder", "append", "(C)Ljava/lang/AbstractStringBuilder;"⟩ prog_12_method_31_code 2 (some (.object ABn)) 4 160 1 34 [.ref hB, .int (nI x)] (sbW hB tk u t.length rw) (QRp dC dI A (fun u2 : sbS => sbT (t ++ [nI x]) u2) (fun _ => hB) (fun u2 => sbW hB tk u2 (t ++ [nI x]).length rw)) := by
  refine entN (by decide) (Nat.le_of_ble_eq_true rfl) ?_
  intro p e s m args below meth c hx hb hr hml hown hlk hin hG hg hst ls hl
  have hl : lv_has ls 2 [(0, .ref hB), (1, .int (nI x))] := hl
  obtain ⟨g1, g2, g3, g4, g5⟩ := asc_b x hx1
  refine lv_aload_n hx hb d_bd_0 rfl (lv_at hl 0 rfl) ?_
  refine lv_aload_n hx hb d_bd_1 rfl (lv_at hl 0 rfl) ?_
  refine sb_get 3 (by decide) hx hb hown hG hg hst rfl rfl k_248 d_bd_2 ?_
  refine lv_iconst (v := 1) hx hb d_bd_5 (by decide) ?_
  refine lv_iadd hx hb d_bd_6 ?_
  refine W.eq (g2 := F0 m 7 ls [.int (nI (t.length + 1)), .ref hB]) (by rw [nI_1]) ?_
  refine bk_v (g := F0 m 0 ls []) (cm_run (As := [.int (nI (t.length + 1))]) hx hb hml hown hG hg (c_be l dC dI tk A hB u t.length rw t ht (t.length + 1) hc) (cwX 1 hG k_807 k_809 sb_s0 k_10 k_810 (by decide +kernel) ⟨by decide, by decide⟩) hst cB.1 (q0 := 0) rfl rfl hl.1 rfl (Nat.le_of_ble_eq_true rfl) ⟨by decide, by decide⟩ d_bd_7) hst (fun u H locs hp hst => ?_)
  refine W.cs (cells' := 1) (slots' := 34) rfl rfl ?_
  obtain ⟨ht, hcu⟩ := hp
  have hcap := ht.cap
  refine lv_aload_n hx hb d_bd_10 rfl (lv_at hl 0 rfl) ?_
  refine cl_vi (As := []) hx hb hml hown hG hg (c_bl l dC dI tk A hB u t.length rw) (cwX 0 hG k_836 k_837 k_839 k_10 k_840 (by decide +kernel) ⟨by decide, by decide⟩) hst cB.1 (q0 := 0) rfl rfl hl.1 rfl (Nat.le_of_ble_eq_true rfl) ⟨by decide, by decide⟩ d_bd_11 (fun H locs hst => ?_)
  refine lv_if_eq (tgt := 45) hx hb d_bd_14 (by decide) (fun h9 => absurd h9 (by decide)) (fun _ => ?_)
  refine lv_iload_n hx hb d_bd_17 rfl (lv_at hl 1 rfl) ?_
  refine cl_si (As := [.int (nI x)]) hx hb hml hown hG hg (c_lc l dC dI tk A _ x (by omega)) (cw_t 1 hG k_955 k_956 k_16 k_957 (by decide +kernel) ⟨by decide, by decide⟩) hst rfl hl.1 rfl (Nat.le_of_ble_eq_true rfl) ⟨by decide, by decide⟩ d_bd_18 (fun H locs hst => ?_)
  refine lv_if_eq (tgt := 45) hx hb d_bd_21 (by decide) (fun h9 => absurd h9 (by decide)) (fun _ => ?_)
  refine lv_aload_n hx hb d_bd_24 rfl (lv_at hl 0 rfl) ?_
  refine sb_get 0 (by decide) hx hb hown hG hg hst rfl rfl k_245 d_bd_25 ?_
  refine lv_aload_n hx hb d_bd_28 rfl (lv_at hl 0 rfl) ?_
  refine lv_dup hx hb d_bd_29 rfl ?_
  refine sb_get 3 (by decide) hx hb hown hG hg hst rfl rfl k_248 d_bd_30 ?_
  refine lv_dup_x1 hx hb d_bd_33 rfl rfl ?_
  refine lv_iconst (v := 1) hx hb d_bd_34 (by decide) ?_
  refine lv_iadd hx hb d_bd_35 ?_
  refine W.eq (g2 := F0 m 36 ls [.int (nI (t.length + 1)), .ref hB, .int (nI t.length), .ref u.1]) (by rw [nI_1]) ?_
  refine sb_put 3 (by decide) hx hb hown hG hg hst (by show 3 < 4; decide) rfl rfl rfl rfl k_248 d_bd_36 (fun H locs hst => ?_)
  refine lv_iload_n hx hb d_bd_39 rfl (lv_at hl 1 rfl) ?_
  refine lv_i2b hx hb d_bd_40 g1 ?_
  have hst : St dC dI A s.heap H locs ((u.1, .inl (tk 3, u.2.1, .inl u.2.2.2)) :: ((hB, .inr (10, (sbF u t.length).set 3 (.int (nI (t.length + 1))))) :: rw)) := gr1 (a := [(hB, .inr (10, (sbF u t.length).set 3 (.int (nI (t.length + 1)))))]) (b := [(u.1, .inl (tk 3, u.2.1, .inl u.2.2.2))]) (r := rw) hst
  refine sb_bast hx hb hg hst (inb_n (by omega) (by omega)) d_bd_41 (fun H locs hst => ?_)
  rw [nI_clamp (by omega), g2] at hst
  have hst : St dC dI A s.heap H locs (sbW hB tk (u.1, u.2.1, u.2.2.1, upd u.2.2.2 t.length (nI x)) (t ++ [nI x]).length rw) := by rw [List.length_append]; exact gr1 (a := [(u.1, .inl (tk 3, u.2.1, .inl (upd u.2.2.2 t.length (nI x))))]) (b := [(hB, .inr (10, (sbF u t.length).set 3 (.int (nI (t.length + 1)))))]) (r := rw) hst
  refine lv_goto (tgt := 75) hx hb d_bd_42 (by decide) ?_
  refine lv_aload_n hx hb d_bd_75 rfl (lv_at hl 0 rfl) ?_
  have hj0 : ∀ j, j < [nI x].length → upd u.2.2.2 t.length (nI x) (t.length + j) = [nI x].getD j 0 := by
    intro j hj
    have h9 : j < 1 := hj
    obtain rfl : j = 0 := by omega
    exact pk_us
  exact rp_r (u := (u.1, u.2.1, u.2.2.1, upd u.2.2.2 t.length (nI x))) (wf := fun u2 => sbW hB tk u2 (t ++ [nI x]).length rw) hx hb hr hlk hst (sbT_app ht hcu (sb_fitU ht.2.2.1 g3) (fun j hj => pk_un (by omega)) hj0) rfl d_bd_76
theorem d_td_0 : decode prog_21_method_14_code 0 = .ok (.aload_n 0, 1) := by decide +kernel
theorem d_td_1 : decode prog_21_method_14_code 1 = .ok (.iload_n 1, 1) := by decide +kernel
theorem d_td_2 : decode prog_21_method_14_code 2 = .ok (.invokespecial 50, 3) := by decide +kernel
theorem d_td_5 : decode prog_21_method_14_code 5 = .ok (.pop, 1) := by decide +kernel
theorem d_td_6 : decode prog_21_method_14_code 6 = .ok (.aload_n 0, 1) := by decide +kernel
theorem d_td_7 : decode prog_21_method_14_code 7 = .ok (.areturn, 1) := by decide +kernel
set_option maxHeartbeats 1000000 in
theorem c_td (l : Launch) (dC : Nat → ClassId) (dI : Nat → Nat → Nat) (tk : Nat → ClassId) (A : Nat → Prop) (hB : Nat) (u : sbS) (rw : va_W) (t : List Int32) (ht : sbT t u) (x : Nat) (hx1 : x < 128) (hc : t.length + 1 ≤ 34) : CtM l dC dI tk A ⟨"java/lang/StringBuilder", "append", "(C)Ljava/lang/StringBuilder;"⟩ prog_21_method_14_code 2 (some (.object SBn)) 5 190 1 34 [.ref hB, .int (nI x)] (sbW hB tk u t.length rw) (QRp dC dI A (fun u2 : sbS => sbT (t ++ [nI x]) u2) (fun _ => hB) (fun u2 => sbW hB tk u2 (t ++ [nI x]).length rw)) := by
  refine entN (by decide) (Nat.le_of_ble_eq_true rfl) ?_
  intro p e s m args below meth c hx hb hr hml hown hlk hin hG hg hst ls hl
  have hl : lv_has ls 2 [(0, .ref hB), (1, .int (nI x))] := hl
  refine lv_aload_n hx hb d_td_0 rfl (lv_at hl 0 rfl) ?_
  refine lv_iload_n hx hb d_td_1 rfl (lv_at hl 1 rfl) ?_
  refine bk_r (cm_sup (As := [.int (nI x)]) hx hb hml hown hG hg (c_bd l dC dI tk A hB u rw t ht x hx1 hc) (csX 1 hG k_952 k_953 k_1390 k_257 k_10 k_954 (by decide +kernel) ⟨by decide, by decide⟩) hst cB.1 (q0 := 0) rfl rfl hl.1 rfl (Nat.le_of_ble_eq_true rfl) ⟨by decide, by decide⟩ d_td_2) hst (fun u H locs hp hst => ?_)
  refine W.cs (cells' := 1) (slots' := 34) rfl rfl ?_
  refine lv_pop hx hb d_td_5 rfl ?_
  refine lv_aload_n hx hb d_td_6 rfl (lv_at hl 0 rfl) ?_
  exact rp_r (u := u) (wf := fun u2 => sbW hB tk u2 (t ++ [nI x]).length rw) hx hb hr hlk hst hp rfl d_td_7
theorem d_bq_0 : decode prog_12_method_6_code 0 = .ok (.aload_n 0, 1) := by decide +kernel
theorem d_bq_1 : decode prog_12_method_6_code 1 = .ok (.getfield 79, 3) := by decide +kernel
theorem d_bq_4 : decode prog_12_method_6_code 4 = .ok (.ireturn, 1) := by decide +kernel
set_option maxHeartbeats 1000000 in
theorem c_bq (l : Launch) (dC : Nat → ClassId) (dI : Nat → Nat → Nat) (tk : Nat → ClassId) (A : Nat → Prop) (hB : Nat) (u : sbS) (n : Nat) (rw : va_W) : CtM l dC dI tk A ⟨"java/lang/AbstractStringBuilder", "length", "()I"⟩ prog_12_method_6_code 1 (some .int) 0 0 0 0 [.ref hB] (sbW hB tk u n rw) (QIp dC dI A (fun _ : Unit => True) (nI n) (fun _ => sbW hB tk u n rw)) := by
  refine entN (by decide) (Nat.le_of_ble_eq_true rfl) ?_
  intro p e s m args below meth c hx hb hr hml hown hlk hin hG hg hst ls hl
  have hl : lv_has ls 1 [(0, .ref hB)] := hl
  refine lv_aload_n hx hb d_bq_0 rfl (lv_at hl 0 rfl) ?_
  refine sb_get 3 (by decide) hx hb hown hG hg hst rfl rfl k_248 d_bq_1 ?_
  exact rp_i (u := ()) (wf := fun _ => sbW hB tk u n rw) hx hb hr hlk rfl hst trivial rfl d_bq_4
theorem d_tq_0 : decode prog_21_method_93_code 0 = .ok (.aload_n 0, 1) := by decide +kernel
theorem d_tq_1 : decode prog_21_method_93_code 1 = .ok (.invokespecial 343, 3) := by decide +kernel
theorem d_tq_4 : decode prog_21_method_93_code 4 = .ok (.ireturn, 1) := by decide +kernel
set_option maxHeartbeats 1000000 in
theorem c_tq (l : Launch) (dC : Nat → ClassId) (dI : Nat → Nat → Nat) (tk : Nat → ClassId) (A : Nat → Prop) (hB : Nat) (u : sbS) (n : Nat) (rw : va_W) : CtM l dC dI tk A ⟨"java/lang/StringBuilder", "length", "()I"⟩ prog_21_method_93_code 1 (some .int) 1 30 0 0 [.ref hB] (sbW hB tk u n rw) (QIp dC dI A (fun _ : Unit => True) (nI n) (fun _ => sbW hB tk u n rw)) := by
  refine entN (by decide) (Nat.le_of_ble_eq_true rfl) ?_
  intro p e s m args below meth c hx hb hr hml hown hlk hin hG hg hst ls hl
  have hl : lv_has ls 1 [(0, .ref hB)] := hl
  refine lv_aload_n hx hb d_tq_0 rfl (lv_at hl 0 rfl) ?_
  refine bk_i (cm_sup (As := []) hx hb hml hown hG hg (c_bq l dC dI tk A hB u n rw) (csX 0 hG k_965 k_966 k_1391 k_257 k_10 k_967 (by decide +kernel) ⟨by decide, by decide⟩) hst cB.1 (q0 := 0) rfl rfl hl.1 rfl (Nat.le_of_ble_eq_true rfl) ⟨by decide, by decide⟩ d_tq_1) hst (fun _ H locs hp hst => ?_)
  refine W.cs (cells' := 0) (slots' := 0) rfl rfl ?_
  exact rp_i (u := ()) (wf := fun _ => sbW hB tk u n rw) hx hb hr hlk rfl hst trivial rfl d_tq_4
theorem d_bz_0 : decode prog_12_method_14_code 0 = .ok (.aload_n 0, 1) := by decide +kernel
theorem d_bz_1 : decode prog_12_method_14_code 1 = .ok (.getfield 22, 3) := by decide +kernel
theorem d_bz_4 : decode prog_12_method_14_code 4 = .ok (.istore_n 2, 1) := by decide +kernel
theorem d_bz_5 : decode prog_12_method_14_code 5 = .ok (.aload_n 0, 1) := by decide +kernel
theorem d_bz_6 : decode prog_12_method_14_code 6 = .ok (.getfield 15, 3) := by decide +kernel
theorem d_bz_9 : decode prog_12_method_14_code 9 = .ok (.astore_n 3, 1) := by decide +kernel
theorem d_bz_10 : decode prog_12_method_14_code 10 = .ok (.aload_n 0, 1) := by decide +kernel
theorem d_bz_11 : decode prog_12_method_14_code 11 = .ok (.getfield 79, 3) := by decide +kernel
theorem d_bz_14 : decode prog_12_method_14_code 14 = .ok (.aload_n 3, 1) := by decide +kernel
theorem d_bz_15 : decode prog_12_method_14_code 15 = .ok (.arraylength, 1) := by decide +kernel
theorem d_bz_16 : decode prog_12_method_14_code 16 = .ok (.iload_n 2, 1) := by decide +kernel
theorem d_bz_17 : decode prog_12_method_14_code 17 = .ok (.ishr, 1) := by decide +kernel
theorem d_bz_18 : decode prog_12_method_14_code 18 = .ok (.invokestatic 138, 3) := by decide +kernel
theorem d_bz_21 : decode prog_12_method_14_code 21 = .ok (.istore 4, 2) := by decide +kernel
theorem d_bz_23 : decode prog_12_method_14_code 23 = .ok (.iload_n 1, 1) := by decide +kernel
theorem d_bz_24 : decode prog_12_method_14_code 24 = .ok (.iload 4, 2) := by decide +kernel
theorem d_bz_26 : decode prog_12_method_14_code 26 = .ok (.invokestatic 144, 3) := by decide +kernel
theorem d_bz_29 : decode prog_12_method_14_code 29 = .ok (.iload_n 2, 1) := by decide +kernel
theorem d_bz_30 : decode prog_12_method_14_code 30 = .ok (.ifCond .ne 12, 3) := by decide +kernel
theorem d_bz_33 : decode prog_12_method_14_code 33 = .ok (.aload_n 3, 1) := by decide +kernel
theorem d_bz_34 : decode prog_12_method_14_code 34 = .ok (.iload_n 1, 1) := by decide +kernel
theorem d_bz_35 : decode prog_12_method_14_code 35 = .ok (.baload, 1) := by decide +kernel
theorem d_bz_36 : decode prog_12_method_14_code 36 = .ok (.sipush 255, 3) := by decide +kernel
theorem d_bz_39 : decode prog_12_method_14_code 39 = .ok (.iand, 1) := by decide +kernel
theorem d_bz_40 : decode prog_12_method_14_code 40 = .ok (.i2c, 1) := by decide +kernel
theorem d_bz_41 : decode prog_12_method_14_code 41 = .ok (.ireturn, 1) := by decide +kernel
theorem d_bz_42 : decode prog_12_method_14_code 42 = .ok (.aload_n 3, 1) := by decide +kernel
theorem d_bz_43 : decode prog_12_method_14_code 43 = .ok (.iload_n 1, 1) := by decide +kernel
theorem d_bz_44 : decode prog_12_method_14_code 44 = .ok (.invokestatic 148, 3) := by decide +kernel
theorem d_bz_47 : decode prog_12_method_14_code 47 = .ok (.ireturn, 1) := by decide +kernel
set_option maxHeartbeats 1000000 in
theorem c_bz (l : Launch) (dC : Nat → ClassId) (dI : Nat → Nat → Nat) (tk : Nat → ClassId) (A : Nat → Prop) (hB : Nat) (u : sbS) (rw : va_W) (t : List Int32) (ht : sbT t u) (k x : Nat) (hk : k < t.length) (hx1 : x < 128) (hv : t.getD k 0 = nI x) : CtM l dC dI tk A ⟨"java/lang/AbstractStringBuilder", "charAt", "(I)C"⟩ prog_12_method_14_code 5 (some .char) 2 60 0 0 [.ref hB, .int (nI k)] (sbW hB tk u t.length rw) (QIp dC dI A (fun _ : Unit => True) (nI x) (fun _ => sbW hB tk u t.length rw)) := by
  refine entN (by decide) (Nat.le_of_ble_eq_true rfl) ?_
  intro p e s m args below meth c hx hb hr hml hown hlk hin hG hg hst ls hl
  have hl : lv_has ls 5 [(0, .ref hB), (1, .int (nI k))] := hl
  have hcap := ht.cap
  have htl := ht.2.1
  obtain ⟨g1, g2, g3, g4, g5⟩ := asc_b x hx1
  refine lv_aload_n hx hb d_bz_0 rfl (lv_at hl 0 rfl) ?_
  refine sb_get 1 (by decide) hx hb hown hG hg hst rfl rfl k_246 d_bz_1 ?_
  refine lv_istore_n (lv' := [(2, .int 0), (0, .ref hB), (1, .int (nI k))]) hx hb d_bz_4 rfl hl (by decide) rfl (fun ls hl => ?_)
  refine lv_aload_n hx hb d_bz_5 rfl (lv_at hl 1 rfl) ?_
  refine sb_get 0 (by decide) hx hb hown hG hg hst rfl rfl k_245 d_bz_6 ?_
  refine lv_astore_n (lv' := [(3, .ref u.1), (2, .int 0), (0, .ref hB), (1, .int (nI k))]) hx hb d_bz_9 rfl hl (by decide) rfl (fun ls hl => ?_)
  refine lv_aload_n hx hb d_bz_10 rfl (lv_at hl 2 rfl) ?_
  refine sb_get 3 (by decide) hx hb hown hG hg hst rfl rfl k_248 d_bz_11 ?_
  refine lv_aload_n hx hb d_bz_14 rfl (lv_at hl 0 rfl) ?_
  refine sb_alen (v := nI u.2.1) hx hb hg hst rfl d_bz_15 ?_
  refine lv_iload_n hx hb d_bz_16 rfl (lv_at hl 1 rfl) ?_
  refine lv_ishr hx hb d_bz_17 ?_
  refine W.eq (g2 := F0 m 18 ls [.int (nI u.2.1), .int (nI t.length)]) (by rw [sb_shr0]) ?_
  refine va_mmin hx hb (hml.trans hl.1.symm) hown (hG _ k_975) (hG _ k_340) (hG _ k_15) (hG _ k_341) (by decide) (Nat.le_of_ble_eq_true rfl) (Nat.le_refl 0) (Nat.le_refl 0) d_bz_18 ?_
  refine W.eq (g2 := F0 m 21 ls [.int (nI t.length)]) (by rw [show (if nI u.2.1 < nI t.length then nI u.2.1 else nI t.length) = nI t.length from if_neg (nI_nlt htl (by omega))]) ?_
  refine lv_istore (lv' := [(4, .int (nI t.length)), (3, .ref u.1), (2, .int 0), (0, .ref hB), (1, .int (nI k))]) hx hb d_bz_21 hl (by decide) rfl (fun ls hl => ?_)
  refine lv_iload_n hx hb d_bz_23 rfl (lv_at hl 4 rfl) ?_
  refine lv_iload hx hb d_bz_24 (lv_at hl 0 rfl) ?_
  refine cl_sv (As := [.int (nI k), .int (nI t.length)]) hx hb hml hown hG hg (c_si l dC dI tk A _ (nI k) (nI t.length) (nI_pos (by omega)) (nI_lt hk (by omega))) (cw_t 2 hG k_976 k_405 k_12 k_406 (by decide +kernel) ⟨by decide, by decide⟩) hst rfl hl.1 rfl (Nat.le_of_ble_eq_true rfl) ⟨Nat.le_refl 0, Nat.le_refl 0⟩ d_bz_26 (fun H locs hst => ?_)
  refine lv_iload_n hx hb d_bz_29 rfl (lv_at hl 2 rfl) ?_
  refine lv_if_ne (tgt := 42) hx hb d_bz_30 (by decide) (fun h9 => absurd rfl h9) (fun _ => ?_)
  refine lv_aload_n hx hb d_bz_33 rfl (lv_at hl 1 rfl) ?_
  refine lv_iload_n hx hb d_bz_34 rfl (lv_at hl 4 rfl) ?_
  refine va_bald hx hb hg.2.1 hst.1 1 3 rfl rfl (inb_in (inb_n (n := u.2.1) (by omega) (by omega))) d_bz_35 ?_
  have ev : u.2.2.2 (nI k).toNatClampNeg = nI x := by rw [nI_clamp (by omega), ht.2.2.2 k hk, hv]
  refine W.eq (g2 := F0 m 36 ls [.int (nI x)]) (by rw [ev]) ?_
  refine lv_sipush (v := 255) hx hb d_bz_36 (by decide) ?_
  refine lv_iand hx hb d_bz_39 ?_
  refine lv_i2c hx hb d_bz_40 rfl ?_
  exact rp_i (u := ()) (wf := fun _ => sbW hB tk u t.length rw) hx hb hr hlk (by rw [g4]; exact (okc_n g5).1) hst trivial g4 d_bz_41
theorem d_tz_0 : decode prog_21_method_88_code 0 = .ok (.aload_n 0, 1) := by decide +kernel
theorem d_tz_1 : decode prog_21_method_88_code 1 = .ok (.iload_n 1, 1) := by decide +kernel
theorem d_tz_2 : decode prog_21_method_88_code 2 = .ok (.invokespecial 329, 3) := by decide +kernel
theorem d_tz_5 : decode prog_21_method_88_code 5 = .ok (.ireturn, 1) := by decide +kernel
set_option maxHeartbeats 1000000 in
theorem c_tz (l : Launch) (dC : Nat → ClassId) (dI : Nat → Nat → Nat) (tk : Nat → ClassId) (A : Nat → Prop) (hB : Nat) (u : sbS) (rw : va_W) (t : List Int32) (ht : sbT t u) (k x : Nat) (hk : k < t.length) (hx1 : x < 128) (hv : t.getD k 0 = nI x) : CtM l dC dI tk A ⟨"java/lang/StringBuilder", "charAt", "(I)C"⟩ prog_21_method_88_code 2 (some .char) 3 90 0 0 [.ref hB, .int (nI k)] (sbW hB tk u t.length rw) (QIp dC dI A (fun _ : Unit => True) (nI x) (fun _ => sbW hB tk u t.length rw)) := by
  refine entN (by decide) (Nat.le_of_ble_eq_true rfl) ?_
  intro p e s m args below meth c hx hb hr hml hown hlk hin hG hg hst ls hl
  have hl : lv_has ls 2 [(0, .ref hB), (1, .int (nI k))] := hl
  obtain ⟨g1, g2, g3, g4, g5⟩ := asc_b x hx1
  refine lv_aload_n hx hb d_tz_0 rfl (lv_at hl 0 rfl) ?_
  refine lv_iload_n hx hb d_tz_1 rfl (lv_at hl 1 rfl) ?_
  refine bk_i (cm_sup (As := [.int (nI k)]) hx hb hml hown hG hg (c_bz l dC dI tk A hB u rw t ht k x hk hx1 hv) (csX 1 hG k_972 k_973 k_1392 k_257 k_10 k_974 (by decide +kernel) ⟨by decide, by decide⟩) hst cB.1 (q0 := 0) rfl rfl hl.1 rfl (Nat.le_of_ble_eq_true rfl) ⟨by decide, by decide⟩ d_tz_2) hst (fun _ H locs hp hst => ?_)
  refine W.cs (cells' := 0) (slots' := 0) rfl rfl ?_
  exact rp_i (u := ()) (wf := fun _ => sbW hB tk u t.length rw) hx hb hr hlk (okc_n g5).1 hst trivial rfl d_tz_5
