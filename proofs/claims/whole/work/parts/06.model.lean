abbrev ksM : List (Option Nat) := [none, none, none, none, none, none, none, some 0, none, some 1, some 2, some 3, some 4, some 5, some 6, some 7, some 8, none, some 9, none, none, none, none, some 10, some 11, some 12, some 13, some 14, some 15, none, none, none, some 16, some 17, some 18, some 19, some 20, some 21, none, some 22, some 23, some 24, some 25, some 26, none, none]
abbrev spM : List (Nat × Nat) := [(0, 200), (0, 41), (0, 41), (0, 41), (0, 41), (0, 41), (0, 41), (0, 41), (0, 201), (0, 7), (0, 3), (0, 12), (0, 3), (0, 3), (0, 180), (0, 60), (0, 8), (0, 8), (0, 8), (0, 8), (0, 8), (0, 480), (0, 60), (2, 60), (2, 60), (0, 60), (0, 64)]
def mM_linesOf (n : Nat) (fp : Nat → Int32) (np : Nat) (v1 : Int32) (v2 : Int32) : Option (Int32) := lp (ε := Int32 × Int32) (fun q3 => if (v1 + v2) ≤ q3.2 then (some (.inr (q3.1))) else (gd (inb q3.2 np) (lt (fp q3.2.toNatClampNeg) (fun x9 => if x9 = 10 then (lt ((q3.1 + 1)) (fun x12 => some (.inl (x12, (q3.2 + 1))))) else (lt ((q3.1 + 0)) (fun x11 => some (.inl (x11, (q3.2 + 1))))))))) n (1, v1)
theorem d_M_linesOf_0 : decode prog_11_method_38_code 0 = .ok (.iconst 1, 1) := by decide +kernel
theorem d_M_linesOf_1 : decode prog_11_method_38_code 1 = .ok (.istore_n 3, 1) := by decide +kernel
theorem d_M_linesOf_2 : decode prog_11_method_38_code 2 = .ok (.iload_n 1, 1) := by decide +kernel
theorem d_M_linesOf_3 : decode prog_11_method_38_code 3 = .ok (.istore 4, 2) := by decide +kernel
theorem d_M_linesOf_5 : decode prog_11_method_38_code 5 = .ok (.iload 4, 2) := by decide +kernel
theorem d_M_linesOf_7 : decode prog_11_method_38_code 7 = .ok (.iload_n 1, 1) := by decide +kernel
theorem d_M_linesOf_8 : decode prog_11_method_38_code 8 = .ok (.iload_n 2, 1) := by decide +kernel
theorem d_M_linesOf_9 : decode prog_11_method_38_code 9 = .ok (.iadd, 1) := by decide +kernel
theorem d_M_linesOf_10 : decode prog_11_method_38_code 10 = .ok (.if_icmp .ge 26, 3) := by decide +kernel
theorem d_M_linesOf_13 : decode prog_11_method_38_code 13 = .ok (.iload_n 3, 1) := by decide +kernel
theorem d_M_linesOf_14 : decode prog_11_method_38_code 14 = .ok (.aload_n 0, 1) := by decide +kernel
theorem d_M_linesOf_15 : decode prog_11_method_38_code 15 = .ok (.iload 4, 2) := by decide +kernel
theorem d_M_linesOf_17 : decode prog_11_method_38_code 17 = .ok (.iaload, 1) := by decide +kernel
theorem d_M_linesOf_18 : decode prog_11_method_38_code 18 = .ok (.bipush 10, 2) := by decide +kernel
theorem d_M_linesOf_20 : decode prog_11_method_38_code 20 = .ok (.if_icmp .ne 7, 3) := by decide +kernel
theorem d_M_linesOf_23 : decode prog_11_method_38_code 23 = .ok (.iconst 1, 1) := by decide +kernel
theorem d_M_linesOf_24 : decode prog_11_method_38_code 24 = .ok (.goto 4, 3) := by decide +kernel
theorem d_M_linesOf_27 : decode prog_11_method_38_code 27 = .ok (.iconst 0, 1) := by decide +kernel
theorem d_M_linesOf_28 : decode prog_11_method_38_code 28 = .ok (.iadd, 1) := by decide +kernel
theorem d_M_linesOf_29 : decode prog_11_method_38_code 29 = .ok (.istore_n 3, 1) := by decide +kernel
theorem d_M_linesOf_30 : decode prog_11_method_38_code 30 = .ok (.iinc 4 1, 3) := by decide +kernel
theorem d_M_linesOf_33 : decode prog_11_method_38_code 33 = .ok (.goto (-28), 3) := by decide +kernel
theorem d_M_linesOf_36 : decode prog_11_method_38_code 36 = .ok (.iload_n 3, 1) := by decide +kernel
theorem d_M_linesOf_37 : decode prog_11_method_38_code 37 = .ok (.ireturn, 1) := by decide +kernel
set_option maxHeartbeats 4000000 in
set_option maxRecDepth 100000 in
theorem cM_linesOf (l : Launch) (dC : Nat → ClassId) (dI : Nat → Nat → Nat) (tk : Nat → ClassId) (A : Nat → Prop) (h : Nat) (L : Nat → Nat) (g : aG) (a : aA) (rw : va_W) (n : Nat) (jp np : Nat) (hsp : spM[jp]? = some (0, np)) (v1 : Int32) (v2 : Int32) (r0 : Int32) (hm : mM_linesOf n (a jp) np v1 v2 = some r0) : CtI l dC dI tk A ⟨"EditorServerModel", "linesOf", "([III)I"⟩ prog_11_method_38_code 5 (some .int) 0 0 [.ref (L jp), .int v1, .int v2] (oW 0 h ksM spM tk L g a rw) r0 (oW 0 h ksM spM tk L g a rw) := by
  refine ent (by decide) (by decide) ?_
  intro p e s m args below meth c hx hb hr hml hown hlk hG hg hst ls hl
  unfold mM_linesOf at hm
  have hl : lv_has ls 5 [(0, .ref (L jp)), (1, .int v1), (2, .int v2)] := hl
  refine lv_iconst (v := 1) hx hb d_M_linesOf_0 (by decide) ?_
  refine lv_istore_n (lv' := [(3, .int 1), (0, .ref (L jp)), (1, .int v1), (2, .int v2)]) hx hb d_M_linesOf_1 rfl hl (by decide) rfl (fun ls hl => ?_)
  refine lv_iload_n hx hb d_M_linesOf_2 rfl (lv_at hl 2 rfl) ?_
  refine lv_istore (lv' := [(4, .int v1), (3, .int 1), (0, .ref (L jp)), (1, .int v1), (2, .int v2)]) hx hb d_M_linesOf_3 hl (by decide) rfl (fun ls hl => ?_)
  refine lp_u (fun q3 : Int32 × Int32 => ∀ (H : Heap) (locs : List Loc) (ls : Array Slot), lv_has ls 5 [(0, .ref (L jp)), (1, .int v1), (2, .int v2), (3, .int q3.1), (4, .int q3.2)] → St dC dI A s.heap H locs (oW 0 h ksM spM tk L g a rw) → W p l e (rmo 0 0) s m args below meth c H locs 0 0 (MQ below (QI dC dI A r0 (oW 0 h ksM spM tk L g a rw)) args s 0 0 A) (F0 m 5 ls [])) ?_ n (1, v1) hm _ _ _ (lv_sub hl [2, 3, 4, 1, 0] rfl) hst
  rintro ⟨x1, x2⟩ r6 hm hJ40 hR5 H locs ls hl hst
  dsimp only at hm hl hst ⊢
  have hJ4 := fun y0 y1 (e : r6 = .inl (y0, y1)) => hJ40 (y0, y1) e
  dsimp only at hJ4
  refine lv_iload hx hb d_M_linesOf_5 (lv_at hl 4 rfl) ?_
  refine lv_iload_n hx hb d_M_linesOf_7 rfl (lv_at hl 1 rfl) ?_
  refine lv_iload_n hx hb d_M_linesOf_8 rfl (lv_at hl 2 rfl) ?_
  refine lv_iadd hx hb d_M_linesOf_9 ?_
  refine lv_icmp_ge (tgt := 36) hx hb d_M_linesOf_10 (by decide) (fun h7 => ?_) (fun h7 => ?_)
  · have hm := it_t hm h7
    refine lv_iload_n hx hb d_M_linesOf_36 rfl (lv_at hl 3 rfl) ?_
    have he := (hR5 _ (Option.some.inj hm).symm)
    cases he
    exact rt_i hx hb hr hlk rfl hst rfl d_M_linesOf_37
  · have hm := it_f hm h7
    refine lv_iload_n hx hb d_M_linesOf_13 rfl (lv_at hl 3 rfl) ?_
    refine lv_aload_n hx hb d_M_linesOf_14 rfl (lv_at hl 0 rfl) ?_
    refine lv_iload hx hb d_M_linesOf_15 (lv_at hl 4 rfl) ?_
    obtain ⟨hn8, hm⟩ := gd_u hm
    refine ro_iald hx hb hg hst jp hsp hn8 d_M_linesOf_17 ?_
    refine lv_topi (fun x9 ex9 => ?_)
    have hm := lt_u hm x9 ex9
    refine lv_bipush (v := 10) hx hb d_M_linesOf_18 (by decide) ?_
    refine lv_icmp_ne (tgt := 27) hx hb d_M_linesOf_20 (by decide) (fun h10 => ?_) (fun h10 => ?_)
    · have hm := it_f hm h10
      refine lv_iconst (v := 0) hx hb d_M_linesOf_27 (by decide) ?_
      refine lv_iadd hx hb d_M_linesOf_28 ?_
      refine lv_topi (fun x11 ex11 => ?_)
      have hm := lt_u hm x11 ex11
      refine lv_istore_n (lv' := [(3, .int x11), (0, .ref (L jp)), (1, .int v1), (2, .int v2), (4, .int x2)]) hx hb d_M_linesOf_29 rfl hl (by decide) rfl (fun ls hl => ?_)
      refine lv_iinc (k := 4) (v := (x2 + 1)) (lv' := [(4, .int (x2 + 1)), (3, .int x11), (0, .ref (L jp)), (1, .int v1), (2, .int v2)]) hx hb d_M_linesOf_30 hl rfl (by rfl) (by decide) rfl (fun ls hl => ?_)
      refine lv_goto (tgt := 5) hx hb d_M_linesOf_33 (by decide) ?_
      exact hJ4 x11 (x2 + 1) (Option.some.inj hm).symm _ _ _ (lv_sub hl [2, 3, 4, 1, 0] rfl) hst
    · have hm := it_t hm h10
      refine lv_iconst (v := 1) hx hb d_M_linesOf_23 (by decide) ?_
      refine lv_goto (tgt := 28) hx hb d_M_linesOf_24 (by decide) ?_
      refine lv_iadd hx hb d_M_linesOf_28 ?_
      refine lv_topi (fun x12 ex12 => ?_)
      have hm := lt_u hm x12 ex12
      refine lv_istore_n (lv' := [(3, .int x12), (0, .ref (L jp)), (1, .int v1), (2, .int v2), (4, .int x2)]) hx hb d_M_linesOf_29 rfl hl (by decide) rfl (fun ls hl => ?_)
      refine lv_iinc (k := 4) (v := (x2 + 1)) (lv' := [(4, .int (x2 + 1)), (3, .int x12), (0, .ref (L jp)), (1, .int v1), (2, .int v2)]) hx hb d_M_linesOf_30 hl rfl (by rfl) (by decide) rfl (fun ls hl => ?_)
      refine lv_goto (tgt := 5) hx hb d_M_linesOf_33 (by decide) ?_
      exact hJ4 x12 (x2 + 1) (Option.some.inj hm).symm _ _ _ (lv_sub hl [2, 3, 4, 1, 0] rfl) hst
def mM_isBlank (n : Nat) (v0 : Int32) : Option (Int32) := if v0 = 32 then (some (1)) else (if v0 = 10 then (some (1)) else (some (0)))
theorem d_M_isBlank_0 : decode prog_11_method_6_code 0 = .ok (.iload_n 0, 1) := by decide +kernel
theorem d_M_isBlank_1 : decode prog_11_method_6_code 1 = .ok (.bipush 32, 2) := by decide +kernel
theorem d_M_isBlank_3 : decode prog_11_method_6_code 3 = .ok (.if_icmp .eq 9, 3) := by decide +kernel
theorem d_M_isBlank_6 : decode prog_11_method_6_code 6 = .ok (.iload_n 0, 1) := by decide +kernel
theorem d_M_isBlank_7 : decode prog_11_method_6_code 7 = .ok (.bipush 10, 2) := by decide +kernel
theorem d_M_isBlank_9 : decode prog_11_method_6_code 9 = .ok (.if_icmp .ne 7, 3) := by decide +kernel
theorem d_M_isBlank_12 : decode prog_11_method_6_code 12 = .ok (.iconst 1, 1) := by decide +kernel
theorem d_M_isBlank_13 : decode prog_11_method_6_code 13 = .ok (.goto 4, 3) := by decide +kernel
theorem d_M_isBlank_16 : decode prog_11_method_6_code 16 = .ok (.iconst 0, 1) := by decide +kernel
theorem d_M_isBlank_17 : decode prog_11_method_6_code 17 = .ok (.ireturn, 1) := by decide +kernel
set_option maxHeartbeats 4000000 in
set_option maxRecDepth 100000 in
theorem cM_isBlank (l : Launch) (dC : Nat → ClassId) (dI : Nat → Nat → Nat) (tk : Nat → ClassId) (A : Nat → Prop) (ws : va_W) (n : Nat) (v0 : Int32) (r0 : Int32) (hm : mM_isBlank n v0 = some r0) : CtI l dC dI tk A ⟨"EditorServerModel", "isBlank", "(I)Z"⟩ prog_11_method_6_code 1 (some .boolean) 0 0 [.int v0] ws r0 ws := by
  refine ent (by decide) (by decide) ?_
  intro p e s m args below meth c hx hb hr hml hown hlk hG hg hst ls hl
  unfold mM_isBlank at hm
  have hl : lv_has ls 1 [(0, .int v0)] := hl
  refine lv_iload_n hx hb d_M_isBlank_0 rfl (lv_at hl 0 rfl) ?_
  refine lv_bipush (v := 32) hx hb d_M_isBlank_1 (by decide) ?_
  refine lv_icmp_eq (tgt := 12) hx hb d_M_isBlank_3 (by decide) (fun h1 => ?_) (fun h1 => ?_)
  · have hm := it_t hm h1
    refine lv_iconst (v := 1) hx hb d_M_isBlank_12 (by decide) ?_
    refine lv_goto (tgt := 17) hx hb d_M_isBlank_13 (by decide) ?_
    have he := (Option.some.inj hm)
    cases he
    exact rt_i hx hb hr hlk (by decide) hst rfl d_M_isBlank_17
  · have hm := it_f hm h1
    refine lv_iload_n hx hb d_M_isBlank_6 rfl (lv_at hl 0 rfl) ?_
    refine lv_bipush (v := 10) hx hb d_M_isBlank_7 (by decide) ?_
    refine lv_icmp_ne (tgt := 16) hx hb d_M_isBlank_9 (by decide) (fun h2 => ?_) (fun h2 => ?_)
    · have hm := it_f hm h2
      refine lv_iconst (v := 0) hx hb d_M_isBlank_16 (by decide) ?_
      have he := (Option.some.inj hm)
      cases he
      exact rt_i hx hb hr hlk (by decide) hst rfl d_M_isBlank_17
    · have hm := it_t hm h2
      refine lv_iconst (v := 1) hx hb d_M_isBlank_12 (by decide) ?_
      refine lv_goto (tgt := 17) hx hb d_M_isBlank_13 (by decide) ?_
      have he := (Option.some.inj hm)
      cases he
      exact rt_i hx hb hr hlk (by decide) hst rfl d_M_isBlank_17
def mM_peek (n : Nat) (g : aG) (a : aA) : Option (Int32) := if (g 6) ≤ (g 20) then (some (0)) else (gd (inb (g 20) 200) (lt (a 0 (g 20).toNatClampNeg) (fun x3 => some (x3))))
theorem d_M_peek_0 : decode prog_11_method_7_code 0 = .ok (.aload_n 0, 1) := by decide +kernel
theorem d_M_peek_1 : decode prog_11_method_7_code 1 = .ok (.getfield 121, 3) := by decide +kernel
theorem d_M_peek_4 : decode prog_11_method_7_code 4 = .ok (.aload_n 0, 1) := by decide +kernel
theorem d_M_peek_5 : decode prog_11_method_7_code 5 = .ok (.getfield 109, 3) := by decide +kernel
theorem d_M_peek_8 : decode prog_11_method_7_code 8 = .ok (.if_icmp .ge 15, 3) := by decide +kernel
theorem d_M_peek_11 : decode prog_11_method_7_code 11 = .ok (.aload_n 0, 1) := by decide +kernel
theorem d_M_peek_12 : decode prog_11_method_7_code 12 = .ok (.getfield 7, 3) := by decide +kernel
theorem d_M_peek_15 : decode prog_11_method_7_code 15 = .ok (.aload_n 0, 1) := by decide +kernel
theorem d_M_peek_16 : decode prog_11_method_7_code 16 = .ok (.getfield 121, 3) := by decide +kernel
theorem d_M_peek_19 : decode prog_11_method_7_code 19 = .ok (.iaload, 1) := by decide +kernel
theorem d_M_peek_20 : decode prog_11_method_7_code 20 = .ok (.goto 4, 3) := by decide +kernel
theorem d_M_peek_23 : decode prog_11_method_7_code 23 = .ok (.iconst 0, 1) := by decide +kernel
theorem d_M_peek_24 : decode prog_11_method_7_code 24 = .ok (.ireturn, 1) := by decide +kernel
set_option maxHeartbeats 4000000 in
set_option maxRecDepth 100000 in
theorem cM_peek (l : Launch) (dC : Nat → ClassId) (dI : Nat → Nat → Nat) (tk : Nat → ClassId) (A : Nat → Prop) (h : Nat) (L : Nat → Nat) (g : aG) (a : aA) (rw : va_W) (n : Nat) (r0 : Int32) (hm : mM_peek n g a = some r0) : CtI l dC dI tk A ⟨"EditorServerModel", "peek", "()I"⟩ prog_11_method_7_code 1 (some .int) 0 0 [.ref h] (oW 0 h ksM spM tk L g a rw) r0 (oW 0 h ksM spM tk L g a rw) := by
  refine ent (by decide) (by decide) ?_
  intro p e s m args below meth c hx hb hr hml hown hlk hG hg hst ls hl
  unfold mM_peek at hm
  have hl : lv_has ls 1 [(0, .ref h)] := hl
  refine lv_aload_n hx hb d_M_peek_0 rfl (lv_at hl 0 rfl) ?_
  refine ro_geti hx hb hown hG hg cM hst 20 (by decide) rfl rfl k_1034 d_M_peek_1 ?_
  refine lv_aload_n hx hb d_M_peek_4 rfl (lv_at hl 0 rfl) ?_
  refine ro_geti hx hb hown hG hg cM hst 6 (by decide) rfl rfl k_1020 d_M_peek_5 ?_
  refine lv_icmp_ge (tgt := 23) hx hb d_M_peek_8 (by decide) (fun h1 => ?_) (fun h1 => ?_)
  · have hm := it_t hm h1
    refine lv_iconst (v := 0) hx hb d_M_peek_23 (by decide) ?_
    have he := (Option.some.inj hm)
    cases he
    exact rt_i hx hb hr hlk rfl hst rfl d_M_peek_24
  · have hm := it_f hm h1
    refine lv_aload_n hx hb d_M_peek_11 rfl (lv_at hl 0 rfl) ?_
    refine ro_geta hx hb hown hG hg cM hst 7 0 (by decide) rfl rfl k_1021 d_M_peek_12 ?_
    refine lv_aload_n hx hb d_M_peek_15 rfl (lv_at hl 0 rfl) ?_
    refine ro_geti hx hb hown hG hg cM hst 20 (by decide) rfl rfl k_1034 d_M_peek_16 ?_
    obtain ⟨hn2, hm⟩ := gd_u hm
    refine ro_iald hx hb hg hst 0 rfl hn2 d_M_peek_19 ?_
    refine lv_topi (fun x3 ex3 => ?_)
    have hm := lt_u hm x3 ex3
    refine lv_goto (tgt := 24) hx hb d_M_peek_20 (by decide) ?_
    have he := (Option.some.inj hm)
    cases he
    exact rt_i hx hb hr hlk rfl hst rfl d_M_peek_24
def mM_string (n : Nat) (g : aG) (a : aA) : Option (Int32 × aG × aA) := lt (va_up g 20 ((g 20) + 1)) (fun g1 => jn (α := aG × aA) (lp (ε := aG × aA) (fun q11 => if (q11.1 6) ≤ (q11.1 20) then (some (.inr (.inl (q11.1, q11.2)))) else (gd (inb (q11.1 20) 200) (lt (q11.2 0 (q11.1 20).toNatClampNeg) (fun x17 => if x17 = 34 then (some (.inr (.inl (q11.1, q11.2)))) else (gd (inb (q11.1 20) 200) (lt (q11.2 0 (q11.1 20).toNatClampNeg) (fun x20 => if x20 < 32 then (some (.inr (.inr ((0, q11.1, q11.2))))) else (if x20 ≤ 126 then (jn (α := Int32 × aG) (if x20 = 92 then (lt (va_up q11.1 20 ((q11.1 20) + 1)) (fun g33 => bd (mM_peek n g33 q11.2) (fun x35 => jn (α := Int32) (if x35 = 110 then (some (.inl 10)) else (some (.inl x35))) (fun x39 => if x35 = 34 then (some (.inl (x39, g33))) else (if x35 = 92 then (some (.inl (x39, g33))) else (if x35 = 110 then (some (.inl (x39, g33))) else (some (.inr (.inr (.inr ((0, g33, q11.2)))))))))))) else (some (.inl (x20, q11.1)))) (fun q27 => gd (inb (q27.2 17) 201) (lt (va_up q11.2 8 (upd (q11.2 8) (q27.2 17).toNatClampNeg q27.1)) (fun a29 => lt (va_up q27.2 17 ((q27.2 17) + 1)) (fun g30 => lt (va_up g30 20 ((g30 20) + 1)) (fun g31 => some (.inl (g31, a29)))))))) else (some (.inr (.inr ((0, q11.1, q11.2))))))))))))) n (g1, a)) (fun q6 => lt (va_up q6.1 20 ((q6.1 20) + 1)) (fun g7 => if (g7 6) < (g7 20) then (some ((0, g7, q6.2))) else (some ((1, g7, q6.2))))))
theorem d_M_string_0 : decode prog_11_method_16_code 0 = .ok (.aload_n 0, 1) := by decide +kernel
theorem d_M_string_1 : decode prog_11_method_16_code 1 = .ok (.dup, 1) := by decide +kernel
theorem d_M_string_2 : decode prog_11_method_16_code 2 = .ok (.getfield 121, 3) := by decide +kernel
theorem d_M_string_5 : decode prog_11_method_16_code 5 = .ok (.iconst 1, 1) := by decide +kernel
theorem d_M_string_6 : decode prog_11_method_16_code 6 = .ok (.iadd, 1) := by decide +kernel
theorem d_M_string_7 : decode prog_11_method_16_code 7 = .ok (.putfield 121, 3) := by decide +kernel
theorem d_M_string_10 : decode prog_11_method_16_code 10 = .ok (.aload_n 0, 1) := by decide +kernel
theorem d_M_string_11 : decode prog_11_method_16_code 11 = .ok (.getfield 121, 3) := by decide +kernel
theorem d_M_string_14 : decode prog_11_method_16_code 14 = .ok (.aload_n 0, 1) := by decide +kernel
theorem d_M_string_15 : decode prog_11_method_16_code 15 = .ok (.getfield 109, 3) := by decide +kernel
theorem d_M_string_18 : decode prog_11_method_16_code 18 = .ok (.if_icmp .ge 128, 3) := by decide +kernel
theorem d_M_string_21 : decode prog_11_method_16_code 21 = .ok (.aload_n 0, 1) := by decide +kernel
theorem d_M_string_22 : decode prog_11_method_16_code 22 = .ok (.getfield 7, 3) := by decide +kernel
theorem d_M_string_25 : decode prog_11_method_16_code 25 = .ok (.aload_n 0, 1) := by decide +kernel
theorem d_M_string_26 : decode prog_11_method_16_code 26 = .ok (.getfield 121, 3) := by decide +kernel
theorem d_M_string_29 : decode prog_11_method_16_code 29 = .ok (.iaload, 1) := by decide +kernel
theorem d_M_string_30 : decode prog_11_method_16_code 30 = .ok (.bipush 34, 2) := by decide +kernel
theorem d_M_string_32 : decode prog_11_method_16_code 32 = .ok (.if_icmp .eq 114, 3) := by decide +kernel
theorem d_M_string_35 : decode prog_11_method_16_code 35 = .ok (.aload_n 0, 1) := by decide +kernel
theorem d_M_string_36 : decode prog_11_method_16_code 36 = .ok (.getfield 7, 3) := by decide +kernel
theorem d_M_string_39 : decode prog_11_method_16_code 39 = .ok (.aload_n 0, 1) := by decide +kernel
theorem d_M_string_40 : decode prog_11_method_16_code 40 = .ok (.getfield 121, 3) := by decide +kernel
theorem d_M_string_43 : decode prog_11_method_16_code 43 = .ok (.iaload, 1) := by decide +kernel
theorem d_M_string_44 : decode prog_11_method_16_code 44 = .ok (.istore_n 1, 1) := by decide +kernel
theorem d_M_string_45 : decode prog_11_method_16_code 45 = .ok (.iload_n 1, 1) := by decide +kernel
theorem d_M_string_46 : decode prog_11_method_16_code 46 = .ok (.bipush 32, 2) := by decide +kernel
theorem d_M_string_48 : decode prog_11_method_16_code 48 = .ok (.if_icmp .lt 9, 3) := by decide +kernel
theorem d_M_string_51 : decode prog_11_method_16_code 51 = .ok (.iload_n 1, 1) := by decide +kernel
theorem d_M_string_52 : decode prog_11_method_16_code 52 = .ok (.bipush 126, 2) := by decide +kernel
theorem d_M_string_54 : decode prog_11_method_16_code 54 = .ok (.if_icmp .le 5, 3) := by decide +kernel
theorem d_M_string_57 : decode prog_11_method_16_code 57 = .ok (.iconst 0, 1) := by decide +kernel
theorem d_M_string_58 : decode prog_11_method_16_code 58 = .ok (.ireturn, 1) := by decide +kernel
theorem d_M_string_59 : decode prog_11_method_16_code 59 = .ok (.iload_n 1, 1) := by decide +kernel
theorem d_M_string_60 : decode prog_11_method_16_code 60 = .ok (.bipush 92, 2) := by decide +kernel
theorem d_M_string_62 : decode prog_11_method_16_code 62 = .ok (.if_icmp .ne 51, 3) := by decide +kernel
theorem d_M_string_65 : decode prog_11_method_16_code 65 = .ok (.aload_n 0, 1) := by decide +kernel
theorem d_M_string_66 : decode prog_11_method_16_code 66 = .ok (.dup, 1) := by decide +kernel
theorem d_M_string_67 : decode prog_11_method_16_code 67 = .ok (.getfield 121, 3) := by decide +kernel
theorem d_M_string_70 : decode prog_11_method_16_code 70 = .ok (.iconst 1, 1) := by decide +kernel
theorem d_M_string_71 : decode prog_11_method_16_code 71 = .ok (.iadd, 1) := by decide +kernel
theorem d_M_string_72 : decode prog_11_method_16_code 72 = .ok (.putfield 121, 3) := by decide +kernel
theorem d_M_string_75 : decode prog_11_method_16_code 75 = .ok (.aload_n 0, 1) := by decide +kernel
theorem d_M_string_76 : decode prog_11_method_16_code 76 = .ok (.invokevirtual 140, 3) := by decide +kernel
theorem d_M_string_79 : decode prog_11_method_16_code 79 = .ok (.istore_n 2, 1) := by decide +kernel
theorem d_M_string_80 : decode prog_11_method_16_code 80 = .ok (.iload_n 2, 1) := by decide +kernel
theorem d_M_string_81 : decode prog_11_method_16_code 81 = .ok (.bipush 110, 2) := by decide +kernel
theorem d_M_string_83 : decode prog_11_method_16_code 83 = .ok (.if_icmp .ne 8, 3) := by decide +kernel
theorem d_M_string_86 : decode prog_11_method_16_code 86 = .ok (.bipush 10, 2) := by decide +kernel
theorem d_M_string_88 : decode prog_11_method_16_code 88 = .ok (.goto 4, 3) := by decide +kernel
theorem d_M_string_91 : decode prog_11_method_16_code 91 = .ok (.iload_n 2, 1) := by decide +kernel
theorem d_M_string_92 : decode prog_11_method_16_code 92 = .ok (.istore_n 1, 1) := by decide +kernel
theorem d_M_string_93 : decode prog_11_method_16_code 93 = .ok (.iload_n 2, 1) := by decide +kernel
theorem d_M_string_94 : decode prog_11_method_16_code 94 = .ok (.bipush 34, 2) := by decide +kernel
theorem d_M_string_96 : decode prog_11_method_16_code 96 = .ok (.if_icmp .eq 17, 3) := by decide +kernel
theorem d_M_string_99 : decode prog_11_method_16_code 99 = .ok (.iload_n 2, 1) := by decide +kernel
theorem d_M_string_100 : decode prog_11_method_16_code 100 = .ok (.bipush 92, 2) := by decide +kernel
theorem d_M_string_102 : decode prog_11_method_16_code 102 = .ok (.if_icmp .eq 11, 3) := by decide +kernel
theorem d_M_string_105 : decode prog_11_method_16_code 105 = .ok (.iload_n 2, 1) := by decide +kernel
theorem d_M_string_106 : decode prog_11_method_16_code 106 = .ok (.bipush 110, 2) := by decide +kernel
theorem d_M_string_108 : decode prog_11_method_16_code 108 = .ok (.if_icmp .eq 5, 3) := by decide +kernel
theorem d_M_string_111 : decode prog_11_method_16_code 111 = .ok (.iconst 0, 1) := by decide +kernel
theorem d_M_string_112 : decode prog_11_method_16_code 112 = .ok (.ireturn, 1) := by decide +kernel
theorem d_M_string_113 : decode prog_11_method_16_code 113 = .ok (.aload_n 0, 1) := by decide +kernel
theorem d_M_string_114 : decode prog_11_method_16_code 114 = .ok (.getfield 34, 3) := by decide +kernel
theorem d_M_string_117 : decode prog_11_method_16_code 117 = .ok (.aload_n 0, 1) := by decide +kernel
theorem d_M_string_118 : decode prog_11_method_16_code 118 = .ok (.getfield 127, 3) := by decide +kernel
theorem d_M_string_121 : decode prog_11_method_16_code 121 = .ok (.iload_n 1, 1) := by decide +kernel
theorem d_M_string_122 : decode prog_11_method_16_code 122 = .ok (.iastore, 1) := by decide +kernel
theorem d_M_string_123 : decode prog_11_method_16_code 123 = .ok (.aload_n 0, 1) := by decide +kernel
theorem d_M_string_124 : decode prog_11_method_16_code 124 = .ok (.dup, 1) := by decide +kernel
theorem d_M_string_125 : decode prog_11_method_16_code 125 = .ok (.getfield 127, 3) := by decide +kernel
theorem d_M_string_128 : decode prog_11_method_16_code 128 = .ok (.iconst 1, 1) := by decide +kernel
theorem d_M_string_129 : decode prog_11_method_16_code 129 = .ok (.iadd, 1) := by decide +kernel
theorem d_M_string_130 : decode prog_11_method_16_code 130 = .ok (.putfield 127, 3) := by decide +kernel
theorem d_M_string_133 : decode prog_11_method_16_code 133 = .ok (.aload_n 0, 1) := by decide +kernel
theorem d_M_string_134 : decode prog_11_method_16_code 134 = .ok (.dup, 1) := by decide +kernel
theorem d_M_string_135 : decode prog_11_method_16_code 135 = .ok (.getfield 121, 3) := by decide +kernel
theorem d_M_string_138 : decode prog_11_method_16_code 138 = .ok (.iconst 1, 1) := by decide +kernel
theorem d_M_string_139 : decode prog_11_method_16_code 139 = .ok (.iadd, 1) := by decide +kernel
theorem d_M_string_140 : decode prog_11_method_16_code 140 = .ok (.putfield 121, 3) := by decide +kernel
theorem d_M_string_143 : decode prog_11_method_16_code 143 = .ok (.goto (-133), 3) := by decide +kernel
theorem d_M_string_146 : decode prog_11_method_16_code 146 = .ok (.aload_n 0, 1) := by decide +kernel
theorem d_M_string_147 : decode prog_11_method_16_code 147 = .ok (.dup, 1) := by decide +kernel
theorem d_M_string_148 : decode prog_11_method_16_code 148 = .ok (.getfield 121, 3) := by decide +kernel
theorem d_M_string_151 : decode prog_11_method_16_code 151 = .ok (.iconst 1, 1) := by decide +kernel
theorem d_M_string_152 : decode prog_11_method_16_code 152 = .ok (.iadd, 1) := by decide +kernel
theorem d_M_string_153 : decode prog_11_method_16_code 153 = .ok (.putfield 121, 3) := by decide +kernel
theorem d_M_string_156 : decode prog_11_method_16_code 156 = .ok (.aload_n 0, 1) := by decide +kernel
theorem d_M_string_157 : decode prog_11_method_16_code 157 = .ok (.getfield 121, 3) := by decide +kernel
theorem d_M_string_160 : decode prog_11_method_16_code 160 = .ok (.aload_n 0, 1) := by decide +kernel
theorem d_M_string_161 : decode prog_11_method_16_code 161 = .ok (.getfield 109, 3) := by decide +kernel
theorem d_M_string_164 : decode prog_11_method_16_code 164 = .ok (.if_icmp .gt 7, 3) := by decide +kernel
theorem d_M_string_167 : decode prog_11_method_16_code 167 = .ok (.iconst 1, 1) := by decide +kernel
theorem d_M_string_168 : decode prog_11_method_16_code 168 = .ok (.goto 4, 3) := by decide +kernel
theorem d_M_string_171 : decode prog_11_method_16_code 171 = .ok (.iconst 0, 1) := by decide +kernel
theorem d_M_string_172 : decode prog_11_method_16_code 172 = .ok (.ireturn, 1) := by decide +kernel
set_option maxHeartbeats 4000000 in
set_option maxRecDepth 100000 in
theorem cM_string (l : Launch) (dC : Nat → ClassId) (dI : Nat → Nat → Nat) (tk : Nat → ClassId) (A : Nat → Prop) (h : Nat) (L : Nat → Nat) (g : aG) (a : aA) (rw : va_W) (n : Nat) (r0 : Int32) (g0 : aG) (a0 : aA) (hm : mM_string n g a = some (r0, g0, a0)) : CtI l dC dI tk A ⟨"EditorServerModel", "string", "()Z"⟩ prog_11_method_16_code 3 (some .boolean) 1 20 [.ref h] (oW 0 h ksM spM tk L g a rw) r0 (oW 0 h ksM spM tk L g0 a0 rw) := by
  refine ent (by decide) (by decide) ?_
  intro p e s m args below meth c hx hb hr hml hown hlk hG hg hst ls hl
  unfold mM_string at hm
  have hl : lv_has ls 3 [(0, .ref h)] := hl
  refine lv_aload_n hx hb d_M_string_0 rfl (lv_at hl 0 rfl) ?_
  refine lv_dup hx hb d_M_string_1 rfl ?_
  refine ro_geti hx hb hown hG hg cM hst 20 (by decide) rfl rfl k_1034 d_M_string_2 ?_
  refine lv_iconst (v := 1) hx hb d_M_string_5 (by decide) ?_
  refine lv_iadd hx hb d_M_string_6 ?_
  refine ro_puti hx hb hown hG hg cM hst 20 (by decide) rfl rfl rfl rfl rfl k_1034 d_M_string_7 (fun g1 H locs eg1 hst => ?_)
  have hm := lt_u hm g1 eg1
  obtain ⟨qJ2, hm, hLJ2, hR3⟩ := jn_u hm
  have hJ2 : ∀ (g4 : aG) (a5 : aA), qJ2 = .inl (g4, a5) → ∀ (H : Heap) (locs : List Loc) (ls : Array Slot), lv_has ls 3 [(0, .ref h)] → St dC dI A s.heap H locs (oW 0 h ksM spM tk L g4 a5 rw) → W p l e (rmo 1 20) s m args below meth c H locs 0 0 (MQ below (QI dC dI A r0 (oW 0 h ksM spM tk L g0 a0 rw)) args s 0 0 A) (F0 m 146 ls []) := by
    intro g4 a5 hq H locs ls hl hst
    have hm := hLJ2 _ hq
    dsimp only at hm
    refine lv_aload_n hx hb d_M_string_146 rfl (lv_at hl 0 rfl) ?_
    refine lv_dup hx hb d_M_string_147 rfl ?_
    refine ro_geti hx hb hown hG hg cM hst 20 (by decide) rfl rfl k_1034 d_M_string_148 ?_
    refine lv_iconst (v := 1) hx hb d_M_string_151 (by decide) ?_
    refine lv_iadd hx hb d_M_string_152 ?_
    refine ro_puti hx hb hown hG hg cM hst 20 (by decide) rfl rfl rfl rfl rfl k_1034 d_M_string_153 (fun g7 H locs eg7 hst => ?_)
    have hm := lt_u hm g7 eg7
    refine lv_aload_n hx hb d_M_string_156 rfl (lv_at hl 0 rfl) ?_
    refine ro_geti hx hb hown hG hg cM hst 20 (by decide) rfl rfl k_1034 d_M_string_157 ?_
    refine lv_aload_n hx hb d_M_string_160 rfl (lv_at hl 0 rfl) ?_
    refine ro_geti hx hb hown hG hg cM hst 6 (by decide) rfl rfl k_1020 d_M_string_161 ?_
    refine lv_icmp_gt (tgt := 171) hx hb d_M_string_164 (by decide) (fun h8 => ?_) (fun h8 => ?_)
    · have hm := it_t hm h8
      refine lv_iconst (v := 0) hx hb d_M_string_171 (by decide) ?_
      have he := (Option.some.inj hm)
      cases he
      exact rt_i hx hb hr hlk (by decide) hst rfl d_M_string_172
    · have hm := it_f hm h8
      refine lv_iconst (v := 1) hx hb d_M_string_167 (by decide) ?_
      refine lv_goto (tgt := 172) hx hb d_M_string_168 (by decide) ?_
      have he := (Option.some.inj hm)
      cases he
      exact rt_i hx hb hr hlk (by decide) hst rfl d_M_string_172
  refine lp_u (fun q11 : aG × aA => ∀ (H : Heap) (locs : List Loc) (ls : Array Slot), lv_has ls 3 [(0, .ref h)] → St dC dI A s.heap H locs (oW 0 h ksM spM tk L q11.1 q11.2 rw) → W p l e (rmo 1 20) s m args below meth c H locs 0 0 (MQ below (QI dC dI A r0 (oW 0 h ksM spM tk L g0 a0 rw)) args s 0 0 A) (F0 m 10 ls [])) ?_ n (g1, a) hm _ _ _ (lv_sub hl [0] rfl) hst
  rintro ⟨g9, a10⟩ r14 hm hJ120 hR13 H locs ls hl hst
  dsimp only at hm hl hst ⊢
  have hJ12 := fun y0 y1 (e : r14 = .inl (y0, y1)) => hJ120 (y0, y1) e
  dsimp only at hJ12
  refine lv_aload_n hx hb d_M_string_10 rfl (lv_at hl 0 rfl) ?_
  refine ro_geti hx hb hown hG hg cM hst 20 (by decide) rfl rfl k_1034 d_M_string_11 ?_
  refine lv_aload_n hx hb d_M_string_14 rfl (lv_at hl 0 rfl) ?_
  refine ro_geti hx hb hown hG hg cM hst 6 (by decide) rfl rfl k_1020 d_M_string_15 ?_
  refine lv_icmp_ge (tgt := 146) hx hb d_M_string_18 (by decide) (fun h15 => ?_) (fun h15 => ?_)
  · have hm := it_t hm h15
    exact hJ2 g9 a10 (hR13 _ (Option.some.inj hm).symm).symm _ _ _ (lv_sub hl [0] rfl) hst
  · have hm := it_f hm h15
    refine lv_aload_n hx hb d_M_string_21 rfl (lv_at hl 0 rfl) ?_
    refine ro_geta hx hb hown hG hg cM hst 7 0 (by decide) rfl rfl k_1021 d_M_string_22 ?_
    refine lv_aload_n hx hb d_M_string_25 rfl (lv_at hl 0 rfl) ?_
    refine ro_geti hx hb hown hG hg cM hst 20 (by decide) rfl rfl k_1034 d_M_string_26 ?_
    obtain ⟨hn16, hm⟩ := gd_u hm
    refine ro_iald hx hb hg hst 0 rfl hn16 d_M_string_29 ?_
    refine lv_topi (fun x17 ex17 => ?_)
    have hm := lt_u hm x17 ex17
    refine lv_bipush (v := 34) hx hb d_M_string_30 (by decide) ?_
    refine lv_icmp_eq (tgt := 146) hx hb d_M_string_32 (by decide) (fun h18 => ?_) (fun h18 => ?_)
    · have hm := it_t hm h18
      exact hJ2 g9 a10 (hR13 _ (Option.some.inj hm).symm).symm _ _ _ (lv_sub hl [0] rfl) hst
    · have hm := it_f hm h18
      refine lv_aload_n hx hb d_M_string_35 rfl (lv_at hl 0 rfl) ?_
      refine ro_geta hx hb hown hG hg cM hst 7 0 (by decide) rfl rfl k_1021 d_M_string_36 ?_
      refine lv_aload_n hx hb d_M_string_39 rfl (lv_at hl 0 rfl) ?_
      refine ro_geti hx hb hown hG hg cM hst 20 (by decide) rfl rfl k_1034 d_M_string_40 ?_
      obtain ⟨hn19, hm⟩ := gd_u hm
      refine ro_iald hx hb hg hst 0 rfl hn19 d_M_string_43 ?_
      refine lv_topi (fun x20 ex20 => ?_)
      have hm := lt_u hm x20 ex20
      refine lv_istore_n (lv' := [(1, .int x20), (0, .ref h)]) hx hb d_M_string_44 rfl hl (by decide) rfl (fun ls hl => ?_)
      refine lv_iload_n hx hb d_M_string_45 rfl (lv_at hl 0 rfl) ?_
      refine lv_bipush (v := 32) hx hb d_M_string_46 (by decide) ?_
      refine lv_icmp_lt (tgt := 57) hx hb d_M_string_48 (by decide) (fun h21 => ?_) (fun h21 => ?_)
      · have hm := it_t hm h21
        refine lv_iconst (v := 0) hx hb d_M_string_57 (by decide) ?_
        have he := (hR3 _ (hR13 _ (Option.some.inj hm).symm).symm)
        cases he
        exact rt_i hx hb hr hlk (by decide) hst rfl d_M_string_58
      · have hm := it_f hm h21
        refine lv_iload_n hx hb d_M_string_51 rfl (lv_at hl 0 rfl) ?_
        refine lv_bipush (v := 126) hx hb d_M_string_52 (by decide) ?_
        refine lv_icmp_le (tgt := 59) hx hb d_M_string_54 (by decide) (fun h22 => ?_) (fun h22 => ?_)
        · have hm := it_t hm h22
          refine lv_iload_n hx hb d_M_string_59 rfl (lv_at hl 0 rfl) ?_
          refine lv_bipush (v := 92) hx hb d_M_string_60 (by decide) ?_
          obtain ⟨qJ23, hm, hLJ23, hR24⟩ := jn_u hm
          have hJ23 : ∀ (x25 : Int32) (g26 : aG), qJ23 = .inl (x25, g26) → ∀ (H : Heap) (locs : List Loc) (ls : Array Slot), lv_has ls 3 [(0, .ref h), (1, .int x25)] → St dC dI A s.heap H locs (oW 0 h ksM spM tk L g26 a10 rw) → W p l e (rmo 1 20) s m args below meth c H locs 0 0 (MQ below (QI dC dI A r0 (oW 0 h ksM spM tk L g0 a0 rw)) args s 0 0 A) (F0 m 113 ls []) := by
            intro x25 g26 hq H locs ls hl hst
            have hm := hLJ23 _ hq
            dsimp only at hm
            refine lv_aload_n hx hb d_M_string_113 rfl (lv_at hl 0 rfl) ?_
            refine ro_geta hx hb hown hG hg cM hst 16 8 (by decide) rfl rfl k_1030 d_M_string_114 ?_
            refine lv_aload_n hx hb d_M_string_117 rfl (lv_at hl 0 rfl) ?_
            refine ro_geti hx hb hown hG hg cM hst 17 (by decide) rfl rfl k_1031 d_M_string_118 ?_
            refine lv_iload_n hx hb d_M_string_121 rfl (lv_at hl 1 rfl) ?_
            obtain ⟨hn28, hm⟩ := gd_u hm
            refine ro_iast hx hb hg hst 8 rfl hn28 d_M_string_122 (fun a29 H locs ea29 hst => ?_)
            have hm := lt_u hm a29 ea29
            refine lv_aload_n hx hb d_M_string_123 rfl (lv_at hl 0 rfl) ?_
            refine lv_dup hx hb d_M_string_124 rfl ?_
            refine ro_geti hx hb hown hG hg cM hst 17 (by decide) rfl rfl k_1031 d_M_string_125 ?_
            refine lv_iconst (v := 1) hx hb d_M_string_128 (by decide) ?_
            refine lv_iadd hx hb d_M_string_129 ?_
            refine ro_puti hx hb hown hG hg cM hst 17 (by decide) rfl rfl rfl rfl rfl k_1031 d_M_string_130 (fun g30 H locs eg30 hst => ?_)
            have hm := lt_u hm g30 eg30
            refine lv_aload_n hx hb d_M_string_133 rfl (lv_at hl 0 rfl) ?_
            refine lv_dup hx hb d_M_string_134 rfl ?_
            refine ro_geti hx hb hown hG hg cM hst 20 (by decide) rfl rfl k_1034 d_M_string_135 ?_
            refine lv_iconst (v := 1) hx hb d_M_string_138 (by decide) ?_
            refine lv_iadd hx hb d_M_string_139 ?_
            refine ro_puti hx hb hown hG hg cM hst 20 (by decide) rfl rfl rfl rfl rfl k_1034 d_M_string_140 (fun g31 H locs eg31 hst => ?_)
            have hm := lt_u hm g31 eg31
            refine lv_goto (tgt := 10) hx hb d_M_string_143 (by decide) ?_
            exact hJ12 g31 a29 (Option.some.inj hm).symm _ _ _ (lv_sub hl [0] rfl) hst
          refine lv_icmp_ne (tgt := 113) hx hb d_M_string_62 (by decide) (fun h32 => ?_) (fun h32 => ?_)
          · have hm := it_f hm h32
            exact hJ23 x20 g9 (Option.some.inj hm).symm _ _ _ (lv_sub hl [1, 0] rfl) hst
          · have hm := it_t hm h32
            refine lv_aload_n hx hb d_M_string_65 rfl (lv_at hl 1 rfl) ?_
            refine lv_dup hx hb d_M_string_66 rfl ?_
            refine ro_geti hx hb hown hG hg cM hst 20 (by decide) rfl rfl k_1034 d_M_string_67 ?_
            refine lv_iconst (v := 1) hx hb d_M_string_70 (by decide) ?_
            refine lv_iadd hx hb d_M_string_71 ?_
            refine ro_puti hx hb hown hG hg cM hst 20 (by decide) rfl rfl rfl rfl rfl k_1034 d_M_string_72 (fun g33 H locs eg33 hst => ?_)
            have hm := lt_u hm g33 eg33
            refine lv_aload_n hx hb d_M_string_75 rfl (lv_at hl 1 rfl) ?_
            obtain ⟨x35, hc36, hm⟩ := bd_u hm
            refine cl_vi hx hb hml hown hG hg (cM_peek l dC dI tk A h L g33 a10 rw n _ hc36) (cw_v 0 hG k_1176 k_1178 s_29 k_14 k_1179 (by decide +kernel) ⟨by decide, by decide⟩) hst rfl oW_0 rfl hl.1 rfl (by decide) ⟨Nat.le_refl 0, Nat.le_refl 0⟩ d_M_string_76 (fun H locs hst => ?_)
            refine lv_istore_n (lv' := [(2, .int x35), (1, .int x20), (0, .ref h)]) hx hb d_M_string_79 rfl hl (by decide) rfl (fun ls hl => ?_)
            refine lv_iload_n hx hb d_M_string_80 rfl (lv_at hl 0 rfl) ?_
            refine lv_bipush (v := 110) hx hb d_M_string_81 (by decide) ?_
            obtain ⟨qJ37, hm, hLJ37, hR38⟩ := jn_u hm
            have hJ37 : ∀ (x39 : Int32), qJ37 = .inl x39 → ∀ (H : Heap) (locs : List Loc) (ls : Array Slot), lv_has ls 3 [(0, .ref h), (1, .int x20), (2, .int x35)] → St dC dI A s.heap H locs (oW 0 h ksM spM tk L g33 a10 rw) → W p l e (rmo 1 20) s m args below meth c H locs 0 0 (MQ below (QI dC dI A r0 (oW 0 h ksM spM tk L g0 a0 rw)) args s 0 0 A) (F0 m 92 ls [.int x39]) := by
              intro x39 hq H locs ls hl hst
              have hm := hLJ37 _ hq
              refine lv_istore_n (lv' := [(1, .int x39), (0, .ref h), (2, .int x35)]) hx hb d_M_string_92 rfl hl (by decide) rfl (fun ls hl => ?_)
              refine lv_iload_n hx hb d_M_string_93 rfl (lv_at hl 2 rfl) ?_
              refine lv_bipush (v := 34) hx hb d_M_string_94 (by decide) ?_
              refine lv_icmp_eq (tgt := 113) hx hb d_M_string_96 (by decide) (fun h41 => ?_) (fun h41 => ?_)
              · have hm := it_t hm h41
                exact hJ23 x39 g33 (Option.some.inj hm).symm _ _ _ (lv_sub hl [1, 0] rfl) hst
              · have hm := it_f hm h41
                refine lv_iload_n hx hb d_M_string_99 rfl (lv_at hl 2 rfl) ?_
                refine lv_bipush (v := 92) hx hb d_M_string_100 (by decide) ?_
                refine lv_icmp_eq (tgt := 113) hx hb d_M_string_102 (by decide) (fun h42 => ?_) (fun h42 => ?_)
                · have hm := it_t hm h42
                  exact hJ23 x39 g33 (Option.some.inj hm).symm _ _ _ (lv_sub hl [1, 0] rfl) hst
                · have hm := it_f hm h42
                  refine lv_iload_n hx hb d_M_string_105 rfl (lv_at hl 2 rfl) ?_
                  refine lv_bipush (v := 110) hx hb d_M_string_106 (by decide) ?_
                  refine lv_icmp_eq (tgt := 113) hx hb d_M_string_108 (by decide) (fun h43 => ?_) (fun h43 => ?_)
                  · have hm := it_t hm h43
                    exact hJ23 x39 g33 (Option.some.inj hm).symm _ _ _ (lv_sub hl [1, 0] rfl) hst
                  · have hm := it_f hm h43
                    refine lv_iconst (v := 0) hx hb d_M_string_111 (by decide) ?_
                    have he := (hR3 _ (hR13 _ (hR24 _ (Option.some.inj hm).symm).symm).symm)
                    cases he
                    exact rt_i hx hb hr hlk (by decide) hst rfl d_M_string_112
            refine lv_icmp_ne (tgt := 91) hx hb d_M_string_83 (by decide) (fun h44 => ?_) (fun h44 => ?_)
            · have hm := it_f hm h44
              refine lv_iload_n hx hb d_M_string_91 rfl (lv_at hl 0 rfl) ?_
              exact hJ37 x35 (Option.some.inj hm).symm _ _ _ (lv_sub hl [2, 1, 0] rfl) hst
            · have hm := it_t hm h44
              refine lv_bipush (v := 10) hx hb d_M_string_86 (by decide) ?_
              refine lv_goto (tgt := 92) hx hb d_M_string_88 (by decide) ?_
              exact hJ37 10 (Option.some.inj hm).symm _ _ _ (lv_sub hl [2, 1, 0] rfl) hst
        · have hm := it_f hm h22
          refine lv_iconst (v := 0) hx hb d_M_string_57 (by decide) ?_
          have he := (hR3 _ (hR13 _ (Option.some.inj hm).symm).symm)
          cases he
          exact rt_i hx hb hr hlk (by decide) hst rfl d_M_string_58
