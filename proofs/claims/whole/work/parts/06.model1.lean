abbrev ksM : List (Option Nat) := [none, none, none, none, none, none, none, some 0, none, some 1, some 2, some 3, some 4, some 5, some 6, some 7, some 8, none, some 9, none, none, none, none, some 10, some 11, some 12, some 13, some 14, some 15, none, none, none, some 16, some 17, some 18, some 19, some 20, some 21, none, some 22, some 23, some 24, some 25, some 26, none, none]
abbrev spM : List (Nat × Nat) := [(0, 200), (0, 41), (0, 41), (0, 41), (0, 41), (0, 41), (0, 41), (0, 41), (0, 201), (0, 7), (0, 3), (0, 12), (0, 3), (0, 3), (0, 180), (0, 60), (0, 8), (0, 8), (0, 8), (0, 8), (0, 8), (0, 480), (0, 60), (2, 60), (2, 60), (0, 60), (0, 64)]
def mM_thrown (n : Nat) (g : aG) (a : aA) : Option (Int32) := some ((g 45))
theorem d_M_thrown_0 : decode prog_11_method_2_code 0 = .ok (.aload_n 0, 1) := by decide +kernel
theorem d_M_thrown_1 : decode prog_11_method_2_code 1 = .ok (.getfield 92, 3) := by decide +kernel
theorem d_M_thrown_4 : decode prog_11_method_2_code 4 = .ok (.ireturn, 1) := by decide +kernel
set_option maxHeartbeats 4000000 in
set_option maxRecDepth 100000 in
theorem cM_thrown (l : Launch) (dC : Nat → ClassId) (dI : Nat → Nat → Nat) (tk : Nat → ClassId) (A : Nat → Prop) (h : Nat) (L : Nat → Nat) (g : aG) (a : aA) (rw : va_W) (n : Nat) (r0 : Int32) (hm : mM_thrown n g a = some r0) : CtI l dC dI tk A ⟨"EditorServerModel", "thrown", "()I"⟩ prog_11_method_2_code 1 (some .int) 0 0 [.ref h] (oW 0 h ksM spM tk L g a rw) r0 (oW 0 h ksM spM tk L g a rw) := by
  refine ent (by decide) (Nat.le_of_ble_eq_true rfl) ?_
  intro p e s m args below meth c hx hb hr hml hown hlk hG hg hst ls hl
  unfold mM_thrown at hm
  have hl : lv_has ls 1 [(0, .ref h)] := hl
  refine lv_aload_n hx hb d_M_thrown_0 rfl (lv_at hl 0 rfl) ?_
  refine ro_geti hx hb hown hG hg cM hst 45 (by decide) rfl rfl k_1059 d_M_thrown_1 ?_
  have he := (Option.some.inj hm)
  cases he
  exact rt_i hx hb hr hlk rfl hst rfl d_M_thrown_4
def mM_fail (n : Nat) (v1 : Int32) (g : aG) (a : aA) : Option (Int32 × aG) := lt (va_up g 45 v1) (fun g1 => some ((0, g1)))
theorem d_M_fail_0 : decode prog_11_method_3_code 0 = .ok (.aload_n 0, 1) := by decide +kernel
theorem d_M_fail_1 : decode prog_11_method_3_code 1 = .ok (.iload_n 1, 1) := by decide +kernel
theorem d_M_fail_2 : decode prog_11_method_3_code 2 = .ok (.putfield 92, 3) := by decide +kernel
theorem d_M_fail_5 : decode prog_11_method_3_code 5 = .ok (.iconst 0, 1) := by decide +kernel
theorem d_M_fail_6 : decode prog_11_method_3_code 6 = .ok (.ireturn, 1) := by decide +kernel
set_option maxHeartbeats 4000000 in
set_option maxRecDepth 100000 in
theorem cM_fail (l : Launch) (dC : Nat → ClassId) (dI : Nat → Nat → Nat) (tk : Nat → ClassId) (A : Nat → Prop) (h : Nat) (L : Nat → Nat) (g : aG) (a : aA) (rw : va_W) (n : Nat) (v1 : Int32) (r0 : Int32) (g0 : aG) (hm : mM_fail n v1 g a = some (r0, g0)) : CtI l dC dI tk A ⟨"EditorServerModel", "fail", "(I)I"⟩ prog_11_method_3_code 2 (some .int) 0 0 [.ref h, .int v1] (oW 0 h ksM spM tk L g a rw) r0 (oW 0 h ksM spM tk L g0 a rw) := by
  refine ent (by decide) (Nat.le_of_ble_eq_true rfl) ?_
  intro p e s m args below meth c hx hb hr hml hown hlk hG hg hst ls hl
  unfold mM_fail at hm
  have hl : lv_has ls 2 [(0, .ref h), (1, .int v1)] := hl
  refine lv_aload_n hx hb d_M_fail_0 rfl (lv_at hl 0 rfl) ?_
  refine lv_iload_n hx hb d_M_fail_1 rfl (lv_at hl 1 rfl) ?_
  refine ro_puti hx hb hown hG hg cM hst 45 (by decide) rfl rfl rfl rfl rfl k_1059 d_M_fail_2 (fun g1 H locs eg1 hst => ?_)
  have hm := lt_u hm g1 eg1
  refine lv_iconst (v := 0) hx hb d_M_fail_5 (by decide) ?_
  have he := (Option.some.inj hm)
  cases he
  exact rt_i hx hb hr hlk rfl hst rfl d_M_fail_6
def mM_isSort (n : Nat) (v1 : Int32) (v2 : Int32) (g : aG) (a : aA) : Option (Int32) := if v1 < 0 then (some (0)) else (gd (inb v1 41) (lt (a 1 v1.toNatClampNeg) (fun x3 => if x3 = v2 then (some (1)) else (some (0)))))
theorem d_M_isSort_0 : decode prog_11_method_24_code 0 = .ok (.iload_n 1, 1) := by decide +kernel
theorem d_M_isSort_1 : decode prog_11_method_24_code 1 = .ok (.ifCond .lt 17, 3) := by decide +kernel
theorem d_M_isSort_4 : decode prog_11_method_24_code 4 = .ok (.aload_n 0, 1) := by decide +kernel
theorem d_M_isSort_5 : decode prog_11_method_24_code 5 = .ok (.getfield 13, 3) := by decide +kernel
theorem d_M_isSort_8 : decode prog_11_method_24_code 8 = .ok (.iload_n 1, 1) := by decide +kernel
theorem d_M_isSort_9 : decode prog_11_method_24_code 9 = .ok (.iaload, 1) := by decide +kernel
theorem d_M_isSort_10 : decode prog_11_method_24_code 10 = .ok (.iload_n 2, 1) := by decide +kernel
theorem d_M_isSort_11 : decode prog_11_method_24_code 11 = .ok (.if_icmp .ne 7, 3) := by decide +kernel
theorem d_M_isSort_14 : decode prog_11_method_24_code 14 = .ok (.iconst 1, 1) := by decide +kernel
theorem d_M_isSort_15 : decode prog_11_method_24_code 15 = .ok (.goto 4, 3) := by decide +kernel
theorem d_M_isSort_18 : decode prog_11_method_24_code 18 = .ok (.iconst 0, 1) := by decide +kernel
theorem d_M_isSort_19 : decode prog_11_method_24_code 19 = .ok (.ireturn, 1) := by decide +kernel
set_option maxHeartbeats 4000000 in
set_option maxRecDepth 100000 in
theorem cM_isSort (l : Launch) (dC : Nat → ClassId) (dI : Nat → Nat → Nat) (tk : Nat → ClassId) (A : Nat → Prop) (h : Nat) (L : Nat → Nat) (g : aG) (a : aA) (rw : va_W) (n : Nat) (v1 : Int32) (v2 : Int32) (r0 : Int32) (hm : mM_isSort n v1 v2 g a = some r0) : CtI l dC dI tk A ⟨"EditorServerModel", "isSort", "(II)Z"⟩ prog_11_method_24_code 3 (some .boolean) 0 0 [.ref h, .int v1, .int v2] (oW 0 h ksM spM tk L g a rw) r0 (oW 0 h ksM spM tk L g a rw) := by
  refine ent (by decide) (Nat.le_of_ble_eq_true rfl) ?_
  intro p e s m args below meth c hx hb hr hml hown hlk hG hg hst ls hl
  unfold mM_isSort at hm
  have hl : lv_has ls 3 [(0, .ref h), (1, .int v1), (2, .int v2)] := hl
  refine lv_iload_n hx hb d_M_isSort_0 rfl (lv_at hl 1 rfl) ?_
  refine lv_if_lt (tgt := 18) hx hb d_M_isSort_1 (by decide) (fun h1 => ?_) (fun h1 => ?_)
  · have hm := it_t hm h1
    refine lv_iconst (v := 0) hx hb d_M_isSort_18 (by decide) ?_
    have he := (Option.some.inj hm)
    cases he
    exact rt_i hx hb hr hlk (by decide) hst rfl d_M_isSort_19
  · have hm := it_f hm h1
    refine lv_aload_n hx hb d_M_isSort_4 rfl (lv_at hl 0 rfl) ?_
    refine ro_geta hx hb hown hG hg cM hst 9 1 (by decide) rfl rfl k_1023 d_M_isSort_5 ?_
    refine lv_iload_n hx hb d_M_isSort_8 rfl (lv_at hl 1 rfl) ?_
    obtain ⟨hn2, hm⟩ := gd_u hm
    refine ro_iald hx hb hg hst 1 rfl hn2 d_M_isSort_9 ?_
    refine lv_topi (fun x3 ex3 => ?_)
    have hm := lt_u hm x3 ex3
    refine lv_iload_n hx hb d_M_isSort_10 rfl (lv_at hl 2 rfl) ?_
    refine lv_icmp_ne (tgt := 18) hx hb d_M_isSort_11 (by decide) (fun h4 => ?_) (fun h4 => ?_)
    · have hm := it_f hm h4
      refine lv_iconst (v := 0) hx hb d_M_isSort_18 (by decide) ?_
      have he := (Option.some.inj hm)
      cases he
      exact rt_i hx hb hr hlk (by decide) hst rfl d_M_isSort_19
    · have hm := it_t hm h4
      refine lv_iconst (v := 1) hx hb d_M_isSort_14 (by decide) ?_
      refine lv_goto (tgt := 19) hx hb d_M_isSort_15 (by decide) ?_
      have he := (Option.some.inj hm)
      cases he
      exact rt_i hx hb hr hlk (by decide) hst rfl d_M_isSort_19
def mM_documentOf (n : Nat) (v1 : Int32) (g : aG) (a : aA) : Option (Int32) := bd (mM_isSort n v1 2 g a) (fun x2 => if x2 = 0 then (some ((-1))) else (lp (ε := Int32) (fun x5 => if (g 22) ≤ x5 then (some (.inr ((-1)))) else (gd (inb x5 3) (lt (a 10 x5.toNatClampNeg) (fun x12 => gd (inb v1 41) (lt (a 4 v1.toNatClampNeg) (fun x14 => if x12 = x14 then (jn (α := Int32) (lp (ε := Int32 × Int32) (fun q45 => gd (inb x5 3) (lt (a 10 x5.toNatClampNeg) (fun x50 => if x50 ≤ q45.2 then (some (.inr (.inl q45.1))) else (if q45.1 = 0 then (some (.inr (.inl q45.1))) else (gd (inb ((4 * x5) + q45.2) 12) (lt (a 11 ((4 * x5) + q45.2).toNatClampNeg) (fun x54 => gd (inb v1 41) (lt (a 3 v1.toNatClampNeg) (fun x56 => gd (inb (x56 + q45.2) 201) (lt (a 8 (x56 + q45.2).toNatClampNeg) (fun x58 => if x54 = x58 then (some (.inl (1, (q45.2 + 1)))) else (some (.inl (0, (q45.2 + 1))))))))))))))) n (1, 0)) (fun x40 => if x40 = 0 then (some (.inl (x5 + 1))) else (some (.inr (x5))))) else (jn (α := Int32) (lp (ε := Int32 × Int32) (fun q23 => gd (inb x5 3) (lt (a 10 x5.toNatClampNeg) (fun x28 => if x28 ≤ q23.2 then (some (.inr (.inl q23.1))) else (if q23.1 = 0 then (some (.inr (.inl q23.1))) else (gd (inb ((4 * x5) + q23.2) 12) (lt (a 11 ((4 * x5) + q23.2).toNatClampNeg) (fun x32 => gd (inb v1 41) (lt (a 3 v1.toNatClampNeg) (fun x34 => gd (inb (x34 + q23.2) 201) (lt (a 8 (x34 + q23.2).toNatClampNeg) (fun x36 => if x32 = x36 then (some (.inl (1, (q23.2 + 1)))) else (some (.inl (0, (q23.2 + 1))))))))))))))) n (0, 0)) (fun x18 => if x18 = 0 then (some (.inl (x5 + 1))) else (some (.inr (x5))))))))))) n 0))
theorem d_M_documentOf_0 : decode prog_11_method_29_code 0 = .ok (.aload_n 0, 1) := by decide +kernel
theorem d_M_documentOf_1 : decode prog_11_method_29_code 1 = .ok (.iload_n 1, 1) := by decide +kernel
theorem d_M_documentOf_2 : decode prog_11_method_29_code 2 = .ok (.iconst 2, 1) := by decide +kernel
theorem d_M_documentOf_3 : decode prog_11_method_29_code 3 = .ok (.invokevirtual 188, 3) := by decide +kernel
theorem d_M_documentOf_6 : decode prog_11_method_29_code 6 = .ok (.ifCond .ne 5, 3) := by decide +kernel
theorem d_M_documentOf_9 : decode prog_11_method_29_code 9 = .ok (.iconst (-1), 1) := by decide +kernel
theorem d_M_documentOf_10 : decode prog_11_method_29_code 10 = .ok (.ireturn, 1) := by decide +kernel
theorem d_M_documentOf_11 : decode prog_11_method_29_code 11 = .ok (.iconst 0, 1) := by decide +kernel
theorem d_M_documentOf_12 : decode prog_11_method_29_code 12 = .ok (.istore_n 2, 1) := by decide +kernel
theorem d_M_documentOf_13 : decode prog_11_method_29_code 13 = .ok (.iload_n 2, 1) := by decide +kernel
theorem d_M_documentOf_14 : decode prog_11_method_29_code 14 = .ok (.aload_n 0, 1) := by decide +kernel
theorem d_M_documentOf_15 : decode prog_11_method_29_code 15 = .ok (.getfield 228, 3) := by decide +kernel
theorem d_M_documentOf_18 : decode prog_11_method_29_code 18 = .ok (.if_icmp .ge 94, 3) := by decide +kernel
theorem d_M_documentOf_21 : decode prog_11_method_29_code 21 = .ok (.aload_n 0, 1) := by decide +kernel
theorem d_M_documentOf_22 : decode prog_11_method_29_code 22 = .ok (.getfield 40, 3) := by decide +kernel
theorem d_M_documentOf_25 : decode prog_11_method_29_code 25 = .ok (.iload_n 2, 1) := by decide +kernel
theorem d_M_documentOf_26 : decode prog_11_method_29_code 26 = .ok (.iaload, 1) := by decide +kernel
theorem d_M_documentOf_27 : decode prog_11_method_29_code 27 = .ok (.aload_n 0, 1) := by decide +kernel
theorem d_M_documentOf_28 : decode prog_11_method_29_code 28 = .ok (.getfield 22, 3) := by decide +kernel
theorem d_M_documentOf_31 : decode prog_11_method_29_code 31 = .ok (.iload_n 1, 1) := by decide +kernel
theorem d_M_documentOf_32 : decode prog_11_method_29_code 32 = .ok (.iaload, 1) := by decide +kernel
theorem d_M_documentOf_33 : decode prog_11_method_29_code 33 = .ok (.if_icmp .ne 7, 3) := by decide +kernel
theorem d_M_documentOf_36 : decode prog_11_method_29_code 36 = .ok (.iconst 1, 1) := by decide +kernel
theorem d_M_documentOf_37 : decode prog_11_method_29_code 37 = .ok (.goto 4, 3) := by decide +kernel
theorem d_M_documentOf_40 : decode prog_11_method_29_code 40 = .ok (.iconst 0, 1) := by decide +kernel
theorem d_M_documentOf_41 : decode prog_11_method_29_code 41 = .ok (.istore_n 3, 1) := by decide +kernel
theorem d_M_documentOf_42 : decode prog_11_method_29_code 42 = .ok (.iconst 0, 1) := by decide +kernel
theorem d_M_documentOf_43 : decode prog_11_method_29_code 43 = .ok (.istore 4, 2) := by decide +kernel
theorem d_M_documentOf_45 : decode prog_11_method_29_code 45 = .ok (.iload 4, 2) := by decide +kernel
theorem d_M_documentOf_47 : decode prog_11_method_29_code 47 = .ok (.aload_n 0, 1) := by decide +kernel
theorem d_M_documentOf_48 : decode prog_11_method_29_code 48 = .ok (.getfield 40, 3) := by decide +kernel
theorem d_M_documentOf_51 : decode prog_11_method_29_code 51 = .ok (.iload_n 2, 1) := by decide +kernel
theorem d_M_documentOf_52 : decode prog_11_method_29_code 52 = .ok (.iaload, 1) := by decide +kernel
theorem d_M_documentOf_53 : decode prog_11_method_29_code 53 = .ok (.if_icmp .ge 47, 3) := by decide +kernel
theorem d_M_documentOf_56 : decode prog_11_method_29_code 56 = .ok (.iload_n 3, 1) := by decide +kernel
theorem d_M_documentOf_57 : decode prog_11_method_29_code 57 = .ok (.ifCond .eq 43, 3) := by decide +kernel
theorem d_M_documentOf_60 : decode prog_11_method_29_code 60 = .ok (.aload_n 0, 1) := by decide +kernel
theorem d_M_documentOf_61 : decode prog_11_method_29_code 61 = .ok (.getfield 43, 3) := by decide +kernel
theorem d_M_documentOf_64 : decode prog_11_method_29_code 64 = .ok (.iconst 4, 1) := by decide +kernel
theorem d_M_documentOf_65 : decode prog_11_method_29_code 65 = .ok (.iload_n 2, 1) := by decide +kernel
theorem d_M_documentOf_66 : decode prog_11_method_29_code 66 = .ok (.imul, 1) := by decide +kernel
theorem d_M_documentOf_67 : decode prog_11_method_29_code 67 = .ok (.iload 4, 2) := by decide +kernel
theorem d_M_documentOf_69 : decode prog_11_method_29_code 69 = .ok (.iadd, 1) := by decide +kernel
theorem d_M_documentOf_70 : decode prog_11_method_29_code 70 = .ok (.iaload, 1) := by decide +kernel
theorem d_M_documentOf_71 : decode prog_11_method_29_code 71 = .ok (.aload_n 0, 1) := by decide +kernel
theorem d_M_documentOf_72 : decode prog_11_method_29_code 72 = .ok (.getfield 34, 3) := by decide +kernel
theorem d_M_documentOf_75 : decode prog_11_method_29_code 75 = .ok (.aload_n 0, 1) := by decide +kernel
theorem d_M_documentOf_76 : decode prog_11_method_29_code 76 = .ok (.getfield 19, 3) := by decide +kernel
theorem d_M_documentOf_79 : decode prog_11_method_29_code 79 = .ok (.iload_n 1, 1) := by decide +kernel
theorem d_M_documentOf_80 : decode prog_11_method_29_code 80 = .ok (.iaload, 1) := by decide +kernel
theorem d_M_documentOf_81 : decode prog_11_method_29_code 81 = .ok (.iload 4, 2) := by decide +kernel
theorem d_M_documentOf_83 : decode prog_11_method_29_code 83 = .ok (.iadd, 1) := by decide +kernel
theorem d_M_documentOf_84 : decode prog_11_method_29_code 84 = .ok (.iaload, 1) := by decide +kernel
theorem d_M_documentOf_85 : decode prog_11_method_29_code 85 = .ok (.if_icmp .ne 7, 3) := by decide +kernel
theorem d_M_documentOf_88 : decode prog_11_method_29_code 88 = .ok (.iconst 1, 1) := by decide +kernel
theorem d_M_documentOf_89 : decode prog_11_method_29_code 89 = .ok (.goto 4, 3) := by decide +kernel
theorem d_M_documentOf_92 : decode prog_11_method_29_code 92 = .ok (.iconst 0, 1) := by decide +kernel
theorem d_M_documentOf_93 : decode prog_11_method_29_code 93 = .ok (.istore_n 3, 1) := by decide +kernel
theorem d_M_documentOf_94 : decode prog_11_method_29_code 94 = .ok (.iinc 4 1, 3) := by decide +kernel
theorem d_M_documentOf_97 : decode prog_11_method_29_code 97 = .ok (.goto (-52), 3) := by decide +kernel
theorem d_M_documentOf_100 : decode prog_11_method_29_code 100 = .ok (.iload_n 3, 1) := by decide +kernel
theorem d_M_documentOf_101 : decode prog_11_method_29_code 101 = .ok (.ifCond .eq 5, 3) := by decide +kernel
theorem d_M_documentOf_104 : decode prog_11_method_29_code 104 = .ok (.iload_n 2, 1) := by decide +kernel
theorem d_M_documentOf_105 : decode prog_11_method_29_code 105 = .ok (.ireturn, 1) := by decide +kernel
theorem d_M_documentOf_106 : decode prog_11_method_29_code 106 = .ok (.iinc 2 1, 3) := by decide +kernel
theorem d_M_documentOf_109 : decode prog_11_method_29_code 109 = .ok (.goto (-96), 3) := by decide +kernel
theorem d_M_documentOf_112 : decode prog_11_method_29_code 112 = .ok (.iconst (-1), 1) := by decide +kernel
theorem d_M_documentOf_113 : decode prog_11_method_29_code 113 = .ok (.ireturn, 1) := by decide +kernel
set_option maxHeartbeats 4000000 in
set_option maxRecDepth 100000 in
theorem cM_documentOf (l : Launch) (dC : Nat → ClassId) (dI : Nat → Nat → Nat) (tk : Nat → ClassId) (A : Nat → Prop) (h : Nat) (L : Nat → Nat) (g : aG) (a : aA) (rw : va_W) (n : Nat) (v1 : Int32) (r0 : Int32) (hm : mM_documentOf n v1 g a = some r0) : CtI l dC dI tk A ⟨"EditorServerModel", "documentOf", "(I)I"⟩ prog_11_method_29_code 5 (some .int) 1 22 [.ref h, .int v1] (oW 0 h ksM spM tk L g a rw) r0 (oW 0 h ksM spM tk L g a rw) := by
  refine ent (by decide) (Nat.le_of_ble_eq_true rfl) ?_
  intro p e s m args below meth c hx hb hr hml hown hlk hG hg hst ls hl
  unfold mM_documentOf at hm
  have hl : lv_has ls 5 [(0, .ref h), (1, .int v1)] := hl
  refine lv_aload_n hx hb d_M_documentOf_0 rfl (lv_at hl 0 rfl) ?_
  refine lv_iload_n hx hb d_M_documentOf_1 rfl (lv_at hl 1 rfl) ?_
  refine lv_iconst (v := 2) hx hb d_M_documentOf_2 (by decide) ?_
  obtain ⟨x2, hc3, hm⟩ := bd_u hm
  refine cl_vi hx hb hml hown hG hg (cM_isSort l dC dI tk A h L g a rw n v1 2 _ hc3) (cw_v 2 hG k_1223 k_1225 s_40 k_14 k_1226 (by decide +kernel) ⟨by decide, by decide⟩) hst rfl oW_0 rfl hl.1 rfl (Nat.le_of_ble_eq_true rfl) ⟨Nat.le_refl 0, Nat.le_refl 0⟩ d_M_documentOf_3 (fun H locs hst => ?_)
  refine lv_if_ne (tgt := 11) hx hb d_M_documentOf_6 (by decide) (fun h4 => ?_) (fun h4 => ?_)
  · have hm := it_f hm h4
    refine lv_iconst (v := 0) hx hb d_M_documentOf_11 (by decide) ?_
    refine lv_istore_n (lv' := [(2, .int 0), (0, .ref h), (1, .int v1)]) hx hb d_M_documentOf_12 rfl hl (by decide) rfl (fun ls hl => ?_)
    refine lp_u (fun x5 : Int32 => ∀ (H : Heap) (locs : List Loc) (ls : Array Slot), lv_has ls 5 [(0, .ref h), (1, .int v1), (2, .int x5)] → St dC dI A s.heap H locs (oW 0 h ksM spM tk L g a rw) → W p l e (rmo 1 22) s m args below meth c H locs 0 0 (MQ below (QI dC dI A r0 (oW 0 h ksM spM tk L g a rw)) args s 0 0 A) (F0 m 13 ls [])) ?_ n 0 hm _ _ _ (lv_sub hl [1, 2, 0] rfl) hst
    rintro x5 r9 hm hJ70 hR8 H locs ls hl hst
    have hJ7 := fun y0 (e : r9 = .inl y0) => hJ70 y0 e
    refine lv_iload_n hx hb d_M_documentOf_13 rfl (lv_at hl 2 rfl) ?_
    refine lv_aload_n hx hb d_M_documentOf_14 rfl (lv_at hl 0 rfl) ?_
    refine ro_geti hx hb hown hG hg cM hst 22 (by decide) rfl rfl k_1036 d_M_documentOf_15 ?_
    refine lv_icmp_ge (tgt := 112) hx hb d_M_documentOf_18 (by decide) (fun h10 => ?_) (fun h10 => ?_)
    · have hm := it_t hm h10
      refine lv_iconst (v := (-1)) hx hb d_M_documentOf_112 (by decide) ?_
      have he := (hR8 _ (Option.some.inj hm).symm)
      cases he
      exact rt_i hx hb hr hlk rfl hst rfl d_M_documentOf_113
    · have hm := it_f hm h10
      refine lv_aload_n hx hb d_M_documentOf_21 rfl (lv_at hl 0 rfl) ?_
      refine ro_geta hx hb hown hG hg cM hst 23 10 (by decide) rfl rfl k_1037 d_M_documentOf_22 ?_
      refine lv_iload_n hx hb d_M_documentOf_25 rfl (lv_at hl 2 rfl) ?_
      obtain ⟨hn11, hm⟩ := gd_u hm
      refine ro_iald hx hb hg hst 10 rfl hn11 d_M_documentOf_26 ?_
      refine lv_topi (fun x12 ex12 => ?_)
      have hm := lt_u hm x12 ex12
      refine lv_aload_n hx hb d_M_documentOf_27 rfl (lv_at hl 0 rfl) ?_
      refine ro_geta hx hb hown hG hg cM hst 12 4 (by decide) rfl rfl k_1026 d_M_documentOf_28 ?_
      refine lv_iload_n hx hb d_M_documentOf_31 rfl (lv_at hl 1 rfl) ?_
      obtain ⟨hn13, hm⟩ := gd_u hm
      refine ro_iald hx hb hg hst 4 rfl hn13 d_M_documentOf_32 ?_
      refine lv_topi (fun x14 ex14 => ?_)
      have hm := lt_u hm x14 ex14
      refine lv_icmp_ne (tgt := 40) hx hb d_M_documentOf_33 (by decide) (fun h15 => ?_) (fun h15 => ?_)
      · have hm := it_f hm h15
        refine lv_iconst (v := 0) hx hb d_M_documentOf_40 (by decide) ?_
        refine lv_istore_n (lv' := [(3, .int 0), (0, .ref h), (1, .int v1), (2, .int x5)]) hx hb d_M_documentOf_41 rfl hl (by decide) rfl (fun ls hl => ?_)
        refine lv_iconst (v := 0) hx hb d_M_documentOf_42 (by decide) ?_
        refine lv_istore (lv' := [(4, .int 0), (3, .int 0), (0, .ref h), (1, .int v1), (2, .int x5)]) hx hb d_M_documentOf_43 hl (by decide) rfl (fun ls hl => ?_)
        obtain ⟨qJ16, hm, hLJ16, hR17⟩ := jn_u hm
        have hJ16 : ∀ (x18 : Int32), qJ16 = .inl x18 → ∀ (H : Heap) (locs : List Loc) (ls : Array Slot), lv_has ls 5 [(0, .ref h), (1, .int v1), (2, .int x5), (3, .int x18)] → St dC dI A s.heap H locs (oW 0 h ksM spM tk L g a rw) → W p l e (rmo 1 22) s m args below meth c H locs 0 0 (MQ below (QI dC dI A r0 (oW 0 h ksM spM tk L g a rw)) args s 0 0 A) (F0 m 100 ls []) := by
          intro x18 hq H locs ls hl hst
          have hm := hLJ16 _ hq
          refine lv_iload_n hx hb d_M_documentOf_100 rfl (lv_at hl 3 rfl) ?_
          refine lv_if_eq (tgt := 106) hx hb d_M_documentOf_101 (by decide) (fun h20 => ?_) (fun h20 => ?_)
          · have hm := it_t hm h20
            refine lv_iinc (k := 2) (v := (x5 + 1)) (lv' := [(2, .int (x5 + 1)), (0, .ref h), (1, .int v1), (3, .int x18)]) hx hb d_M_documentOf_106 hl rfl (by rfl) (by decide) rfl (fun ls hl => ?_)
            refine lv_goto (tgt := 13) hx hb d_M_documentOf_109 (by decide) ?_
            exact hJ7 (x5 + 1) (Option.some.inj hm).symm _ _ _ (lv_sub hl [1, 2, 0] rfl) hst
          · have hm := it_f hm h20
            refine lv_iload_n hx hb d_M_documentOf_104 rfl (lv_at hl 2 rfl) ?_
            have he := (hR8 _ (Option.some.inj hm).symm)
            cases he
            exact rt_i hx hb hr hlk rfl hst rfl d_M_documentOf_105
        refine lp_u (fun q23 : Int32 × Int32 => ∀ (H : Heap) (locs : List Loc) (ls : Array Slot), lv_has ls 5 [(0, .ref h), (1, .int v1), (2, .int x5), (3, .int q23.1), (4, .int q23.2)] → St dC dI A s.heap H locs (oW 0 h ksM spM tk L g a rw) → W p l e (rmo 1 22) s m args below meth c H locs 0 0 (MQ below (QI dC dI A r0 (oW 0 h ksM spM tk L g a rw)) args s 0 0 A) (F0 m 45 ls [])) ?_ n (0, 0) hm _ _ _ (lv_sub hl [2, 3, 4, 1, 0] rfl) hst
        rintro ⟨x21, x22⟩ r26 hm hJ240 hR25 H locs ls hl hst
        dsimp only at hm hl hst ⊢
        have hJ24 := fun y0 y1 (e : r26 = .inl (y0, y1)) => hJ240 (y0, y1) e
        dsimp only at hJ24
        refine lv_iload hx hb d_M_documentOf_45 (lv_at hl 4 rfl) ?_
        refine lv_aload_n hx hb d_M_documentOf_47 rfl (lv_at hl 0 rfl) ?_
        refine ro_geta hx hb hown hG hg cM hst 23 10 (by decide) rfl rfl k_1037 d_M_documentOf_48 ?_
        refine lv_iload_n hx hb d_M_documentOf_51 rfl (lv_at hl 2 rfl) ?_
        obtain ⟨hn27, hm⟩ := gd_u hm
        refine ro_iald hx hb hg hst 10 rfl hn27 d_M_documentOf_52 ?_
        refine lv_topi (fun x28 ex28 => ?_)
        have hm := lt_u hm x28 ex28
        refine lv_icmp_ge (tgt := 100) hx hb d_M_documentOf_53 (by decide) (fun h29 => ?_) (fun h29 => ?_)
        · have hm := it_t hm h29
          exact hJ16 x21 (hR25 _ (Option.some.inj hm).symm).symm _ _ _ (lv_sub hl [0, 1, 2, 3] rfl) hst
        · have hm := it_f hm h29
          refine lv_iload_n hx hb d_M_documentOf_56 rfl (lv_at hl 3 rfl) ?_
          refine lv_if_eq (tgt := 100) hx hb d_M_documentOf_57 (by decide) (fun h30 => ?_) (fun h30 => ?_)
          · have hm := it_t hm h30
            exact hJ16 x21 (hR25 _ (Option.some.inj hm).symm).symm _ _ _ (lv_sub hl [0, 1, 2, 3] rfl) hst
          · have hm := it_f hm h30
            refine lv_aload_n hx hb d_M_documentOf_60 rfl (lv_at hl 0 rfl) ?_
            refine ro_geta hx hb hown hG hg cM hst 24 11 (by decide) rfl rfl k_1038 d_M_documentOf_61 ?_
            refine lv_iconst (v := 4) hx hb d_M_documentOf_64 (by decide) ?_
            refine lv_iload_n hx hb d_M_documentOf_65 rfl (lv_at hl 2 rfl) ?_
            refine lv_imul hx hb d_M_documentOf_66 ?_
            refine lv_iload hx hb d_M_documentOf_67 (lv_at hl 4 rfl) ?_
            refine lv_iadd hx hb d_M_documentOf_69 ?_
            obtain ⟨hn31, hm⟩ := gd_u hm
            refine ro_iald hx hb hg hst 11 rfl hn31 d_M_documentOf_70 ?_
            refine lv_topi (fun x32 ex32 => ?_)
            have hm := lt_u hm x32 ex32
            refine lv_aload_n hx hb d_M_documentOf_71 rfl (lv_at hl 0 rfl) ?_
            refine ro_geta hx hb hown hG hg cM hst 16 8 (by decide) rfl rfl k_1030 d_M_documentOf_72 ?_
            refine lv_aload_n hx hb d_M_documentOf_75 rfl (lv_at hl 0 rfl) ?_
            refine ro_geta hx hb hown hG hg cM hst 11 3 (by decide) rfl rfl k_1025 d_M_documentOf_76 ?_
            refine lv_iload_n hx hb d_M_documentOf_79 rfl (lv_at hl 1 rfl) ?_
            obtain ⟨hn33, hm⟩ := gd_u hm
            refine ro_iald hx hb hg hst 3 rfl hn33 d_M_documentOf_80 ?_
            refine lv_topi (fun x34 ex34 => ?_)
            have hm := lt_u hm x34 ex34
            refine lv_iload hx hb d_M_documentOf_81 (lv_at hl 4 rfl) ?_
            refine lv_iadd hx hb d_M_documentOf_83 ?_
            obtain ⟨hn35, hm⟩ := gd_u hm
            refine ro_iald hx hb hg hst 8 rfl hn35 d_M_documentOf_84 ?_
            refine lv_topi (fun x36 ex36 => ?_)
            have hm := lt_u hm x36 ex36
            refine lv_icmp_ne (tgt := 92) hx hb d_M_documentOf_85 (by decide) (fun h37 => ?_) (fun h37 => ?_)
            · have hm := it_f hm h37
              refine lv_iconst (v := 0) hx hb d_M_documentOf_92 (by decide) ?_
              refine lv_istore_n (lv' := [(3, .int 0), (0, .ref h), (1, .int v1), (2, .int x5), (4, .int x22)]) hx hb d_M_documentOf_93 rfl hl (by decide) rfl (fun ls hl => ?_)
              refine lv_iinc (k := 4) (v := (x22 + 1)) (lv' := [(4, .int (x22 + 1)), (3, .int 0), (0, .ref h), (1, .int v1), (2, .int x5)]) hx hb d_M_documentOf_94 hl rfl (by rfl) (by decide) rfl (fun ls hl => ?_)
              refine lv_goto (tgt := 45) hx hb d_M_documentOf_97 (by decide) ?_
              exact hJ24 0 (x22 + 1) (Option.some.inj hm).symm _ _ _ (lv_sub hl [2, 3, 4, 1, 0] rfl) hst
            · have hm := it_t hm h37
              refine lv_iconst (v := 1) hx hb d_M_documentOf_88 (by decide) ?_
              refine lv_goto (tgt := 93) hx hb d_M_documentOf_89 (by decide) ?_
              refine lv_istore_n (lv' := [(3, .int 1), (0, .ref h), (1, .int v1), (2, .int x5), (4, .int x22)]) hx hb d_M_documentOf_93 rfl hl (by decide) rfl (fun ls hl => ?_)
              refine lv_iinc (k := 4) (v := (x22 + 1)) (lv' := [(4, .int (x22 + 1)), (3, .int 1), (0, .ref h), (1, .int v1), (2, .int x5)]) hx hb d_M_documentOf_94 hl rfl (by rfl) (by decide) rfl (fun ls hl => ?_)
              refine lv_goto (tgt := 45) hx hb d_M_documentOf_97 (by decide) ?_
              exact hJ24 1 (x22 + 1) (Option.some.inj hm).symm _ _ _ (lv_sub hl [2, 3, 4, 1, 0] rfl) hst
      · have hm := it_t hm h15
        refine lv_iconst (v := 1) hx hb d_M_documentOf_36 (by decide) ?_
        refine lv_goto (tgt := 41) hx hb d_M_documentOf_37 (by decide) ?_
        refine lv_istore_n (lv' := [(3, .int 1), (0, .ref h), (1, .int v1), (2, .int x5)]) hx hb d_M_documentOf_41 rfl hl (by decide) rfl (fun ls hl => ?_)
        refine lv_iconst (v := 0) hx hb d_M_documentOf_42 (by decide) ?_
        refine lv_istore (lv' := [(4, .int 0), (3, .int 1), (0, .ref h), (1, .int v1), (2, .int x5)]) hx hb d_M_documentOf_43 hl (by decide) rfl (fun ls hl => ?_)
        obtain ⟨qJ38, hm, hLJ38, hR39⟩ := jn_u hm
        have hJ38 : ∀ (x40 : Int32), qJ38 = .inl x40 → ∀ (H : Heap) (locs : List Loc) (ls : Array Slot), lv_has ls 5 [(0, .ref h), (1, .int v1), (2, .int x5), (3, .int x40)] → St dC dI A s.heap H locs (oW 0 h ksM spM tk L g a rw) → W p l e (rmo 1 22) s m args below meth c H locs 0 0 (MQ below (QI dC dI A r0 (oW 0 h ksM spM tk L g a rw)) args s 0 0 A) (F0 m 100 ls []) := by
          intro x40 hq H locs ls hl hst
          have hm := hLJ38 _ hq
          refine lv_iload_n hx hb d_M_documentOf_100 rfl (lv_at hl 3 rfl) ?_
          refine lv_if_eq (tgt := 106) hx hb d_M_documentOf_101 (by decide) (fun h42 => ?_) (fun h42 => ?_)
          · have hm := it_t hm h42
            refine lv_iinc (k := 2) (v := (x5 + 1)) (lv' := [(2, .int (x5 + 1)), (0, .ref h), (1, .int v1), (3, .int x40)]) hx hb d_M_documentOf_106 hl rfl (by rfl) (by decide) rfl (fun ls hl => ?_)
            refine lv_goto (tgt := 13) hx hb d_M_documentOf_109 (by decide) ?_
            exact hJ7 (x5 + 1) (Option.some.inj hm).symm _ _ _ (lv_sub hl [1, 2, 0] rfl) hst
          · have hm := it_f hm h42
            refine lv_iload_n hx hb d_M_documentOf_104 rfl (lv_at hl 2 rfl) ?_
            have he := (hR8 _ (Option.some.inj hm).symm)
            cases he
            exact rt_i hx hb hr hlk rfl hst rfl d_M_documentOf_105
        refine lp_u (fun q45 : Int32 × Int32 => ∀ (H : Heap) (locs : List Loc) (ls : Array Slot), lv_has ls 5 [(0, .ref h), (1, .int v1), (2, .int x5), (3, .int q45.1), (4, .int q45.2)] → St dC dI A s.heap H locs (oW 0 h ksM spM tk L g a rw) → W p l e (rmo 1 22) s m args below meth c H locs 0 0 (MQ below (QI dC dI A r0 (oW 0 h ksM spM tk L g a rw)) args s 0 0 A) (F0 m 45 ls [])) ?_ n (1, 0) hm _ _ _ (lv_sub hl [2, 3, 4, 1, 0] rfl) hst
        rintro ⟨x43, x44⟩ r48 hm hJ460 hR47 H locs ls hl hst
        dsimp only at hm hl hst ⊢
        have hJ46 := fun y0 y1 (e : r48 = .inl (y0, y1)) => hJ460 (y0, y1) e
        dsimp only at hJ46
        refine lv_iload hx hb d_M_documentOf_45 (lv_at hl 4 rfl) ?_
        refine lv_aload_n hx hb d_M_documentOf_47 rfl (lv_at hl 0 rfl) ?_
        refine ro_geta hx hb hown hG hg cM hst 23 10 (by decide) rfl rfl k_1037 d_M_documentOf_48 ?_
        refine lv_iload_n hx hb d_M_documentOf_51 rfl (lv_at hl 2 rfl) ?_
        obtain ⟨hn49, hm⟩ := gd_u hm
        refine ro_iald hx hb hg hst 10 rfl hn49 d_M_documentOf_52 ?_
        refine lv_topi (fun x50 ex50 => ?_)
        have hm := lt_u hm x50 ex50
        refine lv_icmp_ge (tgt := 100) hx hb d_M_documentOf_53 (by decide) (fun h51 => ?_) (fun h51 => ?_)
        · have hm := it_t hm h51
          exact hJ38 x43 (hR47 _ (Option.some.inj hm).symm).symm _ _ _ (lv_sub hl [0, 1, 2, 3] rfl) hst
        · have hm := it_f hm h51
          refine lv_iload_n hx hb d_M_documentOf_56 rfl (lv_at hl 3 rfl) ?_
          refine lv_if_eq (tgt := 100) hx hb d_M_documentOf_57 (by decide) (fun h52 => ?_) (fun h52 => ?_)
          · have hm := it_t hm h52
            exact hJ38 x43 (hR47 _ (Option.some.inj hm).symm).symm _ _ _ (lv_sub hl [0, 1, 2, 3] rfl) hst
          · have hm := it_f hm h52
            refine lv_aload_n hx hb d_M_documentOf_60 rfl (lv_at hl 0 rfl) ?_
            refine ro_geta hx hb hown hG hg cM hst 24 11 (by decide) rfl rfl k_1038 d_M_documentOf_61 ?_
            refine lv_iconst (v := 4) hx hb d_M_documentOf_64 (by decide) ?_
            refine lv_iload_n hx hb d_M_documentOf_65 rfl (lv_at hl 2 rfl) ?_
            refine lv_imul hx hb d_M_documentOf_66 ?_
            refine lv_iload hx hb d_M_documentOf_67 (lv_at hl 4 rfl) ?_
            refine lv_iadd hx hb d_M_documentOf_69 ?_
            obtain ⟨hn53, hm⟩ := gd_u hm
            refine ro_iald hx hb hg hst 11 rfl hn53 d_M_documentOf_70 ?_
            refine lv_topi (fun x54 ex54 => ?_)
            have hm := lt_u hm x54 ex54
            refine lv_aload_n hx hb d_M_documentOf_71 rfl (lv_at hl 0 rfl) ?_
            refine ro_geta hx hb hown hG hg cM hst 16 8 (by decide) rfl rfl k_1030 d_M_documentOf_72 ?_
            refine lv_aload_n hx hb d_M_documentOf_75 rfl (lv_at hl 0 rfl) ?_
            refine ro_geta hx hb hown hG hg cM hst 11 3 (by decide) rfl rfl k_1025 d_M_documentOf_76 ?_
            refine lv_iload_n hx hb d_M_documentOf_79 rfl (lv_at hl 1 rfl) ?_
            obtain ⟨hn55, hm⟩ := gd_u hm
            refine ro_iald hx hb hg hst 3 rfl hn55 d_M_documentOf_80 ?_
            refine lv_topi (fun x56 ex56 => ?_)
            have hm := lt_u hm x56 ex56
            refine lv_iload hx hb d_M_documentOf_81 (lv_at hl 4 rfl) ?_
            refine lv_iadd hx hb d_M_documentOf_83 ?_
            obtain ⟨hn57, hm⟩ := gd_u hm
            refine ro_iald hx hb hg hst 8 rfl hn57 d_M_documentOf_84 ?_
            refine lv_topi (fun x58 ex58 => ?_)
            have hm := lt_u hm x58 ex58
            refine lv_icmp_ne (tgt := 92) hx hb d_M_documentOf_85 (by decide) (fun h59 => ?_) (fun h59 => ?_)
            · have hm := it_f hm h59
              refine lv_iconst (v := 0) hx hb d_M_documentOf_92 (by decide) ?_
              refine lv_istore_n (lv' := [(3, .int 0), (0, .ref h), (1, .int v1), (2, .int x5), (4, .int x44)]) hx hb d_M_documentOf_93 rfl hl (by decide) rfl (fun ls hl => ?_)
              refine lv_iinc (k := 4) (v := (x44 + 1)) (lv' := [(4, .int (x44 + 1)), (3, .int 0), (0, .ref h), (1, .int v1), (2, .int x5)]) hx hb d_M_documentOf_94 hl rfl (by rfl) (by decide) rfl (fun ls hl => ?_)
              refine lv_goto (tgt := 45) hx hb d_M_documentOf_97 (by decide) ?_
              exact hJ46 0 (x44 + 1) (Option.some.inj hm).symm _ _ _ (lv_sub hl [2, 3, 4, 1, 0] rfl) hst
            · have hm := it_t hm h59
              refine lv_iconst (v := 1) hx hb d_M_documentOf_88 (by decide) ?_
              refine lv_goto (tgt := 93) hx hb d_M_documentOf_89 (by decide) ?_
              refine lv_istore_n (lv' := [(3, .int 1), (0, .ref h), (1, .int v1), (2, .int x5), (4, .int x44)]) hx hb d_M_documentOf_93 rfl hl (by decide) rfl (fun ls hl => ?_)
              refine lv_iinc (k := 4) (v := (x44 + 1)) (lv' := [(4, .int (x44 + 1)), (3, .int 1), (0, .ref h), (1, .int v1), (2, .int x5)]) hx hb d_M_documentOf_94 hl rfl (by rfl) (by decide) rfl (fun ls hl => ?_)
              refine lv_goto (tgt := 45) hx hb d_M_documentOf_97 (by decide) ?_
              exact hJ46 1 (x44 + 1) (Option.some.inj hm).symm _ _ _ (lv_sub hl [2, 3, 4, 1, 0] rfl) hst
  · have hm := it_t hm h4
    refine lv_iconst (v := (-1)) hx hb d_M_documentOf_9 (by decide) ?_
    have he := (Option.some.inj hm)
    cases he
    exact rt_i hx hb hr hlk rfl hst rfl d_M_documentOf_10
def mM_item (n : Nat) (v1 : Int32) (v2 : Int32) (g : aG) (a : aA) : Option (Int32) := lt ((v1 + 1)) (fun x1 => lp (ε := Int32 × Int32) (fun q4 => if (g 8) ≤ q4.2 then (some (.inr ((-1)))) else (gd (inb q4.2 41) (lt (a 5 q4.2.toNatClampNeg) (fun x10 => if x10 = v1 then (if q4.1 = 0 then (some (.inr (q4.2))) else (some (.inl ((q4.1 + (-1)), (q4.2 + 1))))) else (some (.inl (q4.1, (q4.2 + 1)))))))) n (v2, x1))
theorem d_M_item_0 : decode prog_11_method_22_code 0 = .ok (.iload_n 2, 1) := by decide +kernel
theorem d_M_item_1 : decode prog_11_method_22_code 1 = .ok (.istore_n 3, 1) := by decide +kernel
theorem d_M_item_2 : decode prog_11_method_22_code 2 = .ok (.iload_n 1, 1) := by decide +kernel
theorem d_M_item_3 : decode prog_11_method_22_code 3 = .ok (.iconst 1, 1) := by decide +kernel
theorem d_M_item_4 : decode prog_11_method_22_code 4 = .ok (.iadd, 1) := by decide +kernel
theorem d_M_item_5 : decode prog_11_method_22_code 5 = .ok (.istore 4, 2) := by decide +kernel
theorem d_M_item_7 : decode prog_11_method_22_code 7 = .ok (.iload 4, 2) := by decide +kernel
theorem d_M_item_9 : decode prog_11_method_22_code 9 = .ok (.aload_n 0, 1) := by decide +kernel
theorem d_M_item_10 : decode prog_11_method_22_code 10 = .ok (.getfield 124, 3) := by decide +kernel
theorem d_M_item_13 : decode prog_11_method_22_code 13 = .ok (.if_icmp .ge 33, 3) := by decide +kernel
theorem d_M_item_16 : decode prog_11_method_22_code 16 = .ok (.aload_n 0, 1) := by decide +kernel
theorem d_M_item_17 : decode prog_11_method_22_code 17 = .ok (.getfield 25, 3) := by decide +kernel
theorem d_M_item_20 : decode prog_11_method_22_code 20 = .ok (.iload 4, 2) := by decide +kernel
theorem d_M_item_22 : decode prog_11_method_22_code 22 = .ok (.iaload, 1) := by decide +kernel
theorem d_M_item_23 : decode prog_11_method_22_code 23 = .ok (.iload_n 1, 1) := by decide +kernel
theorem d_M_item_24 : decode prog_11_method_22_code 24 = .ok (.if_icmp .eq 6, 3) := by decide +kernel
theorem d_M_item_27 : decode prog_11_method_22_code 27 = .ok (.goto 13, 3) := by decide +kernel
theorem d_M_item_30 : decode prog_11_method_22_code 30 = .ok (.iload_n 3, 1) := by decide +kernel
theorem d_M_item_31 : decode prog_11_method_22_code 31 = .ok (.ifCond .ne 6, 3) := by decide +kernel
theorem d_M_item_34 : decode prog_11_method_22_code 34 = .ok (.iload 4, 2) := by decide +kernel
theorem d_M_item_36 : decode prog_11_method_22_code 36 = .ok (.ireturn, 1) := by decide +kernel
theorem d_M_item_37 : decode prog_11_method_22_code 37 = .ok (.iinc 3 (-1), 3) := by decide +kernel
theorem d_M_item_40 : decode prog_11_method_22_code 40 = .ok (.iinc 4 1, 3) := by decide +kernel
theorem d_M_item_43 : decode prog_11_method_22_code 43 = .ok (.goto (-36), 3) := by decide +kernel
theorem d_M_item_46 : decode prog_11_method_22_code 46 = .ok (.iconst (-1), 1) := by decide +kernel
theorem d_M_item_47 : decode prog_11_method_22_code 47 = .ok (.ireturn, 1) := by decide +kernel
set_option maxHeartbeats 4000000 in
set_option maxRecDepth 100000 in
theorem cM_item (l : Launch) (dC : Nat → ClassId) (dI : Nat → Nat → Nat) (tk : Nat → ClassId) (A : Nat → Prop) (h : Nat) (L : Nat → Nat) (g : aG) (a : aA) (rw : va_W) (n : Nat) (v1 : Int32) (v2 : Int32) (r0 : Int32) (hm : mM_item n v1 v2 g a = some r0) : CtI l dC dI tk A ⟨"EditorServerModel", "item", "(II)I"⟩ prog_11_method_22_code 5 (some .int) 0 0 [.ref h, .int v1, .int v2] (oW 0 h ksM spM tk L g a rw) r0 (oW 0 h ksM spM tk L g a rw) := by
  refine ent (by decide) (Nat.le_of_ble_eq_true rfl) ?_
  intro p e s m args below meth c hx hb hr hml hown hlk hG hg hst ls hl
  unfold mM_item at hm
  have hl : lv_has ls 5 [(0, .ref h), (1, .int v1), (2, .int v2)] := hl
  refine lv_iload_n hx hb d_M_item_0 rfl (lv_at hl 2 rfl) ?_
  refine lv_istore_n (lv' := [(3, .int v2), (0, .ref h), (1, .int v1), (2, .int v2)]) hx hb d_M_item_1 rfl hl (by decide) rfl (fun ls hl => ?_)
  refine lv_iload_n hx hb d_M_item_2 rfl (lv_at hl 2 rfl) ?_
  refine lv_iconst (v := 1) hx hb d_M_item_3 (by decide) ?_
  refine lv_iadd hx hb d_M_item_4 ?_
  refine lv_topi (fun x1 ex1 => ?_)
  have hm := lt_u hm x1 ex1
  refine lv_istore (lv' := [(4, .int x1), (3, .int v2), (0, .ref h), (1, .int v1), (2, .int v2)]) hx hb d_M_item_5 hl (by decide) rfl (fun ls hl => ?_)
  refine lp_u (fun q4 : Int32 × Int32 => ∀ (H : Heap) (locs : List Loc) (ls : Array Slot), lv_has ls 5 [(0, .ref h), (1, .int v1), (2, .int v2), (3, .int q4.1), (4, .int q4.2)] → St dC dI A s.heap H locs (oW 0 h ksM spM tk L g a rw) → W p l e (rmo 0 0) s m args below meth c H locs 0 0 (MQ below (QI dC dI A r0 (oW 0 h ksM spM tk L g a rw)) args s 0 0 A) (F0 m 7 ls [])) ?_ n (v2, x1) hm _ _ _ (lv_sub hl [2, 3, 4, 1, 0] rfl) hst
  rintro ⟨x2, x3⟩ r7 hm hJ50 hR6 H locs ls hl hst
  dsimp only at hm hl hst ⊢
  have hJ5 := fun y0 y1 (e : r7 = .inl (y0, y1)) => hJ50 (y0, y1) e
  dsimp only at hJ5
  refine lv_iload hx hb d_M_item_7 (lv_at hl 4 rfl) ?_
  refine lv_aload_n hx hb d_M_item_9 rfl (lv_at hl 0 rfl) ?_
  refine ro_geti hx hb hown hG hg cM hst 8 (by decide) rfl rfl k_1022 d_M_item_10 ?_
  refine lv_icmp_ge (tgt := 46) hx hb d_M_item_13 (by decide) (fun h8 => ?_) (fun h8 => ?_)
  · have hm := it_t hm h8
    refine lv_iconst (v := (-1)) hx hb d_M_item_46 (by decide) ?_
    have he := (hR6 _ (Option.some.inj hm).symm)
    cases he
    exact rt_i hx hb hr hlk rfl hst rfl d_M_item_47
  · have hm := it_f hm h8
    refine lv_aload_n hx hb d_M_item_16 rfl (lv_at hl 0 rfl) ?_
    refine ro_geta hx hb hown hG hg cM hst 13 5 (by decide) rfl rfl k_1027 d_M_item_17 ?_
    refine lv_iload hx hb d_M_item_20 (lv_at hl 4 rfl) ?_
    obtain ⟨hn9, hm⟩ := gd_u hm
    refine ro_iald hx hb hg hst 5 rfl hn9 d_M_item_22 ?_
    refine lv_topi (fun x10 ex10 => ?_)
    have hm := lt_u hm x10 ex10
    refine lv_iload_n hx hb d_M_item_23 rfl (lv_at hl 1 rfl) ?_
    refine lv_icmp_eq (tgt := 30) hx hb d_M_item_24 (by decide) (fun h11 => ?_) (fun h11 => ?_)
    · have hm := it_t hm h11
      refine lv_iload_n hx hb d_M_item_30 rfl (lv_at hl 3 rfl) ?_
      refine lv_if_ne (tgt := 37) hx hb d_M_item_31 (by decide) (fun h12 => ?_) (fun h12 => ?_)
      · have hm := it_f hm h12
        refine lv_iinc (k := 3) (v := (x2 + (-1))) (lv' := [(3, .int (x2 + (-1))), (0, .ref h), (1, .int v1), (2, .int v2), (4, .int x3)]) hx hb d_M_item_37 hl rfl (by rfl) (by decide) rfl (fun ls hl => ?_)
        refine lv_iinc (k := 4) (v := (x3 + 1)) (lv' := [(4, .int (x3 + 1)), (3, .int (x2 + (-1))), (0, .ref h), (1, .int v1), (2, .int v2)]) hx hb d_M_item_40 hl rfl (by rfl) (by decide) rfl (fun ls hl => ?_)
        refine lv_goto (tgt := 7) hx hb d_M_item_43 (by decide) ?_
        exact hJ5 (x2 + (-1)) (x3 + 1) (Option.some.inj hm).symm _ _ _ (lv_sub hl [2, 3, 4, 1, 0] rfl) hst
      · have hm := it_t hm h12
        refine lv_iload hx hb d_M_item_34 (lv_at hl 4 rfl) ?_
        have he := (hR6 _ (Option.some.inj hm).symm)
        cases he
        exact rt_i hx hb hr hlk rfl hst rfl d_M_item_36
    · have hm := it_f hm h11
      refine lv_goto (tgt := 40) hx hb d_M_item_27 (by decide) ?_
      refine lv_iinc (k := 4) (v := (x3 + 1)) (lv' := [(4, .int (x3 + 1)), (0, .ref h), (1, .int v1), (2, .int v2), (3, .int x2)]) hx hb d_M_item_40 hl rfl (by rfl) (by decide) rfl (fun ls hl => ?_)
      refine lv_goto (tgt := 7) hx hb d_M_item_43 (by decide) ?_
      exact hJ5 x2 (x3 + 1) (Option.some.inj hm).symm _ _ _ (lv_sub hl [1, 2, 3, 4, 0] rfl) hst
def mM_items (n : Nat) (v1 : Int32) (g : aG) (a : aA) : Option (Int32) := lt ((v1 + 1)) (fun x1 => lp (ε := Int32 × Int32) (fun q4 => if (g 8) ≤ q4.2 then (some (.inr (q4.1))) else (gd (inb q4.2 41) (lt (a 5 q4.2.toNatClampNeg) (fun x10 => if x10 = v1 then (lt ((q4.1 + 1)) (fun x13 => some (.inl (x13, (q4.2 + 1))))) else (lt ((q4.1 + 0)) (fun x12 => some (.inl (x12, (q4.2 + 1))))))))) n (0, x1))
theorem d_M_items_0 : decode prog_11_method_23_code 0 = .ok (.iconst 0, 1) := by decide +kernel
theorem d_M_items_1 : decode prog_11_method_23_code 1 = .ok (.istore_n 2, 1) := by decide +kernel
theorem d_M_items_2 : decode prog_11_method_23_code 2 = .ok (.iload_n 1, 1) := by decide +kernel
theorem d_M_items_3 : decode prog_11_method_23_code 3 = .ok (.iconst 1, 1) := by decide +kernel
theorem d_M_items_4 : decode prog_11_method_23_code 4 = .ok (.iadd, 1) := by decide +kernel
theorem d_M_items_5 : decode prog_11_method_23_code 5 = .ok (.istore_n 3, 1) := by decide +kernel
theorem d_M_items_6 : decode prog_11_method_23_code 6 = .ok (.iload_n 3, 1) := by decide +kernel
theorem d_M_items_7 : decode prog_11_method_23_code 7 = .ok (.aload_n 0, 1) := by decide +kernel
theorem d_M_items_8 : decode prog_11_method_23_code 8 = .ok (.getfield 124, 3) := by decide +kernel
theorem d_M_items_11 : decode prog_11_method_23_code 11 = .ok (.if_icmp .ge 27, 3) := by decide +kernel
theorem d_M_items_14 : decode prog_11_method_23_code 14 = .ok (.iload_n 2, 1) := by decide +kernel
theorem d_M_items_15 : decode prog_11_method_23_code 15 = .ok (.aload_n 0, 1) := by decide +kernel
theorem d_M_items_16 : decode prog_11_method_23_code 16 = .ok (.getfield 25, 3) := by decide +kernel
theorem d_M_items_19 : decode prog_11_method_23_code 19 = .ok (.iload_n 3, 1) := by decide +kernel
theorem d_M_items_20 : decode prog_11_method_23_code 20 = .ok (.iaload, 1) := by decide +kernel
theorem d_M_items_21 : decode prog_11_method_23_code 21 = .ok (.iload_n 1, 1) := by decide +kernel
theorem d_M_items_22 : decode prog_11_method_23_code 22 = .ok (.if_icmp .ne 7, 3) := by decide +kernel
theorem d_M_items_25 : decode prog_11_method_23_code 25 = .ok (.iconst 1, 1) := by decide +kernel
theorem d_M_items_26 : decode prog_11_method_23_code 26 = .ok (.goto 4, 3) := by decide +kernel
theorem d_M_items_29 : decode prog_11_method_23_code 29 = .ok (.iconst 0, 1) := by decide +kernel
theorem d_M_items_30 : decode prog_11_method_23_code 30 = .ok (.iadd, 1) := by decide +kernel
theorem d_M_items_31 : decode prog_11_method_23_code 31 = .ok (.istore_n 2, 1) := by decide +kernel
theorem d_M_items_32 : decode prog_11_method_23_code 32 = .ok (.iinc 3 1, 3) := by decide +kernel
theorem d_M_items_35 : decode prog_11_method_23_code 35 = .ok (.goto (-29), 3) := by decide +kernel
theorem d_M_items_38 : decode prog_11_method_23_code 38 = .ok (.iload_n 2, 1) := by decide +kernel
theorem d_M_items_39 : decode prog_11_method_23_code 39 = .ok (.ireturn, 1) := by decide +kernel
set_option maxHeartbeats 4000000 in
set_option maxRecDepth 100000 in
theorem cM_items (l : Launch) (dC : Nat → ClassId) (dI : Nat → Nat → Nat) (tk : Nat → ClassId) (A : Nat → Prop) (h : Nat) (L : Nat → Nat) (g : aG) (a : aA) (rw : va_W) (n : Nat) (v1 : Int32) (r0 : Int32) (hm : mM_items n v1 g a = some r0) : CtI l dC dI tk A ⟨"EditorServerModel", "items", "(I)I"⟩ prog_11_method_23_code 4 (some .int) 0 0 [.ref h, .int v1] (oW 0 h ksM spM tk L g a rw) r0 (oW 0 h ksM spM tk L g a rw) := by
  refine ent (by decide) (Nat.le_of_ble_eq_true rfl) ?_
  intro p e s m args below meth c hx hb hr hml hown hlk hG hg hst ls hl
  unfold mM_items at hm
  have hl : lv_has ls 4 [(0, .ref h), (1, .int v1)] := hl
  refine lv_iconst (v := 0) hx hb d_M_items_0 (by decide) ?_
  refine lv_istore_n (lv' := [(2, .int 0), (0, .ref h), (1, .int v1)]) hx hb d_M_items_1 rfl hl (by decide) rfl (fun ls hl => ?_)
  refine lv_iload_n hx hb d_M_items_2 rfl (lv_at hl 2 rfl) ?_
  refine lv_iconst (v := 1) hx hb d_M_items_3 (by decide) ?_
  refine lv_iadd hx hb d_M_items_4 ?_
  refine lv_topi (fun x1 ex1 => ?_)
  have hm := lt_u hm x1 ex1
  refine lv_istore_n (lv' := [(3, .int x1), (2, .int 0), (0, .ref h), (1, .int v1)]) hx hb d_M_items_5 rfl hl (by decide) rfl (fun ls hl => ?_)
  refine lp_u (fun q4 : Int32 × Int32 => ∀ (H : Heap) (locs : List Loc) (ls : Array Slot), lv_has ls 4 [(0, .ref h), (1, .int v1), (2, .int q4.1), (3, .int q4.2)] → St dC dI A s.heap H locs (oW 0 h ksM spM tk L g a rw) → W p l e (rmo 0 0) s m args below meth c H locs 0 0 (MQ below (QI dC dI A r0 (oW 0 h ksM spM tk L g a rw)) args s 0 0 A) (F0 m 6 ls [])) ?_ n (0, x1) hm _ _ _ (lv_sub hl [2, 3, 1, 0] rfl) hst
  rintro ⟨x2, x3⟩ r7 hm hJ50 hR6 H locs ls hl hst
  dsimp only at hm hl hst ⊢
  have hJ5 := fun y0 y1 (e : r7 = .inl (y0, y1)) => hJ50 (y0, y1) e
  dsimp only at hJ5
  refine lv_iload_n hx hb d_M_items_6 rfl (lv_at hl 3 rfl) ?_
  refine lv_aload_n hx hb d_M_items_7 rfl (lv_at hl 0 rfl) ?_
  refine ro_geti hx hb hown hG hg cM hst 8 (by decide) rfl rfl k_1022 d_M_items_8 ?_
  refine lv_icmp_ge (tgt := 38) hx hb d_M_items_11 (by decide) (fun h8 => ?_) (fun h8 => ?_)
  · have hm := it_t hm h8
    refine lv_iload_n hx hb d_M_items_38 rfl (lv_at hl 2 rfl) ?_
    have he := (hR6 _ (Option.some.inj hm).symm)
    cases he
    exact rt_i hx hb hr hlk rfl hst rfl d_M_items_39
  · have hm := it_f hm h8
    refine lv_iload_n hx hb d_M_items_14 rfl (lv_at hl 2 rfl) ?_
    refine lv_aload_n hx hb d_M_items_15 rfl (lv_at hl 0 rfl) ?_
    refine ro_geta hx hb hown hG hg cM hst 13 5 (by decide) rfl rfl k_1027 d_M_items_16 ?_
    refine lv_iload_n hx hb d_M_items_19 rfl (lv_at hl 3 rfl) ?_
    obtain ⟨hn9, hm⟩ := gd_u hm
    refine ro_iald hx hb hg hst 5 rfl hn9 d_M_items_20 ?_
    refine lv_topi (fun x10 ex10 => ?_)
    have hm := lt_u hm x10 ex10
    refine lv_iload_n hx hb d_M_items_21 rfl (lv_at hl 1 rfl) ?_
    refine lv_icmp_ne (tgt := 29) hx hb d_M_items_22 (by decide) (fun h11 => ?_) (fun h11 => ?_)
    · have hm := it_f hm h11
      refine lv_iconst (v := 0) hx hb d_M_items_29 (by decide) ?_
      refine lv_iadd hx hb d_M_items_30 ?_
      refine lv_topi (fun x12 ex12 => ?_)
      have hm := lt_u hm x12 ex12
      refine lv_istore_n (lv' := [(2, .int x12), (0, .ref h), (1, .int v1), (3, .int x3)]) hx hb d_M_items_31 rfl hl (by decide) rfl (fun ls hl => ?_)
      refine lv_iinc (k := 3) (v := (x3 + 1)) (lv' := [(3, .int (x3 + 1)), (2, .int x12), (0, .ref h), (1, .int v1)]) hx hb d_M_items_32 hl rfl (by rfl) (by decide) rfl (fun ls hl => ?_)
      refine lv_goto (tgt := 6) hx hb d_M_items_35 (by decide) ?_
      exact hJ5 x12 (x3 + 1) (Option.some.inj hm).symm _ _ _ (lv_sub hl [2, 3, 1, 0] rfl) hst
    · have hm := it_t hm h11
      refine lv_iconst (v := 1) hx hb d_M_items_25 (by decide) ?_
      refine lv_goto (tgt := 30) hx hb d_M_items_26 (by decide) ?_
      refine lv_iadd hx hb d_M_items_30 ?_
      refine lv_topi (fun x13 ex13 => ?_)
      have hm := lt_u hm x13 ex13
      refine lv_istore_n (lv' := [(2, .int x13), (0, .ref h), (1, .int v1), (3, .int x3)]) hx hb d_M_items_31 rfl hl (by decide) rfl (fun ls hl => ?_)
      refine lv_iinc (k := 3) (v := (x3 + 1)) (lv' := [(3, .int (x3 + 1)), (2, .int x13), (0, .ref h), (1, .int v1)]) hx hb d_M_items_32 hl rfl (by rfl) (by decide) rfl (fun ls hl => ?_)
      refine lv_goto (tgt := 6) hx hb d_M_items_35 (by decide) ?_
      exact hJ5 x13 (x3 + 1) (Option.some.inj hm).symm _ _ _ (lv_sub hl [2, 3, 1, 0] rfl) hst
def mM_fits (n : Nat) (v1 : Int32) (v2 : Int32) (g : aG) (a : aA) : Option (Int32) := bd (mM_isSort n v2 3 g a) (fun x2 => if x2 = 0 then (some (0)) else (bd (mM_items n v2 g a) (fun x6 => jn (α := Int32) (if v1 = 1 then (some (.inl 2)) else (if v1 = 2 then (some (.inl 3)) else (some (.inl 1)))) (fun x10 => if x6 = x10 then (bd (mM_item n v2 0 g a) (fun x14 => bd (mM_documentOf n x14 g a) (fun x17 => if 0 ≤ x17 then (if v1 = 1 then (bd (mM_item n v2 1 g a) (fun x37 => bd (mM_isSort n x37 2 g a) (fun x40 => if x40 = 0 then (some (0)) else (bd (mM_item n v2 1 g a) (fun x44 => gd (inb x44 41) (lt (a 4 x44.toNatClampNeg) (fun x47 => if x47 = 1 then (some (1)) else (some (0))))))))) else (if v1 = 2 then (bd (mM_item n v2 1 g a) (fun x23 => bd (mM_isSort n x23 1 g a) (fun x26 => if x26 = 0 then (some (0)) else (bd (mM_item n v2 2 g a) (fun x30 => bd (mM_isSort n x30 1 g a) (fun x33 => if x33 = 0 then (some (0)) else (some (1)))))))) else (some (1)))) else (some (0))))) else (some (0))))))
theorem d_M_fits_0 : decode prog_11_method_28_code 0 = .ok (.aload_n 0, 1) := by decide +kernel
theorem d_M_fits_1 : decode prog_11_method_28_code 1 = .ok (.iload_n 2, 1) := by decide +kernel
theorem d_M_fits_2 : decode prog_11_method_28_code 2 = .ok (.iconst 3, 1) := by decide +kernel
theorem d_M_fits_3 : decode prog_11_method_28_code 3 = .ok (.invokevirtual 188, 3) := by decide +kernel
theorem d_M_fits_6 : decode prog_11_method_28_code 6 = .ok (.ifCond .eq 43, 3) := by decide +kernel
theorem d_M_fits_9 : decode prog_11_method_28_code 9 = .ok (.aload_n 0, 1) := by decide +kernel
theorem d_M_fits_10 : decode prog_11_method_28_code 10 = .ok (.iload_n 2, 1) := by decide +kernel
theorem d_M_fits_11 : decode prog_11_method_28_code 11 = .ok (.invokevirtual 225, 3) := by decide +kernel
theorem d_M_fits_14 : decode prog_11_method_28_code 14 = .ok (.iload_n 1, 1) := by decide +kernel
theorem d_M_fits_15 : decode prog_11_method_28_code 15 = .ok (.iconst 1, 1) := by decide +kernel
theorem d_M_fits_16 : decode prog_11_method_28_code 16 = .ok (.if_icmp .ne 7, 3) := by decide +kernel
theorem d_M_fits_19 : decode prog_11_method_28_code 19 = .ok (.iconst 2, 1) := by decide +kernel
theorem d_M_fits_20 : decode prog_11_method_28_code 20 = .ok (.goto 13, 3) := by decide +kernel
theorem d_M_fits_23 : decode prog_11_method_28_code 23 = .ok (.iload_n 1, 1) := by decide +kernel
theorem d_M_fits_24 : decode prog_11_method_28_code 24 = .ok (.iconst 2, 1) := by decide +kernel
theorem d_M_fits_25 : decode prog_11_method_28_code 25 = .ok (.if_icmp .ne 7, 3) := by decide +kernel
theorem d_M_fits_28 : decode prog_11_method_28_code 28 = .ok (.iconst 3, 1) := by decide +kernel
theorem d_M_fits_29 : decode prog_11_method_28_code 29 = .ok (.goto 4, 3) := by decide +kernel
theorem d_M_fits_32 : decode prog_11_method_28_code 32 = .ok (.iconst 1, 1) := by decide +kernel
theorem d_M_fits_33 : decode prog_11_method_28_code 33 = .ok (.if_icmp .ne 16, 3) := by decide +kernel
theorem d_M_fits_36 : decode prog_11_method_28_code 36 = .ok (.aload_n 0, 1) := by decide +kernel
theorem d_M_fits_37 : decode prog_11_method_28_code 37 = .ok (.aload_n 0, 1) := by decide +kernel
theorem d_M_fits_38 : decode prog_11_method_28_code 38 = .ok (.iload_n 2, 1) := by decide +kernel
theorem d_M_fits_39 : decode prog_11_method_28_code 39 = .ok (.iconst 0, 1) := by decide +kernel
theorem d_M_fits_40 : decode prog_11_method_28_code 40 = .ok (.invokevirtual 217, 3) := by decide +kernel
theorem d_M_fits_43 : decode prog_11_method_28_code 43 = .ok (.invokevirtual 221, 3) := by decide +kernel
theorem d_M_fits_46 : decode prog_11_method_28_code 46 = .ok (.ifCond .ge 5, 3) := by decide +kernel
theorem d_M_fits_49 : decode prog_11_method_28_code 49 = .ok (.iconst 0, 1) := by decide +kernel
theorem d_M_fits_50 : decode prog_11_method_28_code 50 = .ok (.ireturn, 1) := by decide +kernel
theorem d_M_fits_51 : decode prog_11_method_28_code 51 = .ok (.iload_n 1, 1) := by decide +kernel
theorem d_M_fits_52 : decode prog_11_method_28_code 52 = .ok (.iconst 1, 1) := by decide +kernel
theorem d_M_fits_53 : decode prog_11_method_28_code 53 = .ok (.if_icmp .ne 38, 3) := by decide +kernel
theorem d_M_fits_56 : decode prog_11_method_28_code 56 = .ok (.aload_n 0, 1) := by decide +kernel
theorem d_M_fits_57 : decode prog_11_method_28_code 57 = .ok (.aload_n 0, 1) := by decide +kernel
theorem d_M_fits_58 : decode prog_11_method_28_code 58 = .ok (.iload_n 2, 1) := by decide +kernel
theorem d_M_fits_59 : decode prog_11_method_28_code 59 = .ok (.iconst 1, 1) := by decide +kernel
theorem d_M_fits_60 : decode prog_11_method_28_code 60 = .ok (.invokevirtual 217, 3) := by decide +kernel
theorem d_M_fits_63 : decode prog_11_method_28_code 63 = .ok (.iconst 2, 1) := by decide +kernel
theorem d_M_fits_64 : decode prog_11_method_28_code 64 = .ok (.invokevirtual 188, 3) := by decide +kernel
theorem d_M_fits_67 : decode prog_11_method_28_code 67 = .ok (.ifCond .eq 22, 3) := by decide +kernel
theorem d_M_fits_70 : decode prog_11_method_28_code 70 = .ok (.aload_n 0, 1) := by decide +kernel
theorem d_M_fits_71 : decode prog_11_method_28_code 71 = .ok (.getfield 22, 3) := by decide +kernel
theorem d_M_fits_74 : decode prog_11_method_28_code 74 = .ok (.aload_n 0, 1) := by decide +kernel
theorem d_M_fits_75 : decode prog_11_method_28_code 75 = .ok (.iload_n 2, 1) := by decide +kernel
theorem d_M_fits_76 : decode prog_11_method_28_code 76 = .ok (.iconst 1, 1) := by decide +kernel
theorem d_M_fits_77 : decode prog_11_method_28_code 77 = .ok (.invokevirtual 217, 3) := by decide +kernel
theorem d_M_fits_80 : decode prog_11_method_28_code 80 = .ok (.iaload, 1) := by decide +kernel
theorem d_M_fits_81 : decode prog_11_method_28_code 81 = .ok (.iconst 1, 1) := by decide +kernel
theorem d_M_fits_82 : decode prog_11_method_28_code 82 = .ok (.if_icmp .ne 7, 3) := by decide +kernel
theorem d_M_fits_85 : decode prog_11_method_28_code 85 = .ok (.iconst 1, 1) := by decide +kernel
theorem d_M_fits_86 : decode prog_11_method_28_code 86 = .ok (.goto 4, 3) := by decide +kernel
theorem d_M_fits_89 : decode prog_11_method_28_code 89 = .ok (.iconst 0, 1) := by decide +kernel
theorem d_M_fits_90 : decode prog_11_method_28_code 90 = .ok (.ireturn, 1) := by decide +kernel
theorem d_M_fits_91 : decode prog_11_method_28_code 91 = .ok (.iload_n 1, 1) := by decide +kernel
theorem d_M_fits_92 : decode prog_11_method_28_code 92 = .ok (.iconst 2, 1) := by decide +kernel
theorem d_M_fits_93 : decode prog_11_method_28_code 93 = .ok (.if_icmp .ne 31, 3) := by decide +kernel
theorem d_M_fits_96 : decode prog_11_method_28_code 96 = .ok (.aload_n 0, 1) := by decide +kernel
theorem d_M_fits_97 : decode prog_11_method_28_code 97 = .ok (.aload_n 0, 1) := by decide +kernel
theorem d_M_fits_98 : decode prog_11_method_28_code 98 = .ok (.iload_n 2, 1) := by decide +kernel
theorem d_M_fits_99 : decode prog_11_method_28_code 99 = .ok (.iconst 1, 1) := by decide +kernel
theorem d_M_fits_100 : decode prog_11_method_28_code 100 = .ok (.invokevirtual 217, 3) := by decide +kernel
theorem d_M_fits_103 : decode prog_11_method_28_code 103 = .ok (.iconst 1, 1) := by decide +kernel
theorem d_M_fits_104 : decode prog_11_method_28_code 104 = .ok (.invokevirtual 188, 3) := by decide +kernel
theorem d_M_fits_107 : decode prog_11_method_28_code 107 = .ok (.ifCond .eq 21, 3) := by decide +kernel
theorem d_M_fits_110 : decode prog_11_method_28_code 110 = .ok (.aload_n 0, 1) := by decide +kernel
theorem d_M_fits_111 : decode prog_11_method_28_code 111 = .ok (.aload_n 0, 1) := by decide +kernel
theorem d_M_fits_112 : decode prog_11_method_28_code 112 = .ok (.iload_n 2, 1) := by decide +kernel
theorem d_M_fits_113 : decode prog_11_method_28_code 113 = .ok (.iconst 2, 1) := by decide +kernel
theorem d_M_fits_114 : decode prog_11_method_28_code 114 = .ok (.invokevirtual 217, 3) := by decide +kernel
theorem d_M_fits_117 : decode prog_11_method_28_code 117 = .ok (.iconst 1, 1) := by decide +kernel
theorem d_M_fits_118 : decode prog_11_method_28_code 118 = .ok (.invokevirtual 188, 3) := by decide +kernel
theorem d_M_fits_121 : decode prog_11_method_28_code 121 = .ok (.ifCond .eq 7, 3) := by decide +kernel
theorem d_M_fits_124 : decode prog_11_method_28_code 124 = .ok (.iconst 1, 1) := by decide +kernel
theorem d_M_fits_125 : decode prog_11_method_28_code 125 = .ok (.goto 4, 3) := by decide +kernel
theorem d_M_fits_128 : decode prog_11_method_28_code 128 = .ok (.iconst 0, 1) := by decide +kernel
theorem d_M_fits_129 : decode prog_11_method_28_code 129 = .ok (.ireturn, 1) := by decide +kernel
set_option maxHeartbeats 4000000 in
set_option maxRecDepth 100000 in
theorem cM_fits (l : Launch) (dC : Nat → ClassId) (dI : Nat → Nat → Nat) (tk : Nat → ClassId) (A : Nat → Prop) (h : Nat) (L : Nat → Nat) (g : aG) (a : aA) (rw : va_W) (n : Nat) (v1 : Int32) (v2 : Int32) (r0 : Int32) (hm : mM_fits n v1 v2 g a = some r0) : CtI l dC dI tk A ⟨"EditorServerModel", "fits", "(II)Z"⟩ prog_11_method_28_code 3 (some .boolean) 2 46 [.ref h, .int v1, .int v2] (oW 0 h ksM spM tk L g a rw) r0 (oW 0 h ksM spM tk L g a rw) := by
  refine ent (by decide) (Nat.le_of_ble_eq_true rfl) ?_
  intro p e s m args below meth c hx hb hr hml hown hlk hG hg hst ls hl
  unfold mM_fits at hm
  have hl : lv_has ls 3 [(0, .ref h), (1, .int v1), (2, .int v2)] := hl
  refine lv_aload_n hx hb d_M_fits_0 rfl (lv_at hl 0 rfl) ?_
  refine lv_iload_n hx hb d_M_fits_1 rfl (lv_at hl 2 rfl) ?_
  refine lv_iconst (v := 3) hx hb d_M_fits_2 (by decide) ?_
  obtain ⟨x2, hc3, hm⟩ := bd_u hm
  refine cl_vi hx hb hml hown hG hg (cM_isSort l dC dI tk A h L g a rw n v2 3 _ hc3) (cw_v 2 hG k_1223 k_1225 s_40 k_14 k_1226 (by decide +kernel) ⟨by decide, by decide⟩) hst rfl oW_0 rfl hl.1 rfl (Nat.le_of_ble_eq_true rfl) ⟨Nat.le_refl 0, Nat.le_refl 0⟩ d_M_fits_3 (fun H locs hst => ?_)
  refine lv_if_eq (tgt := 49) hx hb d_M_fits_6 (by decide) (fun h4 => ?_) (fun h4 => ?_)
  · have hm := it_t hm h4
    refine lv_iconst (v := 0) hx hb d_M_fits_49 (by decide) ?_
    have he := (Option.some.inj hm)
    cases he
    exact rt_i hx hb hr hlk (by decide) hst rfl d_M_fits_50
  · have hm := it_f hm h4
    refine lv_aload_n hx hb d_M_fits_9 rfl (lv_at hl 0 rfl) ?_
    refine lv_iload_n hx hb d_M_fits_10 rfl (lv_at hl 2 rfl) ?_
    obtain ⟨x6, hc7, hm⟩ := bd_u hm
    refine cl_vi hx hb hml hown hG hg (cM_items l dC dI tk A h L g a rw n v2 _ hc7) (cw_v 1 hG k_1247 k_1249 s_46 k_14 k_1250 (by decide +kernel) ⟨by decide, by decide⟩) hst rfl oW_0 rfl hl.1 rfl (Nat.le_of_ble_eq_true rfl) ⟨Nat.le_refl 0, Nat.le_refl 0⟩ d_M_fits_11 (fun H locs hst => ?_)
    refine lv_iload_n hx hb d_M_fits_14 rfl (lv_at hl 1 rfl) ?_
    refine lv_iconst (v := 1) hx hb d_M_fits_15 (by decide) ?_
    obtain ⟨qJ8, hm, hLJ8, hR9⟩ := jn_u hm
    have hJ8 : ∀ (x10 : Int32), qJ8 = .inl x10 → ∀ (H : Heap) (locs : List Loc) (ls : Array Slot), lv_has ls 3 [(0, .ref h), (1, .int v1), (2, .int v2)] → St dC dI A s.heap H locs (oW 0 h ksM spM tk L g a rw) → W p l e (rmo 2 46) s m args below meth c H locs 0 0 (MQ below (QI dC dI A r0 (oW 0 h ksM spM tk L g a rw)) args s 0 0 A) (F0 m 33 ls [.int x10, .int x6]) := by
      intro x10 hq H locs ls hl hst
      have hm := hLJ8 _ hq
      refine lv_icmp_ne (tgt := 49) hx hb d_M_fits_33 (by decide) (fun h12 => ?_) (fun h12 => ?_)
      · have hm := it_f hm h12
        refine lv_iconst (v := 0) hx hb d_M_fits_49 (by decide) ?_
        have he := (Option.some.inj hm)
        cases he
        exact rt_i hx hb hr hlk (by decide) hst rfl d_M_fits_50
      · have hm := it_t hm h12
        refine lv_aload_n hx hb d_M_fits_36 rfl (lv_at hl 0 rfl) ?_
        refine lv_aload_n hx hb d_M_fits_37 rfl (lv_at hl 0 rfl) ?_
        refine lv_iload_n hx hb d_M_fits_38 rfl (lv_at hl 2 rfl) ?_
        refine lv_iconst (v := 0) hx hb d_M_fits_39 (by decide) ?_
        obtain ⟨x14, hc15, hm⟩ := bd_u hm
        refine cl_vi hx hb hml hown hG hg (cM_item l dC dI tk A h L g a rw n v2 0 _ hc15) (cw_v 2 hG k_1251 k_1253 s_47 k_14 k_1254 (by decide +kernel) ⟨by decide, by decide⟩) hst rfl oW_0 rfl hl.1 rfl (Nat.le_of_ble_eq_true rfl) ⟨Nat.le_refl 0, Nat.le_refl 0⟩ d_M_fits_40 (fun H locs hst => ?_)
        obtain ⟨x17, hc18, hm⟩ := bd_u hm
        refine cl_vi hx hb hml hown hG hg (cM_documentOf l dC dI tk A h L g a rw n x14 _ hc18) (cw_v 1 hG k_1255 k_1257 s_48 k_14 k_1258 (by decide +kernel) ⟨by decide, by decide⟩) hst rfl oW_0 rfl hl.1 rfl (Nat.le_of_ble_eq_true rfl) ⟨Nat.le_refl 0, Nat.le_refl 0⟩ d_M_fits_43 (fun H locs hst => ?_)
        refine lv_if_ge (tgt := 51) hx hb d_M_fits_46 (by decide) (fun h19 => ?_) (fun h19 => ?_)
        · have hm := it_t hm h19
          refine lv_iload_n hx hb d_M_fits_51 rfl (lv_at hl 1 rfl) ?_
          refine lv_iconst (v := 1) hx hb d_M_fits_52 (by decide) ?_
          refine lv_icmp_ne (tgt := 91) hx hb d_M_fits_53 (by decide) (fun h20 => ?_) (fun h20 => ?_)
          · have hm := it_f hm h20
            refine lv_iload_n hx hb d_M_fits_91 rfl (lv_at hl 1 rfl) ?_
            refine lv_iconst (v := 2) hx hb d_M_fits_92 (by decide) ?_
            refine lv_icmp_ne (tgt := 124) hx hb d_M_fits_93 (by decide) (fun h21 => ?_) (fun h21 => ?_)
            · have hm := it_f hm h21
              refine lv_iconst (v := 1) hx hb d_M_fits_124 (by decide) ?_
              refine lv_goto (tgt := 129) hx hb d_M_fits_125 (by decide) ?_
              have he := (Option.some.inj hm)
              cases he
              exact rt_i hx hb hr hlk (by decide) hst rfl d_M_fits_129
            · have hm := it_t hm h21
              refine lv_aload_n hx hb d_M_fits_96 rfl (lv_at hl 0 rfl) ?_
              refine lv_aload_n hx hb d_M_fits_97 rfl (lv_at hl 0 rfl) ?_
              refine lv_iload_n hx hb d_M_fits_98 rfl (lv_at hl 2 rfl) ?_
              refine lv_iconst (v := 1) hx hb d_M_fits_99 (by decide) ?_
              obtain ⟨x23, hc24, hm⟩ := bd_u hm
              refine cl_vi hx hb hml hown hG hg (cM_item l dC dI tk A h L g a rw n v2 1 _ hc24) (cw_v 2 hG k_1251 k_1253 s_47 k_14 k_1254 (by decide +kernel) ⟨by decide, by decide⟩) hst rfl oW_0 rfl hl.1 rfl (Nat.le_of_ble_eq_true rfl) ⟨Nat.le_refl 0, Nat.le_refl 0⟩ d_M_fits_100 (fun H locs hst => ?_)
              refine lv_iconst (v := 1) hx hb d_M_fits_103 (by decide) ?_
              obtain ⟨x26, hc27, hm⟩ := bd_u hm
              refine cl_vi hx hb hml hown hG hg (cM_isSort l dC dI tk A h L g a rw n x23 1 _ hc27) (cw_v 2 hG k_1223 k_1225 s_40 k_14 k_1226 (by decide +kernel) ⟨by decide, by decide⟩) hst rfl oW_0 rfl hl.1 rfl (Nat.le_of_ble_eq_true rfl) ⟨Nat.le_refl 0, Nat.le_refl 0⟩ d_M_fits_104 (fun H locs hst => ?_)
              refine lv_if_eq (tgt := 128) hx hb d_M_fits_107 (by decide) (fun h28 => ?_) (fun h28 => ?_)
              · have hm := it_t hm h28
                refine lv_iconst (v := 0) hx hb d_M_fits_128 (by decide) ?_
                have he := (Option.some.inj hm)
                cases he
                exact rt_i hx hb hr hlk (by decide) hst rfl d_M_fits_129
              · have hm := it_f hm h28
                refine lv_aload_n hx hb d_M_fits_110 rfl (lv_at hl 0 rfl) ?_
                refine lv_aload_n hx hb d_M_fits_111 rfl (lv_at hl 0 rfl) ?_
                refine lv_iload_n hx hb d_M_fits_112 rfl (lv_at hl 2 rfl) ?_
                refine lv_iconst (v := 2) hx hb d_M_fits_113 (by decide) ?_
                obtain ⟨x30, hc31, hm⟩ := bd_u hm
                refine cl_vi hx hb hml hown hG hg (cM_item l dC dI tk A h L g a rw n v2 2 _ hc31) (cw_v 2 hG k_1251 k_1253 s_47 k_14 k_1254 (by decide +kernel) ⟨by decide, by decide⟩) hst rfl oW_0 rfl hl.1 rfl (Nat.le_of_ble_eq_true rfl) ⟨Nat.le_refl 0, Nat.le_refl 0⟩ d_M_fits_114 (fun H locs hst => ?_)
                refine lv_iconst (v := 1) hx hb d_M_fits_117 (by decide) ?_
                obtain ⟨x33, hc34, hm⟩ := bd_u hm
                refine cl_vi hx hb hml hown hG hg (cM_isSort l dC dI tk A h L g a rw n x30 1 _ hc34) (cw_v 2 hG k_1223 k_1225 s_40 k_14 k_1226 (by decide +kernel) ⟨by decide, by decide⟩) hst rfl oW_0 rfl hl.1 rfl (Nat.le_of_ble_eq_true rfl) ⟨Nat.le_refl 0, Nat.le_refl 0⟩ d_M_fits_118 (fun H locs hst => ?_)
                refine lv_if_eq (tgt := 128) hx hb d_M_fits_121 (by decide) (fun h35 => ?_) (fun h35 => ?_)
                · have hm := it_t hm h35
                  refine lv_iconst (v := 0) hx hb d_M_fits_128 (by decide) ?_
                  have he := (Option.some.inj hm)
                  cases he
                  exact rt_i hx hb hr hlk (by decide) hst rfl d_M_fits_129
                · have hm := it_f hm h35
                  refine lv_iconst (v := 1) hx hb d_M_fits_124 (by decide) ?_
                  refine lv_goto (tgt := 129) hx hb d_M_fits_125 (by decide) ?_
                  have he := (Option.some.inj hm)
                  cases he
                  exact rt_i hx hb hr hlk (by decide) hst rfl d_M_fits_129
          · have hm := it_t hm h20
            refine lv_aload_n hx hb d_M_fits_56 rfl (lv_at hl 0 rfl) ?_
            refine lv_aload_n hx hb d_M_fits_57 rfl (lv_at hl 0 rfl) ?_
            refine lv_iload_n hx hb d_M_fits_58 rfl (lv_at hl 2 rfl) ?_
            refine lv_iconst (v := 1) hx hb d_M_fits_59 (by decide) ?_
            obtain ⟨x37, hc38, hm⟩ := bd_u hm
            refine cl_vi hx hb hml hown hG hg (cM_item l dC dI tk A h L g a rw n v2 1 _ hc38) (cw_v 2 hG k_1251 k_1253 s_47 k_14 k_1254 (by decide +kernel) ⟨by decide, by decide⟩) hst rfl oW_0 rfl hl.1 rfl (Nat.le_of_ble_eq_true rfl) ⟨Nat.le_refl 0, Nat.le_refl 0⟩ d_M_fits_60 (fun H locs hst => ?_)
            refine lv_iconst (v := 2) hx hb d_M_fits_63 (by decide) ?_
            obtain ⟨x40, hc41, hm⟩ := bd_u hm
            refine cl_vi hx hb hml hown hG hg (cM_isSort l dC dI tk A h L g a rw n x37 2 _ hc41) (cw_v 2 hG k_1223 k_1225 s_40 k_14 k_1226 (by decide +kernel) ⟨by decide, by decide⟩) hst rfl oW_0 rfl hl.1 rfl (Nat.le_of_ble_eq_true rfl) ⟨Nat.le_refl 0, Nat.le_refl 0⟩ d_M_fits_64 (fun H locs hst => ?_)
            refine lv_if_eq (tgt := 89) hx hb d_M_fits_67 (by decide) (fun h42 => ?_) (fun h42 => ?_)
            · have hm := it_t hm h42
              refine lv_iconst (v := 0) hx hb d_M_fits_89 (by decide) ?_
              have he := (Option.some.inj hm)
              cases he
              exact rt_i hx hb hr hlk (by decide) hst rfl d_M_fits_90
            · have hm := it_f hm h42
              refine lv_aload_n hx hb d_M_fits_70 rfl (lv_at hl 0 rfl) ?_
              refine ro_geta hx hb hown hG hg cM hst 12 4 (by decide) rfl rfl k_1026 d_M_fits_71 ?_
              refine lv_aload_n hx hb d_M_fits_74 rfl (lv_at hl 0 rfl) ?_
              refine lv_iload_n hx hb d_M_fits_75 rfl (lv_at hl 2 rfl) ?_
              refine lv_iconst (v := 1) hx hb d_M_fits_76 (by decide) ?_
              obtain ⟨x44, hc45, hm⟩ := bd_u hm
              refine cl_vi hx hb hml hown hG hg (cM_item l dC dI tk A h L g a rw n v2 1 _ hc45) (cw_v 2 hG k_1251 k_1253 s_47 k_14 k_1254 (by decide +kernel) ⟨by decide, by decide⟩) hst rfl oW_0 rfl hl.1 rfl (Nat.le_of_ble_eq_true rfl) ⟨Nat.le_refl 0, Nat.le_refl 0⟩ d_M_fits_77 (fun H locs hst => ?_)
              obtain ⟨hn46, hm⟩ := gd_u hm
              refine ro_iald hx hb hg hst 4 rfl hn46 d_M_fits_80 ?_
              refine lv_topi (fun x47 ex47 => ?_)
              have hm := lt_u hm x47 ex47
              refine lv_iconst (v := 1) hx hb d_M_fits_81 (by decide) ?_
              refine lv_icmp_ne (tgt := 89) hx hb d_M_fits_82 (by decide) (fun h48 => ?_) (fun h48 => ?_)
              · have hm := it_f hm h48
                refine lv_iconst (v := 0) hx hb d_M_fits_89 (by decide) ?_
                have he := (Option.some.inj hm)
                cases he
                exact rt_i hx hb hr hlk (by decide) hst rfl d_M_fits_90
              · have hm := it_t hm h48
                refine lv_iconst (v := 1) hx hb d_M_fits_85 (by decide) ?_
                refine lv_goto (tgt := 90) hx hb d_M_fits_86 (by decide) ?_
                have he := (Option.some.inj hm)
                cases he
                exact rt_i hx hb hr hlk (by decide) hst rfl d_M_fits_90
        · have hm := it_f hm h19
          refine lv_iconst (v := 0) hx hb d_M_fits_49 (by decide) ?_
          have he := (Option.some.inj hm)
          cases he
          exact rt_i hx hb hr hlk (by decide) hst rfl d_M_fits_50
    refine lv_icmp_ne (tgt := 23) hx hb d_M_fits_16 (by decide) (fun h49 => ?_) (fun h49 => ?_)
    · have hm := it_f hm h49
      refine lv_iload_n hx hb d_M_fits_23 rfl (lv_at hl 1 rfl) ?_
      refine lv_iconst (v := 2) hx hb d_M_fits_24 (by decide) ?_
      refine lv_icmp_ne (tgt := 32) hx hb d_M_fits_25 (by decide) (fun h50 => ?_) (fun h50 => ?_)
      · have hm := it_f hm h50
        refine lv_iconst (v := 1) hx hb d_M_fits_32 (by decide) ?_
        exact hJ8 1 (Option.some.inj hm).symm _ _ _ (lv_sub hl [0, 1, 2] rfl) hst
      · have hm := it_t hm h50
        refine lv_iconst (v := 3) hx hb d_M_fits_28 (by decide) ?_
        refine lv_goto (tgt := 33) hx hb d_M_fits_29 (by decide) ?_
        exact hJ8 3 (Option.some.inj hm).symm _ _ _ (lv_sub hl [0, 1, 2] rfl) hst
    · have hm := it_t hm h49
      refine lv_iconst (v := 2) hx hb d_M_fits_19 (by decide) ?_
      refine lv_goto (tgt := 33) hx hb d_M_fits_20 (by decide) ?_
      exact hJ8 2 (Option.some.inj hm).symm _ _ _ (lv_sub hl [0, 1, 2] rfl) hst
def mM_spells (n : Nat) (v1 : Int32) (v2 : Int32) (v3 : Int32) (v4 : Int32) (v5 : Int32) (v6 : Int32) (v7 : Int32) (v8 : Int32) (g : aG) (a : aA) : Option (Int32) := jn (α := Int32) (if v3 ≤ 0 then (some (.inl 0)) else (some (.inl 1))) (fun x3 => jn (α := Int32) (if v4 ≤ 0 then (some (.inl 0)) else (some (.inl 1))) (fun x7 => jn (α := Int32) (if v5 ≤ 0 then (some (.inl 0)) else (some (.inl 1))) (fun x11 => jn (α := Int32) (if v6 ≤ 0 then (some (.inl 0)) else (some (.inl 1))) (fun x15 => jn (α := Int32) (if v7 ≤ 0 then (some (.inl 0)) else (some (.inl 1))) (fun x19 => jn (α := Int32) (if v8 ≤ 0 then (some (.inl 0)) else (some (.inl 1))) (fun x23 => lt ((((((x3 + x7) + x11) + x15) + x19) + x23)) (fun x25 => if v2 = x25 then (lp (ε := Int32 × Int32) (fun q29 => if v2 ≤ q29.2 then (gd (okz q29.1) (some (.inr (q29.1)))) else (if q29.1 = 0 then (some (.inl (0, (q29.2 + 1)))) else (gd (inb (v1 + q29.2) 201) (lt (a 8 (v1 + q29.2).toNatClampNeg) (fun x37 => jn (α := Int32) (if q29.2 = 0 then (some (.inl v3)) else (if q29.2 = 1 then (some (.inl v4)) else (if q29.2 = 2 then (some (.inl v5)) else (if q29.2 = 3 then (some (.inl v6)) else (if q29.2 = 4 then (some (.inl v7)) else (some (.inl v8))))))) (fun x40 => if x37 = x40 then (some (.inl (1, (q29.2 + 1)))) else (some (.inl (0, (q29.2 + 1)))))))))) n (1, 0)) else (some (0)))))))))
theorem d_M_spells_0 : decode prog_11_method_18_code 0 = .ok (.iload_n 3, 1) := by decide +kernel
theorem d_M_spells_1 : decode prog_11_method_18_code 1 = .ok (.ifCond .le 7, 3) := by decide +kernel
theorem d_M_spells_4 : decode prog_11_method_18_code 4 = .ok (.iconst 1, 1) := by decide +kernel
theorem d_M_spells_5 : decode prog_11_method_18_code 5 = .ok (.goto 4, 3) := by decide +kernel
theorem d_M_spells_8 : decode prog_11_method_18_code 8 = .ok (.iconst 0, 1) := by decide +kernel
theorem d_M_spells_9 : decode prog_11_method_18_code 9 = .ok (.iload 4, 2) := by decide +kernel
theorem d_M_spells_11 : decode prog_11_method_18_code 11 = .ok (.ifCond .le 7, 3) := by decide +kernel
theorem d_M_spells_14 : decode prog_11_method_18_code 14 = .ok (.iconst 1, 1) := by decide +kernel
theorem d_M_spells_15 : decode prog_11_method_18_code 15 = .ok (.goto 4, 3) := by decide +kernel
theorem d_M_spells_18 : decode prog_11_method_18_code 18 = .ok (.iconst 0, 1) := by decide +kernel
theorem d_M_spells_19 : decode prog_11_method_18_code 19 = .ok (.iadd, 1) := by decide +kernel
theorem d_M_spells_20 : decode prog_11_method_18_code 20 = .ok (.iload 5, 2) := by decide +kernel
theorem d_M_spells_22 : decode prog_11_method_18_code 22 = .ok (.ifCond .le 7, 3) := by decide +kernel
theorem d_M_spells_25 : decode prog_11_method_18_code 25 = .ok (.iconst 1, 1) := by decide +kernel
theorem d_M_spells_26 : decode prog_11_method_18_code 26 = .ok (.goto 4, 3) := by decide +kernel
theorem d_M_spells_29 : decode prog_11_method_18_code 29 = .ok (.iconst 0, 1) := by decide +kernel
theorem d_M_spells_30 : decode prog_11_method_18_code 30 = .ok (.iadd, 1) := by decide +kernel
theorem d_M_spells_31 : decode prog_11_method_18_code 31 = .ok (.iload 6, 2) := by decide +kernel
theorem d_M_spells_33 : decode prog_11_method_18_code 33 = .ok (.ifCond .le 7, 3) := by decide +kernel
theorem d_M_spells_36 : decode prog_11_method_18_code 36 = .ok (.iconst 1, 1) := by decide +kernel
theorem d_M_spells_37 : decode prog_11_method_18_code 37 = .ok (.goto 4, 3) := by decide +kernel
theorem d_M_spells_40 : decode prog_11_method_18_code 40 = .ok (.iconst 0, 1) := by decide +kernel
theorem d_M_spells_41 : decode prog_11_method_18_code 41 = .ok (.iadd, 1) := by decide +kernel
theorem d_M_spells_42 : decode prog_11_method_18_code 42 = .ok (.iload 7, 2) := by decide +kernel
theorem d_M_spells_44 : decode prog_11_method_18_code 44 = .ok (.ifCond .le 7, 3) := by decide +kernel
theorem d_M_spells_47 : decode prog_11_method_18_code 47 = .ok (.iconst 1, 1) := by decide +kernel
theorem d_M_spells_48 : decode prog_11_method_18_code 48 = .ok (.goto 4, 3) := by decide +kernel
theorem d_M_spells_51 : decode prog_11_method_18_code 51 = .ok (.iconst 0, 1) := by decide +kernel
theorem d_M_spells_52 : decode prog_11_method_18_code 52 = .ok (.iadd, 1) := by decide +kernel
theorem d_M_spells_53 : decode prog_11_method_18_code 53 = .ok (.iload 8, 2) := by decide +kernel
theorem d_M_spells_55 : decode prog_11_method_18_code 55 = .ok (.ifCond .le 7, 3) := by decide +kernel
theorem d_M_spells_58 : decode prog_11_method_18_code 58 = .ok (.iconst 1, 1) := by decide +kernel
theorem d_M_spells_59 : decode prog_11_method_18_code 59 = .ok (.goto 4, 3) := by decide +kernel
theorem d_M_spells_62 : decode prog_11_method_18_code 62 = .ok (.iconst 0, 1) := by decide +kernel
theorem d_M_spells_63 : decode prog_11_method_18_code 63 = .ok (.iadd, 1) := by decide +kernel
theorem d_M_spells_64 : decode prog_11_method_18_code 64 = .ok (.istore 9, 2) := by decide +kernel
theorem d_M_spells_66 : decode prog_11_method_18_code 66 = .ok (.iload_n 2, 1) := by decide +kernel
theorem d_M_spells_67 : decode prog_11_method_18_code 67 = .ok (.iload 9, 2) := by decide +kernel
theorem d_M_spells_69 : decode prog_11_method_18_code 69 = .ok (.if_icmp .eq 5, 3) := by decide +kernel
theorem d_M_spells_72 : decode prog_11_method_18_code 72 = .ok (.iconst 0, 1) := by decide +kernel
theorem d_M_spells_73 : decode prog_11_method_18_code 73 = .ok (.ireturn, 1) := by decide +kernel
theorem d_M_spells_74 : decode prog_11_method_18_code 74 = .ok (.iconst 1, 1) := by decide +kernel
theorem d_M_spells_75 : decode prog_11_method_18_code 75 = .ok (.istore 10, 2) := by decide +kernel
theorem d_M_spells_77 : decode prog_11_method_18_code 77 = .ok (.iconst 0, 1) := by decide +kernel
theorem d_M_spells_78 : decode prog_11_method_18_code 78 = .ok (.istore 11, 2) := by decide +kernel
theorem d_M_spells_80 : decode prog_11_method_18_code 80 = .ok (.iload 11, 2) := by decide +kernel
theorem d_M_spells_82 : decode prog_11_method_18_code 82 = .ok (.iload_n 2, 1) := by decide +kernel
theorem d_M_spells_83 : decode prog_11_method_18_code 83 = .ok (.if_icmp .ge 88, 3) := by decide +kernel
theorem d_M_spells_86 : decode prog_11_method_18_code 86 = .ok (.iload 10, 2) := by decide +kernel
theorem d_M_spells_88 : decode prog_11_method_18_code 88 = .ok (.ifCond .eq 74, 3) := by decide +kernel
theorem d_M_spells_91 : decode prog_11_method_18_code 91 = .ok (.aload_n 0, 1) := by decide +kernel
theorem d_M_spells_92 : decode prog_11_method_18_code 92 = .ok (.getfield 34, 3) := by decide +kernel
theorem d_M_spells_95 : decode prog_11_method_18_code 95 = .ok (.iload_n 1, 1) := by decide +kernel
theorem d_M_spells_96 : decode prog_11_method_18_code 96 = .ok (.iload 11, 2) := by decide +kernel
theorem d_M_spells_98 : decode prog_11_method_18_code 98 = .ok (.iadd, 1) := by decide +kernel
theorem d_M_spells_99 : decode prog_11_method_18_code 99 = .ok (.iaload, 1) := by decide +kernel
theorem d_M_spells_100 : decode prog_11_method_18_code 100 = .ok (.iload 11, 2) := by decide +kernel
theorem d_M_spells_102 : decode prog_11_method_18_code 102 = .ok (.ifCond .ne 7, 3) := by decide +kernel
theorem d_M_spells_105 : decode prog_11_method_18_code 105 = .ok (.iload_n 3, 1) := by decide +kernel
theorem d_M_spells_106 : decode prog_11_method_18_code 106 = .ok (.goto 49, 3) := by decide +kernel
theorem d_M_spells_109 : decode prog_11_method_18_code 109 = .ok (.iload 11, 2) := by decide +kernel
theorem d_M_spells_111 : decode prog_11_method_18_code 111 = .ok (.iconst 1, 1) := by decide +kernel
theorem d_M_spells_112 : decode prog_11_method_18_code 112 = .ok (.if_icmp .ne 8, 3) := by decide +kernel
theorem d_M_spells_115 : decode prog_11_method_18_code 115 = .ok (.iload 4, 2) := by decide +kernel
theorem d_M_spells_117 : decode prog_11_method_18_code 117 = .ok (.goto 38, 3) := by decide +kernel
theorem d_M_spells_120 : decode prog_11_method_18_code 120 = .ok (.iload 11, 2) := by decide +kernel
theorem d_M_spells_122 : decode prog_11_method_18_code 122 = .ok (.iconst 2, 1) := by decide +kernel
theorem d_M_spells_123 : decode prog_11_method_18_code 123 = .ok (.if_icmp .ne 8, 3) := by decide +kernel
theorem d_M_spells_126 : decode prog_11_method_18_code 126 = .ok (.iload 5, 2) := by decide +kernel
theorem d_M_spells_128 : decode prog_11_method_18_code 128 = .ok (.goto 27, 3) := by decide +kernel
theorem d_M_spells_131 : decode prog_11_method_18_code 131 = .ok (.iload 11, 2) := by decide +kernel
theorem d_M_spells_133 : decode prog_11_method_18_code 133 = .ok (.iconst 3, 1) := by decide +kernel
theorem d_M_spells_134 : decode prog_11_method_18_code 134 = .ok (.if_icmp .ne 8, 3) := by decide +kernel
theorem d_M_spells_137 : decode prog_11_method_18_code 137 = .ok (.iload 6, 2) := by decide +kernel
theorem d_M_spells_139 : decode prog_11_method_18_code 139 = .ok (.goto 16, 3) := by decide +kernel
theorem d_M_spells_142 : decode prog_11_method_18_code 142 = .ok (.iload 11, 2) := by decide +kernel
theorem d_M_spells_144 : decode prog_11_method_18_code 144 = .ok (.iconst 4, 1) := by decide +kernel
theorem d_M_spells_145 : decode prog_11_method_18_code 145 = .ok (.if_icmp .ne 8, 3) := by decide +kernel
theorem d_M_spells_148 : decode prog_11_method_18_code 148 = .ok (.iload 7, 2) := by decide +kernel
theorem d_M_spells_150 : decode prog_11_method_18_code 150 = .ok (.goto 5, 3) := by decide +kernel
theorem d_M_spells_153 : decode prog_11_method_18_code 153 = .ok (.iload 8, 2) := by decide +kernel
theorem d_M_spells_155 : decode prog_11_method_18_code 155 = .ok (.if_icmp .ne 7, 3) := by decide +kernel
theorem d_M_spells_158 : decode prog_11_method_18_code 158 = .ok (.iconst 1, 1) := by decide +kernel
theorem d_M_spells_159 : decode prog_11_method_18_code 159 = .ok (.goto 4, 3) := by decide +kernel
theorem d_M_spells_162 : decode prog_11_method_18_code 162 = .ok (.iconst 0, 1) := by decide +kernel
theorem d_M_spells_163 : decode prog_11_method_18_code 163 = .ok (.istore 10, 2) := by decide +kernel
theorem d_M_spells_165 : decode prog_11_method_18_code 165 = .ok (.iinc 11 1, 3) := by decide +kernel
theorem d_M_spells_168 : decode prog_11_method_18_code 168 = .ok (.goto (-88), 3) := by decide +kernel
theorem d_M_spells_171 : decode prog_11_method_18_code 171 = .ok (.iload 10, 2) := by decide +kernel
theorem d_M_spells_173 : decode prog_11_method_18_code 173 = .ok (.ireturn, 1) := by decide +kernel
set_option maxHeartbeats 4000000 in
set_option maxRecDepth 100000 in
theorem cM_spells (l : Launch) (dC : Nat → ClassId) (dI : Nat → Nat → Nat) (tk : Nat → ClassId) (A : Nat → Prop) (h : Nat) (L : Nat → Nat) (g : aG) (a : aA) (rw : va_W) (n : Nat) (v1 : Int32) (v2 : Int32) (v3 : Int32) (v4 : Int32) (v5 : Int32) (v6 : Int32) (v7 : Int32) (v8 : Int32) (r0 : Int32) (hm : mM_spells n v1 v2 v3 v4 v5 v6 v7 v8 g a = some r0) : CtI l dC dI tk A ⟨"EditorServerModel", "spells", "(IIIIIIII)Z"⟩ prog_11_method_18_code 12 (some .boolean) 0 0 [.ref h, .int v1, .int v2, .int v3, .int v4, .int v5, .int v6, .int v7, .int v8] (oW 0 h ksM spM tk L g a rw) r0 (oW 0 h ksM spM tk L g a rw) := by
  refine ent (by decide) (Nat.le_of_ble_eq_true rfl) ?_
  intro p e s m args below meth c hx hb hr hml hown hlk hG hg hst ls hl
  unfold mM_spells at hm
  have hl : lv_has ls 12 [(0, .ref h), (1, .int v1), (2, .int v2), (3, .int v3), (4, .int v4), (5, .int v5), (6, .int v6), (7, .int v7), (8, .int v8)] := hl
  refine lv_iload_n hx hb d_M_spells_0 rfl (lv_at hl 3 rfl) ?_
  obtain ⟨qJ1, hm, hLJ1, hR2⟩ := jn_u hm
  have hJ1 : ∀ (x3 : Int32), qJ1 = .inl x3 → ∀ (H : Heap) (locs : List Loc) (ls : Array Slot), lv_has ls 12 [(0, .ref h), (1, .int v1), (2, .int v2), (3, .int v3), (4, .int v4), (5, .int v5), (6, .int v6), (7, .int v7), (8, .int v8)] → St dC dI A s.heap H locs (oW 0 h ksM spM tk L g a rw) → W p l e (rmo 0 0) s m args below meth c H locs 0 0 (MQ below (QI dC dI A r0 (oW 0 h ksM spM tk L g a rw)) args s 0 0 A) (F0 m 9 ls [.int x3]) := by
    intro x3 hq H locs ls hl hst
    have hm := hLJ1 _ hq
    refine lv_iload hx hb d_M_spells_9 (lv_at hl 4 rfl) ?_
    obtain ⟨qJ5, hm, hLJ5, hR6⟩ := jn_u hm
    have hJ5 : ∀ (x7 : Int32), qJ5 = .inl x7 → ∀ (H : Heap) (locs : List Loc) (ls : Array Slot), lv_has ls 12 [(0, .ref h), (1, .int v1), (2, .int v2), (3, .int v3), (4, .int v4), (5, .int v5), (6, .int v6), (7, .int v7), (8, .int v8)] → St dC dI A s.heap H locs (oW 0 h ksM spM tk L g a rw) → W p l e (rmo 0 0) s m args below meth c H locs 0 0 (MQ below (QI dC dI A r0 (oW 0 h ksM spM tk L g a rw)) args s 0 0 A) (F0 m 19 ls [.int x7, .int x3]) := by
      intro x7 hq H locs ls hl hst
      have hm := hLJ5 _ hq
      refine lv_iadd hx hb d_M_spells_19 ?_
      refine lv_iload hx hb d_M_spells_20 (lv_at hl 5 rfl) ?_
      obtain ⟨qJ9, hm, hLJ9, hR10⟩ := jn_u hm
      have hJ9 : ∀ (x11 : Int32), qJ9 = .inl x11 → ∀ (H : Heap) (locs : List Loc) (ls : Array Slot), lv_has ls 12 [(0, .ref h), (1, .int v1), (2, .int v2), (3, .int v3), (4, .int v4), (5, .int v5), (6, .int v6), (7, .int v7), (8, .int v8)] → St dC dI A s.heap H locs (oW 0 h ksM spM tk L g a rw) → W p l e (rmo 0 0) s m args below meth c H locs 0 0 (MQ below (QI dC dI A r0 (oW 0 h ksM spM tk L g a rw)) args s 0 0 A) (F0 m 30 ls [.int x11, .int (x3 + x7)]) := by
        intro x11 hq H locs ls hl hst
        have hm := hLJ9 _ hq
        refine lv_iadd hx hb d_M_spells_30 ?_
        refine lv_iload hx hb d_M_spells_31 (lv_at hl 6 rfl) ?_
        obtain ⟨qJ13, hm, hLJ13, hR14⟩ := jn_u hm
        have hJ13 : ∀ (x15 : Int32), qJ13 = .inl x15 → ∀ (H : Heap) (locs : List Loc) (ls : Array Slot), lv_has ls 12 [(0, .ref h), (1, .int v1), (2, .int v2), (3, .int v3), (4, .int v4), (5, .int v5), (6, .int v6), (7, .int v7), (8, .int v8)] → St dC dI A s.heap H locs (oW 0 h ksM spM tk L g a rw) → W p l e (rmo 0 0) s m args below meth c H locs 0 0 (MQ below (QI dC dI A r0 (oW 0 h ksM spM tk L g a rw)) args s 0 0 A) (F0 m 41 ls [.int x15, .int ((x3 + x7) + x11)]) := by
          intro x15 hq H locs ls hl hst
          have hm := hLJ13 _ hq
          refine lv_iadd hx hb d_M_spells_41 ?_
          refine lv_iload hx hb d_M_spells_42 (lv_at hl 7 rfl) ?_
          obtain ⟨qJ17, hm, hLJ17, hR18⟩ := jn_u hm
          have hJ17 : ∀ (x19 : Int32), qJ17 = .inl x19 → ∀ (H : Heap) (locs : List Loc) (ls : Array Slot), lv_has ls 12 [(0, .ref h), (1, .int v1), (2, .int v2), (3, .int v3), (4, .int v4), (5, .int v5), (6, .int v6), (7, .int v7), (8, .int v8)] → St dC dI A s.heap H locs (oW 0 h ksM spM tk L g a rw) → W p l e (rmo 0 0) s m args below meth c H locs 0 0 (MQ below (QI dC dI A r0 (oW 0 h ksM spM tk L g a rw)) args s 0 0 A) (F0 m 52 ls [.int x19, .int (((x3 + x7) + x11) + x15)]) := by
            intro x19 hq H locs ls hl hst
            have hm := hLJ17 _ hq
            refine lv_iadd hx hb d_M_spells_52 ?_
            refine lv_iload hx hb d_M_spells_53 (lv_at hl 8 rfl) ?_
            obtain ⟨qJ21, hm, hLJ21, hR22⟩ := jn_u hm
            have hJ21 : ∀ (x23 : Int32), qJ21 = .inl x23 → ∀ (H : Heap) (locs : List Loc) (ls : Array Slot), lv_has ls 12 [(0, .ref h), (1, .int v1), (2, .int v2), (3, .int v3), (4, .int v4), (5, .int v5), (6, .int v6), (7, .int v7), (8, .int v8)] → St dC dI A s.heap H locs (oW 0 h ksM spM tk L g a rw) → W p l e (rmo 0 0) s m args below meth c H locs 0 0 (MQ below (QI dC dI A r0 (oW 0 h ksM spM tk L g a rw)) args s 0 0 A) (F0 m 63 ls [.int x23, .int ((((x3 + x7) + x11) + x15) + x19)]) := by
              intro x23 hq H locs ls hl hst
              have hm := hLJ21 _ hq
              refine lv_iadd hx hb d_M_spells_63 ?_
              refine lv_topi (fun x25 ex25 => ?_)
              have hm := lt_u hm x25 ex25
              refine lv_istore (lv' := [(9, .int x25), (0, .ref h), (1, .int v1), (2, .int v2), (3, .int v3), (4, .int v4), (5, .int v5), (6, .int v6), (7, .int v7), (8, .int v8)]) hx hb d_M_spells_64 hl (by decide) rfl (fun ls hl => ?_)
              refine lv_iload_n hx hb d_M_spells_66 rfl (lv_at hl 3 rfl) ?_
              refine lv_iload hx hb d_M_spells_67 (lv_at hl 0 rfl) ?_
              refine lv_icmp_eq (tgt := 74) hx hb d_M_spells_69 (by decide) (fun h26 => ?_) (fun h26 => ?_)
              · have hm := it_t hm h26
                refine lv_iconst (v := 1) hx hb d_M_spells_74 (by decide) ?_
                refine lv_istore (lv' := [(10, .int 1), (9, .int x25), (0, .ref h), (1, .int v1), (2, .int v2), (3, .int v3), (4, .int v4), (5, .int v5), (6, .int v6), (7, .int v7), (8, .int v8)]) hx hb d_M_spells_75 hl (by decide) rfl (fun ls hl => ?_)
                refine lv_iconst (v := 0) hx hb d_M_spells_77 (by decide) ?_
                refine lv_istore (lv' := [(11, .int 0), (10, .int 1), (9, .int x25), (0, .ref h), (1, .int v1), (2, .int v2), (3, .int v3), (4, .int v4), (5, .int v5), (6, .int v6), (7, .int v7), (8, .int v8)]) hx hb d_M_spells_78 hl (by decide) rfl (fun ls hl => ?_)
                refine lp_u (fun q29 : Int32 × Int32 => ∀ (H : Heap) (locs : List Loc) (ls : Array Slot), lv_has ls 12 [(0, .ref h), (1, .int v1), (2, .int v2), (3, .int v3), (4, .int v4), (5, .int v5), (6, .int v6), (7, .int v7), (8, .int v8), (9, .int x25), (10, .int q29.1), (11, .int q29.2)] → St dC dI A s.heap H locs (oW 0 h ksM spM tk L g a rw) → W p l e (rmo 0 0) s m args below meth c H locs 0 0 (MQ below (QI dC dI A r0 (oW 0 h ksM spM tk L g a rw)) args s 0 0 A) (F0 m 80 ls [])) ?_ n (1, 0) hm _ _ _ (lv_sub hl [3, 4, 5, 6, 7, 8, 9, 10, 11, 2, 1, 0] rfl) hst
                rintro ⟨x27, x28⟩ r32 hm hJ300 hR31 H locs ls hl hst
                dsimp only at hm hl hst ⊢
                have hJ30 := fun y0 y1 (e : r32 = .inl (y0, y1)) => hJ300 (y0, y1) e
                dsimp only at hJ30
                refine lv_iload hx hb d_M_spells_80 (lv_at hl 11 rfl) ?_
                refine lv_iload_n hx hb d_M_spells_82 rfl (lv_at hl 2 rfl) ?_
                refine lv_icmp_ge (tgt := 171) hx hb d_M_spells_83 (by decide) (fun h33 => ?_) (fun h33 => ?_)
                · have hm := it_t hm h33
                  refine lv_iload hx hb d_M_spells_171 (lv_at hl 10 rfl) ?_
                  obtain ⟨hn34, hm⟩ := gd_u hm
                  have he := (hR31 _ (Option.some.inj hm).symm)
                  cases he
                  exact rt_i hx hb hr hlk (okz_n hn34).1 hst rfl d_M_spells_173
                · have hm := it_f hm h33
                  refine lv_iload hx hb d_M_spells_86 (lv_at hl 10 rfl) ?_
                  refine lv_if_eq (tgt := 162) hx hb d_M_spells_88 (by decide) (fun h35 => ?_) (fun h35 => ?_)
                  · have hm := it_t hm h35
                    refine lv_iconst (v := 0) hx hb d_M_spells_162 (by decide) ?_
                    refine lv_istore (lv' := [(10, .int 0), (0, .ref h), (1, .int v1), (2, .int v2), (3, .int v3), (4, .int v4), (5, .int v5), (6, .int v6), (7, .int v7), (8, .int v8), (9, .int x25), (11, .int x28)]) hx hb d_M_spells_163 hl (by decide) rfl (fun ls hl => ?_)
                    refine lv_iinc (k := 11) (v := (x28 + 1)) (lv' := [(11, .int (x28 + 1)), (10, .int 0), (0, .ref h), (1, .int v1), (2, .int v2), (3, .int v3), (4, .int v4), (5, .int v5), (6, .int v6), (7, .int v7), (8, .int v8), (9, .int x25)]) hx hb d_M_spells_165 hl rfl (by rfl) (by decide) rfl (fun ls hl => ?_)
                    refine lv_goto (tgt := 80) hx hb d_M_spells_168 (by decide) ?_
                    exact hJ30 0 (x28 + 1) (Option.some.inj hm).symm _ _ _ (lv_sub hl [2, 3, 4, 5, 6, 7, 8, 9, 10, 11, 1, 0] rfl) hst
                  · have hm := it_f hm h35
                    refine lv_aload_n hx hb d_M_spells_91 rfl (lv_at hl 0 rfl) ?_
                    refine ro_geta hx hb hown hG hg cM hst 16 8 (by decide) rfl rfl k_1030 d_M_spells_92 ?_
                    refine lv_iload_n hx hb d_M_spells_95 rfl (lv_at hl 1 rfl) ?_
                    refine lv_iload hx hb d_M_spells_96 (lv_at hl 11 rfl) ?_
                    refine lv_iadd hx hb d_M_spells_98 ?_
                    obtain ⟨hn36, hm⟩ := gd_u hm
                    refine ro_iald hx hb hg hst 8 rfl hn36 d_M_spells_99 ?_
                    refine lv_topi (fun x37 ex37 => ?_)
                    have hm := lt_u hm x37 ex37
                    refine lv_iload hx hb d_M_spells_100 (lv_at hl 11 rfl) ?_
                    obtain ⟨qJ38, hm, hLJ38, hR39⟩ := jn_u hm
                    have hJ38 : ∀ (x40 : Int32), qJ38 = .inl x40 → ∀ (H : Heap) (locs : List Loc) (ls : Array Slot), lv_has ls 12 [(0, .ref h), (1, .int v1), (2, .int v2), (3, .int v3), (4, .int v4), (5, .int v5), (6, .int v6), (7, .int v7), (8, .int v8), (9, .int x25), (10, .int x27), (11, .int x28)] → St dC dI A s.heap H locs (oW 0 h ksM spM tk L g a rw) → W p l e (rmo 0 0) s m args below meth c H locs 0 0 (MQ below (QI dC dI A r0 (oW 0 h ksM spM tk L g a rw)) args s 0 0 A) (F0 m 155 ls [.int x40, .int x37]) := by
                      intro x40 hq H locs ls hl hst
                      have hm := hLJ38 _ hq
                      refine lv_icmp_ne (tgt := 162) hx hb d_M_spells_155 (by decide) (fun h42 => ?_) (fun h42 => ?_)
                      · have hm := it_f hm h42
                        refine lv_iconst (v := 0) hx hb d_M_spells_162 (by decide) ?_
                        refine lv_istore (lv' := [(10, .int 0), (0, .ref h), (1, .int v1), (2, .int v2), (3, .int v3), (4, .int v4), (5, .int v5), (6, .int v6), (7, .int v7), (8, .int v8), (9, .int x25), (11, .int x28)]) hx hb d_M_spells_163 hl (by decide) rfl (fun ls hl => ?_)
                        refine lv_iinc (k := 11) (v := (x28 + 1)) (lv' := [(11, .int (x28 + 1)), (10, .int 0), (0, .ref h), (1, .int v1), (2, .int v2), (3, .int v3), (4, .int v4), (5, .int v5), (6, .int v6), (7, .int v7), (8, .int v8), (9, .int x25)]) hx hb d_M_spells_165 hl rfl (by rfl) (by decide) rfl (fun ls hl => ?_)
                        refine lv_goto (tgt := 80) hx hb d_M_spells_168 (by decide) ?_
                        exact hJ30 0 (x28 + 1) (Option.some.inj hm).symm _ _ _ (lv_sub hl [2, 3, 4, 5, 6, 7, 8, 9, 10, 11, 1, 0] rfl) hst
                      · have hm := it_t hm h42
                        refine lv_iconst (v := 1) hx hb d_M_spells_158 (by decide) ?_
                        refine lv_goto (tgt := 163) hx hb d_M_spells_159 (by decide) ?_
                        refine lv_istore (lv' := [(10, .int 1), (0, .ref h), (1, .int v1), (2, .int v2), (3, .int v3), (4, .int v4), (5, .int v5), (6, .int v6), (7, .int v7), (8, .int v8), (9, .int x25), (11, .int x28)]) hx hb d_M_spells_163 hl (by decide) rfl (fun ls hl => ?_)
                        refine lv_iinc (k := 11) (v := (x28 + 1)) (lv' := [(11, .int (x28 + 1)), (10, .int 1), (0, .ref h), (1, .int v1), (2, .int v2), (3, .int v3), (4, .int v4), (5, .int v5), (6, .int v6), (7, .int v7), (8, .int v8), (9, .int x25)]) hx hb d_M_spells_165 hl rfl (by rfl) (by decide) rfl (fun ls hl => ?_)
                        refine lv_goto (tgt := 80) hx hb d_M_spells_168 (by decide) ?_
                        exact hJ30 1 (x28 + 1) (Option.some.inj hm).symm _ _ _ (lv_sub hl [2, 3, 4, 5, 6, 7, 8, 9, 10, 11, 1, 0] rfl) hst
                    refine lv_if_ne (tgt := 109) hx hb d_M_spells_102 (by decide) (fun h43 => ?_) (fun h43 => ?_)
                    · have hm := it_f hm h43
                      refine lv_iload hx hb d_M_spells_109 (lv_at hl 11 rfl) ?_
                      refine lv_iconst (v := 1) hx hb d_M_spells_111 (by decide) ?_
                      refine lv_icmp_ne (tgt := 120) hx hb d_M_spells_112 (by decide) (fun h44 => ?_) (fun h44 => ?_)
                      · have hm := it_f hm h44
                        refine lv_iload hx hb d_M_spells_120 (lv_at hl 11 rfl) ?_
                        refine lv_iconst (v := 2) hx hb d_M_spells_122 (by decide) ?_
                        refine lv_icmp_ne (tgt := 131) hx hb d_M_spells_123 (by decide) (fun h45 => ?_) (fun h45 => ?_)
                        · have hm := it_f hm h45
                          refine lv_iload hx hb d_M_spells_131 (lv_at hl 11 rfl) ?_
                          refine lv_iconst (v := 3) hx hb d_M_spells_133 (by decide) ?_
                          refine lv_icmp_ne (tgt := 142) hx hb d_M_spells_134 (by decide) (fun h46 => ?_) (fun h46 => ?_)
                          · have hm := it_f hm h46
                            refine lv_iload hx hb d_M_spells_142 (lv_at hl 11 rfl) ?_
                            refine lv_iconst (v := 4) hx hb d_M_spells_144 (by decide) ?_
                            refine lv_icmp_ne (tgt := 153) hx hb d_M_spells_145 (by decide) (fun h47 => ?_) (fun h47 => ?_)
                            · have hm := it_f hm h47
                              refine lv_iload hx hb d_M_spells_153 (lv_at hl 8 rfl) ?_
                              exact hJ38 v8 (Option.some.inj hm).symm _ _ _ (lv_sub hl [0, 1, 2, 3, 4, 5, 6, 7, 8, 9, 10, 11] rfl) hst
                            · have hm := it_t hm h47
                              refine lv_iload hx hb d_M_spells_148 (lv_at hl 7 rfl) ?_
                              refine lv_goto (tgt := 155) hx hb d_M_spells_150 (by decide) ?_
                              exact hJ38 v7 (Option.some.inj hm).symm _ _ _ (lv_sub hl [0, 1, 2, 3, 4, 5, 6, 7, 8, 9, 10, 11] rfl) hst
                          · have hm := it_t hm h46
                            refine lv_iload hx hb d_M_spells_137 (lv_at hl 6 rfl) ?_
                            refine lv_goto (tgt := 155) hx hb d_M_spells_139 (by decide) ?_
                            exact hJ38 v6 (Option.some.inj hm).symm _ _ _ (lv_sub hl [0, 1, 2, 3, 4, 5, 6, 7, 8, 9, 10, 11] rfl) hst
                        · have hm := it_t hm h45
                          refine lv_iload hx hb d_M_spells_126 (lv_at hl 5 rfl) ?_
                          refine lv_goto (tgt := 155) hx hb d_M_spells_128 (by decide) ?_
                          exact hJ38 v5 (Option.some.inj hm).symm _ _ _ (lv_sub hl [0, 1, 2, 3, 4, 5, 6, 7, 8, 9, 10, 11] rfl) hst
                      · have hm := it_t hm h44
                        refine lv_iload hx hb d_M_spells_115 (lv_at hl 4 rfl) ?_
                        refine lv_goto (tgt := 155) hx hb d_M_spells_117 (by decide) ?_
                        exact hJ38 v4 (Option.some.inj hm).symm _ _ _ (lv_sub hl [0, 1, 2, 3, 4, 5, 6, 7, 8, 9, 10, 11] rfl) hst
                    · have hm := it_t hm h43
                      refine lv_iload_n hx hb d_M_spells_105 rfl (lv_at hl 3 rfl) ?_
                      refine lv_goto (tgt := 155) hx hb d_M_spells_106 (by decide) ?_
                      exact hJ38 v3 (Option.some.inj hm).symm _ _ _ (lv_sub hl [0, 1, 2, 3, 4, 5, 6, 7, 8, 9, 10, 11] rfl) hst
              · have hm := it_f hm h26
                refine lv_iconst (v := 0) hx hb d_M_spells_72 (by decide) ?_
                have he := (Option.some.inj hm)
                cases he
                exact rt_i hx hb hr hlk (by decide) hst rfl d_M_spells_73
            refine lv_if_le (tgt := 62) hx hb d_M_spells_55 (by decide) (fun h48 => ?_) (fun h48 => ?_)
            · have hm := it_t hm h48
              refine lv_iconst (v := 0) hx hb d_M_spells_62 (by decide) ?_
              exact hJ21 0 (Option.some.inj hm).symm _ _ _ (lv_sub hl [0, 1, 2, 3, 4, 5, 6, 7, 8] rfl) hst
            · have hm := it_f hm h48
              refine lv_iconst (v := 1) hx hb d_M_spells_58 (by decide) ?_
              refine lv_goto (tgt := 63) hx hb d_M_spells_59 (by decide) ?_
              exact hJ21 1 (Option.some.inj hm).symm _ _ _ (lv_sub hl [0, 1, 2, 3, 4, 5, 6, 7, 8] rfl) hst
          refine lv_if_le (tgt := 51) hx hb d_M_spells_44 (by decide) (fun h49 => ?_) (fun h49 => ?_)
          · have hm := it_t hm h49
            refine lv_iconst (v := 0) hx hb d_M_spells_51 (by decide) ?_
            exact hJ17 0 (Option.some.inj hm).symm _ _ _ (lv_sub hl [0, 1, 2, 3, 4, 5, 6, 7, 8] rfl) hst
          · have hm := it_f hm h49
            refine lv_iconst (v := 1) hx hb d_M_spells_47 (by decide) ?_
            refine lv_goto (tgt := 52) hx hb d_M_spells_48 (by decide) ?_
            exact hJ17 1 (Option.some.inj hm).symm _ _ _ (lv_sub hl [0, 1, 2, 3, 4, 5, 6, 7, 8] rfl) hst
        refine lv_if_le (tgt := 40) hx hb d_M_spells_33 (by decide) (fun h50 => ?_) (fun h50 => ?_)
        · have hm := it_t hm h50
          refine lv_iconst (v := 0) hx hb d_M_spells_40 (by decide) ?_
          exact hJ13 0 (Option.some.inj hm).symm _ _ _ (lv_sub hl [0, 1, 2, 3, 4, 5, 6, 7, 8] rfl) hst
        · have hm := it_f hm h50
          refine lv_iconst (v := 1) hx hb d_M_spells_36 (by decide) ?_
          refine lv_goto (tgt := 41) hx hb d_M_spells_37 (by decide) ?_
          exact hJ13 1 (Option.some.inj hm).symm _ _ _ (lv_sub hl [0, 1, 2, 3, 4, 5, 6, 7, 8] rfl) hst
      refine lv_if_le (tgt := 29) hx hb d_M_spells_22 (by decide) (fun h51 => ?_) (fun h51 => ?_)
      · have hm := it_t hm h51
        refine lv_iconst (v := 0) hx hb d_M_spells_29 (by decide) ?_
        exact hJ9 0 (Option.some.inj hm).symm _ _ _ (lv_sub hl [0, 1, 2, 3, 4, 5, 6, 7, 8] rfl) hst
      · have hm := it_f hm h51
        refine lv_iconst (v := 1) hx hb d_M_spells_25 (by decide) ?_
        refine lv_goto (tgt := 30) hx hb d_M_spells_26 (by decide) ?_
        exact hJ9 1 (Option.some.inj hm).symm _ _ _ (lv_sub hl [0, 1, 2, 3, 4, 5, 6, 7, 8] rfl) hst
    refine lv_if_le (tgt := 18) hx hb d_M_spells_11 (by decide) (fun h52 => ?_) (fun h52 => ?_)
    · have hm := it_t hm h52
      refine lv_iconst (v := 0) hx hb d_M_spells_18 (by decide) ?_
      exact hJ5 0 (Option.some.inj hm).symm _ _ _ (lv_sub hl [0, 1, 2, 3, 4, 5, 6, 7, 8] rfl) hst
    · have hm := it_f hm h52
      refine lv_iconst (v := 1) hx hb d_M_spells_14 (by decide) ?_
      refine lv_goto (tgt := 19) hx hb d_M_spells_15 (by decide) ?_
      exact hJ5 1 (Option.some.inj hm).symm _ _ _ (lv_sub hl [0, 1, 2, 3, 4, 5, 6, 7, 8] rfl) hst
  refine lv_if_le (tgt := 8) hx hb d_M_spells_1 (by decide) (fun h53 => ?_) (fun h53 => ?_)
  · have hm := it_t hm h53
    refine lv_iconst (v := 0) hx hb d_M_spells_8 (by decide) ?_
    exact hJ1 0 (Option.some.inj hm).symm _ _ _ (lv_sub hl [0, 1, 2, 3, 4, 5, 6, 7, 8] rfl) hst
  · have hm := it_f hm h53
    refine lv_iconst (v := 1) hx hb d_M_spells_4 (by decide) ?_
    refine lv_goto (tgt := 9) hx hb d_M_spells_5 (by decide) ?_
    exact hJ1 1 (Option.some.inj hm).symm _ _ _ (lv_sub hl [0, 1, 2, 3, 4, 5, 6, 7, 8] rfl) hst
def mM_isInitialize (n : Nat) (v1 : Int32) (g : aG) (a : aA) : Option (Int32) := gd (inb v1 41) (lt (a 4 v1.toNatClampNeg) (fun x2 => if x2 = 10 then (gd (inb v1 41) (lt (a 3 v1.toNatClampNeg) (fun x5 => bd (mM_spells n x5 6 105 110 105 116 105 97 g a) (fun x7 => if x7 = 0 then (some (0)) else (gd (inb v1 41) (lt (a 3 v1.toNatClampNeg) (fun x11 => bd (mM_spells n (x11 + 6) 4 108 105 122 101 0 0 g a) (fun x13 => if x13 = 0 then (some (0)) else (some (1)))))))))) else (some (0))))
theorem d_M_isInitialize_0 : decode prog_11_method_20_code 0 = .ok (.aload_n 0, 1) := by decide +kernel
theorem d_M_isInitialize_1 : decode prog_11_method_20_code 1 = .ok (.getfield 22, 3) := by decide +kernel
theorem d_M_isInitialize_4 : decode prog_11_method_20_code 4 = .ok (.iload_n 1, 1) := by decide +kernel
theorem d_M_isInitialize_5 : decode prog_11_method_20_code 5 = .ok (.iaload, 1) := by decide +kernel
theorem d_M_isInitialize_6 : decode prog_11_method_20_code 6 = .ok (.bipush 10, 2) := by decide +kernel
theorem d_M_isInitialize_8 : decode prog_11_method_20_code 8 = .ok (.if_icmp .ne 61, 3) := by decide +kernel
theorem d_M_isInitialize_11 : decode prog_11_method_20_code 11 = .ok (.aload_n 0, 1) := by decide +kernel
theorem d_M_isInitialize_12 : decode prog_11_method_20_code 12 = .ok (.aload_n 0, 1) := by decide +kernel
theorem d_M_isInitialize_13 : decode prog_11_method_20_code 13 = .ok (.getfield 19, 3) := by decide +kernel
theorem d_M_isInitialize_16 : decode prog_11_method_20_code 16 = .ok (.iload_n 1, 1) := by decide +kernel
theorem d_M_isInitialize_17 : decode prog_11_method_20_code 17 = .ok (.iaload, 1) := by decide +kernel
theorem d_M_isInitialize_18 : decode prog_11_method_20_code 18 = .ok (.bipush 6, 2) := by decide +kernel
theorem d_M_isInitialize_20 : decode prog_11_method_20_code 20 = .ok (.bipush 105, 2) := by decide +kernel
theorem d_M_isInitialize_22 : decode prog_11_method_20_code 22 = .ok (.bipush 110, 2) := by decide +kernel
theorem d_M_isInitialize_24 : decode prog_11_method_20_code 24 = .ok (.bipush 105, 2) := by decide +kernel
theorem d_M_isInitialize_26 : decode prog_11_method_20_code 26 = .ok (.bipush 116, 2) := by decide +kernel
theorem d_M_isInitialize_28 : decode prog_11_method_20_code 28 = .ok (.bipush 105, 2) := by decide +kernel
theorem d_M_isInitialize_30 : decode prog_11_method_20_code 30 = .ok (.bipush 97, 2) := by decide +kernel
theorem d_M_isInitialize_32 : decode prog_11_method_20_code 32 = .ok (.invokevirtual 170, 3) := by decide +kernel
theorem d_M_isInitialize_35 : decode prog_11_method_20_code 35 = .ok (.ifCond .eq 34, 3) := by decide +kernel
theorem d_M_isInitialize_38 : decode prog_11_method_20_code 38 = .ok (.aload_n 0, 1) := by decide +kernel
theorem d_M_isInitialize_39 : decode prog_11_method_20_code 39 = .ok (.aload_n 0, 1) := by decide +kernel
theorem d_M_isInitialize_40 : decode prog_11_method_20_code 40 = .ok (.getfield 19, 3) := by decide +kernel
theorem d_M_isInitialize_43 : decode prog_11_method_20_code 43 = .ok (.iload_n 1, 1) := by decide +kernel
theorem d_M_isInitialize_44 : decode prog_11_method_20_code 44 = .ok (.iaload, 1) := by decide +kernel
theorem d_M_isInitialize_45 : decode prog_11_method_20_code 45 = .ok (.bipush 6, 2) := by decide +kernel
theorem d_M_isInitialize_47 : decode prog_11_method_20_code 47 = .ok (.iadd, 1) := by decide +kernel
theorem d_M_isInitialize_48 : decode prog_11_method_20_code 48 = .ok (.iconst 4, 1) := by decide +kernel
theorem d_M_isInitialize_49 : decode prog_11_method_20_code 49 = .ok (.bipush 108, 2) := by decide +kernel
theorem d_M_isInitialize_51 : decode prog_11_method_20_code 51 = .ok (.bipush 105, 2) := by decide +kernel
theorem d_M_isInitialize_53 : decode prog_11_method_20_code 53 = .ok (.bipush 122, 2) := by decide +kernel
theorem d_M_isInitialize_55 : decode prog_11_method_20_code 55 = .ok (.bipush 101, 2) := by decide +kernel
theorem d_M_isInitialize_57 : decode prog_11_method_20_code 57 = .ok (.iconst 0, 1) := by decide +kernel
theorem d_M_isInitialize_58 : decode prog_11_method_20_code 58 = .ok (.iconst 0, 1) := by decide +kernel
theorem d_M_isInitialize_59 : decode prog_11_method_20_code 59 = .ok (.invokevirtual 170, 3) := by decide +kernel
theorem d_M_isInitialize_62 : decode prog_11_method_20_code 62 = .ok (.ifCond .eq 7, 3) := by decide +kernel
theorem d_M_isInitialize_65 : decode prog_11_method_20_code 65 = .ok (.iconst 1, 1) := by decide +kernel
theorem d_M_isInitialize_66 : decode prog_11_method_20_code 66 = .ok (.goto 4, 3) := by decide +kernel
theorem d_M_isInitialize_69 : decode prog_11_method_20_code 69 = .ok (.iconst 0, 1) := by decide +kernel
theorem d_M_isInitialize_70 : decode prog_11_method_20_code 70 = .ok (.ireturn, 1) := by decide +kernel
set_option maxHeartbeats 4000000 in
set_option maxRecDepth 100000 in
theorem cM_isInitialize (l : Launch) (dC : Nat → ClassId) (dI : Nat → Nat → Nat) (tk : Nat → ClassId) (A : Nat → Prop) (h : Nat) (L : Nat → Nat) (g : aG) (a : aA) (rw : va_W) (n : Nat) (v1 : Int32) (r0 : Int32) (hm : mM_isInitialize n v1 g a = some r0) : CtI l dC dI tk A ⟨"EditorServerModel", "isInitialize", "(I)Z"⟩ prog_11_method_20_code 2 (some .boolean) 1 31 [.ref h, .int v1] (oW 0 h ksM spM tk L g a rw) r0 (oW 0 h ksM spM tk L g a rw) := by
  refine ent (by decide) (Nat.le_of_ble_eq_true rfl) ?_
  intro p e s m args below meth c hx hb hr hml hown hlk hG hg hst ls hl
  unfold mM_isInitialize at hm
  have hl : lv_has ls 2 [(0, .ref h), (1, .int v1)] := hl
  refine lv_aload_n hx hb d_M_isInitialize_0 rfl (lv_at hl 0 rfl) ?_
  refine ro_geta hx hb hown hG hg cM hst 12 4 (by decide) rfl rfl k_1026 d_M_isInitialize_1 ?_
  refine lv_iload_n hx hb d_M_isInitialize_4 rfl (lv_at hl 1 rfl) ?_
  obtain ⟨hn1, hm⟩ := gd_u hm
  refine ro_iald hx hb hg hst 4 rfl hn1 d_M_isInitialize_5 ?_
  refine lv_topi (fun x2 ex2 => ?_)
  have hm := lt_u hm x2 ex2
  refine lv_bipush (v := 10) hx hb d_M_isInitialize_6 (by decide) ?_
  refine lv_icmp_ne (tgt := 69) hx hb d_M_isInitialize_8 (by decide) (fun h3 => ?_) (fun h3 => ?_)
  · have hm := it_f hm h3
    refine lv_iconst (v := 0) hx hb d_M_isInitialize_69 (by decide) ?_
    have he := (Option.some.inj hm)
    cases he
    exact rt_i hx hb hr hlk (by decide) hst rfl d_M_isInitialize_70
  · have hm := it_t hm h3
    refine lv_aload_n hx hb d_M_isInitialize_11 rfl (lv_at hl 0 rfl) ?_
    refine lv_aload_n hx hb d_M_isInitialize_12 rfl (lv_at hl 0 rfl) ?_
    refine ro_geta hx hb hown hG hg cM hst 11 3 (by decide) rfl rfl k_1025 d_M_isInitialize_13 ?_
    refine lv_iload_n hx hb d_M_isInitialize_16 rfl (lv_at hl 1 rfl) ?_
    obtain ⟨hn4, hm⟩ := gd_u hm
    refine ro_iald hx hb hg hst 3 rfl hn4 d_M_isInitialize_17 ?_
    refine lv_topi (fun x5 ex5 => ?_)
    have hm := lt_u hm x5 ex5
    refine lv_bipush (v := 6) hx hb d_M_isInitialize_18 (by decide) ?_
    refine lv_bipush (v := 105) hx hb d_M_isInitialize_20 (by decide) ?_
    refine lv_bipush (v := 110) hx hb d_M_isInitialize_22 (by decide) ?_
    refine lv_bipush (v := 105) hx hb d_M_isInitialize_24 (by decide) ?_
    refine lv_bipush (v := 116) hx hb d_M_isInitialize_26 (by decide) ?_
    refine lv_bipush (v := 105) hx hb d_M_isInitialize_28 (by decide) ?_
    refine lv_bipush (v := 97) hx hb d_M_isInitialize_30 (by decide) ?_
    obtain ⟨x7, hc8, hm⟩ := bd_u hm
    refine cl_vi hx hb hml hown hG hg (cM_spells l dC dI tk A h L g a rw n x5 6 105 110 105 116 105 97 _ hc8) (cw_v 8 hG k_1219 k_1221 s_39 k_14 k_1222 (by decide +kernel) ⟨by decide, by decide⟩) hst rfl oW_0 rfl hl.1 rfl (Nat.le_of_ble_eq_true rfl) ⟨Nat.le_refl 0, Nat.le_refl 0⟩ d_M_isInitialize_32 (fun H locs hst => ?_)
    refine lv_if_eq (tgt := 69) hx hb d_M_isInitialize_35 (by decide) (fun h9 => ?_) (fun h9 => ?_)
    · have hm := it_t hm h9
      refine lv_iconst (v := 0) hx hb d_M_isInitialize_69 (by decide) ?_
      have he := (Option.some.inj hm)
      cases he
      exact rt_i hx hb hr hlk (by decide) hst rfl d_M_isInitialize_70
    · have hm := it_f hm h9
      refine lv_aload_n hx hb d_M_isInitialize_38 rfl (lv_at hl 0 rfl) ?_
      refine lv_aload_n hx hb d_M_isInitialize_39 rfl (lv_at hl 0 rfl) ?_
      refine ro_geta hx hb hown hG hg cM hst 11 3 (by decide) rfl rfl k_1025 d_M_isInitialize_40 ?_
      refine lv_iload_n hx hb d_M_isInitialize_43 rfl (lv_at hl 1 rfl) ?_
      obtain ⟨hn10, hm⟩ := gd_u hm
      refine ro_iald hx hb hg hst 3 rfl hn10 d_M_isInitialize_44 ?_
      refine lv_topi (fun x11 ex11 => ?_)
      have hm := lt_u hm x11 ex11
      refine lv_bipush (v := 6) hx hb d_M_isInitialize_45 (by decide) ?_
      refine lv_iadd hx hb d_M_isInitialize_47 ?_
      refine lv_iconst (v := 4) hx hb d_M_isInitialize_48 (by decide) ?_
      refine lv_bipush (v := 108) hx hb d_M_isInitialize_49 (by decide) ?_
      refine lv_bipush (v := 105) hx hb d_M_isInitialize_51 (by decide) ?_
      refine lv_bipush (v := 122) hx hb d_M_isInitialize_53 (by decide) ?_
      refine lv_bipush (v := 101) hx hb d_M_isInitialize_55 (by decide) ?_
      refine lv_iconst (v := 0) hx hb d_M_isInitialize_57 (by decide) ?_
      refine lv_iconst (v := 0) hx hb d_M_isInitialize_58 (by decide) ?_
      obtain ⟨x13, hc14, hm⟩ := bd_u hm
      refine cl_vi hx hb hml hown hG hg (cM_spells l dC dI tk A h L g a rw n (x11 + 6) 4 108 105 122 101 0 0 _ hc14) (cw_v 8 hG k_1219 k_1221 s_39 k_14 k_1222 (by decide +kernel) ⟨by decide, by decide⟩) hst rfl oW_0 rfl hl.1 rfl (Nat.le_of_ble_eq_true rfl) ⟨Nat.le_refl 0, Nat.le_refl 0⟩ d_M_isInitialize_59 (fun H locs hst => ?_)
      refine lv_if_eq (tgt := 69) hx hb d_M_isInitialize_62 (by decide) (fun h15 => ?_) (fun h15 => ?_)
      · have hm := it_t hm h15
        refine lv_iconst (v := 0) hx hb d_M_isInitialize_69 (by decide) ?_
        have he := (Option.some.inj hm)
        cases he
        exact rt_i hx hb hr hlk (by decide) hst rfl d_M_isInitialize_70
      · have hm := it_f hm h15
        refine lv_iconst (v := 1) hx hb d_M_isInitialize_65 (by decide) ?_
        refine lv_goto (tgt := 70) hx hb d_M_isInitialize_66 (by decide) ?_
        have he := (Option.some.inj hm)
        cases he
        exact rt_i hx hb hr hlk (by decide) hst rfl d_M_isInitialize_70
def mM_isShutdown (n : Nat) (v1 : Int32) (g : aG) (a : aA) : Option (Int32) := gd (inb v1 41) (lt (a 4 v1.toNatClampNeg) (fun x2 => if x2 = 8 then (gd (inb v1 41) (lt (a 3 v1.toNatClampNeg) (fun x5 => bd (mM_spells n x5 6 115 104 117 116 100 111 g a) (fun x7 => if x7 = 0 then (some (0)) else (gd (inb v1 41) (lt (a 3 v1.toNatClampNeg) (fun x11 => bd (mM_spells n (x11 + 6) 2 119 110 0 0 0 0 g a) (fun x13 => if x13 = 0 then (some (0)) else (some (1)))))))))) else (some (0))))
theorem d_M_isShutdown_0 : decode prog_11_method_21_code 0 = .ok (.aload_n 0, 1) := by decide +kernel
theorem d_M_isShutdown_1 : decode prog_11_method_21_code 1 = .ok (.getfield 22, 3) := by decide +kernel
theorem d_M_isShutdown_4 : decode prog_11_method_21_code 4 = .ok (.iload_n 1, 1) := by decide +kernel
theorem d_M_isShutdown_5 : decode prog_11_method_21_code 5 = .ok (.iaload, 1) := by decide +kernel
theorem d_M_isShutdown_6 : decode prog_11_method_21_code 6 = .ok (.bipush 8, 2) := by decide +kernel
theorem d_M_isShutdown_8 : decode prog_11_method_21_code 8 = .ok (.if_icmp .ne 59, 3) := by decide +kernel
theorem d_M_isShutdown_11 : decode prog_11_method_21_code 11 = .ok (.aload_n 0, 1) := by decide +kernel
theorem d_M_isShutdown_12 : decode prog_11_method_21_code 12 = .ok (.aload_n 0, 1) := by decide +kernel
theorem d_M_isShutdown_13 : decode prog_11_method_21_code 13 = .ok (.getfield 19, 3) := by decide +kernel
theorem d_M_isShutdown_16 : decode prog_11_method_21_code 16 = .ok (.iload_n 1, 1) := by decide +kernel
theorem d_M_isShutdown_17 : decode prog_11_method_21_code 17 = .ok (.iaload, 1) := by decide +kernel
theorem d_M_isShutdown_18 : decode prog_11_method_21_code 18 = .ok (.bipush 6, 2) := by decide +kernel
theorem d_M_isShutdown_20 : decode prog_11_method_21_code 20 = .ok (.bipush 115, 2) := by decide +kernel
theorem d_M_isShutdown_22 : decode prog_11_method_21_code 22 = .ok (.bipush 104, 2) := by decide +kernel
theorem d_M_isShutdown_24 : decode prog_11_method_21_code 24 = .ok (.bipush 117, 2) := by decide +kernel
theorem d_M_isShutdown_26 : decode prog_11_method_21_code 26 = .ok (.bipush 116, 2) := by decide +kernel
theorem d_M_isShutdown_28 : decode prog_11_method_21_code 28 = .ok (.bipush 100, 2) := by decide +kernel
theorem d_M_isShutdown_30 : decode prog_11_method_21_code 30 = .ok (.bipush 111, 2) := by decide +kernel
theorem d_M_isShutdown_32 : decode prog_11_method_21_code 32 = .ok (.invokevirtual 170, 3) := by decide +kernel
theorem d_M_isShutdown_35 : decode prog_11_method_21_code 35 = .ok (.ifCond .eq 32, 3) := by decide +kernel
theorem d_M_isShutdown_38 : decode prog_11_method_21_code 38 = .ok (.aload_n 0, 1) := by decide +kernel
theorem d_M_isShutdown_39 : decode prog_11_method_21_code 39 = .ok (.aload_n 0, 1) := by decide +kernel
theorem d_M_isShutdown_40 : decode prog_11_method_21_code 40 = .ok (.getfield 19, 3) := by decide +kernel
theorem d_M_isShutdown_43 : decode prog_11_method_21_code 43 = .ok (.iload_n 1, 1) := by decide +kernel
theorem d_M_isShutdown_44 : decode prog_11_method_21_code 44 = .ok (.iaload, 1) := by decide +kernel
theorem d_M_isShutdown_45 : decode prog_11_method_21_code 45 = .ok (.bipush 6, 2) := by decide +kernel
theorem d_M_isShutdown_47 : decode prog_11_method_21_code 47 = .ok (.iadd, 1) := by decide +kernel
theorem d_M_isShutdown_48 : decode prog_11_method_21_code 48 = .ok (.iconst 2, 1) := by decide +kernel
theorem d_M_isShutdown_49 : decode prog_11_method_21_code 49 = .ok (.bipush 119, 2) := by decide +kernel
theorem d_M_isShutdown_51 : decode prog_11_method_21_code 51 = .ok (.bipush 110, 2) := by decide +kernel
theorem d_M_isShutdown_53 : decode prog_11_method_21_code 53 = .ok (.iconst 0, 1) := by decide +kernel
theorem d_M_isShutdown_54 : decode prog_11_method_21_code 54 = .ok (.iconst 0, 1) := by decide +kernel
theorem d_M_isShutdown_55 : decode prog_11_method_21_code 55 = .ok (.iconst 0, 1) := by decide +kernel
theorem d_M_isShutdown_56 : decode prog_11_method_21_code 56 = .ok (.iconst 0, 1) := by decide +kernel
theorem d_M_isShutdown_57 : decode prog_11_method_21_code 57 = .ok (.invokevirtual 170, 3) := by decide +kernel
theorem d_M_isShutdown_60 : decode prog_11_method_21_code 60 = .ok (.ifCond .eq 7, 3) := by decide +kernel
theorem d_M_isShutdown_63 : decode prog_11_method_21_code 63 = .ok (.iconst 1, 1) := by decide +kernel
theorem d_M_isShutdown_64 : decode prog_11_method_21_code 64 = .ok (.goto 4, 3) := by decide +kernel
theorem d_M_isShutdown_67 : decode prog_11_method_21_code 67 = .ok (.iconst 0, 1) := by decide +kernel
theorem d_M_isShutdown_68 : decode prog_11_method_21_code 68 = .ok (.ireturn, 1) := by decide +kernel
set_option maxHeartbeats 4000000 in
set_option maxRecDepth 100000 in
theorem cM_isShutdown (l : Launch) (dC : Nat → ClassId) (dI : Nat → Nat → Nat) (tk : Nat → ClassId) (A : Nat → Prop) (h : Nat) (L : Nat → Nat) (g : aG) (a : aA) (rw : va_W) (n : Nat) (v1 : Int32) (r0 : Int32) (hm : mM_isShutdown n v1 g a = some r0) : CtI l dC dI tk A ⟨"EditorServerModel", "isShutdown", "(I)Z"⟩ prog_11_method_21_code 2 (some .boolean) 1 31 [.ref h, .int v1] (oW 0 h ksM spM tk L g a rw) r0 (oW 0 h ksM spM tk L g a rw) := by
  refine ent (by decide) (Nat.le_of_ble_eq_true rfl) ?_
  intro p e s m args below meth c hx hb hr hml hown hlk hG hg hst ls hl
  unfold mM_isShutdown at hm
  have hl : lv_has ls 2 [(0, .ref h), (1, .int v1)] := hl
  refine lv_aload_n hx hb d_M_isShutdown_0 rfl (lv_at hl 0 rfl) ?_
  refine ro_geta hx hb hown hG hg cM hst 12 4 (by decide) rfl rfl k_1026 d_M_isShutdown_1 ?_
  refine lv_iload_n hx hb d_M_isShutdown_4 rfl (lv_at hl 1 rfl) ?_
  obtain ⟨hn1, hm⟩ := gd_u hm
  refine ro_iald hx hb hg hst 4 rfl hn1 d_M_isShutdown_5 ?_
  refine lv_topi (fun x2 ex2 => ?_)
  have hm := lt_u hm x2 ex2
  refine lv_bipush (v := 8) hx hb d_M_isShutdown_6 (by decide) ?_
  refine lv_icmp_ne (tgt := 67) hx hb d_M_isShutdown_8 (by decide) (fun h3 => ?_) (fun h3 => ?_)
  · have hm := it_f hm h3
    refine lv_iconst (v := 0) hx hb d_M_isShutdown_67 (by decide) ?_
    have he := (Option.some.inj hm)
    cases he
    exact rt_i hx hb hr hlk (by decide) hst rfl d_M_isShutdown_68
  · have hm := it_t hm h3
    refine lv_aload_n hx hb d_M_isShutdown_11 rfl (lv_at hl 0 rfl) ?_
    refine lv_aload_n hx hb d_M_isShutdown_12 rfl (lv_at hl 0 rfl) ?_
    refine ro_geta hx hb hown hG hg cM hst 11 3 (by decide) rfl rfl k_1025 d_M_isShutdown_13 ?_
    refine lv_iload_n hx hb d_M_isShutdown_16 rfl (lv_at hl 1 rfl) ?_
    obtain ⟨hn4, hm⟩ := gd_u hm
    refine ro_iald hx hb hg hst 3 rfl hn4 d_M_isShutdown_17 ?_
    refine lv_topi (fun x5 ex5 => ?_)
    have hm := lt_u hm x5 ex5
    refine lv_bipush (v := 6) hx hb d_M_isShutdown_18 (by decide) ?_
    refine lv_bipush (v := 115) hx hb d_M_isShutdown_20 (by decide) ?_
    refine lv_bipush (v := 104) hx hb d_M_isShutdown_22 (by decide) ?_
    refine lv_bipush (v := 117) hx hb d_M_isShutdown_24 (by decide) ?_
    refine lv_bipush (v := 116) hx hb d_M_isShutdown_26 (by decide) ?_
    refine lv_bipush (v := 100) hx hb d_M_isShutdown_28 (by decide) ?_
    refine lv_bipush (v := 111) hx hb d_M_isShutdown_30 (by decide) ?_
    obtain ⟨x7, hc8, hm⟩ := bd_u hm
    refine cl_vi hx hb hml hown hG hg (cM_spells l dC dI tk A h L g a rw n x5 6 115 104 117 116 100 111 _ hc8) (cw_v 8 hG k_1219 k_1221 s_39 k_14 k_1222 (by decide +kernel) ⟨by decide, by decide⟩) hst rfl oW_0 rfl hl.1 rfl (Nat.le_of_ble_eq_true rfl) ⟨Nat.le_refl 0, Nat.le_refl 0⟩ d_M_isShutdown_32 (fun H locs hst => ?_)
    refine lv_if_eq (tgt := 67) hx hb d_M_isShutdown_35 (by decide) (fun h9 => ?_) (fun h9 => ?_)
    · have hm := it_t hm h9
      refine lv_iconst (v := 0) hx hb d_M_isShutdown_67 (by decide) ?_
      have he := (Option.some.inj hm)
      cases he
      exact rt_i hx hb hr hlk (by decide) hst rfl d_M_isShutdown_68
    · have hm := it_f hm h9
      refine lv_aload_n hx hb d_M_isShutdown_38 rfl (lv_at hl 0 rfl) ?_
      refine lv_aload_n hx hb d_M_isShutdown_39 rfl (lv_at hl 0 rfl) ?_
      refine ro_geta hx hb hown hG hg cM hst 11 3 (by decide) rfl rfl k_1025 d_M_isShutdown_40 ?_
      refine lv_iload_n hx hb d_M_isShutdown_43 rfl (lv_at hl 1 rfl) ?_
      obtain ⟨hn10, hm⟩ := gd_u hm
      refine ro_iald hx hb hg hst 3 rfl hn10 d_M_isShutdown_44 ?_
      refine lv_topi (fun x11 ex11 => ?_)
      have hm := lt_u hm x11 ex11
      refine lv_bipush (v := 6) hx hb d_M_isShutdown_45 (by decide) ?_
      refine lv_iadd hx hb d_M_isShutdown_47 ?_
      refine lv_iconst (v := 2) hx hb d_M_isShutdown_48 (by decide) ?_
      refine lv_bipush (v := 119) hx hb d_M_isShutdown_49 (by decide) ?_
      refine lv_bipush (v := 110) hx hb d_M_isShutdown_51 (by decide) ?_
      refine lv_iconst (v := 0) hx hb d_M_isShutdown_53 (by decide) ?_
      refine lv_iconst (v := 0) hx hb d_M_isShutdown_54 (by decide) ?_
      refine lv_iconst (v := 0) hx hb d_M_isShutdown_55 (by decide) ?_
      refine lv_iconst (v := 0) hx hb d_M_isShutdown_56 (by decide) ?_
      obtain ⟨x13, hc14, hm⟩ := bd_u hm
      refine cl_vi hx hb hml hown hG hg (cM_spells l dC dI tk A h L g a rw n (x11 + 6) 2 119 110 0 0 0 0 _ hc14) (cw_v 8 hG k_1219 k_1221 s_39 k_14 k_1222 (by decide +kernel) ⟨by decide, by decide⟩) hst rfl oW_0 rfl hl.1 rfl (Nat.le_of_ble_eq_true rfl) ⟨Nat.le_refl 0, Nat.le_refl 0⟩ d_M_isShutdown_57 (fun H locs hst => ?_)
      refine lv_if_eq (tgt := 67) hx hb d_M_isShutdown_60 (by decide) (fun h15 => ?_) (fun h15 => ?_)
      · have hm := it_t hm h15
        refine lv_iconst (v := 0) hx hb d_M_isShutdown_67 (by decide) ?_
        have he := (Option.some.inj hm)
        cases he
        exact rt_i hx hb hr hlk (by decide) hst rfl d_M_isShutdown_68
      · have hm := it_f hm h15
        refine lv_iconst (v := 1) hx hb d_M_isShutdown_63 (by decide) ?_
        refine lv_goto (tgt := 68) hx hb d_M_isShutdown_64 (by decide) ?_
        have he := (Option.some.inj hm)
        cases he
        exact rt_i hx hb hr hlk (by decide) hst rfl d_M_isShutdown_68
def mM_respond (n : Nat) (v1 : Int32) (v2 : Int32) (v3 : Int32) (v4 : Int32) (g : aG) (a : aA) : Option (aG × aA) := if (g 38) = 60 then (some ((g, a))) else (jn (α := Int32) (if v1 = 0 then (some (.inl 0)) else (some (.inl v2))) (fun x4 => gd (inb (g 38) 60) (lt (va_up a 22 (upd (a 22) (g 38).toNatClampNeg x4)) (fun a7 => gd (inb (g 38) 60) (lt (va_up a7 23 (upd (a7 23) (g 38).toNatClampNeg (vp_nar .boolean v1))) (fun a9 => gd (inb (g 38) 60) (lt (va_up a9 24 (upd (a9 24) (g 38).toNatClampNeg (vp_nar .boolean v3))) (fun a11 => gd (inb (g 38) 60) (lt (va_up a11 25 (upd (a11 25) (g 38).toNatClampNeg v4)) (fun a13 => lt (va_up g 38 ((g 38) + 1)) (fun g14 => some ((g14, a13)))))))))))))
theorem d_M_respond_0 : decode prog_11_method_25_code 0 = .ok (.aload_n 0, 1) := by decide +kernel
theorem d_M_respond_1 : decode prog_11_method_25_code 1 = .ok (.getfield 174, 3) := by decide +kernel
theorem d_M_respond_4 : decode prog_11_method_25_code 4 = .ok (.bipush 60, 2) := by decide +kernel
theorem d_M_respond_6 : decode prog_11_method_25_code 6 = .ok (.if_icmp .ne 4, 3) := by decide +kernel
theorem d_M_respond_9 : decode prog_11_method_25_code 9 = .ok (.return_, 1) := by decide +kernel
theorem d_M_respond_10 : decode prog_11_method_25_code 10 = .ok (.aload_n 0, 1) := by decide +kernel
theorem d_M_respond_11 : decode prog_11_method_25_code 11 = .ok (.getfield 76, 3) := by decide +kernel
theorem d_M_respond_14 : decode prog_11_method_25_code 14 = .ok (.aload_n 0, 1) := by decide +kernel
theorem d_M_respond_15 : decode prog_11_method_25_code 15 = .ok (.getfield 174, 3) := by decide +kernel
theorem d_M_respond_18 : decode prog_11_method_25_code 18 = .ok (.iload_n 1, 1) := by decide +kernel
theorem d_M_respond_19 : decode prog_11_method_25_code 19 = .ok (.ifCond .eq 7, 3) := by decide +kernel
theorem d_M_respond_22 : decode prog_11_method_25_code 22 = .ok (.iload_n 2, 1) := by decide +kernel
theorem d_M_respond_23 : decode prog_11_method_25_code 23 = .ok (.goto 4, 3) := by decide +kernel
theorem d_M_respond_26 : decode prog_11_method_25_code 26 = .ok (.iconst 0, 1) := by decide +kernel
theorem d_M_respond_27 : decode prog_11_method_25_code 27 = .ok (.iastore, 1) := by decide +kernel
theorem d_M_respond_28 : decode prog_11_method_25_code 28 = .ok (.aload_n 0, 1) := by decide +kernel
theorem d_M_respond_29 : decode prog_11_method_25_code 29 = .ok (.getfield 79, 3) := by decide +kernel
theorem d_M_respond_32 : decode prog_11_method_25_code 32 = .ok (.aload_n 0, 1) := by decide +kernel
theorem d_M_respond_33 : decode prog_11_method_25_code 33 = .ok (.getfield 174, 3) := by decide +kernel
theorem d_M_respond_36 : decode prog_11_method_25_code 36 = .ok (.iload_n 1, 1) := by decide +kernel
theorem d_M_respond_37 : decode prog_11_method_25_code 37 = .ok (.bastore, 1) := by decide +kernel
theorem d_M_respond_38 : decode prog_11_method_25_code 38 = .ok (.aload_n 0, 1) := by decide +kernel
theorem d_M_respond_39 : decode prog_11_method_25_code 39 = .ok (.getfield 83, 3) := by decide +kernel
theorem d_M_respond_42 : decode prog_11_method_25_code 42 = .ok (.aload_n 0, 1) := by decide +kernel
theorem d_M_respond_43 : decode prog_11_method_25_code 43 = .ok (.getfield 174, 3) := by decide +kernel
theorem d_M_respond_46 : decode prog_11_method_25_code 46 = .ok (.iload_n 3, 1) := by decide +kernel
theorem d_M_respond_47 : decode prog_11_method_25_code 47 = .ok (.bastore, 1) := by decide +kernel
theorem d_M_respond_48 : decode prog_11_method_25_code 48 = .ok (.aload_n 0, 1) := by decide +kernel
theorem d_M_respond_49 : decode prog_11_method_25_code 49 = .ok (.getfield 86, 3) := by decide +kernel
theorem d_M_respond_52 : decode prog_11_method_25_code 52 = .ok (.aload_n 0, 1) := by decide +kernel
theorem d_M_respond_53 : decode prog_11_method_25_code 53 = .ok (.getfield 174, 3) := by decide +kernel
theorem d_M_respond_56 : decode prog_11_method_25_code 56 = .ok (.iload 4, 2) := by decide +kernel
theorem d_M_respond_58 : decode prog_11_method_25_code 58 = .ok (.iastore, 1) := by decide +kernel
theorem d_M_respond_59 : decode prog_11_method_25_code 59 = .ok (.aload_n 0, 1) := by decide +kernel
theorem d_M_respond_60 : decode prog_11_method_25_code 60 = .ok (.dup, 1) := by decide +kernel
theorem d_M_respond_61 : decode prog_11_method_25_code 61 = .ok (.getfield 174, 3) := by decide +kernel
theorem d_M_respond_64 : decode prog_11_method_25_code 64 = .ok (.iconst 1, 1) := by decide +kernel
theorem d_M_respond_65 : decode prog_11_method_25_code 65 = .ok (.iadd, 1) := by decide +kernel
theorem d_M_respond_66 : decode prog_11_method_25_code 66 = .ok (.putfield 174, 3) := by decide +kernel
theorem d_M_respond_69 : decode prog_11_method_25_code 69 = .ok (.return_, 1) := by decide +kernel
set_option maxHeartbeats 4000000 in
set_option maxRecDepth 100000 in
theorem cM_respond (l : Launch) (dC : Nat → ClassId) (dI : Nat → Nat → Nat) (tk : Nat → ClassId) (A : Nat → Prop) (h : Nat) (L : Nat → Nat) (g : aG) (a : aA) (rw : va_W) (n : Nat) (v1 : Int32) (v2 : Int32) (v3 : Int32) (v4 : Int32) (g0 : aG) (a0 : aA) (hm : mM_respond n v1 v2 v3 v4 g a = some (g0, a0)) : CtV l dC dI tk A ⟨"EditorServerModel", "respond", "(ZIZI)V"⟩ prog_11_method_25_code 5 0 0 [.ref h, .int v1, .int v2, .int v3, .int v4] (oW 0 h ksM spM tk L g a rw) (oW 0 h ksM spM tk L g0 a0 rw) := by
  refine ent (by decide) (Nat.le_of_ble_eq_true rfl) ?_
  intro p e s m args below meth c hx hb hr hml hown hlk hG hg hst ls hl
  unfold mM_respond at hm
  have hl : lv_has ls 5 [(0, .ref h), (1, .int v1), (2, .int v2), (3, .int v3), (4, .int v4)] := hl
  refine lv_aload_n hx hb d_M_respond_0 rfl (lv_at hl 0 rfl) ?_
  refine ro_geti hx hb hown hG hg cM hst 38 (by decide) rfl rfl k_1052 d_M_respond_1 ?_
  refine lv_bipush (v := 60) hx hb d_M_respond_4 (by decide) ?_
  refine lv_icmp_ne (tgt := 10) hx hb d_M_respond_6 (by decide) (fun h1 => ?_) (fun h1 => ?_)
  · have hm := it_f hm h1
    refine lv_aload_n hx hb d_M_respond_10 rfl (lv_at hl 0 rfl) ?_
    refine ro_geta hx hb hown hG hg cM hst 39 22 (by decide) rfl rfl k_1053 d_M_respond_11 ?_
    refine lv_aload_n hx hb d_M_respond_14 rfl (lv_at hl 0 rfl) ?_
    refine ro_geti hx hb hown hG hg cM hst 38 (by decide) rfl rfl k_1052 d_M_respond_15 ?_
    refine lv_iload_n hx hb d_M_respond_18 rfl (lv_at hl 1 rfl) ?_
    obtain ⟨qJ2, hm, hLJ2, hR3⟩ := jn_u hm
    have hJ2 : ∀ (x4 : Int32), qJ2 = .inl x4 → ∀ (H : Heap) (locs : List Loc) (ls : Array Slot), lv_has ls 5 [(0, .ref h), (1, .int v1), (2, .int v2), (3, .int v3), (4, .int v4)] → St dC dI A s.heap H locs (oW 0 h ksM spM tk L g a rw) → W p l e (rmo 0 0) s m args below meth c H locs 0 0 (MQ below (QV dC dI A (oW 0 h ksM spM tk L g0 a0 rw)) args s 0 0 A) (F0 m 27 ls [.int x4, .int (g 38), .ref (L 22)]) := by
      intro x4 hq H locs ls hl hst
      have hm := hLJ2 _ hq
      obtain ⟨hn6, hm⟩ := gd_u hm
      refine ro_iast hx hb hg hst 22 rfl hn6 d_M_respond_27 (fun a7 H locs ea7 hst => ?_)
      have hm := lt_u hm a7 ea7
      refine lv_aload_n hx hb d_M_respond_28 rfl (lv_at hl 0 rfl) ?_
      refine ro_geta hx hb hown hG hg cM hst 40 23 (by decide) rfl rfl k_1054 d_M_respond_29 ?_
      refine lv_aload_n hx hb d_M_respond_32 rfl (lv_at hl 0 rfl) ?_
      refine ro_geti hx hb hown hG hg cM hst 38 (by decide) rfl rfl k_1052 d_M_respond_33 ?_
      refine lv_iload_n hx hb d_M_respond_36 rfl (lv_at hl 1 rfl) ?_
      obtain ⟨hn8, hm⟩ := gd_u hm
      refine ro_zast hx hb hg hst 23 rfl hn8 d_M_respond_37 (fun a9 H locs ea9 hst => ?_)
      have hm := lt_u hm a9 ea9
      refine lv_aload_n hx hb d_M_respond_38 rfl (lv_at hl 0 rfl) ?_
      refine ro_geta hx hb hown hG hg cM hst 41 24 (by decide) rfl rfl k_1055 d_M_respond_39 ?_
      refine lv_aload_n hx hb d_M_respond_42 rfl (lv_at hl 0 rfl) ?_
      refine ro_geti hx hb hown hG hg cM hst 38 (by decide) rfl rfl k_1052 d_M_respond_43 ?_
      refine lv_iload_n hx hb d_M_respond_46 rfl (lv_at hl 3 rfl) ?_
      obtain ⟨hn10, hm⟩ := gd_u hm
      refine ro_zast hx hb hg hst 24 rfl hn10 d_M_respond_47 (fun a11 H locs ea11 hst => ?_)
      have hm := lt_u hm a11 ea11
      refine lv_aload_n hx hb d_M_respond_48 rfl (lv_at hl 0 rfl) ?_
      refine ro_geta hx hb hown hG hg cM hst 42 25 (by decide) rfl rfl k_1056 d_M_respond_49 ?_
      refine lv_aload_n hx hb d_M_respond_52 rfl (lv_at hl 0 rfl) ?_
      refine ro_geti hx hb hown hG hg cM hst 38 (by decide) rfl rfl k_1052 d_M_respond_53 ?_
      refine lv_iload hx hb d_M_respond_56 (lv_at hl 4 rfl) ?_
      obtain ⟨hn12, hm⟩ := gd_u hm
      refine ro_iast hx hb hg hst 25 rfl hn12 d_M_respond_58 (fun a13 H locs ea13 hst => ?_)
      have hm := lt_u hm a13 ea13
      refine lv_aload_n hx hb d_M_respond_59 rfl (lv_at hl 0 rfl) ?_
      refine lv_dup hx hb d_M_respond_60 rfl ?_
      refine ro_geti hx hb hown hG hg cM hst 38 (by decide) rfl rfl k_1052 d_M_respond_61 ?_
      refine lv_iconst (v := 1) hx hb d_M_respond_64 (by decide) ?_
      refine lv_iadd hx hb d_M_respond_65 ?_
      refine ro_puti hx hb hown hG hg cM hst 38 (by decide) rfl rfl rfl rfl rfl k_1052 d_M_respond_66 (fun g14 H locs eg14 hst => ?_)
      have hm := lt_u hm g14 eg14
      have he := (Option.some.inj hm)
      cases he
      exact rt_v hx hb hr hlk hst d_M_respond_69
    refine lv_if_eq (tgt := 26) hx hb d_M_respond_19 (by decide) (fun h15 => ?_) (fun h15 => ?_)
    · have hm := it_t hm h15
      refine lv_iconst (v := 0) hx hb d_M_respond_26 (by decide) ?_
      exact hJ2 0 (Option.some.inj hm).symm _ _ _ (lv_sub hl [0, 1, 2, 3, 4] rfl) hst
    · have hm := it_f hm h15
      refine lv_iload_n hx hb d_M_respond_22 rfl (lv_at hl 2 rfl) ?_
      refine lv_goto (tgt := 27) hx hb d_M_respond_23 (by decide) ?_
      exact hJ2 v2 (Option.some.inj hm).symm _ _ _ (lv_sub hl [0, 1, 2, 3, 4] rfl) hst
  · have hm := it_t hm h1
    have he := (Option.some.inj hm)
    cases he
    exact rt_v hx hb hr hlk hst d_M_respond_9
def mM_says (n : Nat) (v1 : Int32) (v2 : Int32) (v3 : Int32) (v4 : Int32) (v5 : Int32) (v6 : Int32) (v7 : Int32) (g : aG) (a : aA) : Option (Int32) := gd (inb v1 41) (lt (a 3 v1.toNatClampNeg) (fun x2 => gd (inb v1 41) (lt (a 4 v1.toNatClampNeg) (fun x4 => bd (mM_spells n x2 x4 v2 v3 v4 v5 v6 v7 g a) (fun x6 => gd (okz x6) (some (x6)))))))
theorem d_M_says_0 : decode prog_11_method_19_code 0 = .ok (.aload_n 0, 1) := by decide +kernel
theorem d_M_says_1 : decode prog_11_method_19_code 1 = .ok (.aload_n 0, 1) := by decide +kernel
theorem d_M_says_2 : decode prog_11_method_19_code 2 = .ok (.getfield 19, 3) := by decide +kernel
theorem d_M_says_5 : decode prog_11_method_19_code 5 = .ok (.iload_n 1, 1) := by decide +kernel
theorem d_M_says_6 : decode prog_11_method_19_code 6 = .ok (.iaload, 1) := by decide +kernel
theorem d_M_says_7 : decode prog_11_method_19_code 7 = .ok (.aload_n 0, 1) := by decide +kernel
theorem d_M_says_8 : decode prog_11_method_19_code 8 = .ok (.getfield 22, 3) := by decide +kernel
theorem d_M_says_11 : decode prog_11_method_19_code 11 = .ok (.iload_n 1, 1) := by decide +kernel
theorem d_M_says_12 : decode prog_11_method_19_code 12 = .ok (.iaload, 1) := by decide +kernel
theorem d_M_says_13 : decode prog_11_method_19_code 13 = .ok (.iload_n 2, 1) := by decide +kernel
theorem d_M_says_14 : decode prog_11_method_19_code 14 = .ok (.iload_n 3, 1) := by decide +kernel
theorem d_M_says_15 : decode prog_11_method_19_code 15 = .ok (.iload 4, 2) := by decide +kernel
theorem d_M_says_17 : decode prog_11_method_19_code 17 = .ok (.iload 5, 2) := by decide +kernel
theorem d_M_says_19 : decode prog_11_method_19_code 19 = .ok (.iload 6, 2) := by decide +kernel
theorem d_M_says_21 : decode prog_11_method_19_code 21 = .ok (.iload 7, 2) := by decide +kernel
theorem d_M_says_23 : decode prog_11_method_19_code 23 = .ok (.invokevirtual 170, 3) := by decide +kernel
theorem d_M_says_26 : decode prog_11_method_19_code 26 = .ok (.ireturn, 1) := by decide +kernel
set_option maxHeartbeats 4000000 in
set_option maxRecDepth 100000 in
theorem cM_says (l : Launch) (dC : Nat → ClassId) (dI : Nat → Nat → Nat) (tk : Nat → ClassId) (A : Nat → Prop) (h : Nat) (L : Nat → Nat) (g : aG) (a : aA) (rw : va_W) (n : Nat) (v1 : Int32) (v2 : Int32) (v3 : Int32) (v4 : Int32) (v5 : Int32) (v6 : Int32) (v7 : Int32) (r0 : Int32) (hm : mM_says n v1 v2 v3 v4 v5 v6 v7 g a = some r0) : CtI l dC dI tk A ⟨"EditorServerModel", "says", "(IIIIIII)Z"⟩ prog_11_method_19_code 8 (some .boolean) 1 31 [.ref h, .int v1, .int v2, .int v3, .int v4, .int v5, .int v6, .int v7] (oW 0 h ksM spM tk L g a rw) r0 (oW 0 h ksM spM tk L g a rw) := by
  refine ent (by decide) (Nat.le_of_ble_eq_true rfl) ?_
  intro p e s m args below meth c hx hb hr hml hown hlk hG hg hst ls hl
  unfold mM_says at hm
  have hl : lv_has ls 8 [(0, .ref h), (1, .int v1), (2, .int v2), (3, .int v3), (4, .int v4), (5, .int v5), (6, .int v6), (7, .int v7)] := hl
  refine lv_aload_n hx hb d_M_says_0 rfl (lv_at hl 0 rfl) ?_
  refine lv_aload_n hx hb d_M_says_1 rfl (lv_at hl 0 rfl) ?_
  refine ro_geta hx hb hown hG hg cM hst 11 3 (by decide) rfl rfl k_1025 d_M_says_2 ?_
  refine lv_iload_n hx hb d_M_says_5 rfl (lv_at hl 1 rfl) ?_
  obtain ⟨hn1, hm⟩ := gd_u hm
  refine ro_iald hx hb hg hst 3 rfl hn1 d_M_says_6 ?_
  refine lv_topi (fun x2 ex2 => ?_)
  have hm := lt_u hm x2 ex2
  refine lv_aload_n hx hb d_M_says_7 rfl (lv_at hl 0 rfl) ?_
  refine ro_geta hx hb hown hG hg cM hst 12 4 (by decide) rfl rfl k_1026 d_M_says_8 ?_
  refine lv_iload_n hx hb d_M_says_11 rfl (lv_at hl 1 rfl) ?_
  obtain ⟨hn3, hm⟩ := gd_u hm
  refine ro_iald hx hb hg hst 4 rfl hn3 d_M_says_12 ?_
  refine lv_topi (fun x4 ex4 => ?_)
  have hm := lt_u hm x4 ex4
  refine lv_iload_n hx hb d_M_says_13 rfl (lv_at hl 2 rfl) ?_
  refine lv_iload_n hx hb d_M_says_14 rfl (lv_at hl 3 rfl) ?_
  refine lv_iload hx hb d_M_says_15 (lv_at hl 4 rfl) ?_
  refine lv_iload hx hb d_M_says_17 (lv_at hl 5 rfl) ?_
  refine lv_iload hx hb d_M_says_19 (lv_at hl 6 rfl) ?_
  refine lv_iload hx hb d_M_says_21 (lv_at hl 7 rfl) ?_
  obtain ⟨x6, hc7, hm⟩ := bd_u hm
  refine cl_vi hx hb hml hown hG hg (cM_spells l dC dI tk A h L g a rw n x2 x4 v2 v3 v4 v5 v6 v7 _ hc7) (cw_v 8 hG k_1219 k_1221 s_39 k_14 k_1222 (by decide +kernel) ⟨by decide, by decide⟩) hst rfl oW_0 rfl hl.1 rfl (Nat.le_of_ble_eq_true rfl) ⟨Nat.le_refl 0, Nat.le_refl 0⟩ d_M_says_23 (fun H locs hst => ?_)
  obtain ⟨hn8, hm⟩ := gd_u hm
  have he := (Option.some.inj hm)
  cases he
  exact rt_i hx hb hr hlk (okz_n hn8).1 hst rfl d_M_says_26
def mM_ask (n : Nat) (v1 : Int32) (v2 : Int32) (v3 : Int32) (g : aG) (a : aA) : Option (aG × aA) := if (g 0) = 0 then (bd (mM_isInitialize n v2 g a) (fun x121 => jn (α := Int32) (if x121 = 0 then (some (.inl (-32002))) else (some (.inl 0))) (fun x125 => bd (mM_respond n 1 v1 x121 x125 g a) (fun q127 => if x121 = 0 then (lt (va_up q127.1 0 0) (fun g132 => some ((g132, q127.2)))) else (lt (va_up q127.1 0 1) (fun g133 => some ((g133, q127.2)))))))) else (jn (α := aG × aA) (if (g 0) = 2 then (some (.inl (g, a))) else (bd (mM_isInitialize n v2 g a) (fun x13 => if x13 = 0 then (bd (mM_isShutdown n v2 g a) (fun x17 => if x17 = 0 then (bd (mM_says n v2 108 101 110 103 116 104 g a) (fun x21 => jn (α := Int32) (if x21 = 0 then (bd (mM_says n v2 105 110 100 101 120 0 g a) (fun x104 => if x104 = 0 then (bd (mM_says n v2 97 116 0 0 0 0 g a) (fun x108 => if x108 = 0 then (bd (mM_says n v2 108 105 110 101 115 0 g a) (fun x112 => if x112 = 0 then (some (.inl (-1))) else (some (.inl 3)))) else (some (.inl 2)))) else (some (.inl 1)))) else (some (.inl 0))) (fun x25 => jn (α := Int32) (if 0 ≤ x25 then (bd (mM_fits n x25 v3 g a) (fun x98 => if x98 = 0 then (some (.inl (-32602))) else (if (g 31) = 8 then (some (.inl (-32803))) else (some (.inl 0))))) else (some (.inl (-32601)))) (fun x29 => if x29 = 0 then (bd (mM_item n v3 0 g a) (fun x33 => bd (mM_documentOf n x33 g a) (fun x36 => gd (inb (g 31) 8) (lt (va_up a 16 (upd (a 16) (g 31).toNatClampNeg v1)) (fun a39 => gd (inb (g 31) 8) (lt (va_up a39 17 (upd (a39 17) (g 31).toNatClampNeg x25)) (fun a41 => jn (α := Int32) (if x25 = 1 then (bd (mM_item n v3 1 g a41) (fun x86 => gd (inb x86 41) (lt (a41 3 x86.toNatClampNeg) (fun x89 => gd (inb x89 201) (lt (a41 8 x89.toNatClampNeg) (fun x91 => some (.inl x91))))))) else (if x25 = 2 then (bd (mM_item n v3 1 g a41) (fun x81 => gd (inb x81 41) (lt (a41 2 x81.toNatClampNeg) (fun x84 => some (.inl x84))))) else (some (.inl 0)))) (fun x44 => gd (inb (g 31) 8) (lt (va_up a41 18 (upd (a41 18) (g 31).toNatClampNeg x44)) (fun a47 => jn (α := Int32) (if x25 = 2 then (bd (mM_item n v3 2 g a47) (fun x74 => gd (inb x74 41) (lt (a47 2 x74.toNatClampNeg) (fun x77 => some (.inl x77))))) else (some (.inl 0))) (fun x50 => gd (inb (g 31) 8) (lt (va_up a47 19 (upd (a47 19) (g 31).toNatClampNeg x50)) (fun a53 => gd (inb x36 3) (lt (a53 13 x36.toNatClampNeg) (fun x55 => gd (inb (g 31) 8) (lt (va_up a53 20 (upd (a53 20) (g 31).toNatClampNeg x55)) (fun a57 => lp (ε := Int32 × aA) (fun q60 => gd (inb x36 3) (lt (q60.2 13 x36.toNatClampNeg) (fun x65 => if x65 ≤ q60.1 then (lt (va_up g 31 ((g 31) + 1)) (fun g67 => some (.inr (.inr ((g67, q60.2)))))) else (gd (inb ((60 * x36) + q60.1) 180) (lt (q60.2 14 ((60 * x36) + q60.1).toNatClampNeg) (fun x69 => gd (inb ((60 * (g 31)) + q60.1) 480) (lt (va_up q60.2 21 (upd (q60.2 21) ((60 * (g 31)) + q60.1).toNatClampNeg x69)) (fun a71 => some (.inl ((q60.1 + 1), a71)))))))))) n (0, a57)))))))))))))))))) else (bd (mM_respond n 1 v1 0 x29 g a) (fun q92 => some (.inr ((q92.1, q92.2))))))))) else (bd (mM_respond n 1 v1 1 0 g a) (fun q115 => lt (va_up q115.1 0 2) (fun g119 => some (.inr ((g119, q115.2)))))))) else (some (.inl (g, a)))))) (fun q6 => bd (mM_respond n 1 v1 0 (-32600) q6.1 q6.2) (fun q7 => some ((q7.1, q7.2)))))
theorem d_M_ask_0 : decode prog_11_method_27_code 0 = .ok (.aload_n 0, 1) := by decide +kernel
theorem d_M_ask_1 : decode prog_11_method_27_code 1 = .ok (.getfield 96, 3) := by decide +kernel
theorem d_M_ask_4 : decode prog_11_method_27_code 4 = .ok (.ifCond .ne 45, 3) := by decide +kernel
theorem d_M_ask_7 : decode prog_11_method_27_code 7 = .ok (.aload_n 0, 1) := by decide +kernel
theorem d_M_ask_8 : decode prog_11_method_27_code 8 = .ok (.iload_n 2, 1) := by decide +kernel
theorem d_M_ask_9 : decode prog_11_method_27_code 9 = .ok (.invokevirtual 200, 3) := by decide +kernel
theorem d_M_ask_12 : decode prog_11_method_27_code 12 = .ok (.istore 4, 2) := by decide +kernel
theorem d_M_ask_14 : decode prog_11_method_27_code 14 = .ok (.aload_n 0, 1) := by decide +kernel
theorem d_M_ask_15 : decode prog_11_method_27_code 15 = .ok (.iconst 1, 1) := by decide +kernel
theorem d_M_ask_16 : decode prog_11_method_27_code 16 = .ok (.iload_n 1, 1) := by decide +kernel
theorem d_M_ask_17 : decode prog_11_method_27_code 17 = .ok (.iload 4, 2) := by decide +kernel
theorem d_M_ask_19 : decode prog_11_method_27_code 19 = .ok (.iload 4, 2) := by decide +kernel
theorem d_M_ask_21 : decode prog_11_method_27_code 21 = .ok (.ifCond .eq 7, 3) := by decide +kernel
theorem d_M_ask_24 : decode prog_11_method_27_code 24 = .ok (.iconst 0, 1) := by decide +kernel
theorem d_M_ask_25 : decode prog_11_method_27_code 25 = .ok (.goto 6, 3) := by decide +kernel
theorem d_M_ask_28 : decode prog_11_method_27_code 28 = .ok (.sipush (-32002), 3) := by decide +kernel
theorem d_M_ask_31 : decode prog_11_method_27_code 31 = .ok (.invokevirtual 180, 3) := by decide +kernel
theorem d_M_ask_34 : decode prog_11_method_27_code 34 = .ok (.aload_n 0, 1) := by decide +kernel
theorem d_M_ask_35 : decode prog_11_method_27_code 35 = .ok (.iload 4, 2) := by decide +kernel
theorem d_M_ask_37 : decode prog_11_method_27_code 37 = .ok (.ifCond .eq 7, 3) := by decide +kernel
theorem d_M_ask_40 : decode prog_11_method_27_code 40 = .ok (.iconst 1, 1) := by decide +kernel
theorem d_M_ask_41 : decode prog_11_method_27_code 41 = .ok (.goto 4, 3) := by decide +kernel
theorem d_M_ask_44 : decode prog_11_method_27_code 44 = .ok (.iconst 0, 1) := by decide +kernel
theorem d_M_ask_45 : decode prog_11_method_27_code 45 = .ok (.putfield 96, 3) := by decide +kernel
theorem d_M_ask_48 : decode prog_11_method_27_code 48 = .ok (.return_, 1) := by decide +kernel
theorem d_M_ask_49 : decode prog_11_method_27_code 49 = .ok (.aload_n 0, 1) := by decide +kernel
theorem d_M_ask_50 : decode prog_11_method_27_code 50 = .ok (.getfield 96, 3) := by decide +kernel
theorem d_M_ask_53 : decode prog_11_method_27_code 53 = .ok (.iconst 2, 1) := by decide +kernel
theorem d_M_ask_54 : decode prog_11_method_27_code 54 = .ok (.if_icmp .eq 11, 3) := by decide +kernel
theorem d_M_ask_57 : decode prog_11_method_27_code 57 = .ok (.aload_n 0, 1) := by decide +kernel
theorem d_M_ask_58 : decode prog_11_method_27_code 58 = .ok (.iload_n 2, 1) := by decide +kernel
theorem d_M_ask_59 : decode prog_11_method_27_code 59 = .ok (.invokevirtual 200, 3) := by decide +kernel
theorem d_M_ask_62 : decode prog_11_method_27_code 62 = .ok (.ifCond .eq 14, 3) := by decide +kernel
theorem d_M_ask_65 : decode prog_11_method_27_code 65 = .ok (.aload_n 0, 1) := by decide +kernel
theorem d_M_ask_66 : decode prog_11_method_27_code 66 = .ok (.iconst 1, 1) := by decide +kernel
theorem d_M_ask_67 : decode prog_11_method_27_code 67 = .ok (.iload_n 1, 1) := by decide +kernel
theorem d_M_ask_68 : decode prog_11_method_27_code 68 = .ok (.iconst 0, 1) := by decide +kernel
theorem d_M_ask_69 : decode prog_11_method_27_code 69 = .ok (.sipush (-32600), 3) := by decide +kernel
theorem d_M_ask_72 : decode prog_11_method_27_code 72 = .ok (.invokevirtual 180, 3) := by decide +kernel
theorem d_M_ask_75 : decode prog_11_method_27_code 75 = .ok (.return_, 1) := by decide +kernel
theorem d_M_ask_76 : decode prog_11_method_27_code 76 = .ok (.aload_n 0, 1) := by decide +kernel
theorem d_M_ask_77 : decode prog_11_method_27_code 77 = .ok (.iload_n 2, 1) := by decide +kernel
theorem d_M_ask_78 : decode prog_11_method_27_code 78 = .ok (.invokevirtual 203, 3) := by decide +kernel
theorem d_M_ask_81 : decode prog_11_method_27_code 81 = .ok (.ifCond .eq 17, 3) := by decide +kernel
theorem d_M_ask_84 : decode prog_11_method_27_code 84 = .ok (.aload_n 0, 1) := by decide +kernel
theorem d_M_ask_85 : decode prog_11_method_27_code 85 = .ok (.iconst 1, 1) := by decide +kernel
theorem d_M_ask_86 : decode prog_11_method_27_code 86 = .ok (.iload_n 1, 1) := by decide +kernel
theorem d_M_ask_87 : decode prog_11_method_27_code 87 = .ok (.iconst 1, 1) := by decide +kernel
theorem d_M_ask_88 : decode prog_11_method_27_code 88 = .ok (.iconst 0, 1) := by decide +kernel
theorem d_M_ask_89 : decode prog_11_method_27_code 89 = .ok (.invokevirtual 180, 3) := by decide +kernel
theorem d_M_ask_92 : decode prog_11_method_27_code 92 = .ok (.aload_n 0, 1) := by decide +kernel
theorem d_M_ask_93 : decode prog_11_method_27_code 93 = .ok (.iconst 2, 1) := by decide +kernel
theorem d_M_ask_94 : decode prog_11_method_27_code 94 = .ok (.putfield 96, 3) := by decide +kernel
theorem d_M_ask_97 : decode prog_11_method_27_code 97 = .ok (.return_, 1) := by decide +kernel
theorem d_M_ask_98 : decode prog_11_method_27_code 98 = .ok (.aload_n 0, 1) := by decide +kernel
theorem d_M_ask_99 : decode prog_11_method_27_code 99 = .ok (.iload_n 2, 1) := by decide +kernel
theorem d_M_ask_100 : decode prog_11_method_27_code 100 = .ok (.bipush 108, 2) := by decide +kernel
theorem d_M_ask_102 : decode prog_11_method_27_code 102 = .ok (.bipush 101, 2) := by decide +kernel
theorem d_M_ask_104 : decode prog_11_method_27_code 104 = .ok (.bipush 110, 2) := by decide +kernel
theorem d_M_ask_106 : decode prog_11_method_27_code 106 = .ok (.bipush 103, 2) := by decide +kernel
theorem d_M_ask_108 : decode prog_11_method_27_code 108 = .ok (.bipush 116, 2) := by decide +kernel
theorem d_M_ask_110 : decode prog_11_method_27_code 110 = .ok (.bipush 104, 2) := by decide +kernel
theorem d_M_ask_112 : decode prog_11_method_27_code 112 = .ok (.invokevirtual 206, 3) := by decide +kernel
theorem d_M_ask_115 : decode prog_11_method_27_code 115 = .ok (.ifCond .eq 7, 3) := by decide +kernel
theorem d_M_ask_118 : decode prog_11_method_27_code 118 = .ok (.iconst 0, 1) := by decide +kernel
theorem d_M_ask_119 : decode prog_11_method_27_code 119 = .ok (.goto 70, 3) := by decide +kernel
theorem d_M_ask_122 : decode prog_11_method_27_code 122 = .ok (.aload_n 0, 1) := by decide +kernel
theorem d_M_ask_123 : decode prog_11_method_27_code 123 = .ok (.iload_n 2, 1) := by decide +kernel
theorem d_M_ask_124 : decode prog_11_method_27_code 124 = .ok (.bipush 105, 2) := by decide +kernel
theorem d_M_ask_126 : decode prog_11_method_27_code 126 = .ok (.bipush 110, 2) := by decide +kernel
theorem d_M_ask_128 : decode prog_11_method_27_code 128 = .ok (.bipush 100, 2) := by decide +kernel
theorem d_M_ask_130 : decode prog_11_method_27_code 130 = .ok (.bipush 101, 2) := by decide +kernel
theorem d_M_ask_132 : decode prog_11_method_27_code 132 = .ok (.bipush 120, 2) := by decide +kernel
theorem d_M_ask_134 : decode prog_11_method_27_code 134 = .ok (.iconst 0, 1) := by decide +kernel
theorem d_M_ask_135 : decode prog_11_method_27_code 135 = .ok (.invokevirtual 206, 3) := by decide +kernel
theorem d_M_ask_138 : decode prog_11_method_27_code 138 = .ok (.ifCond .eq 7, 3) := by decide +kernel
theorem d_M_ask_141 : decode prog_11_method_27_code 141 = .ok (.iconst 1, 1) := by decide +kernel
theorem d_M_ask_142 : decode prog_11_method_27_code 142 = .ok (.goto 47, 3) := by decide +kernel
theorem d_M_ask_145 : decode prog_11_method_27_code 145 = .ok (.aload_n 0, 1) := by decide +kernel
theorem d_M_ask_146 : decode prog_11_method_27_code 146 = .ok (.iload_n 2, 1) := by decide +kernel
theorem d_M_ask_147 : decode prog_11_method_27_code 147 = .ok (.bipush 97, 2) := by decide +kernel
theorem d_M_ask_149 : decode prog_11_method_27_code 149 = .ok (.bipush 116, 2) := by decide +kernel
theorem d_M_ask_151 : decode prog_11_method_27_code 151 = .ok (.iconst 0, 1) := by decide +kernel
theorem d_M_ask_152 : decode prog_11_method_27_code 152 = .ok (.iconst 0, 1) := by decide +kernel
theorem d_M_ask_153 : decode prog_11_method_27_code 153 = .ok (.iconst 0, 1) := by decide +kernel
theorem d_M_ask_154 : decode prog_11_method_27_code 154 = .ok (.iconst 0, 1) := by decide +kernel
theorem d_M_ask_155 : decode prog_11_method_27_code 155 = .ok (.invokevirtual 206, 3) := by decide +kernel
theorem d_M_ask_158 : decode prog_11_method_27_code 158 = .ok (.ifCond .eq 7, 3) := by decide +kernel
theorem d_M_ask_161 : decode prog_11_method_27_code 161 = .ok (.iconst 2, 1) := by decide +kernel
theorem d_M_ask_162 : decode prog_11_method_27_code 162 = .ok (.goto 27, 3) := by decide +kernel
theorem d_M_ask_165 : decode prog_11_method_27_code 165 = .ok (.aload_n 0, 1) := by decide +kernel
theorem d_M_ask_166 : decode prog_11_method_27_code 166 = .ok (.iload_n 2, 1) := by decide +kernel
theorem d_M_ask_167 : decode prog_11_method_27_code 167 = .ok (.bipush 108, 2) := by decide +kernel
theorem d_M_ask_169 : decode prog_11_method_27_code 169 = .ok (.bipush 105, 2) := by decide +kernel
theorem d_M_ask_171 : decode prog_11_method_27_code 171 = .ok (.bipush 110, 2) := by decide +kernel
theorem d_M_ask_173 : decode prog_11_method_27_code 173 = .ok (.bipush 101, 2) := by decide +kernel
theorem d_M_ask_175 : decode prog_11_method_27_code 175 = .ok (.bipush 115, 2) := by decide +kernel
theorem d_M_ask_177 : decode prog_11_method_27_code 177 = .ok (.iconst 0, 1) := by decide +kernel
theorem d_M_ask_178 : decode prog_11_method_27_code 178 = .ok (.invokevirtual 206, 3) := by decide +kernel
theorem d_M_ask_181 : decode prog_11_method_27_code 181 = .ok (.ifCond .eq 7, 3) := by decide +kernel
theorem d_M_ask_184 : decode prog_11_method_27_code 184 = .ok (.iconst 3, 1) := by decide +kernel
theorem d_M_ask_185 : decode prog_11_method_27_code 185 = .ok (.goto 4, 3) := by decide +kernel
theorem d_M_ask_188 : decode prog_11_method_27_code 188 = .ok (.iconst (-1), 1) := by decide +kernel
theorem d_M_ask_189 : decode prog_11_method_27_code 189 = .ok (.istore 4, 2) := by decide +kernel
theorem d_M_ask_191 : decode prog_11_method_27_code 191 = .ok (.iload 4, 2) := by decide +kernel
theorem d_M_ask_193 : decode prog_11_method_27_code 193 = .ok (.ifCond .ge 9, 3) := by decide +kernel
theorem d_M_ask_196 : decode prog_11_method_27_code 196 = .ok (.sipush (-32601), 3) := by decide +kernel
theorem d_M_ask_199 : decode prog_11_method_27_code 199 = .ok (.goto 34, 3) := by decide +kernel
theorem d_M_ask_202 : decode prog_11_method_27_code 202 = .ok (.aload_n 0, 1) := by decide +kernel
theorem d_M_ask_203 : decode prog_11_method_27_code 203 = .ok (.iload 4, 2) := by decide +kernel
theorem d_M_ask_205 : decode prog_11_method_27_code 205 = .ok (.iload_n 3, 1) := by decide +kernel
theorem d_M_ask_206 : decode prog_11_method_27_code 206 = .ok (.invokevirtual 210, 3) := by decide +kernel
theorem d_M_ask_209 : decode prog_11_method_27_code 209 = .ok (.ifCond .ne 9, 3) := by decide +kernel
theorem d_M_ask_212 : decode prog_11_method_27_code 212 = .ok (.sipush (-32602), 3) := by decide +kernel
theorem d_M_ask_215 : decode prog_11_method_27_code 215 = .ok (.goto 18, 3) := by decide +kernel
theorem d_M_ask_218 : decode prog_11_method_27_code 218 = .ok (.aload_n 0, 1) := by decide +kernel
theorem d_M_ask_219 : decode prog_11_method_27_code 219 = .ok (.getfield 213, 3) := by decide +kernel
theorem d_M_ask_222 : decode prog_11_method_27_code 222 = .ok (.bipush 8, 2) := by decide +kernel
theorem d_M_ask_224 : decode prog_11_method_27_code 224 = .ok (.if_icmp .ne 8, 3) := by decide +kernel
theorem d_M_ask_227 : decode prog_11_method_27_code 227 = .ok (.ldc 216, 2) := by decide +kernel
theorem d_M_ask_229 : decode prog_11_method_27_code 229 = .ok (.goto 4, 3) := by decide +kernel
theorem d_M_ask_232 : decode prog_11_method_27_code 232 = .ok (.iconst 0, 1) := by decide +kernel
theorem d_M_ask_233 : decode prog_11_method_27_code 233 = .ok (.istore 5, 2) := by decide +kernel
theorem d_M_ask_235 : decode prog_11_method_27_code 235 = .ok (.iload 5, 2) := by decide +kernel
theorem d_M_ask_237 : decode prog_11_method_27_code 237 = .ok (.ifCond .eq 13, 3) := by decide +kernel
theorem d_M_ask_240 : decode prog_11_method_27_code 240 = .ok (.aload_n 0, 1) := by decide +kernel
theorem d_M_ask_241 : decode prog_11_method_27_code 241 = .ok (.iconst 1, 1) := by decide +kernel
theorem d_M_ask_242 : decode prog_11_method_27_code 242 = .ok (.iload_n 1, 1) := by decide +kernel
theorem d_M_ask_243 : decode prog_11_method_27_code 243 = .ok (.iconst 0, 1) := by decide +kernel
theorem d_M_ask_244 : decode prog_11_method_27_code 244 = .ok (.iload 5, 2) := by decide +kernel
theorem d_M_ask_246 : decode prog_11_method_27_code 246 = .ok (.invokevirtual 180, 3) := by decide +kernel
theorem d_M_ask_249 : decode prog_11_method_27_code 249 = .ok (.return_, 1) := by decide +kernel
theorem d_M_ask_250 : decode prog_11_method_27_code 250 = .ok (.aload_n 0, 1) := by decide +kernel
theorem d_M_ask_251 : decode prog_11_method_27_code 251 = .ok (.aload_n 0, 1) := by decide +kernel
theorem d_M_ask_252 : decode prog_11_method_27_code 252 = .ok (.iload_n 3, 1) := by decide +kernel
theorem d_M_ask_253 : decode prog_11_method_27_code 253 = .ok (.iconst 0, 1) := by decide +kernel
theorem d_M_ask_254 : decode prog_11_method_27_code 254 = .ok (.invokevirtual 217, 3) := by decide +kernel
theorem d_M_ask_257 : decode prog_11_method_27_code 257 = .ok (.invokevirtual 221, 3) := by decide +kernel
theorem d_M_ask_260 : decode prog_11_method_27_code 260 = .ok (.istore 6, 2) := by decide +kernel
theorem d_M_ask_262 : decode prog_11_method_27_code 262 = .ok (.aload_n 0, 1) := by decide +kernel
theorem d_M_ask_263 : decode prog_11_method_27_code 263 = .ok (.getfield 213, 3) := by decide +kernel
theorem d_M_ask_266 : decode prog_11_method_27_code 266 = .ok (.istore 7, 2) := by decide +kernel
theorem d_M_ask_268 : decode prog_11_method_27_code 268 = .ok (.aload_n 0, 1) := by decide +kernel
theorem d_M_ask_269 : decode prog_11_method_27_code 269 = .ok (.getfield 58, 3) := by decide +kernel
theorem d_M_ask_272 : decode prog_11_method_27_code 272 = .ok (.iload 7, 2) := by decide +kernel
theorem d_M_ask_274 : decode prog_11_method_27_code 274 = .ok (.iload_n 1, 1) := by decide +kernel
theorem d_M_ask_275 : decode prog_11_method_27_code 275 = .ok (.iastore, 1) := by decide +kernel
theorem d_M_ask_276 : decode prog_11_method_27_code 276 = .ok (.aload_n 0, 1) := by decide +kernel
theorem d_M_ask_277 : decode prog_11_method_27_code 277 = .ok (.getfield 61, 3) := by decide +kernel
theorem d_M_ask_280 : decode prog_11_method_27_code 280 = .ok (.iload 7, 2) := by decide +kernel
theorem d_M_ask_282 : decode prog_11_method_27_code 282 = .ok (.iload 4, 2) := by decide +kernel
theorem d_M_ask_284 : decode prog_11_method_27_code 284 = .ok (.iastore, 1) := by decide +kernel
theorem d_M_ask_285 : decode prog_11_method_27_code 285 = .ok (.aload_n 0, 1) := by decide +kernel
theorem d_M_ask_286 : decode prog_11_method_27_code 286 = .ok (.getfield 64, 3) := by decide +kernel
theorem d_M_ask_289 : decode prog_11_method_27_code 289 = .ok (.iload 7, 2) := by decide +kernel
theorem d_M_ask_291 : decode prog_11_method_27_code 291 = .ok (.iload 4, 2) := by decide +kernel
theorem d_M_ask_293 : decode prog_11_method_27_code 293 = .ok (.iconst 1, 1) := by decide +kernel
theorem d_M_ask_294 : decode prog_11_method_27_code 294 = .ok (.if_icmp .ne 22, 3) := by decide +kernel
theorem d_M_ask_297 : decode prog_11_method_27_code 297 = .ok (.aload_n 0, 1) := by decide +kernel
theorem d_M_ask_298 : decode prog_11_method_27_code 298 = .ok (.getfield 34, 3) := by decide +kernel
theorem d_M_ask_301 : decode prog_11_method_27_code 301 = .ok (.aload_n 0, 1) := by decide +kernel
theorem d_M_ask_302 : decode prog_11_method_27_code 302 = .ok (.getfield 19, 3) := by decide +kernel
theorem d_M_ask_305 : decode prog_11_method_27_code 305 = .ok (.aload_n 0, 1) := by decide +kernel
theorem d_M_ask_306 : decode prog_11_method_27_code 306 = .ok (.iload_n 3, 1) := by decide +kernel
theorem d_M_ask_307 : decode prog_11_method_27_code 307 = .ok (.iconst 1, 1) := by decide +kernel
theorem d_M_ask_308 : decode prog_11_method_27_code 308 = .ok (.invokevirtual 217, 3) := by decide +kernel
theorem d_M_ask_311 : decode prog_11_method_27_code 311 = .ok (.iaload, 1) := by decide +kernel
theorem d_M_ask_312 : decode prog_11_method_27_code 312 = .ok (.iaload, 1) := by decide +kernel
theorem d_M_ask_313 : decode prog_11_method_27_code 313 = .ok (.goto 24, 3) := by decide +kernel
theorem d_M_ask_316 : decode prog_11_method_27_code 316 = .ok (.iload 4, 2) := by decide +kernel
theorem d_M_ask_318 : decode prog_11_method_27_code 318 = .ok (.iconst 2, 1) := by decide +kernel
theorem d_M_ask_319 : decode prog_11_method_27_code 319 = .ok (.if_icmp .ne 17, 3) := by decide +kernel
theorem d_M_ask_322 : decode prog_11_method_27_code 322 = .ok (.aload_n 0, 1) := by decide +kernel
theorem d_M_ask_323 : decode prog_11_method_27_code 323 = .ok (.getfield 16, 3) := by decide +kernel
theorem d_M_ask_326 : decode prog_11_method_27_code 326 = .ok (.aload_n 0, 1) := by decide +kernel
theorem d_M_ask_327 : decode prog_11_method_27_code 327 = .ok (.iload_n 3, 1) := by decide +kernel
theorem d_M_ask_328 : decode prog_11_method_27_code 328 = .ok (.iconst 1, 1) := by decide +kernel
theorem d_M_ask_329 : decode prog_11_method_27_code 329 = .ok (.invokevirtual 217, 3) := by decide +kernel
theorem d_M_ask_332 : decode prog_11_method_27_code 332 = .ok (.iaload, 1) := by decide +kernel
theorem d_M_ask_333 : decode prog_11_method_27_code 333 = .ok (.goto 4, 3) := by decide +kernel
theorem d_M_ask_336 : decode prog_11_method_27_code 336 = .ok (.iconst 0, 1) := by decide +kernel
theorem d_M_ask_337 : decode prog_11_method_27_code 337 = .ok (.iastore, 1) := by decide +kernel
theorem d_M_ask_338 : decode prog_11_method_27_code 338 = .ok (.aload_n 0, 1) := by decide +kernel
theorem d_M_ask_339 : decode prog_11_method_27_code 339 = .ok (.getfield 67, 3) := by decide +kernel
theorem d_M_ask_342 : decode prog_11_method_27_code 342 = .ok (.iload 7, 2) := by decide +kernel
theorem d_M_ask_344 : decode prog_11_method_27_code 344 = .ok (.iload 4, 2) := by decide +kernel
theorem d_M_ask_346 : decode prog_11_method_27_code 346 = .ok (.iconst 2, 1) := by decide +kernel
theorem d_M_ask_347 : decode prog_11_method_27_code 347 = .ok (.if_icmp .ne 17, 3) := by decide +kernel
theorem d_M_ask_350 : decode prog_11_method_27_code 350 = .ok (.aload_n 0, 1) := by decide +kernel
theorem d_M_ask_351 : decode prog_11_method_27_code 351 = .ok (.getfield 16, 3) := by decide +kernel
theorem d_M_ask_354 : decode prog_11_method_27_code 354 = .ok (.aload_n 0, 1) := by decide +kernel
theorem d_M_ask_355 : decode prog_11_method_27_code 355 = .ok (.iload_n 3, 1) := by decide +kernel
theorem d_M_ask_356 : decode prog_11_method_27_code 356 = .ok (.iconst 2, 1) := by decide +kernel
theorem d_M_ask_357 : decode prog_11_method_27_code 357 = .ok (.invokevirtual 217, 3) := by decide +kernel
theorem d_M_ask_360 : decode prog_11_method_27_code 360 = .ok (.iaload, 1) := by decide +kernel
theorem d_M_ask_361 : decode prog_11_method_27_code 361 = .ok (.goto 4, 3) := by decide +kernel
theorem d_M_ask_364 : decode prog_11_method_27_code 364 = .ok (.iconst 0, 1) := by decide +kernel
theorem d_M_ask_365 : decode prog_11_method_27_code 365 = .ok (.iastore, 1) := by decide +kernel
theorem d_M_ask_366 : decode prog_11_method_27_code 366 = .ok (.aload_n 0, 1) := by decide +kernel
theorem d_M_ask_367 : decode prog_11_method_27_code 367 = .ok (.getfield 70, 3) := by decide +kernel
theorem d_M_ask_370 : decode prog_11_method_27_code 370 = .ok (.iload 7, 2) := by decide +kernel
theorem d_M_ask_372 : decode prog_11_method_27_code 372 = .ok (.aload_n 0, 1) := by decide +kernel
theorem d_M_ask_373 : decode prog_11_method_27_code 373 = .ok (.getfield 49, 3) := by decide +kernel
theorem d_M_ask_376 : decode prog_11_method_27_code 376 = .ok (.iload 6, 2) := by decide +kernel
theorem d_M_ask_378 : decode prog_11_method_27_code 378 = .ok (.iaload, 1) := by decide +kernel
theorem d_M_ask_379 : decode prog_11_method_27_code 379 = .ok (.iastore, 1) := by decide +kernel
theorem d_M_ask_380 : decode prog_11_method_27_code 380 = .ok (.iconst 0, 1) := by decide +kernel
theorem d_M_ask_381 : decode prog_11_method_27_code 381 = .ok (.istore 8, 2) := by decide +kernel
theorem d_M_ask_383 : decode prog_11_method_27_code 383 = .ok (.iload 8, 2) := by decide +kernel
theorem d_M_ask_385 : decode prog_11_method_27_code 385 = .ok (.aload_n 0, 1) := by decide +kernel
theorem d_M_ask_386 : decode prog_11_method_27_code 386 = .ok (.getfield 49, 3) := by decide +kernel
theorem d_M_ask_389 : decode prog_11_method_27_code 389 = .ok (.iload 6, 2) := by decide +kernel
theorem d_M_ask_391 : decode prog_11_method_27_code 391 = .ok (.iaload, 1) := by decide +kernel
theorem d_M_ask_392 : decode prog_11_method_27_code 392 = .ok (.if_icmp .ge 35, 3) := by decide +kernel
theorem d_M_ask_395 : decode prog_11_method_27_code 395 = .ok (.aload_n 0, 1) := by decide +kernel
theorem d_M_ask_396 : decode prog_11_method_27_code 396 = .ok (.getfield 73, 3) := by decide +kernel
theorem d_M_ask_399 : decode prog_11_method_27_code 399 = .ok (.bipush 60, 2) := by decide +kernel
theorem d_M_ask_401 : decode prog_11_method_27_code 401 = .ok (.iload 7, 2) := by decide +kernel
theorem d_M_ask_403 : decode prog_11_method_27_code 403 = .ok (.imul, 1) := by decide +kernel
theorem d_M_ask_404 : decode prog_11_method_27_code 404 = .ok (.iload 8, 2) := by decide +kernel
theorem d_M_ask_406 : decode prog_11_method_27_code 406 = .ok (.iadd, 1) := by decide +kernel
theorem d_M_ask_407 : decode prog_11_method_27_code 407 = .ok (.aload_n 0, 1) := by decide +kernel
theorem d_M_ask_408 : decode prog_11_method_27_code 408 = .ok (.getfield 52, 3) := by decide +kernel
theorem d_M_ask_411 : decode prog_11_method_27_code 411 = .ok (.bipush 60, 2) := by decide +kernel
theorem d_M_ask_413 : decode prog_11_method_27_code 413 = .ok (.iload 6, 2) := by decide +kernel
theorem d_M_ask_415 : decode prog_11_method_27_code 415 = .ok (.imul, 1) := by decide +kernel
theorem d_M_ask_416 : decode prog_11_method_27_code 416 = .ok (.iload 8, 2) := by decide +kernel
theorem d_M_ask_418 : decode prog_11_method_27_code 418 = .ok (.iadd, 1) := by decide +kernel
theorem d_M_ask_419 : decode prog_11_method_27_code 419 = .ok (.iaload, 1) := by decide +kernel
theorem d_M_ask_420 : decode prog_11_method_27_code 420 = .ok (.iastore, 1) := by decide +kernel
theorem d_M_ask_421 : decode prog_11_method_27_code 421 = .ok (.iinc 8 1, 3) := by decide +kernel
theorem d_M_ask_424 : decode prog_11_method_27_code 424 = .ok (.goto (-41), 3) := by decide +kernel
theorem d_M_ask_427 : decode prog_11_method_27_code 427 = .ok (.aload_n 0, 1) := by decide +kernel
theorem d_M_ask_428 : decode prog_11_method_27_code 428 = .ok (.dup, 1) := by decide +kernel
theorem d_M_ask_429 : decode prog_11_method_27_code 429 = .ok (.getfield 213, 3) := by decide +kernel
theorem d_M_ask_432 : decode prog_11_method_27_code 432 = .ok (.iconst 1, 1) := by decide +kernel
theorem d_M_ask_433 : decode prog_11_method_27_code 433 = .ok (.iadd, 1) := by decide +kernel
theorem d_M_ask_434 : decode prog_11_method_27_code 434 = .ok (.putfield 213, 3) := by decide +kernel
theorem d_M_ask_437 : decode prog_11_method_27_code 437 = .ok (.return_, 1) := by decide +kernel
set_option maxHeartbeats 4000000 in
set_option maxRecDepth 100000 in
theorem cM_ask (l : Launch) (dC : Nat → ClassId) (dI : Nat → Nat → Nat) (tk : Nat → ClassId) (A : Nat → Prop) (h : Nat) (L : Nat → Nat) (g : aG) (a : aA) (rw : va_W) (n : Nat) (v1 : Int32) (v2 : Int32) (v3 : Int32) (g0 : aG) (a0 : aA) (hm : mM_ask n v1 v2 v3 g a = some (g0, a0)) : CtV l dC dI tk A ⟨"EditorServerModel", "ask", "(III)V"⟩ prog_11_method_27_code 9 3 68 [.ref h, .int v1, .int v2, .int v3] (oW 0 h ksM spM tk L g a rw) (oW 0 h ksM spM tk L g0 a0 rw) := by
  refine ent (by decide) (Nat.le_of_ble_eq_true rfl) ?_
  intro p e s m args below meth c hx hb hr hml hown hlk hG hg hst ls hl
  unfold mM_ask at hm
  have hl : lv_has ls 9 [(0, .ref h), (1, .int v1), (2, .int v2), (3, .int v3)] := hl
  refine lv_aload_n hx hb d_M_ask_0 rfl (lv_at hl 0 rfl) ?_
  refine ro_geti hx hb hown hG hg cM hst 0 (by decide) rfl rfl k_1014 d_M_ask_1 ?_
  refine lv_if_ne (tgt := 49) hx hb d_M_ask_4 (by decide) (fun h1 => ?_) (fun h1 => ?_)
  · have hm := it_f hm h1
    refine lv_aload_n hx hb d_M_ask_49 rfl (lv_at hl 0 rfl) ?_
    refine ro_geti hx hb hown hG hg cM hst 0 (by decide) rfl rfl k_1014 d_M_ask_50 ?_
    refine lv_iconst (v := 2) hx hb d_M_ask_53 (by decide) ?_
    obtain ⟨qJ2, hm, hLJ2, hR3⟩ := jn_u hm
    have hJ2 : ∀ (g4 : aG) (a5 : aA), qJ2 = .inl (g4, a5) → ∀ (H : Heap) (locs : List Loc) (ls : Array Slot), lv_has ls 9 [(0, .ref h), (1, .int v1), (2, .int v2), (3, .int v3)] → St dC dI A s.heap H locs (oW 0 h ksM spM tk L g4 a5 rw) → W p l e (rmo 3 68) s m args below meth c H locs 0 0 (MQ below (QV dC dI A (oW 0 h ksM spM tk L g0 a0 rw)) args s 0 0 A) (F0 m 65 ls []) := by
      intro g4 a5 hq H locs ls hl hst
      have hm := hLJ2 _ hq
      dsimp only at hm
      refine lv_aload_n hx hb d_M_ask_65 rfl (lv_at hl 0 rfl) ?_
      refine lv_iconst (v := 1) hx hb d_M_ask_66 (by decide) ?_
      refine lv_iload_n hx hb d_M_ask_67 rfl (lv_at hl 1 rfl) ?_
      refine lv_iconst (v := 0) hx hb d_M_ask_68 (by decide) ?_
      refine lv_sipush (v := (-32600)) hx hb d_M_ask_69 (by decide) ?_
      obtain ⟨⟨g8, a9⟩, hc10, hm⟩ := bd_u hm
      dsimp only at hm
      refine cl_vv hx hb hml hown hG hg (cM_respond l dC dI tk A h L g4 a5 rw n 1 v1 0 (-32600) _ _ hc10) (cw_v 4 hG k_1211 k_1213 s_37 k_14 k_1214 (by decide +kernel) ⟨by decide, by decide⟩) hst rfl oW_0 rfl hl.1 rfl (Nat.le_of_ble_eq_true rfl) ⟨Nat.le_refl 0, Nat.le_refl 0⟩ d_M_ask_72 (fun H locs hst => ?_)
      have he := (Option.some.inj hm)
      cases he
      exact rt_v hx hb hr hlk hst d_M_ask_75
    refine lv_icmp_eq (tgt := 65) hx hb d_M_ask_54 (by decide) (fun h11 => ?_) (fun h11 => ?_)
    · have hm := it_t hm h11
      exact hJ2 g a (Option.some.inj hm).symm _ _ _ (lv_sub hl [0, 1, 2, 3] rfl) hst
    · have hm := it_f hm h11
      refine lv_aload_n hx hb d_M_ask_57 rfl (lv_at hl 0 rfl) ?_
      refine lv_iload_n hx hb d_M_ask_58 rfl (lv_at hl 2 rfl) ?_
      obtain ⟨x13, hc14, hm⟩ := bd_u hm
      refine cl_vi hx hb hml hown hG hg (cM_isInitialize l dC dI tk A h L g a rw n v2 _ hc14) (cw_v 1 hG k_1231 k_1233 s_42 k_14 k_1234 (by decide +kernel) ⟨by decide, by decide⟩) hst rfl oW_0 rfl hl.1 rfl (Nat.le_of_ble_eq_true rfl) ⟨Nat.le_refl 0, Nat.le_refl 0⟩ d_M_ask_59 (fun H locs hst => ?_)
      refine lv_if_eq (tgt := 76) hx hb d_M_ask_62 (by decide) (fun h15 => ?_) (fun h15 => ?_)
      · have hm := it_t hm h15
        refine lv_aload_n hx hb d_M_ask_76 rfl (lv_at hl 0 rfl) ?_
        refine lv_iload_n hx hb d_M_ask_77 rfl (lv_at hl 2 rfl) ?_
        obtain ⟨x17, hc18, hm⟩ := bd_u hm
        refine cl_vi hx hb hml hown hG hg (cM_isShutdown l dC dI tk A h L g a rw n v2 _ hc18) (cw_v 1 hG k_1235 k_1237 s_43 k_14 k_1238 (by decide +kernel) ⟨by decide, by decide⟩) hst rfl oW_0 rfl hl.1 rfl (Nat.le_of_ble_eq_true rfl) ⟨Nat.le_refl 0, Nat.le_refl 0⟩ d_M_ask_78 (fun H locs hst => ?_)
        refine lv_if_eq (tgt := 98) hx hb d_M_ask_81 (by decide) (fun h19 => ?_) (fun h19 => ?_)
        · have hm := it_t hm h19
          refine lv_aload_n hx hb d_M_ask_98 rfl (lv_at hl 0 rfl) ?_
          refine lv_iload_n hx hb d_M_ask_99 rfl (lv_at hl 2 rfl) ?_
          refine lv_bipush (v := 108) hx hb d_M_ask_100 (by decide) ?_
          refine lv_bipush (v := 101) hx hb d_M_ask_102 (by decide) ?_
          refine lv_bipush (v := 110) hx hb d_M_ask_104 (by decide) ?_
          refine lv_bipush (v := 103) hx hb d_M_ask_106 (by decide) ?_
          refine lv_bipush (v := 116) hx hb d_M_ask_108 (by decide) ?_
          refine lv_bipush (v := 104) hx hb d_M_ask_110 (by decide) ?_
          obtain ⟨x21, hc22, hm⟩ := bd_u hm
          refine cl_vi hx hb hml hown hG hg (cM_says l dC dI tk A h L g a rw n v2 108 101 110 103 116 104 _ hc22) (cw_v 7 hG k_1239 k_1241 s_44 k_14 k_1242 (by decide +kernel) ⟨by decide, by decide⟩) hst rfl oW_0 rfl hl.1 rfl (Nat.le_of_ble_eq_true rfl) ⟨Nat.le_refl 0, Nat.le_refl 0⟩ d_M_ask_112 (fun H locs hst => ?_)
          obtain ⟨qJ23, hm, hLJ23, hR24⟩ := jn_u hm
          have hJ23 : ∀ (x25 : Int32), qJ23 = .inl x25 → ∀ (H : Heap) (locs : List Loc) (ls : Array Slot), lv_has ls 9 [(0, .ref h), (1, .int v1), (2, .int v2), (3, .int v3)] → St dC dI A s.heap H locs (oW 0 h ksM spM tk L g a rw) → W p l e (rmo 3 68) s m args below meth c H locs 0 0 (MQ below (QV dC dI A (oW 0 h ksM spM tk L g0 a0 rw)) args s 0 0 A) (F0 m 189 ls [.int x25]) := by
            intro x25 hq H locs ls hl hst
            have hm := hLJ23 _ hq
            refine lv_istore (lv' := [(4, .int x25), (0, .ref h), (1, .int v1), (2, .int v2), (3, .int v3)]) hx hb d_M_ask_189 hl (by decide) rfl (fun ls hl => ?_)
            refine lv_iload hx hb d_M_ask_191 (lv_at hl 0 rfl) ?_
            obtain ⟨qJ27, hm, hLJ27, hR28⟩ := jn_u hm
            have hJ27 : ∀ (x29 : Int32), qJ27 = .inl x29 → ∀ (H : Heap) (locs : List Loc) (ls : Array Slot), lv_has ls 9 [(0, .ref h), (1, .int v1), (2, .int v2), (3, .int v3), (4, .int x25)] → St dC dI A s.heap H locs (oW 0 h ksM spM tk L g a rw) → W p l e (rmo 3 68) s m args below meth c H locs 0 0 (MQ below (QV dC dI A (oW 0 h ksM spM tk L g0 a0 rw)) args s 0 0 A) (F0 m 233 ls [.int x29]) := by
              intro x29 hq H locs ls hl hst
              have hm := hLJ27 _ hq
              refine lv_istore (lv' := [(5, .int x29), (0, .ref h), (1, .int v1), (2, .int v2), (3, .int v3), (4, .int x25)]) hx hb d_M_ask_233 hl (by decide) rfl (fun ls hl => ?_)
              refine lv_iload hx hb d_M_ask_235 (lv_at hl 0 rfl) ?_
              refine lv_if_eq (tgt := 250) hx hb d_M_ask_237 (by decide) (fun h31 => ?_) (fun h31 => ?_)
              · have hm := it_t hm h31
                refine lv_aload_n hx hb d_M_ask_250 rfl (lv_at hl 1 rfl) ?_
                refine lv_aload_n hx hb d_M_ask_251 rfl (lv_at hl 1 rfl) ?_
                refine lv_iload_n hx hb d_M_ask_252 rfl (lv_at hl 4 rfl) ?_
                refine lv_iconst (v := 0) hx hb d_M_ask_253 (by decide) ?_
                obtain ⟨x33, hc34, hm⟩ := bd_u hm
                refine cl_vi hx hb hml hown hG hg (cM_item l dC dI tk A h L g a rw n v3 0 _ hc34) (cw_v 2 hG k_1251 k_1253 s_47 k_14 k_1254 (by decide +kernel) ⟨by decide, by decide⟩) hst rfl oW_0 rfl hl.1 rfl (Nat.le_of_ble_eq_true rfl) ⟨Nat.le_refl 0, Nat.le_refl 0⟩ d_M_ask_254 (fun H locs hst => ?_)
                obtain ⟨x36, hc37, hm⟩ := bd_u hm
                refine cl_vi hx hb hml hown hG hg (cM_documentOf l dC dI tk A h L g a rw n x33 _ hc37) (cw_v 1 hG k_1255 k_1257 s_48 k_14 k_1258 (by decide +kernel) ⟨by decide, by decide⟩) hst rfl oW_0 rfl hl.1 rfl (Nat.le_of_ble_eq_true rfl) ⟨Nat.le_refl 0, Nat.le_refl 0⟩ d_M_ask_257 (fun H locs hst => ?_)
                refine lv_istore (lv' := [(6, .int x36), (5, .int x29), (0, .ref h), (1, .int v1), (2, .int v2), (3, .int v3), (4, .int x25)]) hx hb d_M_ask_260 hl (by decide) rfl (fun ls hl => ?_)
                refine lv_aload_n hx hb d_M_ask_262 rfl (lv_at hl 2 rfl) ?_
                refine ro_geti hx hb hown hG hg cM hst 31 (by decide) rfl rfl k_1045 d_M_ask_263 ?_
                refine lv_istore (lv' := [(7, .int (g 31)), (6, .int x36), (5, .int x29), (0, .ref h), (1, .int v1), (2, .int v2), (3, .int v3), (4, .int x25)]) hx hb d_M_ask_266 hl (by decide) rfl (fun ls hl => ?_)
                refine lv_aload_n hx hb d_M_ask_268 rfl (lv_at hl 3 rfl) ?_
                refine ro_geta hx hb hown hG hg cM hst 32 16 (by decide) rfl rfl k_1046 d_M_ask_269 ?_
                refine lv_iload hx hb d_M_ask_272 (lv_at hl 0 rfl) ?_
                refine lv_iload_n hx hb d_M_ask_274 rfl (lv_at hl 4 rfl) ?_
                obtain ⟨hn38, hm⟩ := gd_u hm
                refine ro_iast hx hb hg hst 16 rfl hn38 d_M_ask_275 (fun a39 H locs ea39 hst => ?_)
                have hm := lt_u hm a39 ea39
                refine lv_aload_n hx hb d_M_ask_276 rfl (lv_at hl 3 rfl) ?_
                refine ro_geta hx hb hown hG hg cM hst 33 17 (by decide) rfl rfl k_1047 d_M_ask_277 ?_
                refine lv_iload hx hb d_M_ask_280 (lv_at hl 0 rfl) ?_
                refine lv_iload hx hb d_M_ask_282 (lv_at hl 7 rfl) ?_
                obtain ⟨hn40, hm⟩ := gd_u hm
                refine ro_iast hx hb hg hst 17 rfl hn40 d_M_ask_284 (fun a41 H locs ea41 hst => ?_)
                have hm := lt_u hm a41 ea41
                refine lv_aload_n hx hb d_M_ask_285 rfl (lv_at hl 3 rfl) ?_
                refine ro_geta hx hb hown hG hg cM hst 34 18 (by decide) rfl rfl k_1048 d_M_ask_286 ?_
                refine lv_iload hx hb d_M_ask_289 (lv_at hl 0 rfl) ?_
                refine lv_iload hx hb d_M_ask_291 (lv_at hl 7 rfl) ?_
                refine lv_iconst (v := 1) hx hb d_M_ask_293 (by decide) ?_
                obtain ⟨qJ42, hm, hLJ42, hR43⟩ := jn_u hm
                have hJ42 : ∀ (x44 : Int32), qJ42 = .inl x44 → ∀ (H : Heap) (locs : List Loc) (ls : Array Slot), lv_has ls 9 [(0, .ref h), (1, .int v1), (2, .int v2), (3, .int v3), (4, .int x25), (5, .int x29), (6, .int x36), (7, .int (g 31))] → St dC dI A s.heap H locs (oW 0 h ksM spM tk L g a41 rw) → W p l e (rmo 3 68) s m args below meth c H locs 0 0 (MQ below (QV dC dI A (oW 0 h ksM spM tk L g0 a0 rw)) args s 0 0 A) (F0 m 337 ls [.int x44, .int (g 31), .ref (L 18)]) := by
                  intro x44 hq H locs ls hl hst
                  have hm := hLJ42 _ hq
                  obtain ⟨hn46, hm⟩ := gd_u hm
                  refine ro_iast hx hb hg hst 18 rfl hn46 d_M_ask_337 (fun a47 H locs ea47 hst => ?_)
                  have hm := lt_u hm a47 ea47
                  refine lv_aload_n hx hb d_M_ask_338 rfl (lv_at hl 0 rfl) ?_
                  refine ro_geta hx hb hown hG hg cM hst 35 19 (by decide) rfl rfl k_1049 d_M_ask_339 ?_
                  refine lv_iload hx hb d_M_ask_342 (lv_at hl 7 rfl) ?_
                  refine lv_iload hx hb d_M_ask_344 (lv_at hl 4 rfl) ?_
                  refine lv_iconst (v := 2) hx hb d_M_ask_346 (by decide) ?_
                  obtain ⟨qJ48, hm, hLJ48, hR49⟩ := jn_u hm
                  have hJ48 : ∀ (x50 : Int32), qJ48 = .inl x50 → ∀ (H : Heap) (locs : List Loc) (ls : Array Slot), lv_has ls 9 [(0, .ref h), (1, .int v1), (2, .int v2), (3, .int v3), (4, .int x25), (5, .int x29), (6, .int x36), (7, .int (g 31))] → St dC dI A s.heap H locs (oW 0 h ksM spM tk L g a47 rw) → W p l e (rmo 3 68) s m args below meth c H locs 0 0 (MQ below (QV dC dI A (oW 0 h ksM spM tk L g0 a0 rw)) args s 0 0 A) (F0 m 365 ls [.int x50, .int (g 31), .ref (L 19)]) := by
                    intro x50 hq H locs ls hl hst
                    have hm := hLJ48 _ hq
                    obtain ⟨hn52, hm⟩ := gd_u hm
                    refine ro_iast hx hb hg hst 19 rfl hn52 d_M_ask_365 (fun a53 H locs ea53 hst => ?_)
                    have hm := lt_u hm a53 ea53
                    refine lv_aload_n hx hb d_M_ask_366 rfl (lv_at hl 0 rfl) ?_
                    refine ro_geta hx hb hown hG hg cM hst 36 20 (by decide) rfl rfl k_1050 d_M_ask_367 ?_
                    refine lv_iload hx hb d_M_ask_370 (lv_at hl 7 rfl) ?_
                    refine lv_aload_n hx hb d_M_ask_372 rfl (lv_at hl 0 rfl) ?_
                    refine ro_geta hx hb hown hG hg cM hst 26 13 (by decide) rfl rfl k_1040 d_M_ask_373 ?_
                    refine lv_iload hx hb d_M_ask_376 (lv_at hl 6 rfl) ?_
                    obtain ⟨hn54, hm⟩ := gd_u hm
                    refine ro_iald hx hb hg hst 13 rfl hn54 d_M_ask_378 ?_
                    refine lv_topi (fun x55 ex55 => ?_)
                    have hm := lt_u hm x55 ex55
                    obtain ⟨hn56, hm⟩ := gd_u hm
                    refine ro_iast hx hb hg hst 20 rfl hn56 d_M_ask_379 (fun a57 H locs ea57 hst => ?_)
                    have hm := lt_u hm a57 ea57
                    refine lv_iconst (v := 0) hx hb d_M_ask_380 (by decide) ?_
                    refine lv_istore (lv' := [(8, .int 0), (0, .ref h), (1, .int v1), (2, .int v2), (3, .int v3), (4, .int x25), (5, .int x29), (6, .int x36), (7, .int (g 31))]) hx hb d_M_ask_381 hl (by decide) rfl (fun ls hl => ?_)
                    refine lp_u (fun q60 : Int32 × aA => ∀ (H : Heap) (locs : List Loc) (ls : Array Slot), lv_has ls 9 [(0, .ref h), (1, .int v1), (2, .int v2), (3, .int v3), (4, .int x25), (5, .int x29), (6, .int x36), (7, .int (g 31)), (8, .int q60.1)] → St dC dI A s.heap H locs (oW 0 h ksM spM tk L g q60.2 rw) → W p l e (rmo 3 68) s m args below meth c H locs 0 0 (MQ below (QV dC dI A (oW 0 h ksM spM tk L g0 a0 rw)) args s 0 0 A) (F0 m 383 ls [])) ?_ n (0, a57) hm _ _ _ (lv_sub hl [1, 2, 3, 4, 5, 6, 7, 8, 0] rfl) hst
                    rintro ⟨x58, a59⟩ r63 hm hJ610 hR62 H locs ls hl hst
                    dsimp only at hm hl hst ⊢
                    have hJ61 := fun y0 y1 (e : r63 = .inl (y0, y1)) => hJ610 (y0, y1) e
                    dsimp only at hJ61
                    refine lv_iload hx hb d_M_ask_383 (lv_at hl 8 rfl) ?_
                    refine lv_aload_n hx hb d_M_ask_385 rfl (lv_at hl 0 rfl) ?_
                    refine ro_geta hx hb hown hG hg cM hst 26 13 (by decide) rfl rfl k_1040 d_M_ask_386 ?_
                    refine lv_iload hx hb d_M_ask_389 (lv_at hl 6 rfl) ?_
                    obtain ⟨hn64, hm⟩ := gd_u hm
                    refine ro_iald hx hb hg hst 13 rfl hn64 d_M_ask_391 ?_
                    refine lv_topi (fun x65 ex65 => ?_)
                    have hm := lt_u hm x65 ex65
                    refine lv_icmp_ge (tgt := 427) hx hb d_M_ask_392 (by decide) (fun h66 => ?_) (fun h66 => ?_)
                    · have hm := it_t hm h66
                      refine lv_aload_n hx hb d_M_ask_427 rfl (lv_at hl 0 rfl) ?_
                      refine lv_dup hx hb d_M_ask_428 rfl ?_
                      refine ro_geti hx hb hown hG hg cM hst 31 (by decide) rfl rfl k_1045 d_M_ask_429 ?_
                      refine lv_iconst (v := 1) hx hb d_M_ask_432 (by decide) ?_
                      refine lv_iadd hx hb d_M_ask_433 ?_
                      refine ro_puti hx hb hown hG hg cM hst 31 (by decide) rfl rfl rfl rfl rfl k_1045 d_M_ask_434 (fun g67 H locs eg67 hst => ?_)
                      have hm := lt_u hm g67 eg67
                      have he := (hR3 _ (hR62 _ (Option.some.inj hm).symm).symm)
                      cases he
                      exact rt_v hx hb hr hlk hst d_M_ask_437
                    · have hm := it_f hm h66
                      refine lv_aload_n hx hb d_M_ask_395 rfl (lv_at hl 0 rfl) ?_
                      refine ro_geta hx hb hown hG hg cM hst 37 21 (by decide) rfl rfl k_1051 d_M_ask_396 ?_
                      refine lv_bipush (v := 60) hx hb d_M_ask_399 (by decide) ?_
                      refine lv_iload hx hb d_M_ask_401 (lv_at hl 7 rfl) ?_
                      refine lv_imul hx hb d_M_ask_403 ?_
                      refine lv_iload hx hb d_M_ask_404 (lv_at hl 8 rfl) ?_
                      refine lv_iadd hx hb d_M_ask_406 ?_
                      refine lv_aload_n hx hb d_M_ask_407 rfl (lv_at hl 0 rfl) ?_
                      refine ro_geta hx hb hown hG hg cM hst 27 14 (by decide) rfl rfl k_1041 d_M_ask_408 ?_
                      refine lv_bipush (v := 60) hx hb d_M_ask_411 (by decide) ?_
                      refine lv_iload hx hb d_M_ask_413 (lv_at hl 6 rfl) ?_
                      refine lv_imul hx hb d_M_ask_415 ?_
                      refine lv_iload hx hb d_M_ask_416 (lv_at hl 8 rfl) ?_
                      refine lv_iadd hx hb d_M_ask_418 ?_
                      obtain ⟨hn68, hm⟩ := gd_u hm
                      refine ro_iald hx hb hg hst 14 rfl hn68 d_M_ask_419 ?_
                      refine lv_topi (fun x69 ex69 => ?_)
                      have hm := lt_u hm x69 ex69
                      obtain ⟨hn70, hm⟩ := gd_u hm
                      refine ro_iast hx hb hg hst 21 rfl hn70 d_M_ask_420 (fun a71 H locs ea71 hst => ?_)
                      have hm := lt_u hm a71 ea71
                      refine lv_iinc (k := 8) (v := (x58 + 1)) (lv' := [(8, .int (x58 + 1)), (0, .ref h), (1, .int v1), (2, .int v2), (3, .int v3), (4, .int x25), (5, .int x29), (6, .int x36), (7, .int (g 31))]) hx hb d_M_ask_421 hl rfl (by rfl) (by decide) rfl (fun ls hl => ?_)
                      refine lv_goto (tgt := 383) hx hb d_M_ask_424 (by decide) ?_
                      exact hJ61 (x58 + 1) a71 (Option.some.inj hm).symm _ _ _ (lv_sub hl [1, 2, 3, 4, 5, 6, 7, 8, 0] rfl) hst
                  refine lv_icmp_ne (tgt := 364) hx hb d_M_ask_347 (by decide) (fun h72 => ?_) (fun h72 => ?_)
                  · have hm := it_f hm h72
                    refine lv_iconst (v := 0) hx hb d_M_ask_364 (by decide) ?_
                    exact hJ48 0 (Option.some.inj hm).symm _ _ _ (lv_sub hl [0, 1, 2, 3, 4, 5, 6, 7] rfl) hst
                  · have hm := it_t hm h72
                    refine lv_aload_n hx hb d_M_ask_350 rfl (lv_at hl 0 rfl) ?_
                    refine ro_geta hx hb hown hG hg cM hst 10 2 (by decide) rfl rfl k_1024 d_M_ask_351 ?_
                    refine lv_aload_n hx hb d_M_ask_354 rfl (lv_at hl 0 rfl) ?_
                    refine lv_iload_n hx hb d_M_ask_355 rfl (lv_at hl 3 rfl) ?_
                    refine lv_iconst (v := 2) hx hb d_M_ask_356 (by decide) ?_
                    obtain ⟨x74, hc75, hm⟩ := bd_u hm
                    refine cl_vi hx hb hml hown hG hg (cM_item l dC dI tk A h L g a47 rw n v3 2 _ hc75) (cw_v 2 hG k_1251 k_1253 s_47 k_14 k_1254 (by decide +kernel) ⟨by decide, by decide⟩) hst rfl oW_0 rfl hl.1 rfl (Nat.le_of_ble_eq_true rfl) ⟨Nat.le_refl 0, Nat.le_refl 0⟩ d_M_ask_357 (fun H locs hst => ?_)
                    obtain ⟨hn76, hm⟩ := gd_u hm
                    refine ro_iald hx hb hg hst 2 rfl hn76 d_M_ask_360 ?_
                    refine lv_topi (fun x77 ex77 => ?_)
                    have hm := lt_u hm x77 ex77
                    refine lv_goto (tgt := 365) hx hb d_M_ask_361 (by decide) ?_
                    exact hJ48 x77 (Option.some.inj hm).symm _ _ _ (lv_sub hl [0, 1, 2, 3, 4, 5, 6, 7] rfl) hst
                refine lv_icmp_ne (tgt := 316) hx hb d_M_ask_294 (by decide) (fun h78 => ?_) (fun h78 => ?_)
                · have hm := it_f hm h78
                  refine lv_iload hx hb d_M_ask_316 (lv_at hl 7 rfl) ?_
                  refine lv_iconst (v := 2) hx hb d_M_ask_318 (by decide) ?_
                  refine lv_icmp_ne (tgt := 336) hx hb d_M_ask_319 (by decide) (fun h79 => ?_) (fun h79 => ?_)
                  · have hm := it_f hm h79
                    refine lv_iconst (v := 0) hx hb d_M_ask_336 (by decide) ?_
                    exact hJ42 0 (Option.some.inj hm).symm _ _ _ (lv_sub hl [3, 4, 5, 6, 7, 2, 1, 0] rfl) hst
                  · have hm := it_t hm h79
                    refine lv_aload_n hx hb d_M_ask_322 rfl (lv_at hl 3 rfl) ?_
                    refine ro_geta hx hb hown hG hg cM hst 10 2 (by decide) rfl rfl k_1024 d_M_ask_323 ?_
                    refine lv_aload_n hx hb d_M_ask_326 rfl (lv_at hl 3 rfl) ?_
                    refine lv_iload_n hx hb d_M_ask_327 rfl (lv_at hl 6 rfl) ?_
                    refine lv_iconst (v := 1) hx hb d_M_ask_328 (by decide) ?_
                    obtain ⟨x81, hc82, hm⟩ := bd_u hm
                    refine cl_vi hx hb hml hown hG hg (cM_item l dC dI tk A h L g a41 rw n v3 1 _ hc82) (cw_v 2 hG k_1251 k_1253 s_47 k_14 k_1254 (by decide +kernel) ⟨by decide, by decide⟩) hst rfl oW_0 rfl hl.1 rfl (Nat.le_of_ble_eq_true rfl) ⟨Nat.le_refl 0, Nat.le_refl 0⟩ d_M_ask_329 (fun H locs hst => ?_)
                    obtain ⟨hn83, hm⟩ := gd_u hm
                    refine ro_iald hx hb hg hst 2 rfl hn83 d_M_ask_332 ?_
                    refine lv_topi (fun x84 ex84 => ?_)
                    have hm := lt_u hm x84 ex84
                    refine lv_goto (tgt := 337) hx hb d_M_ask_333 (by decide) ?_
                    exact hJ42 x84 (Option.some.inj hm).symm _ _ _ (lv_sub hl [3, 4, 5, 6, 7, 2, 1, 0] rfl) hst
                · have hm := it_t hm h78
                  refine lv_aload_n hx hb d_M_ask_297 rfl (lv_at hl 3 rfl) ?_
                  refine ro_geta hx hb hown hG hg cM hst 16 8 (by decide) rfl rfl k_1030 d_M_ask_298 ?_
                  refine lv_aload_n hx hb d_M_ask_301 rfl (lv_at hl 3 rfl) ?_
                  refine ro_geta hx hb hown hG hg cM hst 11 3 (by decide) rfl rfl k_1025 d_M_ask_302 ?_
                  refine lv_aload_n hx hb d_M_ask_305 rfl (lv_at hl 3 rfl) ?_
                  refine lv_iload_n hx hb d_M_ask_306 rfl (lv_at hl 6 rfl) ?_
                  refine lv_iconst (v := 1) hx hb d_M_ask_307 (by decide) ?_
                  obtain ⟨x86, hc87, hm⟩ := bd_u hm
                  refine cl_vi hx hb hml hown hG hg (cM_item l dC dI tk A h L g a41 rw n v3 1 _ hc87) (cw_v 2 hG k_1251 k_1253 s_47 k_14 k_1254 (by decide +kernel) ⟨by decide, by decide⟩) hst rfl oW_0 rfl hl.1 rfl (Nat.le_of_ble_eq_true rfl) ⟨Nat.le_refl 0, Nat.le_refl 0⟩ d_M_ask_308 (fun H locs hst => ?_)
                  obtain ⟨hn88, hm⟩ := gd_u hm
                  refine ro_iald hx hb hg hst 3 rfl hn88 d_M_ask_311 ?_
                  refine lv_topi (fun x89 ex89 => ?_)
                  have hm := lt_u hm x89 ex89
                  obtain ⟨hn90, hm⟩ := gd_u hm
                  refine ro_iald hx hb hg hst 8 rfl hn90 d_M_ask_312 ?_
                  refine lv_topi (fun x91 ex91 => ?_)
                  have hm := lt_u hm x91 ex91
                  refine lv_goto (tgt := 337) hx hb d_M_ask_313 (by decide) ?_
                  exact hJ42 x91 (Option.some.inj hm).symm _ _ _ (lv_sub hl [3, 4, 5, 6, 7, 2, 1, 0] rfl) hst
              · have hm := it_f hm h31
                refine lv_aload_n hx hb d_M_ask_240 rfl (lv_at hl 1 rfl) ?_
                refine lv_iconst (v := 1) hx hb d_M_ask_241 (by decide) ?_
                refine lv_iload_n hx hb d_M_ask_242 rfl (lv_at hl 2 rfl) ?_
                refine lv_iconst (v := 0) hx hb d_M_ask_243 (by decide) ?_
                refine lv_iload hx hb d_M_ask_244 (lv_at hl 0 rfl) ?_
                obtain ⟨⟨g93, a94⟩, hc95, hm⟩ := bd_u hm
                dsimp only at hm
                refine cl_vv hx hb hml hown hG hg (cM_respond l dC dI tk A h L g a rw n 1 v1 0 x29 _ _ hc95) (cw_v 4 hG k_1211 k_1213 s_37 k_14 k_1214 (by decide +kernel) ⟨by decide, by decide⟩) hst rfl oW_0 rfl hl.1 rfl (Nat.le_of_ble_eq_true rfl) ⟨Nat.le_refl 0, Nat.le_refl 0⟩ d_M_ask_246 (fun H locs hst => ?_)
                have he := (hR3 _ (Option.some.inj hm).symm)
                cases he
                exact rt_v hx hb hr hlk hst d_M_ask_249
            refine lv_if_ge (tgt := 202) hx hb d_M_ask_193 (by decide) (fun h96 => ?_) (fun h96 => ?_)
            · have hm := it_t hm h96
              refine lv_aload_n hx hb d_M_ask_202 rfl (lv_at hl 1 rfl) ?_
              refine lv_iload hx hb d_M_ask_203 (lv_at hl 0 rfl) ?_
              refine lv_iload_n hx hb d_M_ask_205 rfl (lv_at hl 4 rfl) ?_
              obtain ⟨x98, hc99, hm⟩ := bd_u hm
              refine cl_vi hx hb hml hown hG hg (cM_fits l dC dI tk A h L g a rw n x25 v3 _ hc99) (cw_v 2 hG k_1243 k_1245 s_45 k_14 k_1246 (by decide +kernel) ⟨by decide, by decide⟩) hst rfl oW_0 rfl hl.1 rfl (Nat.le_of_ble_eq_true rfl) ⟨Nat.le_refl 0, Nat.le_refl 0⟩ d_M_ask_206 (fun H locs hst => ?_)
              refine lv_if_ne (tgt := 218) hx hb d_M_ask_209 (by decide) (fun h100 => ?_) (fun h100 => ?_)
              · have hm := it_f hm h100
                refine lv_aload_n hx hb d_M_ask_218 rfl (lv_at hl 1 rfl) ?_
                refine ro_geti hx hb hown hG hg cM hst 31 (by decide) rfl rfl k_1045 d_M_ask_219 ?_
                refine lv_bipush (v := 8) hx hb d_M_ask_222 (by decide) ?_
                refine lv_icmp_ne (tgt := 232) hx hb d_M_ask_224 (by decide) (fun h101 => ?_) (fun h101 => ?_)
                · have hm := it_f hm h101
                  refine lv_iconst (v := 0) hx hb d_M_ask_232 (by decide) ?_
                  exact hJ27 0 (Option.some.inj hm).symm _ _ _ (lv_sub hl [1, 2, 3, 4, 0] rfl) hst
                · have hm := it_t hm h101
                  refine lv_ldc (v := (-32803)) hx hb hown (hG _ k_1259) d_M_ask_227 ?_
                  refine lv_goto (tgt := 233) hx hb d_M_ask_229 (by decide) ?_
                  exact hJ27 (-32803) (Option.some.inj hm).symm _ _ _ (lv_sub hl [1, 2, 3, 4, 0] rfl) hst
              · have hm := it_t hm h100
                refine lv_sipush (v := (-32602)) hx hb d_M_ask_212 (by decide) ?_
                refine lv_goto (tgt := 233) hx hb d_M_ask_215 (by decide) ?_
                exact hJ27 (-32602) (Option.some.inj hm).symm _ _ _ (lv_sub hl [1, 2, 3, 4, 0] rfl) hst
            · have hm := it_f hm h96
              refine lv_sipush (v := (-32601)) hx hb d_M_ask_196 (by decide) ?_
              refine lv_goto (tgt := 233) hx hb d_M_ask_199 (by decide) ?_
              exact hJ27 (-32601) (Option.some.inj hm).symm _ _ _ (lv_sub hl [1, 2, 3, 4, 0] rfl) hst
          refine lv_if_eq (tgt := 122) hx hb d_M_ask_115 (by decide) (fun h102 => ?_) (fun h102 => ?_)
          · have hm := it_t hm h102
            refine lv_aload_n hx hb d_M_ask_122 rfl (lv_at hl 0 rfl) ?_
            refine lv_iload_n hx hb d_M_ask_123 rfl (lv_at hl 2 rfl) ?_
            refine lv_bipush (v := 105) hx hb d_M_ask_124 (by decide) ?_
            refine lv_bipush (v := 110) hx hb d_M_ask_126 (by decide) ?_
            refine lv_bipush (v := 100) hx hb d_M_ask_128 (by decide) ?_
            refine lv_bipush (v := 101) hx hb d_M_ask_130 (by decide) ?_
            refine lv_bipush (v := 120) hx hb d_M_ask_132 (by decide) ?_
            refine lv_iconst (v := 0) hx hb d_M_ask_134 (by decide) ?_
            obtain ⟨x104, hc105, hm⟩ := bd_u hm
            refine cl_vi hx hb hml hown hG hg (cM_says l dC dI tk A h L g a rw n v2 105 110 100 101 120 0 _ hc105) (cw_v 7 hG k_1239 k_1241 s_44 k_14 k_1242 (by decide +kernel) ⟨by decide, by decide⟩) hst rfl oW_0 rfl hl.1 rfl (Nat.le_of_ble_eq_true rfl) ⟨Nat.le_refl 0, Nat.le_refl 0⟩ d_M_ask_135 (fun H locs hst => ?_)
            refine lv_if_eq (tgt := 145) hx hb d_M_ask_138 (by decide) (fun h106 => ?_) (fun h106 => ?_)
            · have hm := it_t hm h106
              refine lv_aload_n hx hb d_M_ask_145 rfl (lv_at hl 0 rfl) ?_
              refine lv_iload_n hx hb d_M_ask_146 rfl (lv_at hl 2 rfl) ?_
              refine lv_bipush (v := 97) hx hb d_M_ask_147 (by decide) ?_
              refine lv_bipush (v := 116) hx hb d_M_ask_149 (by decide) ?_
              refine lv_iconst (v := 0) hx hb d_M_ask_151 (by decide) ?_
              refine lv_iconst (v := 0) hx hb d_M_ask_152 (by decide) ?_
              refine lv_iconst (v := 0) hx hb d_M_ask_153 (by decide) ?_
              refine lv_iconst (v := 0) hx hb d_M_ask_154 (by decide) ?_
              obtain ⟨x108, hc109, hm⟩ := bd_u hm
              refine cl_vi hx hb hml hown hG hg (cM_says l dC dI tk A h L g a rw n v2 97 116 0 0 0 0 _ hc109) (cw_v 7 hG k_1239 k_1241 s_44 k_14 k_1242 (by decide +kernel) ⟨by decide, by decide⟩) hst rfl oW_0 rfl hl.1 rfl (Nat.le_of_ble_eq_true rfl) ⟨Nat.le_refl 0, Nat.le_refl 0⟩ d_M_ask_155 (fun H locs hst => ?_)
              refine lv_if_eq (tgt := 165) hx hb d_M_ask_158 (by decide) (fun h110 => ?_) (fun h110 => ?_)
              · have hm := it_t hm h110
                refine lv_aload_n hx hb d_M_ask_165 rfl (lv_at hl 0 rfl) ?_
                refine lv_iload_n hx hb d_M_ask_166 rfl (lv_at hl 2 rfl) ?_
                refine lv_bipush (v := 108) hx hb d_M_ask_167 (by decide) ?_
                refine lv_bipush (v := 105) hx hb d_M_ask_169 (by decide) ?_
                refine lv_bipush (v := 110) hx hb d_M_ask_171 (by decide) ?_
                refine lv_bipush (v := 101) hx hb d_M_ask_173 (by decide) ?_
                refine lv_bipush (v := 115) hx hb d_M_ask_175 (by decide) ?_
                refine lv_iconst (v := 0) hx hb d_M_ask_177 (by decide) ?_
                obtain ⟨x112, hc113, hm⟩ := bd_u hm
                refine cl_vi hx hb hml hown hG hg (cM_says l dC dI tk A h L g a rw n v2 108 105 110 101 115 0 _ hc113) (cw_v 7 hG k_1239 k_1241 s_44 k_14 k_1242 (by decide +kernel) ⟨by decide, by decide⟩) hst rfl oW_0 rfl hl.1 rfl (Nat.le_of_ble_eq_true rfl) ⟨Nat.le_refl 0, Nat.le_refl 0⟩ d_M_ask_178 (fun H locs hst => ?_)
                refine lv_if_eq (tgt := 188) hx hb d_M_ask_181 (by decide) (fun h114 => ?_) (fun h114 => ?_)
                · have hm := it_t hm h114
                  refine lv_iconst (v := (-1)) hx hb d_M_ask_188 (by decide) ?_
                  exact hJ23 (-1) (Option.some.inj hm).symm _ _ _ (lv_sub hl [0, 1, 2, 3] rfl) hst
                · have hm := it_f hm h114
                  refine lv_iconst (v := 3) hx hb d_M_ask_184 (by decide) ?_
                  refine lv_goto (tgt := 189) hx hb d_M_ask_185 (by decide) ?_
                  exact hJ23 3 (Option.some.inj hm).symm _ _ _ (lv_sub hl [0, 1, 2, 3] rfl) hst
              · have hm := it_f hm h110
                refine lv_iconst (v := 2) hx hb d_M_ask_161 (by decide) ?_
                refine lv_goto (tgt := 189) hx hb d_M_ask_162 (by decide) ?_
                exact hJ23 2 (Option.some.inj hm).symm _ _ _ (lv_sub hl [0, 1, 2, 3] rfl) hst
            · have hm := it_f hm h106
              refine lv_iconst (v := 1) hx hb d_M_ask_141 (by decide) ?_
              refine lv_goto (tgt := 189) hx hb d_M_ask_142 (by decide) ?_
              exact hJ23 1 (Option.some.inj hm).symm _ _ _ (lv_sub hl [0, 1, 2, 3] rfl) hst
          · have hm := it_f hm h102
            refine lv_iconst (v := 0) hx hb d_M_ask_118 (by decide) ?_
            refine lv_goto (tgt := 189) hx hb d_M_ask_119 (by decide) ?_
            exact hJ23 0 (Option.some.inj hm).symm _ _ _ (lv_sub hl [0, 1, 2, 3] rfl) hst
        · have hm := it_f hm h19
          refine lv_aload_n hx hb d_M_ask_84 rfl (lv_at hl 0 rfl) ?_
          refine lv_iconst (v := 1) hx hb d_M_ask_85 (by decide) ?_
          refine lv_iload_n hx hb d_M_ask_86 rfl (lv_at hl 1 rfl) ?_
          refine lv_iconst (v := 1) hx hb d_M_ask_87 (by decide) ?_
          refine lv_iconst (v := 0) hx hb d_M_ask_88 (by decide) ?_
          obtain ⟨⟨g116, a117⟩, hc118, hm⟩ := bd_u hm
          dsimp only at hm
          refine cl_vv hx hb hml hown hG hg (cM_respond l dC dI tk A h L g a rw n 1 v1 1 0 _ _ hc118) (cw_v 4 hG k_1211 k_1213 s_37 k_14 k_1214 (by decide +kernel) ⟨by decide, by decide⟩) hst rfl oW_0 rfl hl.1 rfl (Nat.le_of_ble_eq_true rfl) ⟨Nat.le_refl 0, Nat.le_refl 0⟩ d_M_ask_89 (fun H locs hst => ?_)
          refine lv_aload_n hx hb d_M_ask_92 rfl (lv_at hl 0 rfl) ?_
          refine lv_iconst (v := 2) hx hb d_M_ask_93 (by decide) ?_
          refine ro_puti hx hb hown hG hg cM hst 0 (by decide) rfl rfl rfl rfl rfl k_1014 d_M_ask_94 (fun g119 H locs eg119 hst => ?_)
          have hm := lt_u hm g119 eg119
          have he := (hR3 _ (Option.some.inj hm).symm)
          cases he
          exact rt_v hx hb hr hlk hst d_M_ask_97
      · have hm := it_f hm h15
        exact hJ2 g a (Option.some.inj hm).symm _ _ _ (lv_sub hl [0, 1, 2, 3] rfl) hst
  · have hm := it_t hm h1
    refine lv_aload_n hx hb d_M_ask_7 rfl (lv_at hl 0 rfl) ?_
    refine lv_iload_n hx hb d_M_ask_8 rfl (lv_at hl 2 rfl) ?_
    obtain ⟨x121, hc122, hm⟩ := bd_u hm
    refine cl_vi hx hb hml hown hG hg (cM_isInitialize l dC dI tk A h L g a rw n v2 _ hc122) (cw_v 1 hG k_1231 k_1233 s_42 k_14 k_1234 (by decide +kernel) ⟨by decide, by decide⟩) hst rfl oW_0 rfl hl.1 rfl (Nat.le_of_ble_eq_true rfl) ⟨Nat.le_refl 0, Nat.le_refl 0⟩ d_M_ask_9 (fun H locs hst => ?_)
    refine lv_istore (lv' := [(4, .int x121), (0, .ref h), (1, .int v1), (2, .int v2), (3, .int v3)]) hx hb d_M_ask_12 hl (by decide) rfl (fun ls hl => ?_)
    refine lv_aload_n hx hb d_M_ask_14 rfl (lv_at hl 1 rfl) ?_
    refine lv_iconst (v := 1) hx hb d_M_ask_15 (by decide) ?_
    refine lv_iload_n hx hb d_M_ask_16 rfl (lv_at hl 2 rfl) ?_
    refine lv_iload hx hb d_M_ask_17 (lv_at hl 0 rfl) ?_
    refine lv_iload hx hb d_M_ask_19 (lv_at hl 0 rfl) ?_
    obtain ⟨qJ123, hm, hLJ123, hR124⟩ := jn_u hm
    have hJ123 : ∀ (x125 : Int32), qJ123 = .inl x125 → ∀ (H : Heap) (locs : List Loc) (ls : Array Slot), lv_has ls 9 [(0, .ref h), (1, .int v1), (2, .int v2), (3, .int v3), (4, .int x121)] → St dC dI A s.heap H locs (oW 0 h ksM spM tk L g a rw) → W p l e (rmo 3 68) s m args below meth c H locs 0 0 (MQ below (QV dC dI A (oW 0 h ksM spM tk L g0 a0 rw)) args s 0 0 A) (F0 m 31 ls [.int x125, .int x121, .int v1, .int 1, .ref h]) := by
      intro x125 hq H locs ls hl hst
      have hm := hLJ123 _ hq
      obtain ⟨⟨g128, a129⟩, hc130, hm⟩ := bd_u hm
      dsimp only at hm
      refine cl_vv hx hb hml hown hG hg (cM_respond l dC dI tk A h L g a rw n 1 v1 x121 x125 _ _ hc130) (cw_v 4 hG k_1211 k_1213 s_37 k_14 k_1214 (by decide +kernel) ⟨by decide, by decide⟩) hst rfl oW_0 rfl hl.1 rfl (Nat.le_of_ble_eq_true rfl) ⟨Nat.le_refl 0, Nat.le_refl 0⟩ d_M_ask_31 (fun H locs hst => ?_)
      refine lv_aload_n hx hb d_M_ask_34 rfl (lv_at hl 0 rfl) ?_
      refine lv_iload hx hb d_M_ask_35 (lv_at hl 4 rfl) ?_
      refine lv_if_eq (tgt := 44) hx hb d_M_ask_37 (by decide) (fun h131 => ?_) (fun h131 => ?_)
      · have hm := it_t hm h131
        refine lv_iconst (v := 0) hx hb d_M_ask_44 (by decide) ?_
        refine ro_puti hx hb hown hG hg cM hst 0 (by decide) rfl rfl rfl rfl rfl k_1014 d_M_ask_45 (fun g132 H locs eg132 hst => ?_)
        have hm := lt_u hm g132 eg132
        have he := (Option.some.inj hm)
        cases he
        exact rt_v hx hb hr hlk hst d_M_ask_48
      · have hm := it_f hm h131
        refine lv_iconst (v := 1) hx hb d_M_ask_40 (by decide) ?_
        refine lv_goto (tgt := 45) hx hb d_M_ask_41 (by decide) ?_
        refine ro_puti hx hb hown hG hg cM hst 0 (by decide) rfl rfl rfl rfl rfl k_1014 d_M_ask_45 (fun g133 H locs eg133 hst => ?_)
        have hm := lt_u hm g133 eg133
        have he := (Option.some.inj hm)
        cases he
        exact rt_v hx hb hr hlk hst d_M_ask_48
    refine lv_if_eq (tgt := 28) hx hb d_M_ask_21 (by decide) (fun h134 => ?_) (fun h134 => ?_)
    · have hm := it_t hm h134
      refine lv_sipush (v := (-32002)) hx hb d_M_ask_28 (by decide) ?_
      exact hJ123 (-32002) (Option.some.inj hm).symm _ _ _ (lv_sub hl [1, 2, 3, 4, 0] rfl) hst
    · have hm := it_f hm h134
      refine lv_iconst (v := 0) hx hb d_M_ask_24 (by decide) ?_
      refine lv_goto (tgt := 31) hx hb d_M_ask_25 (by decide) ?_
      exact hJ123 0 (Option.some.inj hm).symm _ _ _ (lv_sub hl [1, 2, 3, 4, 0] rfl) hst
