def mM_take (n : Nat) (v1 : Int32) (g : aG) (a : aA) : Option (aG × aA) := if (g 5) ≤ 0 then (jn (α := aG) (if v1 < 48 then (some (.inl g)) else (if 57 < v1 then (some (.inl g)) else (if 3 ≤ (g 3) then (some (.inl g)) else (lt (va_up g 4 (((10 * (g 4)) + v1) - 48)) (fun g19 => lt (va_up g19 3 ((g19 3) + 1)) (fun g20 => some (.inr ((g20, a))))))))) (fun g4 => if v1 = 58 then (if (g4 4) ≤ 0 then (lt (va_up g4 0 4) (fun g9 => some ((g9, a)))) else (if 200 < (g4 4) then (lt (va_up g4 0 4) (fun g11 => some ((g11, a)))) else (lt (va_up g4 5 (g4 4)) (fun g12 => lt (va_up g12 6 0) (fun g13 => lt (va_up g13 4 0) (fun g14 => lt (va_up g14 3 0) (fun g15 => some ((g15, a))))))))) else (lt (va_up g4 0 4) (fun g7 => some ((g7, a)))))) else (gd (inb (g 6) 200) (lt (va_up a 0 (upd (a 0) (g 6).toNatClampNeg v1)) (fun a22 => lt (va_up g 6 ((g 6) + 1)) (fun g23 => lt (va_up g23 5 ((g23 5) - 1)) (fun g24 => if (g24 5) = 0 then (lt (va_up g24 2 ((g24 2) + 1)) (fun g26 => bd (mM_handle n g26 a22) (fun q27 => some ((q27.1, q27.2))))) else (some ((g24, a22))))))))
theorem d_M_take_0 : decode prog_11_method_5_code 0 = .ok (.aload_n 0, 1) := by decide +kernel
theorem d_M_take_1 : decode prog_11_method_5_code 1 = .ok (.getfield 106, 3) := by decide +kernel
theorem d_M_take_4 : decode prog_11_method_5_code 4 = .ok (.ifCond .le 55, 3) := by decide +kernel
theorem d_M_take_7 : decode prog_11_method_5_code 7 = .ok (.aload_n 0, 1) := by decide +kernel
theorem d_M_take_8 : decode prog_11_method_5_code 8 = .ok (.getfield 7, 3) := by decide +kernel
theorem d_M_take_11 : decode prog_11_method_5_code 11 = .ok (.aload_n 0, 1) := by decide +kernel
theorem d_M_take_12 : decode prog_11_method_5_code 12 = .ok (.getfield 109, 3) := by decide +kernel
theorem d_M_take_15 : decode prog_11_method_5_code 15 = .ok (.iload_n 1, 1) := by decide +kernel
theorem d_M_take_16 : decode prog_11_method_5_code 16 = .ok (.iastore, 1) := by decide +kernel
theorem d_M_take_17 : decode prog_11_method_5_code 17 = .ok (.aload_n 0, 1) := by decide +kernel
theorem d_M_take_18 : decode prog_11_method_5_code 18 = .ok (.dup, 1) := by decide +kernel
theorem d_M_take_19 : decode prog_11_method_5_code 19 = .ok (.getfield 109, 3) := by decide +kernel
theorem d_M_take_22 : decode prog_11_method_5_code 22 = .ok (.iconst 1, 1) := by decide +kernel
theorem d_M_take_23 : decode prog_11_method_5_code 23 = .ok (.iadd, 1) := by decide +kernel
theorem d_M_take_24 : decode prog_11_method_5_code 24 = .ok (.putfield 109, 3) := by decide +kernel
theorem d_M_take_27 : decode prog_11_method_5_code 27 = .ok (.aload_n 0, 1) := by decide +kernel
theorem d_M_take_28 : decode prog_11_method_5_code 28 = .ok (.dup, 1) := by decide +kernel
theorem d_M_take_29 : decode prog_11_method_5_code 29 = .ok (.getfield 106, 3) := by decide +kernel
theorem d_M_take_32 : decode prog_11_method_5_code 32 = .ok (.iconst 1, 1) := by decide +kernel
theorem d_M_take_33 : decode prog_11_method_5_code 33 = .ok (.isub, 1) := by decide +kernel
theorem d_M_take_34 : decode prog_11_method_5_code 34 = .ok (.putfield 106, 3) := by decide +kernel
theorem d_M_take_37 : decode prog_11_method_5_code 37 = .ok (.aload_n 0, 1) := by decide +kernel
theorem d_M_take_38 : decode prog_11_method_5_code 38 = .ok (.getfield 106, 3) := by decide +kernel
theorem d_M_take_41 : decode prog_11_method_5_code 41 = .ok (.ifCond .ne 17, 3) := by decide +kernel
theorem d_M_take_44 : decode prog_11_method_5_code 44 = .ok (.aload_n 0, 1) := by decide +kernel
theorem d_M_take_45 : decode prog_11_method_5_code 45 = .ok (.dup, 1) := by decide +kernel
theorem d_M_take_46 : decode prog_11_method_5_code 46 = .ok (.getfield 103, 3) := by decide +kernel
theorem d_M_take_49 : decode prog_11_method_5_code 49 = .ok (.iconst 1, 1) := by decide +kernel
theorem d_M_take_50 : decode prog_11_method_5_code 50 = .ok (.iadd, 1) := by decide +kernel
theorem d_M_take_51 : decode prog_11_method_5_code 51 = .ok (.putfield 103, 3) := by decide +kernel
theorem d_M_take_54 : decode prog_11_method_5_code 54 = .ok (.aload_n 0, 1) := by decide +kernel
theorem d_M_take_55 : decode prog_11_method_5_code 55 = .ok (.invokevirtual 112, 3) := by decide +kernel
theorem d_M_take_58 : decode prog_11_method_5_code 58 = .ok (.return_, 1) := by decide +kernel
theorem d_M_take_59 : decode prog_11_method_5_code 59 = .ok (.iload_n 1, 1) := by decide +kernel
theorem d_M_take_60 : decode prog_11_method_5_code 60 = .ok (.bipush 48, 2) := by decide +kernel
theorem d_M_take_62 : decode prog_11_method_5_code 62 = .ok (.if_icmp .lt 46, 3) := by decide +kernel
theorem d_M_take_65 : decode prog_11_method_5_code 65 = .ok (.iload_n 1, 1) := by decide +kernel
theorem d_M_take_66 : decode prog_11_method_5_code 66 = .ok (.bipush 57, 2) := by decide +kernel
theorem d_M_take_68 : decode prog_11_method_5_code 68 = .ok (.if_icmp .gt 40, 3) := by decide +kernel
theorem d_M_take_71 : decode prog_11_method_5_code 71 = .ok (.aload_n 0, 1) := by decide +kernel
theorem d_M_take_72 : decode prog_11_method_5_code 72 = .ok (.getfield 115, 3) := by decide +kernel
theorem d_M_take_75 : decode prog_11_method_5_code 75 = .ok (.iconst 3, 1) := by decide +kernel
theorem d_M_take_76 : decode prog_11_method_5_code 76 = .ok (.if_icmp .ge 32, 3) := by decide +kernel
theorem d_M_take_79 : decode prog_11_method_5_code 79 = .ok (.aload_n 0, 1) := by decide +kernel
theorem d_M_take_80 : decode prog_11_method_5_code 80 = .ok (.bipush 10, 2) := by decide +kernel
theorem d_M_take_82 : decode prog_11_method_5_code 82 = .ok (.aload_n 0, 1) := by decide +kernel
theorem d_M_take_83 : decode prog_11_method_5_code 83 = .ok (.getfield 118, 3) := by decide +kernel
theorem d_M_take_86 : decode prog_11_method_5_code 86 = .ok (.imul, 1) := by decide +kernel
theorem d_M_take_87 : decode prog_11_method_5_code 87 = .ok (.iload_n 1, 1) := by decide +kernel
theorem d_M_take_88 : decode prog_11_method_5_code 88 = .ok (.iadd, 1) := by decide +kernel
theorem d_M_take_89 : decode prog_11_method_5_code 89 = .ok (.bipush 48, 2) := by decide +kernel
theorem d_M_take_91 : decode prog_11_method_5_code 91 = .ok (.isub, 1) := by decide +kernel
theorem d_M_take_92 : decode prog_11_method_5_code 92 = .ok (.putfield 118, 3) := by decide +kernel
theorem d_M_take_95 : decode prog_11_method_5_code 95 = .ok (.aload_n 0, 1) := by decide +kernel
theorem d_M_take_96 : decode prog_11_method_5_code 96 = .ok (.dup, 1) := by decide +kernel
theorem d_M_take_97 : decode prog_11_method_5_code 97 = .ok (.getfield 115, 3) := by decide +kernel
theorem d_M_take_100 : decode prog_11_method_5_code 100 = .ok (.iconst 1, 1) := by decide +kernel
theorem d_M_take_101 : decode prog_11_method_5_code 101 = .ok (.iadd, 1) := by decide +kernel
theorem d_M_take_102 : decode prog_11_method_5_code 102 = .ok (.putfield 115, 3) := by decide +kernel
theorem d_M_take_105 : decode prog_11_method_5_code 105 = .ok (.goto 57, 3) := by decide +kernel
theorem d_M_take_108 : decode prog_11_method_5_code 108 = .ok (.iload_n 1, 1) := by decide +kernel
theorem d_M_take_109 : decode prog_11_method_5_code 109 = .ok (.bipush 58, 2) := by decide +kernel
theorem d_M_take_111 : decode prog_11_method_5_code 111 = .ok (.if_icmp .ne 46, 3) := by decide +kernel
theorem d_M_take_114 : decode prog_11_method_5_code 114 = .ok (.aload_n 0, 1) := by decide +kernel
theorem d_M_take_115 : decode prog_11_method_5_code 115 = .ok (.getfield 118, 3) := by decide +kernel
theorem d_M_take_118 : decode prog_11_method_5_code 118 = .ok (.ifCond .le 39, 3) := by decide +kernel
theorem d_M_take_121 : decode prog_11_method_5_code 121 = .ok (.aload_n 0, 1) := by decide +kernel
theorem d_M_take_122 : decode prog_11_method_5_code 122 = .ok (.getfield 118, 3) := by decide +kernel
theorem d_M_take_125 : decode prog_11_method_5_code 125 = .ok (.sipush 200, 3) := by decide +kernel
theorem d_M_take_128 : decode prog_11_method_5_code 128 = .ok (.if_icmp .gt 29, 3) := by decide +kernel
theorem d_M_take_131 : decode prog_11_method_5_code 131 = .ok (.aload_n 0, 1) := by decide +kernel
theorem d_M_take_132 : decode prog_11_method_5_code 132 = .ok (.aload_n 0, 1) := by decide +kernel
theorem d_M_take_133 : decode prog_11_method_5_code 133 = .ok (.getfield 118, 3) := by decide +kernel
theorem d_M_take_136 : decode prog_11_method_5_code 136 = .ok (.putfield 106, 3) := by decide +kernel
theorem d_M_take_139 : decode prog_11_method_5_code 139 = .ok (.aload_n 0, 1) := by decide +kernel
theorem d_M_take_140 : decode prog_11_method_5_code 140 = .ok (.iconst 0, 1) := by decide +kernel
theorem d_M_take_141 : decode prog_11_method_5_code 141 = .ok (.putfield 109, 3) := by decide +kernel
theorem d_M_take_144 : decode prog_11_method_5_code 144 = .ok (.aload_n 0, 1) := by decide +kernel
theorem d_M_take_145 : decode prog_11_method_5_code 145 = .ok (.iconst 0, 1) := by decide +kernel
theorem d_M_take_146 : decode prog_11_method_5_code 146 = .ok (.putfield 118, 3) := by decide +kernel
theorem d_M_take_149 : decode prog_11_method_5_code 149 = .ok (.aload_n 0, 1) := by decide +kernel
theorem d_M_take_150 : decode prog_11_method_5_code 150 = .ok (.iconst 0, 1) := by decide +kernel
theorem d_M_take_151 : decode prog_11_method_5_code 151 = .ok (.putfield 115, 3) := by decide +kernel
theorem d_M_take_154 : decode prog_11_method_5_code 154 = .ok (.goto 8, 3) := by decide +kernel
theorem d_M_take_157 : decode prog_11_method_5_code 157 = .ok (.aload_n 0, 1) := by decide +kernel
theorem d_M_take_158 : decode prog_11_method_5_code 158 = .ok (.iconst 4, 1) := by decide +kernel
theorem d_M_take_159 : decode prog_11_method_5_code 159 = .ok (.putfield 96, 3) := by decide +kernel
theorem d_M_take_162 : decode prog_11_method_5_code 162 = .ok (.return_, 1) := by decide +kernel
set_option maxHeartbeats 4000000 in
set_option maxRecDepth 100000 in
theorem cM_take (l : Launch) (dC : Nat → ClassId) (dI : Nat → Nat → Nat) (tk : Nat → ClassId) (A : Nat → Prop) (h : Nat) (L : Nat → Nat) (g : aG) (a : aA) (rw : va_W) (n : Nat) (v1 : Int32) (g0 : aG) (a0 : aA) (hm : mM_take n v1 g a = some (g0, a0)) : CtV l dC dI tk A ⟨"EditorServerModel", "take", "(I)V"⟩ prog_11_method_5_code 2 6 148 [.ref h, .int v1] (oW 0 h ksM spM tk L g a rw) (oW 0 h ksM spM tk L g0 a0 rw) := by
  refine ent (by decide) (Nat.le_of_ble_eq_true rfl) ?_
  intro p e s m args below meth c hx hb hr hml hown hlk hG hg hst ls hl
  unfold mM_take at hm
  have hl : lv_has ls 2 [(0, .ref h), (1, .int v1)] := hl
  refine lv_aload_n hx hb d_M_take_0 rfl (lv_at hl 0 rfl) ?_
  refine ro_geti hx hb hown hG hg cM hst 5 (by decide) rfl rfl k_1019 d_M_take_1 ?_
  refine lv_if_le (tgt := 59) hx hb d_M_take_4 (by decide) (fun h1 => ?_) (fun h1 => ?_)
  · have hm := it_t hm h1
    refine lv_iload_n hx hb d_M_take_59 rfl (lv_at hl 1 rfl) ?_
    refine lv_bipush (v := 48) hx hb d_M_take_60 (by decide) ?_
    obtain ⟨qJ2, hm, hLJ2, hR3⟩ := jn_u hm
    have hJ2 : ∀ (g4 : aG), qJ2 = .inl g4 → ∀ (H : Heap) (locs : List Loc) (ls : Array Slot), lv_has ls 2 [(0, .ref h), (1, .int v1)] → St dC dI A s.heap H locs (oW 0 h ksM spM tk L g4 a rw) → W p l e (rmo 6 148) s m args below meth c H locs 0 0 (MQ below (QV dC dI A (oW 0 h ksM spM tk L g0 a0 rw)) args s 0 0 A) (F0 m 108 ls []) := by
      intro g4 hq H locs ls hl hst
      have hm := hLJ2 _ hq
      refine lv_iload_n hx hb d_M_take_108 rfl (lv_at hl 1 rfl) ?_
      refine lv_bipush (v := 58) hx hb d_M_take_109 (by decide) ?_
      refine lv_icmp_ne (tgt := 157) hx hb d_M_take_111 (by decide) (fun h6 => ?_) (fun h6 => ?_)
      · have hm := it_f hm h6
        refine lv_aload_n hx hb d_M_take_157 rfl (lv_at hl 0 rfl) ?_
        refine lv_iconst (v := 4) hx hb d_M_take_158 (by decide) ?_
        refine ro_puti hx hb hown hG hg cM hst 0 (by decide) rfl rfl rfl rfl rfl k_1014 d_M_take_159 (fun g7 H locs eg7 hst => ?_)
        have hm := lt_u hm g7 eg7
        have he := (Option.some.inj hm)
        cases he
        exact rt_v hx hb hr hlk hst d_M_take_162
      · have hm := it_t hm h6
        refine lv_aload_n hx hb d_M_take_114 rfl (lv_at hl 0 rfl) ?_
        refine ro_geti hx hb hown hG hg cM hst 4 (by decide) rfl rfl k_1018 d_M_take_115 ?_
        refine lv_if_le (tgt := 157) hx hb d_M_take_118 (by decide) (fun h8 => ?_) (fun h8 => ?_)
        · have hm := it_t hm h8
          refine lv_aload_n hx hb d_M_take_157 rfl (lv_at hl 0 rfl) ?_
          refine lv_iconst (v := 4) hx hb d_M_take_158 (by decide) ?_
          refine ro_puti hx hb hown hG hg cM hst 0 (by decide) rfl rfl rfl rfl rfl k_1014 d_M_take_159 (fun g9 H locs eg9 hst => ?_)
          have hm := lt_u hm g9 eg9
          have he := (Option.some.inj hm)
          cases he
          exact rt_v hx hb hr hlk hst d_M_take_162
        · have hm := it_f hm h8
          refine lv_aload_n hx hb d_M_take_121 rfl (lv_at hl 0 rfl) ?_
          refine ro_geti hx hb hown hG hg cM hst 4 (by decide) rfl rfl k_1018 d_M_take_122 ?_
          refine lv_sipush (v := 200) hx hb d_M_take_125 (by decide) ?_
          refine lv_icmp_gt (tgt := 157) hx hb d_M_take_128 (by decide) (fun h10 => ?_) (fun h10 => ?_)
          · have hm := it_t hm h10
            refine lv_aload_n hx hb d_M_take_157 rfl (lv_at hl 0 rfl) ?_
            refine lv_iconst (v := 4) hx hb d_M_take_158 (by decide) ?_
            refine ro_puti hx hb hown hG hg cM hst 0 (by decide) rfl rfl rfl rfl rfl k_1014 d_M_take_159 (fun g11 H locs eg11 hst => ?_)
            have hm := lt_u hm g11 eg11
            have he := (Option.some.inj hm)
            cases he
            exact rt_v hx hb hr hlk hst d_M_take_162
          · have hm := it_f hm h10
            refine lv_aload_n hx hb d_M_take_131 rfl (lv_at hl 0 rfl) ?_
            refine lv_aload_n hx hb d_M_take_132 rfl (lv_at hl 0 rfl) ?_
            refine ro_geti hx hb hown hG hg cM hst 4 (by decide) rfl rfl k_1018 d_M_take_133 ?_
            refine ro_puti hx hb hown hG hg cM hst 5 (by decide) rfl rfl rfl rfl rfl k_1019 d_M_take_136 (fun g12 H locs eg12 hst => ?_)
            have hm := lt_u hm g12 eg12
            refine lv_aload_n hx hb d_M_take_139 rfl (lv_at hl 0 rfl) ?_
            refine lv_iconst (v := 0) hx hb d_M_take_140 (by decide) ?_
            refine ro_puti hx hb hown hG hg cM hst 6 (by decide) rfl rfl rfl rfl rfl k_1020 d_M_take_141 (fun g13 H locs eg13 hst => ?_)
            have hm := lt_u hm g13 eg13
            refine lv_aload_n hx hb d_M_take_144 rfl (lv_at hl 0 rfl) ?_
            refine lv_iconst (v := 0) hx hb d_M_take_145 (by decide) ?_
            refine ro_puti hx hb hown hG hg cM hst 4 (by decide) rfl rfl rfl rfl rfl k_1018 d_M_take_146 (fun g14 H locs eg14 hst => ?_)
            have hm := lt_u hm g14 eg14
            refine lv_aload_n hx hb d_M_take_149 rfl (lv_at hl 0 rfl) ?_
            refine lv_iconst (v := 0) hx hb d_M_take_150 (by decide) ?_
            refine ro_puti hx hb hown hG hg cM hst 3 (by decide) rfl rfl rfl rfl rfl k_1017 d_M_take_151 (fun g15 H locs eg15 hst => ?_)
            have hm := lt_u hm g15 eg15
            refine lv_goto (tgt := 162) hx hb d_M_take_154 (by decide) ?_
            have he := (Option.some.inj hm)
            cases he
            exact rt_v hx hb hr hlk hst d_M_take_162
    refine lv_icmp_lt (tgt := 108) hx hb d_M_take_62 (by decide) (fun h16 => ?_) (fun h16 => ?_)
    · have hm := it_t hm h16
      exact hJ2 g (Option.some.inj hm).symm _ _ _ (lv_sub hl [0, 1] rfl) hst
    · have hm := it_f hm h16
      refine lv_iload_n hx hb d_M_take_65 rfl (lv_at hl 1 rfl) ?_
      refine lv_bipush (v := 57) hx hb d_M_take_66 (by decide) ?_
      refine lv_icmp_gt (tgt := 108) hx hb d_M_take_68 (by decide) (fun h17 => ?_) (fun h17 => ?_)
      · have hm := it_t hm h17
        exact hJ2 g (Option.some.inj hm).symm _ _ _ (lv_sub hl [0, 1] rfl) hst
      · have hm := it_f hm h17
        refine lv_aload_n hx hb d_M_take_71 rfl (lv_at hl 0 rfl) ?_
        refine ro_geti hx hb hown hG hg cM hst 3 (by decide) rfl rfl k_1017 d_M_take_72 ?_
        refine lv_iconst (v := 3) hx hb d_M_take_75 (by decide) ?_
        refine lv_icmp_ge (tgt := 108) hx hb d_M_take_76 (by decide) (fun h18 => ?_) (fun h18 => ?_)
        · have hm := it_t hm h18
          exact hJ2 g (Option.some.inj hm).symm _ _ _ (lv_sub hl [0, 1] rfl) hst
        · have hm := it_f hm h18
          refine lv_aload_n hx hb d_M_take_79 rfl (lv_at hl 0 rfl) ?_
          refine lv_bipush (v := 10) hx hb d_M_take_80 (by decide) ?_
          refine lv_aload_n hx hb d_M_take_82 rfl (lv_at hl 0 rfl) ?_
          refine ro_geti hx hb hown hG hg cM hst 4 (by decide) rfl rfl k_1018 d_M_take_83 ?_
          refine lv_imul hx hb d_M_take_86 ?_
          refine lv_iload_n hx hb d_M_take_87 rfl (lv_at hl 1 rfl) ?_
          refine lv_iadd hx hb d_M_take_88 ?_
          refine lv_bipush (v := 48) hx hb d_M_take_89 (by decide) ?_
          refine lv_isub hx hb d_M_take_91 ?_
          refine ro_puti hx hb hown hG hg cM hst 4 (by decide) rfl rfl rfl rfl rfl k_1018 d_M_take_92 (fun g19 H locs eg19 hst => ?_)
          have hm := lt_u hm g19 eg19
          refine lv_aload_n hx hb d_M_take_95 rfl (lv_at hl 0 rfl) ?_
          refine lv_dup hx hb d_M_take_96 rfl ?_
          refine ro_geti hx hb hown hG hg cM hst 3 (by decide) rfl rfl k_1017 d_M_take_97 ?_
          refine lv_iconst (v := 1) hx hb d_M_take_100 (by decide) ?_
          refine lv_iadd hx hb d_M_take_101 ?_
          refine ro_puti hx hb hown hG hg cM hst 3 (by decide) rfl rfl rfl rfl rfl k_1017 d_M_take_102 (fun g20 H locs eg20 hst => ?_)
          have hm := lt_u hm g20 eg20
          refine lv_goto (tgt := 162) hx hb d_M_take_105 (by decide) ?_
          have he := (hR3 _ (Option.some.inj hm).symm)
          cases he
          exact rt_v hx hb hr hlk hst d_M_take_162
  · have hm := it_f hm h1
    refine lv_aload_n hx hb d_M_take_7 rfl (lv_at hl 0 rfl) ?_
    refine ro_geta hx hb hown hG hg cM hst 7 0 (by decide) rfl rfl k_1021 d_M_take_8 ?_
    refine lv_aload_n hx hb d_M_take_11 rfl (lv_at hl 0 rfl) ?_
    refine ro_geti hx hb hown hG hg cM hst 6 (by decide) rfl rfl k_1020 d_M_take_12 ?_
    refine lv_iload_n hx hb d_M_take_15 rfl (lv_at hl 1 rfl) ?_
    obtain ⟨hn21, hm⟩ := gd_u hm
    refine ro_iast hx hb hg hst 0 rfl hn21 d_M_take_16 (fun a22 H locs ea22 hst => ?_)
    have hm := lt_u hm a22 ea22
    refine lv_aload_n hx hb d_M_take_17 rfl (lv_at hl 0 rfl) ?_
    refine lv_dup hx hb d_M_take_18 rfl ?_
    refine ro_geti hx hb hown hG hg cM hst 6 (by decide) rfl rfl k_1020 d_M_take_19 ?_
    refine lv_iconst (v := 1) hx hb d_M_take_22 (by decide) ?_
    refine lv_iadd hx hb d_M_take_23 ?_
    refine ro_puti hx hb hown hG hg cM hst 6 (by decide) rfl rfl rfl rfl rfl k_1020 d_M_take_24 (fun g23 H locs eg23 hst => ?_)
    have hm := lt_u hm g23 eg23
    refine lv_aload_n hx hb d_M_take_27 rfl (lv_at hl 0 rfl) ?_
    refine lv_dup hx hb d_M_take_28 rfl ?_
    refine ro_geti hx hb hown hG hg cM hst 5 (by decide) rfl rfl k_1019 d_M_take_29 ?_
    refine lv_iconst (v := 1) hx hb d_M_take_32 (by decide) ?_
    refine lv_isub hx hb d_M_take_33 ?_
    refine ro_puti hx hb hown hG hg cM hst 5 (by decide) rfl rfl rfl rfl rfl k_1019 d_M_take_34 (fun g24 H locs eg24 hst => ?_)
    have hm := lt_u hm g24 eg24
    refine lv_aload_n hx hb d_M_take_37 rfl (lv_at hl 0 rfl) ?_
    refine ro_geti hx hb hown hG hg cM hst 5 (by decide) rfl rfl k_1019 d_M_take_38 ?_
    refine lv_if_ne (tgt := 58) hx hb d_M_take_41 (by decide) (fun h25 => ?_) (fun h25 => ?_)
    · have hm := it_f hm h25
      have he := (Option.some.inj hm)
      cases he
      exact rt_v hx hb hr hlk hst d_M_take_58
    · have hm := it_t hm h25
      refine lv_aload_n hx hb d_M_take_44 rfl (lv_at hl 0 rfl) ?_
      refine lv_dup hx hb d_M_take_45 rfl ?_
      refine ro_geti hx hb hown hG hg cM hst 2 (by decide) rfl rfl k_1016 d_M_take_46 ?_
      refine lv_iconst (v := 1) hx hb d_M_take_49 (by decide) ?_
      refine lv_iadd hx hb d_M_take_50 ?_
      refine ro_puti hx hb hown hG hg cM hst 2 (by decide) rfl rfl rfl rfl rfl k_1016 d_M_take_51 (fun g26 H locs eg26 hst => ?_)
      have hm := lt_u hm g26 eg26
      refine lv_aload_n hx hb d_M_take_54 rfl (lv_at hl 0 rfl) ?_
      obtain ⟨⟨g28, a29⟩, hc30, hm⟩ := bd_u hm
      dsimp only at hm
      refine cl_vv hx hb hml hown hG hg (cM_handle l dC dI tk A h L g26 a22 rw n _ _ hc30) (cw_v 0 hG k_1165 k_1167 s_27 k_14 k_1168 (by decide +kernel) ⟨by decide, by decide⟩) hst rfl oW_0 rfl hl.1 rfl (Nat.le_of_ble_eq_true rfl) ⟨Nat.le_refl 0, Nat.le_refl 0⟩ d_M_take_55 (fun H locs hst => ?_)
      have he := (Option.some.inj hm)
      cases he
      exact rt_v hx hb hr hlk hst d_M_take_58
def mM_feed (n : Nat) (v1 : Int32) (g : aG) (a : aA) : Option (Int32 × aG × aA) := lt (va_up g 45 0) (fun g1 => lp (ε := Int32 × aG × aA) (fun q5 => if 4 ≤ q5.1 then (some (.inr (((q5.2.1 2), q5.2.1, q5.2.2)))) else (lt (((v1 >>> ((8 * q5.1) &&& 31)) &&& 255)) (fun x10 => if x10 ≤ 0 then (some (.inl ((q5.1 + 1), q5.2.1, q5.2.2))) else (if 128 ≤ x10 then (some (.inl ((q5.1 + 1), q5.2.1, q5.2.2))) else (if 3 ≤ (q5.2.1 0) then (some (.inl ((q5.1 + 1), q5.2.1, q5.2.2))) else (bd (mM_take n x10 q5.2.1 q5.2.2) (fun q14 => some (.inl ((q5.1 + 1), q14.1, q14.2))))))))) n (0, g1, a))
theorem d_M_feed_0 : decode prog_11_method_4_code 0 = .ok (.aload_n 0, 1) := by decide +kernel
theorem d_M_feed_1 : decode prog_11_method_4_code 1 = .ok (.iconst 0, 1) := by decide +kernel
theorem d_M_feed_2 : decode prog_11_method_4_code 2 = .ok (.putfield 92, 3) := by decide +kernel
theorem d_M_feed_5 : decode prog_11_method_4_code 5 = .ok (.iconst 0, 1) := by decide +kernel
theorem d_M_feed_6 : decode prog_11_method_4_code 6 = .ok (.istore_n 2, 1) := by decide +kernel
theorem d_M_feed_7 : decode prog_11_method_4_code 7 = .ok (.iload_n 2, 1) := by decide +kernel
theorem d_M_feed_8 : decode prog_11_method_4_code 8 = .ok (.iconst 4, 1) := by decide +kernel
theorem d_M_feed_9 : decode prog_11_method_4_code 9 = .ok (.if_icmp .ge 44, 3) := by decide +kernel
theorem d_M_feed_12 : decode prog_11_method_4_code 12 = .ok (.iload_n 1, 1) := by decide +kernel
theorem d_M_feed_13 : decode prog_11_method_4_code 13 = .ok (.bipush 8, 2) := by decide +kernel
theorem d_M_feed_15 : decode prog_11_method_4_code 15 = .ok (.iload_n 2, 1) := by decide +kernel
theorem d_M_feed_16 : decode prog_11_method_4_code 16 = .ok (.imul, 1) := by decide +kernel
theorem d_M_feed_17 : decode prog_11_method_4_code 17 = .ok (.ishr, 1) := by decide +kernel
theorem d_M_feed_18 : decode prog_11_method_4_code 18 = .ok (.sipush 255, 3) := by decide +kernel
theorem d_M_feed_21 : decode prog_11_method_4_code 21 = .ok (.iand, 1) := by decide +kernel
theorem d_M_feed_22 : decode prog_11_method_4_code 22 = .ok (.istore_n 3, 1) := by decide +kernel
theorem d_M_feed_23 : decode prog_11_method_4_code 23 = .ok (.iload_n 3, 1) := by decide +kernel
theorem d_M_feed_24 : decode prog_11_method_4_code 24 = .ok (.ifCond .le 23, 3) := by decide +kernel
theorem d_M_feed_27 : decode prog_11_method_4_code 27 = .ok (.iload_n 3, 1) := by decide +kernel
theorem d_M_feed_28 : decode prog_11_method_4_code 28 = .ok (.sipush 128, 3) := by decide +kernel
theorem d_M_feed_31 : decode prog_11_method_4_code 31 = .ok (.if_icmp .ge 16, 3) := by decide +kernel
theorem d_M_feed_34 : decode prog_11_method_4_code 34 = .ok (.aload_n 0, 1) := by decide +kernel
theorem d_M_feed_35 : decode prog_11_method_4_code 35 = .ok (.getfield 96, 3) := by decide +kernel
theorem d_M_feed_38 : decode prog_11_method_4_code 38 = .ok (.iconst 3, 1) := by decide +kernel
theorem d_M_feed_39 : decode prog_11_method_4_code 39 = .ok (.if_icmp .ge 8, 3) := by decide +kernel
theorem d_M_feed_42 : decode prog_11_method_4_code 42 = .ok (.aload_n 0, 1) := by decide +kernel
theorem d_M_feed_43 : decode prog_11_method_4_code 43 = .ok (.iload_n 3, 1) := by decide +kernel
theorem d_M_feed_44 : decode prog_11_method_4_code 44 = .ok (.invokevirtual 99, 3) := by decide +kernel
theorem d_M_feed_47 : decode prog_11_method_4_code 47 = .ok (.iinc 2 1, 3) := by decide +kernel
theorem d_M_feed_50 : decode prog_11_method_4_code 50 = .ok (.goto (-43), 3) := by decide +kernel
theorem d_M_feed_53 : decode prog_11_method_4_code 53 = .ok (.aload_n 0, 1) := by decide +kernel
theorem d_M_feed_54 : decode prog_11_method_4_code 54 = .ok (.getfield 103, 3) := by decide +kernel
theorem d_M_feed_57 : decode prog_11_method_4_code 57 = .ok (.ireturn, 1) := by decide +kernel
set_option maxHeartbeats 4000000 in
set_option maxRecDepth 100000 in
theorem cM_feed (l : Launch) (dC : Nat → ClassId) (dI : Nat → Nat → Nat) (tk : Nat → ClassId) (A : Nat → Prop) (h : Nat) (L : Nat → Nat) (g : aG) (a : aA) (rw : va_W) (n : Nat) (v1 : Int32) (r0 : Int32) (g0 : aG) (a0 : aA) (hm : mM_feed n v1 g a = some (r0, g0, a0)) : CtI l dC dI tk A ⟨"EditorServerModel", "feed", "(I)I"⟩ prog_11_method_4_code 4 (some .int) 7 169 [.ref h, .int v1] (oW 0 h ksM spM tk L g a rw) r0 (oW 0 h ksM spM tk L g0 a0 rw) := by
  refine ent (by decide) (Nat.le_of_ble_eq_true rfl) ?_
  intro p e s m args below meth c hx hb hr hml hown hlk hG hg hst ls hl
  unfold mM_feed at hm
  have hl : lv_has ls 4 [(0, .ref h), (1, .int v1)] := hl
  refine lv_aload_n hx hb d_M_feed_0 rfl (lv_at hl 0 rfl) ?_
  refine lv_iconst (v := 0) hx hb d_M_feed_1 (by decide) ?_
  refine ro_puti hx hb hown hG hg cM hst 45 (by decide) rfl rfl rfl rfl rfl k_1059 d_M_feed_2 (fun g1 H locs eg1 hst => ?_)
  have hm := lt_u hm g1 eg1
  refine lv_iconst (v := 0) hx hb d_M_feed_5 (by decide) ?_
  refine lv_istore_n (lv' := [(2, .int 0), (0, .ref h), (1, .int v1)]) hx hb d_M_feed_6 rfl hl (by decide) rfl (fun ls hl => ?_)
  refine lp_u (fun q5 : Int32 × aG × aA => ∀ (H : Heap) (locs : List Loc) (ls : Array Slot), lv_has ls 4 [(0, .ref h), (1, .int v1), (2, .int q5.1)] → St dC dI A s.heap H locs (oW 0 h ksM spM tk L q5.2.1 q5.2.2 rw) → W p l e (rmo 7 169) s m args below meth c H locs 0 0 (MQ below (QI dC dI A r0 (oW 0 h ksM spM tk L g0 a0 rw)) args s 0 0 A) (F0 m 7 ls [])) ?_ n (0, g1, a) hm _ _ _ (lv_sub hl [1, 2, 0] rfl) hst
  rintro ⟨x2, g3, a4⟩ r8 hm hJ60 hR7 H locs ls hl hst
  dsimp only at hm hl hst ⊢
  have hJ6 := fun y0 y1 y2 (e : r8 = .inl (y0, y1, y2)) => hJ60 (y0, y1, y2) e
  dsimp only at hJ6
  refine lv_iload_n hx hb d_M_feed_7 rfl (lv_at hl 2 rfl) ?_
  refine lv_iconst (v := 4) hx hb d_M_feed_8 (by decide) ?_
  refine lv_icmp_ge (tgt := 53) hx hb d_M_feed_9 (by decide) (fun h9 => ?_) (fun h9 => ?_)
  · have hm := it_t hm h9
    refine lv_aload_n hx hb d_M_feed_53 rfl (lv_at hl 0 rfl) ?_
    refine ro_geti hx hb hown hG hg cM hst 2 (by decide) rfl rfl k_1016 d_M_feed_54 ?_
    have he := (hR7 _ (Option.some.inj hm).symm)
    cases he
    exact rt_i hx hb hr hlk rfl hst rfl d_M_feed_57
  · have hm := it_f hm h9
    refine lv_iload_n hx hb d_M_feed_12 rfl (lv_at hl 1 rfl) ?_
    refine lv_bipush (v := 8) hx hb d_M_feed_13 (by decide) ?_
    refine lv_iload_n hx hb d_M_feed_15 rfl (lv_at hl 2 rfl) ?_
    refine lv_imul hx hb d_M_feed_16 ?_
    refine lv_ishr hx hb d_M_feed_17 ?_
    refine lv_sipush (v := 255) hx hb d_M_feed_18 (by decide) ?_
    refine lv_iand hx hb d_M_feed_21 ?_
    refine lv_topi (fun x10 ex10 => ?_)
    have hm := lt_u hm x10 ex10
    refine lv_istore_n (lv' := [(3, .int x10), (0, .ref h), (1, .int v1), (2, .int x2)]) hx hb d_M_feed_22 rfl hl (by decide) rfl (fun ls hl => ?_)
    refine lv_iload_n hx hb d_M_feed_23 rfl (lv_at hl 0 rfl) ?_
    refine lv_if_le (tgt := 47) hx hb d_M_feed_24 (by decide) (fun h11 => ?_) (fun h11 => ?_)
    · have hm := it_t hm h11
      refine lv_iinc (k := 3) (v := (x2 + 1)) (lv' := [(2, .int (x2 + 1)), (3, .int x10), (0, .ref h), (1, .int v1)]) hx hb d_M_feed_47 hl rfl (by rfl) (by decide) rfl (fun ls hl => ?_)
      refine lv_goto (tgt := 7) hx hb d_M_feed_50 (by decide) ?_
      exact hJ6 (x2 + 1) g3 a4 (Option.some.inj hm).symm _ _ _ (lv_sub hl [2, 3, 0] rfl) hst
    · have hm := it_f hm h11
      refine lv_iload_n hx hb d_M_feed_27 rfl (lv_at hl 0 rfl) ?_
      refine lv_sipush (v := 128) hx hb d_M_feed_28 (by decide) ?_
      refine lv_icmp_ge (tgt := 47) hx hb d_M_feed_31 (by decide) (fun h12 => ?_) (fun h12 => ?_)
      · have hm := it_t hm h12
        refine lv_iinc (k := 3) (v := (x2 + 1)) (lv' := [(2, .int (x2 + 1)), (3, .int x10), (0, .ref h), (1, .int v1)]) hx hb d_M_feed_47 hl rfl (by rfl) (by decide) rfl (fun ls hl => ?_)
        refine lv_goto (tgt := 7) hx hb d_M_feed_50 (by decide) ?_
        exact hJ6 (x2 + 1) g3 a4 (Option.some.inj hm).symm _ _ _ (lv_sub hl [2, 3, 0] rfl) hst
      · have hm := it_f hm h12
        refine lv_aload_n hx hb d_M_feed_34 rfl (lv_at hl 1 rfl) ?_
        refine ro_geti hx hb hown hG hg cM hst 0 (by decide) rfl rfl k_1014 d_M_feed_35 ?_
        refine lv_iconst (v := 3) hx hb d_M_feed_38 (by decide) ?_
        refine lv_icmp_ge (tgt := 47) hx hb d_M_feed_39 (by decide) (fun h13 => ?_) (fun h13 => ?_)
        · have hm := it_t hm h13
          refine lv_iinc (k := 3) (v := (x2 + 1)) (lv' := [(2, .int (x2 + 1)), (3, .int x10), (0, .ref h), (1, .int v1)]) hx hb d_M_feed_47 hl rfl (by rfl) (by decide) rfl (fun ls hl => ?_)
          refine lv_goto (tgt := 7) hx hb d_M_feed_50 (by decide) ?_
          exact hJ6 (x2 + 1) g3 a4 (Option.some.inj hm).symm _ _ _ (lv_sub hl [2, 3, 0] rfl) hst
        · have hm := it_f hm h13
          refine lv_aload_n hx hb d_M_feed_42 rfl (lv_at hl 1 rfl) ?_
          refine lv_iload_n hx hb d_M_feed_43 rfl (lv_at hl 0 rfl) ?_
          obtain ⟨⟨g15, a16⟩, hc17, hm⟩ := bd_u hm
          dsimp only at hm
          refine cl_vv hx hb hml hown hG hg (cM_take l dC dI tk A h L g3 a4 rw n x10 _ _ hc17) (cw_v 1 hG k_1161 k_1163 s_26 k_14 k_1164 (by decide +kernel) ⟨by decide, by decide⟩) hst rfl oW_0 rfl hl.1 rfl (Nat.le_of_ble_eq_true rfl) ⟨Nat.le_refl 0, Nat.le_refl 0⟩ d_M_feed_44 (fun H locs hst => ?_)
          refine lv_iinc (k := 3) (v := (x2 + 1)) (lv' := [(2, .int (x2 + 1)), (3, .int x10), (0, .ref h), (1, .int v1)]) hx hb d_M_feed_47 hl rfl (by rfl) (by decide) rfl (fun ls hl => ?_)
          refine lv_goto (tgt := 7) hx hb d_M_feed_50 (by decide) ?_
          exact hJ6 (x2 + 1) g15 a16 (Option.some.inj hm).symm _ _ _ (lv_sub hl [2, 3, 0] rfl) hst
def mM_waiting (n : Nat) (g : aG) (a : aA) : Option (Int32 × aG) := lt (va_up g 45 0) (fun g1 => some (((g1 31), g1)))
theorem d_M_waiting_0 : decode prog_11_method_40_code 0 = .ok (.aload_n 0, 1) := by decide +kernel
theorem d_M_waiting_1 : decode prog_11_method_40_code 1 = .ok (.iconst 0, 1) := by decide +kernel
theorem d_M_waiting_2 : decode prog_11_method_40_code 2 = .ok (.putfield 92, 3) := by decide +kernel
theorem d_M_waiting_5 : decode prog_11_method_40_code 5 = .ok (.aload_n 0, 1) := by decide +kernel
theorem d_M_waiting_6 : decode prog_11_method_40_code 6 = .ok (.getfield 213, 3) := by decide +kernel
theorem d_M_waiting_9 : decode prog_11_method_40_code 9 = .ok (.ireturn, 1) := by decide +kernel
set_option maxHeartbeats 4000000 in
set_option maxRecDepth 100000 in
theorem cM_waiting (l : Launch) (dC : Nat → ClassId) (dI : Nat → Nat → Nat) (tk : Nat → ClassId) (A : Nat → Prop) (h : Nat) (L : Nat → Nat) (g : aG) (a : aA) (rw : va_W) (n : Nat) (r0 : Int32) (g0 : aG) (hm : mM_waiting n g a = some (r0, g0)) : CtI l dC dI tk A ⟨"EditorServerModel", "waiting", "()I"⟩ prog_11_method_40_code 1 (some .int) 0 0 [.ref h] (oW 0 h ksM spM tk L g a rw) r0 (oW 0 h ksM spM tk L g0 a rw) := by
  refine ent (by decide) (Nat.le_of_ble_eq_true rfl) ?_
  intro p e s m args below meth c hx hb hr hml hown hlk hG hg hst ls hl
  unfold mM_waiting at hm
  have hl : lv_has ls 1 [(0, .ref h)] := hl
  refine lv_aload_n hx hb d_M_waiting_0 rfl (lv_at hl 0 rfl) ?_
  refine lv_iconst (v := 0) hx hb d_M_waiting_1 (by decide) ?_
  refine ro_puti hx hb hown hG hg cM hst 45 (by decide) rfl rfl rfl rfl rfl k_1059 d_M_waiting_2 (fun g1 H locs eg1 hst => ?_)
  have hm := lt_u hm g1 eg1
  refine lv_aload_n hx hb d_M_waiting_5 rfl (lv_at hl 0 rfl) ?_
  refine ro_geti hx hb hown hG hg cM hst 31 (by decide) rfl rfl k_1045 d_M_waiting_6 ?_
  have he := (Option.some.inj hm)
  cases he
  exact rt_i hx hb hr hlk rfl hst rfl d_M_waiting_9
def mM_request (n : Nat) (v1 : Int32) (g : aG) (a : aA) : Option (Int32 × aG) := lt (va_up g 45 0) (fun g1 => jn (α := Unit) (if v1 < 0 then (some (.inl ())) else (if v1 < (g1 31) then (gd (inb v1 8) (lt (a 16 v1.toNatClampNeg) (fun x12 => some (.inr ((x12, g1)))))) else (some (.inl ())))) (fun _ => bd (mM_fail n 1 g1 a) (fun q5 => some ((q5.1, q5.2)))))
theorem d_M_request_0 : decode prog_11_method_41_code 0 = .ok (.aload_n 0, 1) := by decide +kernel
theorem d_M_request_1 : decode prog_11_method_41_code 1 = .ok (.iconst 0, 1) := by decide +kernel
theorem d_M_request_2 : decode prog_11_method_41_code 2 = .ok (.putfield 92, 3) := by decide +kernel
theorem d_M_request_5 : decode prog_11_method_41_code 5 = .ok (.iload_n 1, 1) := by decide +kernel
theorem d_M_request_6 : decode prog_11_method_41_code 6 = .ok (.ifCond .lt 11, 3) := by decide +kernel
theorem d_M_request_9 : decode prog_11_method_41_code 9 = .ok (.iload_n 1, 1) := by decide +kernel
theorem d_M_request_10 : decode prog_11_method_41_code 10 = .ok (.aload_n 0, 1) := by decide +kernel
theorem d_M_request_11 : decode prog_11_method_41_code 11 = .ok (.getfield 213, 3) := by decide +kernel
theorem d_M_request_14 : decode prog_11_method_41_code 14 = .ok (.if_icmp .lt 11, 3) := by decide +kernel
theorem d_M_request_17 : decode prog_11_method_41_code 17 = .ok (.aload_n 0, 1) := by decide +kernel
theorem d_M_request_18 : decode prog_11_method_41_code 18 = .ok (.iconst 1, 1) := by decide +kernel
theorem d_M_request_19 : decode prog_11_method_41_code 19 = .ok (.invokevirtual 270, 3) := by decide +kernel
theorem d_M_request_22 : decode prog_11_method_41_code 22 = .ok (.goto 9, 3) := by decide +kernel
theorem d_M_request_25 : decode prog_11_method_41_code 25 = .ok (.aload_n 0, 1) := by decide +kernel
theorem d_M_request_26 : decode prog_11_method_41_code 26 = .ok (.getfield 58, 3) := by decide +kernel
theorem d_M_request_29 : decode prog_11_method_41_code 29 = .ok (.iload_n 1, 1) := by decide +kernel
theorem d_M_request_30 : decode prog_11_method_41_code 30 = .ok (.iaload, 1) := by decide +kernel
theorem d_M_request_31 : decode prog_11_method_41_code 31 = .ok (.ireturn, 1) := by decide +kernel
set_option maxHeartbeats 4000000 in
set_option maxRecDepth 100000 in
theorem cM_request (l : Launch) (dC : Nat → ClassId) (dI : Nat → Nat → Nat) (tk : Nat → ClassId) (A : Nat → Prop) (h : Nat) (L : Nat → Nat) (g : aG) (a : aA) (rw : va_W) (n : Nat) (v1 : Int32) (r0 : Int32) (g0 : aG) (hm : mM_request n v1 g a = some (r0, g0)) : CtI l dC dI tk A ⟨"EditorServerModel", "request", "(I)I"⟩ prog_11_method_41_code 2 (some .int) 1 21 [.ref h, .int v1] (oW 0 h ksM spM tk L g a rw) r0 (oW 0 h ksM spM tk L g0 a rw) := by
  refine ent (by decide) (Nat.le_of_ble_eq_true rfl) ?_
  intro p e s m args below meth c hx hb hr hml hown hlk hG hg hst ls hl
  unfold mM_request at hm
  have hl : lv_has ls 2 [(0, .ref h), (1, .int v1)] := hl
  refine lv_aload_n hx hb d_M_request_0 rfl (lv_at hl 0 rfl) ?_
  refine lv_iconst (v := 0) hx hb d_M_request_1 (by decide) ?_
  refine ro_puti hx hb hown hG hg cM hst 45 (by decide) rfl rfl rfl rfl rfl k_1059 d_M_request_2 (fun g1 H locs eg1 hst => ?_)
  have hm := lt_u hm g1 eg1
  refine lv_iload_n hx hb d_M_request_5 rfl (lv_at hl 1 rfl) ?_
  obtain ⟨qJ2, hm, hLJ2, hR3⟩ := jn_u hm
  have hJ2 : qJ2 = .inl () → ∀ (H : Heap) (locs : List Loc) (ls : Array Slot), lv_has ls 2 [(0, .ref h), (1, .int v1)] → St dC dI A s.heap H locs (oW 0 h ksM spM tk L g1 a rw) → W p l e (rmo 1 21) s m args below meth c H locs 0 0 (MQ below (QI dC dI A r0 (oW 0 h ksM spM tk L g0 a rw)) args s 0 0 A) (F0 m 17 ls []) := by
    intro hq H locs ls hl hst
    have hm := hLJ2 _ hq
    refine lv_aload_n hx hb d_M_request_17 rfl (lv_at hl 0 rfl) ?_
    refine lv_iconst (v := 1) hx hb d_M_request_18 (by decide) ?_
    obtain ⟨⟨x6, g7⟩, hc8, hm⟩ := bd_u hm
    dsimp only at hm
    refine cl_vi hx hb hml hown hG hg (cM_fail l dC dI tk A h L g1 a rw n 1 _ _ hc8) (cw_v 1 hG k_1307 k_1309 s_57 k_14 k_1310 (by decide +kernel) ⟨by decide, by decide⟩) hst rfl oW_0 rfl hl.1 rfl (Nat.le_of_ble_eq_true rfl) ⟨Nat.le_refl 0, Nat.le_refl 0⟩ d_M_request_19 (fun H locs hst => ?_)
    refine lv_goto (tgt := 31) hx hb d_M_request_22 (by decide) ?_
    have he := (Option.some.inj hm)
    cases he
    exact rt_i hx hb hr hlk rfl hst rfl d_M_request_31
  refine lv_if_lt (tgt := 17) hx hb d_M_request_6 (by decide) (fun h9 => ?_) (fun h9 => ?_)
  · have hm := it_t hm h9
    exact hJ2  (Option.some.inj hm).symm _ _ _ (lv_sub hl [0, 1] rfl) hst
  · have hm := it_f hm h9
    refine lv_iload_n hx hb d_M_request_9 rfl (lv_at hl 1 rfl) ?_
    refine lv_aload_n hx hb d_M_request_10 rfl (lv_at hl 0 rfl) ?_
    refine ro_geti hx hb hown hG hg cM hst 31 (by decide) rfl rfl k_1045 d_M_request_11 ?_
    refine lv_icmp_lt (tgt := 25) hx hb d_M_request_14 (by decide) (fun h10 => ?_) (fun h10 => ?_)
    · have hm := it_t hm h10
      refine lv_aload_n hx hb d_M_request_25 rfl (lv_at hl 0 rfl) ?_
      refine ro_geta hx hb hown hG hg cM hst 32 16 (by decide) rfl rfl k_1046 d_M_request_26 ?_
      refine lv_iload_n hx hb d_M_request_29 rfl (lv_at hl 1 rfl) ?_
      obtain ⟨hn11, hm⟩ := gd_u hm
      refine ro_iald hx hb hg hst 16 rfl hn11 d_M_request_30 ?_
      refine lv_topi (fun x12 ex12 => ?_)
      have hm := lt_u hm x12 ex12
      have he := (hR3 _ (Option.some.inj hm).symm)
      cases he
      exact rt_i hx hb hr hlk rfl hst rfl d_M_request_31
    · have hm := it_f hm h10
      exact hJ2  (Option.some.inj hm).symm _ _ _ (lv_sub hl [0, 1] rfl) hst
def mM_run (n : Nat) (v1 : Int32) (g : aG) (a : aA) : Option (Int32 × aG × aA) := lt (va_up g 45 0) (fun g1 => jn (α := aG × aA) (if v1 < 0 then (some (.inl (g1, a))) else (if v1 < (g1 31) then (lt ((60 * v1)) (fun x13 => gd (inb v1 8) (lt (a 20 v1.toNatClampNeg) (fun x15 => gd (inb v1 8) (lt (a 17 v1.toNatClampNeg) (fun x17 => jn (α := Int32) (if x17 = 0 then (some (.inl x15)) else (some (.inl (-32603)))) (fun x20 => gd (inb v1 8) (lt (a 17 v1.toNatClampNeg) (fun x23 => jn (α := Int32) (if x23 = 3 then (bd (mM_linesOf n (a 21) 480 x13 x15) (fun x148 => some (.inl x148))) else (some (.inl x20))) (fun x26 => gd (inb v1 8) (lt (a 17 v1.toNatClampNeg) (fun x29 => if x29 = 2 then (gd (inb v1 8) (lt (a 18 v1.toNatClampNeg) (fun x67 => gd (inb v1 8) (lt (a 19 v1.toNatClampNeg) (fun x69 => bd (mM_placeIn n (a 21) 480 x13 x15 x67 x69) (fun x71 => if x15 ≤ x71 then (lt ((x15 - 1)) (fun x74 => jn (α := Int32) (lp (ε := Int32 × Int32) (fun q96 => if q96.2 < 0 then (some (.inr (.inl q96.1))) else (gd (inb v1 8) (lt (a 17 v1.toNatClampNeg) (fun x102 => if x102 = 1 then (gd (inb (x13 + q96.2) 480) (lt (a 21 (x13 + q96.2).toNatClampNeg) (fun x105 => gd (inb v1 8) (lt (a 18 v1.toNatClampNeg) (fun x107 => if x105 = x107 then (some (.inl (q96.2, (q96.2 + (-1))))) else (some (.inl (q96.1, (q96.2 + (-1)))))))))) else (some (.inr (.inl q96.1))))))) n ((-32603), x74)) (fun x77 => gd (inb v1 8) (lt (a 16 v1.toNatClampNeg) (fun x80 => jn (α := Int32) (if x77 = (-32603) then (some (.inl 0)) else (some (.inl 1))) (fun x83 => bd (mM_respond n 1 x80 x83 x77 g1 a) (fun q85 => bd (mM_remove n v1 q85.1 q85.2) (fun q89 => some (.inr ((x80, q89.1, q89.2))))))))))) else (gd (inb (x13 + x71) 480) (lt (a 21 (x13 + x71).toNatClampNeg) (fun x110 => lt ((x15 - 1)) (fun x111 => jn (α := Int32) (lp (ε := Int32 × Int32) (fun q133 => if q133.2 < 0 then (some (.inr (.inl q133.1))) else (gd (inb v1 8) (lt (a 17 v1.toNatClampNeg) (fun x139 => if x139 = 1 then (gd (inb (x13 + q133.2) 480) (lt (a 21 (x13 + q133.2).toNatClampNeg) (fun x142 => gd (inb v1 8) (lt (a 18 v1.toNatClampNeg) (fun x144 => if x142 = x144 then (some (.inl (q133.2, (q133.2 + (-1))))) else (some (.inl (q133.1, (q133.2 + (-1)))))))))) else (some (.inr (.inl q133.1))))))) n (x110, x111)) (fun x114 => gd (inb v1 8) (lt (a 16 v1.toNatClampNeg) (fun x117 => jn (α := Int32) (if x114 = (-32603) then (some (.inl 0)) else (some (.inl 1))) (fun x120 => bd (mM_respond n 1 x117 x120 x114 g1 a) (fun q122 => bd (mM_remove n v1 q122.1 q122.2) (fun q126 => some (.inr ((x117, q126.1, q126.2))))))))))))))))))) else (lt ((x15 - 1)) (fun x31 => jn (α := Int32) (lp (ε := Int32 × Int32) (fun q53 => if q53.2 < 0 then (some (.inr (.inl q53.1))) else (gd (inb v1 8) (lt (a 17 v1.toNatClampNeg) (fun x59 => if x59 = 1 then (gd (inb (x13 + q53.2) 480) (lt (a 21 (x13 + q53.2).toNatClampNeg) (fun x62 => gd (inb v1 8) (lt (a 18 v1.toNatClampNeg) (fun x64 => if x62 = x64 then (some (.inl (q53.2, (q53.2 + (-1))))) else (some (.inl (q53.1, (q53.2 + (-1)))))))))) else (some (.inr (.inl q53.1))))))) n (x26, x31)) (fun x34 => gd (inb v1 8) (lt (a 16 v1.toNatClampNeg) (fun x37 => jn (α := Int32) (if x34 = (-32603) then (some (.inl 0)) else (some (.inl 1))) (fun x40 => bd (mM_respond n 1 x37 x40 x34 g1 a) (fun q42 => bd (mM_remove n v1 q42.1 q42.2) (fun q46 => some (.inr ((x37, q46.1, q46.2))))))))))))))))))))))) else (some (.inl (g1, a))))) (fun q6 => bd (mM_fail n 1 q6.1 q6.2) (fun q7 => some ((q7.1, q7.2, q6.2)))))
theorem d_M_run_0 : decode prog_11_method_42_code 0 = .ok (.aload_n 0, 1) := by decide +kernel
theorem d_M_run_1 : decode prog_11_method_42_code 1 = .ok (.iconst 0, 1) := by decide +kernel
theorem d_M_run_2 : decode prog_11_method_42_code 2 = .ok (.putfield 92, 3) := by decide +kernel
theorem d_M_run_5 : decode prog_11_method_42_code 5 = .ok (.iload_n 1, 1) := by decide +kernel
theorem d_M_run_6 : decode prog_11_method_42_code 6 = .ok (.ifCond .lt 11, 3) := by decide +kernel
theorem d_M_run_9 : decode prog_11_method_42_code 9 = .ok (.iload_n 1, 1) := by decide +kernel
theorem d_M_run_10 : decode prog_11_method_42_code 10 = .ok (.aload_n 0, 1) := by decide +kernel
theorem d_M_run_11 : decode prog_11_method_42_code 11 = .ok (.getfield 213, 3) := by decide +kernel
theorem d_M_run_14 : decode prog_11_method_42_code 14 = .ok (.if_icmp .lt 9, 3) := by decide +kernel
theorem d_M_run_17 : decode prog_11_method_42_code 17 = .ok (.aload_n 0, 1) := by decide +kernel
theorem d_M_run_18 : decode prog_11_method_42_code 18 = .ok (.iconst 1, 1) := by decide +kernel
theorem d_M_run_19 : decode prog_11_method_42_code 19 = .ok (.invokevirtual 270, 3) := by decide +kernel
theorem d_M_run_22 : decode prog_11_method_42_code 22 = .ok (.ireturn, 1) := by decide +kernel
theorem d_M_run_23 : decode prog_11_method_42_code 23 = .ok (.bipush 60, 2) := by decide +kernel
theorem d_M_run_25 : decode prog_11_method_42_code 25 = .ok (.iload_n 1, 1) := by decide +kernel
theorem d_M_run_26 : decode prog_11_method_42_code 26 = .ok (.imul, 1) := by decide +kernel
theorem d_M_run_27 : decode prog_11_method_42_code 27 = .ok (.istore_n 2, 1) := by decide +kernel
theorem d_M_run_28 : decode prog_11_method_42_code 28 = .ok (.aload_n 0, 1) := by decide +kernel
theorem d_M_run_29 : decode prog_11_method_42_code 29 = .ok (.getfield 70, 3) := by decide +kernel
theorem d_M_run_32 : decode prog_11_method_42_code 32 = .ok (.iload_n 1, 1) := by decide +kernel
theorem d_M_run_33 : decode prog_11_method_42_code 33 = .ok (.iaload, 1) := by decide +kernel
theorem d_M_run_34 : decode prog_11_method_42_code 34 = .ok (.istore_n 3, 1) := by decide +kernel
theorem d_M_run_35 : decode prog_11_method_42_code 35 = .ok (.sipush (-32603), 3) := by decide +kernel
theorem d_M_run_38 : decode prog_11_method_42_code 38 = .ok (.istore 4, 2) := by decide +kernel
theorem d_M_run_40 : decode prog_11_method_42_code 40 = .ok (.aload_n 0, 1) := by decide +kernel
theorem d_M_run_41 : decode prog_11_method_42_code 41 = .ok (.getfield 61, 3) := by decide +kernel
theorem d_M_run_44 : decode prog_11_method_42_code 44 = .ok (.iload_n 1, 1) := by decide +kernel
theorem d_M_run_45 : decode prog_11_method_42_code 45 = .ok (.iaload, 1) := by decide +kernel
theorem d_M_run_46 : decode prog_11_method_42_code 46 = .ok (.ifCond .ne 6, 3) := by decide +kernel
theorem d_M_run_49 : decode prog_11_method_42_code 49 = .ok (.iload_n 3, 1) := by decide +kernel
theorem d_M_run_50 : decode prog_11_method_42_code 50 = .ok (.istore 4, 2) := by decide +kernel
theorem d_M_run_52 : decode prog_11_method_42_code 52 = .ok (.aload_n 0, 1) := by decide +kernel
theorem d_M_run_53 : decode prog_11_method_42_code 53 = .ok (.getfield 61, 3) := by decide +kernel
theorem d_M_run_56 : decode prog_11_method_42_code 56 = .ok (.iload_n 1, 1) := by decide +kernel
theorem d_M_run_57 : decode prog_11_method_42_code 57 = .ok (.iaload, 1) := by decide +kernel
theorem d_M_run_58 : decode prog_11_method_42_code 58 = .ok (.iconst 3, 1) := by decide +kernel
theorem d_M_run_59 : decode prog_11_method_42_code 59 = .ok (.if_icmp .ne 14, 3) := by decide +kernel
theorem d_M_run_62 : decode prog_11_method_42_code 62 = .ok (.aload_n 0, 1) := by decide +kernel
theorem d_M_run_63 : decode prog_11_method_42_code 63 = .ok (.getfield 73, 3) := by decide +kernel
theorem d_M_run_66 : decode prog_11_method_42_code 66 = .ok (.iload_n 2, 1) := by decide +kernel
theorem d_M_run_67 : decode prog_11_method_42_code 67 = .ok (.iload_n 3, 1) := by decide +kernel
theorem d_M_run_68 : decode prog_11_method_42_code 68 = .ok (.invokestatic 266, 3) := by decide +kernel
theorem d_M_run_71 : decode prog_11_method_42_code 71 = .ok (.istore 4, 2) := by decide +kernel
theorem d_M_run_73 : decode prog_11_method_42_code 73 = .ok (.aload_n 0, 1) := by decide +kernel
theorem d_M_run_74 : decode prog_11_method_42_code 74 = .ok (.getfield 61, 3) := by decide +kernel
theorem d_M_run_77 : decode prog_11_method_42_code 77 = .ok (.iload_n 1, 1) := by decide +kernel
theorem d_M_run_78 : decode prog_11_method_42_code 78 = .ok (.iaload, 1) := by decide +kernel
theorem d_M_run_79 : decode prog_11_method_42_code 79 = .ok (.iconst 2, 1) := by decide +kernel
theorem d_M_run_80 : decode prog_11_method_42_code 80 = .ok (.if_icmp .ne 49, 3) := by decide +kernel
theorem d_M_run_83 : decode prog_11_method_42_code 83 = .ok (.aload_n 0, 1) := by decide +kernel
theorem d_M_run_84 : decode prog_11_method_42_code 84 = .ok (.getfield 73, 3) := by decide +kernel
theorem d_M_run_87 : decode prog_11_method_42_code 87 = .ok (.iload_n 2, 1) := by decide +kernel
theorem d_M_run_88 : decode prog_11_method_42_code 88 = .ok (.iload_n 3, 1) := by decide +kernel
theorem d_M_run_89 : decode prog_11_method_42_code 89 = .ok (.aload_n 0, 1) := by decide +kernel
theorem d_M_run_90 : decode prog_11_method_42_code 90 = .ok (.getfield 64, 3) := by decide +kernel
theorem d_M_run_93 : decode prog_11_method_42_code 93 = .ok (.iload_n 1, 1) := by decide +kernel
theorem d_M_run_94 : decode prog_11_method_42_code 94 = .ok (.iaload, 1) := by decide +kernel
theorem d_M_run_95 : decode prog_11_method_42_code 95 = .ok (.aload_n 0, 1) := by decide +kernel
theorem d_M_run_96 : decode prog_11_method_42_code 96 = .ok (.getfield 67, 3) := by decide +kernel
theorem d_M_run_99 : decode prog_11_method_42_code 99 = .ok (.iload_n 1, 1) := by decide +kernel
theorem d_M_run_100 : decode prog_11_method_42_code 100 = .ok (.iaload, 1) := by decide +kernel
theorem d_M_run_101 : decode prog_11_method_42_code 101 = .ok (.invokestatic 258, 3) := by decide +kernel
theorem d_M_run_104 : decode prog_11_method_42_code 104 = .ok (.istore 5, 2) := by decide +kernel
theorem d_M_run_106 : decode prog_11_method_42_code 106 = .ok (.iload 5, 2) := by decide +kernel
theorem d_M_run_108 : decode prog_11_method_42_code 108 = .ok (.iload_n 3, 1) := by decide +kernel
theorem d_M_run_109 : decode prog_11_method_42_code 109 = .ok (.if_icmp .ge 15, 3) := by decide +kernel
theorem d_M_run_112 : decode prog_11_method_42_code 112 = .ok (.aload_n 0, 1) := by decide +kernel
theorem d_M_run_113 : decode prog_11_method_42_code 113 = .ok (.getfield 73, 3) := by decide +kernel
theorem d_M_run_116 : decode prog_11_method_42_code 116 = .ok (.iload_n 2, 1) := by decide +kernel
theorem d_M_run_117 : decode prog_11_method_42_code 117 = .ok (.iload 5, 2) := by decide +kernel
theorem d_M_run_119 : decode prog_11_method_42_code 119 = .ok (.iadd, 1) := by decide +kernel
theorem d_M_run_120 : decode prog_11_method_42_code 120 = .ok (.iaload, 1) := by decide +kernel
theorem d_M_run_121 : decode prog_11_method_42_code 121 = .ok (.goto 6, 3) := by decide +kernel
theorem d_M_run_124 : decode prog_11_method_42_code 124 = .ok (.sipush (-32603), 3) := by decide +kernel
theorem d_M_run_127 : decode prog_11_method_42_code 127 = .ok (.istore 4, 2) := by decide +kernel
theorem d_M_run_129 : decode prog_11_method_42_code 129 = .ok (.iload_n 3, 1) := by decide +kernel
theorem d_M_run_130 : decode prog_11_method_42_code 130 = .ok (.iconst 1, 1) := by decide +kernel
theorem d_M_run_131 : decode prog_11_method_42_code 131 = .ok (.isub, 1) := by decide +kernel
theorem d_M_run_132 : decode prog_11_method_42_code 132 = .ok (.istore 5, 2) := by decide +kernel
theorem d_M_run_134 : decode prog_11_method_42_code 134 = .ok (.iload 5, 2) := by decide +kernel
theorem d_M_run_136 : decode prog_11_method_42_code 136 = .ok (.ifCond .lt 46, 3) := by decide +kernel
theorem d_M_run_139 : decode prog_11_method_42_code 139 = .ok (.aload_n 0, 1) := by decide +kernel
theorem d_M_run_140 : decode prog_11_method_42_code 140 = .ok (.getfield 61, 3) := by decide +kernel
theorem d_M_run_143 : decode prog_11_method_42_code 143 = .ok (.iload_n 1, 1) := by decide +kernel
theorem d_M_run_144 : decode prog_11_method_42_code 144 = .ok (.iaload, 1) := by decide +kernel
theorem d_M_run_145 : decode prog_11_method_42_code 145 = .ok (.iconst 1, 1) := by decide +kernel
theorem d_M_run_146 : decode prog_11_method_42_code 146 = .ok (.if_icmp .ne 36, 3) := by decide +kernel
theorem d_M_run_149 : decode prog_11_method_42_code 149 = .ok (.aload_n 0, 1) := by decide +kernel
theorem d_M_run_150 : decode prog_11_method_42_code 150 = .ok (.getfield 73, 3) := by decide +kernel
theorem d_M_run_153 : decode prog_11_method_42_code 153 = .ok (.iload_n 2, 1) := by decide +kernel
theorem d_M_run_154 : decode prog_11_method_42_code 154 = .ok (.iload 5, 2) := by decide +kernel
theorem d_M_run_156 : decode prog_11_method_42_code 156 = .ok (.iadd, 1) := by decide +kernel
theorem d_M_run_157 : decode prog_11_method_42_code 157 = .ok (.iaload, 1) := by decide +kernel
theorem d_M_run_158 : decode prog_11_method_42_code 158 = .ok (.aload_n 0, 1) := by decide +kernel
theorem d_M_run_159 : decode prog_11_method_42_code 159 = .ok (.getfield 64, 3) := by decide +kernel
theorem d_M_run_162 : decode prog_11_method_42_code 162 = .ok (.iload_n 1, 1) := by decide +kernel
theorem d_M_run_163 : decode prog_11_method_42_code 163 = .ok (.iaload, 1) := by decide +kernel
theorem d_M_run_164 : decode prog_11_method_42_code 164 = .ok (.if_icmp .ne 8, 3) := by decide +kernel
theorem d_M_run_167 : decode prog_11_method_42_code 167 = .ok (.iload 5, 2) := by decide +kernel
theorem d_M_run_169 : decode prog_11_method_42_code 169 = .ok (.goto 5, 3) := by decide +kernel
theorem d_M_run_172 : decode prog_11_method_42_code 172 = .ok (.iload 4, 2) := by decide +kernel
theorem d_M_run_174 : decode prog_11_method_42_code 174 = .ok (.istore 4, 2) := by decide +kernel
theorem d_M_run_176 : decode prog_11_method_42_code 176 = .ok (.iinc 5 (-1), 3) := by decide +kernel
theorem d_M_run_179 : decode prog_11_method_42_code 179 = .ok (.goto (-45), 3) := by decide +kernel
theorem d_M_run_182 : decode prog_11_method_42_code 182 = .ok (.aload_n 0, 1) := by decide +kernel
theorem d_M_run_183 : decode prog_11_method_42_code 183 = .ok (.getfield 58, 3) := by decide +kernel
theorem d_M_run_186 : decode prog_11_method_42_code 186 = .ok (.iload_n 1, 1) := by decide +kernel
theorem d_M_run_187 : decode prog_11_method_42_code 187 = .ok (.iaload, 1) := by decide +kernel
theorem d_M_run_188 : decode prog_11_method_42_code 188 = .ok (.istore 5, 2) := by decide +kernel
theorem d_M_run_190 : decode prog_11_method_42_code 190 = .ok (.aload_n 0, 1) := by decide +kernel
theorem d_M_run_191 : decode prog_11_method_42_code 191 = .ok (.iconst 1, 1) := by decide +kernel
theorem d_M_run_192 : decode prog_11_method_42_code 192 = .ok (.iload 5, 2) := by decide +kernel
theorem d_M_run_194 : decode prog_11_method_42_code 194 = .ok (.iload 4, 2) := by decide +kernel
theorem d_M_run_196 : decode prog_11_method_42_code 196 = .ok (.sipush (-32603), 3) := by decide +kernel
theorem d_M_run_199 : decode prog_11_method_42_code 199 = .ok (.if_icmp .eq 7, 3) := by decide +kernel
theorem d_M_run_202 : decode prog_11_method_42_code 202 = .ok (.iconst 1, 1) := by decide +kernel
theorem d_M_run_203 : decode prog_11_method_42_code 203 = .ok (.goto 4, 3) := by decide +kernel
theorem d_M_run_206 : decode prog_11_method_42_code 206 = .ok (.iconst 0, 1) := by decide +kernel
theorem d_M_run_207 : decode prog_11_method_42_code 207 = .ok (.iload 4, 2) := by decide +kernel
theorem d_M_run_209 : decode prog_11_method_42_code 209 = .ok (.invokevirtual 180, 3) := by decide +kernel
theorem d_M_run_212 : decode prog_11_method_42_code 212 = .ok (.aload_n 0, 1) := by decide +kernel
theorem d_M_run_213 : decode prog_11_method_42_code 213 = .ok (.iload_n 1, 1) := by decide +kernel
theorem d_M_run_214 : decode prog_11_method_42_code 214 = .ok (.invokevirtual 263, 3) := by decide +kernel
theorem d_M_run_217 : decode prog_11_method_42_code 217 = .ok (.iload 5, 2) := by decide +kernel
theorem d_M_run_219 : decode prog_11_method_42_code 219 = .ok (.ireturn, 1) := by decide +kernel
set_option maxHeartbeats 4000000 in
set_option maxRecDepth 100000 in
theorem cM_run (l : Launch) (dC : Nat → ClassId) (dI : Nat → Nat → Nat) (tk : Nat → ClassId) (A : Nat → Prop) (h : Nat) (L : Nat → Nat) (g : aG) (a : aA) (rw : va_W) (n : Nat) (v1 : Int32) (r0 : Int32) (g0 : aG) (a0 : aA) (hm : mM_run n v1 g a = some (r0, g0, a0)) : CtI l dC dI tk A ⟨"EditorServerModel", "run", "(I)I"⟩ prog_11_method_42_code 6 (some .int) 2 51 [.ref h, .int v1] (oW 0 h ksM spM tk L g a rw) r0 (oW 0 h ksM spM tk L g0 a0 rw) := by
  refine ent (by decide) (Nat.le_of_ble_eq_true rfl) ?_
  intro p e s m args below meth c hx hb hr hml hown hlk hG hg hst ls hl
  unfold mM_run at hm
  have hl : lv_has ls 6 [(0, .ref h), (1, .int v1)] := hl
  refine lv_aload_n hx hb d_M_run_0 rfl (lv_at hl 0 rfl) ?_
  refine lv_iconst (v := 0) hx hb d_M_run_1 (by decide) ?_
  refine ro_puti hx hb hown hG hg cM hst 45 (by decide) rfl rfl rfl rfl rfl k_1059 d_M_run_2 (fun g1 H locs eg1 hst => ?_)
  have hm := lt_u hm g1 eg1
  refine lv_iload_n hx hb d_M_run_5 rfl (lv_at hl 1 rfl) ?_
  obtain ⟨qJ2, hm, hLJ2, hR3⟩ := jn_u hm
  have hJ2 : ∀ (g4 : aG) (a5 : aA), qJ2 = .inl (g4, a5) → ∀ (H : Heap) (locs : List Loc) (ls : Array Slot), lv_has ls 6 [(0, .ref h), (1, .int v1)] → St dC dI A s.heap H locs (oW 0 h ksM spM tk L g4 a5 rw) → W p l e (rmo 2 51) s m args below meth c H locs 0 0 (MQ below (QI dC dI A r0 (oW 0 h ksM spM tk L g0 a0 rw)) args s 0 0 A) (F0 m 17 ls []) := by
    intro g4 a5 hq H locs ls hl hst
    have hm := hLJ2 _ hq
    dsimp only at hm
    refine lv_aload_n hx hb d_M_run_17 rfl (lv_at hl 0 rfl) ?_
    refine lv_iconst (v := 1) hx hb d_M_run_18 (by decide) ?_
    obtain ⟨⟨x8, g9⟩, hc10, hm⟩ := bd_u hm
    dsimp only at hm
    refine cl_vi hx hb hml hown hG hg (cM_fail l dC dI tk A h L g4 a5 rw n 1 _ _ hc10) (cw_v 1 hG k_1307 k_1309 s_57 k_14 k_1310 (by decide +kernel) ⟨by decide, by decide⟩) hst rfl oW_0 rfl hl.1 rfl (Nat.le_of_ble_eq_true rfl) ⟨Nat.le_refl 0, Nat.le_refl 0⟩ d_M_run_19 (fun H locs hst => ?_)
    have he := (Option.some.inj hm)
    cases he
    exact rt_i hx hb hr hlk rfl hst rfl d_M_run_22
  refine lv_if_lt (tgt := 17) hx hb d_M_run_6 (by decide) (fun h11 => ?_) (fun h11 => ?_)
  · have hm := it_t hm h11
    exact hJ2 g1 a (Option.some.inj hm).symm _ _ _ (lv_sub hl [0, 1] rfl) hst
  · have hm := it_f hm h11
    refine lv_iload_n hx hb d_M_run_9 rfl (lv_at hl 1 rfl) ?_
    refine lv_aload_n hx hb d_M_run_10 rfl (lv_at hl 0 rfl) ?_
    refine ro_geti hx hb hown hG hg cM hst 31 (by decide) rfl rfl k_1045 d_M_run_11 ?_
    refine lv_icmp_lt (tgt := 23) hx hb d_M_run_14 (by decide) (fun h12 => ?_) (fun h12 => ?_)
    · have hm := it_t hm h12
      refine lv_bipush (v := 60) hx hb d_M_run_23 (by decide) ?_
      refine lv_iload_n hx hb d_M_run_25 rfl (lv_at hl 1 rfl) ?_
      refine lv_imul hx hb d_M_run_26 ?_
      refine lv_topi (fun x13 ex13 => ?_)
      have hm := lt_u hm x13 ex13
      refine lv_istore_n (lv' := [(2, .int x13), (0, .ref h), (1, .int v1)]) hx hb d_M_run_27 rfl hl (by decide) rfl (fun ls hl => ?_)
      refine lv_aload_n hx hb d_M_run_28 rfl (lv_at hl 1 rfl) ?_
      refine ro_geta hx hb hown hG hg cM hst 36 20 (by decide) rfl rfl k_1050 d_M_run_29 ?_
      refine lv_iload_n hx hb d_M_run_32 rfl (lv_at hl 2 rfl) ?_
      obtain ⟨hn14, hm⟩ := gd_u hm
      refine ro_iald hx hb hg hst 20 rfl hn14 d_M_run_33 ?_
      refine lv_topi (fun x15 ex15 => ?_)
      have hm := lt_u hm x15 ex15
      refine lv_istore_n (lv' := [(3, .int x15), (2, .int x13), (0, .ref h), (1, .int v1)]) hx hb d_M_run_34 rfl hl (by decide) rfl (fun ls hl => ?_)
      refine lv_sipush (v := (-32603)) hx hb d_M_run_35 (by decide) ?_
      refine lv_istore (lv' := [(4, .int (-32603)), (3, .int x15), (2, .int x13), (0, .ref h), (1, .int v1)]) hx hb d_M_run_38 hl (by decide) rfl (fun ls hl => ?_)
      refine lv_aload_n hx hb d_M_run_40 rfl (lv_at hl 3 rfl) ?_
      refine ro_geta hx hb hown hG hg cM hst 33 17 (by decide) rfl rfl k_1047 d_M_run_41 ?_
      refine lv_iload_n hx hb d_M_run_44 rfl (lv_at hl 4 rfl) ?_
      obtain ⟨hn16, hm⟩ := gd_u hm
      refine ro_iald hx hb hg hst 17 rfl hn16 d_M_run_45 ?_
      refine lv_topi (fun x17 ex17 => ?_)
      have hm := lt_u hm x17 ex17
      obtain ⟨qJ18, hm, hLJ18, hR19⟩ := jn_u hm
      have hJ18 : ∀ (x20 : Int32), qJ18 = .inl x20 → ∀ (H : Heap) (locs : List Loc) (ls : Array Slot), lv_has ls 6 [(0, .ref h), (1, .int v1), (2, .int x13), (3, .int x15), (4, .int x20)] → St dC dI A s.heap H locs (oW 0 h ksM spM tk L g1 a rw) → W p l e (rmo 2 51) s m args below meth c H locs 0 0 (MQ below (QI dC dI A r0 (oW 0 h ksM spM tk L g0 a0 rw)) args s 0 0 A) (F0 m 52 ls []) := by
        intro x20 hq H locs ls hl hst
        have hm := hLJ18 _ hq
        refine lv_aload_n hx hb d_M_run_52 rfl (lv_at hl 0 rfl) ?_
        refine ro_geta hx hb hown hG hg cM hst 33 17 (by decide) rfl rfl k_1047 d_M_run_53 ?_
        refine lv_iload_n hx hb d_M_run_56 rfl (lv_at hl 1 rfl) ?_
        obtain ⟨hn22, hm⟩ := gd_u hm
        refine ro_iald hx hb hg hst 17 rfl hn22 d_M_run_57 ?_
        refine lv_topi (fun x23 ex23 => ?_)
        have hm := lt_u hm x23 ex23
        refine lv_iconst (v := 3) hx hb d_M_run_58 (by decide) ?_
        obtain ⟨qJ24, hm, hLJ24, hR25⟩ := jn_u hm
        have hJ24 : ∀ (x26 : Int32), qJ24 = .inl x26 → ∀ (H : Heap) (locs : List Loc) (ls : Array Slot), lv_has ls 6 [(0, .ref h), (1, .int v1), (2, .int x13), (3, .int x15), (4, .int x26)] → St dC dI A s.heap H locs (oW 0 h ksM spM tk L g1 a rw) → W p l e (rmo 2 51) s m args below meth c H locs 0 0 (MQ below (QI dC dI A r0 (oW 0 h ksM spM tk L g0 a0 rw)) args s 0 0 A) (F0 m 73 ls []) := by
          intro x26 hq H locs ls hl hst
          have hm := hLJ24 _ hq
          refine lv_aload_n hx hb d_M_run_73 rfl (lv_at hl 0 rfl) ?_
          refine ro_geta hx hb hown hG hg cM hst 33 17 (by decide) rfl rfl k_1047 d_M_run_74 ?_
          refine lv_iload_n hx hb d_M_run_77 rfl (lv_at hl 1 rfl) ?_
          obtain ⟨hn28, hm⟩ := gd_u hm
          refine ro_iald hx hb hg hst 17 rfl hn28 d_M_run_78 ?_
          refine lv_topi (fun x29 ex29 => ?_)
          have hm := lt_u hm x29 ex29
          refine lv_iconst (v := 2) hx hb d_M_run_79 (by decide) ?_
          refine lv_icmp_ne (tgt := 129) hx hb d_M_run_80 (by decide) (fun h30 => ?_) (fun h30 => ?_)
          · have hm := it_f hm h30
            refine lv_iload_n hx hb d_M_run_129 rfl (lv_at hl 3 rfl) ?_
            refine lv_iconst (v := 1) hx hb d_M_run_130 (by decide) ?_
            refine lv_isub hx hb d_M_run_131 ?_
            refine lv_topi (fun x31 ex31 => ?_)
            have hm := lt_u hm x31 ex31
            refine lv_istore (lv' := [(5, .int x31), (0, .ref h), (1, .int v1), (2, .int x13), (3, .int x15), (4, .int x26)]) hx hb d_M_run_132 hl (by decide) rfl (fun ls hl => ?_)
            obtain ⟨qJ32, hm, hLJ32, hR33⟩ := jn_u hm
            have hJ32 : ∀ (x34 : Int32), qJ32 = .inl x34 → ∀ (H : Heap) (locs : List Loc) (ls : Array Slot), lv_has ls 6 [(0, .ref h), (1, .int v1), (2, .int x13), (3, .int x15), (4, .int x34)] → St dC dI A s.heap H locs (oW 0 h ksM spM tk L g1 a rw) → W p l e (rmo 2 51) s m args below meth c H locs 0 0 (MQ below (QI dC dI A r0 (oW 0 h ksM spM tk L g0 a0 rw)) args s 0 0 A) (F0 m 182 ls []) := by
              intro x34 hq H locs ls hl hst
              have hm := hLJ32 _ hq
              refine lv_aload_n hx hb d_M_run_182 rfl (lv_at hl 0 rfl) ?_
              refine ro_geta hx hb hown hG hg cM hst 32 16 (by decide) rfl rfl k_1046 d_M_run_183 ?_
              refine lv_iload_n hx hb d_M_run_186 rfl (lv_at hl 1 rfl) ?_
              obtain ⟨hn36, hm⟩ := gd_u hm
              refine ro_iald hx hb hg hst 16 rfl hn36 d_M_run_187 ?_
              refine lv_topi (fun x37 ex37 => ?_)
              have hm := lt_u hm x37 ex37
              refine lv_istore (lv' := [(5, .int x37), (0, .ref h), (1, .int v1), (2, .int x13), (3, .int x15), (4, .int x34)]) hx hb d_M_run_188 hl (by decide) rfl (fun ls hl => ?_)
              refine lv_aload_n hx hb d_M_run_190 rfl (lv_at hl 1 rfl) ?_
              refine lv_iconst (v := 1) hx hb d_M_run_191 (by decide) ?_
              refine lv_iload hx hb d_M_run_192 (lv_at hl 0 rfl) ?_
              refine lv_iload hx hb d_M_run_194 (lv_at hl 5 rfl) ?_
              refine lv_sipush (v := (-32603)) hx hb d_M_run_196 (by decide) ?_
              obtain ⟨qJ38, hm, hLJ38, hR39⟩ := jn_u hm
              have hJ38 : ∀ (x40 : Int32), qJ38 = .inl x40 → ∀ (H : Heap) (locs : List Loc) (ls : Array Slot), lv_has ls 6 [(0, .ref h), (1, .int v1), (2, .int x13), (3, .int x15), (4, .int x34), (5, .int x37)] → St dC dI A s.heap H locs (oW 0 h ksM spM tk L g1 a rw) → W p l e (rmo 2 51) s m args below meth c H locs 0 0 (MQ below (QI dC dI A r0 (oW 0 h ksM spM tk L g0 a0 rw)) args s 0 0 A) (F0 m 207 ls [.int x40, .int x37, .int 1, .ref h]) := by
                intro x40 hq H locs ls hl hst
                have hm := hLJ38 _ hq
                refine lv_iload hx hb d_M_run_207 (lv_at hl 4 rfl) ?_
                obtain ⟨⟨g43, a44⟩, hc45, hm⟩ := bd_u hm
                dsimp only at hm
                refine cl_vv hx hb hml hown hG hg (cM_respond l dC dI tk A h L g1 a rw n 1 x37 x40 x34 _ _ hc45) (cw_v 4 hG k_1211 k_1213 s_37 k_14 k_1214 (by decide +kernel) ⟨by decide, by decide⟩) hst rfl oW_0 rfl hl.1 rfl (Nat.le_of_ble_eq_true rfl) ⟨Nat.le_refl 0, Nat.le_refl 0⟩ d_M_run_209 (fun H locs hst => ?_)
                refine lv_aload_n hx hb d_M_run_212 rfl (lv_at hl 0 rfl) ?_
                refine lv_iload_n hx hb d_M_run_213 rfl (lv_at hl 1 rfl) ?_
                obtain ⟨⟨g47, a48⟩, hc49, hm⟩ := bd_u hm
                dsimp only at hm
                refine cl_vv hx hb hml hown hG hg (cM_remove l dC dI tk A h L g43 a44 rw n v1 _ _ hc49) (cw_v 1 hG k_1295 k_1297 s_56 k_14 k_1298 (by decide +kernel) ⟨by decide, by decide⟩) hst rfl oW_0 rfl hl.1 rfl (Nat.le_of_ble_eq_true rfl) ⟨Nat.le_refl 0, Nat.le_refl 0⟩ d_M_run_214 (fun H locs hst => ?_)
                refine lv_iload hx hb d_M_run_217 (lv_at hl 5 rfl) ?_
                have he := (hR3 _ (Option.some.inj hm).symm)
                cases he
                exact rt_i hx hb hr hlk rfl hst rfl d_M_run_219
              refine lv_icmp_eq (tgt := 206) hx hb d_M_run_199 (by decide) (fun h50 => ?_) (fun h50 => ?_)
              · have hm := it_t hm h50
                refine lv_iconst (v := 0) hx hb d_M_run_206 (by decide) ?_
                exact hJ38 0 (Option.some.inj hm).symm _ _ _ (lv_sub hl [1, 2, 3, 4, 5, 0] rfl) hst
              · have hm := it_f hm h50
                refine lv_iconst (v := 1) hx hb d_M_run_202 (by decide) ?_
                refine lv_goto (tgt := 207) hx hb d_M_run_203 (by decide) ?_
                exact hJ38 1 (Option.some.inj hm).symm _ _ _ (lv_sub hl [1, 2, 3, 4, 5, 0] rfl) hst
            refine lp_u (fun q53 : Int32 × Int32 => ∀ (H : Heap) (locs : List Loc) (ls : Array Slot), lv_has ls 6 [(0, .ref h), (1, .int v1), (2, .int x13), (3, .int x15), (4, .int q53.1), (5, .int q53.2)] → St dC dI A s.heap H locs (oW 0 h ksM spM tk L g1 a rw) → W p l e (rmo 2 51) s m args below meth c H locs 0 0 (MQ below (QI dC dI A r0 (oW 0 h ksM spM tk L g0 a0 rw)) args s 0 0 A) (F0 m 134 ls [])) ?_ n (x26, x31) hm _ _ _ (lv_sub hl [1, 2, 3, 4, 5, 0] rfl) hst
            rintro ⟨x51, x52⟩ r56 hm hJ540 hR55 H locs ls hl hst
            dsimp only at hm hl hst ⊢
            have hJ54 := fun y0 y1 (e : r56 = .inl (y0, y1)) => hJ540 (y0, y1) e
            dsimp only at hJ54
            refine lv_iload hx hb d_M_run_134 (lv_at hl 5 rfl) ?_
            refine lv_if_lt (tgt := 182) hx hb d_M_run_136 (by decide) (fun h57 => ?_) (fun h57 => ?_)
            · have hm := it_t hm h57
              exact hJ32 x51 (hR55 _ (Option.some.inj hm).symm).symm _ _ _ (lv_sub hl [0, 1, 2, 3, 4] rfl) hst
            · have hm := it_f hm h57
              refine lv_aload_n hx hb d_M_run_139 rfl (lv_at hl 0 rfl) ?_
              refine ro_geta hx hb hown hG hg cM hst 33 17 (by decide) rfl rfl k_1047 d_M_run_140 ?_
              refine lv_iload_n hx hb d_M_run_143 rfl (lv_at hl 1 rfl) ?_
              obtain ⟨hn58, hm⟩ := gd_u hm
              refine ro_iald hx hb hg hst 17 rfl hn58 d_M_run_144 ?_
              refine lv_topi (fun x59 ex59 => ?_)
              have hm := lt_u hm x59 ex59
              refine lv_iconst (v := 1) hx hb d_M_run_145 (by decide) ?_
              refine lv_icmp_ne (tgt := 182) hx hb d_M_run_146 (by decide) (fun h60 => ?_) (fun h60 => ?_)
              · have hm := it_f hm h60
                exact hJ32 x51 (hR55 _ (Option.some.inj hm).symm).symm _ _ _ (lv_sub hl [0, 1, 2, 3, 4] rfl) hst
              · have hm := it_t hm h60
                refine lv_aload_n hx hb d_M_run_149 rfl (lv_at hl 0 rfl) ?_
                refine ro_geta hx hb hown hG hg cM hst 37 21 (by decide) rfl rfl k_1051 d_M_run_150 ?_
                refine lv_iload_n hx hb d_M_run_153 rfl (lv_at hl 2 rfl) ?_
                refine lv_iload hx hb d_M_run_154 (lv_at hl 5 rfl) ?_
                refine lv_iadd hx hb d_M_run_156 ?_
                obtain ⟨hn61, hm⟩ := gd_u hm
                refine ro_iald hx hb hg hst 21 rfl hn61 d_M_run_157 ?_
                refine lv_topi (fun x62 ex62 => ?_)
                have hm := lt_u hm x62 ex62
                refine lv_aload_n hx hb d_M_run_158 rfl (lv_at hl 0 rfl) ?_
                refine ro_geta hx hb hown hG hg cM hst 34 18 (by decide) rfl rfl k_1048 d_M_run_159 ?_
                refine lv_iload_n hx hb d_M_run_162 rfl (lv_at hl 1 rfl) ?_
                obtain ⟨hn63, hm⟩ := gd_u hm
                refine ro_iald hx hb hg hst 18 rfl hn63 d_M_run_163 ?_
                refine lv_topi (fun x64 ex64 => ?_)
                have hm := lt_u hm x64 ex64
                refine lv_icmp_ne (tgt := 172) hx hb d_M_run_164 (by decide) (fun h65 => ?_) (fun h65 => ?_)
                · have hm := it_f hm h65
                  refine lv_iload hx hb d_M_run_172 (lv_at hl 4 rfl) ?_
                  refine lv_istore (lv' := [(4, .int x51), (0, .ref h), (1, .int v1), (2, .int x13), (3, .int x15), (5, .int x52)]) hx hb d_M_run_174 hl (by decide) rfl (fun ls hl => ?_)
                  refine lv_iinc (k := 5) (v := (x52 + (-1))) (lv' := [(5, .int (x52 + (-1))), (4, .int x51), (0, .ref h), (1, .int v1), (2, .int x13), (3, .int x15)]) hx hb d_M_run_176 hl rfl (by rfl) (by decide) rfl (fun ls hl => ?_)
                  refine lv_goto (tgt := 134) hx hb d_M_run_179 (by decide) ?_
                  exact hJ54 x51 (x52 + (-1)) (Option.some.inj hm).symm _ _ _ (lv_sub hl [2, 3, 4, 5, 1, 0] rfl) hst
                · have hm := it_t hm h65
                  refine lv_iload hx hb d_M_run_167 (lv_at hl 5 rfl) ?_
                  refine lv_goto (tgt := 174) hx hb d_M_run_169 (by decide) ?_
                  refine lv_istore (lv' := [(4, .int x52), (0, .ref h), (1, .int v1), (2, .int x13), (3, .int x15), (5, .int x52)]) hx hb d_M_run_174 hl (by decide) rfl (fun ls hl => ?_)
                  refine lv_iinc (k := 5) (v := (x52 + (-1))) (lv' := [(5, .int (x52 + (-1))), (4, .int x52), (0, .ref h), (1, .int v1), (2, .int x13), (3, .int x15)]) hx hb d_M_run_176 hl rfl (by rfl) (by decide) rfl (fun ls hl => ?_)
                  refine lv_goto (tgt := 134) hx hb d_M_run_179 (by decide) ?_
                  exact hJ54 x52 (x52 + (-1)) (Option.some.inj hm).symm _ _ _ (lv_sub hl [2, 3, 4, 5, 1, 0] rfl) hst
          · have hm := it_t hm h30
            refine lv_aload_n hx hb d_M_run_83 rfl (lv_at hl 0 rfl) ?_
            refine ro_geta hx hb hown hG hg cM hst 37 21 (by decide) rfl rfl k_1051 d_M_run_84 ?_
            refine lv_iload_n hx hb d_M_run_87 rfl (lv_at hl 2 rfl) ?_
            refine lv_iload_n hx hb d_M_run_88 rfl (lv_at hl 3 rfl) ?_
            refine lv_aload_n hx hb d_M_run_89 rfl (lv_at hl 0 rfl) ?_
            refine ro_geta hx hb hown hG hg cM hst 34 18 (by decide) rfl rfl k_1048 d_M_run_90 ?_
            refine lv_iload_n hx hb d_M_run_93 rfl (lv_at hl 1 rfl) ?_
            obtain ⟨hn66, hm⟩ := gd_u hm
            refine ro_iald hx hb hg hst 18 rfl hn66 d_M_run_94 ?_
            refine lv_topi (fun x67 ex67 => ?_)
            have hm := lt_u hm x67 ex67
            refine lv_aload_n hx hb d_M_run_95 rfl (lv_at hl 0 rfl) ?_
            refine ro_geta hx hb hown hG hg cM hst 35 19 (by decide) rfl rfl k_1049 d_M_run_96 ?_
            refine lv_iload_n hx hb d_M_run_99 rfl (lv_at hl 1 rfl) ?_
            obtain ⟨hn68, hm⟩ := gd_u hm
            refine ro_iald hx hb hg hst 19 rfl hn68 d_M_run_100 ?_
            refine lv_topi (fun x69 ex69 => ?_)
            have hm := lt_u hm x69 ex69
            obtain ⟨x71, hc72, hm⟩ := bd_u hm
            refine cl_si hx hb hml hown hG hg (cM_placeIn l dC dI tk A h L g1 a rw n 21 480 rfl x13 x15 x67 x69 _ hc72) (cw_s 5 hG k_1284 k_1285 k_14 k_1286 (by decide +kernel) ⟨by decide, by decide⟩) hst rfl hl.1 rfl (Nat.le_of_ble_eq_true rfl) ⟨Nat.le_refl 0, Nat.le_refl 0⟩ d_M_run_101 (fun H locs hst => ?_)
            refine lv_istore (lv' := [(5, .int x71), (0, .ref h), (1, .int v1), (2, .int x13), (3, .int x15), (4, .int x26)]) hx hb d_M_run_104 hl (by decide) rfl (fun ls hl => ?_)
            refine lv_iload hx hb d_M_run_106 (lv_at hl 0 rfl) ?_
            refine lv_iload_n hx hb d_M_run_108 rfl (lv_at hl 4 rfl) ?_
            refine lv_icmp_ge (tgt := 124) hx hb d_M_run_109 (by decide) (fun h73 => ?_) (fun h73 => ?_)
            · have hm := it_t hm h73
              refine lv_sipush (v := (-32603)) hx hb d_M_run_124 (by decide) ?_
              refine lv_istore (lv' := [(4, .int (-32603)), (5, .int x71), (0, .ref h), (1, .int v1), (2, .int x13), (3, .int x15)]) hx hb d_M_run_127 hl (by decide) rfl (fun ls hl => ?_)
              refine lv_iload_n hx hb d_M_run_129 rfl (lv_at hl 5 rfl) ?_
              refine lv_iconst (v := 1) hx hb d_M_run_130 (by decide) ?_
              refine lv_isub hx hb d_M_run_131 ?_
              refine lv_topi (fun x74 ex74 => ?_)
              have hm := lt_u hm x74 ex74
              refine lv_istore (lv' := [(5, .int x74), (4, .int (-32603)), (0, .ref h), (1, .int v1), (2, .int x13), (3, .int x15)]) hx hb d_M_run_132 hl (by decide) rfl (fun ls hl => ?_)
              obtain ⟨qJ75, hm, hLJ75, hR76⟩ := jn_u hm
              have hJ75 : ∀ (x77 : Int32), qJ75 = .inl x77 → ∀ (H : Heap) (locs : List Loc) (ls : Array Slot), lv_has ls 6 [(0, .ref h), (1, .int v1), (2, .int x13), (3, .int x15), (4, .int x77)] → St dC dI A s.heap H locs (oW 0 h ksM spM tk L g1 a rw) → W p l e (rmo 2 51) s m args below meth c H locs 0 0 (MQ below (QI dC dI A r0 (oW 0 h ksM spM tk L g0 a0 rw)) args s 0 0 A) (F0 m 182 ls []) := by
                intro x77 hq H locs ls hl hst
                have hm := hLJ75 _ hq
                refine lv_aload_n hx hb d_M_run_182 rfl (lv_at hl 0 rfl) ?_
                refine ro_geta hx hb hown hG hg cM hst 32 16 (by decide) rfl rfl k_1046 d_M_run_183 ?_
                refine lv_iload_n hx hb d_M_run_186 rfl (lv_at hl 1 rfl) ?_
                obtain ⟨hn79, hm⟩ := gd_u hm
                refine ro_iald hx hb hg hst 16 rfl hn79 d_M_run_187 ?_
                refine lv_topi (fun x80 ex80 => ?_)
                have hm := lt_u hm x80 ex80
                refine lv_istore (lv' := [(5, .int x80), (0, .ref h), (1, .int v1), (2, .int x13), (3, .int x15), (4, .int x77)]) hx hb d_M_run_188 hl (by decide) rfl (fun ls hl => ?_)
                refine lv_aload_n hx hb d_M_run_190 rfl (lv_at hl 1 rfl) ?_
                refine lv_iconst (v := 1) hx hb d_M_run_191 (by decide) ?_
                refine lv_iload hx hb d_M_run_192 (lv_at hl 0 rfl) ?_
                refine lv_iload hx hb d_M_run_194 (lv_at hl 5 rfl) ?_
                refine lv_sipush (v := (-32603)) hx hb d_M_run_196 (by decide) ?_
                obtain ⟨qJ81, hm, hLJ81, hR82⟩ := jn_u hm
                have hJ81 : ∀ (x83 : Int32), qJ81 = .inl x83 → ∀ (H : Heap) (locs : List Loc) (ls : Array Slot), lv_has ls 6 [(0, .ref h), (1, .int v1), (2, .int x13), (3, .int x15), (4, .int x77), (5, .int x80)] → St dC dI A s.heap H locs (oW 0 h ksM spM tk L g1 a rw) → W p l e (rmo 2 51) s m args below meth c H locs 0 0 (MQ below (QI dC dI A r0 (oW 0 h ksM spM tk L g0 a0 rw)) args s 0 0 A) (F0 m 207 ls [.int x83, .int x80, .int 1, .ref h]) := by
                  intro x83 hq H locs ls hl hst
                  have hm := hLJ81 _ hq
                  refine lv_iload hx hb d_M_run_207 (lv_at hl 4 rfl) ?_
                  obtain ⟨⟨g86, a87⟩, hc88, hm⟩ := bd_u hm
                  dsimp only at hm
                  refine cl_vv hx hb hml hown hG hg (cM_respond l dC dI tk A h L g1 a rw n 1 x80 x83 x77 _ _ hc88) (cw_v 4 hG k_1211 k_1213 s_37 k_14 k_1214 (by decide +kernel) ⟨by decide, by decide⟩) hst rfl oW_0 rfl hl.1 rfl (Nat.le_of_ble_eq_true rfl) ⟨Nat.le_refl 0, Nat.le_refl 0⟩ d_M_run_209 (fun H locs hst => ?_)
                  refine lv_aload_n hx hb d_M_run_212 rfl (lv_at hl 0 rfl) ?_
                  refine lv_iload_n hx hb d_M_run_213 rfl (lv_at hl 1 rfl) ?_
                  obtain ⟨⟨g90, a91⟩, hc92, hm⟩ := bd_u hm
                  dsimp only at hm
                  refine cl_vv hx hb hml hown hG hg (cM_remove l dC dI tk A h L g86 a87 rw n v1 _ _ hc92) (cw_v 1 hG k_1295 k_1297 s_56 k_14 k_1298 (by decide +kernel) ⟨by decide, by decide⟩) hst rfl oW_0 rfl hl.1 rfl (Nat.le_of_ble_eq_true rfl) ⟨Nat.le_refl 0, Nat.le_refl 0⟩ d_M_run_214 (fun H locs hst => ?_)
                  refine lv_iload hx hb d_M_run_217 (lv_at hl 5 rfl) ?_
                  have he := (hR3 _ (Option.some.inj hm).symm)
                  cases he
                  exact rt_i hx hb hr hlk rfl hst rfl d_M_run_219
                refine lv_icmp_eq (tgt := 206) hx hb d_M_run_199 (by decide) (fun h93 => ?_) (fun h93 => ?_)
                · have hm := it_t hm h93
                  refine lv_iconst (v := 0) hx hb d_M_run_206 (by decide) ?_
                  exact hJ81 0 (Option.some.inj hm).symm _ _ _ (lv_sub hl [1, 2, 3, 4, 5, 0] rfl) hst
                · have hm := it_f hm h93
                  refine lv_iconst (v := 1) hx hb d_M_run_202 (by decide) ?_
                  refine lv_goto (tgt := 207) hx hb d_M_run_203 (by decide) ?_
                  exact hJ81 1 (Option.some.inj hm).symm _ _ _ (lv_sub hl [1, 2, 3, 4, 5, 0] rfl) hst
              refine lp_u (fun q96 : Int32 × Int32 => ∀ (H : Heap) (locs : List Loc) (ls : Array Slot), lv_has ls 6 [(0, .ref h), (1, .int v1), (2, .int x13), (3, .int x15), (4, .int q96.1), (5, .int q96.2)] → St dC dI A s.heap H locs (oW 0 h ksM spM tk L g1 a rw) → W p l e (rmo 2 51) s m args below meth c H locs 0 0 (MQ below (QI dC dI A r0 (oW 0 h ksM spM tk L g0 a0 rw)) args s 0 0 A) (F0 m 134 ls [])) ?_ n ((-32603), x74) hm _ _ _ (lv_sub hl [2, 3, 4, 5, 1, 0] rfl) hst
              rintro ⟨x94, x95⟩ r99 hm hJ970 hR98 H locs ls hl hst
              dsimp only at hm hl hst ⊢
              have hJ97 := fun y0 y1 (e : r99 = .inl (y0, y1)) => hJ970 (y0, y1) e
              dsimp only at hJ97
              refine lv_iload hx hb d_M_run_134 (lv_at hl 5 rfl) ?_
              refine lv_if_lt (tgt := 182) hx hb d_M_run_136 (by decide) (fun h100 => ?_) (fun h100 => ?_)
              · have hm := it_t hm h100
                exact hJ75 x94 (hR98 _ (Option.some.inj hm).symm).symm _ _ _ (lv_sub hl [0, 1, 2, 3, 4] rfl) hst
              · have hm := it_f hm h100
                refine lv_aload_n hx hb d_M_run_139 rfl (lv_at hl 0 rfl) ?_
                refine ro_geta hx hb hown hG hg cM hst 33 17 (by decide) rfl rfl k_1047 d_M_run_140 ?_
                refine lv_iload_n hx hb d_M_run_143 rfl (lv_at hl 1 rfl) ?_
                obtain ⟨hn101, hm⟩ := gd_u hm
                refine ro_iald hx hb hg hst 17 rfl hn101 d_M_run_144 ?_
                refine lv_topi (fun x102 ex102 => ?_)
                have hm := lt_u hm x102 ex102
                refine lv_iconst (v := 1) hx hb d_M_run_145 (by decide) ?_
                refine lv_icmp_ne (tgt := 182) hx hb d_M_run_146 (by decide) (fun h103 => ?_) (fun h103 => ?_)
                · have hm := it_f hm h103
                  exact hJ75 x94 (hR98 _ (Option.some.inj hm).symm).symm _ _ _ (lv_sub hl [0, 1, 2, 3, 4] rfl) hst
                · have hm := it_t hm h103
                  refine lv_aload_n hx hb d_M_run_149 rfl (lv_at hl 0 rfl) ?_
                  refine ro_geta hx hb hown hG hg cM hst 37 21 (by decide) rfl rfl k_1051 d_M_run_150 ?_
                  refine lv_iload_n hx hb d_M_run_153 rfl (lv_at hl 2 rfl) ?_
                  refine lv_iload hx hb d_M_run_154 (lv_at hl 5 rfl) ?_
                  refine lv_iadd hx hb d_M_run_156 ?_
                  obtain ⟨hn104, hm⟩ := gd_u hm
                  refine ro_iald hx hb hg hst 21 rfl hn104 d_M_run_157 ?_
                  refine lv_topi (fun x105 ex105 => ?_)
                  have hm := lt_u hm x105 ex105
                  refine lv_aload_n hx hb d_M_run_158 rfl (lv_at hl 0 rfl) ?_
                  refine ro_geta hx hb hown hG hg cM hst 34 18 (by decide) rfl rfl k_1048 d_M_run_159 ?_
                  refine lv_iload_n hx hb d_M_run_162 rfl (lv_at hl 1 rfl) ?_
                  obtain ⟨hn106, hm⟩ := gd_u hm
                  refine ro_iald hx hb hg hst 18 rfl hn106 d_M_run_163 ?_
                  refine lv_topi (fun x107 ex107 => ?_)
                  have hm := lt_u hm x107 ex107
                  refine lv_icmp_ne (tgt := 172) hx hb d_M_run_164 (by decide) (fun h108 => ?_) (fun h108 => ?_)
                  · have hm := it_f hm h108
                    refine lv_iload hx hb d_M_run_172 (lv_at hl 4 rfl) ?_
                    refine lv_istore (lv' := [(4, .int x94), (0, .ref h), (1, .int v1), (2, .int x13), (3, .int x15), (5, .int x95)]) hx hb d_M_run_174 hl (by decide) rfl (fun ls hl => ?_)
                    refine lv_iinc (k := 5) (v := (x95 + (-1))) (lv' := [(5, .int (x95 + (-1))), (4, .int x94), (0, .ref h), (1, .int v1), (2, .int x13), (3, .int x15)]) hx hb d_M_run_176 hl rfl (by rfl) (by decide) rfl (fun ls hl => ?_)
                    refine lv_goto (tgt := 134) hx hb d_M_run_179 (by decide) ?_
                    exact hJ97 x94 (x95 + (-1)) (Option.some.inj hm).symm _ _ _ (lv_sub hl [2, 3, 4, 5, 1, 0] rfl) hst
                  · have hm := it_t hm h108
                    refine lv_iload hx hb d_M_run_167 (lv_at hl 5 rfl) ?_
                    refine lv_goto (tgt := 174) hx hb d_M_run_169 (by decide) ?_
                    refine lv_istore (lv' := [(4, .int x95), (0, .ref h), (1, .int v1), (2, .int x13), (3, .int x15), (5, .int x95)]) hx hb d_M_run_174 hl (by decide) rfl (fun ls hl => ?_)
                    refine lv_iinc (k := 5) (v := (x95 + (-1))) (lv' := [(5, .int (x95 + (-1))), (4, .int x95), (0, .ref h), (1, .int v1), (2, .int x13), (3, .int x15)]) hx hb d_M_run_176 hl rfl (by rfl) (by decide) rfl (fun ls hl => ?_)
                    refine lv_goto (tgt := 134) hx hb d_M_run_179 (by decide) ?_
                    exact hJ97 x95 (x95 + (-1)) (Option.some.inj hm).symm _ _ _ (lv_sub hl [2, 3, 4, 5, 1, 0] rfl) hst
            · have hm := it_f hm h73
              refine lv_aload_n hx hb d_M_run_112 rfl (lv_at hl 1 rfl) ?_
              refine ro_geta hx hb hown hG hg cM hst 37 21 (by decide) rfl rfl k_1051 d_M_run_113 ?_
              refine lv_iload_n hx hb d_M_run_116 rfl (lv_at hl 3 rfl) ?_
              refine lv_iload hx hb d_M_run_117 (lv_at hl 0 rfl) ?_
              refine lv_iadd hx hb d_M_run_119 ?_
              obtain ⟨hn109, hm⟩ := gd_u hm
              refine ro_iald hx hb hg hst 21 rfl hn109 d_M_run_120 ?_
              refine lv_topi (fun x110 ex110 => ?_)
              have hm := lt_u hm x110 ex110
              refine lv_goto (tgt := 127) hx hb d_M_run_121 (by decide) ?_
              refine lv_istore (lv' := [(4, .int x110), (5, .int x71), (0, .ref h), (1, .int v1), (2, .int x13), (3, .int x15)]) hx hb d_M_run_127 hl (by decide) rfl (fun ls hl => ?_)
              refine lv_iload_n hx hb d_M_run_129 rfl (lv_at hl 5 rfl) ?_
              refine lv_iconst (v := 1) hx hb d_M_run_130 (by decide) ?_
              refine lv_isub hx hb d_M_run_131 ?_
              refine lv_topi (fun x111 ex111 => ?_)
              have hm := lt_u hm x111 ex111
              refine lv_istore (lv' := [(5, .int x111), (4, .int x110), (0, .ref h), (1, .int v1), (2, .int x13), (3, .int x15)]) hx hb d_M_run_132 hl (by decide) rfl (fun ls hl => ?_)
              obtain ⟨qJ112, hm, hLJ112, hR113⟩ := jn_u hm
              have hJ112 : ∀ (x114 : Int32), qJ112 = .inl x114 → ∀ (H : Heap) (locs : List Loc) (ls : Array Slot), lv_has ls 6 [(0, .ref h), (1, .int v1), (2, .int x13), (3, .int x15), (4, .int x114)] → St dC dI A s.heap H locs (oW 0 h ksM spM tk L g1 a rw) → W p l e (rmo 2 51) s m args below meth c H locs 0 0 (MQ below (QI dC dI A r0 (oW 0 h ksM spM tk L g0 a0 rw)) args s 0 0 A) (F0 m 182 ls []) := by
                intro x114 hq H locs ls hl hst
                have hm := hLJ112 _ hq
                refine lv_aload_n hx hb d_M_run_182 rfl (lv_at hl 0 rfl) ?_
                refine ro_geta hx hb hown hG hg cM hst 32 16 (by decide) rfl rfl k_1046 d_M_run_183 ?_
                refine lv_iload_n hx hb d_M_run_186 rfl (lv_at hl 1 rfl) ?_
                obtain ⟨hn116, hm⟩ := gd_u hm
                refine ro_iald hx hb hg hst 16 rfl hn116 d_M_run_187 ?_
                refine lv_topi (fun x117 ex117 => ?_)
                have hm := lt_u hm x117 ex117
                refine lv_istore (lv' := [(5, .int x117), (0, .ref h), (1, .int v1), (2, .int x13), (3, .int x15), (4, .int x114)]) hx hb d_M_run_188 hl (by decide) rfl (fun ls hl => ?_)
                refine lv_aload_n hx hb d_M_run_190 rfl (lv_at hl 1 rfl) ?_
                refine lv_iconst (v := 1) hx hb d_M_run_191 (by decide) ?_
                refine lv_iload hx hb d_M_run_192 (lv_at hl 0 rfl) ?_
                refine lv_iload hx hb d_M_run_194 (lv_at hl 5 rfl) ?_
                refine lv_sipush (v := (-32603)) hx hb d_M_run_196 (by decide) ?_
                obtain ⟨qJ118, hm, hLJ118, hR119⟩ := jn_u hm
                have hJ118 : ∀ (x120 : Int32), qJ118 = .inl x120 → ∀ (H : Heap) (locs : List Loc) (ls : Array Slot), lv_has ls 6 [(0, .ref h), (1, .int v1), (2, .int x13), (3, .int x15), (4, .int x114), (5, .int x117)] → St dC dI A s.heap H locs (oW 0 h ksM spM tk L g1 a rw) → W p l e (rmo 2 51) s m args below meth c H locs 0 0 (MQ below (QI dC dI A r0 (oW 0 h ksM spM tk L g0 a0 rw)) args s 0 0 A) (F0 m 207 ls [.int x120, .int x117, .int 1, .ref h]) := by
                  intro x120 hq H locs ls hl hst
                  have hm := hLJ118 _ hq
                  refine lv_iload hx hb d_M_run_207 (lv_at hl 4 rfl) ?_
                  obtain ⟨⟨g123, a124⟩, hc125, hm⟩ := bd_u hm
                  dsimp only at hm
                  refine cl_vv hx hb hml hown hG hg (cM_respond l dC dI tk A h L g1 a rw n 1 x117 x120 x114 _ _ hc125) (cw_v 4 hG k_1211 k_1213 s_37 k_14 k_1214 (by decide +kernel) ⟨by decide, by decide⟩) hst rfl oW_0 rfl hl.1 rfl (Nat.le_of_ble_eq_true rfl) ⟨Nat.le_refl 0, Nat.le_refl 0⟩ d_M_run_209 (fun H locs hst => ?_)
                  refine lv_aload_n hx hb d_M_run_212 rfl (lv_at hl 0 rfl) ?_
                  refine lv_iload_n hx hb d_M_run_213 rfl (lv_at hl 1 rfl) ?_
                  obtain ⟨⟨g127, a128⟩, hc129, hm⟩ := bd_u hm
                  dsimp only at hm
                  refine cl_vv hx hb hml hown hG hg (cM_remove l dC dI tk A h L g123 a124 rw n v1 _ _ hc129) (cw_v 1 hG k_1295 k_1297 s_56 k_14 k_1298 (by decide +kernel) ⟨by decide, by decide⟩) hst rfl oW_0 rfl hl.1 rfl (Nat.le_of_ble_eq_true rfl) ⟨Nat.le_refl 0, Nat.le_refl 0⟩ d_M_run_214 (fun H locs hst => ?_)
                  refine lv_iload hx hb d_M_run_217 (lv_at hl 5 rfl) ?_
                  have he := (hR3 _ (Option.some.inj hm).symm)
                  cases he
                  exact rt_i hx hb hr hlk rfl hst rfl d_M_run_219
                refine lv_icmp_eq (tgt := 206) hx hb d_M_run_199 (by decide) (fun h130 => ?_) (fun h130 => ?_)
                · have hm := it_t hm h130
                  refine lv_iconst (v := 0) hx hb d_M_run_206 (by decide) ?_
                  exact hJ118 0 (Option.some.inj hm).symm _ _ _ (lv_sub hl [1, 2, 3, 4, 5, 0] rfl) hst
                · have hm := it_f hm h130
                  refine lv_iconst (v := 1) hx hb d_M_run_202 (by decide) ?_
                  refine lv_goto (tgt := 207) hx hb d_M_run_203 (by decide) ?_
                  exact hJ118 1 (Option.some.inj hm).symm _ _ _ (lv_sub hl [1, 2, 3, 4, 5, 0] rfl) hst
              refine lp_u (fun q133 : Int32 × Int32 => ∀ (H : Heap) (locs : List Loc) (ls : Array Slot), lv_has ls 6 [(0, .ref h), (1, .int v1), (2, .int x13), (3, .int x15), (4, .int q133.1), (5, .int q133.2)] → St dC dI A s.heap H locs (oW 0 h ksM spM tk L g1 a rw) → W p l e (rmo 2 51) s m args below meth c H locs 0 0 (MQ below (QI dC dI A r0 (oW 0 h ksM spM tk L g0 a0 rw)) args s 0 0 A) (F0 m 134 ls [])) ?_ n (x110, x111) hm _ _ _ (lv_sub hl [2, 3, 4, 5, 1, 0] rfl) hst
              rintro ⟨x131, x132⟩ r136 hm hJ1340 hR135 H locs ls hl hst
              dsimp only at hm hl hst ⊢
              have hJ134 := fun y0 y1 (e : r136 = .inl (y0, y1)) => hJ1340 (y0, y1) e
              dsimp only at hJ134
              refine lv_iload hx hb d_M_run_134 (lv_at hl 5 rfl) ?_
              refine lv_if_lt (tgt := 182) hx hb d_M_run_136 (by decide) (fun h137 => ?_) (fun h137 => ?_)
              · have hm := it_t hm h137
                exact hJ112 x131 (hR135 _ (Option.some.inj hm).symm).symm _ _ _ (lv_sub hl [0, 1, 2, 3, 4] rfl) hst
              · have hm := it_f hm h137
                refine lv_aload_n hx hb d_M_run_139 rfl (lv_at hl 0 rfl) ?_
                refine ro_geta hx hb hown hG hg cM hst 33 17 (by decide) rfl rfl k_1047 d_M_run_140 ?_
                refine lv_iload_n hx hb d_M_run_143 rfl (lv_at hl 1 rfl) ?_
                obtain ⟨hn138, hm⟩ := gd_u hm
                refine ro_iald hx hb hg hst 17 rfl hn138 d_M_run_144 ?_
                refine lv_topi (fun x139 ex139 => ?_)
                have hm := lt_u hm x139 ex139
                refine lv_iconst (v := 1) hx hb d_M_run_145 (by decide) ?_
                refine lv_icmp_ne (tgt := 182) hx hb d_M_run_146 (by decide) (fun h140 => ?_) (fun h140 => ?_)
                · have hm := it_f hm h140
                  exact hJ112 x131 (hR135 _ (Option.some.inj hm).symm).symm _ _ _ (lv_sub hl [0, 1, 2, 3, 4] rfl) hst
                · have hm := it_t hm h140
                  refine lv_aload_n hx hb d_M_run_149 rfl (lv_at hl 0 rfl) ?_
                  refine ro_geta hx hb hown hG hg cM hst 37 21 (by decide) rfl rfl k_1051 d_M_run_150 ?_
                  refine lv_iload_n hx hb d_M_run_153 rfl (lv_at hl 2 rfl) ?_
                  refine lv_iload hx hb d_M_run_154 (lv_at hl 5 rfl) ?_
                  refine lv_iadd hx hb d_M_run_156 ?_
                  obtain ⟨hn141, hm⟩ := gd_u hm
                  refine ro_iald hx hb hg hst 21 rfl hn141 d_M_run_157 ?_
                  refine lv_topi (fun x142 ex142 => ?_)
                  have hm := lt_u hm x142 ex142
                  refine lv_aload_n hx hb d_M_run_158 rfl (lv_at hl 0 rfl) ?_
                  refine ro_geta hx hb hown hG hg cM hst 34 18 (by decide) rfl rfl k_1048 d_M_run_159 ?_
                  refine lv_iload_n hx hb d_M_run_162 rfl (lv_at hl 1 rfl) ?_
                  obtain ⟨hn143, hm⟩ := gd_u hm
                  refine ro_iald hx hb hg hst 18 rfl hn143 d_M_run_163 ?_
                  refine lv_topi (fun x144 ex144 => ?_)
                  have hm := lt_u hm x144 ex144
                  refine lv_icmp_ne (tgt := 172) hx hb d_M_run_164 (by decide) (fun h145 => ?_) (fun h145 => ?_)
                  · have hm := it_f hm h145
                    refine lv_iload hx hb d_M_run_172 (lv_at hl 4 rfl) ?_
                    refine lv_istore (lv' := [(4, .int x131), (0, .ref h), (1, .int v1), (2, .int x13), (3, .int x15), (5, .int x132)]) hx hb d_M_run_174 hl (by decide) rfl (fun ls hl => ?_)
                    refine lv_iinc (k := 5) (v := (x132 + (-1))) (lv' := [(5, .int (x132 + (-1))), (4, .int x131), (0, .ref h), (1, .int v1), (2, .int x13), (3, .int x15)]) hx hb d_M_run_176 hl rfl (by rfl) (by decide) rfl (fun ls hl => ?_)
                    refine lv_goto (tgt := 134) hx hb d_M_run_179 (by decide) ?_
                    exact hJ134 x131 (x132 + (-1)) (Option.some.inj hm).symm _ _ _ (lv_sub hl [2, 3, 4, 5, 1, 0] rfl) hst
                  · have hm := it_t hm h145
                    refine lv_iload hx hb d_M_run_167 (lv_at hl 5 rfl) ?_
                    refine lv_goto (tgt := 174) hx hb d_M_run_169 (by decide) ?_
                    refine lv_istore (lv' := [(4, .int x132), (0, .ref h), (1, .int v1), (2, .int x13), (3, .int x15), (5, .int x132)]) hx hb d_M_run_174 hl (by decide) rfl (fun ls hl => ?_)
                    refine lv_iinc (k := 5) (v := (x132 + (-1))) (lv' := [(5, .int (x132 + (-1))), (4, .int x132), (0, .ref h), (1, .int v1), (2, .int x13), (3, .int x15)]) hx hb d_M_run_176 hl rfl (by rfl) (by decide) rfl (fun ls hl => ?_)
                    refine lv_goto (tgt := 134) hx hb d_M_run_179 (by decide) ?_
                    exact hJ134 x132 (x132 + (-1)) (Option.some.inj hm).symm _ _ _ (lv_sub hl [2, 3, 4, 5, 1, 0] rfl) hst
        refine lv_icmp_ne (tgt := 73) hx hb d_M_run_59 (by decide) (fun h146 => ?_) (fun h146 => ?_)
        · have hm := it_f hm h146
          exact hJ24 x20 (Option.some.inj hm).symm _ _ _ (lv_sub hl [0, 1, 2, 3, 4] rfl) hst
        · have hm := it_t hm h146
          refine lv_aload_n hx hb d_M_run_62 rfl (lv_at hl 0 rfl) ?_
          refine ro_geta hx hb hown hG hg cM hst 37 21 (by decide) rfl rfl k_1051 d_M_run_63 ?_
          refine lv_iload_n hx hb d_M_run_66 rfl (lv_at hl 2 rfl) ?_
          refine lv_iload_n hx hb d_M_run_67 rfl (lv_at hl 3 rfl) ?_
          obtain ⟨x148, hc149, hm⟩ := bd_u hm
          refine cl_si hx hb hml hown hG hg (cM_linesOf l dC dI tk A h L g1 a rw n 21 480 rfl x13 x15 _ hc149) (cw_s 3 hG k_1287 k_1288 k_14 k_1289 (by decide +kernel) ⟨by decide, by decide⟩) hst rfl hl.1 rfl (Nat.le_of_ble_eq_true rfl) ⟨Nat.le_refl 0, Nat.le_refl 0⟩ d_M_run_68 (fun H locs hst => ?_)
          refine lv_istore (lv' := [(4, .int x148), (0, .ref h), (1, .int v1), (2, .int x13), (3, .int x15)]) hx hb d_M_run_71 hl (by decide) rfl (fun ls hl => ?_)
          exact hJ24 x148 (Option.some.inj hm).symm _ _ _ (lv_sub hl [1, 2, 3, 4, 0] rfl) hst
      refine lv_if_ne (tgt := 52) hx hb d_M_run_46 (by decide) (fun h150 => ?_) (fun h150 => ?_)
      · have hm := it_f hm h150
        exact hJ18 (-32603) (Option.some.inj hm).symm _ _ _ (lv_sub hl [3, 4, 2, 1, 0] rfl) hst
      · have hm := it_t hm h150
        refine lv_iload_n hx hb d_M_run_49 rfl (lv_at hl 1 rfl) ?_
        refine lv_istore (lv' := [(4, .int x15), (3, .int x15), (2, .int x13), (0, .ref h), (1, .int v1)]) hx hb d_M_run_50 hl (by decide) rfl (fun ls hl => ?_)
        exact hJ18 x15 (Option.some.inj hm).symm _ _ _ (lv_sub hl [3, 4, 2, 1, 0] rfl) hst
    · have hm := it_f hm h12
      exact hJ2 g1 a (Option.some.inj hm).symm _ _ _ (lv_sub hl [0, 1] rfl) hst
def mM_state (n : Nat) (g : aG) (a : aA) : Option (Int32 × aG) := lt (va_up g 45 0) (fun g1 => some (((g1 0), g1)))
theorem d_M_state_0 : decode prog_11_method_43_code 0 = .ok (.aload_n 0, 1) := by decide +kernel
theorem d_M_state_1 : decode prog_11_method_43_code 1 = .ok (.iconst 0, 1) := by decide +kernel
theorem d_M_state_2 : decode prog_11_method_43_code 2 = .ok (.putfield 92, 3) := by decide +kernel
theorem d_M_state_5 : decode prog_11_method_43_code 5 = .ok (.aload_n 0, 1) := by decide +kernel
theorem d_M_state_6 : decode prog_11_method_43_code 6 = .ok (.getfield 96, 3) := by decide +kernel
theorem d_M_state_9 : decode prog_11_method_43_code 9 = .ok (.ireturn, 1) := by decide +kernel
set_option maxHeartbeats 4000000 in
set_option maxRecDepth 100000 in
theorem cM_state (l : Launch) (dC : Nat → ClassId) (dI : Nat → Nat → Nat) (tk : Nat → ClassId) (A : Nat → Prop) (h : Nat) (L : Nat → Nat) (g : aG) (a : aA) (rw : va_W) (n : Nat) (r0 : Int32) (g0 : aG) (hm : mM_state n g a = some (r0, g0)) : CtI l dC dI tk A ⟨"EditorServerModel", "state", "()I"⟩ prog_11_method_43_code 1 (some .int) 0 0 [.ref h] (oW 0 h ksM spM tk L g a rw) r0 (oW 0 h ksM spM tk L g0 a rw) := by
  refine ent (by decide) (Nat.le_of_ble_eq_true rfl) ?_
  intro p e s m args below meth c hx hb hr hml hown hlk hG hg hst ls hl
  unfold mM_state at hm
  have hl : lv_has ls 1 [(0, .ref h)] := hl
  refine lv_aload_n hx hb d_M_state_0 rfl (lv_at hl 0 rfl) ?_
  refine lv_iconst (v := 0) hx hb d_M_state_1 (by decide) ?_
  refine ro_puti hx hb hown hG hg cM hst 45 (by decide) rfl rfl rfl rfl rfl k_1059 d_M_state_2 (fun g1 H locs eg1 hst => ?_)
  have hm := lt_u hm g1 eg1
  refine lv_aload_n hx hb d_M_state_5 rfl (lv_at hl 0 rfl) ?_
  refine ro_geti hx hb hown hG hg cM hst 0 (by decide) rfl rfl k_1014 d_M_state_6 ?_
  have he := (Option.some.inj hm)
  cases he
  exact rt_i hx hb hr hlk rfl hst rfl d_M_state_9
def mM_code (n : Nat) (g : aG) (a : aA) : Option (Int32 × aG) := lt (va_up g 45 0) (fun g1 => if (g1 0) = 3 then (some (((g1 1), g1))) else (some (((-1), g1))))
theorem d_M_code_0 : decode prog_11_method_44_code 0 = .ok (.aload_n 0, 1) := by decide +kernel
theorem d_M_code_1 : decode prog_11_method_44_code 1 = .ok (.iconst 0, 1) := by decide +kernel
theorem d_M_code_2 : decode prog_11_method_44_code 2 = .ok (.putfield 92, 3) := by decide +kernel
theorem d_M_code_5 : decode prog_11_method_44_code 5 = .ok (.aload_n 0, 1) := by decide +kernel
theorem d_M_code_6 : decode prog_11_method_44_code 6 = .ok (.getfield 96, 3) := by decide +kernel
theorem d_M_code_9 : decode prog_11_method_44_code 9 = .ok (.iconst 3, 1) := by decide +kernel
theorem d_M_code_10 : decode prog_11_method_44_code 10 = .ok (.if_icmp .ne 10, 3) := by decide +kernel
theorem d_M_code_13 : decode prog_11_method_44_code 13 = .ok (.aload_n 0, 1) := by decide +kernel
theorem d_M_code_14 : decode prog_11_method_44_code 14 = .ok (.getfield 231, 3) := by decide +kernel
theorem d_M_code_17 : decode prog_11_method_44_code 17 = .ok (.goto 4, 3) := by decide +kernel
theorem d_M_code_20 : decode prog_11_method_44_code 20 = .ok (.iconst (-1), 1) := by decide +kernel
theorem d_M_code_21 : decode prog_11_method_44_code 21 = .ok (.ireturn, 1) := by decide +kernel
set_option maxHeartbeats 4000000 in
set_option maxRecDepth 100000 in
theorem cM_code (l : Launch) (dC : Nat → ClassId) (dI : Nat → Nat → Nat) (tk : Nat → ClassId) (A : Nat → Prop) (h : Nat) (L : Nat → Nat) (g : aG) (a : aA) (rw : va_W) (n : Nat) (r0 : Int32) (g0 : aG) (hm : mM_code n g a = some (r0, g0)) : CtI l dC dI tk A ⟨"EditorServerModel", "code", "()I"⟩ prog_11_method_44_code 1 (some .int) 0 0 [.ref h] (oW 0 h ksM spM tk L g a rw) r0 (oW 0 h ksM spM tk L g0 a rw) := by
  refine ent (by decide) (Nat.le_of_ble_eq_true rfl) ?_
  intro p e s m args below meth c hx hb hr hml hown hlk hG hg hst ls hl
  unfold mM_code at hm
  have hl : lv_has ls 1 [(0, .ref h)] := hl
  refine lv_aload_n hx hb d_M_code_0 rfl (lv_at hl 0 rfl) ?_
  refine lv_iconst (v := 0) hx hb d_M_code_1 (by decide) ?_
  refine ro_puti hx hb hown hG hg cM hst 45 (by decide) rfl rfl rfl rfl rfl k_1059 d_M_code_2 (fun g1 H locs eg1 hst => ?_)
  have hm := lt_u hm g1 eg1
  refine lv_aload_n hx hb d_M_code_5 rfl (lv_at hl 0 rfl) ?_
  refine ro_geti hx hb hown hG hg cM hst 0 (by decide) rfl rfl k_1014 d_M_code_6 ?_
  refine lv_iconst (v := 3) hx hb d_M_code_9 (by decide) ?_
  refine lv_icmp_ne (tgt := 20) hx hb d_M_code_10 (by decide) (fun h2 => ?_) (fun h2 => ?_)
  · have hm := it_f hm h2
    refine lv_iconst (v := (-1)) hx hb d_M_code_20 (by decide) ?_
    have he := (Option.some.inj hm)
    cases he
    exact rt_i hx hb hr hlk rfl hst rfl d_M_code_21
  · have hm := it_t hm h2
    refine lv_aload_n hx hb d_M_code_13 rfl (lv_at hl 0 rfl) ?_
    refine ro_geti hx hb hown hG hg cM hst 1 (by decide) rfl rfl k_1015 d_M_code_14 ?_
    refine lv_goto (tgt := 21) hx hb d_M_code_17 (by decide) ?_
    have he := (Option.some.inj hm)
    cases he
    exact rt_i hx hb hr hlk rfl hst rfl d_M_code_21
def mM_responses (n : Nat) (g : aG) (a : aA) : Option (Int32 × aG) := lt (va_up g 45 0) (fun g1 => some (((g1 38), g1)))
theorem d_M_responses_0 : decode prog_11_method_45_code 0 = .ok (.aload_n 0, 1) := by decide +kernel
theorem d_M_responses_1 : decode prog_11_method_45_code 1 = .ok (.iconst 0, 1) := by decide +kernel
theorem d_M_responses_2 : decode prog_11_method_45_code 2 = .ok (.putfield 92, 3) := by decide +kernel
theorem d_M_responses_5 : decode prog_11_method_45_code 5 = .ok (.aload_n 0, 1) := by decide +kernel
theorem d_M_responses_6 : decode prog_11_method_45_code 6 = .ok (.getfield 174, 3) := by decide +kernel
theorem d_M_responses_9 : decode prog_11_method_45_code 9 = .ok (.ireturn, 1) := by decide +kernel
set_option maxHeartbeats 4000000 in
set_option maxRecDepth 100000 in
theorem cM_responses (l : Launch) (dC : Nat → ClassId) (dI : Nat → Nat → Nat) (tk : Nat → ClassId) (A : Nat → Prop) (h : Nat) (L : Nat → Nat) (g : aG) (a : aA) (rw : va_W) (n : Nat) (r0 : Int32) (g0 : aG) (hm : mM_responses n g a = some (r0, g0)) : CtI l dC dI tk A ⟨"EditorServerModel", "responses", "()I"⟩ prog_11_method_45_code 1 (some .int) 0 0 [.ref h] (oW 0 h ksM spM tk L g a rw) r0 (oW 0 h ksM spM tk L g0 a rw) := by
  refine ent (by decide) (Nat.le_of_ble_eq_true rfl) ?_
  intro p e s m args below meth c hx hb hr hml hown hlk hG hg hst ls hl
  unfold mM_responses at hm
  have hl : lv_has ls 1 [(0, .ref h)] := hl
  refine lv_aload_n hx hb d_M_responses_0 rfl (lv_at hl 0 rfl) ?_
  refine lv_iconst (v := 0) hx hb d_M_responses_1 (by decide) ?_
  refine ro_puti hx hb hown hG hg cM hst 45 (by decide) rfl rfl rfl rfl rfl k_1059 d_M_responses_2 (fun g1 H locs eg1 hst => ?_)
  have hm := lt_u hm g1 eg1
  refine lv_aload_n hx hb d_M_responses_5 rfl (lv_at hl 0 rfl) ?_
  refine ro_geti hx hb hown hG hg cM hst 38 (by decide) rfl rfl k_1052 d_M_responses_6 ?_
  have he := (Option.some.inj hm)
  cases he
  exact rt_i hx hb hr hlk rfl hst rfl d_M_responses_9
def mM_response (n : Nat) (v1 : Int32) (v2 : Int32) (g : aG) (a : aA) : Option (Int32 × aG) := lt (va_up g 45 0) (fun g1 => jn (α := aG) (if v1 < 0 then (some (.inl g1)) else (if v1 < (g1 38) then (if v2 = 0 then (gd (inb v1 60) (lt (a 22 v1.toNatClampNeg) (fun x14 => some (.inr ((x14, g1)))))) else (if v2 = 1 then (gd (inb v1 60) (lt (a 23 v1.toNatClampNeg) (fun x17 => if x17 = 0 then (some (.inr ((0, g1)))) else (some (.inr ((1, g1))))))) else (if v2 = 2 then (gd (inb v1 60) (lt (a 24 v1.toNatClampNeg) (fun x21 => if x21 = 0 then (some (.inr ((0, g1)))) else (some (.inr ((1, g1))))))) else (if v2 = 3 then (gd (inb v1 60) (lt (a 25 v1.toNatClampNeg) (fun x25 => some (.inr ((x25, g1)))))) else (bd (mM_fail n 2 g1 a) (fun q26 => some (.inr ((q26.1, q26.2))))))))) else (some (.inl g1)))) (fun g4 => bd (mM_fail n 1 g4 a) (fun q6 => some ((q6.1, q6.2)))))
theorem d_M_response_0 : decode prog_11_method_46_code 0 = .ok (.aload_n 0, 1) := by decide +kernel
theorem d_M_response_1 : decode prog_11_method_46_code 1 = .ok (.iconst 0, 1) := by decide +kernel
theorem d_M_response_2 : decode prog_11_method_46_code 2 = .ok (.putfield 92, 3) := by decide +kernel
theorem d_M_response_5 : decode prog_11_method_46_code 5 = .ok (.iload_n 1, 1) := by decide +kernel
theorem d_M_response_6 : decode prog_11_method_46_code 6 = .ok (.ifCond .lt 11, 3) := by decide +kernel
theorem d_M_response_9 : decode prog_11_method_46_code 9 = .ok (.iload_n 1, 1) := by decide +kernel
theorem d_M_response_10 : decode prog_11_method_46_code 10 = .ok (.aload_n 0, 1) := by decide +kernel
theorem d_M_response_11 : decode prog_11_method_46_code 11 = .ok (.getfield 174, 3) := by decide +kernel
theorem d_M_response_14 : decode prog_11_method_46_code 14 = .ok (.if_icmp .lt 9, 3) := by decide +kernel
theorem d_M_response_17 : decode prog_11_method_46_code 17 = .ok (.aload_n 0, 1) := by decide +kernel
theorem d_M_response_18 : decode prog_11_method_46_code 18 = .ok (.iconst 1, 1) := by decide +kernel
theorem d_M_response_19 : decode prog_11_method_46_code 19 = .ok (.invokevirtual 270, 3) := by decide +kernel
theorem d_M_response_22 : decode prog_11_method_46_code 22 = .ok (.ireturn, 1) := by decide +kernel
theorem d_M_response_23 : decode prog_11_method_46_code 23 = .ok (.iload_n 2, 1) := by decide +kernel
theorem d_M_response_24 : decode prog_11_method_46_code 24 = .ok (.tableswitch 76 0 3 #[32, 39, 54, 69], 32) := by decide +kernel
theorem d_M_response_56 : decode prog_11_method_46_code 56 = .ok (.aload_n 0, 1) := by decide +kernel
theorem d_M_response_57 : decode prog_11_method_46_code 57 = .ok (.getfield 76, 3) := by decide +kernel
theorem d_M_response_60 : decode prog_11_method_46_code 60 = .ok (.iload_n 1, 1) := by decide +kernel
theorem d_M_response_61 : decode prog_11_method_46_code 61 = .ok (.iaload, 1) := by decide +kernel
theorem d_M_response_62 : decode prog_11_method_46_code 62 = .ok (.ireturn, 1) := by decide +kernel
theorem d_M_response_63 : decode prog_11_method_46_code 63 = .ok (.aload_n 0, 1) := by decide +kernel
theorem d_M_response_64 : decode prog_11_method_46_code 64 = .ok (.getfield 79, 3) := by decide +kernel
theorem d_M_response_67 : decode prog_11_method_46_code 67 = .ok (.iload_n 1, 1) := by decide +kernel
theorem d_M_response_68 : decode prog_11_method_46_code 68 = .ok (.baload, 1) := by decide +kernel
theorem d_M_response_69 : decode prog_11_method_46_code 69 = .ok (.ifCond .eq 7, 3) := by decide +kernel
theorem d_M_response_72 : decode prog_11_method_46_code 72 = .ok (.iconst 1, 1) := by decide +kernel
theorem d_M_response_73 : decode prog_11_method_46_code 73 = .ok (.goto 4, 3) := by decide +kernel
theorem d_M_response_76 : decode prog_11_method_46_code 76 = .ok (.iconst 0, 1) := by decide +kernel
theorem d_M_response_77 : decode prog_11_method_46_code 77 = .ok (.ireturn, 1) := by decide +kernel
theorem d_M_response_78 : decode prog_11_method_46_code 78 = .ok (.aload_n 0, 1) := by decide +kernel
theorem d_M_response_79 : decode prog_11_method_46_code 79 = .ok (.getfield 83, 3) := by decide +kernel
theorem d_M_response_82 : decode prog_11_method_46_code 82 = .ok (.iload_n 1, 1) := by decide +kernel
theorem d_M_response_83 : decode prog_11_method_46_code 83 = .ok (.baload, 1) := by decide +kernel
theorem d_M_response_84 : decode prog_11_method_46_code 84 = .ok (.ifCond .eq 7, 3) := by decide +kernel
theorem d_M_response_87 : decode prog_11_method_46_code 87 = .ok (.iconst 1, 1) := by decide +kernel
theorem d_M_response_88 : decode prog_11_method_46_code 88 = .ok (.goto 4, 3) := by decide +kernel
theorem d_M_response_91 : decode prog_11_method_46_code 91 = .ok (.iconst 0, 1) := by decide +kernel
theorem d_M_response_92 : decode prog_11_method_46_code 92 = .ok (.ireturn, 1) := by decide +kernel
theorem d_M_response_93 : decode prog_11_method_46_code 93 = .ok (.aload_n 0, 1) := by decide +kernel
theorem d_M_response_94 : decode prog_11_method_46_code 94 = .ok (.getfield 86, 3) := by decide +kernel
theorem d_M_response_97 : decode prog_11_method_46_code 97 = .ok (.iload_n 1, 1) := by decide +kernel
theorem d_M_response_98 : decode prog_11_method_46_code 98 = .ok (.iaload, 1) := by decide +kernel
theorem d_M_response_99 : decode prog_11_method_46_code 99 = .ok (.ireturn, 1) := by decide +kernel
theorem d_M_response_100 : decode prog_11_method_46_code 100 = .ok (.aload_n 0, 1) := by decide +kernel
theorem d_M_response_101 : decode prog_11_method_46_code 101 = .ok (.iconst 2, 1) := by decide +kernel
theorem d_M_response_102 : decode prog_11_method_46_code 102 = .ok (.invokevirtual 270, 3) := by decide +kernel
theorem d_M_response_105 : decode prog_11_method_46_code 105 = .ok (.ireturn, 1) := by decide +kernel
set_option maxHeartbeats 4000000 in
set_option maxRecDepth 100000 in
theorem cM_response (l : Launch) (dC : Nat → ClassId) (dI : Nat → Nat → Nat) (tk : Nat → ClassId) (A : Nat → Prop) (h : Nat) (L : Nat → Nat) (g : aG) (a : aA) (rw : va_W) (n : Nat) (v1 : Int32) (v2 : Int32) (r0 : Int32) (g0 : aG) (hm : mM_response n v1 v2 g a = some (r0, g0)) : CtI l dC dI tk A ⟨"EditorServerModel", "response", "(II)I"⟩ prog_11_method_46_code 3 (some .int) 1 21 [.ref h, .int v1, .int v2] (oW 0 h ksM spM tk L g a rw) r0 (oW 0 h ksM spM tk L g0 a rw) := by
  refine ent (by decide) (Nat.le_of_ble_eq_true rfl) ?_
  intro p e s m args below meth c hx hb hr hml hown hlk hG hg hst ls hl
  unfold mM_response at hm
  have hl : lv_has ls 3 [(0, .ref h), (1, .int v1), (2, .int v2)] := hl
  refine lv_aload_n hx hb d_M_response_0 rfl (lv_at hl 0 rfl) ?_
  refine lv_iconst (v := 0) hx hb d_M_response_1 (by decide) ?_
  refine ro_puti hx hb hown hG hg cM hst 45 (by decide) rfl rfl rfl rfl rfl k_1059 d_M_response_2 (fun g1 H locs eg1 hst => ?_)
  have hm := lt_u hm g1 eg1
  refine lv_iload_n hx hb d_M_response_5 rfl (lv_at hl 1 rfl) ?_
  obtain ⟨qJ2, hm, hLJ2, hR3⟩ := jn_u hm
  have hJ2 : ∀ (g4 : aG), qJ2 = .inl g4 → ∀ (H : Heap) (locs : List Loc) (ls : Array Slot), lv_has ls 3 [(0, .ref h), (1, .int v1), (2, .int v2)] → St dC dI A s.heap H locs (oW 0 h ksM spM tk L g4 a rw) → W p l e (rmo 1 21) s m args below meth c H locs 0 0 (MQ below (QI dC dI A r0 (oW 0 h ksM spM tk L g0 a rw)) args s 0 0 A) (F0 m 17 ls []) := by
    intro g4 hq H locs ls hl hst
    have hm := hLJ2 _ hq
    refine lv_aload_n hx hb d_M_response_17 rfl (lv_at hl 0 rfl) ?_
    refine lv_iconst (v := 1) hx hb d_M_response_18 (by decide) ?_
    obtain ⟨⟨x7, g8⟩, hc9, hm⟩ := bd_u hm
    dsimp only at hm
    refine cl_vi hx hb hml hown hG hg (cM_fail l dC dI tk A h L g4 a rw n 1 _ _ hc9) (cw_v 1 hG k_1307 k_1309 s_57 k_14 k_1310 (by decide +kernel) ⟨by decide, by decide⟩) hst rfl oW_0 rfl hl.1 rfl (Nat.le_of_ble_eq_true rfl) ⟨Nat.le_refl 0, Nat.le_refl 0⟩ d_M_response_19 (fun H locs hst => ?_)
    have he := (Option.some.inj hm)
    cases he
    exact rt_i hx hb hr hlk rfl hst rfl d_M_response_22
  refine lv_if_lt (tgt := 17) hx hb d_M_response_6 (by decide) (fun h10 => ?_) (fun h10 => ?_)
  · have hm := it_t hm h10
    exact hJ2 g1 (Option.some.inj hm).symm _ _ _ (lv_sub hl [0, 1, 2] rfl) hst
  · have hm := it_f hm h10
    refine lv_iload_n hx hb d_M_response_9 rfl (lv_at hl 1 rfl) ?_
    refine lv_aload_n hx hb d_M_response_10 rfl (lv_at hl 0 rfl) ?_
    refine ro_geti hx hb hown hG hg cM hst 38 (by decide) rfl rfl k_1052 d_M_response_11 ?_
    refine lv_icmp_lt (tgt := 23) hx hb d_M_response_14 (by decide) (fun h11 => ?_) (fun h11 => ?_)
    · have hm := it_t hm h11
      refine lv_iload_n hx hb d_M_response_23 rfl (lv_at hl 2 rfl) ?_
      by_cases h12 : v2 = 0
      · have hm := it_t hm h12
        refine lv_tableIn (off := 32) (tgt := 56) hx hb d_M_response_24 (by rw [h12]; decide) (by rw [h12]; decide) (by rw [h12]; rfl) (by decide) ?_
        refine lv_aload_n hx hb d_M_response_56 rfl (lv_at hl 0 rfl) ?_
        refine ro_geta hx hb hown hG hg cM hst 39 22 (by decide) rfl rfl k_1053 d_M_response_57 ?_
        refine lv_iload_n hx hb d_M_response_60 rfl (lv_at hl 1 rfl) ?_
        obtain ⟨hn13, hm⟩ := gd_u hm
        refine ro_iald hx hb hg hst 22 rfl hn13 d_M_response_61 ?_
        refine lv_topi (fun x14 ex14 => ?_)
        have hm := lt_u hm x14 ex14
        have he := (hR3 _ (Option.some.inj hm).symm)
        cases he
        exact rt_i hx hb hr hlk rfl hst rfl d_M_response_62
      have hm := it_f hm h12
      by_cases h15 : v2 = 1
      · have hm := it_t hm h15
        refine lv_tableIn (off := 39) (tgt := 63) hx hb d_M_response_24 (by rw [h15]; decide) (by rw [h15]; decide) (by rw [h15]; rfl) (by decide) ?_
        refine lv_aload_n hx hb d_M_response_63 rfl (lv_at hl 0 rfl) ?_
        refine ro_geta hx hb hown hG hg cM hst 40 23 (by decide) rfl rfl k_1054 d_M_response_64 ?_
        refine lv_iload_n hx hb d_M_response_67 rfl (lv_at hl 1 rfl) ?_
        obtain ⟨hn16, hm⟩ := gd_u hm
        refine ro_zald hx hb hg hst 23 rfl hn16 d_M_response_68 ?_
        refine lv_topi (fun x17 ex17 => ?_)
        have hm := lt_u hm x17 ex17
        refine lv_if_eq (tgt := 76) hx hb d_M_response_69 (by decide) (fun h18 => ?_) (fun h18 => ?_)
        · have hm := it_t hm h18
          refine lv_iconst (v := 0) hx hb d_M_response_76 (by decide) ?_
          have he := (hR3 _ (Option.some.inj hm).symm)
          cases he
          exact rt_i hx hb hr hlk rfl hst rfl d_M_response_77
        · have hm := it_f hm h18
          refine lv_iconst (v := 1) hx hb d_M_response_72 (by decide) ?_
          refine lv_goto (tgt := 77) hx hb d_M_response_73 (by decide) ?_
          have he := (hR3 _ (Option.some.inj hm).symm)
          cases he
          exact rt_i hx hb hr hlk rfl hst rfl d_M_response_77
      have hm := it_f hm h15
      by_cases h19 : v2 = 2
      · have hm := it_t hm h19
        refine lv_tableIn (off := 54) (tgt := 78) hx hb d_M_response_24 (by rw [h19]; decide) (by rw [h19]; decide) (by rw [h19]; rfl) (by decide) ?_
        refine lv_aload_n hx hb d_M_response_78 rfl (lv_at hl 0 rfl) ?_
        refine ro_geta hx hb hown hG hg cM hst 41 24 (by decide) rfl rfl k_1055 d_M_response_79 ?_
        refine lv_iload_n hx hb d_M_response_82 rfl (lv_at hl 1 rfl) ?_
        obtain ⟨hn20, hm⟩ := gd_u hm
        refine ro_zald hx hb hg hst 24 rfl hn20 d_M_response_83 ?_
        refine lv_topi (fun x21 ex21 => ?_)
        have hm := lt_u hm x21 ex21
        refine lv_if_eq (tgt := 91) hx hb d_M_response_84 (by decide) (fun h22 => ?_) (fun h22 => ?_)
        · have hm := it_t hm h22
          refine lv_iconst (v := 0) hx hb d_M_response_91 (by decide) ?_
          have he := (hR3 _ (Option.some.inj hm).symm)
          cases he
          exact rt_i hx hb hr hlk rfl hst rfl d_M_response_92
        · have hm := it_f hm h22
          refine lv_iconst (v := 1) hx hb d_M_response_87 (by decide) ?_
          refine lv_goto (tgt := 92) hx hb d_M_response_88 (by decide) ?_
          have he := (hR3 _ (Option.some.inj hm).symm)
          cases he
          exact rt_i hx hb hr hlk rfl hst rfl d_M_response_92
      have hm := it_f hm h19
      by_cases h23 : v2 = 3
      · have hm := it_t hm h23
        refine lv_tableIn (off := 69) (tgt := 93) hx hb d_M_response_24 (by rw [h23]; decide) (by rw [h23]; decide) (by rw [h23]; rfl) (by decide) ?_
        refine lv_aload_n hx hb d_M_response_93 rfl (lv_at hl 0 rfl) ?_
        refine ro_geta hx hb hown hG hg cM hst 42 25 (by decide) rfl rfl k_1056 d_M_response_94 ?_
        refine lv_iload_n hx hb d_M_response_97 rfl (lv_at hl 1 rfl) ?_
        obtain ⟨hn24, hm⟩ := gd_u hm
        refine ro_iald hx hb hg hst 25 rfl hn24 d_M_response_98 ?_
        refine lv_topi (fun x25 ex25 => ?_)
        have hm := lt_u hm x25 ex25
        have he := (hR3 _ (Option.some.inj hm).symm)
        cases he
        exact rt_i hx hb hr hlk rfl hst rfl d_M_response_99
      have hm := it_f hm h23
      refine lv_tableOut (tgt := 100) hx hb d_M_response_24 (sw_out4 h12 h15 h19 h23) (by decide) ?_
      refine lv_aload_n hx hb d_M_response_100 rfl (lv_at hl 0 rfl) ?_
      refine lv_iconst (v := 2) hx hb d_M_response_101 (by decide) ?_
      obtain ⟨⟨x27, g28⟩, hc29, hm⟩ := bd_u hm
      dsimp only at hm
      refine cl_vi hx hb hml hown hG hg (cM_fail l dC dI tk A h L g1 a rw n 2 _ _ hc29) (cw_v 1 hG k_1307 k_1309 s_57 k_14 k_1310 (by decide +kernel) ⟨by decide, by decide⟩) hst rfl oW_0 rfl hl.1 rfl (Nat.le_of_ble_eq_true rfl) ⟨Nat.le_refl 0, Nat.le_refl 0⟩ d_M_response_102 (fun H locs hst => ?_)
      have he := (hR3 _ (Option.some.inj hm).symm)
      cases he
      exact rt_i hx hb hr hlk rfl hst rfl d_M_response_105
    · have hm := it_f hm h11
      exact hJ2 g1 (Option.some.inj hm).symm _ _ _ (lv_sub hl [0, 1, 2] rfl) hst
def mM_put (n : Nat) (v1 : Int32) (g : aG) (a : aA) : Option (aG × aA) := gd (inb (g 44) 64) (lt (va_up a 26 (upd (a 26) (g 44).toNatClampNeg v1)) (fun a2 => lt (va_up g 44 ((g 44) + 1)) (fun g3 => some ((g3, a2)))))
theorem d_M_put_0 : decode prog_11_method_47_code 0 = .ok (.aload_n 0, 1) := by decide +kernel
theorem d_M_put_1 : decode prog_11_method_47_code 1 = .ok (.getfield 89, 3) := by decide +kernel
theorem d_M_put_4 : decode prog_11_method_47_code 4 = .ok (.aload_n 0, 1) := by decide +kernel
theorem d_M_put_5 : decode prog_11_method_47_code 5 = .ok (.getfield 273, 3) := by decide +kernel
theorem d_M_put_8 : decode prog_11_method_47_code 8 = .ok (.iload_n 1, 1) := by decide +kernel
theorem d_M_put_9 : decode prog_11_method_47_code 9 = .ok (.iastore, 1) := by decide +kernel
theorem d_M_put_10 : decode prog_11_method_47_code 10 = .ok (.aload_n 0, 1) := by decide +kernel
theorem d_M_put_11 : decode prog_11_method_47_code 11 = .ok (.dup, 1) := by decide +kernel
theorem d_M_put_12 : decode prog_11_method_47_code 12 = .ok (.getfield 273, 3) := by decide +kernel
theorem d_M_put_15 : decode prog_11_method_47_code 15 = .ok (.iconst 1, 1) := by decide +kernel
theorem d_M_put_16 : decode prog_11_method_47_code 16 = .ok (.iadd, 1) := by decide +kernel
theorem d_M_put_17 : decode prog_11_method_47_code 17 = .ok (.putfield 273, 3) := by decide +kernel
theorem d_M_put_20 : decode prog_11_method_47_code 20 = .ok (.return_, 1) := by decide +kernel
set_option maxHeartbeats 4000000 in
set_option maxRecDepth 100000 in
theorem cM_put (l : Launch) (dC : Nat → ClassId) (dI : Nat → Nat → Nat) (tk : Nat → ClassId) (A : Nat → Prop) (h : Nat) (L : Nat → Nat) (g : aG) (a : aA) (rw : va_W) (n : Nat) (v1 : Int32) (g0 : aG) (a0 : aA) (hm : mM_put n v1 g a = some (g0, a0)) : CtV l dC dI tk A ⟨"EditorServerModel", "put", "(I)V"⟩ prog_11_method_47_code 2 0 0 [.ref h, .int v1] (oW 0 h ksM spM tk L g a rw) (oW 0 h ksM spM tk L g0 a0 rw) := by
  refine ent (by decide) (Nat.le_of_ble_eq_true rfl) ?_
  intro p e s m args below meth c hx hb hr hml hown hlk hG hg hst ls hl
  unfold mM_put at hm
  have hl : lv_has ls 2 [(0, .ref h), (1, .int v1)] := hl
  refine lv_aload_n hx hb d_M_put_0 rfl (lv_at hl 0 rfl) ?_
  refine ro_geta hx hb hown hG hg cM hst 43 26 (by decide) rfl rfl k_1057 d_M_put_1 ?_
  refine lv_aload_n hx hb d_M_put_4 rfl (lv_at hl 0 rfl) ?_
  refine ro_geti hx hb hown hG hg cM hst 44 (by decide) rfl rfl k_1058 d_M_put_5 ?_
  refine lv_iload_n hx hb d_M_put_8 rfl (lv_at hl 1 rfl) ?_
  obtain ⟨hn1, hm⟩ := gd_u hm
  refine ro_iast hx hb hg hst 26 rfl hn1 d_M_put_9 (fun a2 H locs ea2 hst => ?_)
  have hm := lt_u hm a2 ea2
  refine lv_aload_n hx hb d_M_put_10 rfl (lv_at hl 0 rfl) ?_
  refine lv_dup hx hb d_M_put_11 rfl ?_
  refine ro_geti hx hb hown hG hg cM hst 44 (by decide) rfl rfl k_1058 d_M_put_12 ?_
  refine lv_iconst (v := 1) hx hb d_M_put_15 (by decide) ?_
  refine lv_iadd hx hb d_M_put_16 ?_
  refine ro_puti hx hb hown hG hg cM hst 44 (by decide) rfl rfl rfl rfl rfl k_1058 d_M_put_17 (fun g3 H locs eg3 hst => ?_)
  have hm := lt_u hm g3 eg3
  have he := (Option.some.inj hm)
  cases he
  exact rt_v hx hb hr hlk hst d_M_put_20
def mM_putNumber (n : Nat) (v1 : Int32) (g : aG) (a : aA) : Option (aG × aA) := jn (α := Int32) (if 0 ≤ v1 then (some (.inl v1)) else (some (.inl (-v1)))) (fun x3 => if 0 ≤ v1 then (jn (α := Int32) (lp (ε := Int32) (fun x24 => gd (decide (¬ x24 = 0)) (if (x3 / x24) ≤ 9 then (some (.inr (.inl x24))) else (lt ((x24 * 10)) (fun x31 => some (.inl x31))))) n 1) (fun x8 => lp (ε := Int32 × aG × aA) (fun q13 => if q13.1 ≤ 0 then (some (.inr ((q13.2.1, q13.2.2)))) else (gd (decide (¬ q13.1 = 0)) (bd (mM_put n (48 + ((x3 / q13.1) - (x3 / q13.1) / 10 * 10)) q13.2.1 q13.2.2) (fun q19 => lt ((q13.1 / 10)) (fun x23 => some (.inl (x23, q19.1, q19.2))))))) n (x8, g, a))) else (bd (mM_put n 45 g a) (fun q32 => jn (α := Int32) (lp (ε := Int32) (fun x54 => gd (decide (¬ x54 = 0)) (if (x3 / x54) ≤ 9 then (some (.inr (.inl x54))) else (lt ((x54 * 10)) (fun x61 => some (.inl x61))))) n 1) (fun x38 => lp (ε := Int32 × aG × aA) (fun q43 => if q43.1 ≤ 0 then (some (.inr ((q43.2.1, q43.2.2)))) else (gd (decide (¬ q43.1 = 0)) (bd (mM_put n (48 + ((x3 / q43.1) - (x3 / q43.1) / 10 * 10)) q43.2.1 q43.2.2) (fun q49 => lt ((q43.1 / 10)) (fun x53 => some (.inl (x53, q49.1, q49.2))))))) n (x38, q32.1, q32.2)))))
theorem d_M_putNumber_0 : decode prog_11_method_48_code 0 = .ok (.iload_n 1, 1) := by decide +kernel
theorem d_M_putNumber_1 : decode prog_11_method_48_code 1 = .ok (.ifCond .ge 8, 3) := by decide +kernel
theorem d_M_putNumber_4 : decode prog_11_method_48_code 4 = .ok (.iload_n 1, 1) := by decide +kernel
theorem d_M_putNumber_5 : decode prog_11_method_48_code 5 = .ok (.ineg, 1) := by decide +kernel
theorem d_M_putNumber_6 : decode prog_11_method_48_code 6 = .ok (.goto 4, 3) := by decide +kernel
theorem d_M_putNumber_9 : decode prog_11_method_48_code 9 = .ok (.iload_n 1, 1) := by decide +kernel
theorem d_M_putNumber_10 : decode prog_11_method_48_code 10 = .ok (.istore_n 2, 1) := by decide +kernel
theorem d_M_putNumber_11 : decode prog_11_method_48_code 11 = .ok (.iload_n 1, 1) := by decide +kernel
theorem d_M_putNumber_12 : decode prog_11_method_48_code 12 = .ok (.ifCond .ge 9, 3) := by decide +kernel
theorem d_M_putNumber_15 : decode prog_11_method_48_code 15 = .ok (.aload_n 0, 1) := by decide +kernel
theorem d_M_putNumber_16 : decode prog_11_method_48_code 16 = .ok (.bipush 45, 2) := by decide +kernel
theorem d_M_putNumber_18 : decode prog_11_method_48_code 18 = .ok (.invokevirtual 276, 3) := by decide +kernel
theorem d_M_putNumber_21 : decode prog_11_method_48_code 21 = .ok (.iconst 1, 1) := by decide +kernel
theorem d_M_putNumber_22 : decode prog_11_method_48_code 22 = .ok (.istore_n 3, 1) := by decide +kernel
theorem d_M_putNumber_23 : decode prog_11_method_48_code 23 = .ok (.iload_n 2, 1) := by decide +kernel
theorem d_M_putNumber_24 : decode prog_11_method_48_code 24 = .ok (.iload_n 3, 1) := by decide +kernel
theorem d_M_putNumber_25 : decode prog_11_method_48_code 25 = .ok (.idiv, 1) := by decide +kernel
theorem d_M_putNumber_26 : decode prog_11_method_48_code 26 = .ok (.bipush 9, 2) := by decide +kernel
theorem d_M_putNumber_28 : decode prog_11_method_48_code 28 = .ok (.if_icmp .le 11, 3) := by decide +kernel
theorem d_M_putNumber_31 : decode prog_11_method_48_code 31 = .ok (.iload_n 3, 1) := by decide +kernel
theorem d_M_putNumber_32 : decode prog_11_method_48_code 32 = .ok (.bipush 10, 2) := by decide +kernel
theorem d_M_putNumber_34 : decode prog_11_method_48_code 34 = .ok (.imul, 1) := by decide +kernel
theorem d_M_putNumber_35 : decode prog_11_method_48_code 35 = .ok (.istore_n 3, 1) := by decide +kernel
theorem d_M_putNumber_36 : decode prog_11_method_48_code 36 = .ok (.goto (-13), 3) := by decide +kernel
theorem d_M_putNumber_39 : decode prog_11_method_48_code 39 = .ok (.iload_n 3, 1) := by decide +kernel
theorem d_M_putNumber_40 : decode prog_11_method_48_code 40 = .ok (.istore 4, 2) := by decide +kernel
theorem d_M_putNumber_42 : decode prog_11_method_48_code 42 = .ok (.iload 4, 2) := by decide +kernel
theorem d_M_putNumber_44 : decode prog_11_method_48_code 44 = .ok (.ifCond .le 27, 3) := by decide +kernel
theorem d_M_putNumber_47 : decode prog_11_method_48_code 47 = .ok (.aload_n 0, 1) := by decide +kernel
theorem d_M_putNumber_48 : decode prog_11_method_48_code 48 = .ok (.bipush 48, 2) := by decide +kernel
theorem d_M_putNumber_50 : decode prog_11_method_48_code 50 = .ok (.iload_n 2, 1) := by decide +kernel
theorem d_M_putNumber_51 : decode prog_11_method_48_code 51 = .ok (.iload 4, 2) := by decide +kernel
theorem d_M_putNumber_53 : decode prog_11_method_48_code 53 = .ok (.idiv, 1) := by decide +kernel
theorem d_M_putNumber_54 : decode prog_11_method_48_code 54 = .ok (.bipush 10, 2) := by decide +kernel
theorem d_M_putNumber_56 : decode prog_11_method_48_code 56 = .ok (.irem, 1) := by decide +kernel
theorem d_M_putNumber_57 : decode prog_11_method_48_code 57 = .ok (.iadd, 1) := by decide +kernel
theorem d_M_putNumber_58 : decode prog_11_method_48_code 58 = .ok (.invokevirtual 276, 3) := by decide +kernel
theorem d_M_putNumber_61 : decode prog_11_method_48_code 61 = .ok (.iload 4, 2) := by decide +kernel
theorem d_M_putNumber_63 : decode prog_11_method_48_code 63 = .ok (.bipush 10, 2) := by decide +kernel
theorem d_M_putNumber_65 : decode prog_11_method_48_code 65 = .ok (.idiv, 1) := by decide +kernel
theorem d_M_putNumber_66 : decode prog_11_method_48_code 66 = .ok (.istore 4, 2) := by decide +kernel
theorem d_M_putNumber_68 : decode prog_11_method_48_code 68 = .ok (.goto (-26), 3) := by decide +kernel
theorem d_M_putNumber_71 : decode prog_11_method_48_code 71 = .ok (.return_, 1) := by decide +kernel
set_option maxHeartbeats 4000000 in
set_option maxRecDepth 100000 in
theorem cM_putNumber (l : Launch) (dC : Nat → ClassId) (dI : Nat → Nat → Nat) (tk : Nat → ClassId) (A : Nat → Prop) (h : Nat) (L : Nat → Nat) (g : aG) (a : aA) (rw : va_W) (n : Nat) (v1 : Int32) (g0 : aG) (a0 : aA) (hm : mM_putNumber n v1 g a = some (g0, a0)) : CtV l dC dI tk A ⟨"EditorServerModel", "putNumber", "(I)V"⟩ prog_11_method_48_code 5 1 21 [.ref h, .int v1] (oW 0 h ksM spM tk L g a rw) (oW 0 h ksM spM tk L g0 a0 rw) := by
  refine ent (by decide) (Nat.le_of_ble_eq_true rfl) ?_
  intro p e s m args below meth c hx hb hr hml hown hlk hG hg hst ls hl
  unfold mM_putNumber at hm
  have hl : lv_has ls 5 [(0, .ref h), (1, .int v1)] := hl
  refine lv_iload_n hx hb d_M_putNumber_0 rfl (lv_at hl 1 rfl) ?_
  obtain ⟨qJ1, hm, hLJ1, hR2⟩ := jn_u hm
  have hJ1 : ∀ (x3 : Int32), qJ1 = .inl x3 → ∀ (H : Heap) (locs : List Loc) (ls : Array Slot), lv_has ls 5 [(0, .ref h), (1, .int v1)] → St dC dI A s.heap H locs (oW 0 h ksM spM tk L g a rw) → W p l e (rmo 1 21) s m args below meth c H locs 0 0 (MQ below (QV dC dI A (oW 0 h ksM spM tk L g0 a0 rw)) args s 0 0 A) (F0 m 10 ls [.int x3]) := by
    intro x3 hq H locs ls hl hst
    have hm := hLJ1 _ hq
    refine lv_istore_n (lv' := [(2, .int x3), (0, .ref h), (1, .int v1)]) hx hb d_M_putNumber_10 rfl hl (by decide) rfl (fun ls hl => ?_)
    refine lv_iload_n hx hb d_M_putNumber_11 rfl (lv_at hl 2 rfl) ?_
    refine lv_if_ge (tgt := 21) hx hb d_M_putNumber_12 (by decide) (fun h5 => ?_) (fun h5 => ?_)
    · have hm := it_t hm h5
      refine lv_iconst (v := 1) hx hb d_M_putNumber_21 (by decide) ?_
      refine lv_istore_n (lv' := [(3, .int 1), (2, .int x3), (0, .ref h), (1, .int v1)]) hx hb d_M_putNumber_22 rfl hl (by decide) rfl (fun ls hl => ?_)
      obtain ⟨qJ6, hm, hLJ6, hR7⟩ := jn_u hm
      have hJ6 : ∀ (x8 : Int32), qJ6 = .inl x8 → ∀ (H : Heap) (locs : List Loc) (ls : Array Slot), lv_has ls 5 [(0, .ref h), (1, .int v1), (2, .int x3), (3, .int x8)] → St dC dI A s.heap H locs (oW 0 h ksM spM tk L g a rw) → W p l e (rmo 1 21) s m args below meth c H locs 0 0 (MQ below (QV dC dI A (oW 0 h ksM spM tk L g0 a0 rw)) args s 0 0 A) (F0 m 39 ls []) := by
        intro x8 hq H locs ls hl hst
        have hm := hLJ6 _ hq
        refine lv_iload_n hx hb d_M_putNumber_39 rfl (lv_at hl 3 rfl) ?_
        refine lv_istore (lv' := [(4, .int x8), (0, .ref h), (1, .int v1), (2, .int x3), (3, .int x8)]) hx hb d_M_putNumber_40 hl (by decide) rfl (fun ls hl => ?_)
        refine lp_u (fun q13 : Int32 × aG × aA => ∀ (H : Heap) (locs : List Loc) (ls : Array Slot), lv_has ls 5 [(0, .ref h), (1, .int v1), (2, .int x3), (3, .int x8), (4, .int q13.1)] → St dC dI A s.heap H locs (oW 0 h ksM spM tk L q13.2.1 q13.2.2 rw) → W p l e (rmo 1 21) s m args below meth c H locs 0 0 (MQ below (QV dC dI A (oW 0 h ksM spM tk L g0 a0 rw)) args s 0 0 A) (F0 m 42 ls [])) ?_ n (x8, g, a) hm _ _ _ (lv_sub hl [1, 2, 3, 4, 0] rfl) hst
        rintro ⟨x10, g11, a12⟩ r16 hm hJ140 hR15 H locs ls hl hst
        dsimp only at hm hl hst ⊢
        have hJ14 := fun y0 y1 y2 (e : r16 = .inl (y0, y1, y2)) => hJ140 (y0, y1, y2) e
        dsimp only at hJ14
        refine lv_iload hx hb d_M_putNumber_42 (lv_at hl 4 rfl) ?_
        refine lv_if_le (tgt := 71) hx hb d_M_putNumber_44 (by decide) (fun h17 => ?_) (fun h17 => ?_)
        · have hm := it_t hm h17
          have he := (hR15 _ (Option.some.inj hm).symm)
          cases he
          exact rt_v hx hb hr hlk hst d_M_putNumber_71
        · have hm := it_f hm h17
          refine lv_aload_n hx hb d_M_putNumber_47 rfl (lv_at hl 0 rfl) ?_
          refine lv_bipush (v := 48) hx hb d_M_putNumber_48 (by decide) ?_
          refine lv_iload_n hx hb d_M_putNumber_50 rfl (lv_at hl 2 rfl) ?_
          refine lv_iload hx hb d_M_putNumber_51 (lv_at hl 4 rfl) ?_
          obtain ⟨hn18, hm⟩ := gd_u hm
          refine lv_idiv hx hb d_M_putNumber_53 (of_decide_eq_true hn18) ?_
          refine lv_bipush (v := 10) hx hb d_M_putNumber_54 (by decide) ?_
          refine lv_irem hx hb d_M_putNumber_56 (by decide) ?_
          refine lv_iadd hx hb d_M_putNumber_57 ?_
          obtain ⟨⟨g20, a21⟩, hc22, hm⟩ := bd_u hm
          dsimp only at hm
          refine cl_vv hx hb hml hown hG hg (cM_put l dC dI tk A h L g11 a12 rw n (48 + ((x3 / x10) - (x3 / x10) / 10 * 10)) _ _ hc22) (cw_v 1 hG k_1343 k_1345 s_60 k_14 k_1346 (by decide +kernel) ⟨by decide, by decide⟩) hst rfl oW_0 rfl hl.1 rfl (Nat.le_of_ble_eq_true rfl) ⟨Nat.le_refl 0, Nat.le_refl 0⟩ d_M_putNumber_58 (fun H locs hst => ?_)
          refine lv_iload hx hb d_M_putNumber_61 (lv_at hl 4 rfl) ?_
          refine lv_bipush (v := 10) hx hb d_M_putNumber_63 (by decide) ?_
          refine lv_idiv hx hb d_M_putNumber_65 (by decide) ?_
          refine lv_topi (fun x23 ex23 => ?_)
          have hm := lt_u hm x23 ex23
          refine lv_istore (lv' := [(4, .int x23), (0, .ref h), (1, .int v1), (2, .int x3), (3, .int x8)]) hx hb d_M_putNumber_66 hl (by decide) rfl (fun ls hl => ?_)
          refine lv_goto (tgt := 42) hx hb d_M_putNumber_68 (by decide) ?_
          exact hJ14 x23 g20 a21 (Option.some.inj hm).symm _ _ _ (lv_sub hl [1, 2, 3, 4, 0] rfl) hst
      refine lp_u (fun x24 : Int32 => ∀ (H : Heap) (locs : List Loc) (ls : Array Slot), lv_has ls 5 [(0, .ref h), (1, .int v1), (2, .int x3), (3, .int x24)] → St dC dI A s.heap H locs (oW 0 h ksM spM tk L g a rw) → W p l e (rmo 1 21) s m args below meth c H locs 0 0 (MQ below (QV dC dI A (oW 0 h ksM spM tk L g0 a0 rw)) args s 0 0 A) (F0 m 23 ls [])) ?_ n 1 hm _ _ _ (lv_sub hl [2, 3, 1, 0] rfl) hst
      rintro x24 r28 hm hJ260 hR27 H locs ls hl hst
      have hJ26 := fun y0 (e : r28 = .inl y0) => hJ260 y0 e
      refine lv_iload_n hx hb d_M_putNumber_23 rfl (lv_at hl 2 rfl) ?_
      refine lv_iload_n hx hb d_M_putNumber_24 rfl (lv_at hl 3 rfl) ?_
      obtain ⟨hn29, hm⟩ := gd_u hm
      refine lv_idiv hx hb d_M_putNumber_25 (of_decide_eq_true hn29) ?_
      refine lv_bipush (v := 9) hx hb d_M_putNumber_26 (by decide) ?_
      refine lv_icmp_le (tgt := 39) hx hb d_M_putNumber_28 (by decide) (fun h30 => ?_) (fun h30 => ?_)
      · have hm := it_t hm h30
        exact hJ6 x24 (hR27 _ (Option.some.inj hm).symm).symm _ _ _ (lv_sub hl [0, 1, 2, 3] rfl) hst
      · have hm := it_f hm h30
        refine lv_iload_n hx hb d_M_putNumber_31 rfl (lv_at hl 3 rfl) ?_
        refine lv_bipush (v := 10) hx hb d_M_putNumber_32 (by decide) ?_
        refine lv_imul hx hb d_M_putNumber_34 ?_
        refine lv_topi (fun x31 ex31 => ?_)
        have hm := lt_u hm x31 ex31
        refine lv_istore_n (lv' := [(3, .int x31), (0, .ref h), (1, .int v1), (2, .int x3)]) hx hb d_M_putNumber_35 rfl hl (by decide) rfl (fun ls hl => ?_)
        refine lv_goto (tgt := 23) hx hb d_M_putNumber_36 (by decide) ?_
        exact hJ26 x31 (Option.some.inj hm).symm _ _ _ (lv_sub hl [1, 2, 3, 0] rfl) hst
    · have hm := it_f hm h5
      refine lv_aload_n hx hb d_M_putNumber_15 rfl (lv_at hl 1 rfl) ?_
      refine lv_bipush (v := 45) hx hb d_M_putNumber_16 (by decide) ?_
      obtain ⟨⟨g33, a34⟩, hc35, hm⟩ := bd_u hm
      dsimp only at hm
      refine cl_vv hx hb hml hown hG hg (cM_put l dC dI tk A h L g a rw n 45 _ _ hc35) (cw_v 1 hG k_1343 k_1345 s_60 k_14 k_1346 (by decide +kernel) ⟨by decide, by decide⟩) hst rfl oW_0 rfl hl.1 rfl (Nat.le_of_ble_eq_true rfl) ⟨Nat.le_refl 0, Nat.le_refl 0⟩ d_M_putNumber_18 (fun H locs hst => ?_)
      refine lv_iconst (v := 1) hx hb d_M_putNumber_21 (by decide) ?_
      refine lv_istore_n (lv' := [(3, .int 1), (2, .int x3), (0, .ref h), (1, .int v1)]) hx hb d_M_putNumber_22 rfl hl (by decide) rfl (fun ls hl => ?_)
      obtain ⟨qJ36, hm, hLJ36, hR37⟩ := jn_u hm
      have hJ36 : ∀ (x38 : Int32), qJ36 = .inl x38 → ∀ (H : Heap) (locs : List Loc) (ls : Array Slot), lv_has ls 5 [(0, .ref h), (1, .int v1), (2, .int x3), (3, .int x38)] → St dC dI A s.heap H locs (oW 0 h ksM spM tk L g33 a34 rw) → W p l e (rmo 1 21) s m args below meth c H locs 0 0 (MQ below (QV dC dI A (oW 0 h ksM spM tk L g0 a0 rw)) args s 0 0 A) (F0 m 39 ls []) := by
        intro x38 hq H locs ls hl hst
        have hm := hLJ36 _ hq
        refine lv_iload_n hx hb d_M_putNumber_39 rfl (lv_at hl 3 rfl) ?_
        refine lv_istore (lv' := [(4, .int x38), (0, .ref h), (1, .int v1), (2, .int x3), (3, .int x38)]) hx hb d_M_putNumber_40 hl (by decide) rfl (fun ls hl => ?_)
        refine lp_u (fun q43 : Int32 × aG × aA => ∀ (H : Heap) (locs : List Loc) (ls : Array Slot), lv_has ls 5 [(0, .ref h), (1, .int v1), (2, .int x3), (3, .int x38), (4, .int q43.1)] → St dC dI A s.heap H locs (oW 0 h ksM spM tk L q43.2.1 q43.2.2 rw) → W p l e (rmo 1 21) s m args below meth c H locs 0 0 (MQ below (QV dC dI A (oW 0 h ksM spM tk L g0 a0 rw)) args s 0 0 A) (F0 m 42 ls [])) ?_ n (x38, g33, a34) hm _ _ _ (lv_sub hl [1, 2, 3, 4, 0] rfl) hst
        rintro ⟨x40, g41, a42⟩ r46 hm hJ440 hR45 H locs ls hl hst
        dsimp only at hm hl hst ⊢
        have hJ44 := fun y0 y1 y2 (e : r46 = .inl (y0, y1, y2)) => hJ440 (y0, y1, y2) e
        dsimp only at hJ44
        refine lv_iload hx hb d_M_putNumber_42 (lv_at hl 4 rfl) ?_
        refine lv_if_le (tgt := 71) hx hb d_M_putNumber_44 (by decide) (fun h47 => ?_) (fun h47 => ?_)
        · have hm := it_t hm h47
          have he := (hR45 _ (Option.some.inj hm).symm)
          cases he
          exact rt_v hx hb hr hlk hst d_M_putNumber_71
        · have hm := it_f hm h47
          refine lv_aload_n hx hb d_M_putNumber_47 rfl (lv_at hl 0 rfl) ?_
          refine lv_bipush (v := 48) hx hb d_M_putNumber_48 (by decide) ?_
          refine lv_iload_n hx hb d_M_putNumber_50 rfl (lv_at hl 2 rfl) ?_
          refine lv_iload hx hb d_M_putNumber_51 (lv_at hl 4 rfl) ?_
          obtain ⟨hn48, hm⟩ := gd_u hm
          refine lv_idiv hx hb d_M_putNumber_53 (of_decide_eq_true hn48) ?_
          refine lv_bipush (v := 10) hx hb d_M_putNumber_54 (by decide) ?_
          refine lv_irem hx hb d_M_putNumber_56 (by decide) ?_
          refine lv_iadd hx hb d_M_putNumber_57 ?_
          obtain ⟨⟨g50, a51⟩, hc52, hm⟩ := bd_u hm
          dsimp only at hm
          refine cl_vv hx hb hml hown hG hg (cM_put l dC dI tk A h L g41 a42 rw n (48 + ((x3 / x40) - (x3 / x40) / 10 * 10)) _ _ hc52) (cw_v 1 hG k_1343 k_1345 s_60 k_14 k_1346 (by decide +kernel) ⟨by decide, by decide⟩) hst rfl oW_0 rfl hl.1 rfl (Nat.le_of_ble_eq_true rfl) ⟨Nat.le_refl 0, Nat.le_refl 0⟩ d_M_putNumber_58 (fun H locs hst => ?_)
          refine lv_iload hx hb d_M_putNumber_61 (lv_at hl 4 rfl) ?_
          refine lv_bipush (v := 10) hx hb d_M_putNumber_63 (by decide) ?_
          refine lv_idiv hx hb d_M_putNumber_65 (by decide) ?_
          refine lv_topi (fun x53 ex53 => ?_)
          have hm := lt_u hm x53 ex53
          refine lv_istore (lv' := [(4, .int x53), (0, .ref h), (1, .int v1), (2, .int x3), (3, .int x38)]) hx hb d_M_putNumber_66 hl (by decide) rfl (fun ls hl => ?_)
          refine lv_goto (tgt := 42) hx hb d_M_putNumber_68 (by decide) ?_
          exact hJ44 x53 g50 a51 (Option.some.inj hm).symm _ _ _ (lv_sub hl [1, 2, 3, 4, 0] rfl) hst
      refine lp_u (fun x54 : Int32 => ∀ (H : Heap) (locs : List Loc) (ls : Array Slot), lv_has ls 5 [(0, .ref h), (1, .int v1), (2, .int x3), (3, .int x54)] → St dC dI A s.heap H locs (oW 0 h ksM spM tk L g33 a34 rw) → W p l e (rmo 1 21) s m args below meth c H locs 0 0 (MQ below (QV dC dI A (oW 0 h ksM spM tk L g0 a0 rw)) args s 0 0 A) (F0 m 23 ls [])) ?_ n 1 hm _ _ _ (lv_sub hl [2, 3, 1, 0] rfl) hst
      rintro x54 r58 hm hJ560 hR57 H locs ls hl hst
      have hJ56 := fun y0 (e : r58 = .inl y0) => hJ560 y0 e
      refine lv_iload_n hx hb d_M_putNumber_23 rfl (lv_at hl 2 rfl) ?_
      refine lv_iload_n hx hb d_M_putNumber_24 rfl (lv_at hl 3 rfl) ?_
      obtain ⟨hn59, hm⟩ := gd_u hm
      refine lv_idiv hx hb d_M_putNumber_25 (of_decide_eq_true hn59) ?_
      refine lv_bipush (v := 9) hx hb d_M_putNumber_26 (by decide) ?_
      refine lv_icmp_le (tgt := 39) hx hb d_M_putNumber_28 (by decide) (fun h60 => ?_) (fun h60 => ?_)
      · have hm := it_t hm h60
        exact hJ36 x54 (hR57 _ (Option.some.inj hm).symm).symm _ _ _ (lv_sub hl [0, 1, 2, 3] rfl) hst
      · have hm := it_f hm h60
        refine lv_iload_n hx hb d_M_putNumber_31 rfl (lv_at hl 3 rfl) ?_
        refine lv_bipush (v := 10) hx hb d_M_putNumber_32 (by decide) ?_
        refine lv_imul hx hb d_M_putNumber_34 ?_
        refine lv_topi (fun x61 ex61 => ?_)
        have hm := lt_u hm x61 ex61
        refine lv_istore_n (lv' := [(3, .int x61), (0, .ref h), (1, .int v1), (2, .int x3)]) hx hb d_M_putNumber_35 rfl hl (by decide) rfl (fun ls hl => ?_)
        refine lv_goto (tgt := 23) hx hb d_M_putNumber_36 (by decide) ?_
        exact hJ56 x61 (Option.some.inj hm).symm _ _ _ (lv_sub hl [1, 2, 3, 0] rfl) hst
  refine lv_if_ge (tgt := 9) hx hb d_M_putNumber_1 (by decide) (fun h62 => ?_) (fun h62 => ?_)
  · have hm := it_t hm h62
    refine lv_iload_n hx hb d_M_putNumber_9 rfl (lv_at hl 1 rfl) ?_
    exact hJ1 v1 (Option.some.inj hm).symm _ _ _ (lv_sub hl [0, 1] rfl) hst
  · have hm := it_f hm h62
    refine lv_iload_n hx hb d_M_putNumber_4 rfl (lv_at hl 1 rfl) ?_
    refine lv_ineg hx hb d_M_putNumber_5 ?_
    refine lv_goto (tgt := 10) hx hb d_M_putNumber_6 (by decide) ?_
    exact hJ1 (-v1) (Option.some.inj hm).symm _ _ _ (lv_sub hl [0, 1] rfl) hst
def mM_six (n : Nat) (v1 : Int32) (v2 : Int32) (v3 : Int32) (v4 : Int32) (v5 : Int32) (v6 : Int32) (g : aG) (a : aA) : Option (aG × aA) := bd (mM_put n v1 g a) (fun q1 => bd (mM_put n v2 q1.1 q1.2) (fun q5 => bd (mM_put n v3 q5.1 q5.2) (fun q9 => bd (mM_put n v4 q9.1 q9.2) (fun q13 => bd (mM_put n v5 q13.1 q13.2) (fun q17 => if v6 ≤ 0 then (some ((q17.1, q17.2))) else (bd (mM_put n v6 q17.1 q17.2) (fun q22 => some ((q22.1, q22.2)))))))))
theorem d_M_six_0 : decode prog_11_method_49_code 0 = .ok (.aload_n 0, 1) := by decide +kernel
theorem d_M_six_1 : decode prog_11_method_49_code 1 = .ok (.iload_n 1, 1) := by decide +kernel
theorem d_M_six_2 : decode prog_11_method_49_code 2 = .ok (.invokevirtual 276, 3) := by decide +kernel
theorem d_M_six_5 : decode prog_11_method_49_code 5 = .ok (.aload_n 0, 1) := by decide +kernel
theorem d_M_six_6 : decode prog_11_method_49_code 6 = .ok (.iload_n 2, 1) := by decide +kernel
theorem d_M_six_7 : decode prog_11_method_49_code 7 = .ok (.invokevirtual 276, 3) := by decide +kernel
theorem d_M_six_10 : decode prog_11_method_49_code 10 = .ok (.aload_n 0, 1) := by decide +kernel
theorem d_M_six_11 : decode prog_11_method_49_code 11 = .ok (.iload_n 3, 1) := by decide +kernel
theorem d_M_six_12 : decode prog_11_method_49_code 12 = .ok (.invokevirtual 276, 3) := by decide +kernel
theorem d_M_six_15 : decode prog_11_method_49_code 15 = .ok (.aload_n 0, 1) := by decide +kernel
theorem d_M_six_16 : decode prog_11_method_49_code 16 = .ok (.iload 4, 2) := by decide +kernel
theorem d_M_six_18 : decode prog_11_method_49_code 18 = .ok (.invokevirtual 276, 3) := by decide +kernel
theorem d_M_six_21 : decode prog_11_method_49_code 21 = .ok (.aload_n 0, 1) := by decide +kernel
theorem d_M_six_22 : decode prog_11_method_49_code 22 = .ok (.iload 5, 2) := by decide +kernel
theorem d_M_six_24 : decode prog_11_method_49_code 24 = .ok (.invokevirtual 276, 3) := by decide +kernel
theorem d_M_six_27 : decode prog_11_method_49_code 27 = .ok (.iload 6, 2) := by decide +kernel
theorem d_M_six_29 : decode prog_11_method_49_code 29 = .ok (.ifCond .le 9, 3) := by decide +kernel
theorem d_M_six_32 : decode prog_11_method_49_code 32 = .ok (.aload_n 0, 1) := by decide +kernel
theorem d_M_six_33 : decode prog_11_method_49_code 33 = .ok (.iload 6, 2) := by decide +kernel
theorem d_M_six_35 : decode prog_11_method_49_code 35 = .ok (.invokevirtual 276, 3) := by decide +kernel
theorem d_M_six_38 : decode prog_11_method_49_code 38 = .ok (.return_, 1) := by decide +kernel
set_option maxHeartbeats 4000000 in
set_option maxRecDepth 100000 in
theorem cM_six (l : Launch) (dC : Nat → ClassId) (dI : Nat → Nat → Nat) (tk : Nat → ClassId) (A : Nat → Prop) (h : Nat) (L : Nat → Nat) (g : aG) (a : aA) (rw : va_W) (n : Nat) (v1 : Int32) (v2 : Int32) (v3 : Int32) (v4 : Int32) (v5 : Int32) (v6 : Int32) (g0 : aG) (a0 : aA) (hm : mM_six n v1 v2 v3 v4 v5 v6 g a = some (g0, a0)) : CtV l dC dI tk A ⟨"EditorServerModel", "six", "(IIIIII)V"⟩ prog_11_method_49_code 7 1 21 [.ref h, .int v1, .int v2, .int v3, .int v4, .int v5, .int v6] (oW 0 h ksM spM tk L g a rw) (oW 0 h ksM spM tk L g0 a0 rw) := by
  refine ent (by decide) (Nat.le_of_ble_eq_true rfl) ?_
  intro p e s m args below meth c hx hb hr hml hown hlk hG hg hst ls hl
  unfold mM_six at hm
  have hl : lv_has ls 7 [(0, .ref h), (1, .int v1), (2, .int v2), (3, .int v3), (4, .int v4), (5, .int v5), (6, .int v6)] := hl
  refine lv_aload_n hx hb d_M_six_0 rfl (lv_at hl 0 rfl) ?_
  refine lv_iload_n hx hb d_M_six_1 rfl (lv_at hl 1 rfl) ?_
  obtain ⟨⟨g2, a3⟩, hc4, hm⟩ := bd_u hm
  dsimp only at hm
  refine cl_vv hx hb hml hown hG hg (cM_put l dC dI tk A h L g a rw n v1 _ _ hc4) (cw_v 1 hG k_1343 k_1345 s_60 k_14 k_1346 (by decide +kernel) ⟨by decide, by decide⟩) hst rfl oW_0 rfl hl.1 rfl (Nat.le_of_ble_eq_true rfl) ⟨Nat.le_refl 0, Nat.le_refl 0⟩ d_M_six_2 (fun H locs hst => ?_)
  refine lv_aload_n hx hb d_M_six_5 rfl (lv_at hl 0 rfl) ?_
  refine lv_iload_n hx hb d_M_six_6 rfl (lv_at hl 2 rfl) ?_
  obtain ⟨⟨g6, a7⟩, hc8, hm⟩ := bd_u hm
  dsimp only at hm
  refine cl_vv hx hb hml hown hG hg (cM_put l dC dI tk A h L g2 a3 rw n v2 _ _ hc8) (cw_v 1 hG k_1343 k_1345 s_60 k_14 k_1346 (by decide +kernel) ⟨by decide, by decide⟩) hst rfl oW_0 rfl hl.1 rfl (Nat.le_of_ble_eq_true rfl) ⟨Nat.le_refl 0, Nat.le_refl 0⟩ d_M_six_7 (fun H locs hst => ?_)
  refine lv_aload_n hx hb d_M_six_10 rfl (lv_at hl 0 rfl) ?_
  refine lv_iload_n hx hb d_M_six_11 rfl (lv_at hl 3 rfl) ?_
  obtain ⟨⟨g10, a11⟩, hc12, hm⟩ := bd_u hm
  dsimp only at hm
  refine cl_vv hx hb hml hown hG hg (cM_put l dC dI tk A h L g6 a7 rw n v3 _ _ hc12) (cw_v 1 hG k_1343 k_1345 s_60 k_14 k_1346 (by decide +kernel) ⟨by decide, by decide⟩) hst rfl oW_0 rfl hl.1 rfl (Nat.le_of_ble_eq_true rfl) ⟨Nat.le_refl 0, Nat.le_refl 0⟩ d_M_six_12 (fun H locs hst => ?_)
  refine lv_aload_n hx hb d_M_six_15 rfl (lv_at hl 0 rfl) ?_
  refine lv_iload hx hb d_M_six_16 (lv_at hl 4 rfl) ?_
  obtain ⟨⟨g14, a15⟩, hc16, hm⟩ := bd_u hm
  dsimp only at hm
  refine cl_vv hx hb hml hown hG hg (cM_put l dC dI tk A h L g10 a11 rw n v4 _ _ hc16) (cw_v 1 hG k_1343 k_1345 s_60 k_14 k_1346 (by decide +kernel) ⟨by decide, by decide⟩) hst rfl oW_0 rfl hl.1 rfl (Nat.le_of_ble_eq_true rfl) ⟨Nat.le_refl 0, Nat.le_refl 0⟩ d_M_six_18 (fun H locs hst => ?_)
  refine lv_aload_n hx hb d_M_six_21 rfl (lv_at hl 0 rfl) ?_
  refine lv_iload hx hb d_M_six_22 (lv_at hl 5 rfl) ?_
  obtain ⟨⟨g18, a19⟩, hc20, hm⟩ := bd_u hm
  dsimp only at hm
  refine cl_vv hx hb hml hown hG hg (cM_put l dC dI tk A h L g14 a15 rw n v5 _ _ hc20) (cw_v 1 hG k_1343 k_1345 s_60 k_14 k_1346 (by decide +kernel) ⟨by decide, by decide⟩) hst rfl oW_0 rfl hl.1 rfl (Nat.le_of_ble_eq_true rfl) ⟨Nat.le_refl 0, Nat.le_refl 0⟩ d_M_six_24 (fun H locs hst => ?_)
  refine lv_iload hx hb d_M_six_27 (lv_at hl 6 rfl) ?_
  refine lv_if_le (tgt := 38) hx hb d_M_six_29 (by decide) (fun h21 => ?_) (fun h21 => ?_)
  · have hm := it_t hm h21
    have he := (Option.some.inj hm)
    cases he
    exact rt_v hx hb hr hlk hst d_M_six_38
  · have hm := it_f hm h21
    refine lv_aload_n hx hb d_M_six_32 rfl (lv_at hl 0 rfl) ?_
    refine lv_iload hx hb d_M_six_33 (lv_at hl 6 rfl) ?_
    obtain ⟨⟨g23, a24⟩, hc25, hm⟩ := bd_u hm
    dsimp only at hm
    refine cl_vv hx hb hml hown hG hg (cM_put l dC dI tk A h L g18 a19 rw n v6 _ _ hc25) (cw_v 1 hG k_1343 k_1345 s_60 k_14 k_1346 (by decide +kernel) ⟨by decide, by decide⟩) hst rfl oW_0 rfl hl.1 rfl (Nat.le_of_ble_eq_true rfl) ⟨Nat.le_refl 0, Nat.le_refl 0⟩ d_M_six_35 (fun H locs hst => ?_)
    have he := (Option.some.inj hm)
    cases he
    exact rt_v hx hb hr hlk hst d_M_six_38
def mM_write (n : Nat) (v1 : Int32) (g : aG) (a : aA) : Option (aG × aA) := lt (va_up g 44 0) (fun g1 => bd (mM_six n 123 34 105 100 34 58 g1 a) (fun q2 => gd (inb v1 60) (lt (q2.2 23 v1.toNatClampNeg) (fun x7 => jn (α := aG × aA) (if x7 = 0 then (bd (mM_six n 110 117 108 108 44 34 q2.1 q2.2) (fun q64 => some (.inl (q64.1, q64.2)))) else (gd (inb v1 60) (lt (q2.2 22 v1.toNatClampNeg) (fun x69 => bd (mM_putNumber n x69 q2.1 q2.2) (fun q70 => some (.inl (q70.1, q70.2))))))) (fun q12 => gd (inb v1 60) (lt (q12.2 23 v1.toNatClampNeg) (fun x14 => jn (α := aG × aA) (if x14 = 0 then (some (.inl (q12.1, q12.2))) else (bd (mM_put n 44 q12.1 q12.2) (fun q55 => bd (mM_put n 34 q55.1 q55.2) (fun q59 => some (.inl (q59.1, q59.2)))))) (fun q19 => gd (inb v1 60) (lt (q19.2 24 v1.toNatClampNeg) (fun x21 => jn (α := aG × aA) (if x21 = 0 then (bd (mM_six n 101 114 114 111 114 0 q19.1 q19.2) (fun q46 => some (.inl (q46.1, q46.2)))) else (bd (mM_six n 114 101 115 117 108 116 q19.1 q19.2) (fun q50 => some (.inl (q50.1, q50.2))))) (fun q26 => bd (mM_put n 34 q26.1 q26.2) (fun q27 => bd (mM_put n 58 q27.1 q27.2) (fun q31 => gd (inb v1 60) (lt (q31.2 25 v1.toNatClampNeg) (fun x36 => bd (mM_putNumber n x36 q31.1 q31.2) (fun q37 => bd (mM_put n 125 q37.1 q37.2) (fun q41 => some ((q41.1, q41.2)))))))))))))))))))
theorem d_M_write_0 : decode prog_11_method_50_code 0 = .ok (.aload_n 0, 1) := by decide +kernel
theorem d_M_write_1 : decode prog_11_method_50_code 1 = .ok (.iconst 0, 1) := by decide +kernel
theorem d_M_write_2 : decode prog_11_method_50_code 2 = .ok (.putfield 273, 3) := by decide +kernel
theorem d_M_write_5 : decode prog_11_method_50_code 5 = .ok (.aload_n 0, 1) := by decide +kernel
theorem d_M_write_6 : decode prog_11_method_50_code 6 = .ok (.bipush 123, 2) := by decide +kernel
theorem d_M_write_8 : decode prog_11_method_50_code 8 = .ok (.bipush 34, 2) := by decide +kernel
theorem d_M_write_10 : decode prog_11_method_50_code 10 = .ok (.bipush 105, 2) := by decide +kernel
theorem d_M_write_12 : decode prog_11_method_50_code 12 = .ok (.bipush 100, 2) := by decide +kernel
theorem d_M_write_14 : decode prog_11_method_50_code 14 = .ok (.bipush 34, 2) := by decide +kernel
theorem d_M_write_16 : decode prog_11_method_50_code 16 = .ok (.bipush 58, 2) := by decide +kernel
theorem d_M_write_18 : decode prog_11_method_50_code 18 = .ok (.invokevirtual 279, 3) := by decide +kernel
theorem d_M_write_21 : decode prog_11_method_50_code 21 = .ok (.aload_n 0, 1) := by decide +kernel
theorem d_M_write_22 : decode prog_11_method_50_code 22 = .ok (.getfield 79, 3) := by decide +kernel
theorem d_M_write_25 : decode prog_11_method_50_code 25 = .ok (.iload_n 1, 1) := by decide +kernel
theorem d_M_write_26 : decode prog_11_method_50_code 26 = .ok (.baload, 1) := by decide +kernel
theorem d_M_write_27 : decode prog_11_method_50_code 27 = .ok (.ifCond .eq 16, 3) := by decide +kernel
theorem d_M_write_30 : decode prog_11_method_50_code 30 = .ok (.aload_n 0, 1) := by decide +kernel
theorem d_M_write_31 : decode prog_11_method_50_code 31 = .ok (.aload_n 0, 1) := by decide +kernel
theorem d_M_write_32 : decode prog_11_method_50_code 32 = .ok (.getfield 76, 3) := by decide +kernel
theorem d_M_write_35 : decode prog_11_method_50_code 35 = .ok (.iload_n 1, 1) := by decide +kernel
theorem d_M_write_36 : decode prog_11_method_50_code 36 = .ok (.iaload, 1) := by decide +kernel
theorem d_M_write_37 : decode prog_11_method_50_code 37 = .ok (.invokevirtual 283, 3) := by decide +kernel
theorem d_M_write_40 : decode prog_11_method_50_code 40 = .ok (.goto 19, 3) := by decide +kernel
theorem d_M_write_43 : decode prog_11_method_50_code 43 = .ok (.aload_n 0, 1) := by decide +kernel
theorem d_M_write_44 : decode prog_11_method_50_code 44 = .ok (.bipush 110, 2) := by decide +kernel
theorem d_M_write_46 : decode prog_11_method_50_code 46 = .ok (.bipush 117, 2) := by decide +kernel
theorem d_M_write_48 : decode prog_11_method_50_code 48 = .ok (.bipush 108, 2) := by decide +kernel
theorem d_M_write_50 : decode prog_11_method_50_code 50 = .ok (.bipush 108, 2) := by decide +kernel
theorem d_M_write_52 : decode prog_11_method_50_code 52 = .ok (.bipush 44, 2) := by decide +kernel
theorem d_M_write_54 : decode prog_11_method_50_code 54 = .ok (.bipush 34, 2) := by decide +kernel
theorem d_M_write_56 : decode prog_11_method_50_code 56 = .ok (.invokevirtual 279, 3) := by decide +kernel
theorem d_M_write_59 : decode prog_11_method_50_code 59 = .ok (.aload_n 0, 1) := by decide +kernel
theorem d_M_write_60 : decode prog_11_method_50_code 60 = .ok (.getfield 79, 3) := by decide +kernel
theorem d_M_write_63 : decode prog_11_method_50_code 63 = .ok (.iload_n 1, 1) := by decide +kernel
theorem d_M_write_64 : decode prog_11_method_50_code 64 = .ok (.baload, 1) := by decide +kernel
theorem d_M_write_65 : decode prog_11_method_50_code 65 = .ok (.ifCond .eq 15, 3) := by decide +kernel
theorem d_M_write_68 : decode prog_11_method_50_code 68 = .ok (.aload_n 0, 1) := by decide +kernel
theorem d_M_write_69 : decode prog_11_method_50_code 69 = .ok (.bipush 44, 2) := by decide +kernel
theorem d_M_write_71 : decode prog_11_method_50_code 71 = .ok (.invokevirtual 276, 3) := by decide +kernel
theorem d_M_write_74 : decode prog_11_method_50_code 74 = .ok (.aload_n 0, 1) := by decide +kernel
theorem d_M_write_75 : decode prog_11_method_50_code 75 = .ok (.bipush 34, 2) := by decide +kernel
theorem d_M_write_77 : decode prog_11_method_50_code 77 = .ok (.invokevirtual 276, 3) := by decide +kernel
theorem d_M_write_80 : decode prog_11_method_50_code 80 = .ok (.aload_n 0, 1) := by decide +kernel
theorem d_M_write_81 : decode prog_11_method_50_code 81 = .ok (.getfield 83, 3) := by decide +kernel
theorem d_M_write_84 : decode prog_11_method_50_code 84 = .ok (.iload_n 1, 1) := by decide +kernel
theorem d_M_write_85 : decode prog_11_method_50_code 85 = .ok (.baload, 1) := by decide +kernel
theorem d_M_write_86 : decode prog_11_method_50_code 86 = .ok (.ifCond .eq 22, 3) := by decide +kernel
theorem d_M_write_89 : decode prog_11_method_50_code 89 = .ok (.aload_n 0, 1) := by decide +kernel
theorem d_M_write_90 : decode prog_11_method_50_code 90 = .ok (.bipush 114, 2) := by decide +kernel
theorem d_M_write_92 : decode prog_11_method_50_code 92 = .ok (.bipush 101, 2) := by decide +kernel
theorem d_M_write_94 : decode prog_11_method_50_code 94 = .ok (.bipush 115, 2) := by decide +kernel
theorem d_M_write_96 : decode prog_11_method_50_code 96 = .ok (.bipush 117, 2) := by decide +kernel
theorem d_M_write_98 : decode prog_11_method_50_code 98 = .ok (.bipush 108, 2) := by decide +kernel
theorem d_M_write_100 : decode prog_11_method_50_code 100 = .ok (.bipush 116, 2) := by decide +kernel
theorem d_M_write_102 : decode prog_11_method_50_code 102 = .ok (.invokevirtual 279, 3) := by decide +kernel
theorem d_M_write_105 : decode prog_11_method_50_code 105 = .ok (.goto 18, 3) := by decide +kernel
theorem d_M_write_108 : decode prog_11_method_50_code 108 = .ok (.aload_n 0, 1) := by decide +kernel
theorem d_M_write_109 : decode prog_11_method_50_code 109 = .ok (.bipush 101, 2) := by decide +kernel
theorem d_M_write_111 : decode prog_11_method_50_code 111 = .ok (.bipush 114, 2) := by decide +kernel
theorem d_M_write_113 : decode prog_11_method_50_code 113 = .ok (.bipush 114, 2) := by decide +kernel
theorem d_M_write_115 : decode prog_11_method_50_code 115 = .ok (.bipush 111, 2) := by decide +kernel
theorem d_M_write_117 : decode prog_11_method_50_code 117 = .ok (.bipush 114, 2) := by decide +kernel
theorem d_M_write_119 : decode prog_11_method_50_code 119 = .ok (.iconst 0, 1) := by decide +kernel
theorem d_M_write_120 : decode prog_11_method_50_code 120 = .ok (.invokevirtual 279, 3) := by decide +kernel
theorem d_M_write_123 : decode prog_11_method_50_code 123 = .ok (.aload_n 0, 1) := by decide +kernel
theorem d_M_write_124 : decode prog_11_method_50_code 124 = .ok (.bipush 34, 2) := by decide +kernel
theorem d_M_write_126 : decode prog_11_method_50_code 126 = .ok (.invokevirtual 276, 3) := by decide +kernel
theorem d_M_write_129 : decode prog_11_method_50_code 129 = .ok (.aload_n 0, 1) := by decide +kernel
theorem d_M_write_130 : decode prog_11_method_50_code 130 = .ok (.bipush 58, 2) := by decide +kernel
theorem d_M_write_132 : decode prog_11_method_50_code 132 = .ok (.invokevirtual 276, 3) := by decide +kernel
theorem d_M_write_135 : decode prog_11_method_50_code 135 = .ok (.aload_n 0, 1) := by decide +kernel
theorem d_M_write_136 : decode prog_11_method_50_code 136 = .ok (.aload_n 0, 1) := by decide +kernel
theorem d_M_write_137 : decode prog_11_method_50_code 137 = .ok (.getfield 86, 3) := by decide +kernel
theorem d_M_write_140 : decode prog_11_method_50_code 140 = .ok (.iload_n 1, 1) := by decide +kernel
theorem d_M_write_141 : decode prog_11_method_50_code 141 = .ok (.iaload, 1) := by decide +kernel
theorem d_M_write_142 : decode prog_11_method_50_code 142 = .ok (.invokevirtual 283, 3) := by decide +kernel
theorem d_M_write_145 : decode prog_11_method_50_code 145 = .ok (.aload_n 0, 1) := by decide +kernel
theorem d_M_write_146 : decode prog_11_method_50_code 146 = .ok (.bipush 125, 2) := by decide +kernel
theorem d_M_write_148 : decode prog_11_method_50_code 148 = .ok (.invokevirtual 276, 3) := by decide +kernel
theorem d_M_write_151 : decode prog_11_method_50_code 151 = .ok (.return_, 1) := by decide +kernel
set_option maxHeartbeats 4000000 in
set_option maxRecDepth 100000 in
theorem cM_write (l : Launch) (dC : Nat → ClassId) (dI : Nat → Nat → Nat) (tk : Nat → ClassId) (A : Nat → Prop) (h : Nat) (L : Nat → Nat) (g : aG) (a : aA) (rw : va_W) (n : Nat) (v1 : Int32) (g0 : aG) (a0 : aA) (hm : mM_write n v1 g a = some (g0, a0)) : CtV l dC dI tk A ⟨"EditorServerModel", "write", "(I)V"⟩ prog_11_method_50_code 2 2 47 [.ref h, .int v1] (oW 0 h ksM spM tk L g a rw) (oW 0 h ksM spM tk L g0 a0 rw) := by
  refine ent (by decide) (Nat.le_of_ble_eq_true rfl) ?_
  intro p e s m args below meth c hx hb hr hml hown hlk hG hg hst ls hl
  unfold mM_write at hm
  have hl : lv_has ls 2 [(0, .ref h), (1, .int v1)] := hl
  refine lv_aload_n hx hb d_M_write_0 rfl (lv_at hl 0 rfl) ?_
  refine lv_iconst (v := 0) hx hb d_M_write_1 (by decide) ?_
  refine ro_puti hx hb hown hG hg cM hst 44 (by decide) rfl rfl rfl rfl rfl k_1058 d_M_write_2 (fun g1 H locs eg1 hst => ?_)
  have hm := lt_u hm g1 eg1
  refine lv_aload_n hx hb d_M_write_5 rfl (lv_at hl 0 rfl) ?_
  refine lv_bipush (v := 123) hx hb d_M_write_6 (by decide) ?_
  refine lv_bipush (v := 34) hx hb d_M_write_8 (by decide) ?_
  refine lv_bipush (v := 105) hx hb d_M_write_10 (by decide) ?_
  refine lv_bipush (v := 100) hx hb d_M_write_12 (by decide) ?_
  refine lv_bipush (v := 34) hx hb d_M_write_14 (by decide) ?_
  refine lv_bipush (v := 58) hx hb d_M_write_16 (by decide) ?_
  obtain ⟨⟨g3, a4⟩, hc5, hm⟩ := bd_u hm
  dsimp only at hm
  refine cl_vv hx hb hml hown hG hg (cM_six l dC dI tk A h L g1 a rw n 123 34 105 100 34 58 _ _ hc5) (cw_v 6 hG k_1339 k_1341 s_59 k_14 k_1342 (by decide +kernel) ⟨by decide, by decide⟩) hst rfl oW_0 rfl hl.1 rfl (Nat.le_of_ble_eq_true rfl) ⟨Nat.le_refl 0, Nat.le_refl 0⟩ d_M_write_18 (fun H locs hst => ?_)
  refine lv_aload_n hx hb d_M_write_21 rfl (lv_at hl 0 rfl) ?_
  refine ro_geta hx hb hown hG hg cM hst 40 23 (by decide) rfl rfl k_1054 d_M_write_22 ?_
  refine lv_iload_n hx hb d_M_write_25 rfl (lv_at hl 1 rfl) ?_
  obtain ⟨hn6, hm⟩ := gd_u hm
  refine ro_zald hx hb hg hst 23 rfl hn6 d_M_write_26 ?_
  refine lv_topi (fun x7 ex7 => ?_)
  have hm := lt_u hm x7 ex7
  obtain ⟨qJ8, hm, hLJ8, hR9⟩ := jn_u hm
  have hJ8 : ∀ (g10 : aG) (a11 : aA), qJ8 = .inl (g10, a11) → ∀ (H : Heap) (locs : List Loc) (ls : Array Slot), lv_has ls 2 [(0, .ref h), (1, .int v1)] → St dC dI A s.heap H locs (oW 0 h ksM spM tk L g10 a11 rw) → W p l e (rmo 2 47) s m args below meth c H locs 0 0 (MQ below (QV dC dI A (oW 0 h ksM spM tk L g0 a0 rw)) args s 0 0 A) (F0 m 59 ls []) := by
    intro g10 a11 hq H locs ls hl hst
    have hm := hLJ8 _ hq
    dsimp only at hm
    refine lv_aload_n hx hb d_M_write_59 rfl (lv_at hl 0 rfl) ?_
    refine ro_geta hx hb hown hG hg cM hst 40 23 (by decide) rfl rfl k_1054 d_M_write_60 ?_
    refine lv_iload_n hx hb d_M_write_63 rfl (lv_at hl 1 rfl) ?_
    obtain ⟨hn13, hm⟩ := gd_u hm
    refine ro_zald hx hb hg hst 23 rfl hn13 d_M_write_64 ?_
    refine lv_topi (fun x14 ex14 => ?_)
    have hm := lt_u hm x14 ex14
    obtain ⟨qJ15, hm, hLJ15, hR16⟩ := jn_u hm
    have hJ15 : ∀ (g17 : aG) (a18 : aA), qJ15 = .inl (g17, a18) → ∀ (H : Heap) (locs : List Loc) (ls : Array Slot), lv_has ls 2 [(0, .ref h), (1, .int v1)] → St dC dI A s.heap H locs (oW 0 h ksM spM tk L g17 a18 rw) → W p l e (rmo 2 47) s m args below meth c H locs 0 0 (MQ below (QV dC dI A (oW 0 h ksM spM tk L g0 a0 rw)) args s 0 0 A) (F0 m 80 ls []) := by
      intro g17 a18 hq H locs ls hl hst
      have hm := hLJ15 _ hq
      dsimp only at hm
      refine lv_aload_n hx hb d_M_write_80 rfl (lv_at hl 0 rfl) ?_
      refine ro_geta hx hb hown hG hg cM hst 41 24 (by decide) rfl rfl k_1055 d_M_write_81 ?_
      refine lv_iload_n hx hb d_M_write_84 rfl (lv_at hl 1 rfl) ?_
      obtain ⟨hn20, hm⟩ := gd_u hm
      refine ro_zald hx hb hg hst 24 rfl hn20 d_M_write_85 ?_
      refine lv_topi (fun x21 ex21 => ?_)
      have hm := lt_u hm x21 ex21
      obtain ⟨qJ22, hm, hLJ22, hR23⟩ := jn_u hm
      have hJ22 : ∀ (g24 : aG) (a25 : aA), qJ22 = .inl (g24, a25) → ∀ (H : Heap) (locs : List Loc) (ls : Array Slot), lv_has ls 2 [(0, .ref h), (1, .int v1)] → St dC dI A s.heap H locs (oW 0 h ksM spM tk L g24 a25 rw) → W p l e (rmo 2 47) s m args below meth c H locs 0 0 (MQ below (QV dC dI A (oW 0 h ksM spM tk L g0 a0 rw)) args s 0 0 A) (F0 m 123 ls []) := by
        intro g24 a25 hq H locs ls hl hst
        have hm := hLJ22 _ hq
        dsimp only at hm
        refine lv_aload_n hx hb d_M_write_123 rfl (lv_at hl 0 rfl) ?_
        refine lv_bipush (v := 34) hx hb d_M_write_124 (by decide) ?_
        obtain ⟨⟨g28, a29⟩, hc30, hm⟩ := bd_u hm
        dsimp only at hm
        refine cl_vv hx hb hml hown hG hg (cM_put l dC dI tk A h L g24 a25 rw n 34 _ _ hc30) (cw_v 1 hG k_1343 k_1345 s_60 k_14 k_1346 (by decide +kernel) ⟨by decide, by decide⟩) hst rfl oW_0 rfl hl.1 rfl (Nat.le_of_ble_eq_true rfl) ⟨Nat.le_refl 0, Nat.le_refl 0⟩ d_M_write_126 (fun H locs hst => ?_)
        refine lv_aload_n hx hb d_M_write_129 rfl (lv_at hl 0 rfl) ?_
        refine lv_bipush (v := 58) hx hb d_M_write_130 (by decide) ?_
        obtain ⟨⟨g32, a33⟩, hc34, hm⟩ := bd_u hm
        dsimp only at hm
        refine cl_vv hx hb hml hown hG hg (cM_put l dC dI tk A h L g28 a29 rw n 58 _ _ hc34) (cw_v 1 hG k_1343 k_1345 s_60 k_14 k_1346 (by decide +kernel) ⟨by decide, by decide⟩) hst rfl oW_0 rfl hl.1 rfl (Nat.le_of_ble_eq_true rfl) ⟨Nat.le_refl 0, Nat.le_refl 0⟩ d_M_write_132 (fun H locs hst => ?_)
        refine lv_aload_n hx hb d_M_write_135 rfl (lv_at hl 0 rfl) ?_
        refine lv_aload_n hx hb d_M_write_136 rfl (lv_at hl 0 rfl) ?_
        refine ro_geta hx hb hown hG hg cM hst 42 25 (by decide) rfl rfl k_1056 d_M_write_137 ?_
        refine lv_iload_n hx hb d_M_write_140 rfl (lv_at hl 1 rfl) ?_
        obtain ⟨hn35, hm⟩ := gd_u hm
        refine ro_iald hx hb hg hst 25 rfl hn35 d_M_write_141 ?_
        refine lv_topi (fun x36 ex36 => ?_)
        have hm := lt_u hm x36 ex36
        obtain ⟨⟨g38, a39⟩, hc40, hm⟩ := bd_u hm
        dsimp only at hm
        refine cl_vv hx hb hml hown hG hg (cM_putNumber l dC dI tk A h L g32 a33 rw n x36 _ _ hc40) (cw_v 1 hG k_1347 k_1349 s_61 k_14 k_1350 (by decide +kernel) ⟨by decide, by decide⟩) hst rfl oW_0 rfl hl.1 rfl (Nat.le_of_ble_eq_true rfl) ⟨Nat.le_refl 0, Nat.le_refl 0⟩ d_M_write_142 (fun H locs hst => ?_)
        refine lv_aload_n hx hb d_M_write_145 rfl (lv_at hl 0 rfl) ?_
        refine lv_bipush (v := 125) hx hb d_M_write_146 (by decide) ?_
        obtain ⟨⟨g42, a43⟩, hc44, hm⟩ := bd_u hm
        dsimp only at hm
        refine cl_vv hx hb hml hown hG hg (cM_put l dC dI tk A h L g38 a39 rw n 125 _ _ hc44) (cw_v 1 hG k_1343 k_1345 s_60 k_14 k_1346 (by decide +kernel) ⟨by decide, by decide⟩) hst rfl oW_0 rfl hl.1 rfl (Nat.le_of_ble_eq_true rfl) ⟨Nat.le_refl 0, Nat.le_refl 0⟩ d_M_write_148 (fun H locs hst => ?_)
        have he := (Option.some.inj hm)
        cases he
        exact rt_v hx hb hr hlk hst d_M_write_151
      refine lv_if_eq (tgt := 108) hx hb d_M_write_86 (by decide) (fun h45 => ?_) (fun h45 => ?_)
      · have hm := it_t hm h45
        refine lv_aload_n hx hb d_M_write_108 rfl (lv_at hl 0 rfl) ?_
        refine lv_bipush (v := 101) hx hb d_M_write_109 (by decide) ?_
        refine lv_bipush (v := 114) hx hb d_M_write_111 (by decide) ?_
        refine lv_bipush (v := 114) hx hb d_M_write_113 (by decide) ?_
        refine lv_bipush (v := 111) hx hb d_M_write_115 (by decide) ?_
        refine lv_bipush (v := 114) hx hb d_M_write_117 (by decide) ?_
        refine lv_iconst (v := 0) hx hb d_M_write_119 (by decide) ?_
        obtain ⟨⟨g47, a48⟩, hc49, hm⟩ := bd_u hm
        dsimp only at hm
        refine cl_vv hx hb hml hown hG hg (cM_six l dC dI tk A h L g17 a18 rw n 101 114 114 111 114 0 _ _ hc49) (cw_v 6 hG k_1339 k_1341 s_59 k_14 k_1342 (by decide +kernel) ⟨by decide, by decide⟩) hst rfl oW_0 rfl hl.1 rfl (Nat.le_of_ble_eq_true rfl) ⟨Nat.le_refl 0, Nat.le_refl 0⟩ d_M_write_120 (fun H locs hst => ?_)
        exact hJ22 g47 a48 (Option.some.inj hm).symm _ _ _ (lv_sub hl [0, 1] rfl) hst
      · have hm := it_f hm h45
        refine lv_aload_n hx hb d_M_write_89 rfl (lv_at hl 0 rfl) ?_
        refine lv_bipush (v := 114) hx hb d_M_write_90 (by decide) ?_
        refine lv_bipush (v := 101) hx hb d_M_write_92 (by decide) ?_
        refine lv_bipush (v := 115) hx hb d_M_write_94 (by decide) ?_
        refine lv_bipush (v := 117) hx hb d_M_write_96 (by decide) ?_
        refine lv_bipush (v := 108) hx hb d_M_write_98 (by decide) ?_
        refine lv_bipush (v := 116) hx hb d_M_write_100 (by decide) ?_
        obtain ⟨⟨g51, a52⟩, hc53, hm⟩ := bd_u hm
        dsimp only at hm
        refine cl_vv hx hb hml hown hG hg (cM_six l dC dI tk A h L g17 a18 rw n 114 101 115 117 108 116 _ _ hc53) (cw_v 6 hG k_1339 k_1341 s_59 k_14 k_1342 (by decide +kernel) ⟨by decide, by decide⟩) hst rfl oW_0 rfl hl.1 rfl (Nat.le_of_ble_eq_true rfl) ⟨Nat.le_refl 0, Nat.le_refl 0⟩ d_M_write_102 (fun H locs hst => ?_)
        refine lv_goto (tgt := 123) hx hb d_M_write_105 (by decide) ?_
        exact hJ22 g51 a52 (Option.some.inj hm).symm _ _ _ (lv_sub hl [0, 1] rfl) hst
    refine lv_if_eq (tgt := 80) hx hb d_M_write_65 (by decide) (fun h54 => ?_) (fun h54 => ?_)
    · have hm := it_t hm h54
      exact hJ15 g10 a11 (Option.some.inj hm).symm _ _ _ (lv_sub hl [0, 1] rfl) hst
    · have hm := it_f hm h54
      refine lv_aload_n hx hb d_M_write_68 rfl (lv_at hl 0 rfl) ?_
      refine lv_bipush (v := 44) hx hb d_M_write_69 (by decide) ?_
      obtain ⟨⟨g56, a57⟩, hc58, hm⟩ := bd_u hm
      dsimp only at hm
      refine cl_vv hx hb hml hown hG hg (cM_put l dC dI tk A h L g10 a11 rw n 44 _ _ hc58) (cw_v 1 hG k_1343 k_1345 s_60 k_14 k_1346 (by decide +kernel) ⟨by decide, by decide⟩) hst rfl oW_0 rfl hl.1 rfl (Nat.le_of_ble_eq_true rfl) ⟨Nat.le_refl 0, Nat.le_refl 0⟩ d_M_write_71 (fun H locs hst => ?_)
      refine lv_aload_n hx hb d_M_write_74 rfl (lv_at hl 0 rfl) ?_
      refine lv_bipush (v := 34) hx hb d_M_write_75 (by decide) ?_
      obtain ⟨⟨g60, a61⟩, hc62, hm⟩ := bd_u hm
      dsimp only at hm
      refine cl_vv hx hb hml hown hG hg (cM_put l dC dI tk A h L g56 a57 rw n 34 _ _ hc62) (cw_v 1 hG k_1343 k_1345 s_60 k_14 k_1346 (by decide +kernel) ⟨by decide, by decide⟩) hst rfl oW_0 rfl hl.1 rfl (Nat.le_of_ble_eq_true rfl) ⟨Nat.le_refl 0, Nat.le_refl 0⟩ d_M_write_77 (fun H locs hst => ?_)
      exact hJ15 g60 a61 (Option.some.inj hm).symm _ _ _ (lv_sub hl [0, 1] rfl) hst
  refine lv_if_eq (tgt := 43) hx hb d_M_write_27 (by decide) (fun h63 => ?_) (fun h63 => ?_)
  · have hm := it_t hm h63
    refine lv_aload_n hx hb d_M_write_43 rfl (lv_at hl 0 rfl) ?_
    refine lv_bipush (v := 110) hx hb d_M_write_44 (by decide) ?_
    refine lv_bipush (v := 117) hx hb d_M_write_46 (by decide) ?_
    refine lv_bipush (v := 108) hx hb d_M_write_48 (by decide) ?_
    refine lv_bipush (v := 108) hx hb d_M_write_50 (by decide) ?_
    refine lv_bipush (v := 44) hx hb d_M_write_52 (by decide) ?_
    refine lv_bipush (v := 34) hx hb d_M_write_54 (by decide) ?_
    obtain ⟨⟨g65, a66⟩, hc67, hm⟩ := bd_u hm
    dsimp only at hm
    refine cl_vv hx hb hml hown hG hg (cM_six l dC dI tk A h L g3 a4 rw n 110 117 108 108 44 34 _ _ hc67) (cw_v 6 hG k_1339 k_1341 s_59 k_14 k_1342 (by decide +kernel) ⟨by decide, by decide⟩) hst rfl oW_0 rfl hl.1 rfl (Nat.le_of_ble_eq_true rfl) ⟨Nat.le_refl 0, Nat.le_refl 0⟩ d_M_write_56 (fun H locs hst => ?_)
    exact hJ8 g65 a66 (Option.some.inj hm).symm _ _ _ (lv_sub hl [0, 1] rfl) hst
  · have hm := it_f hm h63
    refine lv_aload_n hx hb d_M_write_30 rfl (lv_at hl 0 rfl) ?_
    refine lv_aload_n hx hb d_M_write_31 rfl (lv_at hl 0 rfl) ?_
    refine ro_geta hx hb hown hG hg cM hst 39 22 (by decide) rfl rfl k_1053 d_M_write_32 ?_
    refine lv_iload_n hx hb d_M_write_35 rfl (lv_at hl 1 rfl) ?_
    obtain ⟨hn68, hm⟩ := gd_u hm
    refine ro_iald hx hb hg hst 22 rfl hn68 d_M_write_36 ?_
    refine lv_topi (fun x69 ex69 => ?_)
    have hm := lt_u hm x69 ex69
    obtain ⟨⟨g71, a72⟩, hc73, hm⟩ := bd_u hm
    dsimp only at hm
    refine cl_vv hx hb hml hown hG hg (cM_putNumber l dC dI tk A h L g3 a4 rw n x69 _ _ hc73) (cw_v 1 hG k_1347 k_1349 s_61 k_14 k_1350 (by decide +kernel) ⟨by decide, by decide⟩) hst rfl oW_0 rfl hl.1 rfl (Nat.le_of_ble_eq_true rfl) ⟨Nat.le_refl 0, Nat.le_refl 0⟩ d_M_write_37 (fun H locs hst => ?_)
    refine lv_goto (tgt := 59) hx hb d_M_write_40 (by decide) ?_
    exact hJ8 g71 a72 (Option.some.inj hm).symm _ _ _ (lv_sub hl [0, 1] rfl) hst
def mM_written (n : Nat) (v1 : Int32) (v2 : Int32) (g : aG) (a : aA) : Option (Int32 × aG × aA) := lt (va_up g 45 0) (fun g1 => jn (α := aG × aA) (if v1 < 0 then (some (.inl (g1, a))) else (if v1 < (g1 38) then (bd (mM_write n v1 g1 a) (fun q14 => if v2 < 0 then (some (.inr ((0, q14.1, q14.2)))) else (if v2 < ((q14.1 44) + 3) then (if v2 = 0 then (gd (okc (((48 + ((q14.1 44) / 10)).toUInt32 % 65536).toInt32)) (some (.inr ((((48 + ((q14.1 44) / 10)).toUInt32 % 65536).toInt32, q14.1, q14.2))))) else (if v2 = 1 then (gd (okc (((48 + ((q14.1 44) - (q14.1 44) / 10 * 10)).toUInt32 % 65536).toInt32)) (some (.inr ((((48 + ((q14.1 44) - (q14.1 44) / 10 * 10)).toUInt32 % 65536).toInt32, q14.1, q14.2))))) else (if v2 = 2 then (gd (okc (((58 : Int32).toUInt32 % 65536).toInt32)) (some (.inr ((((58 : Int32).toUInt32 % 65536).toInt32, q14.1, q14.2))))) else (gd (inb (v2 - 3) 64) (lt (q14.2 26 (v2 - 3).toNatClampNeg) (fun x24 => gd (okc ((x24.toUInt32 % 65536).toInt32)) (some (.inr (((x24.toUInt32 % 65536).toInt32, q14.1, q14.2)))))))))) else (some (.inr ((0, q14.1, q14.2))))))) else (some (.inl (g1, a))))) (fun q6 => bd (mM_fail n 1 q6.1 q6.2) (fun q7 => gd (okc ((q7.1.toUInt32 % 65536).toInt32)) (some (((q7.1.toUInt32 % 65536).toInt32, q7.2, q6.2))))))
theorem d_M_written_0 : decode prog_11_method_51_code 0 = .ok (.aload_n 0, 1) := by decide +kernel
theorem d_M_written_1 : decode prog_11_method_51_code 1 = .ok (.iconst 0, 1) := by decide +kernel
theorem d_M_written_2 : decode prog_11_method_51_code 2 = .ok (.putfield 92, 3) := by decide +kernel
theorem d_M_written_5 : decode prog_11_method_51_code 5 = .ok (.iload_n 1, 1) := by decide +kernel
theorem d_M_written_6 : decode prog_11_method_51_code 6 = .ok (.ifCond .lt 11, 3) := by decide +kernel
theorem d_M_written_9 : decode prog_11_method_51_code 9 = .ok (.iload_n 1, 1) := by decide +kernel
theorem d_M_written_10 : decode prog_11_method_51_code 10 = .ok (.aload_n 0, 1) := by decide +kernel
theorem d_M_written_11 : decode prog_11_method_51_code 11 = .ok (.getfield 174, 3) := by decide +kernel
theorem d_M_written_14 : decode prog_11_method_51_code 14 = .ok (.if_icmp .lt 10, 3) := by decide +kernel
theorem d_M_written_17 : decode prog_11_method_51_code 17 = .ok (.aload_n 0, 1) := by decide +kernel
theorem d_M_written_18 : decode prog_11_method_51_code 18 = .ok (.iconst 1, 1) := by decide +kernel
theorem d_M_written_19 : decode prog_11_method_51_code 19 = .ok (.invokevirtual 270, 3) := by decide +kernel
theorem d_M_written_22 : decode prog_11_method_51_code 22 = .ok (.i2c, 1) := by decide +kernel
theorem d_M_written_23 : decode prog_11_method_51_code 23 = .ok (.ireturn, 1) := by decide +kernel
theorem d_M_written_24 : decode prog_11_method_51_code 24 = .ok (.aload_n 0, 1) := by decide +kernel
theorem d_M_written_25 : decode prog_11_method_51_code 25 = .ok (.iload_n 1, 1) := by decide +kernel
theorem d_M_written_26 : decode prog_11_method_51_code 26 = .ok (.invokevirtual 286, 3) := by decide +kernel
theorem d_M_written_29 : decode prog_11_method_51_code 29 = .ok (.iload_n 2, 1) := by decide +kernel
theorem d_M_written_30 : decode prog_11_method_51_code 30 = .ok (.ifCond .lt 13, 3) := by decide +kernel
theorem d_M_written_33 : decode prog_11_method_51_code 33 = .ok (.iload_n 2, 1) := by decide +kernel
theorem d_M_written_34 : decode prog_11_method_51_code 34 = .ok (.aload_n 0, 1) := by decide +kernel
theorem d_M_written_35 : decode prog_11_method_51_code 35 = .ok (.getfield 273, 3) := by decide +kernel
theorem d_M_written_38 : decode prog_11_method_51_code 38 = .ok (.iconst 3, 1) := by decide +kernel
theorem d_M_written_39 : decode prog_11_method_51_code 39 = .ok (.iadd, 1) := by decide +kernel
theorem d_M_written_40 : decode prog_11_method_51_code 40 = .ok (.if_icmp .lt 5, 3) := by decide +kernel
theorem d_M_written_43 : decode prog_11_method_51_code 43 = .ok (.iconst 0, 1) := by decide +kernel
theorem d_M_written_44 : decode prog_11_method_51_code 44 = .ok (.ireturn, 1) := by decide +kernel
theorem d_M_written_45 : decode prog_11_method_51_code 45 = .ok (.iload_n 2, 1) := by decide +kernel
theorem d_M_written_46 : decode prog_11_method_51_code 46 = .ok (.ifCond .ne 16, 3) := by decide +kernel
theorem d_M_written_49 : decode prog_11_method_51_code 49 = .ok (.bipush 48, 2) := by decide +kernel
theorem d_M_written_51 : decode prog_11_method_51_code 51 = .ok (.aload_n 0, 1) := by decide +kernel
theorem d_M_written_52 : decode prog_11_method_51_code 52 = .ok (.getfield 273, 3) := by decide +kernel
theorem d_M_written_55 : decode prog_11_method_51_code 55 = .ok (.bipush 10, 2) := by decide +kernel
theorem d_M_written_57 : decode prog_11_method_51_code 57 = .ok (.idiv, 1) := by decide +kernel
theorem d_M_written_58 : decode prog_11_method_51_code 58 = .ok (.iadd, 1) := by decide +kernel
theorem d_M_written_59 : decode prog_11_method_51_code 59 = .ok (.goto 39, 3) := by decide +kernel
theorem d_M_written_62 : decode prog_11_method_51_code 62 = .ok (.iload_n 2, 1) := by decide +kernel
theorem d_M_written_63 : decode prog_11_method_51_code 63 = .ok (.iconst 1, 1) := by decide +kernel
theorem d_M_written_64 : decode prog_11_method_51_code 64 = .ok (.if_icmp .ne 16, 3) := by decide +kernel
theorem d_M_written_67 : decode prog_11_method_51_code 67 = .ok (.bipush 48, 2) := by decide +kernel
theorem d_M_written_69 : decode prog_11_method_51_code 69 = .ok (.aload_n 0, 1) := by decide +kernel
theorem d_M_written_70 : decode prog_11_method_51_code 70 = .ok (.getfield 273, 3) := by decide +kernel
theorem d_M_written_73 : decode prog_11_method_51_code 73 = .ok (.bipush 10, 2) := by decide +kernel
theorem d_M_written_75 : decode prog_11_method_51_code 75 = .ok (.irem, 1) := by decide +kernel
theorem d_M_written_76 : decode prog_11_method_51_code 76 = .ok (.iadd, 1) := by decide +kernel
theorem d_M_written_77 : decode prog_11_method_51_code 77 = .ok (.goto 21, 3) := by decide +kernel
theorem d_M_written_80 : decode prog_11_method_51_code 80 = .ok (.iload_n 2, 1) := by decide +kernel
theorem d_M_written_81 : decode prog_11_method_51_code 81 = .ok (.iconst 2, 1) := by decide +kernel
theorem d_M_written_82 : decode prog_11_method_51_code 82 = .ok (.if_icmp .ne 8, 3) := by decide +kernel
theorem d_M_written_85 : decode prog_11_method_51_code 85 = .ok (.bipush 58, 2) := by decide +kernel
theorem d_M_written_87 : decode prog_11_method_51_code 87 = .ok (.goto 11, 3) := by decide +kernel
theorem d_M_written_90 : decode prog_11_method_51_code 90 = .ok (.aload_n 0, 1) := by decide +kernel
theorem d_M_written_91 : decode prog_11_method_51_code 91 = .ok (.getfield 89, 3) := by decide +kernel
theorem d_M_written_94 : decode prog_11_method_51_code 94 = .ok (.iload_n 2, 1) := by decide +kernel
theorem d_M_written_95 : decode prog_11_method_51_code 95 = .ok (.iconst 3, 1) := by decide +kernel
theorem d_M_written_96 : decode prog_11_method_51_code 96 = .ok (.isub, 1) := by decide +kernel
theorem d_M_written_97 : decode prog_11_method_51_code 97 = .ok (.iaload, 1) := by decide +kernel
theorem d_M_written_98 : decode prog_11_method_51_code 98 = .ok (.i2c, 1) := by decide +kernel
theorem d_M_written_99 : decode prog_11_method_51_code 99 = .ok (.ireturn, 1) := by decide +kernel
set_option maxHeartbeats 4000000 in
set_option maxRecDepth 100000 in
theorem cM_written (l : Launch) (dC : Nat → ClassId) (dI : Nat → Nat → Nat) (tk : Nat → ClassId) (A : Nat → Prop) (h : Nat) (L : Nat → Nat) (g : aG) (a : aA) (rw : va_W) (n : Nat) (v1 : Int32) (v2 : Int32) (r0 : Int32) (g0 : aG) (a0 : aA) (hm : mM_written n v1 v2 g a = some (r0, g0, a0)) : CtI l dC dI tk A ⟨"EditorServerModel", "written", "(II)C"⟩ prog_11_method_51_code 3 (some .char) 3 68 [.ref h, .int v1, .int v2] (oW 0 h ksM spM tk L g a rw) r0 (oW 0 h ksM spM tk L g0 a0 rw) := by
  refine ent (by decide) (Nat.le_of_ble_eq_true rfl) ?_
  intro p e s m args below meth c hx hb hr hml hown hlk hG hg hst ls hl
  unfold mM_written at hm
  have hl : lv_has ls 3 [(0, .ref h), (1, .int v1), (2, .int v2)] := hl
  refine lv_aload_n hx hb d_M_written_0 rfl (lv_at hl 0 rfl) ?_
  refine lv_iconst (v := 0) hx hb d_M_written_1 (by decide) ?_
  refine ro_puti hx hb hown hG hg cM hst 45 (by decide) rfl rfl rfl rfl rfl k_1059 d_M_written_2 (fun g1 H locs eg1 hst => ?_)
  have hm := lt_u hm g1 eg1
  refine lv_iload_n hx hb d_M_written_5 rfl (lv_at hl 1 rfl) ?_
  obtain ⟨qJ2, hm, hLJ2, hR3⟩ := jn_u hm
  have hJ2 : ∀ (g4 : aG) (a5 : aA), qJ2 = .inl (g4, a5) → ∀ (H : Heap) (locs : List Loc) (ls : Array Slot), lv_has ls 3 [(0, .ref h), (1, .int v1), (2, .int v2)] → St dC dI A s.heap H locs (oW 0 h ksM spM tk L g4 a5 rw) → W p l e (rmo 3 68) s m args below meth c H locs 0 0 (MQ below (QI dC dI A r0 (oW 0 h ksM spM tk L g0 a0 rw)) args s 0 0 A) (F0 m 17 ls []) := by
    intro g4 a5 hq H locs ls hl hst
    have hm := hLJ2 _ hq
    dsimp only at hm
    refine lv_aload_n hx hb d_M_written_17 rfl (lv_at hl 0 rfl) ?_
    refine lv_iconst (v := 1) hx hb d_M_written_18 (by decide) ?_
    obtain ⟨⟨x8, g9⟩, hc10, hm⟩ := bd_u hm
    dsimp only at hm
    refine cl_vi hx hb hml hown hG hg (cM_fail l dC dI tk A h L g4 a5 rw n 1 _ _ hc10) (cw_v 1 hG k_1307 k_1309 s_57 k_14 k_1310 (by decide +kernel) ⟨by decide, by decide⟩) hst rfl oW_0 rfl hl.1 rfl (Nat.le_of_ble_eq_true rfl) ⟨Nat.le_refl 0, Nat.le_refl 0⟩ d_M_written_19 (fun H locs hst => ?_)
    refine lv_i2c hx hb d_M_written_22 rfl ?_
    obtain ⟨hn11, hm⟩ := gd_u hm
    have he := (Option.some.inj hm)
    cases he
    exact rt_i hx hb hr hlk (okc_n hn11).1 hst rfl d_M_written_23
  refine lv_if_lt (tgt := 17) hx hb d_M_written_6 (by decide) (fun h12 => ?_) (fun h12 => ?_)
  · have hm := it_t hm h12
    exact hJ2 g1 a (Option.some.inj hm).symm _ _ _ (lv_sub hl [0, 1, 2] rfl) hst
  · have hm := it_f hm h12
    refine lv_iload_n hx hb d_M_written_9 rfl (lv_at hl 1 rfl) ?_
    refine lv_aload_n hx hb d_M_written_10 rfl (lv_at hl 0 rfl) ?_
    refine ro_geti hx hb hown hG hg cM hst 38 (by decide) rfl rfl k_1052 d_M_written_11 ?_
    refine lv_icmp_lt (tgt := 24) hx hb d_M_written_14 (by decide) (fun h13 => ?_) (fun h13 => ?_)
    · have hm := it_t hm h13
      refine lv_aload_n hx hb d_M_written_24 rfl (lv_at hl 0 rfl) ?_
      refine lv_iload_n hx hb d_M_written_25 rfl (lv_at hl 1 rfl) ?_
      obtain ⟨⟨g15, a16⟩, hc17, hm⟩ := bd_u hm
      dsimp only at hm
      refine cl_vv hx hb hml hown hG hg (cM_write l dC dI tk A h L g1 a rw n v1 _ _ hc17) (cw_v 1 hG k_1335 k_1337 s_58 k_14 k_1338 (by decide +kernel) ⟨by decide, by decide⟩) hst rfl oW_0 rfl hl.1 rfl (Nat.le_of_ble_eq_true rfl) ⟨Nat.le_refl 0, Nat.le_refl 0⟩ d_M_written_26 (fun H locs hst => ?_)
      refine lv_iload_n hx hb d_M_written_29 rfl (lv_at hl 2 rfl) ?_
      refine lv_if_lt (tgt := 43) hx hb d_M_written_30 (by decide) (fun h18 => ?_) (fun h18 => ?_)
      · have hm := it_t hm h18
        refine lv_iconst (v := 0) hx hb d_M_written_43 (by decide) ?_
        have he := (hR3 _ (Option.some.inj hm).symm)
        cases he
        exact rt_i hx hb hr hlk (by decide) hst rfl d_M_written_44
      · have hm := it_f hm h18
        refine lv_iload_n hx hb d_M_written_33 rfl (lv_at hl 2 rfl) ?_
        refine lv_aload_n hx hb d_M_written_34 rfl (lv_at hl 0 rfl) ?_
        refine ro_geti hx hb hown hG hg cM hst 44 (by decide) rfl rfl k_1058 d_M_written_35 ?_
        refine lv_iconst (v := 3) hx hb d_M_written_38 (by decide) ?_
        refine lv_iadd hx hb d_M_written_39 ?_
        refine lv_icmp_lt (tgt := 45) hx hb d_M_written_40 (by decide) (fun h19 => ?_) (fun h19 => ?_)
        · have hm := it_t hm h19
          refine lv_iload_n hx hb d_M_written_45 rfl (lv_at hl 2 rfl) ?_
          refine lv_if_ne (tgt := 62) hx hb d_M_written_46 (by decide) (fun h20 => ?_) (fun h20 => ?_)
          · have hm := it_f hm h20
            refine lv_iload_n hx hb d_M_written_62 rfl (lv_at hl 2 rfl) ?_
            refine lv_iconst (v := 1) hx hb d_M_written_63 (by decide) ?_
            refine lv_icmp_ne (tgt := 80) hx hb d_M_written_64 (by decide) (fun h21 => ?_) (fun h21 => ?_)
            · have hm := it_f hm h21
              refine lv_iload_n hx hb d_M_written_80 rfl (lv_at hl 2 rfl) ?_
              refine lv_iconst (v := 2) hx hb d_M_written_81 (by decide) ?_
              refine lv_icmp_ne (tgt := 90) hx hb d_M_written_82 (by decide) (fun h22 => ?_) (fun h22 => ?_)
              · have hm := it_f hm h22
                refine lv_aload_n hx hb d_M_written_90 rfl (lv_at hl 0 rfl) ?_
                refine ro_geta hx hb hown hG hg cM hst 43 26 (by decide) rfl rfl k_1057 d_M_written_91 ?_
                refine lv_iload_n hx hb d_M_written_94 rfl (lv_at hl 2 rfl) ?_
                refine lv_iconst (v := 3) hx hb d_M_written_95 (by decide) ?_
                refine lv_isub hx hb d_M_written_96 ?_
                obtain ⟨hn23, hm⟩ := gd_u hm
                refine ro_iald hx hb hg hst 26 rfl hn23 d_M_written_97 ?_
                refine lv_topi (fun x24 ex24 => ?_)
                have hm := lt_u hm x24 ex24
                refine lv_i2c hx hb d_M_written_98 rfl ?_
                obtain ⟨hn25, hm⟩ := gd_u hm
                have he := (hR3 _ (Option.some.inj hm).symm)
                cases he
                exact rt_i hx hb hr hlk (okc_n hn25).1 hst rfl d_M_written_99
              · have hm := it_t hm h22
                refine lv_bipush (v := 58) hx hb d_M_written_85 (by decide) ?_
                refine lv_goto (tgt := 98) hx hb d_M_written_87 (by decide) ?_
                refine lv_i2c hx hb d_M_written_98 rfl ?_
                obtain ⟨hn26, hm⟩ := gd_u hm
                have he := (hR3 _ (Option.some.inj hm).symm)
                cases he
                exact rt_i hx hb hr hlk (okc_n hn26).1 hst rfl d_M_written_99
            · have hm := it_t hm h21
              refine lv_bipush (v := 48) hx hb d_M_written_67 (by decide) ?_
              refine lv_aload_n hx hb d_M_written_69 rfl (lv_at hl 0 rfl) ?_
              refine ro_geti hx hb hown hG hg cM hst 44 (by decide) rfl rfl k_1058 d_M_written_70 ?_
              refine lv_bipush (v := 10) hx hb d_M_written_73 (by decide) ?_
              refine lv_irem hx hb d_M_written_75 (by decide) ?_
              refine lv_iadd hx hb d_M_written_76 ?_
              refine lv_goto (tgt := 98) hx hb d_M_written_77 (by decide) ?_
              refine lv_i2c hx hb d_M_written_98 rfl ?_
              obtain ⟨hn27, hm⟩ := gd_u hm
              have he := (hR3 _ (Option.some.inj hm).symm)
              cases he
              exact rt_i hx hb hr hlk (okc_n hn27).1 hst rfl d_M_written_99
          · have hm := it_t hm h20
            refine lv_bipush (v := 48) hx hb d_M_written_49 (by decide) ?_
            refine lv_aload_n hx hb d_M_written_51 rfl (lv_at hl 0 rfl) ?_
            refine ro_geti hx hb hown hG hg cM hst 44 (by decide) rfl rfl k_1058 d_M_written_52 ?_
            refine lv_bipush (v := 10) hx hb d_M_written_55 (by decide) ?_
            refine lv_idiv hx hb d_M_written_57 (by decide) ?_
            refine lv_iadd hx hb d_M_written_58 ?_
            refine lv_goto (tgt := 98) hx hb d_M_written_59 (by decide) ?_
            refine lv_i2c hx hb d_M_written_98 rfl ?_
            obtain ⟨hn28, hm⟩ := gd_u hm
            have he := (hR3 _ (Option.some.inj hm).symm)
            cases he
            exact rt_i hx hb hr hlk (okc_n hn28).1 hst rfl d_M_written_99
        · have hm := it_f hm h19
          refine lv_iconst (v := 0) hx hb d_M_written_43 (by decide) ?_
          have he := (hR3 _ (Option.some.inj hm).symm)
          cases he
          exact rt_i hx hb hr hlk (by decide) hst rfl d_M_written_44
    · have hm := it_f hm h13
      exact hJ2 g1 a (Option.some.inj hm).symm _ _ _ (lv_sub hl [0, 1, 2] rfl) hst
